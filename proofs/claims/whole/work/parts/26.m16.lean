-- X12_works
theorem ml_X12_528 : Cond.methodLink RX12 528 yX12_execute ∈ q_G := q_tb (i := 2340) (by decide +kernel) (by decide +kernel)
theorem mt_X12_execute : q_Mt yX12_execute cX12_execute 14 none 2 := ⟨List.mem_filter.mpr ⟨List.mem_append_right _ (List.mem_append_right _ (List.mem_append_right _ (List.mem_append_right _ (List.mem_append_right _ (List.mem_append_right _ (List.mem_append_right _ (List.mem_append_right _ (List.mem_append_right _ (List.mem_append_right _ (List.mem_append_left _ (List.mem_of_getElem? (i := 183) rfl))))))))))), by decide +kernel⟩, q_tb (i := 11) (by decide +kernel) (by decide +kernel), by decide +kernel, by decide +kernel, by decide +kernel⟩
theorem mi_X12_execute : Cond.instanceMethod yX12_execute ∈ q_G ∧ Cond.selects yX12_execute.cls yX12_execute yX12_execute ∈ q_G := ⟨q_tb (i := 2342) (by decide +kernel) (by decide +kernel), q_tp (i := 141) (q := (yX12_execute, 114)) (by decide +kernel) (by decide +kernel)⟩
theorem ml_X12_525 : Cond.methodLink RX12 525 yX12_nextOf ∈ q_G := q_tb (i := 2336) (by decide +kernel) (by decide +kernel)
theorem mt_X12_nextOf : q_Mt yX12_nextOf cX12_nextOf 4 (some .int) 1 := ⟨q_tb (i := 2339) (by decide +kernel) (by decide +kernel), q_tb (i := 11) (by decide +kernel) (by decide +kernel), by decide +kernel, by decide +kernel, by decide +kernel⟩
theorem mi_X12_nextOf : Cond.instanceMethod yX12_nextOf ∈ q_G ∧ Cond.selects yX12_nextOf.cls yX12_nextOf yX12_nextOf ∈ q_G := ⟨q_tb (i := 2338) (by decide +kernel) (by decide +kernel), q_tp (i := 140) (q := (yX12_nextOf, 114)) (by decide +kernel) (by decide +kernel)⟩
theorem dX12_works_0 : decode cX12_works 0 = .ok (.iconst 1, 1) := by decide +kernel
theorem dX12_works_1 : decode cX12_works 1 = .ok (.istore_n 2, 1) := by decide +kernel
theorem dX12_works_2 : decode cX12_works 2 = .ok (.iload_n 2, 1) := by decide +kernel
theorem dX12_works_3 : decode cX12_works 3 = .ok (.ifCond .eq 140, 3) := by decide +kernel
theorem dX12_works_6 : decode cX12_works 6 = .ok (.iconst (-1), 1) := by decide +kernel
theorem dX12_works_7 : decode cX12_works 7 = .ok (.istore_n 3, 1) := by decide +kernel
theorem dX12_works_8 : decode cX12_works 8 = .ok (.bipush 16, 2) := by decide +kernel
theorem dX12_works_10 : decode cX12_works 10 = .ok (.iload_n 1, 1) := by decide +kernel
theorem dX12_works_11 : decode cX12_works 11 = .ok (.imul, 1) := by decide +kernel
theorem dX12_works_12 : decode cX12_works 12 = .ok (.istore 4, 2) := by decide +kernel
theorem dX12_works_14 : decode cX12_works 14 = .ok (.iload 4, 2) := by decide +kernel
theorem dX12_works_16 : decode cX12_works 16 = .ok (.aload_n 0, 1) := by decide +kernel
theorem dX12_works_17 : decode cX12_works 17 = .ok (.iload_n 1, 1) := by decide +kernel
theorem dX12_works_18 : decode cX12_works 18 = .ok (.invokevirtual 499, 3) := by decide +kernel
theorem dX12_works_21 : decode cX12_works 21 = .ok (.if_icmp .ge 81, 3) := by decide +kernel
theorem dX12_works_24 : decode cX12_works 24 = .ok (.aload_n 0, 1) := by decide +kernel
theorem dX12_works_25 : decode cX12_works 25 = .ok (.getfield 149, 3) := by decide +kernel
theorem dX12_works_28 : decode cX12_works 28 = .ok (.iload 4, 2) := by decide +kernel
theorem dX12_works_30 : decode cX12_works 30 = .ok (.iaload, 1) := by decide +kernel
theorem dX12_works_31 : decode cX12_works 31 = .ok (.iconst 2, 1) := by decide +kernel
theorem dX12_works_32 : decode cX12_works 32 = .ok (.if_icmp .ne 32, 3) := by decide +kernel
theorem dX12_works_35 : decode cX12_works 35 = .ok (.aload_n 0, 1) := by decide +kernel
theorem dX12_works_36 : decode cX12_works 36 = .ok (.getfield 164, 3) := by decide +kernel
theorem dX12_works_39 : decode cX12_works 39 = .ok (.iload 4, 2) := by decide +kernel
theorem dX12_works_41 : decode cX12_works 41 = .ok (.iaload, 1) := by decide +kernel
theorem dX12_works_42 : decode cX12_works 42 = .ok (.iconst (-1), 1) := by decide +kernel
theorem dX12_works_43 : decode cX12_works 43 = .ok (.if_icmp .eq 21, 3) := by decide +kernel
theorem dX12_works_46 : decode cX12_works 46 = .ok (.aload_n 0, 1) := by decide +kernel
theorem dX12_works_47 : decode cX12_works 47 = .ok (.getfield 164, 3) := by decide +kernel
theorem dX12_works_50 : decode cX12_works 50 = .ok (.iload 4, 2) := by decide +kernel
theorem dX12_works_52 : decode cX12_works 52 = .ok (.iaload, 1) := by decide +kernel
theorem dX12_works_53 : decode cX12_works 53 = .ok (.aload_n 0, 1) := by decide +kernel
theorem dX12_works_54 : decode cX12_works 54 = .ok (.getfield 453, 3) := by decide +kernel
theorem dX12_works_57 : decode cX12_works 57 = .ok (.if_icmp .gt 7, 3) := by decide +kernel
theorem dX12_works_60 : decode cX12_works 60 = .ok (.iconst 1, 1) := by decide +kernel
theorem dX12_works_61 : decode cX12_works 61 = .ok (.goto 4, 3) := by decide +kernel
theorem dX12_works_64 : decode cX12_works 64 = .ok (.iconst 0, 1) := by decide +kernel
theorem dX12_works_65 : decode cX12_works 65 = .ok (.istore 5, 2) := by decide +kernel
theorem dX12_works_67 : decode cX12_works 67 = .ok (.iload 5, 2) := by decide +kernel
theorem dX12_works_69 : decode cX12_works 69 = .ok (.ifCond .eq 27, 3) := by decide +kernel
theorem dX12_works_72 : decode cX12_works 72 = .ok (.iload_n 3, 1) := by decide +kernel
theorem dX12_works_73 : decode cX12_works 73 = .ok (.iconst (-1), 1) := by decide +kernel
theorem dX12_works_74 : decode cX12_works 74 = .ok (.if_icmp .eq 19, 3) := by decide +kernel
theorem dX12_works_77 : decode cX12_works 77 = .ok (.aload_n 0, 1) := by decide +kernel
theorem dX12_works_78 : decode cX12_works 78 = .ok (.getfield 164, 3) := by decide +kernel
theorem dX12_works_81 : decode cX12_works 81 = .ok (.iload 4, 2) := by decide +kernel
theorem dX12_works_83 : decode cX12_works 83 = .ok (.iaload, 1) := by decide +kernel
theorem dX12_works_84 : decode cX12_works 84 = .ok (.aload_n 0, 1) := by decide +kernel
theorem dX12_works_85 : decode cX12_works 85 = .ok (.getfield 164, 3) := by decide +kernel
theorem dX12_works_88 : decode cX12_works 88 = .ok (.iload_n 3, 1) := by decide +kernel
theorem dX12_works_89 : decode cX12_works 89 = .ok (.iaload, 1) := by decide +kernel
theorem dX12_works_90 : decode cX12_works 90 = .ok (.if_icmp .ge 6, 3) := by decide +kernel
theorem dX12_works_93 : decode cX12_works 93 = .ok (.iload 4, 2) := by decide +kernel
theorem dX12_works_95 : decode cX12_works 95 = .ok (.istore_n 3, 1) := by decide +kernel
theorem dX12_works_96 : decode cX12_works 96 = .ok (.iinc 4 1, 3) := by decide +kernel
theorem dX12_works_99 : decode cX12_works 99 = .ok (.goto (-85), 3) := by decide +kernel
theorem dX12_works_102 : decode cX12_works 102 = .ok (.iload_n 3, 1) := by decide +kernel
theorem dX12_works_103 : decode cX12_works 103 = .ok (.iconst (-1), 1) := by decide +kernel
theorem dX12_works_104 : decode cX12_works 104 = .ok (.if_icmp .eq 7, 3) := by decide +kernel
theorem dX12_works_107 : decode cX12_works 107 = .ok (.iconst 1, 1) := by decide +kernel
theorem dX12_works_108 : decode cX12_works 108 = .ok (.goto 4, 3) := by decide +kernel
theorem dX12_works_111 : decode cX12_works 111 = .ok (.iconst 0, 1) := by decide +kernel
theorem dX12_works_112 : decode cX12_works 112 = .ok (.istore_n 2, 1) := by decide +kernel
theorem dX12_works_113 : decode cX12_works 113 = .ok (.iload_n 2, 1) := by decide +kernel
theorem dX12_works_114 : decode cX12_works 114 = .ok (.ifCond .ne 6, 3) := by decide +kernel
theorem dX12_works_117 : decode cX12_works 117 = .ok (.goto (-115), 3) := by decide +kernel
theorem dX12_works_120 : decode cX12_works 120 = .ok (.aload_n 0, 1) := by decide +kernel
theorem dX12_works_121 : decode cX12_works 121 = .ok (.getfield 182, 3) := by decide +kernel
theorem dX12_works_124 : decode cX12_works 124 = .ok (.iload_n 3, 1) := by decide +kernel
theorem dX12_works_125 : decode cX12_works 125 = .ok (.iaload, 1) := by decide +kernel
theorem dX12_works_126 : decode cX12_works 126 = .ok (.ifCond .le 9, 3) := by decide +kernel
theorem dX12_works_129 : decode cX12_works 129 = .ok (.aload_n 0, 1) := by decide +kernel
theorem dX12_works_130 : decode cX12_works 130 = .ok (.iload_n 3, 1) := by decide +kernel
theorem dX12_works_131 : decode cX12_works 131 = .ok (.iconst 4, 1) := by decide +kernel
theorem dX12_works_132 : decode cX12_works 132 = .ok (.invokevirtual 506, 3) := by decide +kernel
theorem dX12_works_135 : decode cX12_works 135 = .ok (.aload_n 0, 1) := by decide +kernel
theorem dX12_works_136 : decode cX12_works 136 = .ok (.iload_n 3, 1) := by decide +kernel
theorem dX12_works_137 : decode cX12_works 137 = .ok (.invokevirtual 484, 3) := by decide +kernel
theorem dX12_works_140 : decode cX12_works 140 = .ok (.goto (-138), 3) := by decide +kernel
theorem dX12_works_143 : decode cX12_works 143 = .ok (.bipush 16, 2) := by decide +kernel
theorem dX12_works_145 : decode cX12_works 145 = .ok (.iload_n 1, 1) := by decide +kernel
theorem dX12_works_146 : decode cX12_works 146 = .ok (.imul, 1) := by decide +kernel
theorem dX12_works_147 : decode cX12_works 147 = .ok (.istore_n 3, 1) := by decide +kernel
theorem dX12_works_148 : decode cX12_works 148 = .ok (.iload_n 3, 1) := by decide +kernel
theorem dX12_works_149 : decode cX12_works 149 = .ok (.aload_n 0, 1) := by decide +kernel
theorem dX12_works_150 : decode cX12_works 150 = .ok (.iload_n 1, 1) := by decide +kernel
theorem dX12_works_151 : decode cX12_works 151 = .ok (.invokevirtual 499, 3) := by decide +kernel
theorem dX12_works_154 : decode cX12_works 154 = .ok (.if_icmp .ge 60, 3) := by decide +kernel
theorem dX12_works_157 : decode cX12_works 157 = .ok (.aload_n 0, 1) := by decide +kernel
theorem dX12_works_158 : decode cX12_works 158 = .ok (.getfield 509, 3) := by decide +kernel
theorem dX12_works_161 : decode cX12_works 161 = .ok (.ifCond .ne 53, 3) := by decide +kernel
theorem dX12_works_164 : decode cX12_works 164 = .ok (.aload_n 0, 1) := by decide +kernel
theorem dX12_works_165 : decode cX12_works 165 = .ok (.getfield 158, 3) := by decide +kernel
theorem dX12_works_168 : decode cX12_works 168 = .ok (.iload_n 3, 1) := by decide +kernel
theorem dX12_works_169 : decode cX12_works 169 = .ok (.baload, 1) := by decide +kernel
theorem dX12_works_170 : decode cX12_works 170 = .ok (.ifCond .eq 38, 3) := by decide +kernel
theorem dX12_works_173 : decode cX12_works 173 = .ok (.aload_n 0, 1) := by decide +kernel
theorem dX12_works_174 : decode cX12_works 174 = .ok (.getfield 161, 3) := by decide +kernel
theorem dX12_works_177 : decode cX12_works 177 = .ok (.iload_n 3, 1) := by decide +kernel
theorem dX12_works_178 : decode cX12_works 178 = .ok (.iaload, 1) := by decide +kernel
theorem dX12_works_179 : decode cX12_works 179 = .ok (.aload_n 0, 1) := by decide +kernel
theorem dX12_works_180 : decode cX12_works 180 = .ok (.getfield 453, 3) := by decide +kernel
theorem dX12_works_183 : decode cX12_works 183 = .ok (.if_icmp .lt 6, 3) := by decide +kernel
theorem dX12_works_186 : decode cX12_works 186 = .ok (.goto 22, 3) := by decide +kernel
theorem dX12_works_189 : decode cX12_works 189 = .ok (.aload_n 0, 1) := by decide +kernel
theorem dX12_works_190 : decode cX12_works 190 = .ok (.getfield 158, 3) := by decide +kernel
theorem dX12_works_193 : decode cX12_works 193 = .ok (.iload_n 3, 1) := by decide +kernel
theorem dX12_works_194 : decode cX12_works 194 = .ok (.iconst 0, 1) := by decide +kernel
theorem dX12_works_195 : decode cX12_works 195 = .ok (.bastore, 1) := by decide +kernel
theorem dX12_works_196 : decode cX12_works 196 = .ok (.aload_n 0, 1) := by decide +kernel
theorem dX12_works_197 : decode cX12_works 197 = .ok (.iload_n 3, 1) := by decide +kernel
theorem dX12_works_198 : decode cX12_works 198 = .ok (.iconst 2, 1) := by decide +kernel
theorem dX12_works_199 : decode cX12_works 199 = .ok (.aload_n 0, 1) := by decide +kernel
theorem dX12_works_200 : decode cX12_works 200 = .ok (.getfield 161, 3) := by decide +kernel
theorem dX12_works_203 : decode cX12_works 203 = .ok (.iload_n 3, 1) := by decide +kernel
theorem dX12_works_204 : decode cX12_works 204 = .ok (.iaload, 1) := by decide +kernel
theorem dX12_works_205 : decode cX12_works 205 = .ok (.invokevirtual 521, 3) := by decide +kernel
theorem dX12_works_208 : decode cX12_works 208 = .ok (.iinc 3 1, 3) := by decide +kernel
theorem dX12_works_211 : decode cX12_works 211 = .ok (.goto (-63), 3) := by decide +kernel
theorem dX12_works_214 : decode cX12_works 214 = .ok (.aload_n 0, 1) := by decide +kernel
theorem dX12_works_215 : decode cX12_works 215 = .ok (.getfield 509, 3) := by decide +kernel
theorem dX12_works_218 : decode cX12_works 218 = .ok (.ifCond .eq 7, 3) := by decide +kernel
theorem dX12_works_221 : decode cX12_works 221 = .ok (.iconst (-1), 1) := by decide +kernel
theorem dX12_works_222 : decode cX12_works 222 = .ok (.goto 8, 3) := by decide +kernel
theorem dX12_works_225 : decode cX12_works 225 = .ok (.aload_n 0, 1) := by decide +kernel
theorem dX12_works_226 : decode cX12_works 226 = .ok (.iload_n 1, 1) := by decide +kernel
theorem dX12_works_227 : decode cX12_works 227 = .ok (.invokevirtual 525, 3) := by decide +kernel
theorem dX12_works_230 : decode cX12_works 230 = .ok (.istore_n 3, 1) := by decide +kernel
theorem dX12_works_231 : decode cX12_works 231 = .ok (.iload_n 3, 1) := by decide +kernel
theorem dX12_works_232 : decode cX12_works 232 = .ok (.iconst (-1), 1) := by decide +kernel
theorem dX12_works_233 : decode cX12_works 233 = .ok (.if_icmp .ne 4, 3) := by decide +kernel
theorem dX12_works_236 : decode cX12_works 236 = .ok (.return_, 1) := by decide +kernel
theorem dX12_works_237 : decode cX12_works 237 = .ok (.aload_n 0, 1) := by decide +kernel
theorem dX12_works_238 : decode cX12_works 238 = .ok (.dup, 1) := by decide +kernel
theorem dX12_works_239 : decode cX12_works 239 = .ok (.getfield 465, 3) := by decide +kernel
theorem dX12_works_242 : decode cX12_works 242 = .ok (.iconst 1, 1) := by decide +kernel
theorem dX12_works_243 : decode cX12_works 243 = .ok (.iadd, 1) := by decide +kernel
theorem dX12_works_244 : decode cX12_works 244 = .ok (.putfield 465, 3) := by decide +kernel
theorem dX12_works_247 : decode cX12_works 247 = .ok (.aload_n 0, 1) := by decide +kernel
theorem dX12_works_248 : decode cX12_works 248 = .ok (.getfield 170, 3) := by decide +kernel
theorem dX12_works_251 : decode cX12_works 251 = .ok (.iload_n 3, 1) := by decide +kernel
theorem dX12_works_252 : decode cX12_works 252 = .ok (.dup2, 1) := by decide +kernel
theorem dX12_works_253 : decode cX12_works 253 = .ok (.iaload, 1) := by decide +kernel
theorem dX12_works_254 : decode cX12_works 254 = .ok (.iconst 1, 1) := by decide +kernel
theorem dX12_works_255 : decode cX12_works 255 = .ok (.iadd, 1) := by decide +kernel
theorem dX12_works_256 : decode cX12_works 256 = .ok (.iastore, 1) := by decide +kernel
theorem dX12_works_257 : decode cX12_works 257 = .ok (.aload_n 0, 1) := by decide +kernel
theorem dX12_works_258 : decode cX12_works 258 = .ok (.getfield 221, 3) := by decide +kernel
theorem dX12_works_261 : decode cX12_works 261 = .ok (.iload_n 1, 1) := by decide +kernel
theorem dX12_works_262 : decode cX12_works 262 = .ok (.dup2, 1) := by decide +kernel
theorem dX12_works_263 : decode cX12_works 263 = .ok (.iaload, 1) := by decide +kernel
theorem dX12_works_264 : decode cX12_works 264 = .ok (.iconst 1, 1) := by decide +kernel
theorem dX12_works_265 : decode cX12_works 265 = .ok (.iadd, 1) := by decide +kernel
theorem dX12_works_266 : decode cX12_works 266 = .ok (.iastore, 1) := by decide +kernel
theorem dX12_works_267 : decode cX12_works 267 = .ok (.aload_n 0, 1) := by decide +kernel
theorem dX12_works_268 : decode cX12_works 268 = .ok (.iload_n 1, 1) := by decide +kernel
theorem dX12_works_269 : decode cX12_works 269 = .ok (.iload_n 3, 1) := by decide +kernel
theorem dX12_works_270 : decode cX12_works 270 = .ok (.invokevirtual 528, 3) := by decide +kernel
theorem dX12_works_273 : decode cX12_works 273 = .ok (.return_, 1) := by decide +kernel
def wb_X12_works_96 (B2 : q_S → Nat → Int32 → Int32 → Prop) (B14 : q_S → Nat → Int32 → Int32 → Int32 → Prop) (S : q_S) (a0 : Nat) (x1 : Int32) (x3 : Int32) (x4 : Int32) (Q : Option Value → q_S → Prop) : Prop := B14 S a0 x1 x3 (x4 + 1)
set_option maxHeartbeats 4000000 in
set_option maxRecDepth 100000 in
theorem cb_X12_works_96 {p : Program} {l : Launch} {e : Env} {s : State} {m : MethodId} {args : Array Value} {below : List Frame} {meth : Method} {c : Code} {D : va_G} {cy : Nat → ClassId} {lo : Nat} {B2 : q_S → Nat → Int32 → Int32 → Prop} {B14 : q_S → Nat → Int32 → Int32 → Int32 → Prop} {S : q_S} {a0 : Nat} {x1 : Int32} {x3 : Int32} {x4 : Int32} {Q : Option Value → q_S → Prop} {H : Heap} {locs : List Loc} {ls : Array Slot} (X : q_X p s m args meth c RX12 cX12_works 6 none D cy lo) (hB2 : ∀ (S : q_S) (a0 : Nat) (x1 : Int32) (x2 : Int32) (H : Heap) (locs : List Loc) (ls : Array Slot), B2 S a0 x1 x2 → q_Y D cy lo s S H locs → lv_has ls 6 [(0, .ref a0), (1, .int x1), (2, .int x2)] → W p l e ({ frames := 7, cells := 0, slots := 0, locals := 185 } : Room) s m args below meth c H locs 0 0 (MQ below (q_Q D cy lo Q) args s 0 0 (fun q => lo ≤ q)) (F0 m 2 ls [])) (hB14 : ∀ (S : q_S) (a0 : Nat) (x1 : Int32) (x3 : Int32) (x4 : Int32) (H : Heap) (locs : List Loc) (ls : Array Slot), B14 S a0 x1 x3 x4 → q_Y D cy lo s S H locs → lv_has ls 6 [(0, .ref a0), (1, .int x1), (3, .int x3), (4, .int x4)] → W p l e ({ frames := 7, cells := 0, slots := 0, locals := 185 } : Room) s m args below meth c H locs 0 0 (MQ below (q_Q D cy lo Q) args s 0 0 (fun q => lo ≤ q)) (F0 m 14 ls [])) (Y : q_Y D cy lo s S H locs) (hl : lv_has ls 6 [(0, .ref a0), (1, .int x1), (3, .int x3), (4, .int x4)]) (h : wb_X12_works_96 B2 B14 S a0 x1 x3 x4 Q) : W p l e ({ frames := 7, cells := 0, slots := 0, locals := 185 } : Room) s m args below meth c H locs 0 0 (MQ below (q_Q D cy lo Q) args s 0 0 (fun q => lo ≤ q)) (F0 m 96 ls []) := by
  have hx := X.1
  have hb := X.2.1
  unfold wb_X12_works_96 at h
  refine lv_iinc (v := (x4 + 1)) (lv' := [(4, .int (x4 + 1)), (0, .ref a0), (1, .int x1), (3, .int x3)]) hx hb dX12_works_96 hl (k := 3) rfl (by first | rfl | decide) (by decide) (by first | rfl | simp [q_cat, q_catI, q_catJ, q_catR]) (fun ls hl => ?_)
  refine lv_goto (tgt := 14) hx hb dX12_works_99 (by decide) ?_
  exact hB14 _ _ _ _ _ _ _ _ h Y (lv_sub hl [1, 2, 3, 0] rfl)
def wb_X12_works_93 (B2 : q_S → Nat → Int32 → Int32 → Prop) (B14 : q_S → Nat → Int32 → Int32 → Int32 → Prop) (S : q_S) (a0 : Nat) (x1 : Int32) (x4 : Int32) (Q : Option Value → q_S → Prop) : Prop := wb_X12_works_96 B2 B14 S a0 x1 x4 x4 Q
set_option maxHeartbeats 4000000 in
set_option maxRecDepth 100000 in
theorem cb_X12_works_93 {p : Program} {l : Launch} {e : Env} {s : State} {m : MethodId} {args : Array Value} {below : List Frame} {meth : Method} {c : Code} {D : va_G} {cy : Nat → ClassId} {lo : Nat} {B2 : q_S → Nat → Int32 → Int32 → Prop} {B14 : q_S → Nat → Int32 → Int32 → Int32 → Prop} {S : q_S} {a0 : Nat} {x1 : Int32} {x4 : Int32} {Q : Option Value → q_S → Prop} {H : Heap} {locs : List Loc} {ls : Array Slot} (X : q_X p s m args meth c RX12 cX12_works 6 none D cy lo) (hB2 : ∀ (S : q_S) (a0 : Nat) (x1 : Int32) (x2 : Int32) (H : Heap) (locs : List Loc) (ls : Array Slot), B2 S a0 x1 x2 → q_Y D cy lo s S H locs → lv_has ls 6 [(0, .ref a0), (1, .int x1), (2, .int x2)] → W p l e ({ frames := 7, cells := 0, slots := 0, locals := 185 } : Room) s m args below meth c H locs 0 0 (MQ below (q_Q D cy lo Q) args s 0 0 (fun q => lo ≤ q)) (F0 m 2 ls [])) (hB14 : ∀ (S : q_S) (a0 : Nat) (x1 : Int32) (x3 : Int32) (x4 : Int32) (H : Heap) (locs : List Loc) (ls : Array Slot), B14 S a0 x1 x3 x4 → q_Y D cy lo s S H locs → lv_has ls 6 [(0, .ref a0), (1, .int x1), (3, .int x3), (4, .int x4)] → W p l e ({ frames := 7, cells := 0, slots := 0, locals := 185 } : Room) s m args below meth c H locs 0 0 (MQ below (q_Q D cy lo Q) args s 0 0 (fun q => lo ≤ q)) (F0 m 14 ls [])) (Y : q_Y D cy lo s S H locs) (hl : lv_has ls 6 [(0, .ref a0), (1, .int x1), (4, .int x4)]) (h : wb_X12_works_93 B2 B14 S a0 x1 x4 Q) : W p l e ({ frames := 7, cells := 0, slots := 0, locals := 185 } : Room) s m args below meth c H locs 0 0 (MQ below (q_Q D cy lo Q) args s 0 0 (fun q => lo ≤ q)) (F0 m 93 ls []) := by
  have hx := X.1
  have hb := X.2.1
  unfold wb_X12_works_93 at h
  refine lv_iload hx hb dX12_works_93 (lv_at hl 2 rfl) ?_
  refine lv_istore_n (i := 3) (lv' := [(3, .int x4), (0, .ref a0), (1, .int x1), (4, .int x4)]) hx hb dX12_works_95 rfl hl (by decide) (by first | rfl | simp [q_cat, q_catI, q_catJ, q_catR]) (fun ls hl => ?_)
  exact cb_X12_works_96 X hB2 hB14 Y (lv_sub hl [1, 2, 0, 3] rfl) h
def wb_X12_works_65 (B2 : q_S → Nat → Int32 → Int32 → Prop) (B14 : q_S → Nat → Int32 → Int32 → Int32 → Prop) (S : q_S) (a0 : Nat) (x1 : Int32) (x3 : Int32) (x4 : Int32) (xs0 : Int32) (Q : Option Value → q_S → Prop) : Prop := ((xs0 = 0 → (wb_X12_works_96 B2 B14 S a0 x1 x3 x4 Q)) ∧ (¬ xs0 = 0 → (((x3 = (-1 : Int32) → (wb_X12_works_93 B2 B14 S a0 x1 x4 Q)) ∧ (¬ x3 = (-1 : Int32) → (q_K S a0 = 13 ∧ (∃ a4_ : Nat, (q_P S 2472 a0) = some a4_ ∧ (q_K S a4_ = 21 ∧ (vp_in x4 (q_N S a4_) ∧ (vp_in x3 (q_N S a4_) ∧ ((((q_A S a4_ x3.toNatClampNeg) ≤ (q_A S a4_ x4.toNatClampNeg) → (wb_X12_works_96 B2 B14 S a0 x1 x3 x4 Q)) ∧ (¬ (q_A S a4_ x3.toNatClampNeg) ≤ (q_A S a4_ x4.toNatClampNeg) → (wb_X12_works_93 B2 B14 S a0 x1 x4 Q))))))))))))))
set_option maxHeartbeats 4000000 in
set_option maxRecDepth 100000 in
theorem cb_X12_works_65 {p : Program} {l : Launch} {e : Env} {s : State} {m : MethodId} {args : Array Value} {below : List Frame} {meth : Method} {c : Code} {D : va_G} {cy : Nat → ClassId} {lo : Nat} {B2 : q_S → Nat → Int32 → Int32 → Prop} {B14 : q_S → Nat → Int32 → Int32 → Int32 → Prop} {S : q_S} {a0 : Nat} {x1 : Int32} {x3 : Int32} {x4 : Int32} {xs0 : Int32} {Q : Option Value → q_S → Prop} {H : Heap} {locs : List Loc} {ls : Array Slot} (X : q_X p s m args meth c RX12 cX12_works 6 none D cy lo) (hB2 : ∀ (S : q_S) (a0 : Nat) (x1 : Int32) (x2 : Int32) (H : Heap) (locs : List Loc) (ls : Array Slot), B2 S a0 x1 x2 → q_Y D cy lo s S H locs → lv_has ls 6 [(0, .ref a0), (1, .int x1), (2, .int x2)] → W p l e ({ frames := 7, cells := 0, slots := 0, locals := 185 } : Room) s m args below meth c H locs 0 0 (MQ below (q_Q D cy lo Q) args s 0 0 (fun q => lo ≤ q)) (F0 m 2 ls [])) (hB14 : ∀ (S : q_S) (a0 : Nat) (x1 : Int32) (x3 : Int32) (x4 : Int32) (H : Heap) (locs : List Loc) (ls : Array Slot), B14 S a0 x1 x3 x4 → q_Y D cy lo s S H locs → lv_has ls 6 [(0, .ref a0), (1, .int x1), (3, .int x3), (4, .int x4)] → W p l e ({ frames := 7, cells := 0, slots := 0, locals := 185 } : Room) s m args below meth c H locs 0 0 (MQ below (q_Q D cy lo Q) args s 0 0 (fun q => lo ≤ q)) (F0 m 14 ls [])) (Y : q_Y D cy lo s S H locs) (hl : lv_has ls 6 [(0, .ref a0), (1, .int x1), (3, .int x3), (4, .int x4)]) (h : wb_X12_works_65 B2 B14 S a0 x1 x3 x4 xs0 Q) : W p l e ({ frames := 7, cells := 0, slots := 0, locals := 185 } : Room) s m args below meth c H locs 0 0 (MQ below (q_Q D cy lo Q) args s 0 0 (fun q => lo ≤ q)) (F0 m 65 ls [.int xs0]) := by
  have hx := X.1
  have hb := X.2.1
  unfold wb_X12_works_65 at h
  refine lv_istore (i := 5) (lv' := [(5, .int xs0), (0, .ref a0), (1, .int x1), (3, .int x3), (4, .int x4)]) hx hb dX12_works_65 hl (by decide) (by first | rfl | simp [q_cat, q_catI, q_catJ, q_catR]) (fun ls hl => ?_)
  refine lv_iload hx hb dX12_works_67 (lv_at hl 0 rfl) ?_
  refine lv_if_eq (tgt := 96) hx hb dX12_works_69 (by decide) (fun c1_ => ?_) (fun c1_ => ?_)
  · replace h := h.1 c1_
    exact cb_X12_works_96 X hB2 hB14 Y (lv_sub hl [1, 2, 3, 4] rfl) h
  · replace h := h.2 c1_
    refine lv_iload_n hx hb dX12_works_72 rfl (lv_at hl 3 rfl) ?_
    refine lv_iconst (v := (-1)) hx hb dX12_works_73 (by decide) ?_
    refine lv_icmp_eq (tgt := 93) hx hb dX12_works_74 (by decide) (fun c2_ => ?_) (fun c2_ => ?_)
    · replace h := h.1 c2_
      exact cb_X12_works_93 X hB2 hB14 Y (lv_sub hl [1, 2, 4] rfl) h
    · replace h := h.2 c2_
      refine lv_aload_n hx hb dX12_works_77 rfl (lv_at hl 1 rfl) ?_
      obtain ⟨k3_, h⟩ := h
      refine q_getP X Y kX12 72 rfl fl_X12_164 k3_ rfl dX12_works_78 ?_
      refine lv_iload hx hb dX12_works_81 (lv_at hl 4 rfl) ?_
      obtain ⟨a4_, e5_, h⟩ := h
      refine q_nn [.int x4] e5_ ?_
      obtain ⟨k6_, h⟩ := h
      obtain ⟨i7_, h⟩ := h
      refine q_ild X Y k6_ i7_ dX12_works_83 ?_
      refine lv_aload_n hx hb dX12_works_84 rfl (lv_at hl 1 rfl) ?_
      refine q_getR X Y kX12 72 rfl fl_X12_164 k3_ e5_ dX12_works_85 ?_
      refine lv_iload_n hx hb dX12_works_88 rfl (lv_at hl 3 rfl) ?_
      obtain ⟨i8_, h⟩ := h
      refine q_ild X Y k6_ i8_ dX12_works_89 ?_
      refine lv_icmp_ge (tgt := 96) hx hb dX12_works_90 (by decide) (fun c9_ => ?_) (fun c9_ => ?_)
      · replace h := h.1 c9_
        exact cb_X12_works_96 X hB2 hB14 Y (lv_sub hl [1, 2, 3, 4] rfl) h
      · replace h := h.2 c9_
        exact cb_X12_works_93 X hB2 hB14 Y (lv_sub hl [1, 2, 4] rfl) h
def wb_X12_works_64 (B2 : q_S → Nat → Int32 → Int32 → Prop) (B14 : q_S → Nat → Int32 → Int32 → Int32 → Prop) (S : q_S) (a0 : Nat) (x1 : Int32) (x3 : Int32) (x4 : Int32) (Q : Option Value → q_S → Prop) : Prop := wb_X12_works_65 B2 B14 S a0 x1 x3 x4 (0 : Int32) Q
set_option maxHeartbeats 4000000 in
set_option maxRecDepth 100000 in
theorem cb_X12_works_64 {p : Program} {l : Launch} {e : Env} {s : State} {m : MethodId} {args : Array Value} {below : List Frame} {meth : Method} {c : Code} {D : va_G} {cy : Nat → ClassId} {lo : Nat} {B2 : q_S → Nat → Int32 → Int32 → Prop} {B14 : q_S → Nat → Int32 → Int32 → Int32 → Prop} {S : q_S} {a0 : Nat} {x1 : Int32} {x3 : Int32} {x4 : Int32} {Q : Option Value → q_S → Prop} {H : Heap} {locs : List Loc} {ls : Array Slot} (X : q_X p s m args meth c RX12 cX12_works 6 none D cy lo) (hB2 : ∀ (S : q_S) (a0 : Nat) (x1 : Int32) (x2 : Int32) (H : Heap) (locs : List Loc) (ls : Array Slot), B2 S a0 x1 x2 → q_Y D cy lo s S H locs → lv_has ls 6 [(0, .ref a0), (1, .int x1), (2, .int x2)] → W p l e ({ frames := 7, cells := 0, slots := 0, locals := 185 } : Room) s m args below meth c H locs 0 0 (MQ below (q_Q D cy lo Q) args s 0 0 (fun q => lo ≤ q)) (F0 m 2 ls [])) (hB14 : ∀ (S : q_S) (a0 : Nat) (x1 : Int32) (x3 : Int32) (x4 : Int32) (H : Heap) (locs : List Loc) (ls : Array Slot), B14 S a0 x1 x3 x4 → q_Y D cy lo s S H locs → lv_has ls 6 [(0, .ref a0), (1, .int x1), (3, .int x3), (4, .int x4)] → W p l e ({ frames := 7, cells := 0, slots := 0, locals := 185 } : Room) s m args below meth c H locs 0 0 (MQ below (q_Q D cy lo Q) args s 0 0 (fun q => lo ≤ q)) (F0 m 14 ls [])) (Y : q_Y D cy lo s S H locs) (hl : lv_has ls 6 [(0, .ref a0), (1, .int x1), (3, .int x3), (4, .int x4)]) (h : wb_X12_works_64 B2 B14 S a0 x1 x3 x4 Q) : W p l e ({ frames := 7, cells := 0, slots := 0, locals := 185 } : Room) s m args below meth c H locs 0 0 (MQ below (q_Q D cy lo Q) args s 0 0 (fun q => lo ≤ q)) (F0 m 64 ls []) := by
  have hx := X.1
  have hb := X.2.1
  unfold wb_X12_works_64 at h
  refine lv_iconst (v := 0) hx hb dX12_works_64 (by decide) ?_
  exact cb_X12_works_65 X hB2 hB14 Y (lv_sub hl [0, 1, 2, 3] rfl) h
def wb_X12_works_135 (B2 : q_S → Nat → Int32 → Int32 → Prop) (S : q_S) (a0 : Nat) (x1 : Int32) (x2 : Int32) (x3 : Int32) (Q : Option Value → q_S → Prop) : Prop := q_K S a0 = 13 ∧ (wm_X12_isReady S a0 x3 (fun r11_ S12_ => r11_ = none ∧ (B2 S12_ a0 x1 x2)))
set_option maxHeartbeats 4000000 in
set_option maxRecDepth 100000 in
theorem cb_X12_works_135 {p : Program} {l : Launch} {e : Env} {s : State} {m : MethodId} {args : Array Value} {below : List Frame} {meth : Method} {c : Code} {D : va_G} {cy : Nat → ClassId} {lo : Nat} {B2 : q_S → Nat → Int32 → Int32 → Prop} {S : q_S} {a0 : Nat} {x1 : Int32} {x2 : Int32} {x3 : Int32} {Q : Option Value → q_S → Prop} {H : Heap} {locs : List Loc} {ls : Array Slot} (X : q_X p s m args meth c RX12 cX12_works 6 none D cy lo) (hB2 : ∀ (S : q_S) (a0 : Nat) (x1 : Int32) (x2 : Int32) (H : Heap) (locs : List Loc) (ls : Array Slot), B2 S a0 x1 x2 → q_Y D cy lo s S H locs → lv_has ls 6 [(0, .ref a0), (1, .int x1), (2, .int x2)] → W p l e ({ frames := 7, cells := 0, slots := 0, locals := 185 } : Room) s m args below meth c H locs 0 0 (MQ below (q_Q D cy lo Q) args s 0 0 (fun q => lo ≤ q)) (F0 m 2 ls [])) (Y : q_Y D cy lo s S H locs) (hl : lv_has ls 6 [(0, .ref a0), (1, .int x1), (2, .int x2), (3, .int x3)]) (h : wb_X12_works_135 B2 S a0 x1 x2 x3 Q) : W p l e ({ frames := 7, cells := 0, slots := 0, locals := 185 } : Room) s m args below meth c H locs 0 0 (MQ below (q_Q D cy lo Q) args s 0 0 (fun q => lo ≤ q)) (F0 m 135 ls []) := by
  have hx := X.1
  have hb := X.2.1
  unfold wb_X12_works_135 at h
  refine lv_aload_n hx hb dX12_works_135 rfl (lv_at hl 0 rfl) ?_
  refine lv_iload_n hx hb dX12_works_136 rfl (lv_at hl 3 rfl) ?_
  obtain ⟨k10_, h⟩ := h
  refine q_callV X Y hl (cm_X12_isReady h) mt_X12_isReady mi_X12_isReady ml_X12_484 (ci := 12) rfl k10_ (by decide) rfl rfl (by first | exact Nat.le_of_ble_eq_true rfl | simp [q_cat, q_catI, q_catJ, q_catR]) ⟨Nat.le_of_ble_eq_true rfl, Nat.le_of_ble_eq_true rfl⟩ ⟨Nat.le_of_ble_eq_true rfl, Nat.le_of_ble_eq_true rfl⟩ dX12_works_137 (fun r11_ S12_ H locs hp Y => ?_)
  obtain ⟨rfl, h⟩ := hp
  refine W.eq (g2 := F0 m 140 ls []) rfl ?_
  refine lv_goto (tgt := 2) hx hb dX12_works_140 (by decide) ?_
  exact hB2 _ _ _ _ _ _ _ h Y (lv_sub hl [0, 1, 2] rfl)
def wb_X12_works_112 (B2 : q_S → Nat → Int32 → Int32 → Prop) (S : q_S) (a0 : Nat) (x1 : Int32) (x3 : Int32) (xs0 : Int32) (Q : Option Value → q_S → Prop) : Prop := ((¬ xs0 = 0 → (q_K S a0 = 13 ∧ (∃ a15_ : Nat, (q_P S 2478 a0) = some a15_ ∧ (q_K S a15_ = 21 ∧ (vp_in x3 (q_N S a15_) ∧ ((((q_A S a15_ x3.toNatClampNeg) ≤ 0 → (wb_X12_works_135 B2 S a0 x1 xs0 x3 Q)) ∧ (¬ (q_A S a15_ x3.toNatClampNeg) ≤ 0 → (wm_X12_answer S a0 x3 (4 : Int32) (fun r20_ S21_ => r20_ = none ∧ (wb_X12_works_135 B2 S21_ a0 x1 xs0 x3 Q))))))))))) ∧ (xs0 = 0 → (B2 S a0 x1 xs0)))
set_option maxHeartbeats 4000000 in
set_option maxRecDepth 100000 in
theorem cb_X12_works_112 {p : Program} {l : Launch} {e : Env} {s : State} {m : MethodId} {args : Array Value} {below : List Frame} {meth : Method} {c : Code} {D : va_G} {cy : Nat → ClassId} {lo : Nat} {B2 : q_S → Nat → Int32 → Int32 → Prop} {S : q_S} {a0 : Nat} {x1 : Int32} {x3 : Int32} {xs0 : Int32} {Q : Option Value → q_S → Prop} {H : Heap} {locs : List Loc} {ls : Array Slot} (X : q_X p s m args meth c RX12 cX12_works 6 none D cy lo) (hB2 : ∀ (S : q_S) (a0 : Nat) (x1 : Int32) (x2 : Int32) (H : Heap) (locs : List Loc) (ls : Array Slot), B2 S a0 x1 x2 → q_Y D cy lo s S H locs → lv_has ls 6 [(0, .ref a0), (1, .int x1), (2, .int x2)] → W p l e ({ frames := 7, cells := 0, slots := 0, locals := 185 } : Room) s m args below meth c H locs 0 0 (MQ below (q_Q D cy lo Q) args s 0 0 (fun q => lo ≤ q)) (F0 m 2 ls [])) (Y : q_Y D cy lo s S H locs) (hl : lv_has ls 6 [(0, .ref a0), (1, .int x1), (3, .int x3)]) (h : wb_X12_works_112 B2 S a0 x1 x3 xs0 Q) : W p l e ({ frames := 7, cells := 0, slots := 0, locals := 185 } : Room) s m args below meth c H locs 0 0 (MQ below (q_Q D cy lo Q) args s 0 0 (fun q => lo ≤ q)) (F0 m 112 ls [.int xs0]) := by
  have hx := X.1
  have hb := X.2.1
  unfold wb_X12_works_112 at h
  refine lv_istore_n (i := 2) (lv' := [(2, .int xs0), (0, .ref a0), (1, .int x1), (3, .int x3)]) hx hb dX12_works_112 rfl hl (by decide) (by first | rfl | simp [q_cat, q_catI, q_catJ, q_catR]) (fun ls hl => ?_)
  refine lv_iload_n hx hb dX12_works_113 rfl (lv_at hl 0 rfl) ?_
  refine lv_if_ne (tgt := 120) hx hb dX12_works_114 (by decide) (fun c13_ => ?_) (fun c13_ => ?_)
  · replace h := h.1 c13_
    refine lv_aload_n hx hb dX12_works_120 rfl (lv_at hl 1 rfl) ?_
    obtain ⟨k14_, h⟩ := h
    refine q_getP X Y kX12 78 rfl fl_X12_182 k14_ rfl dX12_works_121 ?_
    refine lv_iload_n hx hb dX12_works_124 rfl (lv_at hl 3 rfl) ?_
    obtain ⟨a15_, e16_, h⟩ := h
    refine q_nn [.int x3] e16_ ?_
    obtain ⟨k17_, h⟩ := h
    obtain ⟨i18_, h⟩ := h
    refine q_ild X Y k17_ i18_ dX12_works_125 ?_
    refine lv_if_le (tgt := 135) hx hb dX12_works_126 (by decide) (fun c19_ => ?_) (fun c19_ => ?_)
    · replace h := h.1 c19_
      exact cb_X12_works_135 X hB2 Y (lv_sub hl [1, 2, 0, 3] rfl) h
    · replace h := h.2 c19_
      refine lv_aload_n hx hb dX12_works_129 rfl (lv_at hl 1 rfl) ?_
      refine lv_iload_n hx hb dX12_works_130 rfl (lv_at hl 3 rfl) ?_
      refine lv_iconst (v := 4) hx hb dX12_works_131 (by decide) ?_
      refine q_callV X Y hl (cm_X12_answer h) mt_X12_answer mi_X12_answer ml_X12_506 (ci := 12) rfl k14_ (by decide) rfl rfl (by first | exact Nat.le_of_ble_eq_true rfl | simp [q_cat, q_catI, q_catJ, q_catR]) ⟨Nat.le_of_ble_eq_true rfl, Nat.le_of_ble_eq_true rfl⟩ ⟨Nat.le_of_ble_eq_true rfl, Nat.le_of_ble_eq_true rfl⟩ dX12_works_132 (fun r20_ S21_ H locs hp Y => ?_)
      obtain ⟨rfl, h⟩ := hp
      refine W.eq (g2 := F0 m 135 ls []) rfl ?_
      exact cb_X12_works_135 X hB2 Y (lv_sub hl [1, 2, 0, 3] rfl) h
  · replace h := h.2 c13_
    refine lv_goto (tgt := 2) hx hb dX12_works_117 (by decide) ?_
    exact hB2 _ _ _ _ _ _ _ h Y (lv_sub hl [1, 2, 0] rfl)
def wb_X12_works_14 (B2 : q_S → Nat → Int32 → Int32 → Prop) (B14 : q_S → Nat → Int32 → Int32 → Int32 → Prop) (S : q_S) (a0 : Nat) (x1 : Int32) (x3 : Int32) (x4 : Int32) (Q : Option Value → q_S → Prop) : Prop := q_K S a0 = 13 ∧ (wm_X12_lastOf S a0 x1 (fun r23_ S24_ => ∃ x25_ : Int32, r23_ = some (.int x25_) ∧ (((x25_ ≤ x4 → (((x3 = (-1 : Int32) → (wb_X12_works_112 B2 S24_ a0 x1 x3 (0 : Int32) Q)) ∧ (¬ x3 = (-1 : Int32) → (wb_X12_works_112 B2 S24_ a0 x1 x3 (1 : Int32) Q))))) ∧ (¬ x25_ ≤ x4 → (q_K S24_ a0 = 13 ∧ (∃ a29_ : Nat, (q_P S24_ 2467 a0) = some a29_ ∧ (q_K S24_ a29_ = 21 ∧ (vp_in x4 (q_N S24_ a29_) ∧ (((¬ (q_A S24_ a29_ x4.toNatClampNeg) = (2 : Int32) → (wb_X12_works_64 B2 B14 S24_ a0 x1 x3 x4 Q)) ∧ ((q_A S24_ a29_ x4.toNatClampNeg) = (2 : Int32) → (∃ a34_ : Nat, (q_P S24_ 2472 a0) = some a34_ ∧ (q_K S24_ a34_ = 21 ∧ (vp_in x4 (q_N S24_ a34_) ∧ ((((q_A S24_ a34_ x4.toNatClampNeg) = (-1 : Int32) → (wb_X12_works_64 B2 B14 S24_ a0 x1 x3 x4 Q)) ∧ (¬ (q_A S24_ a34_ x4.toNatClampNeg) = (-1 : Int32) → (vp_in x4 (q_N S24_ a34_) ∧ ((((q_I S24_ 2463 a0) < (q_A S24_ a34_ x4.toNatClampNeg) → (wb_X12_works_64 B2 B14 S24_ a0 x1 x3 x4 Q)) ∧ (¬ (q_I S24_ 2463 a0) < (q_A S24_ a34_ x4.toNatClampNeg) → (wb_X12_works_65 B2 B14 S24_ a0 x1 x3 x4 (1 : Int32) Q)))))))))))))))))))))))
set_option maxHeartbeats 4000000 in
set_option maxRecDepth 100000 in
theorem cb_X12_works_14 {p : Program} {l : Launch} {e : Env} {s : State} {m : MethodId} {args : Array Value} {below : List Frame} {meth : Method} {c : Code} {D : va_G} {cy : Nat → ClassId} {lo : Nat} {B2 : q_S → Nat → Int32 → Int32 → Prop} {B14 : q_S → Nat → Int32 → Int32 → Int32 → Prop} {S : q_S} {a0 : Nat} {x1 : Int32} {x3 : Int32} {x4 : Int32} {Q : Option Value → q_S → Prop} {H : Heap} {locs : List Loc} {ls : Array Slot} (X : q_X p s m args meth c RX12 cX12_works 6 none D cy lo) (hB2 : ∀ (S : q_S) (a0 : Nat) (x1 : Int32) (x2 : Int32) (H : Heap) (locs : List Loc) (ls : Array Slot), B2 S a0 x1 x2 → q_Y D cy lo s S H locs → lv_has ls 6 [(0, .ref a0), (1, .int x1), (2, .int x2)] → W p l e ({ frames := 7, cells := 0, slots := 0, locals := 185 } : Room) s m args below meth c H locs 0 0 (MQ below (q_Q D cy lo Q) args s 0 0 (fun q => lo ≤ q)) (F0 m 2 ls [])) (hB14 : ∀ (S : q_S) (a0 : Nat) (x1 : Int32) (x3 : Int32) (x4 : Int32) (H : Heap) (locs : List Loc) (ls : Array Slot), B14 S a0 x1 x3 x4 → q_Y D cy lo s S H locs → lv_has ls 6 [(0, .ref a0), (1, .int x1), (3, .int x3), (4, .int x4)] → W p l e ({ frames := 7, cells := 0, slots := 0, locals := 185 } : Room) s m args below meth c H locs 0 0 (MQ below (q_Q D cy lo Q) args s 0 0 (fun q => lo ≤ q)) (F0 m 14 ls [])) (Y : q_Y D cy lo s S H locs) (hl : lv_has ls 6 [(0, .ref a0), (1, .int x1), (3, .int x3), (4, .int x4)]) (h : wb_X12_works_14 B2 B14 S a0 x1 x3 x4 Q) : W p l e ({ frames := 7, cells := 0, slots := 0, locals := 185 } : Room) s m args below meth c H locs 0 0 (MQ below (q_Q D cy lo Q) args s 0 0 (fun q => lo ≤ q)) (F0 m 14 ls []) := by
  have hx := X.1
  have hb := X.2.1
  unfold wb_X12_works_14 at h
  refine lv_iload hx hb dX12_works_14 (lv_at hl 3 rfl) ?_
  refine lv_aload_n hx hb dX12_works_16 rfl (lv_at hl 0 rfl) ?_
  refine lv_iload_n hx hb dX12_works_17 rfl (lv_at hl 1 rfl) ?_
  obtain ⟨k22_, h⟩ := h
  refine q_callV X Y hl (cm_X12_lastOf h) mt_X12_lastOf mi_X12_lastOf ml_X12_499 (ci := 12) rfl k22_ (by decide) rfl rfl (by first | exact Nat.le_of_ble_eq_true rfl | simp [q_cat, q_catI, q_catJ, q_catR]) ⟨Nat.le_of_ble_eq_true rfl, Nat.le_of_ble_eq_true rfl⟩ ⟨Nat.le_of_ble_eq_true rfl, Nat.le_of_ble_eq_true rfl⟩ dX12_works_18 (fun r23_ S24_ H locs hp Y => ?_)
  obtain ⟨x25_, rfl, h⟩ := hp
  refine W.eq (g2 := F0 m 21 ls [.int x25_, .int x4]) rfl ?_
  refine lv_icmp_ge (tgt := 102) hx hb dX12_works_21 (by decide) (fun c26_ => ?_) (fun c26_ => ?_)
  · replace h := h.1 c26_
    refine lv_iload_n hx hb dX12_works_102 rfl (lv_at hl 2 rfl) ?_
    refine lv_iconst (v := (-1)) hx hb dX12_works_103 (by decide) ?_
    refine lv_icmp_eq (tgt := 111) hx hb dX12_works_104 (by decide) (fun c27_ => ?_) (fun c27_ => ?_)
    · replace h := h.1 c27_
      refine lv_iconst (v := 0) hx hb dX12_works_111 (by decide) ?_
      exact cb_X12_works_112 X hB2 Y (lv_sub hl [0, 1, 2] rfl) h
    · replace h := h.2 c27_
      refine lv_iconst (v := 1) hx hb dX12_works_107 (by decide) ?_
      refine lv_goto (tgt := 112) hx hb dX12_works_108 (by decide) ?_
      exact cb_X12_works_112 X hB2 Y (lv_sub hl [0, 1, 2] rfl) h
  · replace h := h.2 c26_
    refine lv_aload_n hx hb dX12_works_24 rfl (lv_at hl 0 rfl) ?_
    obtain ⟨k28_, h⟩ := h
    refine q_getP X Y kX12 67 rfl fl_X12_149 k28_ rfl dX12_works_25 ?_
    refine lv_iload hx hb dX12_works_28 (lv_at hl 3 rfl) ?_
    obtain ⟨a29_, e30_, h⟩ := h
    refine q_nn [.int x4] e30_ ?_
    obtain ⟨k31_, h⟩ := h
    obtain ⟨i32_, h⟩ := h
    refine q_ild X Y k31_ i32_ dX12_works_30 ?_
    refine lv_iconst (v := 2) hx hb dX12_works_31 (by decide) ?_
    refine lv_icmp_ne (tgt := 64) hx hb dX12_works_32 (by decide) (fun c33_ => ?_) (fun c33_ => ?_)
    · replace h := h.1 c33_
      exact cb_X12_works_64 X hB2 hB14 Y (lv_sub hl [0, 1, 2, 3] rfl) h
    · replace h := h.2 c33_
      refine lv_aload_n hx hb dX12_works_35 rfl (lv_at hl 0 rfl) ?_
      refine q_getP X Y kX12 72 rfl fl_X12_164 k28_ rfl dX12_works_36 ?_
      refine lv_iload hx hb dX12_works_39 (lv_at hl 3 rfl) ?_
      obtain ⟨a34_, e35_, h⟩ := h
      refine q_nn [.int x4] e35_ ?_
      obtain ⟨k36_, h⟩ := h
      obtain ⟨i37_, h⟩ := h
      refine q_ild X Y k36_ i37_ dX12_works_41 ?_
      refine lv_iconst (v := (-1)) hx hb dX12_works_42 (by decide) ?_
      refine lv_icmp_eq (tgt := 64) hx hb dX12_works_43 (by decide) (fun c38_ => ?_) (fun c38_ => ?_)
      · replace h := h.1 c38_
        exact cb_X12_works_64 X hB2 hB14 Y (lv_sub hl [0, 1, 2, 3] rfl) h
      · replace h := h.2 c38_
        refine lv_aload_n hx hb dX12_works_46 rfl (lv_at hl 0 rfl) ?_
        refine q_getR X Y kX12 72 rfl fl_X12_164 k28_ e35_ dX12_works_47 ?_
        refine lv_iload hx hb dX12_works_50 (lv_at hl 3 rfl) ?_
        obtain ⟨i39_, h⟩ := h
        refine q_ild X Y k36_ i39_ dX12_works_52 ?_
        refine lv_aload_n hx hb dX12_works_53 rfl (lv_at hl 0 rfl) ?_
        refine q_getI X Y kX12 63 rfl fl_X12_453 k28_ dX12_works_54 ?_
        refine lv_icmp_gt (tgt := 64) hx hb dX12_works_57 (by decide) (fun c40_ => ?_) (fun c40_ => ?_)
        · replace h := h.1 c40_
          exact cb_X12_works_64 X hB2 hB14 Y (lv_sub hl [0, 1, 2, 3] rfl) h
        · replace h := h.2 c40_
          refine lv_iconst (v := 1) hx hb dX12_works_60 (by decide) ?_
          refine lv_goto (tgt := 65) hx hb dX12_works_61 (by decide) ?_
          exact cb_X12_works_65 X hB2 hB14 Y (lv_sub hl [0, 1, 2, 3] rfl) h
def wl_X12_works_14 (B2 : q_S → Nat → Int32 → Int32 → Prop) : Nat → q_S → Nat → Int32 → Int32 → Int32 → (Option Value → q_S → Prop) → Prop
  | 0, _, _, _, _, _, _ => False
  | n + 1, S, a0, x1, x3, x4, Q => wb_X12_works_14 B2 (fun S a0 x1 x3 x4 => wl_X12_works_14 B2 n S a0 x1 x3 x4 Q) S a0 x1 x3 x4 Q
set_option maxHeartbeats 4000000 in
set_option maxRecDepth 100000 in
theorem cl_X12_works_14 {p : Program} {l : Launch} {e : Env} {s : State} {m : MethodId} {args : Array Value} {below : List Frame} {meth : Method} {c : Code} {D : va_G} {cy : Nat → ClassId} {lo : Nat} {B2 : q_S → Nat → Int32 → Int32 → Prop} {Q : Option Value → q_S → Prop} (X : q_X p s m args meth c RX12 cX12_works 6 none D cy lo) (hB2 : ∀ (S : q_S) (a0 : Nat) (x1 : Int32) (x2 : Int32) (H : Heap) (locs : List Loc) (ls : Array Slot), B2 S a0 x1 x2 → q_Y D cy lo s S H locs → lv_has ls 6 [(0, .ref a0), (1, .int x1), (2, .int x2)] → W p l e ({ frames := 7, cells := 0, slots := 0, locals := 185 } : Room) s m args below meth c H locs 0 0 (MQ below (q_Q D cy lo Q) args s 0 0 (fun q => lo ≤ q)) (F0 m 2 ls [])) : ∀ (n : Nat) (S : q_S) (a0 : Nat) (x1 : Int32) (x3 : Int32) (x4 : Int32) (H : Heap) (locs : List Loc) (ls : Array Slot), wl_X12_works_14 B2 n S a0 x1 x3 x4 Q → q_Y D cy lo s S H locs → lv_has ls 6 [(0, .ref a0), (1, .int x1), (3, .int x3), (4, .int x4)] → W p l e ({ frames := 7, cells := 0, slots := 0, locals := 185 } : Room) s m args below meth c H locs 0 0 (MQ below (q_Q D cy lo Q) args s 0 0 (fun q => lo ≤ q)) (F0 m 14 ls []) := by
  intro n
  induction n with
  | zero => intro S a0 x1 x3 x4 H locs ls h; exact absurd h id
  | succ n ih => intro S a0 x1 x3 x4 H locs ls h Y hl; exact cb_X12_works_14 X hB2 ih Y hl h
def wb_X12_works_208 (B148 : q_S → Nat → Int32 → Int32 → Prop) (S : q_S) (a0 : Nat) (x1 : Int32) (x3 : Int32) (Q : Option Value → q_S → Prop) : Prop := B148 S a0 x1 (x3 + 1)
set_option maxHeartbeats 4000000 in
set_option maxRecDepth 100000 in
theorem cb_X12_works_208 {p : Program} {l : Launch} {e : Env} {s : State} {m : MethodId} {args : Array Value} {below : List Frame} {meth : Method} {c : Code} {D : va_G} {cy : Nat → ClassId} {lo : Nat} {B148 : q_S → Nat → Int32 → Int32 → Prop} {S : q_S} {a0 : Nat} {x1 : Int32} {x3 : Int32} {Q : Option Value → q_S → Prop} {H : Heap} {locs : List Loc} {ls : Array Slot} (X : q_X p s m args meth c RX12 cX12_works 6 none D cy lo) (hB148 : ∀ (S : q_S) (a0 : Nat) (x1 : Int32) (x3 : Int32) (H : Heap) (locs : List Loc) (ls : Array Slot), B148 S a0 x1 x3 → q_Y D cy lo s S H locs → lv_has ls 6 [(0, .ref a0), (1, .int x1), (3, .int x3)] → W p l e ({ frames := 7, cells := 0, slots := 0, locals := 185 } : Room) s m args below meth c H locs 0 0 (MQ below (q_Q D cy lo Q) args s 0 0 (fun q => lo ≤ q)) (F0 m 148 ls [])) (Y : q_Y D cy lo s S H locs) (hl : lv_has ls 6 [(0, .ref a0), (1, .int x1), (3, .int x3)]) (h : wb_X12_works_208 B148 S a0 x1 x3 Q) : W p l e ({ frames := 7, cells := 0, slots := 0, locals := 185 } : Room) s m args below meth c H locs 0 0 (MQ below (q_Q D cy lo Q) args s 0 0 (fun q => lo ≤ q)) (F0 m 208 ls []) := by
  have hx := X.1
  have hb := X.2.1
  unfold wb_X12_works_208 at h
  refine lv_iinc (v := (x3 + 1)) (lv' := [(3, .int (x3 + 1)), (0, .ref a0), (1, .int x1)]) hx hb dX12_works_208 hl (k := 2) rfl (by first | rfl | decide) (by decide) (by first | rfl | simp [q_cat, q_catI, q_catJ, q_catR]) (fun ls hl => ?_)
  refine lv_goto (tgt := 148) hx hb dX12_works_211 (by decide) ?_
  exact hB148 _ _ _ _ _ _ _ h Y (lv_sub hl [1, 2, 0] rfl)
def wb_X12_works_230  (S : q_S) (a0 : Nat) (x1 : Int32) (xs0 : Int32) (Q : Option Value → q_S → Prop) : Prop := ((¬ xs0 = (-1 : Int32) → (q_K S a0 = 13 ∧ (∃ a43_ : Nat, (q_P (qs_I S 2510 a0 ((q_I S 2510 a0) + (1 : Int32))) 2474 a0) = some a43_ ∧ (q_K (qs_I S 2510 a0 ((q_I S 2510 a0) + (1 : Int32))) a43_ = 21 ∧ (vp_in xs0 (q_N (qs_I S 2510 a0 ((q_I S 2510 a0) + (1 : Int32))) a43_) ∧ (vp_in xs0 (q_N (qs_I S 2510 a0 ((q_I S 2510 a0) + (1 : Int32))) a43_) ∧ (∀ S48_ : q_S, S48_ = (qs_A (qs_I S 2510 a0 ((q_I S 2510 a0) + (1 : Int32))) a43_ xs0.toNatClampNeg ((q_A (qs_I S 2510 a0 ((q_I S 2510 a0) + (1 : Int32))) a43_ xs0.toNatClampNeg) + (1 : Int32))) → (∃ a49_ : Nat, (q_P S48_ 2491 a0) = some a49_ ∧ (q_K S48_ a49_ = 21 ∧ (vp_in x1 (q_N S48_ a49_) ∧ (vp_in x1 (q_N S48_ a49_) ∧ (wm_X12_execute (qs_A S48_ a49_ x1.toNatClampNeg ((q_A S48_ a49_ x1.toNatClampNeg) + (1 : Int32))) a0 x1 xs0 (fun r54_ S55_ => r54_ = none ∧ (Q none S55_)))))))))))))) ∧ (xs0 = (-1 : Int32) → (Q none S)))
set_option maxHeartbeats 4000000 in
set_option maxRecDepth 100000 in
theorem cb_X12_works_230 {p : Program} {l : Launch} {e : Env} {s : State} {m : MethodId} {args : Array Value} {below : List Frame} {meth : Method} {c : Code} {D : va_G} {cy : Nat → ClassId} {lo : Nat}  {S : q_S} {a0 : Nat} {x1 : Int32} {xs0 : Int32} {Q : Option Value → q_S → Prop} {H : Heap} {locs : List Loc} {ls : Array Slot} (X : q_X p s m args meth c RX12 cX12_works 6 none D cy lo)  (Y : q_Y D cy lo s S H locs) (hl : lv_has ls 6 [(0, .ref a0), (1, .int x1)]) (h : wb_X12_works_230 S a0 x1 xs0 Q) : W p l e ({ frames := 7, cells := 0, slots := 0, locals := 185 } : Room) s m args below meth c H locs 0 0 (MQ below (q_Q D cy lo Q) args s 0 0 (fun q => lo ≤ q)) (F0 m 230 ls [.int xs0]) := by
  have hx := X.1
  have hb := X.2.1
  unfold wb_X12_works_230 at h
  refine lv_istore_n (i := 3) (lv' := [(3, .int xs0), (0, .ref a0), (1, .int x1)]) hx hb dX12_works_230 rfl hl (by decide) (by first | rfl | simp [q_cat, q_catI, q_catJ, q_catR]) (fun ls hl => ?_)
  refine lv_iload_n hx hb dX12_works_231 rfl (lv_at hl 0 rfl) ?_
  refine lv_iconst (v := (-1)) hx hb dX12_works_232 (by decide) ?_
  refine lv_icmp_ne (tgt := 237) hx hb dX12_works_233 (by decide) (fun c41_ => ?_) (fun c41_ => ?_)
  · replace h := h.1 c41_
    refine lv_aload_n hx hb dX12_works_237 rfl (lv_at hl 1 rfl) ?_
    refine lv_dup hx hb dX12_works_238 rfl ?_
    obtain ⟨k42_, h⟩ := h
    refine q_getI X Y kX12 110 rfl fl_X12_465 k42_ dX12_works_239 ?_
    refine lv_iconst (v := 1) hx hb dX12_works_242 (by decide) ?_
    refine lv_iadd hx hb dX12_works_243 ?_
    refine q_putI X Y kX12 110 rfl fl_X12_465 k42_ .int rfl ⟨rfl, rfl⟩ rfl dX12_works_244 (fun H locs Y => ?_)
    refine lv_aload_n hx hb dX12_works_247 rfl (lv_at hl 1 rfl) ?_
    refine q_getP X Y kX12 74 rfl fl_X12_170 k42_ rfl dX12_works_248 ?_
    refine lv_iload_n hx hb dX12_works_251 rfl (lv_at hl 0 rfl) ?_
    refine lv_dup2_11 hx hb dX12_works_252 rfl (q_cat _) ?_
    obtain ⟨a43_, e44_, h⟩ := h
    refine q_nn [.int xs0] e44_ ?_
    obtain ⟨k45_, h⟩ := h
    obtain ⟨i46_, h⟩ := h
    refine q_ild X Y k45_ i46_ dX12_works_253 ?_
    refine lv_iconst (v := 1) hx hb dX12_works_254 (by decide) ?_
    refine lv_iadd hx hb dX12_works_255 ?_
    refine q_nn [.int ((q_A (qs_I S 2510 a0 ((q_I S 2510 a0) + (1 : Int32))) a43_ xs0.toNatClampNeg) + (1 : Int32)), .int xs0] e44_ ?_
    obtain ⟨i47_, h⟩ := h
    refine q_ist X Y k45_ i47_ dX12_works_256 (fun H locs Y => ?_)
    obtain ⟨S48_, gS48_⟩ : ∃ z : q_S, z = (qs_A (qs_I S 2510 a0 ((q_I S 2510 a0) + (1 : Int32))) a43_ xs0.toNatClampNeg ((q_A (qs_I S 2510 a0 ((q_I S 2510 a0) + (1 : Int32))) a43_ xs0.toNatClampNeg) + (1 : Int32))) := ⟨_, rfl⟩
    replace Y : q_Y D cy lo s S48_ H locs := by rw [gS48_]; exact Y
    replace h := h S48_ gS48_
    replace k42_ : q_K S48_ a0 = 13 := by rw [gS48_]; exact k42_
    replace k45_ : q_K S48_ a43_ = 21 := by rw [gS48_]; exact k45_
    refine lv_aload_n hx hb dX12_works_257 rfl (lv_at hl 1 rfl) ?_
    refine q_getP X Y kX12 91 rfl fl_X12_221 k42_ rfl dX12_works_258 ?_
    refine lv_iload_n hx hb dX12_works_261 rfl (lv_at hl 2 rfl) ?_
    refine lv_dup2_11 hx hb dX12_works_262 rfl (q_cat _) ?_
    obtain ⟨a49_, e50_, h⟩ := h
    refine q_nn [.int x1] e50_ ?_
    obtain ⟨k51_, h⟩ := h
    obtain ⟨i52_, h⟩ := h
    refine q_ild X Y k51_ i52_ dX12_works_263 ?_
    refine lv_iconst (v := 1) hx hb dX12_works_264 (by decide) ?_
    refine lv_iadd hx hb dX12_works_265 ?_
    refine q_nn [.int ((q_A S48_ a49_ x1.toNatClampNeg) + (1 : Int32)), .int x1] e50_ ?_
    obtain ⟨i53_, h⟩ := h
    refine q_ist X Y k51_ i53_ dX12_works_266 (fun H locs Y => ?_)
    refine lv_aload_n hx hb dX12_works_267 rfl (lv_at hl 1 rfl) ?_
    refine lv_iload_n hx hb dX12_works_268 rfl (lv_at hl 2 rfl) ?_
    refine lv_iload_n hx hb dX12_works_269 rfl (lv_at hl 0 rfl) ?_
    refine q_callV X Y hl (cm_X12_execute h) mt_X12_execute mi_X12_execute ml_X12_528 (ci := 12) rfl k42_ (by decide) rfl rfl (by first | exact Nat.le_of_ble_eq_true rfl | simp [q_cat, q_catI, q_catJ, q_catR]) ⟨Nat.le_of_ble_eq_true rfl, Nat.le_of_ble_eq_true rfl⟩ ⟨Nat.le_of_ble_eq_true rfl, Nat.le_of_ble_eq_true rfl⟩ dX12_works_270 (fun r54_ S55_ H locs hp Y => ?_)
    obtain ⟨rfl, h⟩ := hp
    refine W.eq (g2 := F0 m 273 ls []) rfl ?_
    exact q_vret X Y (Nat.le_refl _) (Nat.le_refl _) h dX12_works_273
  · replace h := h.2 c41_
    exact q_vret X Y (Nat.le_refl _) (Nat.le_refl _) h dX12_works_236
def wb_X12_works_214  (S : q_S) (a0 : Nat) (x1 : Int32) (Q : Option Value → q_S → Prop) : Prop := q_K S a0 = 13 ∧ ((((q_I S 2513 a0) = 0 → (wm_X12_nextOf S a0 x1 (fun r58_ S59_ => ∃ x60_ : Int32, r58_ = some (.int x60_) ∧ (wb_X12_works_230 S59_ a0 x1 x60_ Q)))) ∧ (¬ (q_I S 2513 a0) = 0 → (wb_X12_works_230 S a0 x1 (-1 : Int32) Q))))
set_option maxHeartbeats 4000000 in
set_option maxRecDepth 100000 in
theorem cb_X12_works_214 {p : Program} {l : Launch} {e : Env} {s : State} {m : MethodId} {args : Array Value} {below : List Frame} {meth : Method} {c : Code} {D : va_G} {cy : Nat → ClassId} {lo : Nat}  {S : q_S} {a0 : Nat} {x1 : Int32} {Q : Option Value → q_S → Prop} {H : Heap} {locs : List Loc} {ls : Array Slot} (X : q_X p s m args meth c RX12 cX12_works 6 none D cy lo)  (Y : q_Y D cy lo s S H locs) (hl : lv_has ls 6 [(0, .ref a0), (1, .int x1)]) (h : wb_X12_works_214 S a0 x1 Q) : W p l e ({ frames := 7, cells := 0, slots := 0, locals := 185 } : Room) s m args below meth c H locs 0 0 (MQ below (q_Q D cy lo Q) args s 0 0 (fun q => lo ≤ q)) (F0 m 214 ls []) := by
  have hx := X.1
  have hb := X.2.1
  unfold wb_X12_works_214 at h
  refine lv_aload_n hx hb dX12_works_214 rfl (lv_at hl 0 rfl) ?_
  obtain ⟨k56_, h⟩ := h
  refine q_getI X Y kX12 113 rfl fl_X12_509 k56_ dX12_works_215 ?_
  refine lv_if_eq (tgt := 225) hx hb dX12_works_218 (by decide) (fun c57_ => ?_) (fun c57_ => ?_)
  · replace h := h.1 c57_
    refine lv_aload_n hx hb dX12_works_225 rfl (lv_at hl 0 rfl) ?_
    refine lv_iload_n hx hb dX12_works_226 rfl (lv_at hl 1 rfl) ?_
    refine q_callV X Y hl (cm_X12_nextOf h) mt_X12_nextOf mi_X12_nextOf ml_X12_525 (ci := 12) rfl k56_ (by decide) rfl rfl (by first | exact Nat.le_of_ble_eq_true rfl | simp [q_cat, q_catI, q_catJ, q_catR]) ⟨Nat.le_of_ble_eq_true rfl, Nat.le_of_ble_eq_true rfl⟩ ⟨Nat.le_of_ble_eq_true rfl, Nat.le_of_ble_eq_true rfl⟩ dX12_works_227 (fun r58_ S59_ H locs hp Y => ?_)
    obtain ⟨x60_, rfl, h⟩ := hp
    refine W.eq (g2 := F0 m 230 ls [.int x60_]) rfl ?_
    exact cb_X12_works_230 X Y (lv_sub hl [0, 1] rfl) h
  · replace h := h.2 c57_
    refine lv_iconst (v := (-1)) hx hb dX12_works_221 (by decide) ?_
    refine lv_goto (tgt := 230) hx hb dX12_works_222 (by decide) ?_
    exact cb_X12_works_230 X Y (lv_sub hl [0, 1] rfl) h
def wb_X12_works_148 (B148 : q_S → Nat → Int32 → Int32 → Prop) (S : q_S) (a0 : Nat) (x1 : Int32) (x3 : Int32) (Q : Option Value → q_S → Prop) : Prop := q_K S a0 = 13 ∧ (wm_X12_lastOf S a0 x1 (fun r62_ S63_ => ∃ x64_ : Int32, r62_ = some (.int x64_) ∧ (((x64_ ≤ x3 → (wb_X12_works_214 S63_ a0 x1 Q)) ∧ (¬ x64_ ≤ x3 → (q_K S63_ a0 = 13 ∧ (((¬ (q_I S63_ 2513 a0) = 0 → (wb_X12_works_214 S63_ a0 x1 Q)) ∧ ((q_I S63_ 2513 a0) = 0 → (∃ a68_ : Nat, (q_P S63_ 2470 a0) = some a68_ ∧ (q_K S63_ a68_ = 22 ∧ (vp_in x3 (q_N S63_ a68_) ∧ ((((q_A S63_ a68_ x3.toNatClampNeg) = 0 → (wb_X12_works_208 B148 S63_ a0 x1 x3 Q)) ∧ (¬ (q_A S63_ a68_ x3.toNatClampNeg) = 0 → (∃ a73_ : Nat, (q_P S63_ 2471 a0) = some a73_ ∧ (q_K S63_ a73_ = 21 ∧ (vp_in x3 (q_N S63_ a73_) ∧ ((((q_A S63_ a73_ x3.toNatClampNeg) < (q_I S63_ 2463 a0) → (vp_in x3 (q_N S63_ a68_) ∧ (∃ a79_ : Nat, (q_P (qs_A S63_ a68_ x3.toNatClampNeg (vp_nar .boolean (0 : Int32))) 2471 a0) = some a79_ ∧ (q_K (qs_A S63_ a68_ x3.toNatClampNeg (vp_nar .boolean (0 : Int32))) a79_ = 21 ∧ (vp_in x3 (q_N (qs_A S63_ a68_ x3.toNatClampNeg (vp_nar .boolean (0 : Int32))) a79_) ∧ (wm_X12_fails (qs_A S63_ a68_ x3.toNatClampNeg (vp_nar .boolean (0 : Int32))) a0 x3 (2 : Int32) (q_A (qs_A S63_ a68_ x3.toNatClampNeg (vp_nar .boolean (0 : Int32))) a79_ x3.toNatClampNeg) (fun r83_ S84_ => r83_ = none ∧ (wb_X12_works_208 B148 S84_ a0 x1 x3 Q)))))))) ∧ (¬ (q_A S63_ a73_ x3.toNatClampNeg) < (q_I S63_ 2463 a0) → (wb_X12_works_208 B148 S63_ a0 x1 x3 Q))))))))))))))))))))))
set_option maxHeartbeats 4000000 in
set_option maxRecDepth 100000 in
theorem cb_X12_works_148 {p : Program} {l : Launch} {e : Env} {s : State} {m : MethodId} {args : Array Value} {below : List Frame} {meth : Method} {c : Code} {D : va_G} {cy : Nat → ClassId} {lo : Nat} {B148 : q_S → Nat → Int32 → Int32 → Prop} {S : q_S} {a0 : Nat} {x1 : Int32} {x3 : Int32} {Q : Option Value → q_S → Prop} {H : Heap} {locs : List Loc} {ls : Array Slot} (X : q_X p s m args meth c RX12 cX12_works 6 none D cy lo) (hB148 : ∀ (S : q_S) (a0 : Nat) (x1 : Int32) (x3 : Int32) (H : Heap) (locs : List Loc) (ls : Array Slot), B148 S a0 x1 x3 → q_Y D cy lo s S H locs → lv_has ls 6 [(0, .ref a0), (1, .int x1), (3, .int x3)] → W p l e ({ frames := 7, cells := 0, slots := 0, locals := 185 } : Room) s m args below meth c H locs 0 0 (MQ below (q_Q D cy lo Q) args s 0 0 (fun q => lo ≤ q)) (F0 m 148 ls [])) (Y : q_Y D cy lo s S H locs) (hl : lv_has ls 6 [(0, .ref a0), (1, .int x1), (3, .int x3)]) (h : wb_X12_works_148 B148 S a0 x1 x3 Q) : W p l e ({ frames := 7, cells := 0, slots := 0, locals := 185 } : Room) s m args below meth c H locs 0 0 (MQ below (q_Q D cy lo Q) args s 0 0 (fun q => lo ≤ q)) (F0 m 148 ls []) := by
  have hx := X.1
  have hb := X.2.1
  unfold wb_X12_works_148 at h
  refine lv_iload_n hx hb dX12_works_148 rfl (lv_at hl 2 rfl) ?_
  refine lv_aload_n hx hb dX12_works_149 rfl (lv_at hl 0 rfl) ?_
  refine lv_iload_n hx hb dX12_works_150 rfl (lv_at hl 1 rfl) ?_
  obtain ⟨k61_, h⟩ := h
  refine q_callV X Y hl (cm_X12_lastOf h) mt_X12_lastOf mi_X12_lastOf ml_X12_499 (ci := 12) rfl k61_ (by decide) rfl rfl (by first | exact Nat.le_of_ble_eq_true rfl | simp [q_cat, q_catI, q_catJ, q_catR]) ⟨Nat.le_of_ble_eq_true rfl, Nat.le_of_ble_eq_true rfl⟩ ⟨Nat.le_of_ble_eq_true rfl, Nat.le_of_ble_eq_true rfl⟩ dX12_works_151 (fun r62_ S63_ H locs hp Y => ?_)
  obtain ⟨x64_, rfl, h⟩ := hp
  refine W.eq (g2 := F0 m 154 ls [.int x64_, .int x3]) rfl ?_
  refine lv_icmp_ge (tgt := 214) hx hb dX12_works_154 (by decide) (fun c65_ => ?_) (fun c65_ => ?_)
  · replace h := h.1 c65_
    exact cb_X12_works_214 X Y (lv_sub hl [0, 1] rfl) h
  · replace h := h.2 c65_
    refine lv_aload_n hx hb dX12_works_157 rfl (lv_at hl 0 rfl) ?_
    obtain ⟨k66_, h⟩ := h
    refine q_getI X Y kX12 113 rfl fl_X12_509 k66_ dX12_works_158 ?_
    refine lv_if_ne (tgt := 214) hx hb dX12_works_161 (by decide) (fun c67_ => ?_) (fun c67_ => ?_)
    · replace h := h.1 c67_
      exact cb_X12_works_214 X Y (lv_sub hl [0, 1] rfl) h
    · replace h := h.2 c67_
      refine lv_aload_n hx hb dX12_works_164 rfl (lv_at hl 0 rfl) ?_
      refine q_getP X Y kX12 70 rfl fl_X12_158 k66_ rfl dX12_works_165 ?_
      refine lv_iload_n hx hb dX12_works_168 rfl (lv_at hl 2 rfl) ?_
      obtain ⟨a68_, e69_, h⟩ := h
      refine q_nn [.int x3] e69_ ?_
      obtain ⟨k70_, h⟩ := h
      obtain ⟨i71_, h⟩ := h
      refine q_zld X Y k70_ i71_ dX12_works_169 ?_
      refine lv_if_eq (tgt := 208) hx hb dX12_works_170 (by decide) (fun c72_ => ?_) (fun c72_ => ?_)
      · replace h := h.1 c72_
        exact cb_X12_works_208 X hB148 Y (lv_sub hl [0, 1, 2] rfl) h
      · replace h := h.2 c72_
        refine lv_aload_n hx hb dX12_works_173 rfl (lv_at hl 0 rfl) ?_
        refine q_getP X Y kX12 71 rfl fl_X12_161 k66_ rfl dX12_works_174 ?_
        refine lv_iload_n hx hb dX12_works_177 rfl (lv_at hl 2 rfl) ?_
        obtain ⟨a73_, e74_, h⟩ := h
        refine q_nn [.int x3] e74_ ?_
        obtain ⟨k75_, h⟩ := h
        obtain ⟨i76_, h⟩ := h
        refine q_ild X Y k75_ i76_ dX12_works_178 ?_
        refine lv_aload_n hx hb dX12_works_179 rfl (lv_at hl 0 rfl) ?_
        refine q_getI X Y kX12 63 rfl fl_X12_453 k66_ dX12_works_180 ?_
        refine lv_icmp_lt (tgt := 189) hx hb dX12_works_183 (by decide) (fun c77_ => ?_) (fun c77_ => ?_)
        · replace h := h.1 c77_
          refine lv_aload_n hx hb dX12_works_189 rfl (lv_at hl 0 rfl) ?_
          refine q_getR X Y kX12 70 rfl fl_X12_158 k66_ e69_ dX12_works_190 ?_
          refine lv_iload_n hx hb dX12_works_193 rfl (lv_at hl 2 rfl) ?_
          refine lv_iconst (v := 0) hx hb dX12_works_194 (by decide) ?_
          obtain ⟨i78_, h⟩ := h
          refine q_zst X Y k70_ i78_ dX12_works_195 (fun H locs Y => ?_)
          refine lv_aload_n hx hb dX12_works_196 rfl (lv_at hl 0 rfl) ?_
          refine lv_iload_n hx hb dX12_works_197 rfl (lv_at hl 2 rfl) ?_
          refine lv_iconst (v := 2) hx hb dX12_works_198 (by decide) ?_
          refine lv_aload_n hx hb dX12_works_199 rfl (lv_at hl 0 rfl) ?_
          refine q_getP X Y kX12 71 rfl fl_X12_161 k66_ rfl dX12_works_200 ?_
          refine lv_iload_n hx hb dX12_works_203 rfl (lv_at hl 2 rfl) ?_
          obtain ⟨a79_, e80_, h⟩ := h
          refine q_nn [.int x3] e80_ ?_
          obtain ⟨k81_, h⟩ := h
          obtain ⟨i82_, h⟩ := h
          refine q_ild X Y k81_ i82_ dX12_works_204 ?_
          refine q_callV X Y hl (cm_X12_fails h) mt_X12_fails mi_X12_fails ml_X12_521 (ci := 12) rfl k66_ (by decide) rfl rfl (by first | exact Nat.le_of_ble_eq_true rfl | simp [q_cat, q_catI, q_catJ, q_catR]) ⟨Nat.le_of_ble_eq_true rfl, Nat.le_of_ble_eq_true rfl⟩ ⟨Nat.le_of_ble_eq_true rfl, Nat.le_of_ble_eq_true rfl⟩ dX12_works_205 (fun r83_ S84_ H locs hp Y => ?_)
          obtain ⟨rfl, h⟩ := hp
          refine W.eq (g2 := F0 m 208 ls []) rfl ?_
          exact cb_X12_works_208 X hB148 Y (lv_sub hl [0, 1, 2] rfl) h
        · replace h := h.2 c77_
          refine lv_goto (tgt := 208) hx hb dX12_works_186 (by decide) ?_
          exact cb_X12_works_208 X hB148 Y (lv_sub hl [0, 1, 2] rfl) h
def wl_X12_works_148  : Nat → q_S → Nat → Int32 → Int32 → (Option Value → q_S → Prop) → Prop
  | 0, _, _, _, _, _ => False
  | n + 1, S, a0, x1, x3, Q => wb_X12_works_148 (fun S a0 x1 x3 => wl_X12_works_148 n S a0 x1 x3 Q) S a0 x1 x3 Q
set_option maxHeartbeats 4000000 in
set_option maxRecDepth 100000 in
theorem cl_X12_works_148 {p : Program} {l : Launch} {e : Env} {s : State} {m : MethodId} {args : Array Value} {below : List Frame} {meth : Method} {c : Code} {D : va_G} {cy : Nat → ClassId} {lo : Nat}  {Q : Option Value → q_S → Prop} (X : q_X p s m args meth c RX12 cX12_works 6 none D cy lo)  : ∀ (n : Nat) (S : q_S) (a0 : Nat) (x1 : Int32) (x3 : Int32) (H : Heap) (locs : List Loc) (ls : Array Slot), wl_X12_works_148 n S a0 x1 x3 Q → q_Y D cy lo s S H locs → lv_has ls 6 [(0, .ref a0), (1, .int x1), (3, .int x3)] → W p l e ({ frames := 7, cells := 0, slots := 0, locals := 185 } : Room) s m args below meth c H locs 0 0 (MQ below (q_Q D cy lo Q) args s 0 0 (fun q => lo ≤ q)) (F0 m 148 ls []) := by
  intro n
  induction n with
  | zero => intro S a0 x1 x3 H locs ls h; exact absurd h id
  | succ n ih => intro S a0 x1 x3 H locs ls h Y hl; exact cb_X12_works_148 X ih Y hl h
def wb_X12_works_2 (B2 : q_S → Nat → Int32 → Int32 → Prop) (S : q_S) (a0 : Nat) (x1 : Int32) (x2 : Int32) (Q : Option Value → q_S → Prop) : Prop := ((x2 = 0 → (∃ n86_ : Nat, wl_X12_works_148 n86_ S a0 x1 ((16 : Int32) * x1) Q)) ∧ (¬ x2 = 0 → (∃ n87_ : Nat, wl_X12_works_14 B2 n87_ S a0 x1 (-1 : Int32) ((16 : Int32) * x1) Q)))
set_option maxHeartbeats 4000000 in
set_option maxRecDepth 100000 in
theorem cb_X12_works_2 {p : Program} {l : Launch} {e : Env} {s : State} {m : MethodId} {args : Array Value} {below : List Frame} {meth : Method} {c : Code} {D : va_G} {cy : Nat → ClassId} {lo : Nat} {B2 : q_S → Nat → Int32 → Int32 → Prop} {S : q_S} {a0 : Nat} {x1 : Int32} {x2 : Int32} {Q : Option Value → q_S → Prop} {H : Heap} {locs : List Loc} {ls : Array Slot} (X : q_X p s m args meth c RX12 cX12_works 6 none D cy lo) (hB2 : ∀ (S : q_S) (a0 : Nat) (x1 : Int32) (x2 : Int32) (H : Heap) (locs : List Loc) (ls : Array Slot), B2 S a0 x1 x2 → q_Y D cy lo s S H locs → lv_has ls 6 [(0, .ref a0), (1, .int x1), (2, .int x2)] → W p l e ({ frames := 7, cells := 0, slots := 0, locals := 185 } : Room) s m args below meth c H locs 0 0 (MQ below (q_Q D cy lo Q) args s 0 0 (fun q => lo ≤ q)) (F0 m 2 ls [])) (Y : q_Y D cy lo s S H locs) (hl : lv_has ls 6 [(0, .ref a0), (1, .int x1), (2, .int x2)]) (h : wb_X12_works_2 B2 S a0 x1 x2 Q) : W p l e ({ frames := 7, cells := 0, slots := 0, locals := 185 } : Room) s m args below meth c H locs 0 0 (MQ below (q_Q D cy lo Q) args s 0 0 (fun q => lo ≤ q)) (F0 m 2 ls []) := by
  have hx := X.1
  have hb := X.2.1
  unfold wb_X12_works_2 at h
  refine lv_iload_n hx hb dX12_works_2 rfl (lv_at hl 2 rfl) ?_
  refine lv_if_eq (tgt := 143) hx hb dX12_works_3 (by decide) (fun c85_ => ?_) (fun c85_ => ?_)
  · replace h := h.1 c85_
    refine lv_bipush (v := 16) hx hb dX12_works_143 (by decide) ?_
    refine lv_iload_n hx hb dX12_works_145 rfl (lv_at hl 1 rfl) ?_
    refine lv_imul hx hb dX12_works_146 ?_
    refine lv_istore_n (i := 3) (lv' := [(3, .int ((16 : Int32) * x1)), (0, .ref a0), (1, .int x1), (2, .int x2)]) hx hb dX12_works_147 rfl hl (by decide) (by first | rfl | simp [q_cat, q_catI, q_catJ, q_catR]) (fun ls hl => ?_)
    obtain ⟨n86_, h⟩ := h
    exact cl_X12_works_148 X n86_ _ _ _ _ _ _ _ h Y (lv_sub hl [1, 2, 0] rfl)
  · replace h := h.2 c85_
    refine lv_iconst (v := (-1)) hx hb dX12_works_6 (by decide) ?_
    refine lv_istore_n (i := 3) (lv' := [(3, .int (-1 : Int32)), (0, .ref a0), (1, .int x1), (2, .int x2)]) hx hb dX12_works_7 rfl hl (by decide) (by first | rfl | simp [q_cat, q_catI, q_catJ, q_catR]) (fun ls hl => ?_)
    refine lv_bipush (v := 16) hx hb dX12_works_8 (by decide) ?_
    refine lv_iload_n hx hb dX12_works_10 rfl (lv_at hl 2 rfl) ?_
    refine lv_imul hx hb dX12_works_11 ?_
    refine lv_istore (i := 4) (lv' := [(4, .int ((16 : Int32) * x1)), (3, .int (-1 : Int32)), (0, .ref a0), (1, .int x1), (2, .int x2)]) hx hb dX12_works_12 hl (by decide) (by first | rfl | simp [q_cat, q_catI, q_catJ, q_catR]) (fun ls hl => ?_)
    obtain ⟨n87_, h⟩ := h
    exact cl_X12_works_14 X hB2 n87_ _ _ _ _ _ _ _ _ h Y (lv_sub hl [2, 3, 1, 0] rfl)
def wl_X12_works_2  : Nat → q_S → Nat → Int32 → Int32 → (Option Value → q_S → Prop) → Prop
  | 0, _, _, _, _, _ => False
  | n + 1, S, a0, x1, x2, Q => wb_X12_works_2 (fun S a0 x1 x2 => wl_X12_works_2 n S a0 x1 x2 Q) S a0 x1 x2 Q
set_option maxHeartbeats 4000000 in
set_option maxRecDepth 100000 in
theorem cl_X12_works_2 {p : Program} {l : Launch} {e : Env} {s : State} {m : MethodId} {args : Array Value} {below : List Frame} {meth : Method} {c : Code} {D : va_G} {cy : Nat → ClassId} {lo : Nat}  {Q : Option Value → q_S → Prop} (X : q_X p s m args meth c RX12 cX12_works 6 none D cy lo)  : ∀ (n : Nat) (S : q_S) (a0 : Nat) (x1 : Int32) (x2 : Int32) (H : Heap) (locs : List Loc) (ls : Array Slot), wl_X12_works_2 n S a0 x1 x2 Q → q_Y D cy lo s S H locs → lv_has ls 6 [(0, .ref a0), (1, .int x1), (2, .int x2)] → W p l e ({ frames := 7, cells := 0, slots := 0, locals := 185 } : Room) s m args below meth c H locs 0 0 (MQ below (q_Q D cy lo Q) args s 0 0 (fun q => lo ≤ q)) (F0 m 2 ls []) := by
  intro n
  induction n with
  | zero => intro S a0 x1 x2 H locs ls h; exact absurd h id
  | succ n ih => intro S a0 x1 x2 H locs ls h Y hl; exact cb_X12_works_2 X ih Y hl h
def wm_X12_works (S : q_S) (a0 : Nat) (x1 : Int32) (Q : Option Value → q_S → Prop) : Prop := ∃ n88_ : Nat, wl_X12_works_2 n88_ S a0 x1 (1 : Int32) Q
set_option maxHeartbeats 4000000 in
set_option maxRecDepth 100000 in
theorem cm_X12_works {l : Launch} {D : va_G} {cy : Nat → ClassId} {lo : Nat} {S : q_S} {a0 : Nat} {x1 : Int32} {Q : Option Value → q_S → Prop} (h : wm_X12_works S a0 x1 Q) : q_Met l D cy lo yX12_works cX12_works 6 none 7 185 0 0 [.ref a0, .int x1] S Q := by
  refine q_body (by decide) (by first | exact Nat.le_of_ble_eq_true rfl | simp [lg_sl, q_cat, q_catI, q_catJ, q_catR]) ?_
  intro p e s m below meth c ls X hnm Y hl
  have hx := X.1
  have hb := X.2.1
  have hl : lv_has ls 6 [(0, .ref a0), (1, .int x1)] := by first | exact hl | simpa [lv_args, q_cat, q_catI, q_catJ, q_catR] using hl
  generalize hargs : ([.ref a0, .int x1] : List Value).toArray = args at X ⊢
  unfold wm_X12_works at h
  refine lv_iconst (v := 1) hx hb dX12_works_0 (by decide) ?_
  refine lv_istore_n (i := 2) (lv' := [(2, .int (1 : Int32)), (0, .ref a0), (1, .int x1)]) hx hb dX12_works_1 rfl hl (by decide) (by first | rfl | simp [q_cat, q_catI, q_catJ, q_catR]) (fun ls hl => ?_)
  obtain ⟨n88_, h⟩ := h
  exact cl_X12_works_2 X n88_ _ _ _ _ _ _ _ h Y (lv_sub hl [1, 2, 0] rfl)
-- X12_tick
theorem ml_X12_518 : Cond.methodLink RX12 518 yX12_works ∈ q_G := q_tb (i := 2316) (by decide +kernel) (by decide +kernel)
theorem mt_X12_works : q_Mt yX12_works cX12_works 6 none 1 := ⟨q_tb (i := 2319) (by decide +kernel) (by decide +kernel), q_tb (i := 11) (by decide +kernel) (by decide +kernel), by decide +kernel, by decide +kernel, by decide +kernel⟩
theorem mi_X12_works : Cond.instanceMethod yX12_works ∈ q_G ∧ Cond.selects yX12_works.cls yX12_works yX12_works ∈ q_G := ⟨q_tb (i := 2318) (by decide +kernel) (by decide +kernel), q_tp (i := 135) (q := (yX12_works, 114)) (by decide +kernel) (by decide +kernel)⟩
theorem ml_X12_512 : Cond.methodLink RX12 512 yX12_comes ∈ q_G := q_tb (i := 2284) (by decide +kernel) (by decide +kernel)
theorem mt_X12_comes : q_Mt yX12_comes cX12_comes 3 none 2 := ⟨q_tb (i := 2287) (by decide +kernel) (by decide +kernel), q_tb (i := 11) (by decide +kernel) (by decide +kernel), by decide +kernel, by decide +kernel, by decide +kernel⟩
theorem mi_X12_comes : Cond.instanceMethod yX12_comes ∈ q_G ∧ Cond.selects yX12_comes.cls yX12_comes yX12_comes ∈ q_G := ⟨q_tb (i := 2286) (by decide +kernel) (by decide +kernel), q_tp (i := 127) (q := (yX12_comes, 114)) (by decide +kernel) (by decide +kernel)⟩
theorem dX12_tick_0 : decode cX12_tick 0 = .ok (.aload_n 0, 1) := by decide +kernel
theorem dX12_tick_1 : decode cX12_tick 1 = .ok (.iconst 0, 1) := by decide +kernel
theorem dX12_tick_2 : decode cX12_tick 2 = .ok (.putfield 509, 3) := by decide +kernel
theorem dX12_tick_5 : decode cX12_tick 5 = .ok (.iconst 0, 1) := by decide +kernel
theorem dX12_tick_6 : decode cX12_tick 6 = .ok (.istore_n 1, 1) := by decide +kernel
theorem dX12_tick_7 : decode cX12_tick 7 = .ok (.iload_n 1, 1) := by decide +kernel
theorem dX12_tick_8 : decode cX12_tick 8 = .ok (.aload_n 0, 1) := by decide +kernel
theorem dX12_tick_9 : decode cX12_tick 9 = .ok (.getfield 416, 3) := by decide +kernel
theorem dX12_tick_12 : decode cX12_tick 12 = .ok (.if_icmp .ge 78, 3) := by decide +kernel
theorem dX12_tick_15 : decode cX12_tick 15 = .ok (.bipush 60, 2) := by decide +kernel
theorem dX12_tick_17 : decode cX12_tick 17 = .ok (.iload_n 1, 1) := by decide +kernel
theorem dX12_tick_18 : decode cX12_tick 18 = .ok (.imul, 1) := by decide +kernel
theorem dX12_tick_19 : decode cX12_tick 19 = .ok (.aload_n 0, 1) := by decide +kernel
theorem dX12_tick_20 : decode cX12_tick 20 = .ok (.getfield 263, 3) := by decide +kernel
theorem dX12_tick_23 : decode cX12_tick 23 = .ok (.iload_n 1, 1) := by decide +kernel
theorem dX12_tick_24 : decode cX12_tick 24 = .ok (.iaload, 1) := by decide +kernel
theorem dX12_tick_25 : decode cX12_tick 25 = .ok (.iadd, 1) := by decide +kernel
theorem dX12_tick_26 : decode cX12_tick 26 = .ok (.istore_n 2, 1) := by decide +kernel
theorem dX12_tick_27 : decode cX12_tick 27 = .ok (.aload_n 0, 1) := by decide +kernel
theorem dX12_tick_28 : decode cX12_tick 28 = .ok (.getfield 263, 3) := by decide +kernel
theorem dX12_tick_31 : decode cX12_tick 31 = .ok (.iload_n 1, 1) := by decide +kernel
theorem dX12_tick_32 : decode cX12_tick 32 = .ok (.iaload, 1) := by decide +kernel
theorem dX12_tick_33 : decode cX12_tick 33 = .ok (.aload_n 0, 1) := by decide +kernel
theorem dX12_tick_34 : decode cX12_tick 34 = .ok (.getfield 260, 3) := by decide +kernel
theorem dX12_tick_37 : decode cX12_tick 37 = .ok (.iload_n 1, 1) := by decide +kernel
theorem dX12_tick_38 : decode cX12_tick 38 = .ok (.iaload, 1) := by decide +kernel
theorem dX12_tick_39 : decode cX12_tick 39 = .ok (.if_icmp .eq 45, 3) := by decide +kernel
theorem dX12_tick_42 : decode cX12_tick 42 = .ok (.aload_n 0, 1) := by decide +kernel
theorem dX12_tick_43 : decode cX12_tick 43 = .ok (.getfield 266, 3) := by decide +kernel
theorem dX12_tick_46 : decode cX12_tick 46 = .ok (.iload_n 2, 1) := by decide +kernel
theorem dX12_tick_47 : decode cX12_tick 47 = .ok (.iaload, 1) := by decide +kernel
theorem dX12_tick_48 : decode cX12_tick 48 = .ok (.aload_n 0, 1) := by decide +kernel
theorem dX12_tick_49 : decode cX12_tick 49 = .ok (.getfield 453, 3) := by decide +kernel
theorem dX12_tick_52 : decode cX12_tick 52 = .ok (.if_icmp .eq 6, 3) := by decide +kernel
theorem dX12_tick_55 : decode cX12_tick 55 = .ok (.goto 29, 3) := by decide +kernel
theorem dX12_tick_58 : decode cX12_tick 58 = .ok (.aload_n 0, 1) := by decide +kernel
theorem dX12_tick_59 : decode cX12_tick 59 = .ok (.getfield 263, 3) := by decide +kernel
theorem dX12_tick_62 : decode cX12_tick 62 = .ok (.iload_n 1, 1) := by decide +kernel
theorem dX12_tick_63 : decode cX12_tick 63 = .ok (.dup2, 1) := by decide +kernel
theorem dX12_tick_64 : decode cX12_tick 64 = .ok (.iaload, 1) := by decide +kernel
theorem dX12_tick_65 : decode cX12_tick 65 = .ok (.iconst 1, 1) := by decide +kernel
theorem dX12_tick_66 : decode cX12_tick 66 = .ok (.iadd, 1) := by decide +kernel
theorem dX12_tick_67 : decode cX12_tick 67 = .ok (.iastore, 1) := by decide +kernel
theorem dX12_tick_68 : decode cX12_tick 68 = .ok (.aload_n 0, 1) := by decide +kernel
theorem dX12_tick_69 : decode cX12_tick 69 = .ok (.aload_n 0, 1) := by decide +kernel
theorem dX12_tick_70 : decode cX12_tick 70 = .ok (.getfield 133, 3) := by decide +kernel
theorem dX12_tick_73 : decode cX12_tick 73 = .ok (.iload_n 1, 1) := by decide +kernel
theorem dX12_tick_74 : decode cX12_tick 74 = .ok (.iaload, 1) := by decide +kernel
theorem dX12_tick_75 : decode cX12_tick 75 = .ok (.aload_n 0, 1) := by decide +kernel
theorem dX12_tick_76 : decode cX12_tick 76 = .ok (.getfield 269, 3) := by decide +kernel
theorem dX12_tick_79 : decode cX12_tick 79 = .ok (.iload_n 2, 1) := by decide +kernel
theorem dX12_tick_80 : decode cX12_tick 80 = .ok (.iaload, 1) := by decide +kernel
theorem dX12_tick_81 : decode cX12_tick 81 = .ok (.invokevirtual 512, 3) := by decide +kernel
theorem dX12_tick_84 : decode cX12_tick 84 = .ok (.iinc 1 1, 3) := by decide +kernel
theorem dX12_tick_87 : decode cX12_tick 87 = .ok (.goto (-80), 3) := by decide +kernel
theorem dX12_tick_90 : decode cX12_tick 90 = .ok (.aload_n 0, 1) := by decide +kernel
theorem dX12_tick_91 : decode cX12_tick 91 = .ok (.getfield 136, 3) := by decide +kernel
theorem dX12_tick_94 : decode cX12_tick 94 = .ok (.aload_n 0, 1) := by decide +kernel
theorem dX12_tick_95 : decode cX12_tick 95 = .ok (.invokevirtual 515, 3) := by decide +kernel
theorem dX12_tick_98 : decode cX12_tick 98 = .ok (.iaload, 1) := by decide +kernel
theorem dX12_tick_99 : decode cX12_tick 99 = .ok (.istore_n 1, 1) := by decide +kernel
theorem dX12_tick_100 : decode cX12_tick 100 = .ok (.aload_n 0, 1) := by decide +kernel
theorem dX12_tick_101 : decode cX12_tick 101 = .ok (.getfield 197, 3) := by decide +kernel
theorem dX12_tick_104 : decode cX12_tick 104 = .ok (.iload_n 1, 1) := by decide +kernel
theorem dX12_tick_105 : decode cX12_tick 105 = .ok (.iaload, 1) := by decide +kernel
theorem dX12_tick_106 : decode cX12_tick 106 = .ok (.ifCond .ne 8, 3) := by decide +kernel
theorem dX12_tick_109 : decode cX12_tick 109 = .ok (.aload_n 0, 1) := by decide +kernel
theorem dX12_tick_110 : decode cX12_tick 110 = .ok (.iload_n 1, 1) := by decide +kernel
theorem dX12_tick_111 : decode cX12_tick 111 = .ok (.invokevirtual 518, 3) := by decide +kernel
theorem dX12_tick_114 : decode cX12_tick 114 = .ok (.aload_n 0, 1) := by decide +kernel
theorem dX12_tick_115 : decode cX12_tick 115 = .ok (.dup, 1) := by decide +kernel
theorem dX12_tick_116 : decode cX12_tick 116 = .ok (.getfield 453, 3) := by decide +kernel
theorem dX12_tick_119 : decode cX12_tick 119 = .ok (.iconst 1, 1) := by decide +kernel
theorem dX12_tick_120 : decode cX12_tick 120 = .ok (.iadd, 1) := by decide +kernel
theorem dX12_tick_121 : decode cX12_tick 121 = .ok (.putfield 453, 3) := by decide +kernel
theorem dX12_tick_124 : decode cX12_tick 124 = .ok (.return_, 1) := by decide +kernel
def wb_X12_tick_84 (B7 : q_S → Nat → Int32 → Prop) (S : q_S) (a0 : Nat) (x1 : Int32) (Q : Option Value → q_S → Prop) : Prop := B7 S a0 (x1 + 1)
set_option maxHeartbeats 4000000 in
set_option maxRecDepth 100000 in
theorem cb_X12_tick_84 {p : Program} {l : Launch} {e : Env} {s : State} {m : MethodId} {args : Array Value} {below : List Frame} {meth : Method} {c : Code} {D : va_G} {cy : Nat → ClassId} {lo : Nat} {B7 : q_S → Nat → Int32 → Prop} {S : q_S} {a0 : Nat} {x1 : Int32} {Q : Option Value → q_S → Prop} {H : Heap} {locs : List Loc} {ls : Array Slot} (X : q_X p s m args meth c RX12 cX12_tick 3 none D cy lo) (hB7 : ∀ (S : q_S) (a0 : Nat) (x1 : Int32) (H : Heap) (locs : List Loc) (ls : Array Slot), B7 S a0 x1 → q_Y D cy lo s S H locs → lv_has ls 3 [(0, .ref a0), (1, .int x1)] → W p l e ({ frames := 8, cells := 0, slots := 0, locals := 210 } : Room) s m args below meth c H locs 0 0 (MQ below (q_Q D cy lo Q) args s 0 0 (fun q => lo ≤ q)) (F0 m 7 ls [])) (Y : q_Y D cy lo s S H locs) (hl : lv_has ls 3 [(0, .ref a0), (1, .int x1)]) (h : wb_X12_tick_84 B7 S a0 x1 Q) : W p l e ({ frames := 8, cells := 0, slots := 0, locals := 210 } : Room) s m args below meth c H locs 0 0 (MQ below (q_Q D cy lo Q) args s 0 0 (fun q => lo ≤ q)) (F0 m 84 ls []) := by
  have hx := X.1
  have hb := X.2.1
  unfold wb_X12_tick_84 at h
  refine lv_iinc (v := (x1 + 1)) (lv' := [(1, .int (x1 + 1)), (0, .ref a0)]) hx hb dX12_tick_84 hl (k := 1) rfl (by first | rfl | decide) (by decide) (by first | rfl | simp [q_cat, q_catI, q_catJ, q_catR]) (fun ls hl => ?_)
  refine lv_goto (tgt := 7) hx hb dX12_tick_87 (by decide) ?_
  exact hB7 _ _ _ _ _ _ h Y (lv_sub hl [1, 0] rfl)
def wb_X12_tick_114  (S : q_S) (a0 : Nat) (Q : Option Value → q_S → Prop) : Prop := q_K S a0 = 13 ∧ (Q none (qs_I S 2463 a0 ((q_I S 2463 a0) + (1 : Int32))))
set_option maxHeartbeats 4000000 in
set_option maxRecDepth 100000 in
theorem cb_X12_tick_114 {p : Program} {l : Launch} {e : Env} {s : State} {m : MethodId} {args : Array Value} {below : List Frame} {meth : Method} {c : Code} {D : va_G} {cy : Nat → ClassId} {lo : Nat}  {S : q_S} {a0 : Nat} {Q : Option Value → q_S → Prop} {H : Heap} {locs : List Loc} {ls : Array Slot} (X : q_X p s m args meth c RX12 cX12_tick 3 none D cy lo)  (Y : q_Y D cy lo s S H locs) (hl : lv_has ls 3 [(0, .ref a0)]) (h : wb_X12_tick_114 S a0 Q) : W p l e ({ frames := 8, cells := 0, slots := 0, locals := 210 } : Room) s m args below meth c H locs 0 0 (MQ below (q_Q D cy lo Q) args s 0 0 (fun q => lo ≤ q)) (F0 m 114 ls []) := by
  have hx := X.1
  have hb := X.2.1
  unfold wb_X12_tick_114 at h
  refine lv_aload_n hx hb dX12_tick_114 rfl (lv_at hl 0 rfl) ?_
  refine lv_dup hx hb dX12_tick_115 rfl ?_
  obtain ⟨k1_, h⟩ := h
  refine q_getI X Y kX12 63 rfl fl_X12_453 k1_ dX12_tick_116 ?_
  refine lv_iconst (v := 1) hx hb dX12_tick_119 (by decide) ?_
  refine lv_iadd hx hb dX12_tick_120 ?_
  refine q_putI X Y kX12 63 rfl fl_X12_453 k1_ .int rfl ⟨rfl, rfl⟩ rfl dX12_tick_121 (fun H locs Y => ?_)
  exact q_vret X Y (Nat.le_refl _) (Nat.le_refl _) h dX12_tick_124
def wb_X12_tick_7 (B7 : q_S → Nat → Int32 → Prop) (S : q_S) (a0 : Nat) (x1 : Int32) (Q : Option Value → q_S → Prop) : Prop := q_K S a0 = 13 ∧ ((((q_I S 2418 a0) ≤ x1 → (wm_X12_window S a0 (fun r4_ S5_ => ∃ x6_ : Int32, r4_ = some (.int x6_) ∧ (∃ a7_ : Nat, (q_P S 2461 a0) = some a7_ ∧ (q_K S5_ a7_ = 21 ∧ (vp_in x6_ (q_N S5_ a7_) ∧ (q_K S5_ a0 = 13 ∧ (∃ a12_ : Nat, (q_P S5_ 2483 a0) = some a12_ ∧ (q_K S5_ a12_ = 21 ∧ (vp_in (q_A S5_ a7_ x6_.toNatClampNeg) (q_N S5_ a12_) ∧ (((¬ (q_A S5_ a12_ (q_A S5_ a7_ x6_.toNatClampNeg).toNatClampNeg) = 0 → (wb_X12_tick_114 S5_ a0 Q)) ∧ ((q_A S5_ a12_ (q_A S5_ a7_ x6_.toNatClampNeg).toNatClampNeg) = 0 → (wm_X12_works S5_ a0 (q_A S5_ a7_ x6_.toNatClampNeg) (fun r17_ S18_ => r17_ = none ∧ (wb_X12_tick_114 S18_ a0 Q)))))))))))))))) ∧ (¬ (q_I S 2418 a0) ≤ x1 → (∃ a19_ : Nat, (q_P S 2505 a0) = some a19_ ∧ (q_K S a19_ = 21 ∧ (vp_in x1 (q_N S a19_) ∧ (vp_in x1 (q_N S a19_) ∧ (∃ a24_ : Nat, (q_P S 2504 a0) = some a24_ ∧ (q_K S a24_ = 21 ∧ (vp_in x1 (q_N S a24_) ∧ ((((q_A S a19_ x1.toNatClampNeg) = (q_A S a24_ x1.toNatClampNeg) → (wb_X12_tick_84 B7 S a0 x1 Q)) ∧ (¬ (q_A S a19_ x1.toNatClampNeg) = (q_A S a24_ x1.toNatClampNeg) → (∃ a29_ : Nat, (q_P S 2506 a0) = some a29_ ∧ (q_K S a29_ = 21 ∧ (vp_in (((60 : Int32) * x1) + (q_A S a19_ x1.toNatClampNeg)) (q_N S a29_) ∧ ((((q_A S a29_ (((60 : Int32) * x1) + (q_A S a19_ x1.toNatClampNeg)).toNatClampNeg) = (q_I S 2463 a0) → (vp_in x1 (q_N S a19_) ∧ (vp_in x1 (q_N S a19_) ∧ (∃ a36_ : Nat, (q_P (qs_A S a19_ x1.toNatClampNeg ((q_A S a19_ x1.toNatClampNeg) + (1 : Int32))) 2460 a0) = some a36_ ∧ (q_K (qs_A S a19_ x1.toNatClampNeg ((q_A S a19_ x1.toNatClampNeg) + (1 : Int32))) a36_ = 21 ∧ (vp_in x1 (q_N (qs_A S a19_ x1.toNatClampNeg ((q_A S a19_ x1.toNatClampNeg) + (1 : Int32))) a36_) ∧ (∃ a40_ : Nat, (q_P (qs_A S a19_ x1.toNatClampNeg ((q_A S a19_ x1.toNatClampNeg) + (1 : Int32))) 2507 a0) = some a40_ ∧ (q_K (qs_A S a19_ x1.toNatClampNeg ((q_A S a19_ x1.toNatClampNeg) + (1 : Int32))) a40_ = 21 ∧ (vp_in (((60 : Int32) * x1) + (q_A S a19_ x1.toNatClampNeg)) (q_N (qs_A S a19_ x1.toNatClampNeg ((q_A S a19_ x1.toNatClampNeg) + (1 : Int32))) a40_) ∧ (wm_X12_comes (qs_A S a19_ x1.toNatClampNeg ((q_A S a19_ x1.toNatClampNeg) + (1 : Int32))) a0 (q_A (qs_A S a19_ x1.toNatClampNeg ((q_A S a19_ x1.toNatClampNeg) + (1 : Int32))) a36_ x1.toNatClampNeg) (q_A (qs_A S a19_ x1.toNatClampNeg ((q_A S a19_ x1.toNatClampNeg) + (1 : Int32))) a40_ (((60 : Int32) * x1) + (q_A S a19_ x1.toNatClampNeg)).toNatClampNeg) (fun r44_ S45_ => r44_ = none ∧ (wb_X12_tick_84 B7 S45_ a0 x1 Q)))))))))))) ∧ (¬ (q_A S a29_ (((60 : Int32) * x1) + (q_A S a19_ x1.toNatClampNeg)).toNatClampNeg) = (q_I S 2463 a0) → (wb_X12_tick_84 B7 S a0 x1 Q))))))))))))))))))))
set_option maxHeartbeats 4000000 in
set_option maxRecDepth 100000 in
theorem cb_X12_tick_7 {p : Program} {l : Launch} {e : Env} {s : State} {m : MethodId} {args : Array Value} {below : List Frame} {meth : Method} {c : Code} {D : va_G} {cy : Nat → ClassId} {lo : Nat} {B7 : q_S → Nat → Int32 → Prop} {S : q_S} {a0 : Nat} {x1 : Int32} {Q : Option Value → q_S → Prop} {H : Heap} {locs : List Loc} {ls : Array Slot} (X : q_X p s m args meth c RX12 cX12_tick 3 none D cy lo) (hB7 : ∀ (S : q_S) (a0 : Nat) (x1 : Int32) (H : Heap) (locs : List Loc) (ls : Array Slot), B7 S a0 x1 → q_Y D cy lo s S H locs → lv_has ls 3 [(0, .ref a0), (1, .int x1)] → W p l e ({ frames := 8, cells := 0, slots := 0, locals := 210 } : Room) s m args below meth c H locs 0 0 (MQ below (q_Q D cy lo Q) args s 0 0 (fun q => lo ≤ q)) (F0 m 7 ls [])) (Y : q_Y D cy lo s S H locs) (hl : lv_has ls 3 [(0, .ref a0), (1, .int x1)]) (h : wb_X12_tick_7 B7 S a0 x1 Q) : W p l e ({ frames := 8, cells := 0, slots := 0, locals := 210 } : Room) s m args below meth c H locs 0 0 (MQ below (q_Q D cy lo Q) args s 0 0 (fun q => lo ≤ q)) (F0 m 7 ls []) := by
  have hx := X.1
  have hb := X.2.1
  unfold wb_X12_tick_7 at h
  refine lv_iload_n hx hb dX12_tick_7 rfl (lv_at hl 1 rfl) ?_
  refine lv_aload_n hx hb dX12_tick_8 rfl (lv_at hl 0 rfl) ?_
  obtain ⟨k2_, h⟩ := h
  refine q_getI X Y kX12 18 rfl fl_X12_416 k2_ dX12_tick_9 ?_
  refine lv_icmp_ge (tgt := 90) hx hb dX12_tick_12 (by decide) (fun c3_ => ?_) (fun c3_ => ?_)
  · replace h := h.1 c3_
    refine lv_aload_n hx hb dX12_tick_90 rfl (lv_at hl 0 rfl) ?_
    refine q_getP X Y kX12 61 rfl fl_X12_136 k2_ rfl dX12_tick_91 ?_
    refine lv_aload_n hx hb dX12_tick_94 rfl (lv_at hl 0 rfl) ?_
    refine q_callV X Y hl (cm_X12_window h) mt_X12_window mi_X12_window ml_X12_515 (ci := 12) rfl k2_ (by decide) rfl rfl (by first | exact Nat.le_of_ble_eq_true rfl | simp [q_cat, q_catI, q_catJ, q_catR]) ⟨Nat.le_of_ble_eq_true rfl, Nat.le_of_ble_eq_true rfl⟩ ⟨Nat.le_of_ble_eq_true rfl, Nat.le_of_ble_eq_true rfl⟩ dX12_tick_95 (fun r4_ S5_ H locs hp Y => ?_)
    obtain ⟨x6_, rfl, h⟩ := hp
    refine W.eq (g2 := F0 m 98 ls [.int x6_, va_rf (q_P S 2461 a0)]) rfl ?_
    obtain ⟨a7_, e8_, h⟩ := h
    refine q_nn [.int x6_] e8_ ?_
    obtain ⟨k9_, h⟩ := h
    obtain ⟨i10_, h⟩ := h
    refine q_ild X Y k9_ i10_ dX12_tick_98 ?_
    refine lv_istore_n (i := 1) (lv' := [(1, .int (q_A S5_ a7_ x6_.toNatClampNeg)), (0, .ref a0)]) hx hb dX12_tick_99 rfl hl (by decide) (by first | rfl | simp [q_cat, q_catI, q_catJ, q_catR]) (fun ls hl => ?_)
    refine lv_aload_n hx hb dX12_tick_100 rfl (lv_at hl 1 rfl) ?_
    obtain ⟨k11_, h⟩ := h
    refine q_getP X Y kX12 83 rfl fl_X12_197 k11_ rfl dX12_tick_101 ?_
    refine lv_iload_n hx hb dX12_tick_104 rfl (lv_at hl 0 rfl) ?_
    obtain ⟨a12_, e13_, h⟩ := h
    refine q_nn [.int (q_A S5_ a7_ x6_.toNatClampNeg)] e13_ ?_
    obtain ⟨k14_, h⟩ := h
    obtain ⟨i15_, h⟩ := h
    refine q_ild X Y k14_ i15_ dX12_tick_105 ?_
    refine lv_if_ne (tgt := 114) hx hb dX12_tick_106 (by decide) (fun c16_ => ?_) (fun c16_ => ?_)
    · replace h := h.1 c16_
      exact cb_X12_tick_114 X Y (lv_sub hl [1] rfl) h
    · replace h := h.2 c16_
      refine lv_aload_n hx hb dX12_tick_109 rfl (lv_at hl 1 rfl) ?_
      refine lv_iload_n hx hb dX12_tick_110 rfl (lv_at hl 0 rfl) ?_
      refine q_callV X Y hl (cm_X12_works h) mt_X12_works mi_X12_works ml_X12_518 (ci := 12) rfl k11_ (by decide) rfl rfl (by first | exact Nat.le_of_ble_eq_true rfl | simp [q_cat, q_catI, q_catJ, q_catR]) ⟨Nat.le_of_ble_eq_true rfl, Nat.le_of_ble_eq_true rfl⟩ ⟨Nat.le_of_ble_eq_true rfl, Nat.le_of_ble_eq_true rfl⟩ dX12_tick_111 (fun r17_ S18_ H locs hp Y => ?_)
      obtain ⟨rfl, h⟩ := hp
      refine W.eq (g2 := F0 m 114 ls []) rfl ?_
      exact cb_X12_tick_114 X Y (lv_sub hl [1] rfl) h
  · replace h := h.2 c3_
    refine lv_bipush (v := 60) hx hb dX12_tick_15 (by decide) ?_
    refine lv_iload_n hx hb dX12_tick_17 rfl (lv_at hl 1 rfl) ?_
    refine lv_imul hx hb dX12_tick_18 ?_
    refine lv_aload_n hx hb dX12_tick_19 rfl (lv_at hl 0 rfl) ?_
    refine q_getP X Y kX12 105 rfl fl_X12_263 k2_ rfl dX12_tick_20 ?_
    refine lv_iload_n hx hb dX12_tick_23 rfl (lv_at hl 1 rfl) ?_
    obtain ⟨a19_, e20_, h⟩ := h
    refine q_nn [.int x1] e20_ ?_
    obtain ⟨k21_, h⟩ := h
    obtain ⟨i22_, h⟩ := h
    refine q_ild X Y k21_ i22_ dX12_tick_24 ?_
    refine lv_iadd hx hb dX12_tick_25 ?_
    refine lv_istore_n (i := 2) (lv' := [(2, .int (((60 : Int32) * x1) + (q_A S a19_ x1.toNatClampNeg))), (0, .ref a0), (1, .int x1)]) hx hb dX12_tick_26 rfl hl (by decide) (by first | rfl | simp [q_cat, q_catI, q_catJ, q_catR]) (fun ls hl => ?_)
    refine lv_aload_n hx hb dX12_tick_27 rfl (lv_at hl 1 rfl) ?_
    refine q_getR X Y kX12 105 rfl fl_X12_263 k2_ e20_ dX12_tick_28 ?_
    refine lv_iload_n hx hb dX12_tick_31 rfl (lv_at hl 2 rfl) ?_
    obtain ⟨i23_, h⟩ := h
    refine q_ild X Y k21_ i23_ dX12_tick_32 ?_
    refine lv_aload_n hx hb dX12_tick_33 rfl (lv_at hl 1 rfl) ?_
    refine q_getP X Y kX12 104 rfl fl_X12_260 k2_ rfl dX12_tick_34 ?_
    refine lv_iload_n hx hb dX12_tick_37 rfl (lv_at hl 2 rfl) ?_
    obtain ⟨a24_, e25_, h⟩ := h
    refine q_nn [.int x1] e25_ ?_
    obtain ⟨k26_, h⟩ := h
    obtain ⟨i27_, h⟩ := h
    refine q_ild X Y k26_ i27_ dX12_tick_38 ?_
    refine lv_icmp_eq (tgt := 84) hx hb dX12_tick_39 (by decide) (fun c28_ => ?_) (fun c28_ => ?_)
    · replace h := h.1 c28_
      exact cb_X12_tick_84 X hB7 Y (lv_sub hl [1, 2] rfl) h
    · replace h := h.2 c28_
      refine lv_aload_n hx hb dX12_tick_42 rfl (lv_at hl 1 rfl) ?_
      refine q_getP X Y kX12 106 rfl fl_X12_266 k2_ rfl dX12_tick_43 ?_
      refine lv_iload_n hx hb dX12_tick_46 rfl (lv_at hl 0 rfl) ?_
      obtain ⟨a29_, e30_, h⟩ := h
      refine q_nn [.int (((60 : Int32) * x1) + (q_A S a19_ x1.toNatClampNeg))] e30_ ?_
      obtain ⟨k31_, h⟩ := h
      obtain ⟨i32_, h⟩ := h
      refine q_ild X Y k31_ i32_ dX12_tick_47 ?_
      refine lv_aload_n hx hb dX12_tick_48 rfl (lv_at hl 1 rfl) ?_
      refine q_getI X Y kX12 63 rfl fl_X12_453 k2_ dX12_tick_49 ?_
      refine lv_icmp_eq (tgt := 58) hx hb dX12_tick_52 (by decide) (fun c33_ => ?_) (fun c33_ => ?_)
      · replace h := h.1 c33_
        refine lv_aload_n hx hb dX12_tick_58 rfl (lv_at hl 1 rfl) ?_
        refine q_getR X Y kX12 105 rfl fl_X12_263 k2_ e20_ dX12_tick_59 ?_
        refine lv_iload_n hx hb dX12_tick_62 rfl (lv_at hl 2 rfl) ?_
        refine lv_dup2_11 hx hb dX12_tick_63 rfl rfl ?_
        obtain ⟨i34_, h⟩ := h
        refine q_ild X Y k21_ i34_ dX12_tick_64 ?_
        refine lv_iconst (v := 1) hx hb dX12_tick_65 (by decide) ?_
        refine lv_iadd hx hb dX12_tick_66 ?_
        obtain ⟨i35_, h⟩ := h
        refine q_ist X Y k21_ i35_ dX12_tick_67 (fun H locs Y => ?_)
        refine lv_aload_n hx hb dX12_tick_68 rfl (lv_at hl 1 rfl) ?_
        refine lv_aload_n hx hb dX12_tick_69 rfl (lv_at hl 1 rfl) ?_
        refine q_getP X Y kX12 60 rfl fl_X12_133 k2_ rfl dX12_tick_70 ?_
        refine lv_iload_n hx hb dX12_tick_73 rfl (lv_at hl 2 rfl) ?_
        obtain ⟨a36_, e37_, h⟩ := h
        refine q_nn [.int x1] e37_ ?_
        obtain ⟨k38_, h⟩ := h
        obtain ⟨i39_, h⟩ := h
        refine q_ild X Y k38_ i39_ dX12_tick_74 ?_
        refine lv_aload_n hx hb dX12_tick_75 rfl (lv_at hl 1 rfl) ?_
        refine q_getP X Y kX12 107 rfl fl_X12_269 k2_ rfl dX12_tick_76 ?_
        refine lv_iload_n hx hb dX12_tick_79 rfl (lv_at hl 0 rfl) ?_
        obtain ⟨a40_, e41_, h⟩ := h
        refine q_nn [.int (((60 : Int32) * x1) + (q_A S a19_ x1.toNatClampNeg))] e41_ ?_
        obtain ⟨k42_, h⟩ := h
        obtain ⟨i43_, h⟩ := h
        refine q_ild X Y k42_ i43_ dX12_tick_80 ?_
        refine q_callV X Y hl (cm_X12_comes h) mt_X12_comes mi_X12_comes ml_X12_512 (ci := 12) rfl k2_ (by decide) rfl rfl (by first | exact Nat.le_of_ble_eq_true rfl | simp [q_cat, q_catI, q_catJ, q_catR]) ⟨Nat.le_of_ble_eq_true rfl, Nat.le_of_ble_eq_true rfl⟩ ⟨Nat.le_of_ble_eq_true rfl, Nat.le_of_ble_eq_true rfl⟩ dX12_tick_81 (fun r44_ S45_ H locs hp Y => ?_)
        obtain ⟨rfl, h⟩ := hp
        refine W.eq (g2 := F0 m 84 ls []) rfl ?_
        exact cb_X12_tick_84 X hB7 Y (lv_sub hl [1, 2] rfl) h
      · replace h := h.2 c33_
        refine lv_goto (tgt := 84) hx hb dX12_tick_55 (by decide) ?_
        exact cb_X12_tick_84 X hB7 Y (lv_sub hl [1, 2] rfl) h
def wl_X12_tick_7  : Nat → q_S → Nat → Int32 → (Option Value → q_S → Prop) → Prop
  | 0, _, _, _, _ => False
  | n + 1, S, a0, x1, Q => wb_X12_tick_7 (fun S a0 x1 => wl_X12_tick_7 n S a0 x1 Q) S a0 x1 Q
set_option maxHeartbeats 4000000 in
set_option maxRecDepth 100000 in
theorem cl_X12_tick_7 {p : Program} {l : Launch} {e : Env} {s : State} {m : MethodId} {args : Array Value} {below : List Frame} {meth : Method} {c : Code} {D : va_G} {cy : Nat → ClassId} {lo : Nat}  {Q : Option Value → q_S → Prop} (X : q_X p s m args meth c RX12 cX12_tick 3 none D cy lo)  : ∀ (n : Nat) (S : q_S) (a0 : Nat) (x1 : Int32) (H : Heap) (locs : List Loc) (ls : Array Slot), wl_X12_tick_7 n S a0 x1 Q → q_Y D cy lo s S H locs → lv_has ls 3 [(0, .ref a0), (1, .int x1)] → W p l e ({ frames := 8, cells := 0, slots := 0, locals := 210 } : Room) s m args below meth c H locs 0 0 (MQ below (q_Q D cy lo Q) args s 0 0 (fun q => lo ≤ q)) (F0 m 7 ls []) := by
  intro n
  induction n with
  | zero => intro S a0 x1 H locs ls h; exact absurd h id
  | succ n ih => intro S a0 x1 H locs ls h Y hl; exact cb_X12_tick_7 X ih Y hl h
def wm_X12_tick (S : q_S) (a0 : Nat) (Q : Option Value → q_S → Prop) : Prop := q_K S a0 = 13 ∧ (∃ n47_ : Nat, wl_X12_tick_7 n47_ (qs_I S 2513 a0 (0 : Int32)) a0 (0 : Int32) Q)
set_option maxHeartbeats 4000000 in
set_option maxRecDepth 100000 in
theorem cm_X12_tick {l : Launch} {D : va_G} {cy : Nat → ClassId} {lo : Nat} {S : q_S} {a0 : Nat} {Q : Option Value → q_S → Prop} (h : wm_X12_tick S a0 Q) : q_Met l D cy lo yX12_tick cX12_tick 3 none 8 210 0 0 [.ref a0] S Q := by
  refine q_body (by decide) (by first | exact Nat.le_of_ble_eq_true rfl | simp [lg_sl, q_cat, q_catI, q_catJ, q_catR]) ?_
  intro p e s m below meth c ls X hnm Y hl
  have hx := X.1
  have hb := X.2.1
  have hl : lv_has ls 3 [(0, .ref a0)] := by first | exact hl | simpa [lv_args, q_cat, q_catI, q_catJ, q_catR] using hl
  generalize hargs : ([.ref a0] : List Value).toArray = args at X ⊢
  unfold wm_X12_tick at h
  refine lv_aload_n hx hb dX12_tick_0 rfl (lv_at hl 0 rfl) ?_
  refine lv_iconst (v := 0) hx hb dX12_tick_1 (by decide) ?_
  obtain ⟨k46_, h⟩ := h
  refine q_putI X Y kX12 113 rfl fl_X12_509 k46_ .boolean rfl ⟨rfl, rfl⟩ rfl dX12_tick_2 (fun H locs Y => ?_)
  refine lv_iconst (v := 0) hx hb dX12_tick_5 (by decide) ?_
  refine lv_istore_n (i := 1) (lv' := [(1, .int (0 : Int32)), (0, .ref a0)]) hx hb dX12_tick_6 rfl hl (by decide) (by first | rfl | simp [q_cat, q_catI, q_catJ, q_catR]) (fun ls hl => ?_)
  obtain ⟨n47_, h⟩ := h
  exact cl_X12_tick_7 X n47_ _ _ _ _ _ _ h Y (lv_sub hl [1, 0] rfl)
-- X12_run
theorem ml_X12_478 : Cond.methodLink RX12 478 yX12_tick ∈ q_G := q_tb (i := 2280) (by decide +kernel) (by decide +kernel)
theorem mt_X12_tick : q_Mt yX12_tick cX12_tick 3 none 0 := ⟨q_tb (i := 2283) (by decide +kernel) (by decide +kernel), q_tb (i := 11) (by decide +kernel) (by decide +kernel), by decide +kernel, by decide +kernel, by decide +kernel⟩
theorem mi_X12_tick : Cond.instanceMethod yX12_tick ∈ q_G ∧ Cond.selects yX12_tick.cls yX12_tick yX12_tick ∈ q_G := ⟨q_tb (i := 2282) (by decide +kernel) (by decide +kernel), q_tp (i := 126) (q := (yX12_tick, 114)) (by decide +kernel) (by decide +kernel)⟩
theorem dX12_run_0 : decode cX12_run 0 = .ok (.aload_n 0, 1) := by decide +kernel
theorem dX12_run_1 : decode cX12_run 1 = .ok (.aload_n 0, 1) := by decide +kernel
theorem dX12_run_2 : decode cX12_run 2 = .ok (.getfield 450, 3) := by decide +kernel
theorem dX12_run_5 : decode cX12_run 5 = .ok (.ifCond .ne 7, 3) := by decide +kernel
theorem dX12_run_8 : decode cX12_run 8 = .ok (.iconst 1, 1) := by decide +kernel
theorem dX12_run_9 : decode cX12_run 9 = .ok (.goto 19, 3) := by decide +kernel
theorem dX12_run_12 : decode cX12_run 12 = .ok (.iload_n 1, 1) := by decide +kernel
theorem dX12_run_13 : decode cX12_run 13 = .ok (.ifCond .lt 10, 3) := by decide +kernel
theorem dX12_run_16 : decode cX12_run 16 = .ok (.iload_n 1, 1) := by decide +kernel
theorem dX12_run_17 : decode cX12_run 17 = .ok (.sipush 500, 3) := by decide +kernel
theorem dX12_run_20 : decode cX12_run 20 = .ok (.if_icmp .le 7, 3) := by decide +kernel
theorem dX12_run_23 : decode cX12_run 23 = .ok (.iconst 2, 1) := by decide +kernel
theorem dX12_run_24 : decode cX12_run 24 = .ok (.goto 4, 3) := by decide +kernel
theorem dX12_run_27 : decode cX12_run 27 = .ok (.iconst 0, 1) := by decide +kernel
theorem dX12_run_28 : decode cX12_run 28 = .ok (.putfield 278, 3) := by decide +kernel
theorem dX12_run_31 : decode cX12_run 31 = .ok (.aload_n 0, 1) := by decide +kernel
theorem dX12_run_32 : decode cX12_run 32 = .ok (.getfield 278, 3) := by decide +kernel
theorem dX12_run_35 : decode cX12_run 35 = .ok (.ifCond .le 5, 3) := by decide +kernel
theorem dX12_run_38 : decode cX12_run 38 = .ok (.iconst 0, 1) := by decide +kernel
theorem dX12_run_39 : decode cX12_run 39 = .ok (.ireturn, 1) := by decide +kernel
theorem dX12_run_40 : decode cX12_run 40 = .ok (.aload_n 0, 1) := by decide +kernel
theorem dX12_run_41 : decode cX12_run 41 = .ok (.getfield 465, 3) := by decide +kernel
theorem dX12_run_44 : decode cX12_run 44 = .ok (.istore_n 2, 1) := by decide +kernel
theorem dX12_run_45 : decode cX12_run 45 = .ok (.iconst 0, 1) := by decide +kernel
theorem dX12_run_46 : decode cX12_run 46 = .ok (.istore_n 3, 1) := by decide +kernel
theorem dX12_run_47 : decode cX12_run 47 = .ok (.iload_n 3, 1) := by decide +kernel
theorem dX12_run_48 : decode cX12_run 48 = .ok (.iload_n 1, 1) := by decide +kernel
theorem dX12_run_49 : decode cX12_run 49 = .ok (.if_icmp .ge 13, 3) := by decide +kernel
theorem dX12_run_52 : decode cX12_run 52 = .ok (.aload_n 0, 1) := by decide +kernel
theorem dX12_run_53 : decode cX12_run 53 = .ok (.invokevirtual 478, 3) := by decide +kernel
theorem dX12_run_56 : decode cX12_run 56 = .ok (.iinc 3 1, 3) := by decide +kernel
theorem dX12_run_59 : decode cX12_run 59 = .ok (.goto (-12), 3) := by decide +kernel
theorem dX12_run_62 : decode cX12_run 62 = .ok (.aload_n 0, 1) := by decide +kernel
theorem dX12_run_63 : decode cX12_run 63 = .ok (.getfield 465, 3) := by decide +kernel
theorem dX12_run_66 : decode cX12_run 66 = .ok (.iload_n 2, 1) := by decide +kernel
theorem dX12_run_67 : decode cX12_run 67 = .ok (.isub, 1) := by decide +kernel
theorem dX12_run_68 : decode cX12_run 68 = .ok (.ireturn, 1) := by decide +kernel
def wb_X12_run_47 (B47 : q_S → Nat → Int32 → Int32 → Int32 → Prop) (S : q_S) (a0 : Nat) (x1 : Int32) (x2 : Int32) (x3 : Int32) (Q : Option Value → q_S → Prop) : Prop := ((x1 ≤ x3 → (q_K S a0 = 13 ∧ (Q (some (.int ((q_I S 2510 a0) - x2))) S))) ∧ (¬ x1 ≤ x3 → (q_K S a0 = 13 ∧ (wm_X12_tick S a0 (fun r4_ S5_ => r4_ = none ∧ (B47 S5_ a0 x1 x2 (x3 + 1)))))))
set_option maxHeartbeats 4000000 in
set_option maxRecDepth 100000 in
theorem cb_X12_run_47 {p : Program} {l : Launch} {e : Env} {s : State} {m : MethodId} {args : Array Value} {below : List Frame} {meth : Method} {c : Code} {D : va_G} {cy : Nat → ClassId} {lo : Nat} {B47 : q_S → Nat → Int32 → Int32 → Int32 → Prop} {S : q_S} {a0 : Nat} {x1 : Int32} {x2 : Int32} {x3 : Int32} {Q : Option Value → q_S → Prop} {H : Heap} {locs : List Loc} {ls : Array Slot} (X : q_X p s m args meth c RX12 cX12_run 4 (some .int) D cy lo) (hB47 : ∀ (S : q_S) (a0 : Nat) (x1 : Int32) (x2 : Int32) (x3 : Int32) (H : Heap) (locs : List Loc) (ls : Array Slot), B47 S a0 x1 x2 x3 → q_Y D cy lo s S H locs → lv_has ls 4 [(0, .ref a0), (1, .int x1), (2, .int x2), (3, .int x3)] → W p l e ({ frames := 9, cells := 0, slots := 0, locals := 232 } : Room) s m args below meth c H locs 0 0 (MQ below (q_Q D cy lo Q) args s 0 0 (fun q => lo ≤ q)) (F0 m 47 ls [])) (Y : q_Y D cy lo s S H locs) (hl : lv_has ls 4 [(0, .ref a0), (1, .int x1), (2, .int x2), (3, .int x3)]) (h : wb_X12_run_47 B47 S a0 x1 x2 x3 Q) : W p l e ({ frames := 9, cells := 0, slots := 0, locals := 232 } : Room) s m args below meth c H locs 0 0 (MQ below (q_Q D cy lo Q) args s 0 0 (fun q => lo ≤ q)) (F0 m 47 ls []) := by
  have hx := X.1
  have hb := X.2.1
  unfold wb_X12_run_47 at h
  refine lv_iload_n hx hb dX12_run_47 rfl (lv_at hl 3 rfl) ?_
  refine lv_iload_n hx hb dX12_run_48 rfl (lv_at hl 1 rfl) ?_
  refine lv_icmp_ge (tgt := 62) hx hb dX12_run_49 (by decide) (fun c1_ => ?_) (fun c1_ => ?_)
  · replace h := h.1 c1_
    refine lv_aload_n hx hb dX12_run_62 rfl (lv_at hl 0 rfl) ?_
    obtain ⟨k2_, h⟩ := h
    refine q_getI X Y kX12 110 rfl fl_X12_465 k2_ dX12_run_63 ?_
    refine lv_iload_n hx hb dX12_run_66 rfl (lv_at hl 2 rfl) ?_
    refine lv_isub hx hb dX12_run_67 ?_
    exact q_iret X Y rfl (Nat.le_refl _) (Nat.le_refl _) h dX12_run_68
  · replace h := h.2 c1_
    refine lv_aload_n hx hb dX12_run_52 rfl (lv_at hl 0 rfl) ?_
    obtain ⟨k3_, h⟩ := h
    refine q_callV X Y hl (cm_X12_tick h) mt_X12_tick mi_X12_tick ml_X12_478 (ci := 12) rfl k3_ (by decide) rfl rfl (by first | exact Nat.le_of_ble_eq_true rfl | simp [q_cat, q_catI, q_catJ, q_catR]) ⟨Nat.le_of_ble_eq_true rfl, Nat.le_of_ble_eq_true rfl⟩ ⟨Nat.le_of_ble_eq_true rfl, Nat.le_of_ble_eq_true rfl⟩ dX12_run_53 (fun r4_ S5_ H locs hp Y => ?_)
    obtain ⟨rfl, h⟩ := hp
    refine W.eq (g2 := F0 m 56 ls []) rfl ?_
    refine lv_iinc (v := (x3 + 1)) (lv' := [(3, .int (x3 + 1)), (0, .ref a0), (1, .int x1), (2, .int x2)]) hx hb dX12_run_56 hl (k := 3) rfl (by first | rfl | decide) (by decide) (by first | rfl | simp [q_cat, q_catI, q_catJ, q_catR]) (fun ls hl => ?_)
    refine lv_goto (tgt := 47) hx hb dX12_run_59 (by decide) ?_
    exact hB47 _ _ _ _ _ _ _ _ h Y (lv_sub hl [1, 2, 3, 0] rfl)
def wl_X12_run_47  : Nat → q_S → Nat → Int32 → Int32 → Int32 → (Option Value → q_S → Prop) → Prop
  | 0, _, _, _, _, _, _ => False
  | n + 1, S, a0, x1, x2, x3, Q => wb_X12_run_47 (fun S a0 x1 x2 x3 => wl_X12_run_47 n S a0 x1 x2 x3 Q) S a0 x1 x2 x3 Q
set_option maxHeartbeats 4000000 in
set_option maxRecDepth 100000 in
theorem cl_X12_run_47 {p : Program} {l : Launch} {e : Env} {s : State} {m : MethodId} {args : Array Value} {below : List Frame} {meth : Method} {c : Code} {D : va_G} {cy : Nat → ClassId} {lo : Nat}  {Q : Option Value → q_S → Prop} (X : q_X p s m args meth c RX12 cX12_run 4 (some .int) D cy lo)  : ∀ (n : Nat) (S : q_S) (a0 : Nat) (x1 : Int32) (x2 : Int32) (x3 : Int32) (H : Heap) (locs : List Loc) (ls : Array Slot), wl_X12_run_47 n S a0 x1 x2 x3 Q → q_Y D cy lo s S H locs → lv_has ls 4 [(0, .ref a0), (1, .int x1), (2, .int x2), (3, .int x3)] → W p l e ({ frames := 9, cells := 0, slots := 0, locals := 232 } : Room) s m args below meth c H locs 0 0 (MQ below (q_Q D cy lo Q) args s 0 0 (fun q => lo ≤ q)) (F0 m 47 ls []) := by
  intro n
  induction n with
  | zero => intro S a0 x1 x2 x3 H locs ls h; exact absurd h id
  | succ n ih => intro S a0 x1 x2 x3 H locs ls h Y hl; exact cb_X12_run_47 X ih Y hl h
def wb_X12_run_28  (S : q_S) (a0 : Nat) (x1 : Int32) (as0 : Nat) (xs1 : Int32) (Q : Option Value → q_S → Prop) : Prop := q_K S as0 = 13 ∧ (q_K (qs_I S 2400 as0 xs1) a0 = 13 ∧ ((((q_I (qs_I S 2400 as0 xs1) 2400 a0) ≤ 0 → (∃ n9_ : Nat, wl_X12_run_47 n9_ (qs_I S 2400 as0 xs1) a0 x1 (q_I (qs_I S 2400 as0 xs1) 2510 a0) (0 : Int32) Q)) ∧ (¬ (q_I (qs_I S 2400 as0 xs1) 2400 a0) ≤ 0 → (Q (some (.int (0 : Int32))) (qs_I S 2400 as0 xs1))))))
set_option maxHeartbeats 4000000 in
set_option maxRecDepth 100000 in
theorem cb_X12_run_28 {p : Program} {l : Launch} {e : Env} {s : State} {m : MethodId} {args : Array Value} {below : List Frame} {meth : Method} {c : Code} {D : va_G} {cy : Nat → ClassId} {lo : Nat}  {S : q_S} {a0 : Nat} {x1 : Int32} {as0 : Nat} {xs1 : Int32} {Q : Option Value → q_S → Prop} {H : Heap} {locs : List Loc} {ls : Array Slot} (X : q_X p s m args meth c RX12 cX12_run 4 (some .int) D cy lo)  (Y : q_Y D cy lo s S H locs) (hl : lv_has ls 4 [(0, .ref a0), (1, .int x1)]) (h : wb_X12_run_28 S a0 x1 as0 xs1 Q) : W p l e ({ frames := 9, cells := 0, slots := 0, locals := 232 } : Room) s m args below meth c H locs 0 0 (MQ below (q_Q D cy lo Q) args s 0 0 (fun q => lo ≤ q)) (F0 m 28 ls [.int xs1, .ref as0]) := by
  have hx := X.1
  have hb := X.2.1
  unfold wb_X12_run_28 at h
  obtain ⟨k6_, h⟩ := h
  refine q_putI X Y kX12 0 rfl fl_X12_278 k6_ .int rfl ⟨rfl, rfl⟩ rfl dX12_run_28 (fun H locs Y => ?_)
  refine lv_aload_n hx hb dX12_run_31 rfl (lv_at hl 0 rfl) ?_
  obtain ⟨k7_, h⟩ := h
  refine q_getI X Y kX12 0 rfl fl_X12_278 k7_ dX12_run_32 ?_
  refine lv_if_le (tgt := 40) hx hb dX12_run_35 (by decide) (fun c8_ => ?_) (fun c8_ => ?_)
  · replace h := h.1 c8_
    refine lv_aload_n hx hb dX12_run_40 rfl (lv_at hl 0 rfl) ?_
    refine q_getI X Y kX12 110 rfl fl_X12_465 k7_ dX12_run_41 ?_
    refine lv_istore_n (i := 2) (lv' := [(2, .int (q_I (qs_I S 2400 as0 xs1) 2510 a0)), (0, .ref a0), (1, .int x1)]) hx hb dX12_run_44 rfl hl (by decide) (by first | rfl | simp [q_cat, q_catI, q_catJ, q_catR]) (fun ls hl => ?_)
    refine lv_iconst (v := 0) hx hb dX12_run_45 (by decide) ?_
    refine lv_istore_n (i := 3) (lv' := [(3, .int (0 : Int32)), (2, .int (q_I (qs_I S 2400 as0 xs1) 2510 a0)), (0, .ref a0), (1, .int x1)]) hx hb dX12_run_46 rfl hl (by decide) (by first | rfl | simp [q_cat, q_catI, q_catJ, q_catR]) (fun ls hl => ?_)
    obtain ⟨n9_, h⟩ := h
    exact cl_X12_run_47 X n9_ _ _ _ _ _ _ _ _ h Y (lv_sub hl [2, 3, 1, 0] rfl)
  · replace h := h.2 c8_
    refine lv_iconst (v := 0) hx hb dX12_run_38 (by decide) ?_
    exact q_iret X Y rfl (Nat.le_refl _) (Nat.le_refl _) h dX12_run_39
def wb_X12_run_23  (S : q_S) (a0 : Nat) (x1 : Int32) (as0 : Nat) (Q : Option Value → q_S → Prop) : Prop := wb_X12_run_28 S a0 x1 as0 (2 : Int32) Q
set_option maxHeartbeats 4000000 in
set_option maxRecDepth 100000 in
theorem cb_X12_run_23 {p : Program} {l : Launch} {e : Env} {s : State} {m : MethodId} {args : Array Value} {below : List Frame} {meth : Method} {c : Code} {D : va_G} {cy : Nat → ClassId} {lo : Nat}  {S : q_S} {a0 : Nat} {x1 : Int32} {as0 : Nat} {Q : Option Value → q_S → Prop} {H : Heap} {locs : List Loc} {ls : Array Slot} (X : q_X p s m args meth c RX12 cX12_run 4 (some .int) D cy lo)  (Y : q_Y D cy lo s S H locs) (hl : lv_has ls 4 [(0, .ref a0), (1, .int x1)]) (h : wb_X12_run_23 S a0 x1 as0 Q) : W p l e ({ frames := 9, cells := 0, slots := 0, locals := 232 } : Room) s m args below meth c H locs 0 0 (MQ below (q_Q D cy lo Q) args s 0 0 (fun q => lo ≤ q)) (F0 m 23 ls [.ref as0]) := by
  have hx := X.1
  have hb := X.2.1
  unfold wb_X12_run_23 at h
  refine lv_iconst (v := 2) hx hb dX12_run_23 (by decide) ?_
  refine lv_goto (tgt := 28) hx hb dX12_run_24 (by decide) ?_
  exact cb_X12_run_28 X Y (lv_sub hl [0, 1] rfl) h
def wm_X12_run (S : q_S) (a0 : Nat) (x1 : Int32) (Q : Option Value → q_S → Prop) : Prop := q_K S a0 = 13 ∧ (((¬ (q_I S 2414 a0) = 0 → (((x1 < 0 → (wb_X12_run_23 S a0 x1 a0 Q)) ∧ (¬ x1 < 0 → (((x1 ≤ (500 : Int32) → (wb_X12_run_28 S a0 x1 a0 (0 : Int32) Q)) ∧ (¬ x1 ≤ (500 : Int32) → (wb_X12_run_23 S a0 x1 a0 Q)))))))) ∧ ((q_I S 2414 a0) = 0 → (wb_X12_run_28 S a0 x1 a0 (1 : Int32) Q))))
set_option maxHeartbeats 4000000 in
set_option maxRecDepth 100000 in
theorem cm_X12_run {l : Launch} {D : va_G} {cy : Nat → ClassId} {lo : Nat} {S : q_S} {a0 : Nat} {x1 : Int32} {Q : Option Value → q_S → Prop} (h : wm_X12_run S a0 x1 Q) : q_Met l D cy lo yX12_run cX12_run 4 (some .int) 9 232 0 0 [.ref a0, .int x1] S Q := by
  refine q_body (by decide) (by first | exact Nat.le_of_ble_eq_true rfl | simp [lg_sl, q_cat, q_catI, q_catJ, q_catR]) ?_
  intro p e s m below meth c ls X hnm Y hl
  have hx := X.1
  have hb := X.2.1
  have hl : lv_has ls 4 [(0, .ref a0), (1, .int x1)] := by first | exact hl | simpa [lv_args, q_cat, q_catI, q_catJ, q_catR] using hl
  generalize hargs : ([.ref a0, .int x1] : List Value).toArray = args at X ⊢
  unfold wm_X12_run at h
  refine lv_aload_n hx hb dX12_run_0 rfl (lv_at hl 0 rfl) ?_
  refine lv_aload_n hx hb dX12_run_1 rfl (lv_at hl 0 rfl) ?_
  obtain ⟨k10_, h⟩ := h
  refine q_getI X Y kX12 14 rfl fl_X12_450 k10_ dX12_run_2 ?_
  refine lv_if_ne (tgt := 12) hx hb dX12_run_5 (by decide) (fun c11_ => ?_) (fun c11_ => ?_)
  · replace h := h.1 c11_
    refine lv_iload_n hx hb dX12_run_12 rfl (lv_at hl 1 rfl) ?_
    refine lv_if_lt (tgt := 23) hx hb dX12_run_13 (by decide) (fun c12_ => ?_) (fun c12_ => ?_)
    · replace h := h.1 c12_
      exact cb_X12_run_23 X Y (lv_sub hl [0, 1] rfl) h
    · replace h := h.2 c12_
      refine lv_iload_n hx hb dX12_run_16 rfl (lv_at hl 1 rfl) ?_
      refine lv_sipush (v := 500) hx hb dX12_run_17 (by decide) ?_
      refine lv_icmp_le (tgt := 27) hx hb dX12_run_20 (by decide) (fun c13_ => ?_) (fun c13_ => ?_)
      · replace h := h.1 c13_
        refine lv_iconst (v := 0) hx hb dX12_run_27 (by decide) ?_
        exact cb_X12_run_28 X Y (lv_sub hl [0, 1] rfl) h
      · replace h := h.2 c13_
        exact cb_X12_run_23 X Y (lv_sub hl [0, 1] rfl) h
  · replace h := h.2 c11_
    refine lv_iconst (v := 1) hx hb dX12_run_8 (by decide) ?_
    refine lv_goto (tgt := 28) hx hb dX12_run_9 (by decide) ?_
    exact cb_X12_run_28 X Y (lv_sub hl [0, 1] rfl) h
-- X12_peek
theorem dX12_peek_0 : decode cX12_peek 0 = .ok (.aload_n 0, 1) := by decide +kernel
theorem dX12_peek_1 : decode cX12_peek 1 = .ok (.iconst 0, 1) := by decide +kernel
theorem dX12_peek_2 : decode cX12_peek 2 = .ok (.putfield 278, 3) := by decide +kernel
theorem dX12_peek_5 : decode cX12_peek 5 = .ok (.aload_n 0, 1) := by decide +kernel
theorem dX12_peek_6 : decode cX12_peek 6 = .ok (.iload_n 1, 1) := by decide +kernel
theorem dX12_peek_7 : decode cX12_peek 7 = .ok (.iload_n 2, 1) := by decide +kernel
theorem dX12_peek_8 : decode cX12_peek 8 = .ok (.invokevirtual 471, 3) := by decide +kernel
theorem dX12_peek_11 : decode cX12_peek 11 = .ok (.ifCond .ne 5, 3) := by decide +kernel
theorem dX12_peek_14 : decode cX12_peek 14 = .ok (.iconst 0, 1) := by decide +kernel
theorem dX12_peek_15 : decode cX12_peek 15 = .ok (.ireturn, 1) := by decide +kernel
theorem dX12_peek_16 : decode cX12_peek 16 = .ok (.iconst 0, 1) := by decide +kernel
theorem dX12_peek_17 : decode cX12_peek 17 = .ok (.istore_n 3, 1) := by decide +kernel
theorem dX12_peek_18 : decode cX12_peek 18 = .ok (.iconst 3, 1) := by decide +kernel
theorem dX12_peek_19 : decode cX12_peek 19 = .ok (.istore 4, 2) := by decide +kernel
theorem dX12_peek_21 : decode cX12_peek 21 = .ok (.iload 4, 2) := by decide +kernel
theorem dX12_peek_23 : decode cX12_peek 23 = .ok (.ifCond .lt 59, 3) := by decide +kernel
theorem dX12_peek_26 : decode cX12_peek 26 = .ok (.iload_n 3, 1) := by decide +kernel
theorem dX12_peek_27 : decode cX12_peek 27 = .ok (.bipush 8, 2) := by decide +kernel
theorem dX12_peek_29 : decode cX12_peek 29 = .ok (.ishl, 1) := by decide +kernel
theorem dX12_peek_30 : decode cX12_peek 30 = .ok (.aload_n 0, 1) := by decide +kernel
theorem dX12_peek_31 : decode cX12_peek 31 = .ok (.getfield 450, 3) := by decide +kernel
theorem dX12_peek_34 : decode cX12_peek 34 = .ok (.ifCond .eq 21, 3) := by decide +kernel
theorem dX12_peek_37 : decode cX12_peek 37 = .ok (.aload_n 0, 1) := by decide +kernel
theorem dX12_peek_38 : decode cX12_peek 38 = .ok (.getfield 146, 3) := by decide +kernel
theorem dX12_peek_41 : decode cX12_peek 41 = .ok (.sipush 8192, 3) := by decide +kernel
theorem dX12_peek_44 : decode cX12_peek 44 = .ok (.iload_n 1, 1) := by decide +kernel
theorem dX12_peek_45 : decode cX12_peek 45 = .ok (.imul, 1) := by decide +kernel
theorem dX12_peek_46 : decode cX12_peek 46 = .ok (.iload_n 2, 1) := by decide +kernel
theorem dX12_peek_47 : decode cX12_peek 47 = .ok (.iadd, 1) := by decide +kernel
theorem dX12_peek_48 : decode cX12_peek 48 = .ok (.iload 4, 2) := by decide +kernel
theorem dX12_peek_50 : decode cX12_peek 50 = .ok (.iadd, 1) := by decide +kernel
theorem dX12_peek_51 : decode cX12_peek 51 = .ok (.baload, 1) := by decide +kernel
theorem dX12_peek_52 : decode cX12_peek 52 = .ok (.goto 18, 3) := by decide +kernel
theorem dX12_peek_55 : decode cX12_peek 55 = .ok (.aload_n 0, 1) := by decide +kernel
theorem dX12_peek_56 : decode cX12_peek 56 = .ok (.getfield 143, 3) := by decide +kernel
theorem dX12_peek_59 : decode cX12_peek 59 = .ok (.sipush 8192, 3) := by decide +kernel
theorem dX12_peek_62 : decode cX12_peek 62 = .ok (.iload_n 1, 1) := by decide +kernel
theorem dX12_peek_63 : decode cX12_peek 63 = .ok (.imul, 1) := by decide +kernel
theorem dX12_peek_64 : decode cX12_peek 64 = .ok (.iload_n 2, 1) := by decide +kernel
theorem dX12_peek_65 : decode cX12_peek 65 = .ok (.iadd, 1) := by decide +kernel
theorem dX12_peek_66 : decode cX12_peek 66 = .ok (.iload 4, 2) := by decide +kernel
theorem dX12_peek_68 : decode cX12_peek 68 = .ok (.iadd, 1) := by decide +kernel
theorem dX12_peek_69 : decode cX12_peek 69 = .ok (.baload, 1) := by decide +kernel
theorem dX12_peek_70 : decode cX12_peek 70 = .ok (.sipush 255, 3) := by decide +kernel
theorem dX12_peek_73 : decode cX12_peek 73 = .ok (.iand, 1) := by decide +kernel
theorem dX12_peek_74 : decode cX12_peek 74 = .ok (.ior, 1) := by decide +kernel
theorem dX12_peek_75 : decode cX12_peek 75 = .ok (.istore_n 3, 1) := by decide +kernel
theorem dX12_peek_76 : decode cX12_peek 76 = .ok (.iinc 4 (-1), 3) := by decide +kernel
theorem dX12_peek_79 : decode cX12_peek 79 = .ok (.goto (-58), 3) := by decide +kernel
theorem dX12_peek_82 : decode cX12_peek 82 = .ok (.iload_n 3, 1) := by decide +kernel
theorem dX12_peek_83 : decode cX12_peek 83 = .ok (.ireturn, 1) := by decide +kernel
def wb_X12_peek_70 (B21 : q_S → Nat → Int32 → Int32 → Int32 → Int32 → Prop) (S : q_S) (a0 : Nat) (x1 : Int32) (x2 : Int32) (x4 : Int32) (xs0 : Int32) (xs1 : Int32) (Q : Option Value → q_S → Prop) : Prop := B21 S a0 x1 x2 (xs0 ||| (xs1 &&& (255 : Int32))) (x4 + (-1))
set_option maxHeartbeats 4000000 in
set_option maxRecDepth 100000 in
theorem cb_X12_peek_70 {p : Program} {l : Launch} {e : Env} {s : State} {m : MethodId} {args : Array Value} {below : List Frame} {meth : Method} {c : Code} {D : va_G} {cy : Nat → ClassId} {lo : Nat} {B21 : q_S → Nat → Int32 → Int32 → Int32 → Int32 → Prop} {S : q_S} {a0 : Nat} {x1 : Int32} {x2 : Int32} {x4 : Int32} {xs0 : Int32} {xs1 : Int32} {Q : Option Value → q_S → Prop} {H : Heap} {locs : List Loc} {ls : Array Slot} (X : q_X p s m args meth c RX12 cX12_peek 5 (some .int) D cy lo) (hB21 : ∀ (S : q_S) (a0 : Nat) (x1 : Int32) (x2 : Int32) (x3 : Int32) (x4 : Int32) (H : Heap) (locs : List Loc) (ls : Array Slot), B21 S a0 x1 x2 x3 x4 → q_Y D cy lo s S H locs → lv_has ls 5 [(0, .ref a0), (1, .int x1), (2, .int x2), (3, .int x3), (4, .int x4)] → W p l e ({ frames := 2, cells := 0, slots := 0, locals := 43 } : Room) s m args below meth c H locs 0 0 (MQ below (q_Q D cy lo Q) args s 0 0 (fun q => lo ≤ q)) (F0 m 21 ls [])) (Y : q_Y D cy lo s S H locs) (hl : lv_has ls 5 [(0, .ref a0), (1, .int x1), (2, .int x2), (4, .int x4)]) (h : wb_X12_peek_70 B21 S a0 x1 x2 x4 xs0 xs1 Q) : W p l e ({ frames := 2, cells := 0, slots := 0, locals := 43 } : Room) s m args below meth c H locs 0 0 (MQ below (q_Q D cy lo Q) args s 0 0 (fun q => lo ≤ q)) (F0 m 70 ls [.int xs1, .int xs0]) := by
  have hx := X.1
  have hb := X.2.1
  unfold wb_X12_peek_70 at h
  refine lv_sipush (v := 255) hx hb dX12_peek_70 (by decide) ?_
  refine lv_iand hx hb dX12_peek_73 ?_
  refine lv_ior hx hb dX12_peek_74 ?_
  refine lv_istore_n (i := 3) (lv' := [(3, .int (xs0 ||| (xs1 &&& (255 : Int32)))), (0, .ref a0), (1, .int x1), (2, .int x2), (4, .int x4)]) hx hb dX12_peek_75 rfl hl (by decide) (by first | rfl | simp [q_cat, q_catI, q_catJ, q_catR]) (fun ls hl => ?_)
  refine lv_iinc (v := (x4 + (-1))) (lv' := [(4, .int (x4 + (-1))), (3, .int (xs0 ||| (xs1 &&& (255 : Int32)))), (0, .ref a0), (1, .int x1), (2, .int x2)]) hx hb dX12_peek_76 hl (k := 4) rfl (by first | rfl | decide) (by decide) (by first | rfl | simp [q_cat, q_catI, q_catJ, q_catR]) (fun ls hl => ?_)
  refine lv_goto (tgt := 21) hx hb dX12_peek_79 (by decide) ?_
  exact hB21 _ _ _ _ _ _ _ _ _ h Y (lv_sub hl [2, 3, 4, 1, 0] rfl)
def wb_X12_peek_21 (B21 : q_S → Nat → Int32 → Int32 → Int32 → Int32 → Prop) (S : q_S) (a0 : Nat) (x1 : Int32) (x2 : Int32) (x3 : Int32) (x4 : Int32) (Q : Option Value → q_S → Prop) : Prop := ((x4 < 0 → (Q (some (.int x3)) S)) ∧ (¬ x4 < 0 → (q_K S a0 = 13 ∧ ((((q_I S 2414 a0) = 0 → (∃ a4_ : Nat, (q_P S 2465 a0) = some a4_ ∧ (q_K S a4_ = 20 ∧ (vp_in ((((8192 : Int32) * x1) + x2) + x4) (q_N S a4_) ∧ (wb_X12_peek_70 B21 S a0 x1 x2 x4 (x3 <<< ((8 : Int32) &&& 31)) (q_A S a4_ ((((8192 : Int32) * x1) + x2) + x4).toNatClampNeg) Q))))) ∧ (¬ (q_I S 2414 a0) = 0 → (∃ a8_ : Nat, (q_P S 2466 a0) = some a8_ ∧ (q_K S a8_ = 20 ∧ (vp_in ((((8192 : Int32) * x1) + x2) + x4) (q_N S a8_) ∧ (wb_X12_peek_70 B21 S a0 x1 x2 x4 (x3 <<< ((8 : Int32) &&& 31)) (q_A S a8_ ((((8192 : Int32) * x1) + x2) + x4).toNatClampNeg) Q))))))))))
set_option maxHeartbeats 4000000 in
set_option maxRecDepth 100000 in
theorem cb_X12_peek_21 {p : Program} {l : Launch} {e : Env} {s : State} {m : MethodId} {args : Array Value} {below : List Frame} {meth : Method} {c : Code} {D : va_G} {cy : Nat → ClassId} {lo : Nat} {B21 : q_S → Nat → Int32 → Int32 → Int32 → Int32 → Prop} {S : q_S} {a0 : Nat} {x1 : Int32} {x2 : Int32} {x3 : Int32} {x4 : Int32} {Q : Option Value → q_S → Prop} {H : Heap} {locs : List Loc} {ls : Array Slot} (X : q_X p s m args meth c RX12 cX12_peek 5 (some .int) D cy lo) (hB21 : ∀ (S : q_S) (a0 : Nat) (x1 : Int32) (x2 : Int32) (x3 : Int32) (x4 : Int32) (H : Heap) (locs : List Loc) (ls : Array Slot), B21 S a0 x1 x2 x3 x4 → q_Y D cy lo s S H locs → lv_has ls 5 [(0, .ref a0), (1, .int x1), (2, .int x2), (3, .int x3), (4, .int x4)] → W p l e ({ frames := 2, cells := 0, slots := 0, locals := 43 } : Room) s m args below meth c H locs 0 0 (MQ below (q_Q D cy lo Q) args s 0 0 (fun q => lo ≤ q)) (F0 m 21 ls [])) (Y : q_Y D cy lo s S H locs) (hl : lv_has ls 5 [(0, .ref a0), (1, .int x1), (2, .int x2), (3, .int x3), (4, .int x4)]) (h : wb_X12_peek_21 B21 S a0 x1 x2 x3 x4 Q) : W p l e ({ frames := 2, cells := 0, slots := 0, locals := 43 } : Room) s m args below meth c H locs 0 0 (MQ below (q_Q D cy lo Q) args s 0 0 (fun q => lo ≤ q)) (F0 m 21 ls []) := by
  have hx := X.1
  have hb := X.2.1
  unfold wb_X12_peek_21 at h
  refine lv_iload hx hb dX12_peek_21 (lv_at hl 4 rfl) ?_
  refine lv_if_lt (tgt := 82) hx hb dX12_peek_23 (by decide) (fun c1_ => ?_) (fun c1_ => ?_)
  · replace h := h.1 c1_
    refine lv_iload_n hx hb dX12_peek_82 rfl (lv_at hl 3 rfl) ?_
    exact q_iret X Y rfl (Nat.le_refl _) (Nat.le_refl _) h dX12_peek_83
  · replace h := h.2 c1_
    refine lv_iload_n hx hb dX12_peek_26 rfl (lv_at hl 3 rfl) ?_
    refine lv_bipush (v := 8) hx hb dX12_peek_27 (by decide) ?_
    refine lv_ishl hx hb dX12_peek_29 ?_
    refine lv_aload_n hx hb dX12_peek_30 rfl (lv_at hl 0 rfl) ?_
    obtain ⟨k2_, h⟩ := h
    refine q_getI X Y kX12 14 rfl fl_X12_450 k2_ dX12_peek_31 ?_
    refine lv_if_eq (tgt := 55) hx hb dX12_peek_34 (by decide) (fun c3_ => ?_) (fun c3_ => ?_)
    · replace h := h.1 c3_
      refine lv_aload_n hx hb dX12_peek_55 rfl (lv_at hl 0 rfl) ?_
      refine q_getP X Y kX12 65 rfl fl_X12_143 k2_ rfl dX12_peek_56 ?_
      refine lv_sipush (v := 8192) hx hb dX12_peek_59 (by decide) ?_
      refine lv_iload_n hx hb dX12_peek_62 rfl (lv_at hl 1 rfl) ?_
      refine lv_imul hx hb dX12_peek_63 ?_
      refine lv_iload_n hx hb dX12_peek_64 rfl (lv_at hl 2 rfl) ?_
      refine lv_iadd hx hb dX12_peek_65 ?_
      refine lv_iload hx hb dX12_peek_66 (lv_at hl 4 rfl) ?_
      refine lv_iadd hx hb dX12_peek_68 ?_
      obtain ⟨a4_, e5_, h⟩ := h
      refine q_nn [.int ((((8192 : Int32) * x1) + x2) + x4)] e5_ ?_
      obtain ⟨k6_, h⟩ := h
      obtain ⟨i7_, h⟩ := h
      refine q_bld X Y k6_ i7_ dX12_peek_69 ?_
      exact cb_X12_peek_70 X hB21 Y (lv_sub hl [0, 1, 2, 4] rfl) h
    · replace h := h.2 c3_
      refine lv_aload_n hx hb dX12_peek_37 rfl (lv_at hl 0 rfl) ?_
      refine q_getP X Y kX12 66 rfl fl_X12_146 k2_ rfl dX12_peek_38 ?_
      refine lv_sipush (v := 8192) hx hb dX12_peek_41 (by decide) ?_
      refine lv_iload_n hx hb dX12_peek_44 rfl (lv_at hl 1 rfl) ?_
      refine lv_imul hx hb dX12_peek_45 ?_
      refine lv_iload_n hx hb dX12_peek_46 rfl (lv_at hl 2 rfl) ?_
      refine lv_iadd hx hb dX12_peek_47 ?_
      refine lv_iload hx hb dX12_peek_48 (lv_at hl 4 rfl) ?_
      refine lv_iadd hx hb dX12_peek_50 ?_
      obtain ⟨a8_, e9_, h⟩ := h
      refine q_nn [.int ((((8192 : Int32) * x1) + x2) + x4)] e9_ ?_
      obtain ⟨k10_, h⟩ := h
      obtain ⟨i11_, h⟩ := h
      refine q_bld X Y k10_ i11_ dX12_peek_51 ?_
      refine lv_goto (tgt := 70) hx hb dX12_peek_52 (by decide) ?_
      exact cb_X12_peek_70 X hB21 Y (lv_sub hl [0, 1, 2, 4] rfl) h
def wl_X12_peek_21  : Nat → q_S → Nat → Int32 → Int32 → Int32 → Int32 → (Option Value → q_S → Prop) → Prop
  | 0, _, _, _, _, _, _, _ => False
  | n + 1, S, a0, x1, x2, x3, x4, Q => wb_X12_peek_21 (fun S a0 x1 x2 x3 x4 => wl_X12_peek_21 n S a0 x1 x2 x3 x4 Q) S a0 x1 x2 x3 x4 Q
set_option maxHeartbeats 4000000 in
set_option maxRecDepth 100000 in
theorem cl_X12_peek_21 {p : Program} {l : Launch} {e : Env} {s : State} {m : MethodId} {args : Array Value} {below : List Frame} {meth : Method} {c : Code} {D : va_G} {cy : Nat → ClassId} {lo : Nat}  {Q : Option Value → q_S → Prop} (X : q_X p s m args meth c RX12 cX12_peek 5 (some .int) D cy lo)  : ∀ (n : Nat) (S : q_S) (a0 : Nat) (x1 : Int32) (x2 : Int32) (x3 : Int32) (x4 : Int32) (H : Heap) (locs : List Loc) (ls : Array Slot), wl_X12_peek_21 n S a0 x1 x2 x3 x4 Q → q_Y D cy lo s S H locs → lv_has ls 5 [(0, .ref a0), (1, .int x1), (2, .int x2), (3, .int x3), (4, .int x4)] → W p l e ({ frames := 2, cells := 0, slots := 0, locals := 43 } : Room) s m args below meth c H locs 0 0 (MQ below (q_Q D cy lo Q) args s 0 0 (fun q => lo ≤ q)) (F0 m 21 ls []) := by
  intro n
  induction n with
  | zero => intro S a0 x1 x2 x3 x4 H locs ls h; exact absurd h id
  | succ n ih => intro S a0 x1 x2 x3 x4 H locs ls h Y hl; exact cb_X12_peek_21 X ih Y hl h
def wm_X12_peek (S : q_S) (a0 : Nat) (x1 : Int32) (x2 : Int32) (Q : Option Value → q_S → Prop) : Prop := q_K S a0 = 13 ∧ (wm_X12_isPlace (qs_I S 2400 a0 (0 : Int32)) a0 x1 x2 (fun r13_ S14_ => ∃ x15_ : Int32, r13_ = some (.int x15_) ∧ (((¬ x15_ = 0 → (∃ n17_ : Nat, wl_X12_peek_21 n17_ S14_ a0 x1 x2 (0 : Int32) (3 : Int32) Q)) ∧ (x15_ = 0 → (Q (some (.int (0 : Int32))) S14_))))))
set_option maxHeartbeats 4000000 in
set_option maxRecDepth 100000 in
theorem cm_X12_peek {l : Launch} {D : va_G} {cy : Nat → ClassId} {lo : Nat} {S : q_S} {a0 : Nat} {x1 : Int32} {x2 : Int32} {Q : Option Value → q_S → Prop} (h : wm_X12_peek S a0 x1 x2 Q) : q_Met l D cy lo yX12_peek cX12_peek 5 (some .int) 2 43 0 0 [.ref a0, .int x1, .int x2] S Q := by
  refine q_body (by decide) (by first | exact Nat.le_of_ble_eq_true rfl | simp [lg_sl, q_cat, q_catI, q_catJ, q_catR]) ?_
  intro p e s m below meth c ls X hnm Y hl
  have hx := X.1
  have hb := X.2.1
  have hl : lv_has ls 5 [(0, .ref a0), (1, .int x1), (2, .int x2)] := by first | exact hl | simpa [lv_args, q_cat, q_catI, q_catJ, q_catR] using hl
  generalize hargs : ([.ref a0, .int x1, .int x2] : List Value).toArray = args at X ⊢
  unfold wm_X12_peek at h
  refine lv_aload_n hx hb dX12_peek_0 rfl (lv_at hl 0 rfl) ?_
  refine lv_iconst (v := 0) hx hb dX12_peek_1 (by decide) ?_
  obtain ⟨k12_, h⟩ := h
  refine q_putI X Y kX12 0 rfl fl_X12_278 k12_ .int rfl ⟨rfl, rfl⟩ rfl dX12_peek_2 (fun H locs Y => ?_)
  refine lv_aload_n hx hb dX12_peek_5 rfl (lv_at hl 0 rfl) ?_
  refine lv_iload_n hx hb dX12_peek_6 rfl (lv_at hl 1 rfl) ?_
  refine lv_iload_n hx hb dX12_peek_7 rfl (lv_at hl 2 rfl) ?_
  refine q_callV X Y hl (cm_X12_isPlace h) mt_X12_isPlace mi_X12_isPlace ml_X12_471 (ci := 12) rfl k12_ (by decide) rfl rfl (by first | exact Nat.le_of_ble_eq_true rfl | simp [q_cat, q_catI, q_catJ, q_catR]) ⟨Nat.le_of_ble_eq_true rfl, Nat.le_of_ble_eq_true rfl⟩ ⟨Nat.le_of_ble_eq_true rfl, Nat.le_of_ble_eq_true rfl⟩ dX12_peek_8 (fun r13_ S14_ H locs hp Y => ?_)
  obtain ⟨x15_, rfl, h⟩ := hp
  refine W.eq (g2 := F0 m 11 ls [.int x15_]) rfl ?_
  refine lv_if_ne (tgt := 16) hx hb dX12_peek_11 (by decide) (fun c16_ => ?_) (fun c16_ => ?_)
  · replace h := h.1 c16_
    refine lv_iconst (v := 0) hx hb dX12_peek_16 (by decide) ?_
    refine lv_istore_n (i := 3) (lv' := [(3, .int (0 : Int32)), (0, .ref a0), (1, .int x1), (2, .int x2)]) hx hb dX12_peek_17 rfl hl (by decide) (by first | rfl | simp [q_cat, q_catI, q_catJ, q_catR]) (fun ls hl => ?_)
    refine lv_iconst (v := 3) hx hb dX12_peek_18 (by decide) ?_
    refine lv_istore (i := 4) (lv' := [(4, .int (3 : Int32)), (3, .int (0 : Int32)), (0, .ref a0), (1, .int x1), (2, .int x2)]) hx hb dX12_peek_19 hl (by decide) (by first | rfl | simp [q_cat, q_catI, q_catJ, q_catR]) (fun ls hl => ?_)
    obtain ⟨n17_, h⟩ := h
    exact cl_X12_peek_21 X n17_ _ _ _ _ _ _ _ _ _ h Y (lv_sub hl [2, 3, 4, 1, 0] rfl)
  · replace h := h.2 c16_
    refine lv_iconst (v := 0) hx hb dX12_peek_14 (by decide) ?_
    exact q_iret X Y rfl (Nat.le_refl _) (Nat.le_refl _) h dX12_peek_15
-- X12_register
theorem dX12_register_0 : decode cX12_register 0 = .ok (.aload_n 0, 1) := by decide +kernel
theorem dX12_register_1 : decode cX12_register 1 = .ok (.iconst 0, 1) := by decide +kernel
theorem dX12_register_2 : decode cX12_register 2 = .ok (.putfield 278, 3) := by decide +kernel
theorem dX12_register_5 : decode cX12_register 5 = .ok (.aload_n 0, 1) := by decide +kernel
theorem dX12_register_6 : decode cX12_register 6 = .ok (.iload_n 1, 1) := by decide +kernel
theorem dX12_register_7 : decode cX12_register 7 = .ok (.invokevirtual 468, 3) := by decide +kernel
theorem dX12_register_10 : decode cX12_register 10 = .ok (.ifCond .eq 41, 3) := by decide +kernel
theorem dX12_register_13 : decode cX12_register 13 = .ok (.aload_n 0, 1) := by decide +kernel
theorem dX12_register_14 : decode cX12_register 14 = .ok (.iload_n 1, 1) := by decide +kernel
theorem dX12_register_15 : decode cX12_register 15 = .ok (.iload_n 2, 1) := by decide +kernel
theorem dX12_register_16 : decode cX12_register 16 = .ok (.invokevirtual 613, 3) := by decide +kernel
theorem dX12_register_19 : decode cX12_register 19 = .ok (.ifCond .eq 32, 3) := by decide +kernel
theorem dX12_register_22 : decode cX12_register 22 = .ok (.iload_n 3, 1) := by decide +kernel
theorem dX12_register_23 : decode cX12_register 23 = .ok (.ifCond .lt 28, 3) := by decide +kernel
theorem dX12_register_26 : decode cX12_register 26 = .ok (.iload_n 3, 1) := by decide +kernel
theorem dX12_register_27 : decode cX12_register 27 = .ok (.bipush 32, 2) := by decide +kernel
theorem dX12_register_29 : decode cX12_register 29 = .ok (.if_icmp .ge 22, 3) := by decide +kernel
theorem dX12_register_32 : decode cX12_register 32 = .ok (.aload_n 0, 1) := by decide +kernel
theorem dX12_register_33 : decode cX12_register 33 = .ok (.getfield 179, 3) := by decide +kernel
theorem dX12_register_36 : decode cX12_register 36 = .ok (.bipush 32, 2) := by decide +kernel
theorem dX12_register_38 : decode cX12_register 38 = .ok (.bipush 16, 2) := by decide +kernel
theorem dX12_register_40 : decode cX12_register 40 = .ok (.iload_n 1, 1) := by decide +kernel
theorem dX12_register_41 : decode cX12_register 41 = .ok (.imul, 1) := by decide +kernel
theorem dX12_register_42 : decode cX12_register 42 = .ok (.iload_n 2, 1) := by decide +kernel
theorem dX12_register_43 : decode cX12_register 43 = .ok (.iadd, 1) := by decide +kernel
theorem dX12_register_44 : decode cX12_register 44 = .ok (.imul, 1) := by decide +kernel
theorem dX12_register_45 : decode cX12_register 45 = .ok (.iload_n 3, 1) := by decide +kernel
theorem dX12_register_46 : decode cX12_register 46 = .ok (.iadd, 1) := by decide +kernel
theorem dX12_register_47 : decode cX12_register 47 = .ok (.iaload, 1) := by decide +kernel
theorem dX12_register_48 : decode cX12_register 48 = .ok (.goto 4, 3) := by decide +kernel
theorem dX12_register_51 : decode cX12_register 51 = .ok (.iconst 0, 1) := by decide +kernel
theorem dX12_register_52 : decode cX12_register 52 = .ok (.ireturn, 1) := by decide +kernel
def wb_X12_register_52  (S : q_S) (xs0 : Int32) (Q : Option Value → q_S → Prop) : Prop := Q (some (.int xs0)) S
set_option maxHeartbeats 4000000 in
set_option maxRecDepth 100000 in
theorem cb_X12_register_52 {p : Program} {l : Launch} {e : Env} {s : State} {m : MethodId} {args : Array Value} {below : List Frame} {meth : Method} {c : Code} {D : va_G} {cy : Nat → ClassId} {lo : Nat}  {S : q_S} {xs0 : Int32} {Q : Option Value → q_S → Prop} {H : Heap} {locs : List Loc} {ls : Array Slot} (X : q_X p s m args meth c RX12 cX12_register 4 (some .int) D cy lo)  (Y : q_Y D cy lo s S H locs) (hl : lv_has ls 4 []) (h : wb_X12_register_52 S xs0 Q) : W p l e ({ frames := 1, cells := 0, slots := 0, locals := 22 } : Room) s m args below meth c H locs 0 0 (MQ below (q_Q D cy lo Q) args s 0 0 (fun q => lo ≤ q)) (F0 m 52 ls [.int xs0]) := by
  have hx := X.1
  have hb := X.2.1
  unfold wb_X12_register_52 at h
  exact q_iret X Y rfl (Nat.le_refl _) (Nat.le_refl _) h dX12_register_52
def wb_X12_register_51  (S : q_S) (Q : Option Value → q_S → Prop) : Prop := wb_X12_register_52 S (0 : Int32) Q
set_option maxHeartbeats 4000000 in
set_option maxRecDepth 100000 in
theorem cb_X12_register_51 {p : Program} {l : Launch} {e : Env} {s : State} {m : MethodId} {args : Array Value} {below : List Frame} {meth : Method} {c : Code} {D : va_G} {cy : Nat → ClassId} {lo : Nat}  {S : q_S} {Q : Option Value → q_S → Prop} {H : Heap} {locs : List Loc} {ls : Array Slot} (X : q_X p s m args meth c RX12 cX12_register 4 (some .int) D cy lo)  (Y : q_Y D cy lo s S H locs) (hl : lv_has ls 4 []) (h : wb_X12_register_51 S Q) : W p l e ({ frames := 1, cells := 0, slots := 0, locals := 22 } : Room) s m args below meth c H locs 0 0 (MQ below (q_Q D cy lo Q) args s 0 0 (fun q => lo ≤ q)) (F0 m 51 ls []) := by
  have hx := X.1
  have hb := X.2.1
  unfold wb_X12_register_51 at h
  refine lv_iconst (v := 0) hx hb dX12_register_51 (by decide) ?_
  exact cb_X12_register_52 X Y (lv_sub hl [] rfl) h
def wm_X12_register (S : q_S) (a0 : Nat) (x1 : Int32) (x2 : Int32) (x3 : Int32) (Q : Option Value → q_S → Prop) : Prop := q_K S a0 = 13 ∧ (wm_X12_isPartition (qs_I S 2400 a0 (0 : Int32)) a0 x1 (fun r2_ S3_ => ∃ x4_ : Int32, r2_ = some (.int x4_) ∧ (((x4_ = 0 → (wb_X12_register_51 S3_ Q)) ∧ (¬ x4_ = 0 → (q_K S3_ a0 = 13 ∧ (wm_X12_isProcess S3_ a0 x1 x2 (fun r7_ S8_ => ∃ x9_ : Int32, r7_ = some (.int x9_) ∧ (((x9_ = 0 → (wb_X12_register_51 S8_ Q)) ∧ (¬ x9_ = 0 → (((x3 < 0 → (wb_X12_register_51 S8_ Q)) ∧ (¬ x3 < 0 → ((((32 : Int32) ≤ x3 → (wb_X12_register_51 S8_ Q)) ∧ (¬ (32 : Int32) ≤ x3 → (q_K S8_ a0 = 13 ∧ (∃ a14_ : Nat, (q_P S8_ 2477 a0) = some a14_ ∧ (q_K S8_ a14_ = 21 ∧ (vp_in (((32 : Int32) * (((16 : Int32) * x1) + x2)) + x3) (q_N S8_ a14_) ∧ (wb_X12_register_52 S8_ (q_A S8_ a14_ (((32 : Int32) * (((16 : Int32) * x1) + x2)) + x3).toNatClampNeg) Q))))))))))))))))))))))
set_option maxHeartbeats 4000000 in
set_option maxRecDepth 100000 in
theorem cm_X12_register {l : Launch} {D : va_G} {cy : Nat → ClassId} {lo : Nat} {S : q_S} {a0 : Nat} {x1 : Int32} {x2 : Int32} {x3 : Int32} {Q : Option Value → q_S → Prop} (h : wm_X12_register S a0 x1 x2 x3 Q) : q_Met l D cy lo yX12_register cX12_register 4 (some .int) 1 22 0 0 [.ref a0, .int x1, .int x2, .int x3] S Q := by
  refine q_body (by decide) (by first | exact Nat.le_of_ble_eq_true rfl | simp [lg_sl, q_cat, q_catI, q_catJ, q_catR]) ?_
  intro p e s m below meth c ls X hnm Y hl
  have hx := X.1
  have hb := X.2.1
  have hl : lv_has ls 4 [(0, .ref a0), (1, .int x1), (2, .int x2), (3, .int x3)] := by first | exact hl | simpa [lv_args, q_cat, q_catI, q_catJ, q_catR] using hl
  generalize hargs : ([.ref a0, .int x1, .int x2, .int x3] : List Value).toArray = args at X ⊢
  unfold wm_X12_register at h
  refine lv_aload_n hx hb dX12_register_0 rfl (lv_at hl 0 rfl) ?_
  refine lv_iconst (v := 0) hx hb dX12_register_1 (by decide) ?_
  obtain ⟨k1_, h⟩ := h
  refine q_putI X Y kX12 0 rfl fl_X12_278 k1_ .int rfl ⟨rfl, rfl⟩ rfl dX12_register_2 (fun H locs Y => ?_)
  refine lv_aload_n hx hb dX12_register_5 rfl (lv_at hl 0 rfl) ?_
  refine lv_iload_n hx hb dX12_register_6 rfl (lv_at hl 1 rfl) ?_
  refine q_callV X Y hl (cm_X12_isPartition h) mt_X12_isPartition mi_X12_isPartition ml_X12_468 (ci := 12) rfl k1_ (by decide) rfl rfl (by first | exact Nat.le_of_ble_eq_true rfl | simp [q_cat, q_catI, q_catJ, q_catR]) ⟨Nat.le_of_ble_eq_true rfl, Nat.le_of_ble_eq_true rfl⟩ ⟨Nat.le_of_ble_eq_true rfl, Nat.le_of_ble_eq_true rfl⟩ dX12_register_7 (fun r2_ S3_ H locs hp Y => ?_)
  obtain ⟨x4_, rfl, h⟩ := hp
  refine W.eq (g2 := F0 m 10 ls [.int x4_]) rfl ?_
  refine lv_if_eq (tgt := 51) hx hb dX12_register_10 (by decide) (fun c5_ => ?_) (fun c5_ => ?_)
  · replace h := h.1 c5_
    exact cb_X12_register_51 X Y (lv_sub hl [] rfl) h
  · replace h := h.2 c5_
    refine lv_aload_n hx hb dX12_register_13 rfl (lv_at hl 0 rfl) ?_
    refine lv_iload_n hx hb dX12_register_14 rfl (lv_at hl 1 rfl) ?_
    refine lv_iload_n hx hb dX12_register_15 rfl (lv_at hl 2 rfl) ?_
    obtain ⟨k6_, h⟩ := h
    refine q_callV X Y hl (cm_X12_isProcess h) mt_X12_isProcess mi_X12_isProcess ml_X12_613 (ci := 12) rfl k6_ (by decide) rfl rfl (by first | exact Nat.le_of_ble_eq_true rfl | simp [q_cat, q_catI, q_catJ, q_catR]) ⟨Nat.le_of_ble_eq_true rfl, Nat.le_of_ble_eq_true rfl⟩ ⟨Nat.le_of_ble_eq_true rfl, Nat.le_of_ble_eq_true rfl⟩ dX12_register_16 (fun r7_ S8_ H locs hp Y => ?_)
    obtain ⟨x9_, rfl, h⟩ := hp
    refine W.eq (g2 := F0 m 19 ls [.int x9_]) rfl ?_
    refine lv_if_eq (tgt := 51) hx hb dX12_register_19 (by decide) (fun c10_ => ?_) (fun c10_ => ?_)
    · replace h := h.1 c10_
      exact cb_X12_register_51 X Y (lv_sub hl [] rfl) h
    · replace h := h.2 c10_
      refine lv_iload_n hx hb dX12_register_22 rfl (lv_at hl 3 rfl) ?_
      refine lv_if_lt (tgt := 51) hx hb dX12_register_23 (by decide) (fun c11_ => ?_) (fun c11_ => ?_)
      · replace h := h.1 c11_
        exact cb_X12_register_51 X Y (lv_sub hl [] rfl) h
      · replace h := h.2 c11_
        refine lv_iload_n hx hb dX12_register_26 rfl (lv_at hl 3 rfl) ?_
        refine lv_bipush (v := 32) hx hb dX12_register_27 (by decide) ?_
        refine lv_icmp_ge (tgt := 51) hx hb dX12_register_29 (by decide) (fun c12_ => ?_) (fun c12_ => ?_)
        · replace h := h.1 c12_
          exact cb_X12_register_51 X Y (lv_sub hl [] rfl) h
        · replace h := h.2 c12_
          refine lv_aload_n hx hb dX12_register_32 rfl (lv_at hl 0 rfl) ?_
          obtain ⟨k13_, h⟩ := h
          refine q_getP X Y kX12 77 rfl fl_X12_179 k13_ rfl dX12_register_33 ?_
          refine lv_bipush (v := 32) hx hb dX12_register_36 (by decide) ?_
          refine lv_bipush (v := 16) hx hb dX12_register_38 (by decide) ?_
          refine lv_iload_n hx hb dX12_register_40 rfl (lv_at hl 1 rfl) ?_
          refine lv_imul hx hb dX12_register_41 ?_
          refine lv_iload_n hx hb dX12_register_42 rfl (lv_at hl 2 rfl) ?_
          refine lv_iadd hx hb dX12_register_43 ?_
          refine lv_imul hx hb dX12_register_44 ?_
          refine lv_iload_n hx hb dX12_register_45 rfl (lv_at hl 3 rfl) ?_
          refine lv_iadd hx hb dX12_register_46 ?_
          obtain ⟨a14_, e15_, h⟩ := h
          refine q_nn [.int (((32 : Int32) * (((16 : Int32) * x1) + x2)) + x3)] e15_ ?_
          obtain ⟨k16_, h⟩ := h
          obtain ⟨i17_, h⟩ := h
          refine q_ild X Y k16_ i17_ dX12_register_47 ?_
          refine lv_goto (tgt := 52) hx hb dX12_register_48 (by decide) ?_
          exact cb_X12_register_52 X Y (lv_sub hl [] rfl) h
-- X12_state
theorem dX12_state_0 : decode cX12_state 0 = .ok (.aload_n 0, 1) := by decide +kernel
theorem dX12_state_1 : decode cX12_state 1 = .ok (.iconst 0, 1) := by decide +kernel
theorem dX12_state_2 : decode cX12_state 2 = .ok (.putfield 278, 3) := by decide +kernel
theorem dX12_state_5 : decode cX12_state 5 = .ok (.aload_n 0, 1) := by decide +kernel
theorem dX12_state_6 : decode cX12_state 6 = .ok (.iload_n 1, 1) := by decide +kernel
theorem dX12_state_7 : decode cX12_state 7 = .ok (.invokevirtual 468, 3) := by decide +kernel
theorem dX12_state_10 : decode cX12_state 10 = .ok (.ifCond .eq 12, 3) := by decide +kernel
theorem dX12_state_13 : decode cX12_state 13 = .ok (.aload_n 0, 1) := by decide +kernel
theorem dX12_state_14 : decode cX12_state 14 = .ok (.iload_n 1, 1) := by decide +kernel
theorem dX12_state_15 : decode cX12_state 15 = .ok (.iload_n 2, 1) := by decide +kernel
theorem dX12_state_16 : decode cX12_state 16 = .ok (.invokevirtual 613, 3) := by decide +kernel
theorem dX12_state_19 : decode cX12_state 19 = .ok (.ifCond .ne 5, 3) := by decide +kernel
theorem dX12_state_22 : decode cX12_state 22 = .ok (.iconst (-1), 1) := by decide +kernel
theorem dX12_state_23 : decode cX12_state 23 = .ok (.ireturn, 1) := by decide +kernel
theorem dX12_state_24 : decode cX12_state 24 = .ok (.bipush 16, 2) := by decide +kernel
theorem dX12_state_26 : decode cX12_state 26 = .ok (.iload_n 1, 1) := by decide +kernel
theorem dX12_state_27 : decode cX12_state 27 = .ok (.imul, 1) := by decide +kernel
theorem dX12_state_28 : decode cX12_state 28 = .ok (.iload_n 2, 1) := by decide +kernel
theorem dX12_state_29 : decode cX12_state 29 = .ok (.iadd, 1) := by decide +kernel
theorem dX12_state_30 : decode cX12_state 30 = .ok (.istore 4, 2) := by decide +kernel
theorem dX12_state_32 : decode cX12_state 32 = .ok (.iload_n 3, 1) := by decide +kernel
theorem dX12_state_33 : decode cX12_state 33 = .ok (.tableswitch 152 0 8 #[51, 59, 67, 75, 97, 105, 113, 121, 136], 51) := by decide +kernel
theorem dX12_state_84 : decode cX12_state 84 = .ok (.aload_n 0, 1) := by decide +kernel
theorem dX12_state_85 : decode cX12_state 85 = .ok (.getfield 149, 3) := by decide +kernel
theorem dX12_state_88 : decode cX12_state 88 = .ok (.iload 4, 2) := by decide +kernel
theorem dX12_state_90 : decode cX12_state 90 = .ok (.iaload, 1) := by decide +kernel
theorem dX12_state_91 : decode cX12_state 91 = .ok (.ireturn, 1) := by decide +kernel
theorem dX12_state_92 : decode cX12_state 92 = .ok (.aload_n 0, 1) := by decide +kernel
theorem dX12_state_93 : decode cX12_state 93 = .ok (.getfield 152, 3) := by decide +kernel
theorem dX12_state_96 : decode cX12_state 96 = .ok (.iload 4, 2) := by decide +kernel
theorem dX12_state_98 : decode cX12_state 98 = .ok (.iaload, 1) := by decide +kernel
theorem dX12_state_99 : decode cX12_state 99 = .ok (.ireturn, 1) := by decide +kernel
theorem dX12_state_100 : decode cX12_state 100 = .ok (.aload_n 0, 1) := by decide +kernel
theorem dX12_state_101 : decode cX12_state 101 = .ok (.getfield 155, 3) := by decide +kernel
theorem dX12_state_104 : decode cX12_state 104 = .ok (.iload 4, 2) := by decide +kernel
theorem dX12_state_106 : decode cX12_state 106 = .ok (.iaload, 1) := by decide +kernel
theorem dX12_state_107 : decode cX12_state 107 = .ok (.ireturn, 1) := by decide +kernel
theorem dX12_state_108 : decode cX12_state 108 = .ok (.aload_n 0, 1) := by decide +kernel
theorem dX12_state_109 : decode cX12_state 109 = .ok (.getfield 158, 3) := by decide +kernel
theorem dX12_state_112 : decode cX12_state 112 = .ok (.iload 4, 2) := by decide +kernel
theorem dX12_state_114 : decode cX12_state 114 = .ok (.baload, 1) := by decide +kernel
theorem dX12_state_115 : decode cX12_state 115 = .ok (.ifCond .eq 13, 3) := by decide +kernel
theorem dX12_state_118 : decode cX12_state 118 = .ok (.aload_n 0, 1) := by decide +kernel
theorem dX12_state_119 : decode cX12_state 119 = .ok (.getfield 161, 3) := by decide +kernel
theorem dX12_state_122 : decode cX12_state 122 = .ok (.iload 4, 2) := by decide +kernel
theorem dX12_state_124 : decode cX12_state 124 = .ok (.iaload, 1) := by decide +kernel
theorem dX12_state_125 : decode cX12_state 125 = .ok (.goto 4, 3) := by decide +kernel
theorem dX12_state_128 : decode cX12_state 128 = .ok (.iconst (-1), 1) := by decide +kernel
theorem dX12_state_129 : decode cX12_state 129 = .ok (.ireturn, 1) := by decide +kernel
theorem dX12_state_130 : decode cX12_state 130 = .ok (.aload_n 0, 1) := by decide +kernel
theorem dX12_state_131 : decode cX12_state 131 = .ok (.getfield 164, 3) := by decide +kernel
theorem dX12_state_134 : decode cX12_state 134 = .ok (.iload 4, 2) := by decide +kernel
theorem dX12_state_136 : decode cX12_state 136 = .ok (.iaload, 1) := by decide +kernel
theorem dX12_state_137 : decode cX12_state 137 = .ok (.ireturn, 1) := by decide +kernel
theorem dX12_state_138 : decode cX12_state 138 = .ok (.aload_n 0, 1) := by decide +kernel
theorem dX12_state_139 : decode cX12_state 139 = .ok (.getfield 170, 3) := by decide +kernel
theorem dX12_state_142 : decode cX12_state 142 = .ok (.iload 4, 2) := by decide +kernel
theorem dX12_state_144 : decode cX12_state 144 = .ok (.iaload, 1) := by decide +kernel
theorem dX12_state_145 : decode cX12_state 145 = .ok (.ireturn, 1) := by decide +kernel
theorem dX12_state_146 : decode cX12_state 146 = .ok (.aload_n 0, 1) := by decide +kernel
theorem dX12_state_147 : decode cX12_state 147 = .ok (.getfield 167, 3) := by decide +kernel
theorem dX12_state_150 : decode cX12_state 150 = .ok (.iload 4, 2) := by decide +kernel
theorem dX12_state_152 : decode cX12_state 152 = .ok (.iaload, 1) := by decide +kernel
theorem dX12_state_153 : decode cX12_state 153 = .ok (.ireturn, 1) := by decide +kernel
theorem dX12_state_154 : decode cX12_state 154 = .ok (.aload_n 0, 1) := by decide +kernel
theorem dX12_state_155 : decode cX12_state 155 = .ok (.iload 4, 2) := by decide +kernel
theorem dX12_state_157 : decode cX12_state 157 = .ok (.invokevirtual 493, 3) := by decide +kernel
theorem dX12_state_160 : decode cX12_state 160 = .ok (.ifCond .eq 7, 3) := by decide +kernel
theorem dX12_state_163 : decode cX12_state 163 = .ok (.iconst 1, 1) := by decide +kernel
theorem dX12_state_164 : decode cX12_state 164 = .ok (.goto 4, 3) := by decide +kernel
theorem dX12_state_167 : decode cX12_state 167 = .ok (.iconst 0, 1) := by decide +kernel
theorem dX12_state_168 : decode cX12_state 168 = .ok (.ireturn, 1) := by decide +kernel
theorem dX12_state_169 : decode cX12_state 169 = .ok (.aload_n 0, 1) := by decide +kernel
theorem dX12_state_170 : decode cX12_state 170 = .ok (.getfield 173, 3) := by decide +kernel
theorem dX12_state_173 : decode cX12_state 173 = .ok (.iload 4, 2) := by decide +kernel
theorem dX12_state_175 : decode cX12_state 175 = .ok (.baload, 1) := by decide +kernel
theorem dX12_state_176 : decode cX12_state 176 = .ok (.ifCond .eq 7, 3) := by decide +kernel
theorem dX12_state_179 : decode cX12_state 179 = .ok (.iconst 1, 1) := by decide +kernel
theorem dX12_state_180 : decode cX12_state 180 = .ok (.goto 4, 3) := by decide +kernel
theorem dX12_state_183 : decode cX12_state 183 = .ok (.iconst 0, 1) := by decide +kernel
theorem dX12_state_184 : decode cX12_state 184 = .ok (.ireturn, 1) := by decide +kernel
theorem dX12_state_185 : decode cX12_state 185 = .ok (.iconst (-1), 1) := by decide +kernel
theorem dX12_state_186 : decode cX12_state 186 = .ok (.ireturn, 1) := by decide +kernel
def wb_X12_state_22  (S : q_S) (Q : Option Value → q_S → Prop) : Prop := Q (some (.int (-1 : Int32))) S
set_option maxHeartbeats 4000000 in
set_option maxRecDepth 100000 in
theorem cb_X12_state_22 {p : Program} {l : Launch} {e : Env} {s : State} {m : MethodId} {args : Array Value} {below : List Frame} {meth : Method} {c : Code} {D : va_G} {cy : Nat → ClassId} {lo : Nat}  {S : q_S} {Q : Option Value → q_S → Prop} {H : Heap} {locs : List Loc} {ls : Array Slot} (X : q_X p s m args meth c RX12 cX12_state 5 (some .int) D cy lo)  (Y : q_Y D cy lo s S H locs) (hl : lv_has ls 5 []) (h : wb_X12_state_22 S Q) : W p l e ({ frames := 2, cells := 0, slots := 0, locals := 42 } : Room) s m args below meth c H locs 0 0 (MQ below (q_Q D cy lo Q) args s 0 0 (fun q => lo ≤ q)) (F0 m 22 ls []) := by
  have hx := X.1
  have hb := X.2.1
  unfold wb_X12_state_22 at h
  refine lv_iconst (v := (-1)) hx hb dX12_state_22 (by decide) ?_
  exact q_iret X Y rfl (Nat.le_refl _) (Nat.le_refl _) h dX12_state_23
def wb_X12_state_184  (S : q_S) (xs0 : Int32) (Q : Option Value → q_S → Prop) : Prop := Q (some (.int xs0)) S
set_option maxHeartbeats 4000000 in
set_option maxRecDepth 100000 in
theorem cb_X12_state_184 {p : Program} {l : Launch} {e : Env} {s : State} {m : MethodId} {args : Array Value} {below : List Frame} {meth : Method} {c : Code} {D : va_G} {cy : Nat → ClassId} {lo : Nat}  {S : q_S} {xs0 : Int32} {Q : Option Value → q_S → Prop} {H : Heap} {locs : List Loc} {ls : Array Slot} (X : q_X p s m args meth c RX12 cX12_state 5 (some .int) D cy lo)  (Y : q_Y D cy lo s S H locs) (hl : lv_has ls 5 []) (h : wb_X12_state_184 S xs0 Q) : W p l e ({ frames := 2, cells := 0, slots := 0, locals := 42 } : Room) s m args below meth c H locs 0 0 (MQ below (q_Q D cy lo Q) args s 0 0 (fun q => lo ≤ q)) (F0 m 184 ls [.int xs0]) := by
  have hx := X.1
  have hb := X.2.1
  unfold wb_X12_state_184 at h
  exact q_iret X Y rfl (Nat.le_refl _) (Nat.le_refl _) h dX12_state_184
def wb_X12_state_168  (S : q_S) (xs0 : Int32) (Q : Option Value → q_S → Prop) : Prop := Q (some (.int xs0)) S
set_option maxHeartbeats 4000000 in
set_option maxRecDepth 100000 in
theorem cb_X12_state_168 {p : Program} {l : Launch} {e : Env} {s : State} {m : MethodId} {args : Array Value} {below : List Frame} {meth : Method} {c : Code} {D : va_G} {cy : Nat → ClassId} {lo : Nat}  {S : q_S} {xs0 : Int32} {Q : Option Value → q_S → Prop} {H : Heap} {locs : List Loc} {ls : Array Slot} (X : q_X p s m args meth c RX12 cX12_state 5 (some .int) D cy lo)  (Y : q_Y D cy lo s S H locs) (hl : lv_has ls 5 []) (h : wb_X12_state_168 S xs0 Q) : W p l e ({ frames := 2, cells := 0, slots := 0, locals := 42 } : Room) s m args below meth c H locs 0 0 (MQ below (q_Q D cy lo Q) args s 0 0 (fun q => lo ≤ q)) (F0 m 168 ls [.int xs0]) := by
  have hx := X.1
  have hb := X.2.1
  unfold wb_X12_state_168 at h
  exact q_iret X Y rfl (Nat.le_refl _) (Nat.le_refl _) h dX12_state_168
def wb_X12_state_129  (S : q_S) (xs0 : Int32) (Q : Option Value → q_S → Prop) : Prop := Q (some (.int xs0)) S
set_option maxHeartbeats 4000000 in
set_option maxRecDepth 100000 in
theorem cb_X12_state_129 {p : Program} {l : Launch} {e : Env} {s : State} {m : MethodId} {args : Array Value} {below : List Frame} {meth : Method} {c : Code} {D : va_G} {cy : Nat → ClassId} {lo : Nat}  {S : q_S} {xs0 : Int32} {Q : Option Value → q_S → Prop} {H : Heap} {locs : List Loc} {ls : Array Slot} (X : q_X p s m args meth c RX12 cX12_state 5 (some .int) D cy lo)  (Y : q_Y D cy lo s S H locs) (hl : lv_has ls 5 []) (h : wb_X12_state_129 S xs0 Q) : W p l e ({ frames := 2, cells := 0, slots := 0, locals := 42 } : Room) s m args below meth c H locs 0 0 (MQ below (q_Q D cy lo Q) args s 0 0 (fun q => lo ≤ q)) (F0 m 129 ls [.int xs0]) := by
  have hx := X.1
  have hb := X.2.1
  unfold wb_X12_state_129 at h
  exact q_iret X Y rfl (Nat.le_refl _) (Nat.le_refl _) h dX12_state_129
def wm_X12_state (S : q_S) (a0 : Nat) (x1 : Int32) (x2 : Int32) (x3 : Int32) (Q : Option Value → q_S → Prop) : Prop := q_K S a0 = 13 ∧ (wm_X12_isPartition (qs_I S 2400 a0 (0 : Int32)) a0 x1 (fun r2_ S3_ => ∃ x4_ : Int32, r2_ = some (.int x4_) ∧ (((x4_ = 0 → (wb_X12_state_22 S3_ Q)) ∧ (¬ x4_ = 0 → (q_K S3_ a0 = 13 ∧ (wm_X12_isProcess S3_ a0 x1 x2 (fun r7_ S8_ => ∃ x9_ : Int32, r7_ = some (.int x9_) ∧ (((¬ x9_ = 0 → ((((x3.toInt < 0 ∨ 8 < x3.toInt) → (Q (some (.int (-1 : Int32))) S8_)) ∧ ((x3 = (0 : Int32)) → (q_K S8_ a0 = 13 ∧ (∃ a12_ : Nat, (q_P S8_ 2467 a0) = some a12_ ∧ (q_K S8_ a12_ = 21 ∧ (vp_in (((16 : Int32) * x1) + x2) (q_N S8_ a12_) ∧ (Q (some (.int (q_A S8_ a12_ (((16 : Int32) * x1) + x2).toNatClampNeg))) S8_)))))) ∧ ((x3 = (1 : Int32)) → (q_K S8_ a0 = 13 ∧ (∃ a17_ : Nat, (q_P S8_ 2468 a0) = some a17_ ∧ (q_K S8_ a17_ = 21 ∧ (vp_in (((16 : Int32) * x1) + x2) (q_N S8_ a17_) ∧ (Q (some (.int (q_A S8_ a17_ (((16 : Int32) * x1) + x2).toNatClampNeg))) S8_)))))) ∧ ((x3 = (2 : Int32)) → (q_K S8_ a0 = 13 ∧ (∃ a22_ : Nat, (q_P S8_ 2469 a0) = some a22_ ∧ (q_K S8_ a22_ = 21 ∧ (vp_in (((16 : Int32) * x1) + x2) (q_N S8_ a22_) ∧ (Q (some (.int (q_A S8_ a22_ (((16 : Int32) * x1) + x2).toNatClampNeg))) S8_)))))) ∧ ((x3 = (3 : Int32)) → (q_K S8_ a0 = 13 ∧ (∃ a27_ : Nat, (q_P S8_ 2470 a0) = some a27_ ∧ (q_K S8_ a27_ = 22 ∧ (vp_in (((16 : Int32) * x1) + x2) (q_N S8_ a27_) ∧ ((((q_A S8_ a27_ (((16 : Int32) * x1) + x2).toNatClampNeg) = 0 → (wb_X12_state_129 S8_ (-1 : Int32) Q)) ∧ (¬ (q_A S8_ a27_ (((16 : Int32) * x1) + x2).toNatClampNeg) = 0 → (∃ a32_ : Nat, (q_P S8_ 2471 a0) = some a32_ ∧ (q_K S8_ a32_ = 21 ∧ (vp_in (((16 : Int32) * x1) + x2) (q_N S8_ a32_) ∧ (wb_X12_state_129 S8_ (q_A S8_ a32_ (((16 : Int32) * x1) + x2).toNatClampNeg) Q)))))))))))) ∧ ((x3 = (4 : Int32)) → (q_K S8_ a0 = 13 ∧ (∃ a37_ : Nat, (q_P S8_ 2472 a0) = some a37_ ∧ (q_K S8_ a37_ = 21 ∧ (vp_in (((16 : Int32) * x1) + x2) (q_N S8_ a37_) ∧ (Q (some (.int (q_A S8_ a37_ (((16 : Int32) * x1) + x2).toNatClampNeg))) S8_)))))) ∧ ((x3 = (5 : Int32)) → (q_K S8_ a0 = 13 ∧ (∃ a42_ : Nat, (q_P S8_ 2474 a0) = some a42_ ∧ (q_K S8_ a42_ = 21 ∧ (vp_in (((16 : Int32) * x1) + x2) (q_N S8_ a42_) ∧ (Q (some (.int (q_A S8_ a42_ (((16 : Int32) * x1) + x2).toNatClampNeg))) S8_)))))) ∧ ((x3 = (6 : Int32)) → (q_K S8_ a0 = 13 ∧ (∃ a47_ : Nat, (q_P S8_ 2473 a0) = some a47_ ∧ (q_K S8_ a47_ = 21 ∧ (vp_in (((16 : Int32) * x1) + x2) (q_N S8_ a47_) ∧ (Q (some (.int (q_A S8_ a47_ (((16 : Int32) * x1) + x2).toNatClampNeg))) S8_)))))) ∧ ((x3 = (7 : Int32)) → (q_K S8_ a0 = 13 ∧ (wm_X12_isHandler S8_ a0 (((16 : Int32) * x1) + x2) (fun r52_ S53_ => ∃ x54_ : Int32, r52_ = some (.int x54_) ∧ (((x54_ = 0 → (wb_X12_state_168 S53_ (0 : Int32) Q)) ∧ (¬ x54_ = 0 → (wb_X12_state_168 S53_ (1 : Int32) Q)))))))) ∧ ((x3 = (8 : Int32)) → (q_K S8_ a0 = 13 ∧ (∃ a57_ : Nat, (q_P S8_ 2475 a0) = some a57_ ∧ (q_K S8_ a57_ = 22 ∧ (vp_in (((16 : Int32) * x1) + x2) (q_N S8_ a57_) ∧ ((((q_A S8_ a57_ (((16 : Int32) * x1) + x2).toNatClampNeg) = 0 → (wb_X12_state_184 S8_ (0 : Int32) Q)) ∧ (¬ (q_A S8_ a57_ (((16 : Int32) * x1) + x2).toNatClampNeg) = 0 → (wb_X12_state_184 S8_ (1 : Int32) Q)))))))))))) ∧ (x9_ = 0 → (wb_X12_state_22 S8_ Q))))))))))))
set_option maxHeartbeats 4000000 in
set_option maxRecDepth 100000 in
theorem cm_X12_state {l : Launch} {D : va_G} {cy : Nat → ClassId} {lo : Nat} {S : q_S} {a0 : Nat} {x1 : Int32} {x2 : Int32} {x3 : Int32} {Q : Option Value → q_S → Prop} (h : wm_X12_state S a0 x1 x2 x3 Q) : q_Met l D cy lo yX12_state cX12_state 5 (some .int) 2 42 0 0 [.ref a0, .int x1, .int x2, .int x3] S Q := by
  refine q_body (by decide) (by first | exact Nat.le_of_ble_eq_true rfl | simp [lg_sl, q_cat, q_catI, q_catJ, q_catR]) ?_
  intro p e s m below meth c ls X hnm Y hl
  have hx := X.1
  have hb := X.2.1
  have hl : lv_has ls 5 [(0, .ref a0), (1, .int x1), (2, .int x2), (3, .int x3)] := by first | exact hl | simpa [lv_args, q_cat, q_catI, q_catJ, q_catR] using hl
  generalize hargs : ([.ref a0, .int x1, .int x2, .int x3] : List Value).toArray = args at X ⊢
  unfold wm_X12_state at h
  refine lv_aload_n hx hb dX12_state_0 rfl (lv_at hl 0 rfl) ?_
  refine lv_iconst (v := 0) hx hb dX12_state_1 (by decide) ?_
  obtain ⟨k1_, h⟩ := h
  refine q_putI X Y kX12 0 rfl fl_X12_278 k1_ .int rfl ⟨rfl, rfl⟩ rfl dX12_state_2 (fun H locs Y => ?_)
  refine lv_aload_n hx hb dX12_state_5 rfl (lv_at hl 0 rfl) ?_
  refine lv_iload_n hx hb dX12_state_6 rfl (lv_at hl 1 rfl) ?_
  refine q_callV X Y hl (cm_X12_isPartition h) mt_X12_isPartition mi_X12_isPartition ml_X12_468 (ci := 12) rfl k1_ (by decide) rfl rfl (by first | exact Nat.le_of_ble_eq_true rfl | simp [q_cat, q_catI, q_catJ, q_catR]) ⟨Nat.le_of_ble_eq_true rfl, Nat.le_of_ble_eq_true rfl⟩ ⟨Nat.le_of_ble_eq_true rfl, Nat.le_of_ble_eq_true rfl⟩ dX12_state_7 (fun r2_ S3_ H locs hp Y => ?_)
  obtain ⟨x4_, rfl, h⟩ := hp
  refine W.eq (g2 := F0 m 10 ls [.int x4_]) rfl ?_
  refine lv_if_eq (tgt := 22) hx hb dX12_state_10 (by decide) (fun c5_ => ?_) (fun c5_ => ?_)
  · replace h := h.1 c5_
    exact cb_X12_state_22 X Y (lv_sub hl [] rfl) h
  · replace h := h.2 c5_
    refine lv_aload_n hx hb dX12_state_13 rfl (lv_at hl 0 rfl) ?_
    refine lv_iload_n hx hb dX12_state_14 rfl (lv_at hl 1 rfl) ?_
    refine lv_iload_n hx hb dX12_state_15 rfl (lv_at hl 2 rfl) ?_
    obtain ⟨k6_, h⟩ := h
    refine q_callV X Y hl (cm_X12_isProcess h) mt_X12_isProcess mi_X12_isProcess ml_X12_613 (ci := 12) rfl k6_ (by decide) rfl rfl (by first | exact Nat.le_of_ble_eq_true rfl | simp [q_cat, q_catI, q_catJ, q_catR]) ⟨Nat.le_of_ble_eq_true rfl, Nat.le_of_ble_eq_true rfl⟩ ⟨Nat.le_of_ble_eq_true rfl, Nat.le_of_ble_eq_true rfl⟩ dX12_state_16 (fun r7_ S8_ H locs hp Y => ?_)
    obtain ⟨x9_, rfl, h⟩ := hp
    refine W.eq (g2 := F0 m 19 ls [.int x9_]) rfl ?_
    refine lv_if_ne (tgt := 24) hx hb dX12_state_19 (by decide) (fun c10_ => ?_) (fun c10_ => ?_)
    · replace h := h.1 c10_
      refine lv_bipush (v := 16) hx hb dX12_state_24 (by decide) ?_
      refine lv_iload_n hx hb dX12_state_26 rfl (lv_at hl 1 rfl) ?_
      refine lv_imul hx hb dX12_state_27 ?_
      refine lv_iload_n hx hb dX12_state_28 rfl (lv_at hl 2 rfl) ?_
      refine lv_iadd hx hb dX12_state_29 ?_
      refine lv_istore (i := 4) (lv' := [(4, .int (((16 : Int32) * x1) + x2)), (0, .ref a0), (1, .int x1), (2, .int x2), (3, .int x3)]) hx hb dX12_state_30 hl (by decide) (by first | rfl | simp [q_cat, q_catI, q_catJ, q_catR]) (fun ls hl => ?_)
      refine lv_iload_n hx hb dX12_state_32 rfl (lv_at hl 4 rfl) ?_
      refine q_tsw (tgt := 185) hx hb dX12_state_33 (by decide) (by decide) (fun c62_ => ?_) (fun j63_ hj_ c62_ => ?_)
      · replace h := h.1 c62_
        refine lv_iconst (v := (-1)) hx hb dX12_state_185 (by decide) ?_
        exact q_iret X Y rfl (Nat.le_refl _) (Nat.le_refl _) h dX12_state_186
      · match j63_, hj_, c62_ with
        | 0, _, c62_ =>
          refine ⟨51, 84, rfl, by decide, ?_⟩
          replace h := h.2.1 (q_eqI c62_ (by decide))
          refine lv_aload_n hx hb dX12_state_84 rfl (lv_at hl 1 rfl) ?_
          obtain ⟨k11_, h⟩ := h
          refine q_getP X Y kX12 67 rfl fl_X12_149 k11_ rfl dX12_state_85 ?_
          refine lv_iload hx hb dX12_state_88 (lv_at hl 0 rfl) ?_
          obtain ⟨a12_, e13_, h⟩ := h
          refine q_nn [.int (((16 : Int32) * x1) + x2)] e13_ ?_
          obtain ⟨k14_, h⟩ := h
          obtain ⟨i15_, h⟩ := h
          refine q_ild X Y k14_ i15_ dX12_state_90 ?_
          exact q_iret X Y rfl (Nat.le_refl _) (Nat.le_refl _) h dX12_state_91
        | 1, _, c62_ =>
          refine ⟨59, 92, rfl, by decide, ?_⟩
          replace h := h.2.2.1 (q_eqI c62_ (by decide))
          refine lv_aload_n hx hb dX12_state_92 rfl (lv_at hl 1 rfl) ?_
          obtain ⟨k16_, h⟩ := h
          refine q_getP X Y kX12 68 rfl fl_X12_152 k16_ rfl dX12_state_93 ?_
          refine lv_iload hx hb dX12_state_96 (lv_at hl 0 rfl) ?_
          obtain ⟨a17_, e18_, h⟩ := h
          refine q_nn [.int (((16 : Int32) * x1) + x2)] e18_ ?_
          obtain ⟨k19_, h⟩ := h
          obtain ⟨i20_, h⟩ := h
          refine q_ild X Y k19_ i20_ dX12_state_98 ?_
          exact q_iret X Y rfl (Nat.le_refl _) (Nat.le_refl _) h dX12_state_99
        | 2, _, c62_ =>
          refine ⟨67, 100, rfl, by decide, ?_⟩
          replace h := h.2.2.2.1 (q_eqI c62_ (by decide))
          refine lv_aload_n hx hb dX12_state_100 rfl (lv_at hl 1 rfl) ?_
          obtain ⟨k21_, h⟩ := h
          refine q_getP X Y kX12 69 rfl fl_X12_155 k21_ rfl dX12_state_101 ?_
          refine lv_iload hx hb dX12_state_104 (lv_at hl 0 rfl) ?_
          obtain ⟨a22_, e23_, h⟩ := h
          refine q_nn [.int (((16 : Int32) * x1) + x2)] e23_ ?_
          obtain ⟨k24_, h⟩ := h
          obtain ⟨i25_, h⟩ := h
          refine q_ild X Y k24_ i25_ dX12_state_106 ?_
          exact q_iret X Y rfl (Nat.le_refl _) (Nat.le_refl _) h dX12_state_107
        | 3, _, c62_ =>
          refine ⟨75, 108, rfl, by decide, ?_⟩
          replace h := h.2.2.2.2.1 (q_eqI c62_ (by decide))
          refine lv_aload_n hx hb dX12_state_108 rfl (lv_at hl 1 rfl) ?_
          obtain ⟨k26_, h⟩ := h
          refine q_getP X Y kX12 70 rfl fl_X12_158 k26_ rfl dX12_state_109 ?_
          refine lv_iload hx hb dX12_state_112 (lv_at hl 0 rfl) ?_
          obtain ⟨a27_, e28_, h⟩ := h
          refine q_nn [.int (((16 : Int32) * x1) + x2)] e28_ ?_
          obtain ⟨k29_, h⟩ := h
          obtain ⟨i30_, h⟩ := h
          refine q_zld X Y k29_ i30_ dX12_state_114 ?_
          refine lv_if_eq (tgt := 128) hx hb dX12_state_115 (by decide) (fun c31_ => ?_) (fun c31_ => ?_)
          · replace h := h.1 c31_
            refine lv_iconst (v := (-1)) hx hb dX12_state_128 (by decide) ?_
            exact cb_X12_state_129 X Y (lv_sub hl [] rfl) h
          · replace h := h.2 c31_
            refine lv_aload_n hx hb dX12_state_118 rfl (lv_at hl 1 rfl) ?_
            refine q_getP X Y kX12 71 rfl fl_X12_161 k26_ rfl dX12_state_119 ?_
            refine lv_iload hx hb dX12_state_122 (lv_at hl 0 rfl) ?_
            obtain ⟨a32_, e33_, h⟩ := h
            refine q_nn [.int (((16 : Int32) * x1) + x2)] e33_ ?_
            obtain ⟨k34_, h⟩ := h
            obtain ⟨i35_, h⟩ := h
            refine q_ild X Y k34_ i35_ dX12_state_124 ?_
            refine lv_goto (tgt := 129) hx hb dX12_state_125 (by decide) ?_
            exact cb_X12_state_129 X Y (lv_sub hl [] rfl) h
        | 4, _, c62_ =>
          refine ⟨97, 130, rfl, by decide, ?_⟩
          replace h := h.2.2.2.2.2.1 (q_eqI c62_ (by decide))
          refine lv_aload_n hx hb dX12_state_130 rfl (lv_at hl 1 rfl) ?_
          obtain ⟨k36_, h⟩ := h
          refine q_getP X Y kX12 72 rfl fl_X12_164 k36_ rfl dX12_state_131 ?_
          refine lv_iload hx hb dX12_state_134 (lv_at hl 0 rfl) ?_
          obtain ⟨a37_, e38_, h⟩ := h
          refine q_nn [.int (((16 : Int32) * x1) + x2)] e38_ ?_
          obtain ⟨k39_, h⟩ := h
          obtain ⟨i40_, h⟩ := h
          refine q_ild X Y k39_ i40_ dX12_state_136 ?_
          exact q_iret X Y rfl (Nat.le_refl _) (Nat.le_refl _) h dX12_state_137
        | 5, _, c62_ =>
          refine ⟨105, 138, rfl, by decide, ?_⟩
          replace h := h.2.2.2.2.2.2.1 (q_eqI c62_ (by decide))
          refine lv_aload_n hx hb dX12_state_138 rfl (lv_at hl 1 rfl) ?_
          obtain ⟨k41_, h⟩ := h
          refine q_getP X Y kX12 74 rfl fl_X12_170 k41_ rfl dX12_state_139 ?_
          refine lv_iload hx hb dX12_state_142 (lv_at hl 0 rfl) ?_
          obtain ⟨a42_, e43_, h⟩ := h
          refine q_nn [.int (((16 : Int32) * x1) + x2)] e43_ ?_
          obtain ⟨k44_, h⟩ := h
          obtain ⟨i45_, h⟩ := h
          refine q_ild X Y k44_ i45_ dX12_state_144 ?_
          exact q_iret X Y rfl (Nat.le_refl _) (Nat.le_refl _) h dX12_state_145
        | 6, _, c62_ =>
          refine ⟨113, 146, rfl, by decide, ?_⟩
          replace h := h.2.2.2.2.2.2.2.1 (q_eqI c62_ (by decide))
          refine lv_aload_n hx hb dX12_state_146 rfl (lv_at hl 1 rfl) ?_
          obtain ⟨k46_, h⟩ := h
          refine q_getP X Y kX12 73 rfl fl_X12_167 k46_ rfl dX12_state_147 ?_
          refine lv_iload hx hb dX12_state_150 (lv_at hl 0 rfl) ?_
          obtain ⟨a47_, e48_, h⟩ := h
          refine q_nn [.int (((16 : Int32) * x1) + x2)] e48_ ?_
          obtain ⟨k49_, h⟩ := h
          obtain ⟨i50_, h⟩ := h
          refine q_ild X Y k49_ i50_ dX12_state_152 ?_
          exact q_iret X Y rfl (Nat.le_refl _) (Nat.le_refl _) h dX12_state_153
        | 7, _, c62_ =>
          refine ⟨121, 154, rfl, by decide, ?_⟩
          replace h := h.2.2.2.2.2.2.2.2.1 (q_eqI c62_ (by decide))
          refine lv_aload_n hx hb dX12_state_154 rfl (lv_at hl 1 rfl) ?_
          refine lv_iload hx hb dX12_state_155 (lv_at hl 0 rfl) ?_
          obtain ⟨k51_, h⟩ := h
          refine q_callV X Y hl (cm_X12_isHandler h) mt_X12_isHandler mi_X12_isHandler ml_X12_493 (ci := 12) rfl k51_ (by decide) rfl rfl (by first | exact Nat.le_of_ble_eq_true rfl | simp [q_cat, q_catI, q_catJ, q_catR]) ⟨Nat.le_of_ble_eq_true rfl, Nat.le_of_ble_eq_true rfl⟩ ⟨Nat.le_of_ble_eq_true rfl, Nat.le_of_ble_eq_true rfl⟩ dX12_state_157 (fun r52_ S53_ H locs hp Y => ?_)
          obtain ⟨x54_, rfl, h⟩ := hp
          refine W.eq (g2 := F0 m 160 ls [.int x54_]) rfl ?_
          refine lv_if_eq (tgt := 167) hx hb dX12_state_160 (by decide) (fun c55_ => ?_) (fun c55_ => ?_)
          · replace h := h.1 c55_
            refine lv_iconst (v := 0) hx hb dX12_state_167 (by decide) ?_
            exact cb_X12_state_168 X Y (lv_sub hl [] rfl) h
          · replace h := h.2 c55_
            refine lv_iconst (v := 1) hx hb dX12_state_163 (by decide) ?_
            refine lv_goto (tgt := 168) hx hb dX12_state_164 (by decide) ?_
            exact cb_X12_state_168 X Y (lv_sub hl [] rfl) h
        | 8, _, c62_ =>
          refine ⟨136, 169, rfl, by decide, ?_⟩
          replace h := h.2.2.2.2.2.2.2.2.2 (q_eqI c62_ (by decide))
          refine lv_aload_n hx hb dX12_state_169 rfl (lv_at hl 1 rfl) ?_
          obtain ⟨k56_, h⟩ := h
          refine q_getP X Y kX12 75 rfl fl_X12_173 k56_ rfl dX12_state_170 ?_
          refine lv_iload hx hb dX12_state_173 (lv_at hl 0 rfl) ?_
          obtain ⟨a57_, e58_, h⟩ := h
          refine q_nn [.int (((16 : Int32) * x1) + x2)] e58_ ?_
          obtain ⟨k59_, h⟩ := h
          obtain ⟨i60_, h⟩ := h
          refine q_zld X Y k59_ i60_ dX12_state_175 ?_
          refine lv_if_eq (tgt := 183) hx hb dX12_state_176 (by decide) (fun c61_ => ?_) (fun c61_ => ?_)
          · replace h := h.1 c61_
            refine lv_iconst (v := 0) hx hb dX12_state_183 (by decide) ?_
            exact cb_X12_state_184 X Y (lv_sub hl [] rfl) h
          · replace h := h.2 c61_
            refine lv_iconst (v := 1) hx hb dX12_state_179 (by decide) ?_
            refine lv_goto (tgt := 184) hx hb dX12_state_180 (by decide) ?_
            exact cb_X12_state_184 X Y (lv_sub hl [] rfl) h
        | z_ + 9, hj_, _ => exact absurd hj_ (by simp)
    · replace h := h.2 c10_
      exact cb_X12_state_22 X Y (lv_sub hl [] rfl) h
-- X12_partition
theorem dX12_partition_0 : decode cX12_partition 0 = .ok (.aload_n 0, 1) := by decide +kernel
theorem dX12_partition_1 : decode cX12_partition 1 = .ok (.iconst 0, 1) := by decide +kernel
theorem dX12_partition_2 : decode cX12_partition 2 = .ok (.putfield 278, 3) := by decide +kernel
theorem dX12_partition_5 : decode cX12_partition 5 = .ok (.aload_n 0, 1) := by decide +kernel
theorem dX12_partition_6 : decode cX12_partition 6 = .ok (.iload_n 1, 1) := by decide +kernel
theorem dX12_partition_7 : decode cX12_partition 7 = .ok (.invokevirtual 468, 3) := by decide +kernel
theorem dX12_partition_10 : decode cX12_partition 10 = .ok (.ifCond .ne 5, 3) := by decide +kernel
theorem dX12_partition_13 : decode cX12_partition 13 = .ok (.iconst (-1), 1) := by decide +kernel
theorem dX12_partition_14 : decode cX12_partition 14 = .ok (.ireturn, 1) := by decide +kernel
theorem dX12_partition_15 : decode cX12_partition 15 = .ok (.iload_n 2, 1) := by decide +kernel
theorem dX12_partition_16 : decode cX12_partition 16 = .ok (.tableswitch 167 0 13 #[72, 79, 86, 98, 98, 98, 98, 98, 112, 119, 126, 146, 153, 160], 72) := by decide +kernel
theorem dX12_partition_88 : decode cX12_partition 88 = .ok (.aload_n 0, 1) := by decide +kernel
theorem dX12_partition_89 : decode cX12_partition 89 = .ok (.getfield 197, 3) := by decide +kernel
theorem dX12_partition_92 : decode cX12_partition 92 = .ok (.iload_n 1, 1) := by decide +kernel
theorem dX12_partition_93 : decode cX12_partition 93 = .ok (.iaload, 1) := by decide +kernel
theorem dX12_partition_94 : decode cX12_partition 94 = .ok (.ireturn, 1) := by decide +kernel
theorem dX12_partition_95 : decode cX12_partition 95 = .ok (.aload_n 0, 1) := by decide +kernel
theorem dX12_partition_96 : decode cX12_partition 96 = .ok (.getfield 30, 3) := by decide +kernel
theorem dX12_partition_99 : decode cX12_partition 99 = .ok (.iload_n 1, 1) := by decide +kernel
theorem dX12_partition_100 : decode cX12_partition 100 = .ok (.iaload, 1) := by decide +kernel
theorem dX12_partition_101 : decode cX12_partition 101 = .ok (.ireturn, 1) := by decide +kernel
theorem dX12_partition_102 : decode cX12_partition 102 = .ok (.aload_n 0, 1) := by decide +kernel
theorem dX12_partition_103 : decode cX12_partition 103 = .ok (.getfield 60, 3) := by decide +kernel
theorem dX12_partition_106 : decode cX12_partition 106 = .ok (.bipush 6, 2) := by decide +kernel
theorem dX12_partition_108 : decode cX12_partition 108 = .ok (.iload_n 1, 1) := by decide +kernel
theorem dX12_partition_109 : decode cX12_partition 109 = .ok (.imul, 1) := by decide +kernel
theorem dX12_partition_110 : decode cX12_partition 110 = .ok (.iconst 5, 1) := by decide +kernel
theorem dX12_partition_111 : decode cX12_partition 111 = .ok (.iadd, 1) := by decide +kernel
theorem dX12_partition_112 : decode cX12_partition 112 = .ok (.iaload, 1) := by decide +kernel
theorem dX12_partition_113 : decode cX12_partition 113 = .ok (.ireturn, 1) := by decide +kernel
theorem dX12_partition_114 : decode cX12_partition 114 = .ok (.aload_n 0, 1) := by decide +kernel
theorem dX12_partition_115 : decode cX12_partition 115 = .ok (.getfield 60, 3) := by decide +kernel
theorem dX12_partition_118 : decode cX12_partition 118 = .ok (.bipush 6, 2) := by decide +kernel
theorem dX12_partition_120 : decode cX12_partition 120 = .ok (.iload_n 1, 1) := by decide +kernel
theorem dX12_partition_121 : decode cX12_partition 121 = .ok (.imul, 1) := by decide +kernel
theorem dX12_partition_122 : decode cX12_partition 122 = .ok (.iload_n 2, 1) := by decide +kernel
theorem dX12_partition_123 : decode cX12_partition 123 = .ok (.iadd, 1) := by decide +kernel
theorem dX12_partition_124 : decode cX12_partition 124 = .ok (.iconst 3, 1) := by decide +kernel
theorem dX12_partition_125 : decode cX12_partition 125 = .ok (.isub, 1) := by decide +kernel
theorem dX12_partition_126 : decode cX12_partition 126 = .ok (.iaload, 1) := by decide +kernel
theorem dX12_partition_127 : decode cX12_partition 127 = .ok (.ireturn, 1) := by decide +kernel
theorem dX12_partition_128 : decode cX12_partition 128 = .ok (.aload_n 0, 1) := by decide +kernel
theorem dX12_partition_129 : decode cX12_partition 129 = .ok (.getfield 203, 3) := by decide +kernel
theorem dX12_partition_132 : decode cX12_partition 132 = .ok (.iload_n 1, 1) := by decide +kernel
theorem dX12_partition_133 : decode cX12_partition 133 = .ok (.iaload, 1) := by decide +kernel
theorem dX12_partition_134 : decode cX12_partition 134 = .ok (.ireturn, 1) := by decide +kernel
theorem dX12_partition_135 : decode cX12_partition 135 = .ok (.aload_n 0, 1) := by decide +kernel
theorem dX12_partition_136 : decode cX12_partition 136 = .ok (.getfield 206, 3) := by decide +kernel
theorem dX12_partition_139 : decode cX12_partition 139 = .ok (.iload_n 1, 1) := by decide +kernel
theorem dX12_partition_140 : decode cX12_partition 140 = .ok (.iaload, 1) := by decide +kernel
theorem dX12_partition_141 : decode cX12_partition 141 = .ok (.ireturn, 1) := by decide +kernel
theorem dX12_partition_142 : decode cX12_partition 142 = .ok (.aload_n 0, 1) := by decide +kernel
theorem dX12_partition_143 : decode cX12_partition 143 = .ok (.iload_n 1, 1) := by decide +kernel
theorem dX12_partition_144 : decode cX12_partition 144 = .ok (.invokevirtual 525, 3) := by decide +kernel
theorem dX12_partition_147 : decode cX12_partition 147 = .ok (.istore_n 3, 1) := by decide +kernel
theorem dX12_partition_148 : decode cX12_partition 148 = .ok (.iload_n 3, 1) := by decide +kernel
theorem dX12_partition_149 : decode cX12_partition 149 = .ok (.iconst (-1), 1) := by decide +kernel
theorem dX12_partition_150 : decode cX12_partition 150 = .ok (.if_icmp .ne 7, 3) := by decide +kernel
theorem dX12_partition_153 : decode cX12_partition 153 = .ok (.iconst (-1), 1) := by decide +kernel
theorem dX12_partition_154 : decode cX12_partition 154 = .ok (.goto 7, 3) := by decide +kernel
theorem dX12_partition_157 : decode cX12_partition 157 = .ok (.iload_n 3, 1) := by decide +kernel
theorem dX12_partition_158 : decode cX12_partition 158 = .ok (.bipush 16, 2) := by decide +kernel
theorem dX12_partition_160 : decode cX12_partition 160 = .ok (.irem, 1) := by decide +kernel
theorem dX12_partition_161 : decode cX12_partition 161 = .ok (.ireturn, 1) := by decide +kernel
theorem dX12_partition_162 : decode cX12_partition 162 = .ok (.aload_n 0, 1) := by decide +kernel
theorem dX12_partition_163 : decode cX12_partition 163 = .ok (.getfield 200, 3) := by decide +kernel
theorem dX12_partition_166 : decode cX12_partition 166 = .ok (.iload_n 1, 1) := by decide +kernel
theorem dX12_partition_167 : decode cX12_partition 167 = .ok (.iaload, 1) := by decide +kernel
theorem dX12_partition_168 : decode cX12_partition 168 = .ok (.ireturn, 1) := by decide +kernel
theorem dX12_partition_169 : decode cX12_partition 169 = .ok (.aload_n 0, 1) := by decide +kernel
theorem dX12_partition_170 : decode cX12_partition 170 = .ok (.getfield 33, 3) := by decide +kernel
theorem dX12_partition_173 : decode cX12_partition 173 = .ok (.iload_n 1, 1) := by decide +kernel
theorem dX12_partition_174 : decode cX12_partition 174 = .ok (.iaload, 1) := by decide +kernel
theorem dX12_partition_175 : decode cX12_partition 175 = .ok (.ireturn, 1) := by decide +kernel
theorem dX12_partition_176 : decode cX12_partition 176 = .ok (.aload_n 0, 1) := by decide +kernel
theorem dX12_partition_177 : decode cX12_partition 177 = .ok (.getfield 221, 3) := by decide +kernel
theorem dX12_partition_180 : decode cX12_partition 180 = .ok (.iload_n 1, 1) := by decide +kernel
theorem dX12_partition_181 : decode cX12_partition 181 = .ok (.iaload, 1) := by decide +kernel
theorem dX12_partition_182 : decode cX12_partition 182 = .ok (.ireturn, 1) := by decide +kernel
theorem dX12_partition_183 : decode cX12_partition 183 = .ok (.iconst (-1), 1) := by decide +kernel
theorem dX12_partition_184 : decode cX12_partition 184 = .ok (.ireturn, 1) := by decide +kernel
def wb_X12_partition_161  (S : q_S) (xs0 : Int32) (Q : Option Value → q_S → Prop) : Prop := Q (some (.int xs0)) S
set_option maxHeartbeats 4000000 in
set_option maxRecDepth 100000 in
theorem cb_X12_partition_161 {p : Program} {l : Launch} {e : Env} {s : State} {m : MethodId} {args : Array Value} {below : List Frame} {meth : Method} {c : Code} {D : va_G} {cy : Nat → ClassId} {lo : Nat}  {S : q_S} {xs0 : Int32} {Q : Option Value → q_S → Prop} {H : Heap} {locs : List Loc} {ls : Array Slot} (X : q_X p s m args meth c RX12 cX12_partition 4 (some .int) D cy lo)  (Y : q_Y D cy lo s S H locs) (hl : lv_has ls 4 []) (h : wb_X12_partition_161 S xs0 Q) : W p l e ({ frames := 2, cells := 0, slots := 0, locals := 44 } : Room) s m args below meth c H locs 0 0 (MQ below (q_Q D cy lo Q) args s 0 0 (fun q => lo ≤ q)) (F0 m 161 ls [.int xs0]) := by
  have hx := X.1
  have hb := X.2.1
  unfold wb_X12_partition_161 at h
  exact q_iret X Y rfl (Nat.le_refl _) (Nat.le_refl _) h dX12_partition_161
def wm_X12_partition (S : q_S) (a0 : Nat) (x1 : Int32) (x2 : Int32) (Q : Option Value → q_S → Prop) : Prop := q_K S a0 = 13 ∧ (wm_X12_isPartition (qs_I S 2400 a0 (0 : Int32)) a0 x1 (fun r2_ S3_ => ∃ x4_ : Int32, r2_ = some (.int x4_) ∧ (((¬ x4_ = 0 → ((((x2.toInt < 0 ∨ 13 < x2.toInt) → (Q (some (.int (-1 : Int32))) S3_)) ∧ ((x2 = (0 : Int32)) → (q_K S3_ a0 = 13 ∧ (∃ a7_ : Nat, (q_P S3_ 2483 a0) = some a7_ ∧ (q_K S3_ a7_ = 21 ∧ (vp_in x1 (q_N S3_ a7_) ∧ (Q (some (.int (q_A S3_ a7_ x1.toNatClampNeg))) S3_)))))) ∧ ((x2 = (1 : Int32)) → (q_K S3_ a0 = 13 ∧ (∃ a12_ : Nat, (q_P S3_ 2425 a0) = some a12_ ∧ (q_K S3_ a12_ = 21 ∧ (vp_in x1 (q_N S3_ a12_) ∧ (Q (some (.int (q_A S3_ a12_ x1.toNatClampNeg))) S3_)))))) ∧ ((x2 = (2 : Int32)) → (q_K S3_ a0 = 13 ∧ (∃ a17_ : Nat, (q_P S3_ 2435 a0) = some a17_ ∧ (q_K S3_ a17_ = 21 ∧ (vp_in (((6 : Int32) * x1) + (5 : Int32)) (q_N S3_ a17_) ∧ (Q (some (.int (q_A S3_ a17_ (((6 : Int32) * x1) + (5 : Int32)).toNatClampNeg))) S3_)))))) ∧ ((x2 = (3 : Int32) ∨ x2 = (4 : Int32) ∨ x2 = (5 : Int32) ∨ x2 = (6 : Int32) ∨ x2 = (7 : Int32)) → (q_K S3_ a0 = 13 ∧ (∃ a22_ : Nat, (q_P S3_ 2435 a0) = some a22_ ∧ (q_K S3_ a22_ = 21 ∧ (vp_in ((((6 : Int32) * x1) + x2) - (3 : Int32)) (q_N S3_ a22_) ∧ (Q (some (.int (q_A S3_ a22_ ((((6 : Int32) * x1) + x2) - (3 : Int32)).toNatClampNeg))) S3_)))))) ∧ ((x2 = (8 : Int32)) → (q_K S3_ a0 = 13 ∧ (∃ a27_ : Nat, (q_P S3_ 2485 a0) = some a27_ ∧ (q_K S3_ a27_ = 21 ∧ (vp_in x1 (q_N S3_ a27_) ∧ (Q (some (.int (q_A S3_ a27_ x1.toNatClampNeg))) S3_)))))) ∧ ((x2 = (9 : Int32)) → (q_K S3_ a0 = 13 ∧ (∃ a32_ : Nat, (q_P S3_ 2486 a0) = some a32_ ∧ (q_K S3_ a32_ = 21 ∧ (vp_in x1 (q_N S3_ a32_) ∧ (Q (some (.int (q_A S3_ a32_ x1.toNatClampNeg))) S3_)))))) ∧ ((x2 = (10 : Int32)) → (q_K S3_ a0 = 13 ∧ (wm_X12_nextOf S3_ a0 x1 (fun r37_ S38_ => ∃ x39_ : Int32, r37_ = some (.int x39_) ∧ (((¬ x39_ = (-1 : Int32) → (wb_X12_partition_161 S38_ (x39_ - x39_ / (16 : Int32) * (16 : Int32)) Q)) ∧ (x39_ = (-1 : Int32) → (wb_X12_partition_161 S38_ (-1 : Int32) Q)))))))) ∧ ((x2 = (11 : Int32)) → (q_K S3_ a0 = 13 ∧ (∃ a42_ : Nat, (q_P S3_ 2484 a0) = some a42_ ∧ (q_K S3_ a42_ = 21 ∧ (vp_in x1 (q_N S3_ a42_) ∧ (Q (some (.int (q_A S3_ a42_ x1.toNatClampNeg))) S3_)))))) ∧ ((x2 = (12 : Int32)) → (q_K S3_ a0 = 13 ∧ (∃ a47_ : Nat, (q_P S3_ 2426 a0) = some a47_ ∧ (q_K S3_ a47_ = 21 ∧ (vp_in x1 (q_N S3_ a47_) ∧ (Q (some (.int (q_A S3_ a47_ x1.toNatClampNeg))) S3_)))))) ∧ ((x2 = (13 : Int32)) → (q_K S3_ a0 = 13 ∧ (∃ a52_ : Nat, (q_P S3_ 2491 a0) = some a52_ ∧ (q_K S3_ a52_ = 21 ∧ (vp_in x1 (q_N S3_ a52_) ∧ (Q (some (.int (q_A S3_ a52_ x1.toNatClampNeg))) S3_))))))))) ∧ (x4_ = 0 → (Q (some (.int (-1 : Int32))) S3_))))))
set_option maxHeartbeats 4000000 in
set_option maxRecDepth 100000 in
theorem cm_X12_partition {l : Launch} {D : va_G} {cy : Nat → ClassId} {lo : Nat} {S : q_S} {a0 : Nat} {x1 : Int32} {x2 : Int32} {Q : Option Value → q_S → Prop} (h : wm_X12_partition S a0 x1 x2 Q) : q_Met l D cy lo yX12_partition cX12_partition 4 (some .int) 2 44 0 0 [.ref a0, .int x1, .int x2] S Q := by
  refine q_body (by decide) (by first | exact Nat.le_of_ble_eq_true rfl | simp [lg_sl, q_cat, q_catI, q_catJ, q_catR]) ?_
  intro p e s m below meth c ls X hnm Y hl
  have hx := X.1
  have hb := X.2.1
  have hl : lv_has ls 4 [(0, .ref a0), (1, .int x1), (2, .int x2)] := by first | exact hl | simpa [lv_args, q_cat, q_catI, q_catJ, q_catR] using hl
  generalize hargs : ([.ref a0, .int x1, .int x2] : List Value).toArray = args at X ⊢
  unfold wm_X12_partition at h
  refine lv_aload_n hx hb dX12_partition_0 rfl (lv_at hl 0 rfl) ?_
  refine lv_iconst (v := 0) hx hb dX12_partition_1 (by decide) ?_
  obtain ⟨k1_, h⟩ := h
  refine q_putI X Y kX12 0 rfl fl_X12_278 k1_ .int rfl ⟨rfl, rfl⟩ rfl dX12_partition_2 (fun H locs Y => ?_)
  refine lv_aload_n hx hb dX12_partition_5 rfl (lv_at hl 0 rfl) ?_
  refine lv_iload_n hx hb dX12_partition_6 rfl (lv_at hl 1 rfl) ?_
  refine q_callV X Y hl (cm_X12_isPartition h) mt_X12_isPartition mi_X12_isPartition ml_X12_468 (ci := 12) rfl k1_ (by decide) rfl rfl (by first | exact Nat.le_of_ble_eq_true rfl | simp [q_cat, q_catI, q_catJ, q_catR]) ⟨Nat.le_of_ble_eq_true rfl, Nat.le_of_ble_eq_true rfl⟩ ⟨Nat.le_of_ble_eq_true rfl, Nat.le_of_ble_eq_true rfl⟩ dX12_partition_7 (fun r2_ S3_ H locs hp Y => ?_)
  obtain ⟨x4_, rfl, h⟩ := hp
  refine W.eq (g2 := F0 m 10 ls [.int x4_]) rfl ?_
  refine lv_if_ne (tgt := 15) hx hb dX12_partition_10 (by decide) (fun c5_ => ?_) (fun c5_ => ?_)
  · replace h := h.1 c5_
    refine lv_iload_n hx hb dX12_partition_15 rfl (lv_at hl 2 rfl) ?_
    refine q_tsw (tgt := 183) hx hb dX12_partition_16 (by decide) (by decide) (fun c56_ => ?_) (fun j57_ hj_ c56_ => ?_)
    · replace h := h.1 c56_
      refine lv_iconst (v := (-1)) hx hb dX12_partition_183 (by decide) ?_
      exact q_iret X Y rfl (Nat.le_refl _) (Nat.le_refl _) h dX12_partition_184
    · match j57_, hj_, c56_ with
      | 0, _, c56_ =>
        refine ⟨72, 88, rfl, by decide, ?_⟩
        replace h := h.2.1 (q_eqI c56_ (by decide))
        refine lv_aload_n hx hb dX12_partition_88 rfl (lv_at hl 0 rfl) ?_
        obtain ⟨k6_, h⟩ := h
        refine q_getP X Y kX12 83 rfl fl_X12_197 k6_ rfl dX12_partition_89 ?_
        refine lv_iload_n hx hb dX12_partition_92 rfl (lv_at hl 1 rfl) ?_
        obtain ⟨a7_, e8_, h⟩ := h
        refine q_nn [.int x1] e8_ ?_
        obtain ⟨k9_, h⟩ := h
        obtain ⟨i10_, h⟩ := h
        refine q_ild X Y k9_ i10_ dX12_partition_93 ?_
        exact q_iret X Y rfl (Nat.le_refl _) (Nat.le_refl _) h dX12_partition_94
      | 1, _, c56_ =>
        refine ⟨79, 95, rfl, by decide, ?_⟩
        replace h := h.2.2.1 (q_eqI c56_ (by decide))
        refine lv_aload_n hx hb dX12_partition_95 rfl (lv_at hl 0 rfl) ?_
        obtain ⟨k11_, h⟩ := h
        refine q_getP X Y kX12 25 rfl fl_X12_30 k11_ rfl dX12_partition_96 ?_
        refine lv_iload_n hx hb dX12_partition_99 rfl (lv_at hl 1 rfl) ?_
        obtain ⟨a12_, e13_, h⟩ := h
        refine q_nn [.int x1] e13_ ?_
        obtain ⟨k14_, h⟩ := h
        obtain ⟨i15_, h⟩ := h
        refine q_ild X Y k14_ i15_ dX12_partition_100 ?_
        exact q_iret X Y rfl (Nat.le_refl _) (Nat.le_refl _) h dX12_partition_101
      | 2, _, c56_ =>
        refine ⟨86, 102, rfl, by decide, ?_⟩
        replace h := h.2.2.2.1 (q_eqI c56_ (by decide))
        refine lv_aload_n hx hb dX12_partition_102 rfl (lv_at hl 0 rfl) ?_
        obtain ⟨k16_, h⟩ := h
        refine q_getP X Y kX12 35 rfl fl_X12_60 k16_ rfl dX12_partition_103 ?_
        refine lv_bipush (v := 6) hx hb dX12_partition_106 (by decide) ?_
        refine lv_iload_n hx hb dX12_partition_108 rfl (lv_at hl 1 rfl) ?_
        refine lv_imul hx hb dX12_partition_109 ?_
        refine lv_iconst (v := 5) hx hb dX12_partition_110 (by decide) ?_
        refine lv_iadd hx hb dX12_partition_111 ?_
        obtain ⟨a17_, e18_, h⟩ := h
        refine q_nn [.int (((6 : Int32) * x1) + (5 : Int32))] e18_ ?_
        obtain ⟨k19_, h⟩ := h
        obtain ⟨i20_, h⟩ := h
        refine q_ild X Y k19_ i20_ dX12_partition_112 ?_
        exact q_iret X Y rfl (Nat.le_refl _) (Nat.le_refl _) h dX12_partition_113
      | 3, _, c56_ =>
        refine ⟨98, 114, rfl, by decide, ?_⟩
        replace h := h.2.2.2.2.1 (Or.inl (q_eqI c56_ (by decide)))
        refine lv_aload_n hx hb dX12_partition_114 rfl (lv_at hl 0 rfl) ?_
        obtain ⟨k21_, h⟩ := h
        refine q_getP X Y kX12 35 rfl fl_X12_60 k21_ rfl dX12_partition_115 ?_
        refine lv_bipush (v := 6) hx hb dX12_partition_118 (by decide) ?_
        refine lv_iload_n hx hb dX12_partition_120 rfl (lv_at hl 1 rfl) ?_
        refine lv_imul hx hb dX12_partition_121 ?_
        refine lv_iload_n hx hb dX12_partition_122 rfl (lv_at hl 2 rfl) ?_
        refine lv_iadd hx hb dX12_partition_123 ?_
        refine lv_iconst (v := 3) hx hb dX12_partition_124 (by decide) ?_
        refine lv_isub hx hb dX12_partition_125 ?_
        obtain ⟨a22_, e23_, h⟩ := h
        refine q_nn [.int ((((6 : Int32) * x1) + x2) - (3 : Int32))] e23_ ?_
        obtain ⟨k24_, h⟩ := h
        obtain ⟨i25_, h⟩ := h
        refine q_ild X Y k24_ i25_ dX12_partition_126 ?_
        exact q_iret X Y rfl (Nat.le_refl _) (Nat.le_refl _) h dX12_partition_127
      | 4, _, c56_ =>
        refine ⟨98, 114, rfl, by decide, ?_⟩
        replace h := h.2.2.2.2.1 (Or.inr (Or.inl (q_eqI c56_ (by decide))))
        refine lv_aload_n hx hb dX12_partition_114 rfl (lv_at hl 0 rfl) ?_
        obtain ⟨k21_, h⟩ := h
        refine q_getP X Y kX12 35 rfl fl_X12_60 k21_ rfl dX12_partition_115 ?_
        refine lv_bipush (v := 6) hx hb dX12_partition_118 (by decide) ?_
        refine lv_iload_n hx hb dX12_partition_120 rfl (lv_at hl 1 rfl) ?_
        refine lv_imul hx hb dX12_partition_121 ?_
        refine lv_iload_n hx hb dX12_partition_122 rfl (lv_at hl 2 rfl) ?_
        refine lv_iadd hx hb dX12_partition_123 ?_
        refine lv_iconst (v := 3) hx hb dX12_partition_124 (by decide) ?_
        refine lv_isub hx hb dX12_partition_125 ?_
        obtain ⟨a22_, e23_, h⟩ := h
        refine q_nn [.int ((((6 : Int32) * x1) + x2) - (3 : Int32))] e23_ ?_
        obtain ⟨k24_, h⟩ := h
        obtain ⟨i25_, h⟩ := h
        refine q_ild X Y k24_ i25_ dX12_partition_126 ?_
        exact q_iret X Y rfl (Nat.le_refl _) (Nat.le_refl _) h dX12_partition_127
      | 5, _, c56_ =>
        refine ⟨98, 114, rfl, by decide, ?_⟩
        replace h := h.2.2.2.2.1 (Or.inr (Or.inr (Or.inl (q_eqI c56_ (by decide)))))
        refine lv_aload_n hx hb dX12_partition_114 rfl (lv_at hl 0 rfl) ?_
        obtain ⟨k21_, h⟩ := h
        refine q_getP X Y kX12 35 rfl fl_X12_60 k21_ rfl dX12_partition_115 ?_
        refine lv_bipush (v := 6) hx hb dX12_partition_118 (by decide) ?_
        refine lv_iload_n hx hb dX12_partition_120 rfl (lv_at hl 1 rfl) ?_
        refine lv_imul hx hb dX12_partition_121 ?_
        refine lv_iload_n hx hb dX12_partition_122 rfl (lv_at hl 2 rfl) ?_
        refine lv_iadd hx hb dX12_partition_123 ?_
        refine lv_iconst (v := 3) hx hb dX12_partition_124 (by decide) ?_
        refine lv_isub hx hb dX12_partition_125 ?_
        obtain ⟨a22_, e23_, h⟩ := h
        refine q_nn [.int ((((6 : Int32) * x1) + x2) - (3 : Int32))] e23_ ?_
        obtain ⟨k24_, h⟩ := h
        obtain ⟨i25_, h⟩ := h
        refine q_ild X Y k24_ i25_ dX12_partition_126 ?_
        exact q_iret X Y rfl (Nat.le_refl _) (Nat.le_refl _) h dX12_partition_127
      | 6, _, c56_ =>
        refine ⟨98, 114, rfl, by decide, ?_⟩
        replace h := h.2.2.2.2.1 (Or.inr (Or.inr (Or.inr (Or.inl (q_eqI c56_ (by decide))))))
        refine lv_aload_n hx hb dX12_partition_114 rfl (lv_at hl 0 rfl) ?_
        obtain ⟨k21_, h⟩ := h
        refine q_getP X Y kX12 35 rfl fl_X12_60 k21_ rfl dX12_partition_115 ?_
        refine lv_bipush (v := 6) hx hb dX12_partition_118 (by decide) ?_
        refine lv_iload_n hx hb dX12_partition_120 rfl (lv_at hl 1 rfl) ?_
        refine lv_imul hx hb dX12_partition_121 ?_
        refine lv_iload_n hx hb dX12_partition_122 rfl (lv_at hl 2 rfl) ?_
        refine lv_iadd hx hb dX12_partition_123 ?_
        refine lv_iconst (v := 3) hx hb dX12_partition_124 (by decide) ?_
        refine lv_isub hx hb dX12_partition_125 ?_
        obtain ⟨a22_, e23_, h⟩ := h
        refine q_nn [.int ((((6 : Int32) * x1) + x2) - (3 : Int32))] e23_ ?_
        obtain ⟨k24_, h⟩ := h
        obtain ⟨i25_, h⟩ := h
        refine q_ild X Y k24_ i25_ dX12_partition_126 ?_
        exact q_iret X Y rfl (Nat.le_refl _) (Nat.le_refl _) h dX12_partition_127
      | 7, _, c56_ =>
        refine ⟨98, 114, rfl, by decide, ?_⟩
        replace h := h.2.2.2.2.1 (Or.inr (Or.inr (Or.inr (Or.inr (q_eqI c56_ (by decide))))))
        refine lv_aload_n hx hb dX12_partition_114 rfl (lv_at hl 0 rfl) ?_
        obtain ⟨k21_, h⟩ := h
        refine q_getP X Y kX12 35 rfl fl_X12_60 k21_ rfl dX12_partition_115 ?_
        refine lv_bipush (v := 6) hx hb dX12_partition_118 (by decide) ?_
        refine lv_iload_n hx hb dX12_partition_120 rfl (lv_at hl 1 rfl) ?_
        refine lv_imul hx hb dX12_partition_121 ?_
        refine lv_iload_n hx hb dX12_partition_122 rfl (lv_at hl 2 rfl) ?_
        refine lv_iadd hx hb dX12_partition_123 ?_
        refine lv_iconst (v := 3) hx hb dX12_partition_124 (by decide) ?_
        refine lv_isub hx hb dX12_partition_125 ?_
        obtain ⟨a22_, e23_, h⟩ := h
        refine q_nn [.int ((((6 : Int32) * x1) + x2) - (3 : Int32))] e23_ ?_
        obtain ⟨k24_, h⟩ := h
        obtain ⟨i25_, h⟩ := h
        refine q_ild X Y k24_ i25_ dX12_partition_126 ?_
        exact q_iret X Y rfl (Nat.le_refl _) (Nat.le_refl _) h dX12_partition_127
      | 8, _, c56_ =>
        refine ⟨112, 128, rfl, by decide, ?_⟩
        replace h := h.2.2.2.2.2.1 (q_eqI c56_ (by decide))
        refine lv_aload_n hx hb dX12_partition_128 rfl (lv_at hl 0 rfl) ?_
        obtain ⟨k26_, h⟩ := h
        refine q_getP X Y kX12 85 rfl fl_X12_203 k26_ rfl dX12_partition_129 ?_
        refine lv_iload_n hx hb dX12_partition_132 rfl (lv_at hl 1 rfl) ?_
        obtain ⟨a27_, e28_, h⟩ := h
        refine q_nn [.int x1] e28_ ?_
        obtain ⟨k29_, h⟩ := h
        obtain ⟨i30_, h⟩ := h
        refine q_ild X Y k29_ i30_ dX12_partition_133 ?_
        exact q_iret X Y rfl (Nat.le_refl _) (Nat.le_refl _) h dX12_partition_134
      | 9, _, c56_ =>
        refine ⟨119, 135, rfl, by decide, ?_⟩
        replace h := h.2.2.2.2.2.2.1 (q_eqI c56_ (by decide))
        refine lv_aload_n hx hb dX12_partition_135 rfl (lv_at hl 0 rfl) ?_
        obtain ⟨k31_, h⟩ := h
        refine q_getP X Y kX12 86 rfl fl_X12_206 k31_ rfl dX12_partition_136 ?_
        refine lv_iload_n hx hb dX12_partition_139 rfl (lv_at hl 1 rfl) ?_
        obtain ⟨a32_, e33_, h⟩ := h
        refine q_nn [.int x1] e33_ ?_
        obtain ⟨k34_, h⟩ := h
        obtain ⟨i35_, h⟩ := h
        refine q_ild X Y k34_ i35_ dX12_partition_140 ?_
        exact q_iret X Y rfl (Nat.le_refl _) (Nat.le_refl _) h dX12_partition_141
      | 10, _, c56_ =>
        refine ⟨126, 142, rfl, by decide, ?_⟩
        replace h := h.2.2.2.2.2.2.2.1 (q_eqI c56_ (by decide))
        refine lv_aload_n hx hb dX12_partition_142 rfl (lv_at hl 0 rfl) ?_
        refine lv_iload_n hx hb dX12_partition_143 rfl (lv_at hl 1 rfl) ?_
        obtain ⟨k36_, h⟩ := h
        refine q_callV X Y hl (cm_X12_nextOf h) mt_X12_nextOf mi_X12_nextOf ml_X12_525 (ci := 12) rfl k36_ (by decide) rfl rfl (by first | exact Nat.le_of_ble_eq_true rfl | simp [q_cat, q_catI, q_catJ, q_catR]) ⟨Nat.le_of_ble_eq_true rfl, Nat.le_of_ble_eq_true rfl⟩ ⟨Nat.le_of_ble_eq_true rfl, Nat.le_of_ble_eq_true rfl⟩ dX12_partition_144 (fun r37_ S38_ H locs hp Y => ?_)
        obtain ⟨x39_, rfl, h⟩ := hp
        refine W.eq (g2 := F0 m 147 ls [.int x39_]) rfl ?_
        refine lv_istore_n (i := 3) (lv' := [(3, .int x39_), (0, .ref a0), (1, .int x1), (2, .int x2)]) hx hb dX12_partition_147 rfl hl (by decide) (by first | rfl | simp [q_cat, q_catI, q_catJ, q_catR]) (fun ls hl => ?_)
        refine lv_iload_n hx hb dX12_partition_148 rfl (lv_at hl 0 rfl) ?_
        refine lv_iconst (v := (-1)) hx hb dX12_partition_149 (by decide) ?_
        refine lv_icmp_ne (tgt := 157) hx hb dX12_partition_150 (by decide) (fun c40_ => ?_) (fun c40_ => ?_)
        · replace h := h.1 c40_
          refine lv_iload_n hx hb dX12_partition_157 rfl (lv_at hl 0 rfl) ?_
          refine lv_bipush (v := 16) hx hb dX12_partition_158 (by decide) ?_
          refine lv_irem hx hb dX12_partition_160 (by decide) ?_
          exact cb_X12_partition_161 X Y (lv_sub hl [] rfl) h
        · replace h := h.2 c40_
          refine lv_iconst (v := (-1)) hx hb dX12_partition_153 (by decide) ?_
          refine lv_goto (tgt := 161) hx hb dX12_partition_154 (by decide) ?_
          exact cb_X12_partition_161 X Y (lv_sub hl [] rfl) h
      | 11, _, c56_ =>
        refine ⟨146, 162, rfl, by decide, ?_⟩
        replace h := h.2.2.2.2.2.2.2.2.1 (q_eqI c56_ (by decide))
        refine lv_aload_n hx hb dX12_partition_162 rfl (lv_at hl 0 rfl) ?_
        obtain ⟨k41_, h⟩ := h
        refine q_getP X Y kX12 84 rfl fl_X12_200 k41_ rfl dX12_partition_163 ?_
        refine lv_iload_n hx hb dX12_partition_166 rfl (lv_at hl 1 rfl) ?_
        obtain ⟨a42_, e43_, h⟩ := h
        refine q_nn [.int x1] e43_ ?_
        obtain ⟨k44_, h⟩ := h
        obtain ⟨i45_, h⟩ := h
        refine q_ild X Y k44_ i45_ dX12_partition_167 ?_
        exact q_iret X Y rfl (Nat.le_refl _) (Nat.le_refl _) h dX12_partition_168
      | 12, _, c56_ =>
        refine ⟨153, 169, rfl, by decide, ?_⟩
        replace h := h.2.2.2.2.2.2.2.2.2.1 (q_eqI c56_ (by decide))
        refine lv_aload_n hx hb dX12_partition_169 rfl (lv_at hl 0 rfl) ?_
        obtain ⟨k46_, h⟩ := h
        refine q_getP X Y kX12 26 rfl fl_X12_33 k46_ rfl dX12_partition_170 ?_
        refine lv_iload_n hx hb dX12_partition_173 rfl (lv_at hl 1 rfl) ?_
        obtain ⟨a47_, e48_, h⟩ := h
        refine q_nn [.int x1] e48_ ?_
        obtain ⟨k49_, h⟩ := h
        obtain ⟨i50_, h⟩ := h
        refine q_ild X Y k49_ i50_ dX12_partition_174 ?_
        exact q_iret X Y rfl (Nat.le_refl _) (Nat.le_refl _) h dX12_partition_175
      | 13, _, c56_ =>
        refine ⟨160, 176, rfl, by decide, ?_⟩
        replace h := h.2.2.2.2.2.2.2.2.2.2 (q_eqI c56_ (by decide))
        refine lv_aload_n hx hb dX12_partition_176 rfl (lv_at hl 0 rfl) ?_
        obtain ⟨k51_, h⟩ := h
        refine q_getP X Y kX12 91 rfl fl_X12_221 k51_ rfl dX12_partition_177 ?_
        refine lv_iload_n hx hb dX12_partition_180 rfl (lv_at hl 1 rfl) ?_
        obtain ⟨a52_, e53_, h⟩ := h
        refine q_nn [.int x1] e53_ ?_
        obtain ⟨k54_, h⟩ := h
        obtain ⟨i55_, h⟩ := h
        refine q_ild X Y k54_ i55_ dX12_partition_181 ?_
        exact q_iret X Y rfl (Nat.le_refl _) (Nat.le_refl _) h dX12_partition_182
      | z_ + 14, hj_, _ => exact absurd hj_ (by simp)
  · replace h := h.2 c5_
    refine lv_iconst (v := (-1)) hx hb dX12_partition_13 (by decide) ?_
    exact q_iret X Y rfl (Nat.le_refl _) (Nat.le_refl _) h dX12_partition_14
-- X12_thing
theorem dX12_thing_0 : decode cX12_thing 0 = .ok (.aload_n 0, 1) := by decide +kernel
theorem dX12_thing_1 : decode cX12_thing 1 = .ok (.iconst 0, 1) := by decide +kernel
theorem dX12_thing_2 : decode cX12_thing 2 = .ok (.putfield 278, 3) := by decide +kernel
theorem dX12_thing_5 : decode cX12_thing 5 = .ok (.aload_n 0, 1) := by decide +kernel
theorem dX12_thing_6 : decode cX12_thing 6 = .ok (.iload_n 1, 1) := by decide +kernel
theorem dX12_thing_7 : decode cX12_thing 7 = .ok (.invokevirtual 468, 3) := by decide +kernel
theorem dX12_thing_10 : decode cX12_thing 10 = .ok (.ifCond .eq 32, 3) := by decide +kernel
theorem dX12_thing_13 : decode cX12_thing 13 = .ok (.iload_n 2, 1) := by decide +kernel
theorem dX12_thing_14 : decode cX12_thing 14 = .ok (.ifCond .lt 28, 3) := by decide +kernel
theorem dX12_thing_17 : decode cX12_thing 17 = .ok (.iload_n 2, 1) := by decide +kernel
theorem dX12_thing_18 : decode cX12_thing 18 = .ok (.iconst 5, 1) := by decide +kernel
theorem dX12_thing_19 : decode cX12_thing 19 = .ok (.if_icmp .ge 23, 3) := by decide +kernel
theorem dX12_thing_22 : decode cX12_thing 22 = .ok (.aload_n 0, 1) := by decide +kernel
theorem dX12_thing_23 : decode cX12_thing 23 = .ok (.iload_n 1, 1) := by decide +kernel
theorem dX12_thing_24 : decode cX12_thing 24 = .ok (.iload_n 2, 1) := by decide +kernel
theorem dX12_thing_25 : decode cX12_thing 25 = .ok (.iload_n 3, 1) := by decide +kernel
theorem dX12_thing_26 : decode cX12_thing 26 = .ok (.invokevirtual 616, 3) := by decide +kernel
theorem dX12_thing_29 : decode cX12_thing 29 = .ok (.ifCond .eq 13, 3) := by decide +kernel
theorem dX12_thing_32 : decode cX12_thing 32 = .ok (.aload_n 0, 1) := by decide +kernel
theorem dX12_thing_33 : decode cX12_thing 33 = .ok (.iload_n 1, 1) := by decide +kernel
theorem dX12_thing_34 : decode cX12_thing 34 = .ok (.iload_n 2, 1) := by decide +kernel
theorem dX12_thing_35 : decode cX12_thing 35 = .ok (.iload_n 3, 1) := by decide +kernel
theorem dX12_thing_36 : decode cX12_thing 36 = .ok (.invokevirtual 654, 3) := by decide +kernel
theorem dX12_thing_39 : decode cX12_thing 39 = .ok (.goto 4, 3) := by decide +kernel
theorem dX12_thing_42 : decode cX12_thing 42 = .ok (.iconst (-1), 1) := by decide +kernel
theorem dX12_thing_43 : decode cX12_thing 43 = .ok (.ireturn, 1) := by decide +kernel
def wb_X12_thing_43  (S : q_S) (xs0 : Int32) (Q : Option Value → q_S → Prop) : Prop := Q (some (.int xs0)) S
set_option maxHeartbeats 4000000 in
set_option maxRecDepth 100000 in
theorem cb_X12_thing_43 {p : Program} {l : Launch} {e : Env} {s : State} {m : MethodId} {args : Array Value} {below : List Frame} {meth : Method} {c : Code} {D : va_G} {cy : Nat → ClassId} {lo : Nat}  {S : q_S} {xs0 : Int32} {Q : Option Value → q_S → Prop} {H : Heap} {locs : List Loc} {ls : Array Slot} (X : q_X p s m args meth c RX12 cX12_thing 4 (some .int) D cy lo)  (Y : q_Y D cy lo s S H locs) (hl : lv_has ls 4 []) (h : wb_X12_thing_43 S xs0 Q) : W p l e ({ frames := 1, cells := 0, slots := 0, locals := 24 } : Room) s m args below meth c H locs 0 0 (MQ below (q_Q D cy lo Q) args s 0 0 (fun q => lo ≤ q)) (F0 m 43 ls [.int xs0]) := by
  have hx := X.1
  have hb := X.2.1
  unfold wb_X12_thing_43 at h
  exact q_iret X Y rfl (Nat.le_refl _) (Nat.le_refl _) h dX12_thing_43
def wb_X12_thing_42  (S : q_S) (Q : Option Value → q_S → Prop) : Prop := wb_X12_thing_43 S (-1 : Int32) Q
set_option maxHeartbeats 4000000 in
set_option maxRecDepth 100000 in
theorem cb_X12_thing_42 {p : Program} {l : Launch} {e : Env} {s : State} {m : MethodId} {args : Array Value} {below : List Frame} {meth : Method} {c : Code} {D : va_G} {cy : Nat → ClassId} {lo : Nat}  {S : q_S} {Q : Option Value → q_S → Prop} {H : Heap} {locs : List Loc} {ls : Array Slot} (X : q_X p s m args meth c RX12 cX12_thing 4 (some .int) D cy lo)  (Y : q_Y D cy lo s S H locs) (hl : lv_has ls 4 []) (h : wb_X12_thing_42 S Q) : W p l e ({ frames := 1, cells := 0, slots := 0, locals := 24 } : Room) s m args below meth c H locs 0 0 (MQ below (q_Q D cy lo Q) args s 0 0 (fun q => lo ≤ q)) (F0 m 42 ls []) := by
  have hx := X.1
  have hb := X.2.1
  unfold wb_X12_thing_42 at h
  refine lv_iconst (v := (-1)) hx hb dX12_thing_42 (by decide) ?_
  exact cb_X12_thing_43 X Y (lv_sub hl [] rfl) h
def wm_X12_thing (S : q_S) (a0 : Nat) (x1 : Int32) (x2 : Int32) (x3 : Int32) (Q : Option Value → q_S → Prop) : Prop := q_K S a0 = 13 ∧ (wm_X12_isPartition (qs_I S 2400 a0 (0 : Int32)) a0 x1 (fun r2_ S3_ => ∃ x4_ : Int32, r2_ = some (.int x4_) ∧ (((x4_ = 0 → (wb_X12_thing_42 S3_ Q)) ∧ (¬ x4_ = 0 → (((x2 < 0 → (wb_X12_thing_42 S3_ Q)) ∧ (¬ x2 < 0 → ((((5 : Int32) ≤ x2 → (wb_X12_thing_42 S3_ Q)) ∧ (¬ (5 : Int32) ≤ x2 → (q_K S3_ a0 = 13 ∧ (wm_X12_isThing S3_ a0 x1 x2 x3 (fun r9_ S10_ => ∃ x11_ : Int32, r9_ = some (.int x11_) ∧ (((x11_ = 0 → (wb_X12_thing_42 S10_ Q)) ∧ (¬ x11_ = 0 → (q_K S10_ a0 = 13 ∧ (wm_X12_tells S10_ a0 x1 x2 x3 (fun r14_ S15_ => ∃ x16_ : Int32, r14_ = some (.int x16_) ∧ (wb_X12_thing_43 S15_ x16_ Q)))))))))))))))))))))
set_option maxHeartbeats 4000000 in
set_option maxRecDepth 100000 in
theorem cm_X12_thing {l : Launch} {D : va_G} {cy : Nat → ClassId} {lo : Nat} {S : q_S} {a0 : Nat} {x1 : Int32} {x2 : Int32} {x3 : Int32} {Q : Option Value → q_S → Prop} (h : wm_X12_thing S a0 x1 x2 x3 Q) : q_Met l D cy lo yX12_thing cX12_thing 4 (some .int) 1 24 0 0 [.ref a0, .int x1, .int x2, .int x3] S Q := by
  refine q_body (by decide) (by first | exact Nat.le_of_ble_eq_true rfl | simp [lg_sl, q_cat, q_catI, q_catJ, q_catR]) ?_
  intro p e s m below meth c ls X hnm Y hl
  have hx := X.1
  have hb := X.2.1
  have hl : lv_has ls 4 [(0, .ref a0), (1, .int x1), (2, .int x2), (3, .int x3)] := by first | exact hl | simpa [lv_args, q_cat, q_catI, q_catJ, q_catR] using hl
  generalize hargs : ([.ref a0, .int x1, .int x2, .int x3] : List Value).toArray = args at X ⊢
  unfold wm_X12_thing at h
  refine lv_aload_n hx hb dX12_thing_0 rfl (lv_at hl 0 rfl) ?_
  refine lv_iconst (v := 0) hx hb dX12_thing_1 (by decide) ?_
  obtain ⟨k1_, h⟩ := h
  refine q_putI X Y kX12 0 rfl fl_X12_278 k1_ .int rfl ⟨rfl, rfl⟩ rfl dX12_thing_2 (fun H locs Y => ?_)
  refine lv_aload_n hx hb dX12_thing_5 rfl (lv_at hl 0 rfl) ?_
  refine lv_iload_n hx hb dX12_thing_6 rfl (lv_at hl 1 rfl) ?_
  refine q_callV X Y hl (cm_X12_isPartition h) mt_X12_isPartition mi_X12_isPartition ml_X12_468 (ci := 12) rfl k1_ (by decide) rfl rfl (by first | exact Nat.le_of_ble_eq_true rfl | simp [q_cat, q_catI, q_catJ, q_catR]) ⟨Nat.le_of_ble_eq_true rfl, Nat.le_of_ble_eq_true rfl⟩ ⟨Nat.le_of_ble_eq_true rfl, Nat.le_of_ble_eq_true rfl⟩ dX12_thing_7 (fun r2_ S3_ H locs hp Y => ?_)
  obtain ⟨x4_, rfl, h⟩ := hp
  refine W.eq (g2 := F0 m 10 ls [.int x4_]) rfl ?_
  refine lv_if_eq (tgt := 42) hx hb dX12_thing_10 (by decide) (fun c5_ => ?_) (fun c5_ => ?_)
  · replace h := h.1 c5_
    exact cb_X12_thing_42 X Y (lv_sub hl [] rfl) h
  · replace h := h.2 c5_
    refine lv_iload_n hx hb dX12_thing_13 rfl (lv_at hl 2 rfl) ?_
    refine lv_if_lt (tgt := 42) hx hb dX12_thing_14 (by decide) (fun c6_ => ?_) (fun c6_ => ?_)
    · replace h := h.1 c6_
      exact cb_X12_thing_42 X Y (lv_sub hl [] rfl) h
    · replace h := h.2 c6_
      refine lv_iload_n hx hb dX12_thing_17 rfl (lv_at hl 2 rfl) ?_
      refine lv_iconst (v := 5) hx hb dX12_thing_18 (by decide) ?_
      refine lv_icmp_ge (tgt := 42) hx hb dX12_thing_19 (by decide) (fun c7_ => ?_) (fun c7_ => ?_)
      · replace h := h.1 c7_
        exact cb_X12_thing_42 X Y (lv_sub hl [] rfl) h
      · replace h := h.2 c7_
        refine lv_aload_n hx hb dX12_thing_22 rfl (lv_at hl 0 rfl) ?_
        refine lv_iload_n hx hb dX12_thing_23 rfl (lv_at hl 1 rfl) ?_
        refine lv_iload_n hx hb dX12_thing_24 rfl (lv_at hl 2 rfl) ?_
        refine lv_iload_n hx hb dX12_thing_25 rfl (lv_at hl 3 rfl) ?_
        obtain ⟨k8_, h⟩ := h
        refine q_callV X Y hl (cm_X12_isThing h) mt_X12_isThing mi_X12_isThing ml_X12_616 (ci := 12) rfl k8_ (by decide) rfl rfl (by first | exact Nat.le_of_ble_eq_true rfl | simp [q_cat, q_catI, q_catJ, q_catR]) ⟨Nat.le_of_ble_eq_true rfl, Nat.le_of_ble_eq_true rfl⟩ ⟨Nat.le_of_ble_eq_true rfl, Nat.le_of_ble_eq_true rfl⟩ dX12_thing_26 (fun r9_ S10_ H locs hp Y => ?_)
        obtain ⟨x11_, rfl, h⟩ := hp
        refine W.eq (g2 := F0 m 29 ls [.int x11_]) rfl ?_
        refine lv_if_eq (tgt := 42) hx hb dX12_thing_29 (by decide) (fun c12_ => ?_) (fun c12_ => ?_)
        · replace h := h.1 c12_
          exact cb_X12_thing_42 X Y (lv_sub hl [] rfl) h
        · replace h := h.2 c12_
          refine lv_aload_n hx hb dX12_thing_32 rfl (lv_at hl 0 rfl) ?_
          refine lv_iload_n hx hb dX12_thing_33 rfl (lv_at hl 1 rfl) ?_
          refine lv_iload_n hx hb dX12_thing_34 rfl (lv_at hl 2 rfl) ?_
          refine lv_iload_n hx hb dX12_thing_35 rfl (lv_at hl 3 rfl) ?_
          obtain ⟨k13_, h⟩ := h
          refine q_callV X Y hl (cm_X12_tells h) mt_X12_tells mi_X12_tells ml_X12_654 (ci := 12) rfl k13_ (by decide) rfl rfl (by first | exact Nat.le_of_ble_eq_true rfl | simp [q_cat, q_catI, q_catJ, q_catR]) ⟨Nat.le_of_ble_eq_true rfl, Nat.le_of_ble_eq_true rfl⟩ ⟨Nat.le_of_ble_eq_true rfl, Nat.le_of_ble_eq_true rfl⟩ dX12_thing_36 (fun r14_ S15_ H locs hp Y => ?_)
          obtain ⟨x16_, rfl, h⟩ := hp
          refine W.eq (g2 := F0 m 39 ls [.int x16_]) rfl ?_
          refine lv_goto (tgt := 43) hx hb dX12_thing_39 (by decide) ?_
          exact cb_X12_thing_43 X Y (lv_sub hl [] rfl) h
-- X12_waiting
theorem dX12_waiting_0 : decode cX12_waiting 0 = .ok (.aload_n 0, 1) := by decide +kernel
theorem dX12_waiting_1 : decode cX12_waiting 1 = .ok (.iconst 0, 1) := by decide +kernel
theorem dX12_waiting_2 : decode cX12_waiting 2 = .ok (.putfield 278, 3) := by decide +kernel
theorem dX12_waiting_5 : decode cX12_waiting 5 = .ok (.aload_n 0, 1) := by decide +kernel
theorem dX12_waiting_6 : decode cX12_waiting 6 = .ok (.iload_n 1, 1) := by decide +kernel
theorem dX12_waiting_7 : decode cX12_waiting 7 = .ok (.invokevirtual 468, 3) := by decide +kernel
theorem dX12_waiting_10 : decode cX12_waiting 10 = .ok (.ifCond .eq 32, 3) := by decide +kernel
theorem dX12_waiting_13 : decode cX12_waiting 13 = .ok (.iload_n 2, 1) := by decide +kernel
theorem dX12_waiting_14 : decode cX12_waiting 14 = .ok (.ifCond .lt 28, 3) := by decide +kernel
theorem dX12_waiting_17 : decode cX12_waiting 17 = .ok (.iload_n 2, 1) := by decide +kernel
theorem dX12_waiting_18 : decode cX12_waiting 18 = .ok (.iconst 5, 1) := by decide +kernel
theorem dX12_waiting_19 : decode cX12_waiting 19 = .ok (.if_icmp .ge 23, 3) := by decide +kernel
theorem dX12_waiting_22 : decode cX12_waiting 22 = .ok (.aload_n 0, 1) := by decide +kernel
theorem dX12_waiting_23 : decode cX12_waiting 23 = .ok (.iload_n 1, 1) := by decide +kernel
theorem dX12_waiting_24 : decode cX12_waiting 24 = .ok (.iload_n 2, 1) := by decide +kernel
theorem dX12_waiting_25 : decode cX12_waiting 25 = .ok (.iload_n 3, 1) := by decide +kernel
theorem dX12_waiting_26 : decode cX12_waiting 26 = .ok (.invokevirtual 616, 3) := by decide +kernel
theorem dX12_waiting_29 : decode cX12_waiting 29 = .ok (.ifCond .eq 13, 3) := by decide +kernel
theorem dX12_waiting_32 : decode cX12_waiting 32 = .ok (.aload_n 0, 1) := by decide +kernel
theorem dX12_waiting_33 : decode cX12_waiting 33 = .ok (.iload_n 1, 1) := by decide +kernel
theorem dX12_waiting_34 : decode cX12_waiting 34 = .ok (.iload_n 2, 1) := by decide +kernel
theorem dX12_waiting_35 : decode cX12_waiting 35 = .ok (.iload_n 3, 1) := by decide +kernel
theorem dX12_waiting_36 : decode cX12_waiting 36 = .ok (.invokevirtual 657, 3) := by decide +kernel
theorem dX12_waiting_39 : decode cX12_waiting 39 = .ok (.goto 4, 3) := by decide +kernel
theorem dX12_waiting_42 : decode cX12_waiting 42 = .ok (.iconst (-1), 1) := by decide +kernel
theorem dX12_waiting_43 : decode cX12_waiting 43 = .ok (.ireturn, 1) := by decide +kernel
def wb_X12_waiting_43  (S : q_S) (xs0 : Int32) (Q : Option Value → q_S → Prop) : Prop := Q (some (.int xs0)) S
set_option maxHeartbeats 4000000 in
set_option maxRecDepth 100000 in
theorem cb_X12_waiting_43 {p : Program} {l : Launch} {e : Env} {s : State} {m : MethodId} {args : Array Value} {below : List Frame} {meth : Method} {c : Code} {D : va_G} {cy : Nat → ClassId} {lo : Nat}  {S : q_S} {xs0 : Int32} {Q : Option Value → q_S → Prop} {H : Heap} {locs : List Loc} {ls : Array Slot} (X : q_X p s m args meth c RX12 cX12_waiting 4 (some .int) D cy lo)  (Y : q_Y D cy lo s S H locs) (hl : lv_has ls 4 []) (h : wb_X12_waiting_43 S xs0 Q) : W p l e ({ frames := 2, cells := 0, slots := 0, locals := 49 } : Room) s m args below meth c H locs 0 0 (MQ below (q_Q D cy lo Q) args s 0 0 (fun q => lo ≤ q)) (F0 m 43 ls [.int xs0]) := by
  have hx := X.1
  have hb := X.2.1
  unfold wb_X12_waiting_43 at h
  exact q_iret X Y rfl (Nat.le_refl _) (Nat.le_refl _) h dX12_waiting_43
def wb_X12_waiting_42  (S : q_S) (Q : Option Value → q_S → Prop) : Prop := wb_X12_waiting_43 S (-1 : Int32) Q
set_option maxHeartbeats 4000000 in
set_option maxRecDepth 100000 in
theorem cb_X12_waiting_42 {p : Program} {l : Launch} {e : Env} {s : State} {m : MethodId} {args : Array Value} {below : List Frame} {meth : Method} {c : Code} {D : va_G} {cy : Nat → ClassId} {lo : Nat}  {S : q_S} {Q : Option Value → q_S → Prop} {H : Heap} {locs : List Loc} {ls : Array Slot} (X : q_X p s m args meth c RX12 cX12_waiting 4 (some .int) D cy lo)  (Y : q_Y D cy lo s S H locs) (hl : lv_has ls 4 []) (h : wb_X12_waiting_42 S Q) : W p l e ({ frames := 2, cells := 0, slots := 0, locals := 49 } : Room) s m args below meth c H locs 0 0 (MQ below (q_Q D cy lo Q) args s 0 0 (fun q => lo ≤ q)) (F0 m 42 ls []) := by
  have hx := X.1
  have hb := X.2.1
  unfold wb_X12_waiting_42 at h
  refine lv_iconst (v := (-1)) hx hb dX12_waiting_42 (by decide) ?_
  exact cb_X12_waiting_43 X Y (lv_sub hl [] rfl) h
def wm_X12_waiting (S : q_S) (a0 : Nat) (x1 : Int32) (x2 : Int32) (x3 : Int32) (Q : Option Value → q_S → Prop) : Prop := q_K S a0 = 13 ∧ (wm_X12_isPartition (qs_I S 2400 a0 (0 : Int32)) a0 x1 (fun r2_ S3_ => ∃ x4_ : Int32, r2_ = some (.int x4_) ∧ (((x4_ = 0 → (wb_X12_waiting_42 S3_ Q)) ∧ (¬ x4_ = 0 → (((x2 < 0 → (wb_X12_waiting_42 S3_ Q)) ∧ (¬ x2 < 0 → ((((5 : Int32) ≤ x2 → (wb_X12_waiting_42 S3_ Q)) ∧ (¬ (5 : Int32) ≤ x2 → (q_K S3_ a0 = 13 ∧ (wm_X12_isThing S3_ a0 x1 x2 x3 (fun r9_ S10_ => ∃ x11_ : Int32, r9_ = some (.int x11_) ∧ (((x11_ = 0 → (wb_X12_waiting_42 S10_ Q)) ∧ (¬ x11_ = 0 → (q_K S10_ a0 = 13 ∧ (wm_X12_wait S10_ a0 x1 x2 x3 (fun r14_ S15_ => ∃ x16_ : Int32, r14_ = some (.int x16_) ∧ (wb_X12_waiting_43 S15_ x16_ Q)))))))))))))))))))))
set_option maxHeartbeats 4000000 in
set_option maxRecDepth 100000 in
theorem cm_X12_waiting {l : Launch} {D : va_G} {cy : Nat → ClassId} {lo : Nat} {S : q_S} {a0 : Nat} {x1 : Int32} {x2 : Int32} {x3 : Int32} {Q : Option Value → q_S → Prop} (h : wm_X12_waiting S a0 x1 x2 x3 Q) : q_Met l D cy lo yX12_waiting cX12_waiting 4 (some .int) 2 49 0 0 [.ref a0, .int x1, .int x2, .int x3] S Q := by
  refine q_body (by decide) (by first | exact Nat.le_of_ble_eq_true rfl | simp [lg_sl, q_cat, q_catI, q_catJ, q_catR]) ?_
  intro p e s m below meth c ls X hnm Y hl
  have hx := X.1
  have hb := X.2.1
  have hl : lv_has ls 4 [(0, .ref a0), (1, .int x1), (2, .int x2), (3, .int x3)] := by first | exact hl | simpa [lv_args, q_cat, q_catI, q_catJ, q_catR] using hl
  generalize hargs : ([.ref a0, .int x1, .int x2, .int x3] : List Value).toArray = args at X ⊢
  unfold wm_X12_waiting at h
  refine lv_aload_n hx hb dX12_waiting_0 rfl (lv_at hl 0 rfl) ?_
  refine lv_iconst (v := 0) hx hb dX12_waiting_1 (by decide) ?_
  obtain ⟨k1_, h⟩ := h
  refine q_putI X Y kX12 0 rfl fl_X12_278 k1_ .int rfl ⟨rfl, rfl⟩ rfl dX12_waiting_2 (fun H locs Y => ?_)
  refine lv_aload_n hx hb dX12_waiting_5 rfl (lv_at hl 0 rfl) ?_
  refine lv_iload_n hx hb dX12_waiting_6 rfl (lv_at hl 1 rfl) ?_
  refine q_callV X Y hl (cm_X12_isPartition h) mt_X12_isPartition mi_X12_isPartition ml_X12_468 (ci := 12) rfl k1_ (by decide) rfl rfl (by first | exact Nat.le_of_ble_eq_true rfl | simp [q_cat, q_catI, q_catJ, q_catR]) ⟨Nat.le_of_ble_eq_true rfl, Nat.le_of_ble_eq_true rfl⟩ ⟨Nat.le_of_ble_eq_true rfl, Nat.le_of_ble_eq_true rfl⟩ dX12_waiting_7 (fun r2_ S3_ H locs hp Y => ?_)
  obtain ⟨x4_, rfl, h⟩ := hp
  refine W.eq (g2 := F0 m 10 ls [.int x4_]) rfl ?_
  refine lv_if_eq (tgt := 42) hx hb dX12_waiting_10 (by decide) (fun c5_ => ?_) (fun c5_ => ?_)
  · replace h := h.1 c5_
    exact cb_X12_waiting_42 X Y (lv_sub hl [] rfl) h
  · replace h := h.2 c5_
    refine lv_iload_n hx hb dX12_waiting_13 rfl (lv_at hl 2 rfl) ?_
    refine lv_if_lt (tgt := 42) hx hb dX12_waiting_14 (by decide) (fun c6_ => ?_) (fun c6_ => ?_)
    · replace h := h.1 c6_
      exact cb_X12_waiting_42 X Y (lv_sub hl [] rfl) h
    · replace h := h.2 c6_
      refine lv_iload_n hx hb dX12_waiting_17 rfl (lv_at hl 2 rfl) ?_
      refine lv_iconst (v := 5) hx hb dX12_waiting_18 (by decide) ?_
      refine lv_icmp_ge (tgt := 42) hx hb dX12_waiting_19 (by decide) (fun c7_ => ?_) (fun c7_ => ?_)
      · replace h := h.1 c7_
        exact cb_X12_waiting_42 X Y (lv_sub hl [] rfl) h
      · replace h := h.2 c7_
        refine lv_aload_n hx hb dX12_waiting_22 rfl (lv_at hl 0 rfl) ?_
        refine lv_iload_n hx hb dX12_waiting_23 rfl (lv_at hl 1 rfl) ?_
        refine lv_iload_n hx hb dX12_waiting_24 rfl (lv_at hl 2 rfl) ?_
        refine lv_iload_n hx hb dX12_waiting_25 rfl (lv_at hl 3 rfl) ?_
        obtain ⟨k8_, h⟩ := h
        refine q_callV X Y hl (cm_X12_isThing h) mt_X12_isThing mi_X12_isThing ml_X12_616 (ci := 12) rfl k8_ (by decide) rfl rfl (by first | exact Nat.le_of_ble_eq_true rfl | simp [q_cat, q_catI, q_catJ, q_catR]) ⟨Nat.le_of_ble_eq_true rfl, Nat.le_of_ble_eq_true rfl⟩ ⟨Nat.le_of_ble_eq_true rfl, Nat.le_of_ble_eq_true rfl⟩ dX12_waiting_26 (fun r9_ S10_ H locs hp Y => ?_)
        obtain ⟨x11_, rfl, h⟩ := hp
        refine W.eq (g2 := F0 m 29 ls [.int x11_]) rfl ?_
        refine lv_if_eq (tgt := 42) hx hb dX12_waiting_29 (by decide) (fun c12_ => ?_) (fun c12_ => ?_)
        · replace h := h.1 c12_
          exact cb_X12_waiting_42 X Y (lv_sub hl [] rfl) h
        · replace h := h.2 c12_
          refine lv_aload_n hx hb dX12_waiting_32 rfl (lv_at hl 0 rfl) ?_
          refine lv_iload_n hx hb dX12_waiting_33 rfl (lv_at hl 1 rfl) ?_
          refine lv_iload_n hx hb dX12_waiting_34 rfl (lv_at hl 2 rfl) ?_
          refine lv_iload_n hx hb dX12_waiting_35 rfl (lv_at hl 3 rfl) ?_
          obtain ⟨k13_, h⟩ := h
          refine q_callV X Y hl (cm_X12_wait h) mt_X12_wait mi_X12_wait ml_X12_657 (ci := 12) rfl k13_ (by decide) rfl rfl (by first | exact Nat.le_of_ble_eq_true rfl | simp [q_cat, q_catI, q_catJ, q_catR]) ⟨Nat.le_of_ble_eq_true rfl, Nat.le_of_ble_eq_true rfl⟩ ⟨Nat.le_of_ble_eq_true rfl, Nat.le_of_ble_eq_true rfl⟩ dX12_waiting_36 (fun r14_ S15_ H locs hp Y => ?_)
          obtain ⟨x16_, rfl, h⟩ := hp
          refine W.eq (g2 := F0 m 39 ls [.int x16_]) rfl ?_
          refine lv_goto (tgt := 43) hx hb dX12_waiting_39 (by decide) ?_
          exact cb_X12_waiting_43 X Y (lv_sub hl [] rfl) h
-- X12_region
theorem dX12_region_0 : decode cX12_region 0 = .ok (.aload_n 0, 1) := by decide +kernel
theorem dX12_region_1 : decode cX12_region 1 = .ok (.iconst 0, 1) := by decide +kernel
theorem dX12_region_2 : decode cX12_region 2 = .ok (.putfield 278, 3) := by decide +kernel
theorem dX12_region_5 : decode cX12_region 5 = .ok (.aload_n 0, 1) := by decide +kernel
theorem dX12_region_6 : decode cX12_region 6 = .ok (.iload_n 1, 1) := by decide +kernel
theorem dX12_region_7 : decode cX12_region 7 = .ok (.invokevirtual 468, 3) := by decide +kernel
theorem dX12_region_10 : decode cX12_region 10 = .ok (.ifCond .eq 26, 3) := by decide +kernel
theorem dX12_region_13 : decode cX12_region 13 = .ok (.iload_n 2, 1) := by decide +kernel
theorem dX12_region_14 : decode cX12_region 14 = .ok (.ifCond .lt 22, 3) := by decide +kernel
theorem dX12_region_17 : decode cX12_region 17 = .ok (.iload_n 2, 1) := by decide +kernel
theorem dX12_region_18 : decode cX12_region 18 = .ok (.aload_n 0, 1) := by decide +kernel
theorem dX12_region_19 : decode cX12_region 19 = .ok (.getfield 33, 3) := by decide +kernel
theorem dX12_region_22 : decode cX12_region 22 = .ok (.iload_n 1, 1) := by decide +kernel
theorem dX12_region_23 : decode cX12_region 23 = .ok (.iaload, 1) := by decide +kernel
theorem dX12_region_24 : decode cX12_region 24 = .ok (.if_icmp .ge 12, 3) := by decide +kernel
theorem dX12_region_27 : decode cX12_region 27 = .ok (.iload_n 3, 1) := by decide +kernel
theorem dX12_region_28 : decode cX12_region 28 = .ok (.ifCond .lt 8, 3) := by decide +kernel
theorem dX12_region_31 : decode cX12_region 31 = .ok (.iload_n 3, 1) := by decide +kernel
theorem dX12_region_32 : decode cX12_region 32 = .ok (.iconst 2, 1) := by decide +kernel
theorem dX12_region_33 : decode cX12_region 33 = .ok (.if_icmp .le 5, 3) := by decide +kernel
theorem dX12_region_36 : decode cX12_region 36 = .ok (.iconst (-1), 1) := by decide +kernel
theorem dX12_region_37 : decode cX12_region 37 = .ok (.ireturn, 1) := by decide +kernel
theorem dX12_region_38 : decode cX12_region 38 = .ok (.bipush 6, 2) := by decide +kernel
theorem dX12_region_40 : decode cX12_region 40 = .ok (.iload_n 1, 1) := by decide +kernel
theorem dX12_region_41 : decode cX12_region 41 = .ok (.imul, 1) := by decide +kernel
theorem dX12_region_42 : decode cX12_region 42 = .ok (.iload_n 2, 1) := by decide +kernel
theorem dX12_region_43 : decode cX12_region 43 = .ok (.iadd, 1) := by decide +kernel
theorem dX12_region_44 : decode cX12_region 44 = .ok (.istore 4, 2) := by decide +kernel
theorem dX12_region_46 : decode cX12_region 46 = .ok (.iload_n 3, 1) := by decide +kernel
theorem dX12_region_47 : decode cX12_region 47 = .ok (.ifCond .ne 13, 3) := by decide +kernel
theorem dX12_region_50 : decode cX12_region 50 = .ok (.aload_n 0, 1) := by decide +kernel
theorem dX12_region_51 : decode cX12_region 51 = .ok (.getfield 36, 3) := by decide +kernel
theorem dX12_region_54 : decode cX12_region 54 = .ok (.iload 4, 2) := by decide +kernel
theorem dX12_region_56 : decode cX12_region 56 = .ok (.iaload, 1) := by decide +kernel
theorem dX12_region_57 : decode cX12_region 57 = .ok (.goto 25, 3) := by decide +kernel
theorem dX12_region_60 : decode cX12_region 60 = .ok (.iload_n 3, 1) := by decide +kernel
theorem dX12_region_61 : decode cX12_region 61 = .ok (.iconst 1, 1) := by decide +kernel
theorem dX12_region_62 : decode cX12_region 62 = .ok (.if_icmp .ne 13, 3) := by decide +kernel
theorem dX12_region_65 : decode cX12_region 65 = .ok (.aload_n 0, 1) := by decide +kernel
theorem dX12_region_66 : decode cX12_region 66 = .ok (.getfield 39, 3) := by decide +kernel
theorem dX12_region_69 : decode cX12_region 69 = .ok (.iload 4, 2) := by decide +kernel
theorem dX12_region_71 : decode cX12_region 71 = .ok (.iaload, 1) := by decide +kernel
theorem dX12_region_72 : decode cX12_region 72 = .ok (.goto 10, 3) := by decide +kernel
theorem dX12_region_75 : decode cX12_region 75 = .ok (.aload_n 0, 1) := by decide +kernel
theorem dX12_region_76 : decode cX12_region 76 = .ok (.getfield 42, 3) := by decide +kernel
theorem dX12_region_79 : decode cX12_region 79 = .ok (.iload 4, 2) := by decide +kernel
theorem dX12_region_81 : decode cX12_region 81 = .ok (.iaload, 1) := by decide +kernel
theorem dX12_region_82 : decode cX12_region 82 = .ok (.ireturn, 1) := by decide +kernel
def wb_X12_region_36  (S : q_S) (Q : Option Value → q_S → Prop) : Prop := Q (some (.int (-1 : Int32))) S
set_option maxHeartbeats 4000000 in
set_option maxRecDepth 100000 in
theorem cb_X12_region_36 {p : Program} {l : Launch} {e : Env} {s : State} {m : MethodId} {args : Array Value} {below : List Frame} {meth : Method} {c : Code} {D : va_G} {cy : Nat → ClassId} {lo : Nat}  {S : q_S} {Q : Option Value → q_S → Prop} {H : Heap} {locs : List Loc} {ls : Array Slot} (X : q_X p s m args meth c RX12 cX12_region 5 (some .int) D cy lo)  (Y : q_Y D cy lo s S H locs) (hl : lv_has ls 5 []) (h : wb_X12_region_36 S Q) : W p l e ({ frames := 1, cells := 0, slots := 0, locals := 21 } : Room) s m args below meth c H locs 0 0 (MQ below (q_Q D cy lo Q) args s 0 0 (fun q => lo ≤ q)) (F0 m 36 ls []) := by
  have hx := X.1
  have hb := X.2.1
  unfold wb_X12_region_36 at h
  refine lv_iconst (v := (-1)) hx hb dX12_region_36 (by decide) ?_
  exact q_iret X Y rfl (Nat.le_refl _) (Nat.le_refl _) h dX12_region_37
def wb_X12_region_82  (S : q_S) (xs0 : Int32) (Q : Option Value → q_S → Prop) : Prop := Q (some (.int xs0)) S
set_option maxHeartbeats 4000000 in
set_option maxRecDepth 100000 in
theorem cb_X12_region_82 {p : Program} {l : Launch} {e : Env} {s : State} {m : MethodId} {args : Array Value} {below : List Frame} {meth : Method} {c : Code} {D : va_G} {cy : Nat → ClassId} {lo : Nat}  {S : q_S} {xs0 : Int32} {Q : Option Value → q_S → Prop} {H : Heap} {locs : List Loc} {ls : Array Slot} (X : q_X p s m args meth c RX12 cX12_region 5 (some .int) D cy lo)  (Y : q_Y D cy lo s S H locs) (hl : lv_has ls 5 []) (h : wb_X12_region_82 S xs0 Q) : W p l e ({ frames := 1, cells := 0, slots := 0, locals := 21 } : Room) s m args below meth c H locs 0 0 (MQ below (q_Q D cy lo Q) args s 0 0 (fun q => lo ≤ q)) (F0 m 82 ls [.int xs0]) := by
  have hx := X.1
  have hb := X.2.1
  unfold wb_X12_region_82 at h
  exact q_iret X Y rfl (Nat.le_refl _) (Nat.le_refl _) h dX12_region_82
def wm_X12_region (S : q_S) (a0 : Nat) (x1 : Int32) (x2 : Int32) (x3 : Int32) (Q : Option Value → q_S → Prop) : Prop := q_K S a0 = 13 ∧ (wm_X12_isPartition (qs_I S 2400 a0 (0 : Int32)) a0 x1 (fun r2_ S3_ => ∃ x4_ : Int32, r2_ = some (.int x4_) ∧ (((x4_ = 0 → (wb_X12_region_36 S3_ Q)) ∧ (¬ x4_ = 0 → (((x2 < 0 → (wb_X12_region_36 S3_ Q)) ∧ (¬ x2 < 0 → (q_K S3_ a0 = 13 ∧ (∃ a8_ : Nat, (q_P S3_ 2426 a0) = some a8_ ∧ (q_K S3_ a8_ = 21 ∧ (vp_in x1 (q_N S3_ a8_) ∧ ((((q_A S3_ a8_ x1.toNatClampNeg) ≤ x2 → (wb_X12_region_36 S3_ Q)) ∧ (¬ (q_A S3_ a8_ x1.toNatClampNeg) ≤ x2 → (((x3 < 0 → (wb_X12_region_36 S3_ Q)) ∧ (¬ x3 < 0 → (((x3 ≤ (2 : Int32) → (((¬ x3 = 0 → (((¬ x3 = (1 : Int32) → (∃ a17_ : Nat, (q_P S3_ 2429 a0) = some a17_ ∧ (q_K S3_ a17_ = 21 ∧ (vp_in (((6 : Int32) * x1) + x2) (q_N S3_ a17_) ∧ (wb_X12_region_82 S3_ (q_A S3_ a17_ (((6 : Int32) * x1) + x2).toNatClampNeg) Q))))) ∧ (x3 = (1 : Int32) → (∃ a21_ : Nat, (q_P S3_ 2428 a0) = some a21_ ∧ (q_K S3_ a21_ = 21 ∧ (vp_in (((6 : Int32) * x1) + x2) (q_N S3_ a21_) ∧ (wb_X12_region_82 S3_ (q_A S3_ a21_ (((6 : Int32) * x1) + x2).toNatClampNeg) Q)))))))) ∧ (x3 = 0 → (∃ a25_ : Nat, (q_P S3_ 2427 a0) = some a25_ ∧ (q_K S3_ a25_ = 21 ∧ (vp_in (((6 : Int32) * x1) + x2) (q_N S3_ a25_) ∧ (wb_X12_region_82 S3_ (q_A S3_ a25_ (((6 : Int32) * x1) + x2).toNatClampNeg) Q)))))))) ∧ (¬ x3 ≤ (2 : Int32) → (wb_X12_region_36 S3_ Q))))))))))))))))))))))
set_option maxHeartbeats 4000000 in
set_option maxRecDepth 100000 in
theorem cm_X12_region {l : Launch} {D : va_G} {cy : Nat → ClassId} {lo : Nat} {S : q_S} {a0 : Nat} {x1 : Int32} {x2 : Int32} {x3 : Int32} {Q : Option Value → q_S → Prop} (h : wm_X12_region S a0 x1 x2 x3 Q) : q_Met l D cy lo yX12_region cX12_region 5 (some .int) 1 21 0 0 [.ref a0, .int x1, .int x2, .int x3] S Q := by
  refine q_body (by decide) (by first | exact Nat.le_of_ble_eq_true rfl | simp [lg_sl, q_cat, q_catI, q_catJ, q_catR]) ?_
  intro p e s m below meth c ls X hnm Y hl
  have hx := X.1
  have hb := X.2.1
  have hl : lv_has ls 5 [(0, .ref a0), (1, .int x1), (2, .int x2), (3, .int x3)] := by first | exact hl | simpa [lv_args, q_cat, q_catI, q_catJ, q_catR] using hl
  generalize hargs : ([.ref a0, .int x1, .int x2, .int x3] : List Value).toArray = args at X ⊢
  unfold wm_X12_region at h
  refine lv_aload_n hx hb dX12_region_0 rfl (lv_at hl 0 rfl) ?_
  refine lv_iconst (v := 0) hx hb dX12_region_1 (by decide) ?_
  obtain ⟨k1_, h⟩ := h
  refine q_putI X Y kX12 0 rfl fl_X12_278 k1_ .int rfl ⟨rfl, rfl⟩ rfl dX12_region_2 (fun H locs Y => ?_)
  refine lv_aload_n hx hb dX12_region_5 rfl (lv_at hl 0 rfl) ?_
  refine lv_iload_n hx hb dX12_region_6 rfl (lv_at hl 1 rfl) ?_
  refine q_callV X Y hl (cm_X12_isPartition h) mt_X12_isPartition mi_X12_isPartition ml_X12_468 (ci := 12) rfl k1_ (by decide) rfl rfl (by first | exact Nat.le_of_ble_eq_true rfl | simp [q_cat, q_catI, q_catJ, q_catR]) ⟨Nat.le_of_ble_eq_true rfl, Nat.le_of_ble_eq_true rfl⟩ ⟨Nat.le_of_ble_eq_true rfl, Nat.le_of_ble_eq_true rfl⟩ dX12_region_7 (fun r2_ S3_ H locs hp Y => ?_)
  obtain ⟨x4_, rfl, h⟩ := hp
  refine W.eq (g2 := F0 m 10 ls [.int x4_]) rfl ?_
  refine lv_if_eq (tgt := 36) hx hb dX12_region_10 (by decide) (fun c5_ => ?_) (fun c5_ => ?_)
  · replace h := h.1 c5_
    exact cb_X12_region_36 X Y (lv_sub hl [] rfl) h
  · replace h := h.2 c5_
    refine lv_iload_n hx hb dX12_region_13 rfl (lv_at hl 2 rfl) ?_
    refine lv_if_lt (tgt := 36) hx hb dX12_region_14 (by decide) (fun c6_ => ?_) (fun c6_ => ?_)
    · replace h := h.1 c6_
      exact cb_X12_region_36 X Y (lv_sub hl [] rfl) h
    · replace h := h.2 c6_
      refine lv_iload_n hx hb dX12_region_17 rfl (lv_at hl 2 rfl) ?_
      refine lv_aload_n hx hb dX12_region_18 rfl (lv_at hl 0 rfl) ?_
      obtain ⟨k7_, h⟩ := h
      refine q_getP X Y kX12 26 rfl fl_X12_33 k7_ rfl dX12_region_19 ?_
      refine lv_iload_n hx hb dX12_region_22 rfl (lv_at hl 1 rfl) ?_
      obtain ⟨a8_, e9_, h⟩ := h
      refine q_nn [.int x1] e9_ ?_
      obtain ⟨k10_, h⟩ := h
      obtain ⟨i11_, h⟩ := h
      refine q_ild X Y k10_ i11_ dX12_region_23 ?_
      refine lv_icmp_ge (tgt := 36) hx hb dX12_region_24 (by decide) (fun c12_ => ?_) (fun c12_ => ?_)
      · replace h := h.1 c12_
        exact cb_X12_region_36 X Y (lv_sub hl [] rfl) h
      · replace h := h.2 c12_
        refine lv_iload_n hx hb dX12_region_27 rfl (lv_at hl 3 rfl) ?_
        refine lv_if_lt (tgt := 36) hx hb dX12_region_28 (by decide) (fun c13_ => ?_) (fun c13_ => ?_)
        · replace h := h.1 c13_
          exact cb_X12_region_36 X Y (lv_sub hl [] rfl) h
        · replace h := h.2 c13_
          refine lv_iload_n hx hb dX12_region_31 rfl (lv_at hl 3 rfl) ?_
          refine lv_iconst (v := 2) hx hb dX12_region_32 (by decide) ?_
          refine lv_icmp_le (tgt := 38) hx hb dX12_region_33 (by decide) (fun c14_ => ?_) (fun c14_ => ?_)
          · replace h := h.1 c14_
            refine lv_bipush (v := 6) hx hb dX12_region_38 (by decide) ?_
            refine lv_iload_n hx hb dX12_region_40 rfl (lv_at hl 1 rfl) ?_
            refine lv_imul hx hb dX12_region_41 ?_
            refine lv_iload_n hx hb dX12_region_42 rfl (lv_at hl 2 rfl) ?_
            refine lv_iadd hx hb dX12_region_43 ?_
            refine lv_istore (i := 4) (lv' := [(4, .int (((6 : Int32) * x1) + x2)), (0, .ref a0), (1, .int x1), (2, .int x2), (3, .int x3)]) hx hb dX12_region_44 hl (by decide) (by first | rfl | simp [q_cat, q_catI, q_catJ, q_catR]) (fun ls hl => ?_)
            refine lv_iload_n hx hb dX12_region_46 rfl (lv_at hl 4 rfl) ?_
            refine lv_if_ne (tgt := 60) hx hb dX12_region_47 (by decide) (fun c15_ => ?_) (fun c15_ => ?_)
            · replace h := h.1 c15_
              refine lv_iload_n hx hb dX12_region_60 rfl (lv_at hl 4 rfl) ?_
              refine lv_iconst (v := 1) hx hb dX12_region_61 (by decide) ?_
              refine lv_icmp_ne (tgt := 75) hx hb dX12_region_62 (by decide) (fun c16_ => ?_) (fun c16_ => ?_)
              · replace h := h.1 c16_
                refine lv_aload_n hx hb dX12_region_75 rfl (lv_at hl 1 rfl) ?_
                refine q_getP X Y kX12 29 rfl fl_X12_42 k7_ rfl dX12_region_76 ?_
                refine lv_iload hx hb dX12_region_79 (lv_at hl 0 rfl) ?_
                obtain ⟨a17_, e18_, h⟩ := h
                refine q_nn [.int (((6 : Int32) * x1) + x2)] e18_ ?_
                obtain ⟨k19_, h⟩ := h
                obtain ⟨i20_, h⟩ := h
                refine q_ild X Y k19_ i20_ dX12_region_81 ?_
                exact cb_X12_region_82 X Y (lv_sub hl [] rfl) h
              · replace h := h.2 c16_
                refine lv_aload_n hx hb dX12_region_65 rfl (lv_at hl 1 rfl) ?_
                refine q_getP X Y kX12 28 rfl fl_X12_39 k7_ rfl dX12_region_66 ?_
                refine lv_iload hx hb dX12_region_69 (lv_at hl 0 rfl) ?_
                obtain ⟨a21_, e22_, h⟩ := h
                refine q_nn [.int (((6 : Int32) * x1) + x2)] e22_ ?_
                obtain ⟨k23_, h⟩ := h
                obtain ⟨i24_, h⟩ := h
                refine q_ild X Y k23_ i24_ dX12_region_71 ?_
                refine lv_goto (tgt := 82) hx hb dX12_region_72 (by decide) ?_
                exact cb_X12_region_82 X Y (lv_sub hl [] rfl) h
            · replace h := h.2 c15_
              refine lv_aload_n hx hb dX12_region_50 rfl (lv_at hl 1 rfl) ?_
              refine q_getP X Y kX12 27 rfl fl_X12_36 k7_ rfl dX12_region_51 ?_
              refine lv_iload hx hb dX12_region_54 (lv_at hl 0 rfl) ?_
              obtain ⟨a25_, e26_, h⟩ := h
              refine q_nn [.int (((6 : Int32) * x1) + x2)] e26_ ?_
              obtain ⟨k27_, h⟩ := h
              obtain ⟨i28_, h⟩ := h
              refine q_ild X Y k27_ i28_ dX12_region_56 ?_
              refine lv_goto (tgt := 82) hx hb dX12_region_57 (by decide) ?_
              exact cb_X12_region_82 X Y (lv_sub hl [] rfl) h
          · replace h := h.2 c14_
            exact cb_X12_region_36 X Y (lv_sub hl [] rfl) h
-- X12_wordOf
theorem dX12_wordOf_0 : decode cX12_wordOf 0 = .ok (.aload_n 0, 1) := by decide +kernel
theorem dX12_wordOf_1 : decode cX12_wordOf 1 = .ok (.iconst 0, 1) := by decide +kernel
theorem dX12_wordOf_2 : decode cX12_wordOf 2 = .ok (.putfield 278, 3) := by decide +kernel
theorem dX12_wordOf_5 : decode cX12_wordOf 5 = .ok (.aload_n 0, 1) := by decide +kernel
theorem dX12_wordOf_6 : decode cX12_wordOf 6 = .ok (.iload_n 1, 1) := by decide +kernel
theorem dX12_wordOf_7 : decode cX12_wordOf 7 = .ok (.invokevirtual 468, 3) := by decide +kernel
theorem dX12_wordOf_10 : decode cX12_wordOf 10 = .ok (.ifCond .eq 28, 3) := by decide +kernel
theorem dX12_wordOf_13 : decode cX12_wordOf 13 = .ok (.iload_n 2, 1) := by decide +kernel
theorem dX12_wordOf_14 : decode cX12_wordOf 14 = .ok (.iconst 2, 1) := by decide +kernel
theorem dX12_wordOf_15 : decode cX12_wordOf 15 = .ok (.if_icmp .eq 8, 3) := by decide +kernel
theorem dX12_wordOf_18 : decode cX12_wordOf 18 = .ok (.iload_n 2, 1) := by decide +kernel
theorem dX12_wordOf_19 : decode cX12_wordOf 19 = .ok (.iconst 3, 1) := by decide +kernel
theorem dX12_wordOf_20 : decode cX12_wordOf 20 = .ok (.if_icmp .ne 18, 3) := by decide +kernel
theorem dX12_wordOf_23 : decode cX12_wordOf 23 = .ok (.aload_n 0, 1) := by decide +kernel
theorem dX12_wordOf_24 : decode cX12_wordOf 24 = .ok (.iload_n 1, 1) := by decide +kernel
theorem dX12_wordOf_25 : decode cX12_wordOf 25 = .ok (.iload_n 2, 1) := by decide +kernel
theorem dX12_wordOf_26 : decode cX12_wordOf 26 = .ok (.iload_n 3, 1) := by decide +kernel
theorem dX12_wordOf_27 : decode cX12_wordOf 27 = .ok (.invokevirtual 616, 3) := by decide +kernel
theorem dX12_wordOf_30 : decode cX12_wordOf 30 = .ok (.ifCond .eq 8, 3) := by decide +kernel
theorem dX12_wordOf_33 : decode cX12_wordOf 33 = .ok (.iload 4, 2) := by decide +kernel
theorem dX12_wordOf_35 : decode cX12_wordOf 35 = .ok (.ifCond .ge 5, 3) := by decide +kernel
theorem dX12_wordOf_38 : decode cX12_wordOf 38 = .ok (.iconst 0, 1) := by decide +kernel
theorem dX12_wordOf_39 : decode cX12_wordOf 39 = .ok (.ireturn, 1) := by decide +kernel
theorem dX12_wordOf_40 : decode cX12_wordOf 40 = .ok (.bipush 8, 2) := by decide +kernel
theorem dX12_wordOf_42 : decode cX12_wordOf 42 = .ok (.iload_n 1, 1) := by decide +kernel
theorem dX12_wordOf_43 : decode cX12_wordOf 43 = .ok (.imul, 1) := by decide +kernel
theorem dX12_wordOf_44 : decode cX12_wordOf 44 = .ok (.iload_n 3, 1) := by decide +kernel
theorem dX12_wordOf_45 : decode cX12_wordOf 45 = .ok (.iadd, 1) := by decide +kernel
theorem dX12_wordOf_46 : decode cX12_wordOf 46 = .ok (.istore 5, 2) := by decide +kernel
theorem dX12_wordOf_48 : decode cX12_wordOf 48 = .ok (.iload_n 2, 1) := by decide +kernel
theorem dX12_wordOf_49 : decode cX12_wordOf 49 = .ok (.iconst 3, 1) := by decide +kernel
theorem dX12_wordOf_50 : decode cX12_wordOf 50 = .ok (.if_icmp .ne 30, 3) := by decide +kernel
theorem dX12_wordOf_53 : decode cX12_wordOf 53 = .ok (.iload 4, 2) := by decide +kernel
theorem dX12_wordOf_55 : decode cX12_wordOf 55 = .ok (.ifCond .ne 23, 3) := by decide +kernel
theorem dX12_wordOf_58 : decode cX12_wordOf 58 = .ok (.aload_n 0, 1) := by decide +kernel
theorem dX12_wordOf_59 : decode cX12_wordOf 59 = .ok (.getfield 236, 3) := by decide +kernel
theorem dX12_wordOf_62 : decode cX12_wordOf 62 = .ok (.iload 5, 2) := by decide +kernel
theorem dX12_wordOf_64 : decode cX12_wordOf 64 = .ok (.baload, 1) := by decide +kernel
theorem dX12_wordOf_65 : decode cX12_wordOf 65 = .ok (.ifCond .eq 13, 3) := by decide +kernel
theorem dX12_wordOf_68 : decode cX12_wordOf 68 = .ok (.aload_n 0, 1) := by decide +kernel
theorem dX12_wordOf_69 : decode cX12_wordOf 69 = .ok (.getfield 239, 3) := by decide +kernel
theorem dX12_wordOf_72 : decode cX12_wordOf 72 = .ok (.iload 5, 2) := by decide +kernel
theorem dX12_wordOf_74 : decode cX12_wordOf 74 = .ok (.iaload, 1) := by decide +kernel
theorem dX12_wordOf_75 : decode cX12_wordOf 75 = .ok (.goto 4, 3) := by decide +kernel
theorem dX12_wordOf_78 : decode cX12_wordOf 78 = .ok (.iconst 0, 1) := by decide +kernel
theorem dX12_wordOf_79 : decode cX12_wordOf 79 = .ok (.ireturn, 1) := by decide +kernel
theorem dX12_wordOf_80 : decode cX12_wordOf 80 = .ok (.iload 4, 2) := by decide +kernel
theorem dX12_wordOf_82 : decode cX12_wordOf 82 = .ok (.aload_n 0, 1) := by decide +kernel
theorem dX12_wordOf_83 : decode cX12_wordOf 83 = .ok (.getfield 230, 3) := by decide +kernel
theorem dX12_wordOf_86 : decode cX12_wordOf 86 = .ok (.iload 5, 2) := by decide +kernel
theorem dX12_wordOf_88 : decode cX12_wordOf 88 = .ok (.iaload, 1) := by decide +kernel
theorem dX12_wordOf_89 : decode cX12_wordOf 89 = .ok (.if_icmp .ge 19, 3) := by decide +kernel
theorem dX12_wordOf_92 : decode cX12_wordOf 92 = .ok (.aload_n 0, 1) := by decide +kernel
theorem dX12_wordOf_93 : decode cX12_wordOf 93 = .ok (.getfield 233, 3) := by decide +kernel
theorem dX12_wordOf_96 : decode cX12_wordOf 96 = .ok (.bipush 16, 2) := by decide +kernel
theorem dX12_wordOf_98 : decode cX12_wordOf 98 = .ok (.iload 5, 2) := by decide +kernel
theorem dX12_wordOf_100 : decode cX12_wordOf 100 = .ok (.imul, 1) := by decide +kernel
theorem dX12_wordOf_101 : decode cX12_wordOf 101 = .ok (.iload 4, 2) := by decide +kernel
theorem dX12_wordOf_103 : decode cX12_wordOf 103 = .ok (.iadd, 1) := by decide +kernel
theorem dX12_wordOf_104 : decode cX12_wordOf 104 = .ok (.iaload, 1) := by decide +kernel
theorem dX12_wordOf_105 : decode cX12_wordOf 105 = .ok (.goto 4, 3) := by decide +kernel
theorem dX12_wordOf_108 : decode cX12_wordOf 108 = .ok (.iconst 0, 1) := by decide +kernel
theorem dX12_wordOf_109 : decode cX12_wordOf 109 = .ok (.ireturn, 1) := by decide +kernel
def wb_X12_wordOf_38  (S : q_S) (Q : Option Value → q_S → Prop) : Prop := Q (some (.int (0 : Int32))) S
set_option maxHeartbeats 4000000 in
set_option maxRecDepth 100000 in
theorem cb_X12_wordOf_38 {p : Program} {l : Launch} {e : Env} {s : State} {m : MethodId} {args : Array Value} {below : List Frame} {meth : Method} {c : Code} {D : va_G} {cy : Nat → ClassId} {lo : Nat}  {S : q_S} {Q : Option Value → q_S → Prop} {H : Heap} {locs : List Loc} {ls : Array Slot} (X : q_X p s m args meth c RX12 cX12_wordOf 6 (some .int) D cy lo)  (Y : q_Y D cy lo s S H locs) (hl : lv_has ls 6 []) (h : wb_X12_wordOf_38 S Q) : W p l e ({ frames := 1, cells := 0, slots := 0, locals := 23 } : Room) s m args below meth c H locs 0 0 (MQ below (q_Q D cy lo Q) args s 0 0 (fun q => lo ≤ q)) (F0 m 38 ls []) := by
  have hx := X.1
  have hb := X.2.1
  unfold wb_X12_wordOf_38 at h
  refine lv_iconst (v := 0) hx hb dX12_wordOf_38 (by decide) ?_
  exact q_iret X Y rfl (Nat.le_refl _) (Nat.le_refl _) h dX12_wordOf_39
def wb_X12_wordOf_79  (S : q_S) (xs0 : Int32) (Q : Option Value → q_S → Prop) : Prop := Q (some (.int xs0)) S
set_option maxHeartbeats 4000000 in
set_option maxRecDepth 100000 in
theorem cb_X12_wordOf_79 {p : Program} {l : Launch} {e : Env} {s : State} {m : MethodId} {args : Array Value} {below : List Frame} {meth : Method} {c : Code} {D : va_G} {cy : Nat → ClassId} {lo : Nat}  {S : q_S} {xs0 : Int32} {Q : Option Value → q_S → Prop} {H : Heap} {locs : List Loc} {ls : Array Slot} (X : q_X p s m args meth c RX12 cX12_wordOf 6 (some .int) D cy lo)  (Y : q_Y D cy lo s S H locs) (hl : lv_has ls 6 []) (h : wb_X12_wordOf_79 S xs0 Q) : W p l e ({ frames := 1, cells := 0, slots := 0, locals := 23 } : Room) s m args below meth c H locs 0 0 (MQ below (q_Q D cy lo Q) args s 0 0 (fun q => lo ≤ q)) (F0 m 79 ls [.int xs0]) := by
  have hx := X.1
  have hb := X.2.1
  unfold wb_X12_wordOf_79 at h
  exact q_iret X Y rfl (Nat.le_refl _) (Nat.le_refl _) h dX12_wordOf_79
def wb_X12_wordOf_78  (S : q_S) (Q : Option Value → q_S → Prop) : Prop := wb_X12_wordOf_79 S (0 : Int32) Q
set_option maxHeartbeats 4000000 in
set_option maxRecDepth 100000 in
theorem cb_X12_wordOf_78 {p : Program} {l : Launch} {e : Env} {s : State} {m : MethodId} {args : Array Value} {below : List Frame} {meth : Method} {c : Code} {D : va_G} {cy : Nat → ClassId} {lo : Nat}  {S : q_S} {Q : Option Value → q_S → Prop} {H : Heap} {locs : List Loc} {ls : Array Slot} (X : q_X p s m args meth c RX12 cX12_wordOf 6 (some .int) D cy lo)  (Y : q_Y D cy lo s S H locs) (hl : lv_has ls 6 []) (h : wb_X12_wordOf_78 S Q) : W p l e ({ frames := 1, cells := 0, slots := 0, locals := 23 } : Room) s m args below meth c H locs 0 0 (MQ below (q_Q D cy lo Q) args s 0 0 (fun q => lo ≤ q)) (F0 m 78 ls []) := by
  have hx := X.1
  have hb := X.2.1
  unfold wb_X12_wordOf_78 at h
  refine lv_iconst (v := 0) hx hb dX12_wordOf_78 (by decide) ?_
  exact cb_X12_wordOf_79 X Y (lv_sub hl [] rfl) h
def wb_X12_wordOf_109  (S : q_S) (xs0 : Int32) (Q : Option Value → q_S → Prop) : Prop := Q (some (.int xs0)) S
set_option maxHeartbeats 4000000 in
set_option maxRecDepth 100000 in
theorem cb_X12_wordOf_109 {p : Program} {l : Launch} {e : Env} {s : State} {m : MethodId} {args : Array Value} {below : List Frame} {meth : Method} {c : Code} {D : va_G} {cy : Nat → ClassId} {lo : Nat}  {S : q_S} {xs0 : Int32} {Q : Option Value → q_S → Prop} {H : Heap} {locs : List Loc} {ls : Array Slot} (X : q_X p s m args meth c RX12 cX12_wordOf 6 (some .int) D cy lo)  (Y : q_Y D cy lo s S H locs) (hl : lv_has ls 6 []) (h : wb_X12_wordOf_109 S xs0 Q) : W p l e ({ frames := 1, cells := 0, slots := 0, locals := 23 } : Room) s m args below meth c H locs 0 0 (MQ below (q_Q D cy lo Q) args s 0 0 (fun q => lo ≤ q)) (F0 m 109 ls [.int xs0]) := by
  have hx := X.1
  have hb := X.2.1
  unfold wb_X12_wordOf_109 at h
  exact q_iret X Y rfl (Nat.le_refl _) (Nat.le_refl _) h dX12_wordOf_109
def wb_X12_wordOf_23  (S : q_S) (a0 : Nat) (x1 : Int32) (x2 : Int32) (x3 : Int32) (x4 : Int32) (Q : Option Value → q_S → Prop) : Prop := q_K S a0 = 13 ∧ (wm_X12_isThing S a0 x1 x2 x3 (fun r2_ S3_ => ∃ x4_ : Int32, r2_ = some (.int x4_) ∧ (((x4_ = 0 → (wb_X12_wordOf_38 S3_ Q)) ∧ (¬ x4_ = 0 → (((0 ≤ x4 → (((¬ x2 = (3 : Int32) → (q_K S3_ a0 = 13 ∧ (∃ a9_ : Nat, (q_P S3_ 2494 a0) = some a9_ ∧ (q_K S3_ a9_ = 21 ∧ (vp_in (((8 : Int32) * x1) + x3) (q_N S3_ a9_) ∧ ((((q_A S3_ a9_ (((8 : Int32) * x1) + x3).toNatClampNeg) ≤ x4 → (wb_X12_wordOf_109 S3_ (0 : Int32) Q)) ∧ (¬ (q_A S3_ a9_ (((8 : Int32) * x1) + x3).toNatClampNeg) ≤ x4 → (∃ a14_ : Nat, (q_P S3_ 2495 a0) = some a14_ ∧ (q_K S3_ a14_ = 21 ∧ (vp_in (((16 : Int32) * (((8 : Int32) * x1) + x3)) + x4) (q_N S3_ a14_) ∧ (wb_X12_wordOf_109 S3_ (q_A S3_ a14_ (((16 : Int32) * (((8 : Int32) * x1) + x3)) + x4).toNatClampNeg) Q)))))))))))) ∧ (x2 = (3 : Int32) → (((¬ x4 = 0 → (wb_X12_wordOf_78 S3_ Q)) ∧ (x4 = 0 → (q_K S3_ a0 = 13 ∧ (∃ a20_ : Nat, (q_P S3_ 2496 a0) = some a20_ ∧ (q_K S3_ a20_ = 22 ∧ (vp_in (((8 : Int32) * x1) + x3) (q_N S3_ a20_) ∧ ((((q_A S3_ a20_ (((8 : Int32) * x1) + x3).toNatClampNeg) = 0 → (wb_X12_wordOf_78 S3_ Q)) ∧ (¬ (q_A S3_ a20_ (((8 : Int32) * x1) + x3).toNatClampNeg) = 0 → (∃ a25_ : Nat, (q_P S3_ 2497 a0) = some a25_ ∧ (q_K S3_ a25_ = 21 ∧ (vp_in (((8 : Int32) * x1) + x3) (q_N S3_ a25_) ∧ (wb_X12_wordOf_79 S3_ (q_A S3_ a25_ (((8 : Int32) * x1) + x3).toNatClampNeg) Q)))))))))))))))))) ∧ (¬ 0 ≤ x4 → (wb_X12_wordOf_38 S3_ Q)))))))))
set_option maxHeartbeats 4000000 in
set_option maxRecDepth 100000 in
theorem cb_X12_wordOf_23 {p : Program} {l : Launch} {e : Env} {s : State} {m : MethodId} {args : Array Value} {below : List Frame} {meth : Method} {c : Code} {D : va_G} {cy : Nat → ClassId} {lo : Nat}  {S : q_S} {a0 : Nat} {x1 : Int32} {x2 : Int32} {x3 : Int32} {x4 : Int32} {Q : Option Value → q_S → Prop} {H : Heap} {locs : List Loc} {ls : Array Slot} (X : q_X p s m args meth c RX12 cX12_wordOf 6 (some .int) D cy lo)  (Y : q_Y D cy lo s S H locs) (hl : lv_has ls 6 [(0, .ref a0), (1, .int x1), (2, .int x2), (3, .int x3), (4, .int x4)]) (h : wb_X12_wordOf_23 S a0 x1 x2 x3 x4 Q) : W p l e ({ frames := 1, cells := 0, slots := 0, locals := 23 } : Room) s m args below meth c H locs 0 0 (MQ below (q_Q D cy lo Q) args s 0 0 (fun q => lo ≤ q)) (F0 m 23 ls []) := by
  have hx := X.1
  have hb := X.2.1
  unfold wb_X12_wordOf_23 at h
  refine lv_aload_n hx hb dX12_wordOf_23 rfl (lv_at hl 0 rfl) ?_
  refine lv_iload_n hx hb dX12_wordOf_24 rfl (lv_at hl 1 rfl) ?_
  refine lv_iload_n hx hb dX12_wordOf_25 rfl (lv_at hl 2 rfl) ?_
  refine lv_iload_n hx hb dX12_wordOf_26 rfl (lv_at hl 3 rfl) ?_
  obtain ⟨k1_, h⟩ := h
  refine q_callV X Y hl (cm_X12_isThing h) mt_X12_isThing mi_X12_isThing ml_X12_616 (ci := 12) rfl k1_ (by decide) rfl rfl (by first | exact Nat.le_of_ble_eq_true rfl | simp [q_cat, q_catI, q_catJ, q_catR]) ⟨Nat.le_of_ble_eq_true rfl, Nat.le_of_ble_eq_true rfl⟩ ⟨Nat.le_of_ble_eq_true rfl, Nat.le_of_ble_eq_true rfl⟩ dX12_wordOf_27 (fun r2_ S3_ H locs hp Y => ?_)
  obtain ⟨x4_, rfl, h⟩ := hp
  refine W.eq (g2 := F0 m 30 ls [.int x4_]) rfl ?_
  refine lv_if_eq (tgt := 38) hx hb dX12_wordOf_30 (by decide) (fun c5_ => ?_) (fun c5_ => ?_)
  · replace h := h.1 c5_
    exact cb_X12_wordOf_38 X Y (lv_sub hl [] rfl) h
  · replace h := h.2 c5_
    refine lv_iload hx hb dX12_wordOf_33 (lv_at hl 4 rfl) ?_
    refine lv_if_ge (tgt := 40) hx hb dX12_wordOf_35 (by decide) (fun c6_ => ?_) (fun c6_ => ?_)
    · replace h := h.1 c6_
      refine lv_bipush (v := 8) hx hb dX12_wordOf_40 (by decide) ?_
      refine lv_iload_n hx hb dX12_wordOf_42 rfl (lv_at hl 1 rfl) ?_
      refine lv_imul hx hb dX12_wordOf_43 ?_
      refine lv_iload_n hx hb dX12_wordOf_44 rfl (lv_at hl 3 rfl) ?_
      refine lv_iadd hx hb dX12_wordOf_45 ?_
      refine lv_istore (i := 5) (lv' := [(5, .int (((8 : Int32) * x1) + x3)), (0, .ref a0), (1, .int x1), (2, .int x2), (3, .int x3), (4, .int x4)]) hx hb dX12_wordOf_46 hl (by decide) (by first | rfl | simp [q_cat, q_catI, q_catJ, q_catR]) (fun ls hl => ?_)
      refine lv_iload_n hx hb dX12_wordOf_48 rfl (lv_at hl 3 rfl) ?_
      refine lv_iconst (v := 3) hx hb dX12_wordOf_49 (by decide) ?_
      refine lv_icmp_ne (tgt := 80) hx hb dX12_wordOf_50 (by decide) (fun c7_ => ?_) (fun c7_ => ?_)
      · replace h := h.1 c7_
        refine lv_iload hx hb dX12_wordOf_80 (lv_at hl 5 rfl) ?_
        refine lv_aload_n hx hb dX12_wordOf_82 rfl (lv_at hl 1 rfl) ?_
        obtain ⟨k8_, h⟩ := h
        refine q_getP X Y kX12 94 rfl fl_X12_230 k8_ rfl dX12_wordOf_83 ?_
        refine lv_iload hx hb dX12_wordOf_86 (lv_at hl 0 rfl) ?_
        obtain ⟨a9_, e10_, h⟩ := h
        refine q_nn [.int (((8 : Int32) * x1) + x3)] e10_ ?_
        obtain ⟨k11_, h⟩ := h
        obtain ⟨i12_, h⟩ := h
        refine q_ild X Y k11_ i12_ dX12_wordOf_88 ?_
        refine lv_icmp_ge (tgt := 108) hx hb dX12_wordOf_89 (by decide) (fun c13_ => ?_) (fun c13_ => ?_)
        · replace h := h.1 c13_
          refine lv_iconst (v := 0) hx hb dX12_wordOf_108 (by decide) ?_
          exact cb_X12_wordOf_109 X Y (lv_sub hl [] rfl) h
        · replace h := h.2 c13_
          refine lv_aload_n hx hb dX12_wordOf_92 rfl (lv_at hl 1 rfl) ?_
          refine q_getP X Y kX12 95 rfl fl_X12_233 k8_ rfl dX12_wordOf_93 ?_
          refine lv_bipush (v := 16) hx hb dX12_wordOf_96 (by decide) ?_
          refine lv_iload hx hb dX12_wordOf_98 (lv_at hl 0 rfl) ?_
          refine lv_imul hx hb dX12_wordOf_100 ?_
          refine lv_iload hx hb dX12_wordOf_101 (lv_at hl 5 rfl) ?_
          refine lv_iadd hx hb dX12_wordOf_103 ?_
          obtain ⟨a14_, e15_, h⟩ := h
          refine q_nn [.int (((16 : Int32) * (((8 : Int32) * x1) + x3)) + x4)] e15_ ?_
          obtain ⟨k16_, h⟩ := h
          obtain ⟨i17_, h⟩ := h
          refine q_ild X Y k16_ i17_ dX12_wordOf_104 ?_
          refine lv_goto (tgt := 109) hx hb dX12_wordOf_105 (by decide) ?_
          exact cb_X12_wordOf_109 X Y (lv_sub hl [] rfl) h
      · replace h := h.2 c7_
        refine lv_iload hx hb dX12_wordOf_53 (lv_at hl 5 rfl) ?_
        refine lv_if_ne (tgt := 78) hx hb dX12_wordOf_55 (by decide) (fun c18_ => ?_) (fun c18_ => ?_)
        · replace h := h.1 c18_
          exact cb_X12_wordOf_78 X Y (lv_sub hl [] rfl) h
        · replace h := h.2 c18_
          refine lv_aload_n hx hb dX12_wordOf_58 rfl (lv_at hl 1 rfl) ?_
          obtain ⟨k19_, h⟩ := h
          refine q_getP X Y kX12 96 rfl fl_X12_236 k19_ rfl dX12_wordOf_59 ?_
          refine lv_iload hx hb dX12_wordOf_62 (lv_at hl 0 rfl) ?_
          obtain ⟨a20_, e21_, h⟩ := h
          refine q_nn [.int (((8 : Int32) * x1) + x3)] e21_ ?_
          obtain ⟨k22_, h⟩ := h
          obtain ⟨i23_, h⟩ := h
          refine q_zld X Y k22_ i23_ dX12_wordOf_64 ?_
          refine lv_if_eq (tgt := 78) hx hb dX12_wordOf_65 (by decide) (fun c24_ => ?_) (fun c24_ => ?_)
          · replace h := h.1 c24_
            exact cb_X12_wordOf_78 X Y (lv_sub hl [] rfl) h
          · replace h := h.2 c24_
            refine lv_aload_n hx hb dX12_wordOf_68 rfl (lv_at hl 1 rfl) ?_
            refine q_getP X Y kX12 97 rfl fl_X12_239 k19_ rfl dX12_wordOf_69 ?_
            refine lv_iload hx hb dX12_wordOf_72 (lv_at hl 0 rfl) ?_
            obtain ⟨a25_, e26_, h⟩ := h
            refine q_nn [.int (((8 : Int32) * x1) + x3)] e26_ ?_
            obtain ⟨k27_, h⟩ := h
            obtain ⟨i28_, h⟩ := h
            refine q_ild X Y k27_ i28_ dX12_wordOf_74 ?_
            refine lv_goto (tgt := 79) hx hb dX12_wordOf_75 (by decide) ?_
            exact cb_X12_wordOf_79 X Y (lv_sub hl [] rfl) h
    · replace h := h.2 c6_
      exact cb_X12_wordOf_38 X Y (lv_sub hl [] rfl) h
def wm_X12_wordOf (S : q_S) (a0 : Nat) (x1 : Int32) (x2 : Int32) (x3 : Int32) (x4 : Int32) (Q : Option Value → q_S → Prop) : Prop := q_K S a0 = 13 ∧ (wm_X12_isPartition (qs_I S 2400 a0 (0 : Int32)) a0 x1 (fun r30_ S31_ => ∃ x32_ : Int32, r30_ = some (.int x32_) ∧ (((x32_ = 0 → (wb_X12_wordOf_38 S31_ Q)) ∧ (¬ x32_ = 0 → (((x2 = (2 : Int32) → (wb_X12_wordOf_23 S31_ a0 x1 x2 x3 x4 Q)) ∧ (¬ x2 = (2 : Int32) → (((¬ x2 = (3 : Int32) → (wb_X12_wordOf_38 S31_ Q)) ∧ (x2 = (3 : Int32) → (wb_X12_wordOf_23 S31_ a0 x1 x2 x3 x4 Q))))))))))))
set_option maxHeartbeats 4000000 in
set_option maxRecDepth 100000 in
theorem cm_X12_wordOf {l : Launch} {D : va_G} {cy : Nat → ClassId} {lo : Nat} {S : q_S} {a0 : Nat} {x1 : Int32} {x2 : Int32} {x3 : Int32} {x4 : Int32} {Q : Option Value → q_S → Prop} (h : wm_X12_wordOf S a0 x1 x2 x3 x4 Q) : q_Met l D cy lo yX12_wordOf cX12_wordOf 6 (some .int) 1 23 0 0 [.ref a0, .int x1, .int x2, .int x3, .int x4] S Q := by
  refine q_body (by decide) (by first | exact Nat.le_of_ble_eq_true rfl | simp [lg_sl, q_cat, q_catI, q_catJ, q_catR]) ?_
  intro p e s m below meth c ls X hnm Y hl
  have hx := X.1
  have hb := X.2.1
  have hl : lv_has ls 6 [(0, .ref a0), (1, .int x1), (2, .int x2), (3, .int x3), (4, .int x4)] := by first | exact hl | simpa [lv_args, q_cat, q_catI, q_catJ, q_catR] using hl
  generalize hargs : ([.ref a0, .int x1, .int x2, .int x3, .int x4] : List Value).toArray = args at X ⊢
  unfold wm_X12_wordOf at h
  refine lv_aload_n hx hb dX12_wordOf_0 rfl (lv_at hl 0 rfl) ?_
  refine lv_iconst (v := 0) hx hb dX12_wordOf_1 (by decide) ?_
  obtain ⟨k29_, h⟩ := h
  refine q_putI X Y kX12 0 rfl fl_X12_278 k29_ .int rfl ⟨rfl, rfl⟩ rfl dX12_wordOf_2 (fun H locs Y => ?_)
  refine lv_aload_n hx hb dX12_wordOf_5 rfl (lv_at hl 0 rfl) ?_
  refine lv_iload_n hx hb dX12_wordOf_6 rfl (lv_at hl 1 rfl) ?_
  refine q_callV X Y hl (cm_X12_isPartition h) mt_X12_isPartition mi_X12_isPartition ml_X12_468 (ci := 12) rfl k29_ (by decide) rfl rfl (by first | exact Nat.le_of_ble_eq_true rfl | simp [q_cat, q_catI, q_catJ, q_catR]) ⟨Nat.le_of_ble_eq_true rfl, Nat.le_of_ble_eq_true rfl⟩ ⟨Nat.le_of_ble_eq_true rfl, Nat.le_of_ble_eq_true rfl⟩ dX12_wordOf_7 (fun r30_ S31_ H locs hp Y => ?_)
  obtain ⟨x32_, rfl, h⟩ := hp
  refine W.eq (g2 := F0 m 10 ls [.int x32_]) rfl ?_
  refine lv_if_eq (tgt := 38) hx hb dX12_wordOf_10 (by decide) (fun c33_ => ?_) (fun c33_ => ?_)
  · replace h := h.1 c33_
    exact cb_X12_wordOf_38 X Y (lv_sub hl [] rfl) h
  · replace h := h.2 c33_
    refine lv_iload_n hx hb dX12_wordOf_13 rfl (lv_at hl 2 rfl) ?_
    refine lv_iconst (v := 2) hx hb dX12_wordOf_14 (by decide) ?_
    refine lv_icmp_eq (tgt := 23) hx hb dX12_wordOf_15 (by decide) (fun c34_ => ?_) (fun c34_ => ?_)
    · replace h := h.1 c34_
      exact cb_X12_wordOf_23 X Y (lv_sub hl [0, 1, 2, 3, 4] rfl) h
    · replace h := h.2 c34_
      refine lv_iload_n hx hb dX12_wordOf_18 rfl (lv_at hl 2 rfl) ?_
      refine lv_iconst (v := 3) hx hb dX12_wordOf_19 (by decide) ?_
      refine lv_icmp_ne (tgt := 38) hx hb dX12_wordOf_20 (by decide) (fun c35_ => ?_) (fun c35_ => ?_)
      · replace h := h.1 c35_
        exact cb_X12_wordOf_38 X Y (lv_sub hl [] rfl) h
      · replace h := h.2 c35_
        exact cb_X12_wordOf_23 X Y (lv_sub hl [0, 1, 2, 3, 4] rfl) h
-- X12_isChannel
theorem dX12_isChannel_0 : decode cX12_isChannel 0 = .ok (.iload_n 1, 1) := by decide +kernel
theorem dX12_isChannel_1 : decode cX12_isChannel 1 = .ok (.ifCond .lt 15, 3) := by decide +kernel
theorem dX12_isChannel_4 : decode cX12_isChannel 4 = .ok (.iload_n 1, 1) := by decide +kernel
theorem dX12_isChannel_5 : decode cX12_isChannel 5 = .ok (.aload_n 0, 1) := by decide +kernel
theorem dX12_isChannel_6 : decode cX12_isChannel 6 = .ok (.getfield 409, 3) := by decide +kernel
theorem dX12_isChannel_9 : decode cX12_isChannel 9 = .ok (.if_icmp .ge 7, 3) := by decide +kernel
theorem dX12_isChannel_12 : decode cX12_isChannel 12 = .ok (.iconst 1, 1) := by decide +kernel
theorem dX12_isChannel_13 : decode cX12_isChannel 13 = .ok (.goto 4, 3) := by decide +kernel
theorem dX12_isChannel_16 : decode cX12_isChannel 16 = .ok (.iconst 0, 1) := by decide +kernel
theorem dX12_isChannel_17 : decode cX12_isChannel 17 = .ok (.ireturn, 1) := by decide +kernel
def wb_X12_isChannel_17  (S : q_S) (xs0 : Int32) (Q : Option Value → q_S → Prop) : Prop := (narrow .boolean (.int xs0) = .int xs0 ∧ Q (some (.int xs0)) S)
set_option maxHeartbeats 4000000 in
set_option maxRecDepth 100000 in
theorem cb_X12_isChannel_17 {p : Program} {l : Launch} {e : Env} {s : State} {m : MethodId} {args : Array Value} {below : List Frame} {meth : Method} {c : Code} {D : va_G} {cy : Nat → ClassId} {lo : Nat}  {S : q_S} {xs0 : Int32} {Q : Option Value → q_S → Prop} {H : Heap} {locs : List Loc} {ls : Array Slot} (X : q_X p s m args meth c RX12 cX12_isChannel 2 (some .boolean) D cy lo)  (Y : q_Y D cy lo s S H locs) (hl : lv_has ls 2 []) (h : wb_X12_isChannel_17 S xs0 Q) : W p l e ({ frames := 0, cells := 0, slots := 0, locals := 0 } : Room) s m args below meth c H locs 0 0 (MQ below (q_Q D cy lo Q) args s 0 0 (fun q => lo ≤ q)) (F0 m 17 ls [.int xs0]) := by
  have hx := X.1
  have hb := X.2.1
  unfold wb_X12_isChannel_17 at h
  exact q_iret X Y h.1 (Nat.le_refl _) (Nat.le_refl _) h.2 dX12_isChannel_17
def wb_X12_isChannel_16  (S : q_S) (Q : Option Value → q_S → Prop) : Prop := wb_X12_isChannel_17 S (0 : Int32) Q
set_option maxHeartbeats 4000000 in
set_option maxRecDepth 100000 in
theorem cb_X12_isChannel_16 {p : Program} {l : Launch} {e : Env} {s : State} {m : MethodId} {args : Array Value} {below : List Frame} {meth : Method} {c : Code} {D : va_G} {cy : Nat → ClassId} {lo : Nat}  {S : q_S} {Q : Option Value → q_S → Prop} {H : Heap} {locs : List Loc} {ls : Array Slot} (X : q_X p s m args meth c RX12 cX12_isChannel 2 (some .boolean) D cy lo)  (Y : q_Y D cy lo s S H locs) (hl : lv_has ls 2 []) (h : wb_X12_isChannel_16 S Q) : W p l e ({ frames := 0, cells := 0, slots := 0, locals := 0 } : Room) s m args below meth c H locs 0 0 (MQ below (q_Q D cy lo Q) args s 0 0 (fun q => lo ≤ q)) (F0 m 16 ls []) := by
  have hx := X.1
  have hb := X.2.1
  unfold wb_X12_isChannel_16 at h
  refine lv_iconst (v := 0) hx hb dX12_isChannel_16 (by decide) ?_
  exact cb_X12_isChannel_17 X Y (lv_sub hl [] rfl) h
def wm_X12_isChannel (S : q_S) (a0 : Nat) (x1 : Int32) (Q : Option Value → q_S → Prop) : Prop := ((x1 < 0 → (wb_X12_isChannel_16 S Q)) ∧ (¬ x1 < 0 → (q_K S a0 = 13 ∧ ((((q_I S 2416 a0) ≤ x1 → (wb_X12_isChannel_16 S Q)) ∧ (¬ (q_I S 2416 a0) ≤ x1 → (wb_X12_isChannel_17 S (1 : Int32) Q)))))))
set_option maxHeartbeats 4000000 in
set_option maxRecDepth 100000 in
theorem cm_X12_isChannel {l : Launch} {D : va_G} {cy : Nat → ClassId} {lo : Nat} {S : q_S} {a0 : Nat} {x1 : Int32} {Q : Option Value → q_S → Prop} (h : wm_X12_isChannel S a0 x1 Q) : q_Met l D cy lo yX12_isChannel cX12_isChannel 2 (some .boolean) 0 0 0 0 [.ref a0, .int x1] S Q := by
  refine q_body (by decide) (by first | exact Nat.le_of_ble_eq_true rfl | simp [lg_sl, q_cat, q_catI, q_catJ, q_catR]) ?_
  intro p e s m below meth c ls X hnm Y hl
  have hx := X.1
  have hb := X.2.1
  have hl : lv_has ls 2 [(0, .ref a0), (1, .int x1)] := by first | exact hl | simpa [lv_args, q_cat, q_catI, q_catJ, q_catR] using hl
  generalize hargs : ([.ref a0, .int x1] : List Value).toArray = args at X ⊢
  unfold wm_X12_isChannel at h
  refine lv_iload_n hx hb dX12_isChannel_0 rfl (lv_at hl 1 rfl) ?_
  refine lv_if_lt (tgt := 16) hx hb dX12_isChannel_1 (by decide) (fun c1_ => ?_) (fun c1_ => ?_)
  · replace h := h.1 c1_
    exact cb_X12_isChannel_16 X Y (lv_sub hl [] rfl) h
  · replace h := h.2 c1_
    refine lv_iload_n hx hb dX12_isChannel_4 rfl (lv_at hl 1 rfl) ?_
    refine lv_aload_n hx hb dX12_isChannel_5 rfl (lv_at hl 0 rfl) ?_
    obtain ⟨k2_, h⟩ := h
    refine q_getI X Y kX12 16 rfl fl_X12_409 k2_ dX12_isChannel_6 ?_
    refine lv_icmp_ge (tgt := 16) hx hb dX12_isChannel_9 (by decide) (fun c3_ => ?_) (fun c3_ => ?_)
    · replace h := h.1 c3_
      exact cb_X12_isChannel_16 X Y (lv_sub hl [] rfl) h
    · replace h := h.2 c3_
      refine lv_iconst (v := 1) hx hb dX12_isChannel_12 (by decide) ?_
      refine lv_goto (tgt := 17) hx hb dX12_isChannel_13 (by decide) ?_
      exact cb_X12_isChannel_17 X Y (lv_sub hl [] rfl) h
-- X12_channel
theorem ml_X12_666 : Cond.methodLink RX12 666 yX12_isChannel ∈ q_G := q_tb (i := 2521) (by decide +kernel) (by decide +kernel)
theorem mt_X12_isChannel : q_Mt yX12_isChannel cX12_isChannel 2 (some .boolean) 1 := ⟨q_tb (i := 2524) (by decide +kernel) (by decide +kernel), q_tb (i := 11) (by decide +kernel) (by decide +kernel), by decide +kernel, by decide +kernel, by decide +kernel⟩
theorem mi_X12_isChannel : Cond.instanceMethod yX12_isChannel ∈ q_G ∧ Cond.selects yX12_isChannel.cls yX12_isChannel yX12_isChannel ∈ q_G := ⟨q_tb (i := 2523) (by decide +kernel) (by decide +kernel), q_tp (i := 177) (q := (yX12_isChannel, 114)) (by decide +kernel) (by decide +kernel)⟩
theorem dX12_channel_0 : decode cX12_channel 0 = .ok (.aload_n 0, 1) := by decide +kernel
theorem dX12_channel_1 : decode cX12_channel 1 = .ok (.iconst 0, 1) := by decide +kernel
theorem dX12_channel_2 : decode cX12_channel 2 = .ok (.putfield 278, 3) := by decide +kernel
theorem dX12_channel_5 : decode cX12_channel 5 = .ok (.aload_n 0, 1) := by decide +kernel
theorem dX12_channel_6 : decode cX12_channel 6 = .ok (.iload_n 1, 1) := by decide +kernel
theorem dX12_channel_7 : decode cX12_channel 7 = .ok (.invokevirtual 666, 3) := by decide +kernel
theorem dX12_channel_10 : decode cX12_channel 10 = .ok (.ifCond .ne 5, 3) := by decide +kernel
theorem dX12_channel_13 : decode cX12_channel 13 = .ok (.iconst (-1), 1) := by decide +kernel
theorem dX12_channel_14 : decode cX12_channel 14 = .ok (.ireturn, 1) := by decide +kernel
theorem dX12_channel_15 : decode cX12_channel 15 = .ok (.iload_n 2, 1) := by decide +kernel
theorem dX12_channel_16 : decode cX12_channel 16 = .ok (.tableswitch 111 0 5 #[40, 55, 61, 68, 97, 104], 40) := by decide +kernel
theorem dX12_channel_56 : decode cX12_channel 56 = .ok (.aload_n 0, 1) := by decide +kernel
theorem dX12_channel_57 : decode cX12_channel 57 = .ok (.getfield 115, 3) := by decide +kernel
theorem dX12_channel_60 : decode cX12_channel 60 = .ok (.iload_n 1, 1) := by decide +kernel
theorem dX12_channel_61 : decode cX12_channel 61 = .ok (.baload, 1) := by decide +kernel
theorem dX12_channel_62 : decode cX12_channel 62 = .ok (.ifCond .eq 7, 3) := by decide +kernel
theorem dX12_channel_65 : decode cX12_channel 65 = .ok (.iconst 1, 1) := by decide +kernel
theorem dX12_channel_66 : decode cX12_channel 66 = .ok (.goto 4, 3) := by decide +kernel
theorem dX12_channel_69 : decode cX12_channel 69 = .ok (.iconst 0, 1) := by decide +kernel
theorem dX12_channel_70 : decode cX12_channel 70 = .ok (.ireturn, 1) := by decide +kernel
theorem dX12_channel_71 : decode cX12_channel 71 = .ok (.aload_n 0, 1) := by decide +kernel
theorem dX12_channel_72 : decode cX12_channel 72 = .ok (.iload_n 1, 1) := by decide +kernel
theorem dX12_channel_73 : decode cX12_channel 73 = .ok (.invokevirtual 651, 3) := by decide +kernel
theorem dX12_channel_76 : decode cX12_channel 76 = .ok (.ireturn, 1) := by decide +kernel
theorem dX12_channel_77 : decode cX12_channel 77 = .ok (.aload_n 0, 1) := by decide +kernel
theorem dX12_channel_78 : decode cX12_channel 78 = .ok (.getfield 118, 3) := by decide +kernel
theorem dX12_channel_81 : decode cX12_channel 81 = .ok (.iload_n 1, 1) := by decide +kernel
theorem dX12_channel_82 : decode cX12_channel 82 = .ok (.iaload, 1) := by decide +kernel
theorem dX12_channel_83 : decode cX12_channel 83 = .ok (.ireturn, 1) := by decide +kernel
theorem dX12_channel_84 : decode cX12_channel 84 = .ok (.aload_n 0, 1) := by decide +kernel
theorem dX12_channel_85 : decode cX12_channel 85 = .ok (.getfield 115, 3) := by decide +kernel
theorem dX12_channel_88 : decode cX12_channel 88 = .ok (.iload_n 1, 1) := by decide +kernel
theorem dX12_channel_89 : decode cX12_channel 89 = .ok (.baload, 1) := by decide +kernel
theorem dX12_channel_90 : decode cX12_channel 90 = .ok (.ifCond .ne 21, 3) := by decide +kernel
theorem dX12_channel_93 : decode cX12_channel 93 = .ok (.aload_n 0, 1) := by decide +kernel
theorem dX12_channel_94 : decode cX12_channel 94 = .ok (.getfield 242, 3) := by decide +kernel
theorem dX12_channel_97 : decode cX12_channel 97 = .ok (.iload_n 1, 1) := by decide +kernel
theorem dX12_channel_98 : decode cX12_channel 98 = .ok (.baload, 1) := by decide +kernel
theorem dX12_channel_99 : decode cX12_channel 99 = .ok (.ifCond .eq 12, 3) := by decide +kernel
theorem dX12_channel_102 : decode cX12_channel 102 = .ok (.aload_n 0, 1) := by decide +kernel
theorem dX12_channel_103 : decode cX12_channel 103 = .ok (.getfield 248, 3) := by decide +kernel
theorem dX12_channel_106 : decode cX12_channel 106 = .ok (.iload_n 1, 1) := by decide +kernel
theorem dX12_channel_107 : decode cX12_channel 107 = .ok (.iaload, 1) := by decide +kernel
theorem dX12_channel_108 : decode cX12_channel 108 = .ok (.goto 4, 3) := by decide +kernel
theorem dX12_channel_111 : decode cX12_channel 111 = .ok (.iconst (-1), 1) := by decide +kernel
theorem dX12_channel_112 : decode cX12_channel 112 = .ok (.ireturn, 1) := by decide +kernel
theorem dX12_channel_113 : decode cX12_channel 113 = .ok (.aload_n 0, 1) := by decide +kernel
theorem dX12_channel_114 : decode cX12_channel 114 = .ok (.getfield 257, 3) := by decide +kernel
theorem dX12_channel_117 : decode cX12_channel 117 = .ok (.iload_n 1, 1) := by decide +kernel
theorem dX12_channel_118 : decode cX12_channel 118 = .ok (.iaload, 1) := by decide +kernel
theorem dX12_channel_119 : decode cX12_channel 119 = .ok (.ireturn, 1) := by decide +kernel
theorem dX12_channel_120 : decode cX12_channel 120 = .ok (.aload_n 0, 1) := by decide +kernel
theorem dX12_channel_121 : decode cX12_channel 121 = .ok (.getfield 127, 3) := by decide +kernel
theorem dX12_channel_124 : decode cX12_channel 124 = .ok (.iload_n 1, 1) := by decide +kernel
theorem dX12_channel_125 : decode cX12_channel 125 = .ok (.iaload, 1) := by decide +kernel
theorem dX12_channel_126 : decode cX12_channel 126 = .ok (.ireturn, 1) := by decide +kernel
theorem dX12_channel_127 : decode cX12_channel 127 = .ok (.iconst (-1), 1) := by decide +kernel
theorem dX12_channel_128 : decode cX12_channel 128 = .ok (.ireturn, 1) := by decide +kernel
def wb_X12_channel_112  (S : q_S) (xs0 : Int32) (Q : Option Value → q_S → Prop) : Prop := Q (some (.int xs0)) S
set_option maxHeartbeats 4000000 in
set_option maxRecDepth 100000 in
theorem cb_X12_channel_112 {p : Program} {l : Launch} {e : Env} {s : State} {m : MethodId} {args : Array Value} {below : List Frame} {meth : Method} {c : Code} {D : va_G} {cy : Nat → ClassId} {lo : Nat}  {S : q_S} {xs0 : Int32} {Q : Option Value → q_S → Prop} {H : Heap} {locs : List Loc} {ls : Array Slot} (X : q_X p s m args meth c RX12 cX12_channel 3 (some .int) D cy lo)  (Y : q_Y D cy lo s S H locs) (hl : lv_has ls 3 []) (h : wb_X12_channel_112 S xs0 Q) : W p l e ({ frames := 1, cells := 0, slots := 0, locals := 21 } : Room) s m args below meth c H locs 0 0 (MQ below (q_Q D cy lo Q) args s 0 0 (fun q => lo ≤ q)) (F0 m 112 ls [.int xs0]) := by
  have hx := X.1
  have hb := X.2.1
  unfold wb_X12_channel_112 at h
  exact q_iret X Y rfl (Nat.le_refl _) (Nat.le_refl _) h dX12_channel_112
def wb_X12_channel_111  (S : q_S) (Q : Option Value → q_S → Prop) : Prop := wb_X12_channel_112 S (-1 : Int32) Q
set_option maxHeartbeats 4000000 in
set_option maxRecDepth 100000 in
theorem cb_X12_channel_111 {p : Program} {l : Launch} {e : Env} {s : State} {m : MethodId} {args : Array Value} {below : List Frame} {meth : Method} {c : Code} {D : va_G} {cy : Nat → ClassId} {lo : Nat}  {S : q_S} {Q : Option Value → q_S → Prop} {H : Heap} {locs : List Loc} {ls : Array Slot} (X : q_X p s m args meth c RX12 cX12_channel 3 (some .int) D cy lo)  (Y : q_Y D cy lo s S H locs) (hl : lv_has ls 3 []) (h : wb_X12_channel_111 S Q) : W p l e ({ frames := 1, cells := 0, slots := 0, locals := 21 } : Room) s m args below meth c H locs 0 0 (MQ below (q_Q D cy lo Q) args s 0 0 (fun q => lo ≤ q)) (F0 m 111 ls []) := by
  have hx := X.1
  have hb := X.2.1
  unfold wb_X12_channel_111 at h
  refine lv_iconst (v := (-1)) hx hb dX12_channel_111 (by decide) ?_
  exact cb_X12_channel_112 X Y (lv_sub hl [] rfl) h
def wb_X12_channel_70  (S : q_S) (xs0 : Int32) (Q : Option Value → q_S → Prop) : Prop := Q (some (.int xs0)) S
set_option maxHeartbeats 4000000 in
set_option maxRecDepth 100000 in
theorem cb_X12_channel_70 {p : Program} {l : Launch} {e : Env} {s : State} {m : MethodId} {args : Array Value} {below : List Frame} {meth : Method} {c : Code} {D : va_G} {cy : Nat → ClassId} {lo : Nat}  {S : q_S} {xs0 : Int32} {Q : Option Value → q_S → Prop} {H : Heap} {locs : List Loc} {ls : Array Slot} (X : q_X p s m args meth c RX12 cX12_channel 3 (some .int) D cy lo)  (Y : q_Y D cy lo s S H locs) (hl : lv_has ls 3 []) (h : wb_X12_channel_70 S xs0 Q) : W p l e ({ frames := 1, cells := 0, slots := 0, locals := 21 } : Room) s m args below meth c H locs 0 0 (MQ below (q_Q D cy lo Q) args s 0 0 (fun q => lo ≤ q)) (F0 m 70 ls [.int xs0]) := by
  have hx := X.1
  have hb := X.2.1
  unfold wb_X12_channel_70 at h
  exact q_iret X Y rfl (Nat.le_refl _) (Nat.le_refl _) h dX12_channel_70
def wm_X12_channel (S : q_S) (a0 : Nat) (x1 : Int32) (x2 : Int32) (Q : Option Value → q_S → Prop) : Prop := q_K S a0 = 13 ∧ (wm_X12_isChannel (qs_I S 2400 a0 (0 : Int32)) a0 x1 (fun r2_ S3_ => ∃ x4_ : Int32, r2_ = some (.int x4_) ∧ (((¬ x4_ = 0 → ((((x2.toInt < 0 ∨ 5 < x2.toInt) → (Q (some (.int (-1 : Int32))) S3_)) ∧ ((x2 = (0 : Int32)) → (q_K S3_ a0 = 13 ∧ (∃ a7_ : Nat, (q_P S3_ 2454 a0) = some a7_ ∧ (q_K S3_ a7_ = 22 ∧ (vp_in x1 (q_N S3_ a7_) ∧ ((((q_A S3_ a7_ x1.toNatClampNeg) = 0 → (wb_X12_channel_70 S3_ (0 : Int32) Q)) ∧ (¬ (q_A S3_ a7_ x1.toNatClampNeg) = 0 → (wb_X12_channel_70 S3_ (1 : Int32) Q))))))))) ∧ ((x2 = (1 : Int32)) → (q_K S3_ a0 = 13 ∧ (wm_X12_wordsOf S3_ a0 x1 (fun r13_ S14_ => ∃ x15_ : Int32, r13_ = some (.int x15_) ∧ (Q (some (.int x15_)) S14_))))) ∧ ((x2 = (2 : Int32)) → (q_K S3_ a0 = 13 ∧ (∃ a17_ : Nat, (q_P S3_ 2455 a0) = some a17_ ∧ (q_K S3_ a17_ = 21 ∧ (vp_in x1 (q_N S3_ a17_) ∧ (Q (some (.int (q_A S3_ a17_ x1.toNatClampNeg))) S3_)))))) ∧ ((x2 = (3 : Int32)) → (q_K S3_ a0 = 13 ∧ (∃ a22_ : Nat, (q_P S3_ 2454 a0) = some a22_ ∧ (q_K S3_ a22_ = 22 ∧ (vp_in x1 (q_N S3_ a22_) ∧ (((¬ (q_A S3_ a22_ x1.toNatClampNeg) = 0 → (wb_X12_channel_111 S3_ Q)) ∧ ((q_A S3_ a22_ x1.toNatClampNeg) = 0 → (∃ a27_ : Nat, (q_P S3_ 2498 a0) = some a27_ ∧ (q_K S3_ a27_ = 22 ∧ (vp_in x1 (q_N S3_ a27_) ∧ ((((q_A S3_ a27_ x1.toNatClampNeg) = 0 → (wb_X12_channel_111 S3_ Q)) ∧ (¬ (q_A S3_ a27_ x1.toNatClampNeg) = 0 → (∃ a32_ : Nat, (q_P S3_ 2500 a0) = some a32_ ∧ (q_K S3_ a32_ = 21 ∧ (vp_in x1 (q_N S3_ a32_) ∧ (wb_X12_channel_112 S3_ (q_A S3_ a32_ x1.toNatClampNeg) Q)))))))))))))))))) ∧ ((x2 = (4 : Int32)) → (q_K S3_ a0 = 13 ∧ (∃ a37_ : Nat, (q_P S3_ 2503 a0) = some a37_ ∧ (q_K S3_ a37_ = 21 ∧ (vp_in x1 (q_N S3_ a37_) ∧ (Q (some (.int (q_A S3_ a37_ x1.toNatClampNeg))) S3_)))))) ∧ ((x2 = (5 : Int32)) → (q_K S3_ a0 = 13 ∧ (∃ a42_ : Nat, (q_P S3_ 2458 a0) = some a42_ ∧ (q_K S3_ a42_ = 21 ∧ (vp_in x1 (q_N S3_ a42_) ∧ (Q (some (.int (q_A S3_ a42_ x1.toNatClampNeg))) S3_))))))))) ∧ (x4_ = 0 → (Q (some (.int (-1 : Int32))) S3_))))))
set_option maxHeartbeats 4000000 in
set_option maxRecDepth 100000 in
theorem cm_X12_channel {l : Launch} {D : va_G} {cy : Nat → ClassId} {lo : Nat} {S : q_S} {a0 : Nat} {x1 : Int32} {x2 : Int32} {Q : Option Value → q_S → Prop} (h : wm_X12_channel S a0 x1 x2 Q) : q_Met l D cy lo yX12_channel cX12_channel 3 (some .int) 1 21 0 0 [.ref a0, .int x1, .int x2] S Q := by
  refine q_body (by decide) (by first | exact Nat.le_of_ble_eq_true rfl | simp [lg_sl, q_cat, q_catI, q_catJ, q_catR]) ?_
  intro p e s m below meth c ls X hnm Y hl
  have hx := X.1
  have hb := X.2.1
  have hl : lv_has ls 3 [(0, .ref a0), (1, .int x1), (2, .int x2)] := by first | exact hl | simpa [lv_args, q_cat, q_catI, q_catJ, q_catR] using hl
  generalize hargs : ([.ref a0, .int x1, .int x2] : List Value).toArray = args at X ⊢
  unfold wm_X12_channel at h
  refine lv_aload_n hx hb dX12_channel_0 rfl (lv_at hl 0 rfl) ?_
  refine lv_iconst (v := 0) hx hb dX12_channel_1 (by decide) ?_
  obtain ⟨k1_, h⟩ := h
  refine q_putI X Y kX12 0 rfl fl_X12_278 k1_ .int rfl ⟨rfl, rfl⟩ rfl dX12_channel_2 (fun H locs Y => ?_)
  refine lv_aload_n hx hb dX12_channel_5 rfl (lv_at hl 0 rfl) ?_
  refine lv_iload_n hx hb dX12_channel_6 rfl (lv_at hl 1 rfl) ?_
  refine q_callV X Y hl (cm_X12_isChannel h) mt_X12_isChannel mi_X12_isChannel ml_X12_666 (ci := 12) rfl k1_ (by decide) rfl rfl (by first | exact Nat.le_of_ble_eq_true rfl | simp [q_cat, q_catI, q_catJ, q_catR]) ⟨Nat.le_of_ble_eq_true rfl, Nat.le_of_ble_eq_true rfl⟩ ⟨Nat.le_of_ble_eq_true rfl, Nat.le_of_ble_eq_true rfl⟩ dX12_channel_7 (fun r2_ S3_ H locs hp Y => ?_)
  obtain ⟨x4_, rfl, h⟩ := hp
  refine W.eq (g2 := F0 m 10 ls [.int x4_]) rfl ?_
  refine lv_if_ne (tgt := 15) hx hb dX12_channel_10 (by decide) (fun c5_ => ?_) (fun c5_ => ?_)
  · replace h := h.1 c5_
    refine lv_iload_n hx hb dX12_channel_15 rfl (lv_at hl 2 rfl) ?_
    refine q_tsw (tgt := 127) hx hb dX12_channel_16 (by decide) (by decide) (fun c46_ => ?_) (fun j47_ hj_ c46_ => ?_)
    · replace h := h.1 c46_
      refine lv_iconst (v := (-1)) hx hb dX12_channel_127 (by decide) ?_
      exact q_iret X Y rfl (Nat.le_refl _) (Nat.le_refl _) h dX12_channel_128
    · match j47_, hj_, c46_ with
      | 0, _, c46_ =>
        refine ⟨40, 56, rfl, by decide, ?_⟩
        replace h := h.2.1 (q_eqI c46_ (by decide))
        refine lv_aload_n hx hb dX12_channel_56 rfl (lv_at hl 0 rfl) ?_
        obtain ⟨k6_, h⟩ := h
        refine q_getP X Y kX12 54 rfl fl_X12_115 k6_ rfl dX12_channel_57 ?_
        refine lv_iload_n hx hb dX12_channel_60 rfl (lv_at hl 1 rfl) ?_
        obtain ⟨a7_, e8_, h⟩ := h
        refine q_nn [.int x1] e8_ ?_
        obtain ⟨k9_, h⟩ := h
        obtain ⟨i10_, h⟩ := h
        refine q_zld X Y k9_ i10_ dX12_channel_61 ?_
        refine lv_if_eq (tgt := 69) hx hb dX12_channel_62 (by decide) (fun c11_ => ?_) (fun c11_ => ?_)
        · replace h := h.1 c11_
          refine lv_iconst (v := 0) hx hb dX12_channel_69 (by decide) ?_
          exact cb_X12_channel_70 X Y (lv_sub hl [] rfl) h
        · replace h := h.2 c11_
          refine lv_iconst (v := 1) hx hb dX12_channel_65 (by decide) ?_
          refine lv_goto (tgt := 70) hx hb dX12_channel_66 (by decide) ?_
          exact cb_X12_channel_70 X Y (lv_sub hl [] rfl) h
      | 1, _, c46_ =>
        refine ⟨55, 71, rfl, by decide, ?_⟩
        replace h := h.2.2.1 (q_eqI c46_ (by decide))
        refine lv_aload_n hx hb dX12_channel_71 rfl (lv_at hl 0 rfl) ?_
        refine lv_iload_n hx hb dX12_channel_72 rfl (lv_at hl 1 rfl) ?_
        obtain ⟨k12_, h⟩ := h
        refine q_callV X Y hl (cm_X12_wordsOf h) mt_X12_wordsOf mi_X12_wordsOf ml_X12_651 (ci := 12) rfl k12_ (by decide) rfl rfl (by first | exact Nat.le_of_ble_eq_true rfl | simp [q_cat, q_catI, q_catJ, q_catR]) ⟨Nat.le_of_ble_eq_true rfl, Nat.le_of_ble_eq_true rfl⟩ ⟨Nat.le_of_ble_eq_true rfl, Nat.le_of_ble_eq_true rfl⟩ dX12_channel_73 (fun r13_ S14_ H locs hp Y => ?_)
        obtain ⟨x15_, rfl, h⟩ := hp
        refine W.eq (g2 := F0 m 76 ls [.int x15_]) rfl ?_
        exact q_iret X Y rfl (Nat.le_refl _) (Nat.le_refl _) h dX12_channel_76
      | 2, _, c46_ =>
        refine ⟨61, 77, rfl, by decide, ?_⟩
        replace h := h.2.2.2.1 (q_eqI c46_ (by decide))
        refine lv_aload_n hx hb dX12_channel_77 rfl (lv_at hl 0 rfl) ?_
        obtain ⟨k16_, h⟩ := h
        refine q_getP X Y kX12 55 rfl fl_X12_118 k16_ rfl dX12_channel_78 ?_
        refine lv_iload_n hx hb dX12_channel_81 rfl (lv_at hl 1 rfl) ?_
        obtain ⟨a17_, e18_, h⟩ := h
        refine q_nn [.int x1] e18_ ?_
        obtain ⟨k19_, h⟩ := h
        obtain ⟨i20_, h⟩ := h
        refine q_ild X Y k19_ i20_ dX12_channel_82 ?_
        exact q_iret X Y rfl (Nat.le_refl _) (Nat.le_refl _) h dX12_channel_83
      | 3, _, c46_ =>
        refine ⟨68, 84, rfl, by decide, ?_⟩
        replace h := h.2.2.2.2.1 (q_eqI c46_ (by decide))
        refine lv_aload_n hx hb dX12_channel_84 rfl (lv_at hl 0 rfl) ?_
        obtain ⟨k21_, h⟩ := h
        refine q_getP X Y kX12 54 rfl fl_X12_115 k21_ rfl dX12_channel_85 ?_
        refine lv_iload_n hx hb dX12_channel_88 rfl (lv_at hl 1 rfl) ?_
        obtain ⟨a22_, e23_, h⟩ := h
        refine q_nn [.int x1] e23_ ?_
        obtain ⟨k24_, h⟩ := h
        obtain ⟨i25_, h⟩ := h
        refine q_zld X Y k24_ i25_ dX12_channel_89 ?_
        refine lv_if_ne (tgt := 111) hx hb dX12_channel_90 (by decide) (fun c26_ => ?_) (fun c26_ => ?_)
        · replace h := h.1 c26_
          exact cb_X12_channel_111 X Y (lv_sub hl [] rfl) h
        · replace h := h.2 c26_
          refine lv_aload_n hx hb dX12_channel_93 rfl (lv_at hl 0 rfl) ?_
          refine q_getP X Y kX12 98 rfl fl_X12_242 k21_ rfl dX12_channel_94 ?_
          refine lv_iload_n hx hb dX12_channel_97 rfl (lv_at hl 1 rfl) ?_
          obtain ⟨a27_, e28_, h⟩ := h
          refine q_nn [.int x1] e28_ ?_
          obtain ⟨k29_, h⟩ := h
          obtain ⟨i30_, h⟩ := h
          refine q_zld X Y k29_ i30_ dX12_channel_98 ?_
          refine lv_if_eq (tgt := 111) hx hb dX12_channel_99 (by decide) (fun c31_ => ?_) (fun c31_ => ?_)
          · replace h := h.1 c31_
            exact cb_X12_channel_111 X Y (lv_sub hl [] rfl) h
          · replace h := h.2 c31_
            refine lv_aload_n hx hb dX12_channel_102 rfl (lv_at hl 0 rfl) ?_
            refine q_getP X Y kX12 100 rfl fl_X12_248 k21_ rfl dX12_channel_103 ?_
            refine lv_iload_n hx hb dX12_channel_106 rfl (lv_at hl 1 rfl) ?_
            obtain ⟨a32_, e33_, h⟩ := h
            refine q_nn [.int x1] e33_ ?_
            obtain ⟨k34_, h⟩ := h
            obtain ⟨i35_, h⟩ := h
            refine q_ild X Y k34_ i35_ dX12_channel_107 ?_
            refine lv_goto (tgt := 112) hx hb dX12_channel_108 (by decide) ?_
            exact cb_X12_channel_112 X Y (lv_sub hl [] rfl) h
      | 4, _, c46_ =>
        refine ⟨97, 113, rfl, by decide, ?_⟩
        replace h := h.2.2.2.2.2.1 (q_eqI c46_ (by decide))
        refine lv_aload_n hx hb dX12_channel_113 rfl (lv_at hl 0 rfl) ?_
        obtain ⟨k36_, h⟩ := h
        refine q_getP X Y kX12 103 rfl fl_X12_257 k36_ rfl dX12_channel_114 ?_
        refine lv_iload_n hx hb dX12_channel_117 rfl (lv_at hl 1 rfl) ?_
        obtain ⟨a37_, e38_, h⟩ := h
        refine q_nn [.int x1] e38_ ?_
        obtain ⟨k39_, h⟩ := h
        obtain ⟨i40_, h⟩ := h
        refine q_ild X Y k39_ i40_ dX12_channel_118 ?_
        exact q_iret X Y rfl (Nat.le_refl _) (Nat.le_refl _) h dX12_channel_119
      | 5, _, c46_ =>
        refine ⟨104, 120, rfl, by decide, ?_⟩
        replace h := h.2.2.2.2.2.2 (q_eqI c46_ (by decide))
        refine lv_aload_n hx hb dX12_channel_120 rfl (lv_at hl 0 rfl) ?_
        obtain ⟨k41_, h⟩ := h
        refine q_getP X Y kX12 58 rfl fl_X12_127 k41_ rfl dX12_channel_121 ?_
        refine lv_iload_n hx hb dX12_channel_124 rfl (lv_at hl 1 rfl) ?_
        obtain ⟨a42_, e43_, h⟩ := h
        refine q_nn [.int x1] e43_ ?_
        obtain ⟨k44_, h⟩ := h
        obtain ⟨i45_, h⟩ := h
        refine q_ild X Y k44_ i45_ dX12_channel_125 ?_
        exact q_iret X Y rfl (Nat.le_refl _) (Nat.le_refl _) h dX12_channel_126
      | z_ + 6, hj_, _ => exact absurd hj_ (by simp)
  · replace h := h.2 c5_
    refine lv_iconst (v := (-1)) hx hb dX12_channel_13 (by decide) ?_
    exact q_iret X Y rfl (Nat.le_refl _) (Nat.le_refl _) h dX12_channel_14
