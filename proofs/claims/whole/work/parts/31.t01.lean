-- X9_readThings
theorem ml_X9_199 : Cond.methodLink RX9 199 yX9_readProcess ∈ q_G := q_tb (i := 811) (by decide +kernel) (by decide +kernel)
theorem mt_X9_readProcess : q_Mt yX9_readProcess cX9_readProcess 3 none 1 := ⟨q_tb (i := 814) (by decide +kernel) (by decide +kernel), q_tb (i := 2) (by decide +kernel) (by decide +kernel), by decide +kernel, by decide +kernel, by decide +kernel⟩
theorem mi_X9_readProcess : Cond.instanceMethod yX9_readProcess ∈ q_G ∧ Cond.selects yX9_readProcess.cls yX9_readProcess yX9_readProcess ∈ q_G := ⟨q_tb (i := 813) (by decide +kernel) (by decide +kernel), q_tp (i := 17) (q := (yX9_readProcess, 14)) (by decide +kernel) (by decide +kernel)⟩
theorem ml_X9_202 : Cond.methodLink RX9 202 yX9_readSemaphore ∈ q_G := q_tb (i := 960) (by decide +kernel) (by decide +kernel)
theorem mt_X9_readSemaphore : q_Mt yX9_readSemaphore cX9_readSemaphore 3 none 1 := ⟨q_tb (i := 963) (by decide +kernel) (by decide +kernel), q_tb (i := 2) (by decide +kernel) (by decide +kernel), by decide +kernel, by decide +kernel, by decide +kernel⟩
theorem mi_X9_readSemaphore : Cond.instanceMethod yX9_readSemaphore ∈ q_G ∧ Cond.selects yX9_readSemaphore.cls yX9_readSemaphore yX9_readSemaphore ∈ q_G := ⟨q_tb (i := 962) (by decide +kernel) (by decide +kernel), q_tp (i := 20) (q := (yX9_readSemaphore, 14)) (by decide +kernel) (by decide +kernel)⟩
theorem ml_X9_209 : Cond.methodLink RX9 209 yX9_readBuffer ∈ q_G := q_tb (i := 1054) (by decide +kernel) (by decide +kernel)
theorem mt_X9_readBuffer : q_Mt yX9_readBuffer cX9_readBuffer 4 none 1 := ⟨q_tb (i := 1057) (by decide +kernel) (by decide +kernel), q_tb (i := 2) (by decide +kernel) (by decide +kernel), by decide +kernel, by decide +kernel, by decide +kernel⟩
theorem mi_X9_readBuffer : Cond.instanceMethod yX9_readBuffer ∈ q_G ∧ Cond.selects yX9_readBuffer.cls yX9_readBuffer yX9_readBuffer ∈ q_G := ⟨q_tb (i := 1056) (by decide +kernel) (by decide +kernel), q_tp (i := 22) (q := (yX9_readBuffer, 14)) (by decide +kernel) (by decide +kernel)⟩
theorem ml_X9_212 : Cond.methodLink RX9 212 yX9_readPort ∈ q_G := q_tb (i := 1067) (by decide +kernel) (by decide +kernel)
theorem mt_X9_readPort : q_Mt yX9_readPort cX9_readPort 3 none 1 := ⟨q_tb (i := 1070) (by decide +kernel) (by decide +kernel), q_tb (i := 2) (by decide +kernel) (by decide +kernel), by decide +kernel, by decide +kernel, by decide +kernel⟩
theorem mi_X9_readPort : Cond.instanceMethod yX9_readPort ∈ q_G ∧ Cond.selects yX9_readPort.cls yX9_readPort yX9_readPort ∈ q_G := ⟨q_tb (i := 1069) (by decide +kernel) (by decide +kernel), q_tp (i := 23) (q := (yX9_readPort, 14)) (by decide +kernel) (by decide +kernel)⟩
theorem ml_X9_215 : Cond.methodLink RX9 215 yX9_readErrors ∈ q_G := q_tb (i := 1075) (by decide +kernel) (by decide +kernel)
theorem mt_X9_readErrors : q_Mt yX9_readErrors cX9_readErrors 5 none 1 := ⟨q_tb (i := 1078) (by decide +kernel) (by decide +kernel), q_tb (i := 2) (by decide +kernel) (by decide +kernel), by decide +kernel, by decide +kernel, by decide +kernel⟩
theorem mi_X9_readErrors : Cond.instanceMethod yX9_readErrors ∈ q_G ∧ Cond.selects yX9_readErrors.cls yX9_readErrors yX9_readErrors ∈ q_G := ⟨q_tb (i := 1077) (by decide +kernel) (by decide +kernel), q_tp (i := 25) (q := (yX9_readErrors, 14)) (by decide +kernel) (by decide +kernel)⟩
theorem dX9_readThings_0 : decode cX9_readThings 0 = .ok (.aload_n 0, 1) := by decide +kernel
theorem dX9_readThings_1 : decode cX9_readThings 1 = .ok (.iconst 0, 1) := by decide +kernel
theorem dX9_readThings_2 : decode cX9_readThings 2 = .ok (.putfield 193, 3) := by decide +kernel
theorem dX9_readThings_5 : decode cX9_readThings 5 = .ok (.aload_n 0, 1) := by decide +kernel
theorem dX9_readThings_6 : decode cX9_readThings 6 = .ok (.iconst (-1), 1) := by decide +kernel
theorem dX9_readThings_7 : decode cX9_readThings 7 = .ok (.putfield 196, 3) := by decide +kernel
theorem dX9_readThings_10 : decode cX9_readThings 10 = .ok (.iconst 0, 1) := by decide +kernel
theorem dX9_readThings_11 : decode cX9_readThings 11 = .ok (.istore_n 2, 1) := by decide +kernel
theorem dX9_readThings_12 : decode cX9_readThings 12 = .ok (.iload_n 2, 1) := by decide +kernel
theorem dX9_readThings_13 : decode cX9_readThings 13 = .ok (.sipush 4000, 3) := by decide +kernel
theorem dX9_readThings_16 : decode cX9_readThings 16 = .ok (.if_icmp .gt 199, 3) := by decide +kernel
theorem dX9_readThings_19 : decode cX9_readThings 19 = .ok (.aload_n 0, 1) := by decide +kernel
theorem dX9_readThings_20 : decode cX9_readThings 20 = .ok (.bipush 125, 2) := by decide +kernel
theorem dX9_readThings_22 : decode cX9_readThings 22 = .ok (.invokevirtual 141, 3) := by decide +kernel
theorem dX9_readThings_25 : decode cX9_readThings 25 = .ok (.ifCond .ne 190, 3) := by decide +kernel
theorem dX9_readThings_28 : decode cX9_readThings 28 = .ok (.aload_n 0, 1) := by decide +kernel
theorem dX9_readThings_29 : decode cX9_readThings 29 = .ok (.getfield 119, 3) := by decide +kernel
theorem dX9_readThings_32 : decode cX9_readThings 32 = .ok (.iconst 5, 1) := by decide +kernel
theorem dX9_readThings_33 : decode cX9_readThings 33 = .ok (.if_icmp .ne 10, 3) := by decide +kernel
theorem dX9_readThings_36 : decode cX9_readThings 36 = .ok (.aload_n 0, 1) := by decide +kernel
theorem dX9_readThings_37 : decode cX9_readThings 37 = .ok (.getfield 116, 3) := by decide +kernel
theorem dX9_readThings_40 : decode cX9_readThings 40 = .ok (.goto 4, 3) := by decide +kernel
theorem dX9_readThings_43 : decode cX9_readThings 43 = .ok (.iconst (-1), 1) := by decide +kernel
theorem dX9_readThings_44 : decode cX9_readThings 44 = .ok (.tableswitch 156 7 23 #[84, 156, 156, 156, 156, 156, 156, 156, 92, 100, 116, 156, 124, 140, 156, 156, 148], 84) := by decide +kernel
theorem dX9_readThings_128 : decode cX9_readThings 128 = .ok (.aload_n 0, 1) := by decide +kernel
theorem dX9_readThings_129 : decode cX9_readThings 129 = .ok (.aload_n 1, 1) := by decide +kernel
theorem dX9_readThings_130 : decode cX9_readThings 130 = .ok (.invokevirtual 199, 3) := by decide +kernel
theorem dX9_readThings_133 : decode cX9_readThings 133 = .ok (.goto 76, 3) := by decide +kernel
theorem dX9_readThings_136 : decode cX9_readThings 136 = .ok (.aload_n 0, 1) := by decide +kernel
theorem dX9_readThings_137 : decode cX9_readThings 137 = .ok (.aload_n 1, 1) := by decide +kernel
theorem dX9_readThings_138 : decode cX9_readThings 138 = .ok (.invokevirtual 202, 3) := by decide +kernel
theorem dX9_readThings_141 : decode cX9_readThings 141 = .ok (.goto 68, 3) := by decide +kernel
theorem dX9_readThings_144 : decode cX9_readThings 144 = .ok (.aload_n 0, 1) := by decide +kernel
theorem dX9_readThings_145 : decode cX9_readThings 145 = .ok (.aload_n 1, 1) := by decide +kernel
theorem dX9_readThings_146 : decode cX9_readThings 146 = .ok (.iconst 1, 1) := by decide +kernel
theorem dX9_readThings_147 : decode cX9_readThings 147 = .ok (.invokevirtual 205, 3) := by decide +kernel
theorem dX9_readThings_150 : decode cX9_readThings 150 = .ok (.pop, 1) := by decide +kernel
theorem dX9_readThings_151 : decode cX9_readThings 151 = .ok (.aload_n 0, 1) := by decide +kernel
theorem dX9_readThings_152 : decode cX9_readThings 152 = .ok (.bipush 59, 2) := by decide +kernel
theorem dX9_readThings_154 : decode cX9_readThings 154 = .ok (.invokevirtual 160, 3) := by decide +kernel
theorem dX9_readThings_157 : decode cX9_readThings 157 = .ok (.goto 52, 3) := by decide +kernel
theorem dX9_readThings_160 : decode cX9_readThings 160 = .ok (.aload_n 0, 1) := by decide +kernel
theorem dX9_readThings_161 : decode cX9_readThings 161 = .ok (.aload_n 1, 1) := by decide +kernel
theorem dX9_readThings_162 : decode cX9_readThings 162 = .ok (.invokevirtual 209, 3) := by decide +kernel
theorem dX9_readThings_165 : decode cX9_readThings 165 = .ok (.goto 44, 3) := by decide +kernel
theorem dX9_readThings_168 : decode cX9_readThings 168 = .ok (.aload_n 0, 1) := by decide +kernel
theorem dX9_readThings_169 : decode cX9_readThings 169 = .ok (.aload_n 1, 1) := by decide +kernel
theorem dX9_readThings_170 : decode cX9_readThings 170 = .ok (.iconst 3, 1) := by decide +kernel
theorem dX9_readThings_171 : decode cX9_readThings 171 = .ok (.invokevirtual 205, 3) := by decide +kernel
theorem dX9_readThings_174 : decode cX9_readThings 174 = .ok (.pop, 1) := by decide +kernel
theorem dX9_readThings_175 : decode cX9_readThings 175 = .ok (.aload_n 0, 1) := by decide +kernel
theorem dX9_readThings_176 : decode cX9_readThings 176 = .ok (.bipush 59, 2) := by decide +kernel
theorem dX9_readThings_178 : decode cX9_readThings 178 = .ok (.invokevirtual 160, 3) := by decide +kernel
theorem dX9_readThings_181 : decode cX9_readThings 181 = .ok (.goto 28, 3) := by decide +kernel
theorem dX9_readThings_184 : decode cX9_readThings 184 = .ok (.aload_n 0, 1) := by decide +kernel
theorem dX9_readThings_185 : decode cX9_readThings 185 = .ok (.aload_n 1, 1) := by decide +kernel
theorem dX9_readThings_186 : decode cX9_readThings 186 = .ok (.invokevirtual 212, 3) := by decide +kernel
theorem dX9_readThings_189 : decode cX9_readThings 189 = .ok (.goto 20, 3) := by decide +kernel
theorem dX9_readThings_192 : decode cX9_readThings 192 = .ok (.aload_n 0, 1) := by decide +kernel
theorem dX9_readThings_193 : decode cX9_readThings 193 = .ok (.aload_n 1, 1) := by decide +kernel
theorem dX9_readThings_194 : decode cX9_readThings 194 = .ok (.invokevirtual 215, 3) := by decide +kernel
theorem dX9_readThings_197 : decode cX9_readThings 197 = .ok (.goto 12, 3) := by decide +kernel
theorem dX9_readThings_200 : decode cX9_readThings 200 = .ok (.aload_n 0, 1) := by decide +kernel
theorem dX9_readThings_201 : decode cX9_readThings 201 = .ok (.iconst 1, 1) := by decide +kernel
theorem dX9_readThings_202 : decode cX9_readThings 202 = .ok (.aload_n 0, 1) := by decide +kernel
theorem dX9_readThings_203 : decode cX9_readThings 203 = .ok (.getfield 113, 3) := by decide +kernel
theorem dX9_readThings_206 : decode cX9_readThings 206 = .ok (.invokevirtual 133, 3) := by decide +kernel
theorem dX9_readThings_209 : decode cX9_readThings 209 = .ok (.iinc 2 1, 3) := by decide +kernel
theorem dX9_readThings_212 : decode cX9_readThings 212 = .ok (.goto (-200), 3) := by decide +kernel
theorem dX9_readThings_215 : decode cX9_readThings 215 = .ok (.aload_n 0, 1) := by decide +kernel
theorem dX9_readThings_216 : decode cX9_readThings 216 = .ok (.getfield 196, 3) := by decide +kernel
theorem dX9_readThings_219 : decode cX9_readThings 219 = .ok (.iconst (-1), 1) := by decide +kernel
theorem dX9_readThings_220 : decode cX9_readThings 220 = .ok (.if_icmp .eq 21, 3) := by decide +kernel
theorem dX9_readThings_223 : decode cX9_readThings 223 = .ok (.aload_n 1, 1) := by decide +kernel
theorem dX9_readThings_224 : decode cX9_readThings 224 = .ok (.getfield 218, 3) := by decide +kernel
theorem dX9_readThings_227 : decode cX9_readThings 227 = .ok (.iconst (-1), 1) := by decide +kernel
theorem dX9_readThings_228 : decode cX9_readThings 228 = .ok (.if_icmp .ne 13, 3) := by decide +kernel
theorem dX9_readThings_231 : decode cX9_readThings 231 = .ok (.aload_n 0, 1) := by decide +kernel
theorem dX9_readThings_232 : decode cX9_readThings 232 = .ok (.bipush 7, 2) := by decide +kernel
theorem dX9_readThings_234 : decode cX9_readThings 234 = .ok (.aload_n 0, 1) := by decide +kernel
theorem dX9_readThings_235 : decode cX9_readThings 235 = .ok (.getfield 196, 3) := by decide +kernel
theorem dX9_readThings_238 : decode cX9_readThings 238 = .ok (.invokevirtual 133, 3) := by decide +kernel
theorem dX9_readThings_241 : decode cX9_readThings 241 = .ok (.aload_n 0, 1) := by decide +kernel
theorem dX9_readThings_242 : decode cX9_readThings 242 = .ok (.invokevirtual 78, 3) := by decide +kernel
theorem dX9_readThings_245 : decode cX9_readThings 245 = .ok (.return_, 1) := by decide +kernel
def wb_X9_readThings_209 (bc bs : Nat) (B12 : Nat → Nat → q_S → Nat → Option Nat → Int32 → Prop) (u v : Nat) (S : q_S) (a0 : Nat) (r1 : Option Nat) (x2 : Int32) (Q : Option Value → q_S → Prop) (E : String → q_S → Prop) : Prop := B12 u v S a0 r1 (x2 + 1)
set_option maxHeartbeats 4000000 in
set_option maxRecDepth 100000 in
theorem cb_X9_readThings_209 {p : Program} {l : Launch} {e : Env} {s : State} {m : MethodId} {args : Array Value} {below : List Frame} {meth : Method} {c : Code} {D : va_G} {cy : Nat → ClassId} {lo : Nat} {bc bs : Nat} {B12 : Nat → Nat → q_S → Nat → Option Nat → Int32 → Prop} {u v : Nat} {S : q_S} {a0 : Nat} {r1 : Option Nat} {x2 : Int32} {Q : Option Value → q_S → Prop} {E : String → q_S → Prop} {H : Heap} {locs : List Loc} {ls : Array Slot} (X : q_X p s m args meth c RX9 cX9_readThings 3 none D cy lo) (hex : ∀ x ∈ c.exceptionTable.toList, False) (hst : l.stackTraces = false) (hB12 : ∀ (u v : Nat) (S : q_S) (a0 : Nat) (r1 : Option Nat) (x2 : Int32) (H : Heap) (locs : List Loc) (ls : Array Slot), B12 u v S a0 r1 x2 → (u ≤ bc ∧ v ≤ bs) → q_Y D cy lo s S H locs → lv_has ls 3 [(0, .ref a0), (1, va_rf r1), (2, .int x2)] → W p l e ({ frames := 10, cells := bc, slots := bs, locals := 186 } : Room) s m args below meth c H locs u v (vx_MQ below (q_Q D cy lo Q) (q_XE D cy lo E) args s bc bs (fun q => lo ≤ q)) (F0 m 12 ls [])) (hu : u ≤ bc ∧ v ≤ bs) (Y : q_Y D cy lo s S H locs) (hl : lv_has ls 3 [(0, .ref a0), (1, va_rf r1), (2, .int x2)]) (h : wb_X9_readThings_209 bc bs B12 u v S a0 r1 x2 Q E) : W p l e ({ frames := 10, cells := bc, slots := bs, locals := 186 } : Room) s m args below meth c H locs u v (vx_MQ below (q_Q D cy lo Q) (q_XE D cy lo E) args s bc bs (fun q => lo ≤ q)) (F0 m 209 ls []) := by
  have hx := X.1
  have hb := X.2.1
  unfold wb_X9_readThings_209 at h
  refine lv_iinc (v := (x2 + 1)) (lv' := [(2, .int (x2 + 1)), (0, .ref a0), (1, va_rf r1)]) hx hb dX9_readThings_209 hl (k := 2) rfl (by first | rfl | decide) (by decide) (by first | rfl | simp [q_cat, q_catI, q_catJ, q_catR]) (fun ls hl => ?_)
  refine lv_goto (tgt := 12) hx hb dX9_readThings_212 (by decide) ?_
  exact hB12 _ _ _ _ _ _ _ _ _ h hu Y (lv_sub hl [1, 2, 0] rfl)
def wb_X9_readThings_44 (bc bs : Nat) (B12 : Nat → Nat → q_S → Nat → Option Nat → Int32 → Prop) (u v : Nat) (S : q_S) (a0 : Nat) (r1 : Option Nat) (x2 : Int32) (xs0 : Int32) (Q : Option Value → q_S → Prop) (E : String → q_S → Prop) : Prop := (((xs0.toInt < 7 ∨ 23 < xs0.toInt) → (q_K S a0 = 10 ∧ (∃ m4_ m5_ : Nat, (u + m4_ ≤ bc ∧ v + m5_ ≤ bs) ∧ (wm_X9_fail m4_ m5_ S a0 (1 : Int32) (q_I S 1811 a0) (fun r2_ S3_ => r2_ = none ∧ (wb_X9_readThings_209 bc bs B12 (u + m4_) (v + m5_) S3_ a0 r1 x2 Q E)) E)))) ∧ ((xs0 = (7 : Int32)) → (q_K S a0 = 10 ∧ (∃ m10_ m11_ : Nat, (u + m10_ ≤ bc ∧ v + m11_ ≤ bs) ∧ (wm_X9_readProcess m10_ m11_ S a0 r1 (fun r8_ S9_ => r8_ = none ∧ (wb_X9_readThings_209 bc bs B12 (u + m10_) (v + m11_) S9_ a0 r1 x2 Q E)) E)))) ∧ ((xs0 = (8 : Int32) ∨ xs0 = (9 : Int32) ∨ xs0 = (10 : Int32) ∨ xs0 = (11 : Int32) ∨ xs0 = (12 : Int32) ∨ xs0 = (13 : Int32) ∨ xs0 = (14 : Int32) ∨ xs0 = (18 : Int32) ∨ xs0 = (21 : Int32) ∨ xs0 = (22 : Int32)) → (q_K S a0 = 10 ∧ (∃ m16_ m17_ : Nat, (u + m16_ ≤ bc ∧ v + m17_ ≤ bs) ∧ (wm_X9_fail m16_ m17_ S a0 (1 : Int32) (q_I S 1811 a0) (fun r14_ S15_ => r14_ = none ∧ (wb_X9_readThings_209 bc bs B12 (u + m16_) (v + m17_) S15_ a0 r1 x2 Q E)) E)))) ∧ ((xs0 = (15 : Int32)) → (q_K S a0 = 10 ∧ (∃ m22_ m23_ : Nat, (u + m22_ ≤ bc ∧ v + m23_ ≤ bs) ∧ (wm_X9_readSemaphore m22_ m23_ S a0 r1 (fun r20_ S21_ => r20_ = none ∧ (wb_X9_readThings_209 bc bs B12 (u + m22_) (v + m23_) S21_ a0 r1 x2 Q E)) E)))) ∧ ((xs0 = (16 : Int32)) → (q_K S a0 = 10 ∧ (∃ m28_ m29_ : Nat, (u + m28_ ≤ bc ∧ v + m29_ ≤ bs) ∧ (wm_X9_readNewThing m28_ m29_ S a0 r1 (1 : Int32) (fun r26_ S27_ => ∃ r31_ : Option Nat, r26_ = some (va_rf r31_) ∧ (q_K S27_ a0 = 10 ∧ (∃ m35_ m36_ : Nat, ((u + m28_) + m35_ ≤ bc ∧ (v + m29_) + m36_ ≤ bs) ∧ (wm_X9_expectSign m35_ m36_ S27_ a0 (59 : Int32) (fun r33_ S34_ => r33_ = none ∧ (wb_X9_readThings_209 bc bs B12 ((u + m28_) + m35_) ((v + m29_) + m36_) S34_ a0 r1 x2 Q E)) E)))) E)))) ∧ ((xs0 = (17 : Int32)) → (q_K S a0 = 10 ∧ (∃ m41_ m42_ : Nat, (u + m41_ ≤ bc ∧ v + m42_ ≤ bs) ∧ (wm_X9_readBuffer m41_ m42_ S a0 r1 (fun r39_ S40_ => r39_ = none ∧ (wb_X9_readThings_209 bc bs B12 (u + m41_) (v + m42_) S40_ a0 r1 x2 Q E)) E)))) ∧ ((xs0 = (19 : Int32)) → (q_K S a0 = 10 ∧ (∃ m47_ m48_ : Nat, (u + m47_ ≤ bc ∧ v + m48_ ≤ bs) ∧ (wm_X9_readNewThing m47_ m48_ S a0 r1 (3 : Int32) (fun r45_ S46_ => ∃ r50_ : Option Nat, r45_ = some (va_rf r50_) ∧ (q_K S46_ a0 = 10 ∧ (∃ m54_ m55_ : Nat, ((u + m47_) + m54_ ≤ bc ∧ (v + m48_) + m55_ ≤ bs) ∧ (wm_X9_expectSign m54_ m55_ S46_ a0 (59 : Int32) (fun r52_ S53_ => r52_ = none ∧ (wb_X9_readThings_209 bc bs B12 ((u + m47_) + m54_) ((v + m48_) + m55_) S53_ a0 r1 x2 Q E)) E)))) E)))) ∧ ((xs0 = (20 : Int32)) → (q_K S a0 = 10 ∧ (∃ m60_ m61_ : Nat, (u + m60_ ≤ bc ∧ v + m61_ ≤ bs) ∧ (wm_X9_readPort m60_ m61_ S a0 r1 (fun r58_ S59_ => r58_ = none ∧ (wb_X9_readThings_209 bc bs B12 (u + m60_) (v + m61_) S59_ a0 r1 x2 Q E)) E)))) ∧ ((xs0 = (23 : Int32)) → (q_K S a0 = 10 ∧ (∃ m66_ m67_ : Nat, (u + m66_ ≤ bc ∧ v + m67_ ≤ bs) ∧ (wm_X9_readErrors m66_ m67_ S a0 r1 (fun r64_ S65_ => r64_ = none ∧ (wb_X9_readThings_209 bc bs B12 (u + m66_) (v + m67_) S65_ a0 r1 x2 Q E)) E)))))
set_option maxHeartbeats 4000000 in
set_option maxRecDepth 100000 in
theorem cb_X9_readThings_44 {p : Program} {l : Launch} {e : Env} {s : State} {m : MethodId} {args : Array Value} {below : List Frame} {meth : Method} {c : Code} {D : va_G} {cy : Nat → ClassId} {lo : Nat} {bc bs : Nat} {B12 : Nat → Nat → q_S → Nat → Option Nat → Int32 → Prop} {u v : Nat} {S : q_S} {a0 : Nat} {r1 : Option Nat} {x2 : Int32} {xs0 : Int32} {Q : Option Value → q_S → Prop} {E : String → q_S → Prop} {H : Heap} {locs : List Loc} {ls : Array Slot} (X : q_X p s m args meth c RX9 cX9_readThings 3 none D cy lo) (hex : ∀ x ∈ c.exceptionTable.toList, False) (hst : l.stackTraces = false) (hB12 : ∀ (u v : Nat) (S : q_S) (a0 : Nat) (r1 : Option Nat) (x2 : Int32) (H : Heap) (locs : List Loc) (ls : Array Slot), B12 u v S a0 r1 x2 → (u ≤ bc ∧ v ≤ bs) → q_Y D cy lo s S H locs → lv_has ls 3 [(0, .ref a0), (1, va_rf r1), (2, .int x2)] → W p l e ({ frames := 10, cells := bc, slots := bs, locals := 186 } : Room) s m args below meth c H locs u v (vx_MQ below (q_Q D cy lo Q) (q_XE D cy lo E) args s bc bs (fun q => lo ≤ q)) (F0 m 12 ls [])) (hu : u ≤ bc ∧ v ≤ bs) (Y : q_Y D cy lo s S H locs) (hl : lv_has ls 3 [(0, .ref a0), (1, va_rf r1), (2, .int x2)]) (h : wb_X9_readThings_44 bc bs B12 u v S a0 r1 x2 xs0 Q E) : W p l e ({ frames := 10, cells := bc, slots := bs, locals := 186 } : Room) s m args below meth c H locs u v (vx_MQ below (q_Q D cy lo Q) (q_XE D cy lo E) args s bc bs (fun q => lo ≤ q)) (F0 m 44 ls [.int xs0]) := by
  have hx := X.1
  have hb := X.2.1
  unfold wb_X9_readThings_44 at h
  refine q_tsw (tgt := 200) hx hb dX9_readThings_44 (by decide) (by decide) (fun c69_ => ?_) (fun j70_ hj_ c69_ => ?_)
  · replace h := h.1 c69_
    refine lv_aload_n hx hb dX9_readThings_200 rfl (lv_at hl 0 rfl) ?_
    refine lv_iconst (v := 1) hx hb dX9_readThings_201 (by decide) ?_
    refine lv_aload_n hx hb dX9_readThings_202 rfl (lv_at hl 0 rfl) ?_
    obtain ⟨k1_, h⟩ := h
    refine q_getI X Y kX9 11 rfl fl_X9_113 k1_ dX9_readThings_203 ?_
    obtain ⟨m4_, m5_, w6_, h⟩ := h
    refine q_callVX X hex Y hl (cm_X9_fail hst h) mt_X9_fail mi_X9_fail ml_X9_133 (ci := 9) rfl k1_ (by decide) rfl rfl (by first | exact Nat.le_of_ble_eq_true rfl | simp [q_cat, q_catI, q_catJ, q_catR]) ⟨Nat.le_of_ble_eq_true rfl, Nat.le_of_ble_eq_true rfl⟩ w6_ w6_ dX9_readThings_206 (fun r2_ S3_ H locs hp Y => ?_)
    obtain ⟨rfl, h⟩ := hp
    replace hu := w6_
    refine W.eq (g2 := F0 m 209 ls []) rfl ?_
    exact cb_X9_readThings_209 X hex hst hB12 hu Y (lv_sub hl [0, 1, 2] rfl) h
  · match j70_, hj_, c69_ with
    | 0, _, c69_ =>
      refine ⟨84, 128, rfl, by decide, ?_⟩
      replace h := h.2.1 (q_eqI c69_ (by decide))
      refine lv_aload_n hx hb dX9_readThings_128 rfl (lv_at hl 0 rfl) ?_
      refine q_aload_n hx hb dX9_readThings_129 rfl (lv_at hl 1 rfl) ?_
      obtain ⟨k7_, h⟩ := h
      obtain ⟨m10_, m11_, w12_, h⟩ := h
      refine q_callVX X hex Y hl (cm_X9_readProcess hst h) mt_X9_readProcess mi_X9_readProcess ml_X9_199 (ci := 9) rfl k7_ (by decide) rfl rfl (by first | exact Nat.le_of_ble_eq_true rfl | simp [q_cat, q_catI, q_catJ, q_catR]) ⟨Nat.le_of_ble_eq_true rfl, Nat.le_of_ble_eq_true rfl⟩ w12_ w12_ dX9_readThings_130 (fun r8_ S9_ H locs hp Y => ?_)
      obtain ⟨rfl, h⟩ := hp
      replace hu := w12_
      refine W.eq (g2 := F0 m 133 ls []) rfl ?_
      refine lv_goto (tgt := 209) hx hb dX9_readThings_133 (by decide) ?_
      exact cb_X9_readThings_209 X hex hst hB12 hu Y (lv_sub hl [0, 1, 2] rfl) h
    | 1, _, c69_ =>
      refine ⟨156, 200, rfl, by decide, ?_⟩
      replace h := h.2.2.1 (Or.inl (q_eqI c69_ (by decide)))
      refine lv_aload_n hx hb dX9_readThings_200 rfl (lv_at hl 0 rfl) ?_
      refine lv_iconst (v := 1) hx hb dX9_readThings_201 (by decide) ?_
      refine lv_aload_n hx hb dX9_readThings_202 rfl (lv_at hl 0 rfl) ?_
      obtain ⟨k13_, h⟩ := h
      refine q_getI X Y kX9 11 rfl fl_X9_113 k13_ dX9_readThings_203 ?_
      obtain ⟨m16_, m17_, w18_, h⟩ := h
      refine q_callVX X hex Y hl (cm_X9_fail hst h) mt_X9_fail mi_X9_fail ml_X9_133 (ci := 9) rfl k13_ (by decide) rfl rfl (by first | exact Nat.le_of_ble_eq_true rfl | simp [q_cat, q_catI, q_catJ, q_catR]) ⟨Nat.le_of_ble_eq_true rfl, Nat.le_of_ble_eq_true rfl⟩ w18_ w18_ dX9_readThings_206 (fun r14_ S15_ H locs hp Y => ?_)
      obtain ⟨rfl, h⟩ := hp
      replace hu := w18_
      refine W.eq (g2 := F0 m 209 ls []) rfl ?_
      exact cb_X9_readThings_209 X hex hst hB12 hu Y (lv_sub hl [0, 1, 2] rfl) h
    | 2, _, c69_ =>
      refine ⟨156, 200, rfl, by decide, ?_⟩
      replace h := h.2.2.1 (Or.inr (Or.inl (q_eqI c69_ (by decide))))
      refine lv_aload_n hx hb dX9_readThings_200 rfl (lv_at hl 0 rfl) ?_
      refine lv_iconst (v := 1) hx hb dX9_readThings_201 (by decide) ?_
      refine lv_aload_n hx hb dX9_readThings_202 rfl (lv_at hl 0 rfl) ?_
      obtain ⟨k13_, h⟩ := h
      refine q_getI X Y kX9 11 rfl fl_X9_113 k13_ dX9_readThings_203 ?_
      obtain ⟨m16_, m17_, w18_, h⟩ := h
      refine q_callVX X hex Y hl (cm_X9_fail hst h) mt_X9_fail mi_X9_fail ml_X9_133 (ci := 9) rfl k13_ (by decide) rfl rfl (by first | exact Nat.le_of_ble_eq_true rfl | simp [q_cat, q_catI, q_catJ, q_catR]) ⟨Nat.le_of_ble_eq_true rfl, Nat.le_of_ble_eq_true rfl⟩ w18_ w18_ dX9_readThings_206 (fun r14_ S15_ H locs hp Y => ?_)
      obtain ⟨rfl, h⟩ := hp
      replace hu := w18_
      refine W.eq (g2 := F0 m 209 ls []) rfl ?_
      exact cb_X9_readThings_209 X hex hst hB12 hu Y (lv_sub hl [0, 1, 2] rfl) h
    | 3, _, c69_ =>
      refine ⟨156, 200, rfl, by decide, ?_⟩
      replace h := h.2.2.1 (Or.inr (Or.inr (Or.inl (q_eqI c69_ (by decide)))))
      refine lv_aload_n hx hb dX9_readThings_200 rfl (lv_at hl 0 rfl) ?_
      refine lv_iconst (v := 1) hx hb dX9_readThings_201 (by decide) ?_
      refine lv_aload_n hx hb dX9_readThings_202 rfl (lv_at hl 0 rfl) ?_
      obtain ⟨k13_, h⟩ := h
      refine q_getI X Y kX9 11 rfl fl_X9_113 k13_ dX9_readThings_203 ?_
      obtain ⟨m16_, m17_, w18_, h⟩ := h
      refine q_callVX X hex Y hl (cm_X9_fail hst h) mt_X9_fail mi_X9_fail ml_X9_133 (ci := 9) rfl k13_ (by decide) rfl rfl (by first | exact Nat.le_of_ble_eq_true rfl | simp [q_cat, q_catI, q_catJ, q_catR]) ⟨Nat.le_of_ble_eq_true rfl, Nat.le_of_ble_eq_true rfl⟩ w18_ w18_ dX9_readThings_206 (fun r14_ S15_ H locs hp Y => ?_)
      obtain ⟨rfl, h⟩ := hp
      replace hu := w18_
      refine W.eq (g2 := F0 m 209 ls []) rfl ?_
      exact cb_X9_readThings_209 X hex hst hB12 hu Y (lv_sub hl [0, 1, 2] rfl) h
    | 4, _, c69_ =>
      refine ⟨156, 200, rfl, by decide, ?_⟩
      replace h := h.2.2.1 (Or.inr (Or.inr (Or.inr (Or.inl (q_eqI c69_ (by decide))))))
      refine lv_aload_n hx hb dX9_readThings_200 rfl (lv_at hl 0 rfl) ?_
      refine lv_iconst (v := 1) hx hb dX9_readThings_201 (by decide) ?_
      refine lv_aload_n hx hb dX9_readThings_202 rfl (lv_at hl 0 rfl) ?_
      obtain ⟨k13_, h⟩ := h
      refine q_getI X Y kX9 11 rfl fl_X9_113 k13_ dX9_readThings_203 ?_
      obtain ⟨m16_, m17_, w18_, h⟩ := h
      refine q_callVX X hex Y hl (cm_X9_fail hst h) mt_X9_fail mi_X9_fail ml_X9_133 (ci := 9) rfl k13_ (by decide) rfl rfl (by first | exact Nat.le_of_ble_eq_true rfl | simp [q_cat, q_catI, q_catJ, q_catR]) ⟨Nat.le_of_ble_eq_true rfl, Nat.le_of_ble_eq_true rfl⟩ w18_ w18_ dX9_readThings_206 (fun r14_ S15_ H locs hp Y => ?_)
      obtain ⟨rfl, h⟩ := hp
      replace hu := w18_
      refine W.eq (g2 := F0 m 209 ls []) rfl ?_
      exact cb_X9_readThings_209 X hex hst hB12 hu Y (lv_sub hl [0, 1, 2] rfl) h
    | 5, _, c69_ =>
      refine ⟨156, 200, rfl, by decide, ?_⟩
      replace h := h.2.2.1 (Or.inr (Or.inr (Or.inr (Or.inr (Or.inl (q_eqI c69_ (by decide)))))))
      refine lv_aload_n hx hb dX9_readThings_200 rfl (lv_at hl 0 rfl) ?_
      refine lv_iconst (v := 1) hx hb dX9_readThings_201 (by decide) ?_
      refine lv_aload_n hx hb dX9_readThings_202 rfl (lv_at hl 0 rfl) ?_
      obtain ⟨k13_, h⟩ := h
      refine q_getI X Y kX9 11 rfl fl_X9_113 k13_ dX9_readThings_203 ?_
      obtain ⟨m16_, m17_, w18_, h⟩ := h
      refine q_callVX X hex Y hl (cm_X9_fail hst h) mt_X9_fail mi_X9_fail ml_X9_133 (ci := 9) rfl k13_ (by decide) rfl rfl (by first | exact Nat.le_of_ble_eq_true rfl | simp [q_cat, q_catI, q_catJ, q_catR]) ⟨Nat.le_of_ble_eq_true rfl, Nat.le_of_ble_eq_true rfl⟩ w18_ w18_ dX9_readThings_206 (fun r14_ S15_ H locs hp Y => ?_)
      obtain ⟨rfl, h⟩ := hp
      replace hu := w18_
      refine W.eq (g2 := F0 m 209 ls []) rfl ?_
      exact cb_X9_readThings_209 X hex hst hB12 hu Y (lv_sub hl [0, 1, 2] rfl) h
    | 6, _, c69_ =>
      refine ⟨156, 200, rfl, by decide, ?_⟩
      replace h := h.2.2.1 (Or.inr (Or.inr (Or.inr (Or.inr (Or.inr (Or.inl (q_eqI c69_ (by decide))))))))
      refine lv_aload_n hx hb dX9_readThings_200 rfl (lv_at hl 0 rfl) ?_
      refine lv_iconst (v := 1) hx hb dX9_readThings_201 (by decide) ?_
      refine lv_aload_n hx hb dX9_readThings_202 rfl (lv_at hl 0 rfl) ?_
      obtain ⟨k13_, h⟩ := h
      refine q_getI X Y kX9 11 rfl fl_X9_113 k13_ dX9_readThings_203 ?_
      obtain ⟨m16_, m17_, w18_, h⟩ := h
      refine q_callVX X hex Y hl (cm_X9_fail hst h) mt_X9_fail mi_X9_fail ml_X9_133 (ci := 9) rfl k13_ (by decide) rfl rfl (by first | exact Nat.le_of_ble_eq_true rfl | simp [q_cat, q_catI, q_catJ, q_catR]) ⟨Nat.le_of_ble_eq_true rfl, Nat.le_of_ble_eq_true rfl⟩ w18_ w18_ dX9_readThings_206 (fun r14_ S15_ H locs hp Y => ?_)
      obtain ⟨rfl, h⟩ := hp
      replace hu := w18_
      refine W.eq (g2 := F0 m 209 ls []) rfl ?_
      exact cb_X9_readThings_209 X hex hst hB12 hu Y (lv_sub hl [0, 1, 2] rfl) h
    | 7, _, c69_ =>
      refine ⟨156, 200, rfl, by decide, ?_⟩
      replace h := h.2.2.1 (Or.inr (Or.inr (Or.inr (Or.inr (Or.inr (Or.inr (Or.inl (q_eqI c69_ (by decide)))))))))
      refine lv_aload_n hx hb dX9_readThings_200 rfl (lv_at hl 0 rfl) ?_
      refine lv_iconst (v := 1) hx hb dX9_readThings_201 (by decide) ?_
      refine lv_aload_n hx hb dX9_readThings_202 rfl (lv_at hl 0 rfl) ?_
      obtain ⟨k13_, h⟩ := h
      refine q_getI X Y kX9 11 rfl fl_X9_113 k13_ dX9_readThings_203 ?_
      obtain ⟨m16_, m17_, w18_, h⟩ := h
      refine q_callVX X hex Y hl (cm_X9_fail hst h) mt_X9_fail mi_X9_fail ml_X9_133 (ci := 9) rfl k13_ (by decide) rfl rfl (by first | exact Nat.le_of_ble_eq_true rfl | simp [q_cat, q_catI, q_catJ, q_catR]) ⟨Nat.le_of_ble_eq_true rfl, Nat.le_of_ble_eq_true rfl⟩ w18_ w18_ dX9_readThings_206 (fun r14_ S15_ H locs hp Y => ?_)
      obtain ⟨rfl, h⟩ := hp
      replace hu := w18_
      refine W.eq (g2 := F0 m 209 ls []) rfl ?_
      exact cb_X9_readThings_209 X hex hst hB12 hu Y (lv_sub hl [0, 1, 2] rfl) h
    | 8, _, c69_ =>
      refine ⟨92, 136, rfl, by decide, ?_⟩
      replace h := h.2.2.2.1 (q_eqI c69_ (by decide))
      refine lv_aload_n hx hb dX9_readThings_136 rfl (lv_at hl 0 rfl) ?_
      refine q_aload_n hx hb dX9_readThings_137 rfl (lv_at hl 1 rfl) ?_
      obtain ⟨k19_, h⟩ := h
      obtain ⟨m22_, m23_, w24_, h⟩ := h
      refine q_callVX X hex Y hl (cm_X9_readSemaphore hst h) mt_X9_readSemaphore mi_X9_readSemaphore ml_X9_202 (ci := 9) rfl k19_ (by decide) rfl rfl (by first | exact Nat.le_of_ble_eq_true rfl | simp [q_cat, q_catI, q_catJ, q_catR]) ⟨Nat.le_of_ble_eq_true rfl, Nat.le_of_ble_eq_true rfl⟩ w24_ w24_ dX9_readThings_138 (fun r20_ S21_ H locs hp Y => ?_)
      obtain ⟨rfl, h⟩ := hp
      replace hu := w24_
      refine W.eq (g2 := F0 m 141 ls []) rfl ?_
      refine lv_goto (tgt := 209) hx hb dX9_readThings_141 (by decide) ?_
      exact cb_X9_readThings_209 X hex hst hB12 hu Y (lv_sub hl [0, 1, 2] rfl) h
    | 9, _, c69_ =>
      refine ⟨100, 144, rfl, by decide, ?_⟩
      replace h := h.2.2.2.2.1 (q_eqI c69_ (by decide))
      refine lv_aload_n hx hb dX9_readThings_144 rfl (lv_at hl 0 rfl) ?_
      refine q_aload_n hx hb dX9_readThings_145 rfl (lv_at hl 1 rfl) ?_
      refine lv_iconst (v := 1) hx hb dX9_readThings_146 (by decide) ?_
      obtain ⟨k25_, h⟩ := h
      obtain ⟨m28_, m29_, w30_, h⟩ := h
      refine q_callVX X hex Y hl (cm_X9_readNewThing hst h) mt_X9_readNewThing mi_X9_readNewThing ml_X9_205 (ci := 9) rfl k25_ (by decide) rfl rfl (by first | exact Nat.le_of_ble_eq_true rfl | simp [q_cat, q_catI, q_catJ, q_catR]) ⟨Nat.le_of_ble_eq_true rfl, Nat.le_of_ble_eq_true rfl⟩ w30_ w30_ dX9_readThings_147 (fun r26_ S27_ H locs hp Y => ?_)
      obtain ⟨r31_, rfl, h⟩ := hp
      replace hu := w30_
      refine W.eq (g2 := F0 m 150 ls [va_rf r31_]) rfl ?_
      refine lv_pop hx hb dX9_readThings_150 (q_cat _) ?_
      refine lv_aload_n hx hb dX9_readThings_151 rfl (lv_at hl 0 rfl) ?_
      refine lv_bipush (v := 59) hx hb dX9_readThings_152 (by decide) ?_
      obtain ⟨k32_, h⟩ := h
      obtain ⟨m35_, m36_, w37_, h⟩ := h
      refine q_callVX X hex Y hl (cm_X9_expectSign hst h) mt_X9_expectSign mi_X9_expectSign ml_X9_160 (ci := 9) rfl k32_ (by decide) rfl rfl (by first | exact Nat.le_of_ble_eq_true rfl | simp [q_cat, q_catI, q_catJ, q_catR]) ⟨Nat.le_of_ble_eq_true rfl, Nat.le_of_ble_eq_true rfl⟩ w37_ w37_ dX9_readThings_154 (fun r33_ S34_ H locs hp Y => ?_)
      obtain ⟨rfl, h⟩ := hp
      replace hu := w37_
      refine W.eq (g2 := F0 m 157 ls []) rfl ?_
      refine lv_goto (tgt := 209) hx hb dX9_readThings_157 (by decide) ?_
      exact cb_X9_readThings_209 X hex hst hB12 hu Y (lv_sub hl [0, 1, 2] rfl) h
    | 10, _, c69_ =>
      refine ⟨116, 160, rfl, by decide, ?_⟩
      replace h := h.2.2.2.2.2.1 (q_eqI c69_ (by decide))
      refine lv_aload_n hx hb dX9_readThings_160 rfl (lv_at hl 0 rfl) ?_
      refine q_aload_n hx hb dX9_readThings_161 rfl (lv_at hl 1 rfl) ?_
      obtain ⟨k38_, h⟩ := h
      obtain ⟨m41_, m42_, w43_, h⟩ := h
      refine q_callVX X hex Y hl (cm_X9_readBuffer hst h) mt_X9_readBuffer mi_X9_readBuffer ml_X9_209 (ci := 9) rfl k38_ (by decide) rfl rfl (by first | exact Nat.le_of_ble_eq_true rfl | simp [q_cat, q_catI, q_catJ, q_catR]) ⟨Nat.le_of_ble_eq_true rfl, Nat.le_of_ble_eq_true rfl⟩ w43_ w43_ dX9_readThings_162 (fun r39_ S40_ H locs hp Y => ?_)
      obtain ⟨rfl, h⟩ := hp
      replace hu := w43_
      refine W.eq (g2 := F0 m 165 ls []) rfl ?_
      refine lv_goto (tgt := 209) hx hb dX9_readThings_165 (by decide) ?_
      exact cb_X9_readThings_209 X hex hst hB12 hu Y (lv_sub hl [0, 1, 2] rfl) h
    | 11, _, c69_ =>
      refine ⟨156, 200, rfl, by decide, ?_⟩
      replace h := h.2.2.1 (Or.inr (Or.inr (Or.inr (Or.inr (Or.inr (Or.inr (Or.inr (Or.inl (q_eqI c69_ (by decide))))))))))
      refine lv_aload_n hx hb dX9_readThings_200 rfl (lv_at hl 0 rfl) ?_
      refine lv_iconst (v := 1) hx hb dX9_readThings_201 (by decide) ?_
      refine lv_aload_n hx hb dX9_readThings_202 rfl (lv_at hl 0 rfl) ?_
      obtain ⟨k13_, h⟩ := h
      refine q_getI X Y kX9 11 rfl fl_X9_113 k13_ dX9_readThings_203 ?_
      obtain ⟨m16_, m17_, w18_, h⟩ := h
      refine q_callVX X hex Y hl (cm_X9_fail hst h) mt_X9_fail mi_X9_fail ml_X9_133 (ci := 9) rfl k13_ (by decide) rfl rfl (by first | exact Nat.le_of_ble_eq_true rfl | simp [q_cat, q_catI, q_catJ, q_catR]) ⟨Nat.le_of_ble_eq_true rfl, Nat.le_of_ble_eq_true rfl⟩ w18_ w18_ dX9_readThings_206 (fun r14_ S15_ H locs hp Y => ?_)
      obtain ⟨rfl, h⟩ := hp
      replace hu := w18_
      refine W.eq (g2 := F0 m 209 ls []) rfl ?_
      exact cb_X9_readThings_209 X hex hst hB12 hu Y (lv_sub hl [0, 1, 2] rfl) h
    | 12, _, c69_ =>
      refine ⟨124, 168, rfl, by decide, ?_⟩
      replace h := h.2.2.2.2.2.2.1 (q_eqI c69_ (by decide))
      refine lv_aload_n hx hb dX9_readThings_168 rfl (lv_at hl 0 rfl) ?_
      refine q_aload_n hx hb dX9_readThings_169 rfl (lv_at hl 1 rfl) ?_
      refine lv_iconst (v := 3) hx hb dX9_readThings_170 (by decide) ?_
      obtain ⟨k44_, h⟩ := h
      obtain ⟨m47_, m48_, w49_, h⟩ := h
      refine q_callVX X hex Y hl (cm_X9_readNewThing hst h) mt_X9_readNewThing mi_X9_readNewThing ml_X9_205 (ci := 9) rfl k44_ (by decide) rfl rfl (by first | exact Nat.le_of_ble_eq_true rfl | simp [q_cat, q_catI, q_catJ, q_catR]) ⟨Nat.le_of_ble_eq_true rfl, Nat.le_of_ble_eq_true rfl⟩ w49_ w49_ dX9_readThings_171 (fun r45_ S46_ H locs hp Y => ?_)
      obtain ⟨r50_, rfl, h⟩ := hp
      replace hu := w49_
      refine W.eq (g2 := F0 m 174 ls [va_rf r50_]) rfl ?_
      refine lv_pop hx hb dX9_readThings_174 (q_cat _) ?_
      refine lv_aload_n hx hb dX9_readThings_175 rfl (lv_at hl 0 rfl) ?_
      refine lv_bipush (v := 59) hx hb dX9_readThings_176 (by decide) ?_
      obtain ⟨k51_, h⟩ := h
      obtain ⟨m54_, m55_, w56_, h⟩ := h
      refine q_callVX X hex Y hl (cm_X9_expectSign hst h) mt_X9_expectSign mi_X9_expectSign ml_X9_160 (ci := 9) rfl k51_ (by decide) rfl rfl (by first | exact Nat.le_of_ble_eq_true rfl | simp [q_cat, q_catI, q_catJ, q_catR]) ⟨Nat.le_of_ble_eq_true rfl, Nat.le_of_ble_eq_true rfl⟩ w56_ w56_ dX9_readThings_178 (fun r52_ S53_ H locs hp Y => ?_)
      obtain ⟨rfl, h⟩ := hp
      replace hu := w56_
      refine W.eq (g2 := F0 m 181 ls []) rfl ?_
      refine lv_goto (tgt := 209) hx hb dX9_readThings_181 (by decide) ?_
      exact cb_X9_readThings_209 X hex hst hB12 hu Y (lv_sub hl [0, 1, 2] rfl) h
    | 13, _, c69_ =>
      refine ⟨140, 184, rfl, by decide, ?_⟩
      replace h := h.2.2.2.2.2.2.2.1 (q_eqI c69_ (by decide))
      refine lv_aload_n hx hb dX9_readThings_184 rfl (lv_at hl 0 rfl) ?_
      refine q_aload_n hx hb dX9_readThings_185 rfl (lv_at hl 1 rfl) ?_
      obtain ⟨k57_, h⟩ := h
      obtain ⟨m60_, m61_, w62_, h⟩ := h
      refine q_callVX X hex Y hl (cm_X9_readPort hst h) mt_X9_readPort mi_X9_readPort ml_X9_212 (ci := 9) rfl k57_ (by decide) rfl rfl (by first | exact Nat.le_of_ble_eq_true rfl | simp [q_cat, q_catI, q_catJ, q_catR]) ⟨Nat.le_of_ble_eq_true rfl, Nat.le_of_ble_eq_true rfl⟩ w62_ w62_ dX9_readThings_186 (fun r58_ S59_ H locs hp Y => ?_)
      obtain ⟨rfl, h⟩ := hp
      replace hu := w62_
      refine W.eq (g2 := F0 m 189 ls []) rfl ?_
      refine lv_goto (tgt := 209) hx hb dX9_readThings_189 (by decide) ?_
      exact cb_X9_readThings_209 X hex hst hB12 hu Y (lv_sub hl [0, 1, 2] rfl) h
    | 14, _, c69_ =>
      refine ⟨156, 200, rfl, by decide, ?_⟩
      replace h := h.2.2.1 (Or.inr (Or.inr (Or.inr (Or.inr (Or.inr (Or.inr (Or.inr (Or.inr (Or.inl (q_eqI c69_ (by decide)))))))))))
      refine lv_aload_n hx hb dX9_readThings_200 rfl (lv_at hl 0 rfl) ?_
      refine lv_iconst (v := 1) hx hb dX9_readThings_201 (by decide) ?_
      refine lv_aload_n hx hb dX9_readThings_202 rfl (lv_at hl 0 rfl) ?_
      obtain ⟨k13_, h⟩ := h
      refine q_getI X Y kX9 11 rfl fl_X9_113 k13_ dX9_readThings_203 ?_
      obtain ⟨m16_, m17_, w18_, h⟩ := h
      refine q_callVX X hex Y hl (cm_X9_fail hst h) mt_X9_fail mi_X9_fail ml_X9_133 (ci := 9) rfl k13_ (by decide) rfl rfl (by first | exact Nat.le_of_ble_eq_true rfl | simp [q_cat, q_catI, q_catJ, q_catR]) ⟨Nat.le_of_ble_eq_true rfl, Nat.le_of_ble_eq_true rfl⟩ w18_ w18_ dX9_readThings_206 (fun r14_ S15_ H locs hp Y => ?_)
      obtain ⟨rfl, h⟩ := hp
      replace hu := w18_
      refine W.eq (g2 := F0 m 209 ls []) rfl ?_
      exact cb_X9_readThings_209 X hex hst hB12 hu Y (lv_sub hl [0, 1, 2] rfl) h
    | 15, _, c69_ =>
      refine ⟨156, 200, rfl, by decide, ?_⟩
      replace h := h.2.2.1 (Or.inr (Or.inr (Or.inr (Or.inr (Or.inr (Or.inr (Or.inr (Or.inr (Or.inr (q_eqI c69_ (by decide)))))))))))
      refine lv_aload_n hx hb dX9_readThings_200 rfl (lv_at hl 0 rfl) ?_
      refine lv_iconst (v := 1) hx hb dX9_readThings_201 (by decide) ?_
      refine lv_aload_n hx hb dX9_readThings_202 rfl (lv_at hl 0 rfl) ?_
      obtain ⟨k13_, h⟩ := h
      refine q_getI X Y kX9 11 rfl fl_X9_113 k13_ dX9_readThings_203 ?_
      obtain ⟨m16_, m17_, w18_, h⟩ := h
      refine q_callVX X hex Y hl (cm_X9_fail hst h) mt_X9_fail mi_X9_fail ml_X9_133 (ci := 9) rfl k13_ (by decide) rfl rfl (by first | exact Nat.le_of_ble_eq_true rfl | simp [q_cat, q_catI, q_catJ, q_catR]) ⟨Nat.le_of_ble_eq_true rfl, Nat.le_of_ble_eq_true rfl⟩ w18_ w18_ dX9_readThings_206 (fun r14_ S15_ H locs hp Y => ?_)
      obtain ⟨rfl, h⟩ := hp
      replace hu := w18_
      refine W.eq (g2 := F0 m 209 ls []) rfl ?_
      exact cb_X9_readThings_209 X hex hst hB12 hu Y (lv_sub hl [0, 1, 2] rfl) h
    | 16, _, c69_ =>
      refine ⟨148, 192, rfl, by decide, ?_⟩
      replace h := h.2.2.2.2.2.2.2.2 (q_eqI c69_ (by decide))
      refine lv_aload_n hx hb dX9_readThings_192 rfl (lv_at hl 0 rfl) ?_
      refine q_aload_n hx hb dX9_readThings_193 rfl (lv_at hl 1 rfl) ?_
      obtain ⟨k63_, h⟩ := h
      obtain ⟨m66_, m67_, w68_, h⟩ := h
      refine q_callVX X hex Y hl (cm_X9_readErrors hst h) mt_X9_readErrors mi_X9_readErrors ml_X9_215 (ci := 9) rfl k63_ (by decide) rfl rfl (by first | exact Nat.le_of_ble_eq_true rfl | simp [q_cat, q_catI, q_catJ, q_catR]) ⟨Nat.le_of_ble_eq_true rfl, Nat.le_of_ble_eq_true rfl⟩ w68_ w68_ dX9_readThings_194 (fun r64_ S65_ H locs hp Y => ?_)
      obtain ⟨rfl, h⟩ := hp
      replace hu := w68_
      refine W.eq (g2 := F0 m 197 ls []) rfl ?_
      refine lv_goto (tgt := 209) hx hb dX9_readThings_197 (by decide) ?_
      exact cb_X9_readThings_209 X hex hst hB12 hu Y (lv_sub hl [0, 1, 2] rfl) h
    | z_ + 17, hj_, _ => exact absurd hj_ (by simp)
def wb_X9_readThings_241 (bc bs : Nat)  (u v : Nat) (S : q_S) (a0 : Nat) (Q : Option Value → q_S → Prop) (E : String → q_S → Prop) : Prop := q_K S a0 = 10 ∧ (∃ m74_ m75_ : Nat, (u + m74_ ≤ bc ∧ v + m75_ ≤ bs) ∧ (wm_X9_advance m74_ m75_ S a0 (fun r72_ S73_ => r72_ = none ∧ (Q none S73_)) E))
set_option maxHeartbeats 4000000 in
set_option maxRecDepth 100000 in
theorem cb_X9_readThings_241 {p : Program} {l : Launch} {e : Env} {s : State} {m : MethodId} {args : Array Value} {below : List Frame} {meth : Method} {c : Code} {D : va_G} {cy : Nat → ClassId} {lo : Nat} {bc bs : Nat}  {u v : Nat} {S : q_S} {a0 : Nat} {Q : Option Value → q_S → Prop} {E : String → q_S → Prop} {H : Heap} {locs : List Loc} {ls : Array Slot} (X : q_X p s m args meth c RX9 cX9_readThings 3 none D cy lo) (hex : ∀ x ∈ c.exceptionTable.toList, False) (hst : l.stackTraces = false)  (hu : u ≤ bc ∧ v ≤ bs) (Y : q_Y D cy lo s S H locs) (hl : lv_has ls 3 [(0, .ref a0)]) (h : wb_X9_readThings_241 bc bs u v S a0 Q E) : W p l e ({ frames := 10, cells := bc, slots := bs, locals := 186 } : Room) s m args below meth c H locs u v (vx_MQ below (q_Q D cy lo Q) (q_XE D cy lo E) args s bc bs (fun q => lo ≤ q)) (F0 m 241 ls []) := by
  have hx := X.1
  have hb := X.2.1
  unfold wb_X9_readThings_241 at h
  refine lv_aload_n hx hb dX9_readThings_241 rfl (lv_at hl 0 rfl) ?_
  obtain ⟨k71_, h⟩ := h
  obtain ⟨m74_, m75_, w76_, h⟩ := h
  refine q_callVX X hex Y hl (cm_X9_advance hst h) mt_X9_advance mi_X9_advance ml_X9_78 (ci := 9) rfl k71_ (by decide) rfl rfl (by first | exact Nat.le_of_ble_eq_true rfl | simp [q_cat, q_catI, q_catJ, q_catR]) ⟨Nat.le_of_ble_eq_true rfl, Nat.le_of_ble_eq_true rfl⟩ w76_ w76_ dX9_readThings_242 (fun r72_ S73_ H locs hp Y => ?_)
  obtain ⟨rfl, h⟩ := hp
  replace hu := w76_
  refine W.eq (g2 := F0 m 245 ls []) rfl ?_
  exact vx_ret <| q_vret X Y hu.1 hu.2 h dX9_readThings_245
def wb_X9_readThings_215 (bc bs : Nat)  (u v : Nat) (S : q_S) (a0 : Nat) (r1 : Option Nat) (Q : Option Value → q_S → Prop) (E : String → q_S → Prop) : Prop := q_K S a0 = 10 ∧ ((((q_I S 1813 a0) = (-1 : Int32) → (wb_X9_readThings_241 bc bs u v S a0 Q E)) ∧ (¬ (q_I S 1813 a0) = (-1 : Int32) → (∃ a79_ : Nat, r1 = some a79_ ∧ (q_K S a79_ = 6 ∧ (((¬ (q_I S 1008 a79_) = (-1 : Int32) → (wb_X9_readThings_241 bc bs u v S a0 Q E)) ∧ ((q_I S 1008 a79_) = (-1 : Int32) → (∃ m85_ m86_ : Nat, (u + m85_ ≤ bc ∧ v + m86_ ≤ bs) ∧ (wm_X9_fail m85_ m86_ S a0 (7 : Int32) (q_I S 1813 a0) (fun r83_ S84_ => r83_ = none ∧ (wb_X9_readThings_241 bc bs (u + m85_) (v + m86_) S84_ a0 Q E)) E))))))))))
set_option maxHeartbeats 4000000 in
set_option maxRecDepth 100000 in
theorem cb_X9_readThings_215 {p : Program} {l : Launch} {e : Env} {s : State} {m : MethodId} {args : Array Value} {below : List Frame} {meth : Method} {c : Code} {D : va_G} {cy : Nat → ClassId} {lo : Nat} {bc bs : Nat}  {u v : Nat} {S : q_S} {a0 : Nat} {r1 : Option Nat} {Q : Option Value → q_S → Prop} {E : String → q_S → Prop} {H : Heap} {locs : List Loc} {ls : Array Slot} (X : q_X p s m args meth c RX9 cX9_readThings 3 none D cy lo) (hex : ∀ x ∈ c.exceptionTable.toList, False) (hst : l.stackTraces = false)  (hu : u ≤ bc ∧ v ≤ bs) (Y : q_Y D cy lo s S H locs) (hl : lv_has ls 3 [(0, .ref a0), (1, va_rf r1)]) (h : wb_X9_readThings_215 bc bs u v S a0 r1 Q E) : W p l e ({ frames := 10, cells := bc, slots := bs, locals := 186 } : Room) s m args below meth c H locs u v (vx_MQ below (q_Q D cy lo Q) (q_XE D cy lo E) args s bc bs (fun q => lo ≤ q)) (F0 m 215 ls []) := by
  have hx := X.1
  have hb := X.2.1
  unfold wb_X9_readThings_215 at h
  refine lv_aload_n hx hb dX9_readThings_215 rfl (lv_at hl 0 rfl) ?_
  obtain ⟨k77_, h⟩ := h
  refine q_getI X Y kX9 13 rfl fl_X9_196 k77_ dX9_readThings_216 ?_
  refine lv_iconst (v := (-1)) hx hb dX9_readThings_219 (by decide) ?_
  refine lv_icmp_eq (tgt := 241) hx hb dX9_readThings_220 (by decide) (fun c78_ => ?_) (fun c78_ => ?_)
  · replace h := h.1 c78_
    exact cb_X9_readThings_241 X hex hst hu Y (lv_sub hl [0] rfl) h
  · replace h := h.2 c78_
    refine q_aload_n hx hb dX9_readThings_223 rfl (lv_at hl 1 rfl) ?_
    obtain ⟨a79_, e80_, h⟩ := h
    refine q_nn [] e80_ ?_
    obtain ⟨k81_, h⟩ := h
    refine q_getI X Y kX5 8 rfl fl_X9_218 k81_ dX9_readThings_224 ?_
    refine lv_iconst (v := (-1)) hx hb dX9_readThings_227 (by decide) ?_
    refine lv_icmp_ne (tgt := 241) hx hb dX9_readThings_228 (by decide) (fun c82_ => ?_) (fun c82_ => ?_)
    · replace h := h.1 c82_
      exact cb_X9_readThings_241 X hex hst hu Y (lv_sub hl [0] rfl) h
    · replace h := h.2 c82_
      refine lv_aload_n hx hb dX9_readThings_231 rfl (lv_at hl 0 rfl) ?_
      refine lv_bipush (v := 7) hx hb dX9_readThings_232 (by decide) ?_
      refine lv_aload_n hx hb dX9_readThings_234 rfl (lv_at hl 0 rfl) ?_
      refine q_getI X Y kX9 13 rfl fl_X9_196 k77_ dX9_readThings_235 ?_
      obtain ⟨m85_, m86_, w87_, h⟩ := h
      refine q_callVX X hex Y hl (cm_X9_fail hst h) mt_X9_fail mi_X9_fail ml_X9_133 (ci := 9) rfl k77_ (by decide) rfl rfl (by first | exact Nat.le_of_ble_eq_true rfl | simp [q_cat, q_catI, q_catJ, q_catR]) ⟨Nat.le_of_ble_eq_true rfl, Nat.le_of_ble_eq_true rfl⟩ w87_ w87_ dX9_readThings_238 (fun r83_ S84_ H locs hp Y => ?_)
      obtain ⟨rfl, h⟩ := hp
      replace hu := w87_
      refine W.eq (g2 := F0 m 241 ls []) rfl ?_
      exact cb_X9_readThings_241 X hex hst hu Y (lv_sub hl [0] rfl) h
def wb_X9_readThings_12 (bc bs : Nat) (B12 : Nat → Nat → q_S → Nat → Option Nat → Int32 → Prop) (u v : Nat) (S : q_S) (a0 : Nat) (r1 : Option Nat) (x2 : Int32) (Q : Option Value → q_S → Prop) (E : String → q_S → Prop) : Prop := (((4000 : Int32) < x2 → (wb_X9_readThings_215 bc bs u v S a0 r1 Q E)) ∧ (¬ (4000 : Int32) < x2 → (q_K S a0 = 10 ∧ (wm_X9_seesSign S a0 (125 : Int32) (fun r90_ S91_ => ∃ x92_ : Int32, r90_ = some (.int x92_) ∧ (((¬ x92_ = 0 → (wb_X9_readThings_215 bc bs u v S91_ a0 r1 Q E)) ∧ (x92_ = 0 → (q_K S91_ a0 = 10 ∧ (((¬ (q_I S91_ 1808 a0) = (5 : Int32) → (wb_X9_readThings_44 bc bs B12 u v S91_ a0 r1 x2 (-1 : Int32) Q E)) ∧ ((q_I S91_ 1808 a0) = (5 : Int32) → (wb_X9_readThings_44 bc bs B12 u v S91_ a0 r1 x2 (q_I S91_ 1809 a0) Q E)))))))))))))
set_option maxHeartbeats 4000000 in
set_option maxRecDepth 100000 in
theorem cb_X9_readThings_12 {p : Program} {l : Launch} {e : Env} {s : State} {m : MethodId} {args : Array Value} {below : List Frame} {meth : Method} {c : Code} {D : va_G} {cy : Nat → ClassId} {lo : Nat} {bc bs : Nat} {B12 : Nat → Nat → q_S → Nat → Option Nat → Int32 → Prop} {u v : Nat} {S : q_S} {a0 : Nat} {r1 : Option Nat} {x2 : Int32} {Q : Option Value → q_S → Prop} {E : String → q_S → Prop} {H : Heap} {locs : List Loc} {ls : Array Slot} (X : q_X p s m args meth c RX9 cX9_readThings 3 none D cy lo) (hex : ∀ x ∈ c.exceptionTable.toList, False) (hst : l.stackTraces = false) (hB12 : ∀ (u v : Nat) (S : q_S) (a0 : Nat) (r1 : Option Nat) (x2 : Int32) (H : Heap) (locs : List Loc) (ls : Array Slot), B12 u v S a0 r1 x2 → (u ≤ bc ∧ v ≤ bs) → q_Y D cy lo s S H locs → lv_has ls 3 [(0, .ref a0), (1, va_rf r1), (2, .int x2)] → W p l e ({ frames := 10, cells := bc, slots := bs, locals := 186 } : Room) s m args below meth c H locs u v (vx_MQ below (q_Q D cy lo Q) (q_XE D cy lo E) args s bc bs (fun q => lo ≤ q)) (F0 m 12 ls [])) (hu : u ≤ bc ∧ v ≤ bs) (Y : q_Y D cy lo s S H locs) (hl : lv_has ls 3 [(0, .ref a0), (1, va_rf r1), (2, .int x2)]) (h : wb_X9_readThings_12 bc bs B12 u v S a0 r1 x2 Q E) : W p l e ({ frames := 10, cells := bc, slots := bs, locals := 186 } : Room) s m args below meth c H locs u v (vx_MQ below (q_Q D cy lo Q) (q_XE D cy lo E) args s bc bs (fun q => lo ≤ q)) (F0 m 12 ls []) := by
  have hx := X.1
  have hb := X.2.1
  unfold wb_X9_readThings_12 at h
  refine lv_iload_n hx hb dX9_readThings_12 rfl (lv_at hl 2 rfl) ?_
  refine lv_sipush (v := 4000) hx hb dX9_readThings_13 (by decide) ?_
  refine lv_icmp_gt (tgt := 215) hx hb dX9_readThings_16 (by decide) (fun c88_ => ?_) (fun c88_ => ?_)
  · replace h := h.1 c88_
    exact cb_X9_readThings_215 X hex hst hu Y (lv_sub hl [0, 1] rfl) h
  · replace h := h.2 c88_
    refine lv_aload_n hx hb dX9_readThings_19 rfl (lv_at hl 0 rfl) ?_
    refine lv_bipush (v := 125) hx hb dX9_readThings_20 (by decide) ?_
    obtain ⟨k89_, h⟩ := h
    refine q_callV X Y hl (cm_X9_seesSign h) mt_X9_seesSign mi_X9_seesSign ml_X9_141 (ci := 9) rfl k89_ (by decide) rfl rfl (by first | exact Nat.le_of_ble_eq_true rfl | simp [q_cat, q_catI, q_catJ, q_catR]) ⟨Nat.le_of_ble_eq_true rfl, Nat.le_of_ble_eq_true rfl⟩ hu dX9_readThings_22 (fun r90_ S91_ H locs hp Y => ?_)
    obtain ⟨x92_, rfl, h⟩ := hp
    refine W.eq (g2 := F0 m 25 ls [.int x92_]) rfl ?_
    refine lv_if_ne (tgt := 215) hx hb dX9_readThings_25 (by decide) (fun c93_ => ?_) (fun c93_ => ?_)
    · replace h := h.1 c93_
      exact cb_X9_readThings_215 X hex hst hu Y (lv_sub hl [0, 1] rfl) h
    · replace h := h.2 c93_
      refine lv_aload_n hx hb dX9_readThings_28 rfl (lv_at hl 0 rfl) ?_
      obtain ⟨k94_, h⟩ := h
      refine q_getI X Y kX9 8 rfl fl_X9_119 k94_ dX9_readThings_29 ?_
      refine lv_iconst (v := 5) hx hb dX9_readThings_32 (by decide) ?_
      refine lv_icmp_ne (tgt := 43) hx hb dX9_readThings_33 (by decide) (fun c95_ => ?_) (fun c95_ => ?_)
      · replace h := h.1 c95_
        refine lv_iconst (v := (-1)) hx hb dX9_readThings_43 (by decide) ?_
        exact cb_X9_readThings_44 X hex hst hB12 hu Y (lv_sub hl [0, 1, 2] rfl) h
      · replace h := h.2 c95_
        refine lv_aload_n hx hb dX9_readThings_36 rfl (lv_at hl 0 rfl) ?_
        refine q_getI X Y kX9 9 rfl fl_X9_116 k94_ dX9_readThings_37 ?_
        refine lv_goto (tgt := 44) hx hb dX9_readThings_40 (by decide) ?_
        exact cb_X9_readThings_44 X hex hst hB12 hu Y (lv_sub hl [0, 1, 2] rfl) h
def wl_X9_readThings_12 (bc bs : Nat)  : Nat → Nat → Nat → q_S → Nat → Option Nat → Int32 → (Option Value → q_S → Prop) → (String → q_S → Prop) → Prop
  | 0, _, _, _, _, _, _, _, _ => False
  | n + 1, u, v, S, a0, r1, x2, Q, E => wb_X9_readThings_12 bc bs (fun u v S a0 r1 x2 => wl_X9_readThings_12 bc bs n u v S a0 r1 x2 Q E) u v S a0 r1 x2 Q E
set_option maxHeartbeats 4000000 in
set_option maxRecDepth 100000 in
theorem cl_X9_readThings_12 {p : Program} {l : Launch} {e : Env} {s : State} {m : MethodId} {args : Array Value} {below : List Frame} {meth : Method} {c : Code} {D : va_G} {cy : Nat → ClassId} {lo : Nat} {bc bs : Nat}  {Q : Option Value → q_S → Prop} {E : String → q_S → Prop} (X : q_X p s m args meth c RX9 cX9_readThings 3 none D cy lo) (hex : ∀ x ∈ c.exceptionTable.toList, False) (hst : l.stackTraces = false)  : ∀ (n : Nat) (u v : Nat) (S : q_S) (a0 : Nat) (r1 : Option Nat) (x2 : Int32) (H : Heap) (locs : List Loc) (ls : Array Slot), wl_X9_readThings_12 bc bs n u v S a0 r1 x2 Q E → (u ≤ bc ∧ v ≤ bs) → q_Y D cy lo s S H locs → lv_has ls 3 [(0, .ref a0), (1, va_rf r1), (2, .int x2)] → W p l e ({ frames := 10, cells := bc, slots := bs, locals := 186 } : Room) s m args below meth c H locs u v (vx_MQ below (q_Q D cy lo Q) (q_XE D cy lo E) args s bc bs (fun q => lo ≤ q)) (F0 m 12 ls []) := by
  intro n
  induction n with
  | zero => intro u v S a0 r1 x2 H locs ls h; exact absurd h id
  | succ n ih => intro u v S a0 r1 x2 H locs ls h hu Y hl; exact cb_X9_readThings_12 X hex hst ih hu Y hl h
def wm_X9_readThings (bc bs : Nat) (S : q_S) (a0 : Nat) (r1 : Option Nat) (Q : Option Value → q_S → Prop) (E : String → q_S → Prop) : Prop := q_K S a0 = 10 ∧ (∃ n97_ : Nat, wl_X9_readThings_12 bc bs n97_ 0 0 (qs_I (qs_I S 1812 a0 (0 : Int32)) 1813 a0 (-1 : Int32)) a0 r1 (0 : Int32) Q E)
set_option maxHeartbeats 4000000 in
set_option maxRecDepth 100000 in
theorem cm_X9_readThings {l : Launch} {D : va_G} {cy : Nat → ClassId} {lo : Nat} {bc bs : Nat} {S : q_S} {a0 : Nat} {r1 : Option Nat} {Q : Option Value → q_S → Prop} {E : String → q_S → Prop} (hst : l.stackTraces = false) (h : wm_X9_readThings bc bs S a0 r1 Q E) : q_MetX l D cy lo yX9_readThings cX9_readThings 3 none 10 186 bc bs [.ref a0, va_rf r1] S Q E := by
  refine q_bodyX (by decide) (by first | exact Nat.le_of_ble_eq_true rfl | simp [lg_sl, q_cat, q_catI, q_catJ, q_catR]) ?_
  intro p e s m below meth c ls X hex Y hl
  have hx := X.1
  have hb := X.2.1
  have hl : lv_has ls 3 [(0, .ref a0), (1, va_rf r1)] := by first | exact hl | simpa [lv_args, q_cat, q_catI, q_catJ, q_catR] using hl
  generalize hargs : ([.ref a0, va_rf r1] : List Value).toArray = args at X ⊢
  have hu : 0 ≤ bc ∧ 0 ≤ bs := ⟨Nat.zero_le _, Nat.zero_le _⟩
  unfold wm_X9_readThings at h
  refine lv_aload_n hx hb dX9_readThings_0 rfl (lv_at hl 0 rfl) ?_
  refine lv_iconst (v := 0) hx hb dX9_readThings_1 (by decide) ?_
  obtain ⟨k96_, h⟩ := h
  refine q_putI X Y kX9 12 rfl fl_X9_193 k96_ .boolean rfl ⟨rfl, rfl⟩ rfl dX9_readThings_2 (fun H locs Y => ?_)
  refine lv_aload_n hx hb dX9_readThings_5 rfl (lv_at hl 0 rfl) ?_
  refine lv_iconst (v := (-1)) hx hb dX9_readThings_6 (by decide) ?_
  refine q_putI X Y kX9 13 rfl fl_X9_196 k96_ .int rfl ⟨rfl, rfl⟩ rfl dX9_readThings_7 (fun H locs Y => ?_)
  refine lv_iconst (v := 0) hx hb dX9_readThings_10 (by decide) ?_
  refine lv_istore_n (i := 2) (lv' := [(2, .int (0 : Int32)), (0, .ref a0), (1, va_rf r1)]) hx hb dX9_readThings_11 rfl hl (by decide) (by first | rfl | simp [q_cat, q_catI, q_catJ, q_catR]) (fun ls hl => ?_)
  obtain ⟨n97_, h⟩ := h
  exact cl_X9_readThings_12 X hex hst n97_ _ _ _ _ _ _ _ _ _ h hu Y (lv_sub hl [1, 2, 0] rfl)
-- X9_readPartitionName
theorem fl_X9_366 : Cond.fieldLink RX9 366 "PartitionWorks$Plan" "partitions" "[LPartitionWorks$Partition;" ∈ q_G := q_tb (i := 77) (by decide +kernel) (by decide +kernel)
theorem dX9_readPartitionName_0 : decode cX9_readPartitionName 0 = .ok (.aload_n 0, 1) := by decide +kernel
theorem dX9_readPartitionName_1 : decode cX9_readPartitionName 1 = .ok (.getfield 119, 3) := by decide +kernel
theorem dX9_readPartitionName_4 : decode cX9_readPartitionName 4 = .ok (.iconst 2, 1) := by decide +kernel
theorem dX9_readPartitionName_5 : decode cX9_readPartitionName 5 = .ok (.if_icmp .eq 12, 3) := by decide +kernel
theorem dX9_readPartitionName_8 : decode cX9_readPartitionName 8 = .ok (.aload_n 0, 1) := by decide +kernel
theorem dX9_readPartitionName_9 : decode cX9_readPartitionName 9 = .ok (.iconst 1, 1) := by decide +kernel
theorem dX9_readPartitionName_10 : decode cX9_readPartitionName 10 = .ok (.aload_n 0, 1) := by decide +kernel
theorem dX9_readPartitionName_11 : decode cX9_readPartitionName 11 = .ok (.getfield 113, 3) := by decide +kernel
theorem dX9_readPartitionName_14 : decode cX9_readPartitionName 14 = .ok (.invokevirtual 133, 3) := by decide +kernel
theorem dX9_readPartitionName_17 : decode cX9_readPartitionName 17 = .ok (.aload_n 0, 1) := by decide +kernel
theorem dX9_readPartitionName_18 : decode cX9_readPartitionName 18 = .ok (.getfield 12, 3) := by decide +kernel
theorem dX9_readPartitionName_21 : decode cX9_readPartitionName 21 = .ok (.aload_n 0, 1) := by decide +kernel
theorem dX9_readPartitionName_22 : decode cX9_readPartitionName 22 = .ok (.getfield 137, 3) := by decide +kernel
theorem dX9_readPartitionName_25 : decode cX9_readPartitionName 25 = .ok (.invokevirtual 152, 3) := by decide +kernel
theorem dX9_readPartitionName_28 : decode cX9_readPartitionName 28 = .ok (.istore_n 1, 1) := by decide +kernel
theorem dX9_readPartitionName_29 : decode cX9_readPartitionName 29 = .ok (.iload_n 1, 1) := by decide +kernel
theorem dX9_readPartitionName_30 : decode cX9_readPartitionName 30 = .ok (.iconst (-1), 1) := by decide +kernel
theorem dX9_readPartitionName_31 : decode cX9_readPartitionName 31 = .ok (.if_icmp .ne 13, 3) := by decide +kernel
theorem dX9_readPartitionName_34 : decode cX9_readPartitionName 34 = .ok (.aload_n 0, 1) := by decide +kernel
theorem dX9_readPartitionName_35 : decode cX9_readPartitionName 35 = .ok (.bipush 6, 2) := by decide +kernel
theorem dX9_readPartitionName_37 : decode cX9_readPartitionName 37 = .ok (.aload_n 0, 1) := by decide +kernel
theorem dX9_readPartitionName_38 : decode cX9_readPartitionName 38 = .ok (.getfield 113, 3) := by decide +kernel
theorem dX9_readPartitionName_41 : decode cX9_readPartitionName 41 = .ok (.invokevirtual 133, 3) := by decide +kernel
theorem dX9_readPartitionName_44 : decode cX9_readPartitionName 44 = .ok (.aload_n 0, 1) := by decide +kernel
theorem dX9_readPartitionName_45 : decode cX9_readPartitionName 45 = .ok (.invokevirtual 78, 3) := by decide +kernel
theorem dX9_readPartitionName_48 : decode cX9_readPartitionName 48 = .ok (.aload_n 0, 1) := by decide +kernel
theorem dX9_readPartitionName_49 : decode cX9_readPartitionName 49 = .ok (.getfield 12, 3) := by decide +kernel
theorem dX9_readPartitionName_52 : decode cX9_readPartitionName 52 = .ok (.getfield 366, 3) := by decide +kernel
theorem dX9_readPartitionName_55 : decode cX9_readPartitionName 55 = .ok (.iload_n 1, 1) := by decide +kernel
theorem dX9_readPartitionName_56 : decode cX9_readPartitionName 56 = .ok (.aaload, 1) := by decide +kernel
theorem dX9_readPartitionName_57 : decode cX9_readPartitionName 57 = .ok (.areturn, 1) := by decide +kernel
def wb_X9_readPartitionName_44 (bc bs : Nat)  (u v : Nat) (S : q_S) (a0 : Nat) (x1 : Int32) (Q : Option Value → q_S → Prop) (E : String → q_S → Prop) : Prop := q_K S a0 = 10 ∧ (∃ m4_ m5_ : Nat, (u + m4_ ≤ bc ∧ v + m5_ ≤ bs) ∧ (wm_X9_advance m4_ m5_ S a0 (fun r2_ S3_ => r2_ = none ∧ (q_K S3_ a0 = 10 ∧ (∃ a8_ : Nat, (q_P S3_ 1800 a0) = some a8_ ∧ (q_K S3_ a8_ = 7 ∧ (∃ a11_ : Nat, (q_P S3_ 1200 a8_) = some a11_ ∧ (q_K S3_ a11_ = 25 ∧ (vp_in x1 (q_N S3_ a11_) ∧ (Q (some (va_rf (q_C S3_ a11_ x1.toNatClampNeg))) S3_)))))))) E))
set_option maxHeartbeats 4000000 in
set_option maxRecDepth 100000 in
theorem cb_X9_readPartitionName_44 {p : Program} {l : Launch} {e : Env} {s : State} {m : MethodId} {args : Array Value} {below : List Frame} {meth : Method} {c : Code} {D : va_G} {cy : Nat → ClassId} {lo : Nat} {bc bs : Nat}  {u v : Nat} {S : q_S} {a0 : Nat} {x1 : Int32} {Q : Option Value → q_S → Prop} {E : String → q_S → Prop} {H : Heap} {locs : List Loc} {ls : Array Slot} (X : q_X p s m args meth c RX9 cX9_readPartitionName 2 (some (.object "PartitionWorks$Partition")) D cy lo) (hex : ∀ x ∈ c.exceptionTable.toList, False) (hst : l.stackTraces = false)  (hu : u ≤ bc ∧ v ≤ bs) (Y : q_Y D cy lo s S H locs) (hl : lv_has ls 2 [(0, .ref a0), (1, .int x1)]) (h : wb_X9_readPartitionName_44 bc bs u v S a0 x1 Q E) : W p l e ({ frames := 8, cells := bc, slots := bs, locals := 139 } : Room) s m args below meth c H locs u v (vx_MQ below (q_Q D cy lo Q) (q_XE D cy lo E) args s bc bs (fun q => lo ≤ q)) (F0 m 44 ls []) := by
  have hx := X.1
  have hb := X.2.1
  unfold wb_X9_readPartitionName_44 at h
  refine lv_aload_n hx hb dX9_readPartitionName_44 rfl (lv_at hl 0 rfl) ?_
  obtain ⟨k1_, h⟩ := h
  obtain ⟨m4_, m5_, w6_, h⟩ := h
  refine q_callVX X hex Y hl (cm_X9_advance hst h) mt_X9_advance mi_X9_advance ml_X9_78 (ci := 9) rfl k1_ (by decide) rfl rfl (by first | exact Nat.le_of_ble_eq_true rfl | simp [q_cat, q_catI, q_catJ, q_catR]) ⟨Nat.le_of_ble_eq_true rfl, Nat.le_of_ble_eq_true rfl⟩ w6_ w6_ dX9_readPartitionName_45 (fun r2_ S3_ H locs hp Y => ?_)
  obtain ⟨rfl, h⟩ := hp
  replace hu := w6_
  refine W.eq (g2 := F0 m 48 ls []) rfl ?_
  refine lv_aload_n hx hb dX9_readPartitionName_48 rfl (lv_at hl 0 rfl) ?_
  obtain ⟨k7_, h⟩ := h
  refine q_getP X Y kX9 0 rfl fl_X9_12 k7_ rfl dX9_readPartitionName_49 ?_
  obtain ⟨a8_, e9_, h⟩ := h
  refine q_nn [] e9_ ?_
  obtain ⟨k10_, h⟩ := h
  refine q_getP X Y kX6 0 rfl fl_X9_366 k10_ rfl dX9_readPartitionName_52 ?_
  refine lv_iload_n hx hb dX9_readPartitionName_55 rfl (lv_at hl 1 rfl) ?_
  obtain ⟨a11_, e12_, h⟩ := h
  refine q_nn [.int x1] e12_ ?_
  obtain ⟨k13_, h⟩ := h
  obtain ⟨i14_, h⟩ := h
  refine q_cld X Y k13_ (by decide) (t := 5) rfl i14_ rfl dX9_readPartitionName_56 ?_
  exact vx_ret <| q_aret X Y (Or.inl ⟨_, rfl⟩) (va_rf_or _) hu.1 hu.2 h dX9_readPartitionName_57
def wb_X9_readPartitionName_17 (bc bs : Nat)  (u v : Nat) (S : q_S) (a0 : Nat) (Q : Option Value → q_S → Prop) (E : String → q_S → Prop) : Prop := q_K S a0 = 10 ∧ (∃ a16_ : Nat, (q_P S 1800 a0) = some a16_ ∧ (q_K S a16_ = 7 ∧ (wm_X6_partitionNamed S a16_ (q_J S 1810 a0) (fun r19_ S20_ => ∃ x21_ : Int32, r19_ = some (.int x21_) ∧ (((¬ x21_ = (-1 : Int32) → (wb_X9_readPartitionName_44 bc bs u v S20_ a0 x21_ Q E)) ∧ (x21_ = (-1 : Int32) → (q_K S20_ a0 = 10 ∧ (∃ m26_ m27_ : Nat, (u + m26_ ≤ bc ∧ v + m27_ ≤ bs) ∧ (wm_X9_fail m26_ m27_ S20_ a0 (6 : Int32) (q_I S20_ 1811 a0) (fun r24_ S25_ => r24_ = none ∧ (wb_X9_readPartitionName_44 bc bs (u + m26_) (v + m27_) S25_ a0 x21_ Q E)) E))))))))))
set_option maxHeartbeats 4000000 in
set_option maxRecDepth 100000 in
theorem cb_X9_readPartitionName_17 {p : Program} {l : Launch} {e : Env} {s : State} {m : MethodId} {args : Array Value} {below : List Frame} {meth : Method} {c : Code} {D : va_G} {cy : Nat → ClassId} {lo : Nat} {bc bs : Nat}  {u v : Nat} {S : q_S} {a0 : Nat} {Q : Option Value → q_S → Prop} {E : String → q_S → Prop} {H : Heap} {locs : List Loc} {ls : Array Slot} (X : q_X p s m args meth c RX9 cX9_readPartitionName 2 (some (.object "PartitionWorks$Partition")) D cy lo) (hex : ∀ x ∈ c.exceptionTable.toList, False) (hst : l.stackTraces = false)  (hu : u ≤ bc ∧ v ≤ bs) (Y : q_Y D cy lo s S H locs) (hl : lv_has ls 2 [(0, .ref a0)]) (h : wb_X9_readPartitionName_17 bc bs u v S a0 Q E) : W p l e ({ frames := 8, cells := bc, slots := bs, locals := 139 } : Room) s m args below meth c H locs u v (vx_MQ below (q_Q D cy lo Q) (q_XE D cy lo E) args s bc bs (fun q => lo ≤ q)) (F0 m 17 ls []) := by
  have hx := X.1
  have hb := X.2.1
  unfold wb_X9_readPartitionName_17 at h
  refine lv_aload_n hx hb dX9_readPartitionName_17 rfl (lv_at hl 0 rfl) ?_
  obtain ⟨k15_, h⟩ := h
  refine q_getP X Y kX9 0 rfl fl_X9_12 k15_ rfl dX9_readPartitionName_18 ?_
  refine lv_aload_n hx hb dX9_readPartitionName_21 rfl (lv_at hl 0 rfl) ?_
  refine q_getJ X Y kX9 10 rfl fl_X9_137 k15_ dX9_readPartitionName_22 ?_
  obtain ⟨a16_, e17_, h⟩ := h
  refine q_nn [.long (q_J S 1810 a0)] e17_ ?_
  obtain ⟨k18_, h⟩ := h
  refine q_callV X Y hl (cm_X6_partitionNamed h) mt_X6_partitionNamed mi_X6_partitionNamed ml_X9_152 (ci := 6) rfl k18_ (by decide) rfl rfl (by first | exact Nat.le_of_ble_eq_true rfl | simp [q_cat, q_catI, q_catJ, q_catR]) ⟨Nat.le_of_ble_eq_true rfl, Nat.le_of_ble_eq_true rfl⟩ hu dX9_readPartitionName_25 (fun r19_ S20_ H locs hp Y => ?_)
  obtain ⟨x21_, rfl, h⟩ := hp
  refine W.eq (g2 := F0 m 28 ls [.int x21_]) rfl ?_
  refine lv_istore_n (i := 1) (lv' := [(1, .int x21_), (0, .ref a0)]) hx hb dX9_readPartitionName_28 rfl hl (by decide) (by first | rfl | simp [q_cat, q_catI, q_catJ, q_catR]) (fun ls hl => ?_)
  refine lv_iload_n hx hb dX9_readPartitionName_29 rfl (lv_at hl 0 rfl) ?_
  refine lv_iconst (v := (-1)) hx hb dX9_readPartitionName_30 (by decide) ?_
  refine lv_icmp_ne (tgt := 44) hx hb dX9_readPartitionName_31 (by decide) (fun c22_ => ?_) (fun c22_ => ?_)
  · replace h := h.1 c22_
    exact cb_X9_readPartitionName_44 X hex hst hu Y (lv_sub hl [1, 0] rfl) h
  · replace h := h.2 c22_
    refine lv_aload_n hx hb dX9_readPartitionName_34 rfl (lv_at hl 1 rfl) ?_
    refine lv_bipush (v := 6) hx hb dX9_readPartitionName_35 (by decide) ?_
    refine lv_aload_n hx hb dX9_readPartitionName_37 rfl (lv_at hl 1 rfl) ?_
    obtain ⟨k23_, h⟩ := h
    refine q_getI X Y kX9 11 rfl fl_X9_113 k23_ dX9_readPartitionName_38 ?_
    obtain ⟨m26_, m27_, w28_, h⟩ := h
    refine q_callVX X hex Y hl (cm_X9_fail hst h) mt_X9_fail mi_X9_fail ml_X9_133 (ci := 9) rfl k23_ (by decide) rfl rfl (by first | exact Nat.le_of_ble_eq_true rfl | simp [q_cat, q_catI, q_catJ, q_catR]) ⟨Nat.le_of_ble_eq_true rfl, Nat.le_of_ble_eq_true rfl⟩ w28_ w28_ dX9_readPartitionName_41 (fun r24_ S25_ H locs hp Y => ?_)
    obtain ⟨rfl, h⟩ := hp
    replace hu := w28_
    refine W.eq (g2 := F0 m 44 ls []) rfl ?_
    exact cb_X9_readPartitionName_44 X hex hst hu Y (lv_sub hl [1, 0] rfl) h
def wm_X9_readPartitionName (bc bs : Nat) (S : q_S) (a0 : Nat) (Q : Option Value → q_S → Prop) (E : String → q_S → Prop) : Prop := q_K S a0 = 10 ∧ ((((q_I S 1808 a0) = (2 : Int32) → (wb_X9_readPartitionName_17 bc bs 0 0 S a0 Q E)) ∧ (¬ (q_I S 1808 a0) = (2 : Int32) → (∃ m33_ m34_ : Nat, (0 + m33_ ≤ bc ∧ 0 + m34_ ≤ bs) ∧ (wm_X9_fail m33_ m34_ S a0 (1 : Int32) (q_I S 1811 a0) (fun r31_ S32_ => r31_ = none ∧ (wb_X9_readPartitionName_17 bc bs (0 + m33_) (0 + m34_) S32_ a0 Q E)) E)))))
set_option maxHeartbeats 4000000 in
set_option maxRecDepth 100000 in
theorem cm_X9_readPartitionName {l : Launch} {D : va_G} {cy : Nat → ClassId} {lo : Nat} {bc bs : Nat} {S : q_S} {a0 : Nat} {Q : Option Value → q_S → Prop} {E : String → q_S → Prop} (hst : l.stackTraces = false) (h : wm_X9_readPartitionName bc bs S a0 Q E) : q_MetX l D cy lo yX9_readPartitionName cX9_readPartitionName 2 (some (.object "PartitionWorks$Partition")) 8 139 bc bs [.ref a0] S Q E := by
  refine q_bodyX (by decide) (by first | exact Nat.le_of_ble_eq_true rfl | simp [lg_sl, q_cat, q_catI, q_catJ, q_catR]) ?_
  intro p e s m below meth c ls X hex Y hl
  have hx := X.1
  have hb := X.2.1
  have hl : lv_has ls 2 [(0, .ref a0)] := by first | exact hl | simpa [lv_args, q_cat, q_catI, q_catJ, q_catR] using hl
  generalize hargs : ([.ref a0] : List Value).toArray = args at X ⊢
  have hu : 0 ≤ bc ∧ 0 ≤ bs := ⟨Nat.zero_le _, Nat.zero_le _⟩
  unfold wm_X9_readPartitionName at h
  refine lv_aload_n hx hb dX9_readPartitionName_0 rfl (lv_at hl 0 rfl) ?_
  obtain ⟨k29_, h⟩ := h
  refine q_getI X Y kX9 8 rfl fl_X9_119 k29_ dX9_readPartitionName_1 ?_
  refine lv_iconst (v := 2) hx hb dX9_readPartitionName_4 (by decide) ?_
  refine lv_icmp_eq (tgt := 17) hx hb dX9_readPartitionName_5 (by decide) (fun c30_ => ?_) (fun c30_ => ?_)
  · replace h := h.1 c30_
    exact cb_X9_readPartitionName_17 X hex hst hu Y (lv_sub hl [0] rfl) h
  · replace h := h.2 c30_
    refine lv_aload_n hx hb dX9_readPartitionName_8 rfl (lv_at hl 0 rfl) ?_
    refine lv_iconst (v := 1) hx hb dX9_readPartitionName_9 (by decide) ?_
    refine lv_aload_n hx hb dX9_readPartitionName_10 rfl (lv_at hl 0 rfl) ?_
    refine q_getI X Y kX9 11 rfl fl_X9_113 k29_ dX9_readPartitionName_11 ?_
    obtain ⟨m33_, m34_, w35_, h⟩ := h
    refine q_callVX X hex Y hl (cm_X9_fail hst h) mt_X9_fail mi_X9_fail ml_X9_133 (ci := 9) rfl k29_ (by decide) rfl rfl (by first | exact Nat.le_of_ble_eq_true rfl | simp [q_cat, q_catI, q_catJ, q_catR]) ⟨Nat.le_of_ble_eq_true rfl, Nat.le_of_ble_eq_true rfl⟩ w35_ w35_ dX9_readPartitionName_14 (fun r31_ S32_ H locs hp Y => ?_)
    obtain ⟨rfl, h⟩ := hp
    replace hu := w35_
    refine W.eq (g2 := F0 m 17 ls []) rfl ?_
    exact cb_X9_readPartitionName_17 X hex hst hu Y (lv_sub hl [0] rfl) h
-- X9_readPortName
theorem fl_X9_381 : Cond.fieldLink RX9 381 "PartitionWorks$Channel" "number" "I" ∈ q_G := q_tb (i := 1108) (by decide +kernel) (by decide +kernel)
theorem fl_X9_378 : Cond.fieldLink RX9 378 "PartitionWorks$Thing" "channel" "I" ∈ q_G := q_tb (i := 1023) (by decide +kernel) (by decide +kernel)
theorem ml_X9_370 : Cond.methodLink RX9 370 yX5_named ∈ q_G := q_tb (i := 1210) (by decide +kernel) (by decide +kernel)
theorem ml_X9_374 : Cond.methodLink RX9 374 yX5_thingAt ∈ q_G := q_tb (i := 1211) (by decide +kernel) (by decide +kernel)
theorem fl_X9_323 : Cond.fieldLink RX9 323 "PartitionWorks$Channel" "queuing" "Z" ∈ q_G := q_tb (i := 1113) (by decide +kernel) (by decide +kernel)
theorem dX9_readPortName_0 : decode cX9_readPortName 0 = .ok (.aload_n 0, 1) := by decide +kernel
theorem dX9_readPortName_1 : decode cX9_readPortName 1 = .ok (.getfield 119, 3) := by decide +kernel
theorem dX9_readPortName_4 : decode cX9_readPortName 4 = .ok (.iconst 2, 1) := by decide +kernel
theorem dX9_readPortName_5 : decode cX9_readPortName 5 = .ok (.if_icmp .eq 12, 3) := by decide +kernel
theorem dX9_readPortName_8 : decode cX9_readPortName 8 = .ok (.aload_n 0, 1) := by decide +kernel
theorem dX9_readPortName_9 : decode cX9_readPortName 9 = .ok (.iconst 1, 1) := by decide +kernel
theorem dX9_readPortName_10 : decode cX9_readPortName 10 = .ok (.aload_n 0, 1) := by decide +kernel
theorem dX9_readPortName_11 : decode cX9_readPortName 11 = .ok (.getfield 113, 3) := by decide +kernel
theorem dX9_readPortName_14 : decode cX9_readPortName 14 = .ok (.invokevirtual 133, 3) := by decide +kernel
theorem dX9_readPortName_17 : decode cX9_readPortName 17 = .ok (.aload_n 1, 1) := by decide +kernel
theorem dX9_readPortName_18 : decode cX9_readPortName 18 = .ok (.iconst 4, 1) := by decide +kernel
theorem dX9_readPortName_19 : decode cX9_readPortName 19 = .ok (.aload_n 0, 1) := by decide +kernel
theorem dX9_readPortName_20 : decode cX9_readPortName 20 = .ok (.getfield 137, 3) := by decide +kernel
theorem dX9_readPortName_23 : decode cX9_readPortName 23 = .ok (.invokevirtual 370, 3) := by decide +kernel
theorem dX9_readPortName_26 : decode cX9_readPortName 26 = .ok (.istore 4, 2) := by decide +kernel
theorem dX9_readPortName_28 : decode cX9_readPortName 28 = .ok (.aload_n 1, 1) := by decide +kernel
theorem dX9_readPortName_29 : decode cX9_readPortName 29 = .ok (.iconst 4, 1) := by decide +kernel
theorem dX9_readPortName_30 : decode cX9_readPortName 30 = .ok (.iload 4, 2) := by decide +kernel
theorem dX9_readPortName_32 : decode cX9_readPortName 32 = .ok (.invokevirtual 374, 3) := by decide +kernel
theorem dX9_readPortName_35 : decode cX9_readPortName 35 = .ok (.astore 5, 2) := by decide +kernel
theorem dX9_readPortName_37 : decode cX9_readPortName 37 = .ok (.aload 5, 2) := by decide +kernel
theorem dX9_readPortName_39 : decode cX9_readPortName 39 = .ok (.ifnonnull 16, 3) := by decide +kernel
theorem dX9_readPortName_42 : decode cX9_readPortName 42 = .ok (.aload_n 0, 1) := by decide +kernel
theorem dX9_readPortName_43 : decode cX9_readPortName 43 = .ok (.bipush 6, 2) := by decide +kernel
theorem dX9_readPortName_45 : decode cX9_readPortName 45 = .ok (.aload_n 0, 1) := by decide +kernel
theorem dX9_readPortName_46 : decode cX9_readPortName 46 = .ok (.getfield 113, 3) := by decide +kernel
theorem dX9_readPortName_49 : decode cX9_readPortName 49 = .ok (.invokevirtual 133, 3) := by decide +kernel
theorem dX9_readPortName_52 : decode cX9_readPortName 52 = .ok (.goto 52, 3) := by decide +kernel
theorem dX9_readPortName_55 : decode cX9_readPortName 55 = .ok (.aload 5, 2) := by decide +kernel
theorem dX9_readPortName_57 : decode cX9_readPortName 57 = .ok (.getfield 297, 3) := by decide +kernel
theorem dX9_readPortName_60 : decode cX9_readPortName 60 = .ok (.iload_n 3, 1) := by decide +kernel
theorem dX9_readPortName_61 : decode cX9_readPortName 61 = .ok (.if_icmp .ne 24, 3) := by decide +kernel
theorem dX9_readPortName_64 : decode cX9_readPortName 64 = .ok (.aload 5, 2) := by decide +kernel
theorem dX9_readPortName_66 : decode cX9_readPortName 66 = .ok (.getfield 304, 3) := by decide +kernel
theorem dX9_readPortName_69 : decode cX9_readPortName 69 = .ok (.aload_n 2, 1) := by decide +kernel
theorem dX9_readPortName_70 : decode cX9_readPortName 70 = .ok (.getfield 323, 3) := by decide +kernel
theorem dX9_readPortName_73 : decode cX9_readPortName 73 = .ok (.if_icmp .ne 12, 3) := by decide +kernel
theorem dX9_readPortName_76 : decode cX9_readPortName 76 = .ok (.aload 5, 2) := by decide +kernel
theorem dX9_readPortName_78 : decode cX9_readPortName 78 = .ok (.getfield 378, 3) := by decide +kernel
theorem dX9_readPortName_81 : decode cX9_readPortName 81 = .ok (.iconst (-1), 1) := by decide +kernel
theorem dX9_readPortName_82 : decode cX9_readPortName 82 = .ok (.if_icmp .eq 13, 3) := by decide +kernel
theorem dX9_readPortName_85 : decode cX9_readPortName 85 = .ok (.aload_n 0, 1) := by decide +kernel
theorem dX9_readPortName_86 : decode cX9_readPortName 86 = .ok (.bipush 7, 2) := by decide +kernel
theorem dX9_readPortName_88 : decode cX9_readPortName 88 = .ok (.aload_n 0, 1) := by decide +kernel
theorem dX9_readPortName_89 : decode cX9_readPortName 89 = .ok (.getfield 113, 3) := by decide +kernel
theorem dX9_readPortName_92 : decode cX9_readPortName 92 = .ok (.invokevirtual 133, 3) := by decide +kernel
theorem dX9_readPortName_95 : decode cX9_readPortName 95 = .ok (.aload 5, 2) := by decide +kernel
theorem dX9_readPortName_97 : decode cX9_readPortName 97 = .ok (.aload_n 2, 1) := by decide +kernel
theorem dX9_readPortName_98 : decode cX9_readPortName 98 = .ok (.getfield 381, 3) := by decide +kernel
theorem dX9_readPortName_101 : decode cX9_readPortName 101 = .ok (.putfield 378, 3) := by decide +kernel
theorem dX9_readPortName_104 : decode cX9_readPortName 104 = .ok (.aload_n 0, 1) := by decide +kernel
theorem dX9_readPortName_105 : decode cX9_readPortName 105 = .ok (.invokevirtual 78, 3) := by decide +kernel
theorem dX9_readPortName_108 : decode cX9_readPortName 108 = .ok (.bipush 32, 2) := by decide +kernel
theorem dX9_readPortName_110 : decode cX9_readPortName 110 = .ok (.iload 4, 2) := by decide +kernel
theorem dX9_readPortName_112 : decode cX9_readPortName 112 = .ok (.iadd, 1) := by decide +kernel
theorem dX9_readPortName_113 : decode cX9_readPortName 113 = .ok (.ireturn, 1) := by decide +kernel
def wb_X9_readPortName_104 (bc bs : Nat)  (u v : Nat) (S : q_S) (a0 : Nat) (x4 : Int32) (Q : Option Value → q_S → Prop) (E : String → q_S → Prop) : Prop := q_K S a0 = 10 ∧ (∃ m4_ m5_ : Nat, (u + m4_ ≤ bc ∧ v + m5_ ≤ bs) ∧ (wm_X9_advance m4_ m5_ S a0 (fun r2_ S3_ => r2_ = none ∧ (Q (some (.int ((32 : Int32) + x4))) S3_)) E))
set_option maxHeartbeats 4000000 in
set_option maxRecDepth 100000 in
theorem cb_X9_readPortName_104 {p : Program} {l : Launch} {e : Env} {s : State} {m : MethodId} {args : Array Value} {below : List Frame} {meth : Method} {c : Code} {D : va_G} {cy : Nat → ClassId} {lo : Nat} {bc bs : Nat}  {u v : Nat} {S : q_S} {a0 : Nat} {x4 : Int32} {Q : Option Value → q_S → Prop} {E : String → q_S → Prop} {H : Heap} {locs : List Loc} {ls : Array Slot} (X : q_X p s m args meth c RX9 cX9_readPortName 6 (some .int) D cy lo) (hex : ∀ x ∈ c.exceptionTable.toList, False) (hst : l.stackTraces = false)  (hu : u ≤ bc ∧ v ≤ bs) (Y : q_Y D cy lo s S H locs) (hl : lv_has ls 6 [(0, .ref a0), (4, .int x4)]) (h : wb_X9_readPortName_104 bc bs u v S a0 x4 Q E) : W p l e ({ frames := 8, cells := bc, slots := bs, locals := 139 } : Room) s m args below meth c H locs u v (vx_MQ below (q_Q D cy lo Q) (q_XE D cy lo E) args s bc bs (fun q => lo ≤ q)) (F0 m 104 ls []) := by
  have hx := X.1
  have hb := X.2.1
  unfold wb_X9_readPortName_104 at h
  refine lv_aload_n hx hb dX9_readPortName_104 rfl (lv_at hl 0 rfl) ?_
  obtain ⟨k1_, h⟩ := h
  obtain ⟨m4_, m5_, w6_, h⟩ := h
  refine q_callVX X hex Y hl (cm_X9_advance hst h) mt_X9_advance mi_X9_advance ml_X9_78 (ci := 9) rfl k1_ (by decide) rfl rfl (by first | exact Nat.le_of_ble_eq_true rfl | simp [q_cat, q_catI, q_catJ, q_catR]) ⟨Nat.le_of_ble_eq_true rfl, Nat.le_of_ble_eq_true rfl⟩ w6_ w6_ dX9_readPortName_105 (fun r2_ S3_ H locs hp Y => ?_)
  obtain ⟨rfl, h⟩ := hp
  replace hu := w6_
  refine W.eq (g2 := F0 m 108 ls []) rfl ?_
  refine lv_bipush (v := 32) hx hb dX9_readPortName_108 (by decide) ?_
  refine lv_iload hx hb dX9_readPortName_110 (lv_at hl 1 rfl) ?_
  refine lv_iadd hx hb dX9_readPortName_112 ?_
  exact vx_ret <| q_iret X Y rfl hu.1 hu.2 h dX9_readPortName_113
def wb_X9_readPortName_95 (bc bs : Nat)  (u v : Nat) (S : q_S) (a0 : Nat) (r2 : Option Nat) (x4 : Int32) (r5 : Option Nat) (Q : Option Value → q_S → Prop) (E : String → q_S → Prop) : Prop := ∃ a7_ : Nat, r2 = some a7_ ∧ (q_K S a7_ = 2 ∧ (∃ a10_ : Nat, r5 = some a10_ ∧ (q_K S a10_ = 11 ∧ (wb_X9_readPortName_104 bc bs u v (qs_I S 2008 a10_ (q_I S 200 a7_)) a0 x4 Q E))))
set_option maxHeartbeats 4000000 in
set_option maxRecDepth 100000 in
theorem cb_X9_readPortName_95 {p : Program} {l : Launch} {e : Env} {s : State} {m : MethodId} {args : Array Value} {below : List Frame} {meth : Method} {c : Code} {D : va_G} {cy : Nat → ClassId} {lo : Nat} {bc bs : Nat}  {u v : Nat} {S : q_S} {a0 : Nat} {r2 : Option Nat} {x4 : Int32} {r5 : Option Nat} {Q : Option Value → q_S → Prop} {E : String → q_S → Prop} {H : Heap} {locs : List Loc} {ls : Array Slot} (X : q_X p s m args meth c RX9 cX9_readPortName 6 (some .int) D cy lo) (hex : ∀ x ∈ c.exceptionTable.toList, False) (hst : l.stackTraces = false)  (hu : u ≤ bc ∧ v ≤ bs) (Y : q_Y D cy lo s S H locs) (hl : lv_has ls 6 [(0, .ref a0), (2, va_rf r2), (4, .int x4), (5, va_rf r5)]) (h : wb_X9_readPortName_95 bc bs u v S a0 r2 x4 r5 Q E) : W p l e ({ frames := 8, cells := bc, slots := bs, locals := 139 } : Room) s m args below meth c H locs u v (vx_MQ below (q_Q D cy lo Q) (q_XE D cy lo E) args s bc bs (fun q => lo ≤ q)) (F0 m 95 ls []) := by
  have hx := X.1
  have hb := X.2.1
  unfold wb_X9_readPortName_95 at h
  refine q_aload hx hb dX9_readPortName_95 (lv_at hl 3 rfl) ?_
  refine q_aload_n hx hb dX9_readPortName_97 rfl (lv_at hl 1 rfl) ?_
  obtain ⟨a7_, e8_, h⟩ := h
  refine q_nn [] e8_ ?_
  obtain ⟨k9_, h⟩ := h
  refine q_getI X Y kX1 0 rfl fl_X9_381 k9_ dX9_readPortName_98 ?_
  obtain ⟨a10_, e11_, h⟩ := h
  refine q_nn [.int (q_I S 200 a7_)] e11_ ?_
  obtain ⟨k12_, h⟩ := h
  refine q_putI X Y kX10 8 rfl fl_X9_378 k12_ .int rfl ⟨rfl, rfl⟩ rfl dX9_readPortName_101 (fun H locs Y => ?_)
  exact cb_X9_readPortName_104 X hex hst hu Y (lv_sub hl [0, 2] rfl) h
def wb_X9_readPortName_85 (bc bs : Nat)  (u v : Nat) (S : q_S) (a0 : Nat) (r2 : Option Nat) (x4 : Int32) (r5 : Option Nat) (Q : Option Value → q_S → Prop) (E : String → q_S → Prop) : Prop := q_K S a0 = 10 ∧ (∃ m16_ m17_ : Nat, (u + m16_ ≤ bc ∧ v + m17_ ≤ bs) ∧ (wm_X9_fail m16_ m17_ S a0 (7 : Int32) (q_I S 1811 a0) (fun r14_ S15_ => r14_ = none ∧ (wb_X9_readPortName_95 bc bs (u + m16_) (v + m17_) S15_ a0 r2 x4 r5 Q E)) E))
set_option maxHeartbeats 4000000 in
set_option maxRecDepth 100000 in
theorem cb_X9_readPortName_85 {p : Program} {l : Launch} {e : Env} {s : State} {m : MethodId} {args : Array Value} {below : List Frame} {meth : Method} {c : Code} {D : va_G} {cy : Nat → ClassId} {lo : Nat} {bc bs : Nat}  {u v : Nat} {S : q_S} {a0 : Nat} {r2 : Option Nat} {x4 : Int32} {r5 : Option Nat} {Q : Option Value → q_S → Prop} {E : String → q_S → Prop} {H : Heap} {locs : List Loc} {ls : Array Slot} (X : q_X p s m args meth c RX9 cX9_readPortName 6 (some .int) D cy lo) (hex : ∀ x ∈ c.exceptionTable.toList, False) (hst : l.stackTraces = false)  (hu : u ≤ bc ∧ v ≤ bs) (Y : q_Y D cy lo s S H locs) (hl : lv_has ls 6 [(0, .ref a0), (2, va_rf r2), (4, .int x4), (5, va_rf r5)]) (h : wb_X9_readPortName_85 bc bs u v S a0 r2 x4 r5 Q E) : W p l e ({ frames := 8, cells := bc, slots := bs, locals := 139 } : Room) s m args below meth c H locs u v (vx_MQ below (q_Q D cy lo Q) (q_XE D cy lo E) args s bc bs (fun q => lo ≤ q)) (F0 m 85 ls []) := by
  have hx := X.1
  have hb := X.2.1
  unfold wb_X9_readPortName_85 at h
  refine lv_aload_n hx hb dX9_readPortName_85 rfl (lv_at hl 0 rfl) ?_
  refine lv_bipush (v := 7) hx hb dX9_readPortName_86 (by decide) ?_
  refine lv_aload_n hx hb dX9_readPortName_88 rfl (lv_at hl 0 rfl) ?_
  obtain ⟨k13_, h⟩ := h
  refine q_getI X Y kX9 11 rfl fl_X9_113 k13_ dX9_readPortName_89 ?_
  obtain ⟨m16_, m17_, w18_, h⟩ := h
  refine q_callVX X hex Y hl (cm_X9_fail hst h) mt_X9_fail mi_X9_fail ml_X9_133 (ci := 9) rfl k13_ (by decide) rfl rfl (by first | exact Nat.le_of_ble_eq_true rfl | simp [q_cat, q_catI, q_catJ, q_catR]) ⟨Nat.le_of_ble_eq_true rfl, Nat.le_of_ble_eq_true rfl⟩ w18_ w18_ dX9_readPortName_92 (fun r14_ S15_ H locs hp Y => ?_)
  obtain ⟨rfl, h⟩ := hp
  replace hu := w18_
  refine W.eq (g2 := F0 m 95 ls []) rfl ?_
  exact cb_X9_readPortName_95 X hex hst hu Y (lv_sub hl [0, 1, 2, 3] rfl) h
def wb_X9_readPortName_17 (bc bs : Nat)  (u v : Nat) (S : q_S) (a0 : Nat) (r1 : Option Nat) (r2 : Option Nat) (x3 : Int32) (Q : Option Value → q_S → Prop) (E : String → q_S → Prop) : Prop := q_K S a0 = 10 ∧ (∃ a20_ : Nat, r1 = some a20_ ∧ (q_K S a20_ = 6 ∧ (wm_X5_named S a20_ (4 : Int32) (q_J S 1810 a0) (fun r23_ S24_ => ∃ x25_ : Int32, r23_ = some (.int x25_) ∧ (q_K S24_ a20_ = 6 ∧ (wm_X5_thingAt S24_ a20_ (4 : Int32) x25_ (fun r27_ S28_ => ∃ r29_ : Option Nat, r27_ = some (va_rf r29_) ∧ (((¬ r29_ = none → (∃ a31_ : Nat, r29_ = some a31_ ∧ (q_K S28_ a31_ = 11 ∧ (((¬ (q_I S28_ 2006 a31_) = x3 → (wb_X9_readPortName_85 bc bs u v S28_ a0 r2 x25_ r29_ Q E)) ∧ ((q_I S28_ 2006 a31_) = x3 → (∃ a35_ : Nat, r2 = some a35_ ∧ (q_K S28_ a35_ = 2 ∧ (((¬ (q_I S28_ 2007 a31_) = (q_I S28_ 201 a35_) → (wb_X9_readPortName_85 bc bs u v S28_ a0 r2 x25_ r29_ Q E)) ∧ ((q_I S28_ 2007 a31_) = (q_I S28_ 201 a35_) → ((((q_I S28_ 2008 a31_) = (-1 : Int32) → (wb_X9_readPortName_95 bc bs u v S28_ a0 r2 x25_ r29_ Q E)) ∧ (¬ (q_I S28_ 2008 a31_) = (-1 : Int32) → (wb_X9_readPortName_85 bc bs u v S28_ a0 r2 x25_ r29_ Q E))))))))))))))) ∧ (r29_ = none → (q_K S28_ a0 = 10 ∧ (∃ m43_ m44_ : Nat, (u + m43_ ≤ bc ∧ v + m44_ ≤ bs) ∧ (wm_X9_fail m43_ m44_ S28_ a0 (6 : Int32) (q_I S28_ 1811 a0) (fun r41_ S42_ => r41_ = none ∧ (wb_X9_readPortName_104 bc bs (u + m43_) (v + m44_) S42_ a0 x25_ Q E)) E)))))))))))))
set_option maxHeartbeats 4000000 in
set_option maxRecDepth 100000 in
theorem cb_X9_readPortName_17 {p : Program} {l : Launch} {e : Env} {s : State} {m : MethodId} {args : Array Value} {below : List Frame} {meth : Method} {c : Code} {D : va_G} {cy : Nat → ClassId} {lo : Nat} {bc bs : Nat}  {u v : Nat} {S : q_S} {a0 : Nat} {r1 : Option Nat} {r2 : Option Nat} {x3 : Int32} {Q : Option Value → q_S → Prop} {E : String → q_S → Prop} {H : Heap} {locs : List Loc} {ls : Array Slot} (X : q_X p s m args meth c RX9 cX9_readPortName 6 (some .int) D cy lo) (hex : ∀ x ∈ c.exceptionTable.toList, False) (hst : l.stackTraces = false)  (hu : u ≤ bc ∧ v ≤ bs) (Y : q_Y D cy lo s S H locs) (hl : lv_has ls 6 [(0, .ref a0), (1, va_rf r1), (2, va_rf r2), (3, .int x3)]) (h : wb_X9_readPortName_17 bc bs u v S a0 r1 r2 x3 Q E) : W p l e ({ frames := 8, cells := bc, slots := bs, locals := 139 } : Room) s m args below meth c H locs u v (vx_MQ below (q_Q D cy lo Q) (q_XE D cy lo E) args s bc bs (fun q => lo ≤ q)) (F0 m 17 ls []) := by
  have hx := X.1
  have hb := X.2.1
  unfold wb_X9_readPortName_17 at h
  refine q_aload_n hx hb dX9_readPortName_17 rfl (lv_at hl 1 rfl) ?_
  refine lv_iconst (v := 4) hx hb dX9_readPortName_18 (by decide) ?_
  refine lv_aload_n hx hb dX9_readPortName_19 rfl (lv_at hl 0 rfl) ?_
  obtain ⟨k19_, h⟩ := h
  refine q_getJ X Y kX9 10 rfl fl_X9_137 k19_ dX9_readPortName_20 ?_
  obtain ⟨a20_, e21_, h⟩ := h
  refine q_nn [.long (q_J S 1810 a0), .int (4 : Int32)] e21_ ?_
  obtain ⟨k22_, h⟩ := h
  refine q_callV X Y hl (cm_X5_named h) mt_X5_named mi_X5_named ml_X9_370 (ci := 5) rfl k22_ (by decide) rfl rfl (by first | exact Nat.le_of_ble_eq_true rfl | simp [q_cat, q_catI, q_catJ, q_catR]) ⟨Nat.le_of_ble_eq_true rfl, Nat.le_of_ble_eq_true rfl⟩ hu dX9_readPortName_23 (fun r23_ S24_ H locs hp Y => ?_)
  obtain ⟨x25_, rfl, h⟩ := hp
  refine W.eq (g2 := F0 m 26 ls [.int x25_]) rfl ?_
  refine lv_istore (i := 4) (lv' := [(4, .int x25_), (0, .ref a0), (1, va_rf r1), (2, va_rf r2), (3, .int x3)]) hx hb dX9_readPortName_26 hl (by decide) (by first | rfl | simp [q_cat, q_catI, q_catJ, q_catR]) (fun ls hl => ?_)
  refine q_aload_n hx hb dX9_readPortName_28 rfl (lv_at hl 2 rfl) ?_
  refine lv_iconst (v := 4) hx hb dX9_readPortName_29 (by decide) ?_
  refine lv_iload hx hb dX9_readPortName_30 (lv_at hl 0 rfl) ?_
  refine q_nn [.int x25_, .int (4 : Int32)] e21_ ?_
  obtain ⟨k26_, h⟩ := h
  refine q_callV X Y hl (cm_X5_thingAt h) mt_X5_thingAt mi_X5_thingAt ml_X9_374 (ci := 5) rfl k26_ (by decide) rfl rfl (by first | exact Nat.le_of_ble_eq_true rfl | simp [q_cat, q_catI, q_catJ, q_catR]) ⟨Nat.le_of_ble_eq_true rfl, Nat.le_of_ble_eq_true rfl⟩ hu dX9_readPortName_32 (fun r27_ S28_ H locs hp Y => ?_)
  obtain ⟨r29_, rfl, h⟩ := hp
  refine W.eq (g2 := F0 m 35 ls [va_rf r29_]) rfl ?_
  refine q_astore (i := 5) (lv' := [(5, va_rf r29_), (4, .int x25_), (0, .ref a0), (1, va_rf r1), (2, va_rf r2), (3, .int x3)]) hx hb dX9_readPortName_35 hl (by decide) (by first | rfl | simp [q_cat, q_catI, q_catJ, q_catR]) (fun ls hl => ?_)
  refine q_aload hx hb dX9_readPortName_37 (lv_at hl 0 rfl) ?_
  refine q_ifnonnull (r := r29_) (tgt := 55) hx hb dX9_readPortName_39 (by decide) (fun c30_ => ?_) (fun c30_ => ?_)
  · replace h := h.1 c30_
    refine q_aload hx hb dX9_readPortName_55 (lv_at hl 0 rfl) ?_
    obtain ⟨a31_, e32_, h⟩ := h
    refine q_nn [] e32_ ?_
    obtain ⟨k33_, h⟩ := h
    refine q_getI X Y kX10 6 rfl fl_X9_297 k33_ dX9_readPortName_57 ?_
    refine lv_iload_n hx hb dX9_readPortName_60 rfl (lv_at hl 5 rfl) ?_
    refine lv_icmp_ne (tgt := 85) hx hb dX9_readPortName_61 (by decide) (fun c34_ => ?_) (fun c34_ => ?_)
    · replace h := h.1 c34_
      exact cb_X9_readPortName_85 X hex hst hu Y (lv_sub hl [2, 4, 1, 0] rfl) h
    · replace h := h.2 c34_
      refine q_aload hx hb dX9_readPortName_64 (lv_at hl 0 rfl) ?_
      refine q_nn [] e32_ ?_
      refine q_getI X Y kX10 7 rfl fl_X9_304 k33_ dX9_readPortName_66 ?_
      refine q_aload_n hx hb dX9_readPortName_69 rfl (lv_at hl 4 rfl) ?_
      obtain ⟨a35_, e36_, h⟩ := h
      refine q_nn [] e36_ ?_
      obtain ⟨k37_, h⟩ := h
      refine q_getI X Y kX1 1 rfl fl_X9_323 k37_ dX9_readPortName_70 ?_
      refine lv_icmp_ne (tgt := 85) hx hb dX9_readPortName_73 (by decide) (fun c38_ => ?_) (fun c38_ => ?_)
      · replace h := h.1 c38_
        exact cb_X9_readPortName_85 X hex hst hu Y (lv_sub hl [2, 4, 1, 0] rfl) h
      · replace h := h.2 c38_
        refine q_aload hx hb dX9_readPortName_76 (lv_at hl 0 rfl) ?_
        refine q_nn [] e32_ ?_
        refine q_getI X Y kX10 8 rfl fl_X9_378 k33_ dX9_readPortName_78 ?_
        refine lv_iconst (v := (-1)) hx hb dX9_readPortName_81 (by decide) ?_
        refine lv_icmp_eq (tgt := 95) hx hb dX9_readPortName_82 (by decide) (fun c39_ => ?_) (fun c39_ => ?_)
        · replace h := h.1 c39_
          exact cb_X9_readPortName_95 X hex hst hu Y (lv_sub hl [2, 4, 1, 0] rfl) h
        · replace h := h.2 c39_
          exact cb_X9_readPortName_85 X hex hst hu Y (lv_sub hl [2, 4, 1, 0] rfl) h
  · replace h := h.2 c30_
    refine lv_aload_n hx hb dX9_readPortName_42 rfl (lv_at hl 2 rfl) ?_
    refine lv_bipush (v := 6) hx hb dX9_readPortName_43 (by decide) ?_
    refine lv_aload_n hx hb dX9_readPortName_45 rfl (lv_at hl 2 rfl) ?_
    obtain ⟨k40_, h⟩ := h
    refine q_getI X Y kX9 11 rfl fl_X9_113 k40_ dX9_readPortName_46 ?_
    obtain ⟨m43_, m44_, w45_, h⟩ := h
    refine q_callVX X hex Y hl (cm_X9_fail hst h) mt_X9_fail mi_X9_fail ml_X9_133 (ci := 9) rfl k40_ (by decide) rfl rfl (by first | exact Nat.le_of_ble_eq_true rfl | simp [q_cat, q_catI, q_catJ, q_catR]) ⟨Nat.le_of_ble_eq_true rfl, Nat.le_of_ble_eq_true rfl⟩ w45_ w45_ dX9_readPortName_49 (fun r41_ S42_ H locs hp Y => ?_)
    obtain ⟨rfl, h⟩ := hp
    replace hu := w45_
    refine W.eq (g2 := F0 m 52 ls []) rfl ?_
    refine lv_goto (tgt := 104) hx hb dX9_readPortName_52 (by decide) ?_
    exact cb_X9_readPortName_104 X hex hst hu Y (lv_sub hl [2, 1] rfl) h
def wm_X9_readPortName (bc bs : Nat) (S : q_S) (a0 : Nat) (r1 : Option Nat) (r2 : Option Nat) (x3 : Int32) (Q : Option Value → q_S → Prop) (E : String → q_S → Prop) : Prop := q_K S a0 = 10 ∧ ((((q_I S 1808 a0) = (2 : Int32) → (wb_X9_readPortName_17 bc bs 0 0 S a0 r1 r2 x3 Q E)) ∧ (¬ (q_I S 1808 a0) = (2 : Int32) → (∃ m50_ m51_ : Nat, (0 + m50_ ≤ bc ∧ 0 + m51_ ≤ bs) ∧ (wm_X9_fail m50_ m51_ S a0 (1 : Int32) (q_I S 1811 a0) (fun r48_ S49_ => r48_ = none ∧ (wb_X9_readPortName_17 bc bs (0 + m50_) (0 + m51_) S49_ a0 r1 r2 x3 Q E)) E)))))
set_option maxHeartbeats 4000000 in
set_option maxRecDepth 100000 in
theorem cm_X9_readPortName {l : Launch} {D : va_G} {cy : Nat → ClassId} {lo : Nat} {bc bs : Nat} {S : q_S} {a0 : Nat} {r1 : Option Nat} {r2 : Option Nat} {x3 : Int32} {Q : Option Value → q_S → Prop} {E : String → q_S → Prop} (hst : l.stackTraces = false) (h : wm_X9_readPortName bc bs S a0 r1 r2 x3 Q E) : q_MetX l D cy lo yX9_readPortName cX9_readPortName 6 (some .int) 8 139 bc bs [.ref a0, va_rf r1, va_rf r2, .int x3] S Q E := by
  refine q_bodyX (by decide) (by first | exact Nat.le_of_ble_eq_true rfl | simp [lg_sl, q_cat, q_catI, q_catJ, q_catR]) ?_
  intro p e s m below meth c ls X hex Y hl
  have hx := X.1
  have hb := X.2.1
  have hl : lv_has ls 6 [(0, .ref a0), (1, va_rf r1), (2, va_rf r2), (3, .int x3)] := by first | exact hl | simpa [lv_args, q_cat, q_catI, q_catJ, q_catR] using hl
  generalize hargs : ([.ref a0, va_rf r1, va_rf r2, .int x3] : List Value).toArray = args at X ⊢
  have hu : 0 ≤ bc ∧ 0 ≤ bs := ⟨Nat.zero_le _, Nat.zero_le _⟩
  unfold wm_X9_readPortName at h
  refine lv_aload_n hx hb dX9_readPortName_0 rfl (lv_at hl 0 rfl) ?_
  obtain ⟨k46_, h⟩ := h
  refine q_getI X Y kX9 8 rfl fl_X9_119 k46_ dX9_readPortName_1 ?_
  refine lv_iconst (v := 2) hx hb dX9_readPortName_4 (by decide) ?_
  refine lv_icmp_eq (tgt := 17) hx hb dX9_readPortName_5 (by decide) (fun c47_ => ?_) (fun c47_ => ?_)
  · replace h := h.1 c47_
    exact cb_X9_readPortName_17 X hex hst hu Y (lv_sub hl [0, 1, 2, 3] rfl) h
  · replace h := h.2 c47_
    refine lv_aload_n hx hb dX9_readPortName_8 rfl (lv_at hl 0 rfl) ?_
    refine lv_iconst (v := 1) hx hb dX9_readPortName_9 (by decide) ?_
    refine lv_aload_n hx hb dX9_readPortName_10 rfl (lv_at hl 0 rfl) ?_
    refine q_getI X Y kX9 11 rfl fl_X9_113 k46_ dX9_readPortName_11 ?_
    obtain ⟨m50_, m51_, w52_, h⟩ := h
    refine q_callVX X hex Y hl (cm_X9_fail hst h) mt_X9_fail mi_X9_fail ml_X9_133 (ci := 9) rfl k46_ (by decide) rfl rfl (by first | exact Nat.le_of_ble_eq_true rfl | simp [q_cat, q_catI, q_catJ, q_catR]) ⟨Nat.le_of_ble_eq_true rfl, Nat.le_of_ble_eq_true rfl⟩ w52_ w52_ dX9_readPortName_14 (fun r48_ S49_ H locs hp Y => ?_)
    obtain ⟨rfl, h⟩ := hp
    replace hu := w52_
    refine W.eq (g2 := F0 m 17 ls []) rfl ?_
    exact cb_X9_readPortName_17 X hex hst hu Y (lv_sub hl [0, 1, 2, 3] rfl) h
-- X9_readSource
theorem ml_X9_343 : Cond.methodLink RX9 343 yX9_readPartitionName ∈ q_G := q_tb (i := 1202) (by decide +kernel) (by decide +kernel)
theorem mt_X9_readPartitionName : q_Mt yX9_readPartitionName cX9_readPartitionName 2 (some (.object "PartitionWorks$Partition")) 0 := ⟨q_tb (i := 1205) (by decide +kernel) (by decide +kernel), q_tb (i := 2) (by decide +kernel) (by decide +kernel), by decide +kernel, by decide +kernel, by decide +kernel⟩
theorem mi_X9_readPartitionName : Cond.instanceMethod yX9_readPartitionName ∈ q_G ∧ Cond.selects yX9_readPartitionName.cls yX9_readPartitionName yX9_readPartitionName ∈ q_G := ⟨q_tb (i := 1204) (by decide +kernel) (by decide +kernel), q_tp (i := 30) (q := (yX9_readPartitionName, 14)) (by decide +kernel) (by decide +kernel)⟩
theorem fl_X9_346 : Cond.fieldLink RX9 346 "PartitionWorks$Channel" "source" "LPartitionWorks$Partition;" ∈ q_G := q_tb (i := 1137) (by decide +kernel) (by decide +kernel)
theorem ml_X9_350 : Cond.methodLink RX9 350 yX9_readPortName ∈ q_G := q_tb (i := 1206) (by decide +kernel) (by decide +kernel)
theorem mt_X9_readPortName : q_Mt yX9_readPortName cX9_readPortName 6 (some .int) 3 := ⟨q_tb (i := 1209) (by decide +kernel) (by decide +kernel), q_tb (i := 2) (by decide +kernel) (by decide +kernel), by decide +kernel, by decide +kernel, by decide +kernel⟩
theorem mi_X9_readPortName : Cond.instanceMethod yX9_readPortName ∈ q_G ∧ Cond.selects yX9_readPortName.cls yX9_readPortName yX9_readPortName ∈ q_G := ⟨q_tb (i := 1208) (by decide +kernel) (by decide +kernel), q_tp (i := 31) (q := (yX9_readPortName, 14)) (by decide +kernel) (by decide +kernel)⟩
theorem fl_X9_354 : Cond.fieldLink RX9 354 "PartitionWorks$Channel" "sourceSlot" "I" ∈ q_G := q_tb (i := 1139) (by decide +kernel) (by decide +kernel)
theorem ml_X9_340 : Cond.methodLink RX9 340 yX6_addInput ∈ q_G := q_tb (i := 1198) (by decide +kernel) (by decide +kernel)
theorem mt_X6_addInput : q_Mt yX6_addInput cX6_addInput 2 none 1 := ⟨q_tb (i := 1201) (by decide +kernel) (by decide +kernel), q_tb (i := 3) (by decide +kernel) (by decide +kernel), by decide +kernel, by decide +kernel, by decide +kernel⟩
theorem mi_X6_addInput : Cond.instanceMethod yX6_addInput ∈ q_G ∧ Cond.selects yX6_addInput.cls yX6_addInput yX6_addInput ∈ q_G := ⟨q_tb (i := 1199) (by decide +kernel) (by decide +kernel), q_tb (i := 1200) (by decide +kernel) (by decide +kernel)⟩
theorem dX9_readSource_0 : decode cX9_readSource 0 = .ok (.aload_n 0, 1) := by decide +kernel
theorem dX9_readSource_1 : decode cX9_readSource 1 = .ok (.bipush 27, 2) := by decide +kernel
theorem dX9_readSource_3 : decode cX9_readSource 3 = .ok (.invokevirtual 248, 3) := by decide +kernel
theorem dX9_readSource_6 : decode cX9_readSource 6 = .ok (.ifCond .eq 12, 3) := by decide +kernel
theorem dX9_readSource_9 : decode cX9_readSource 9 = .ok (.aload_n 0, 1) := by decide +kernel
theorem dX9_readSource_10 : decode cX9_readSource 10 = .ok (.getfield 12, 3) := by decide +kernel
theorem dX9_readSource_13 : decode cX9_readSource 13 = .ok (.aload_n 1, 1) := by decide +kernel
theorem dX9_readSource_14 : decode cX9_readSource 14 = .ok (.invokevirtual 340, 3) := by decide +kernel
theorem dX9_readSource_17 : decode cX9_readSource 17 = .ok (.return_, 1) := by decide +kernel
theorem dX9_readSource_18 : decode cX9_readSource 18 = .ok (.aload_n 0, 1) := by decide +kernel
theorem dX9_readSource_19 : decode cX9_readSource 19 = .ok (.invokevirtual 343, 3) := by decide +kernel
theorem dX9_readSource_22 : decode cX9_readSource 22 = .ok (.astore_n 2, 1) := by decide +kernel
theorem dX9_readSource_23 : decode cX9_readSource 23 = .ok (.aload_n 0, 1) := by decide +kernel
theorem dX9_readSource_24 : decode cX9_readSource 24 = .ok (.bipush 46, 2) := by decide +kernel
theorem dX9_readSource_26 : decode cX9_readSource 26 = .ok (.invokevirtual 160, 3) := by decide +kernel
theorem dX9_readSource_29 : decode cX9_readSource 29 = .ok (.aload_n 1, 1) := by decide +kernel
theorem dX9_readSource_30 : decode cX9_readSource 30 = .ok (.aload_n 2, 1) := by decide +kernel
theorem dX9_readSource_31 : decode cX9_readSource 31 = .ok (.putfield 346, 3) := by decide +kernel
theorem dX9_readSource_34 : decode cX9_readSource 34 = .ok (.aload_n 1, 1) := by decide +kernel
theorem dX9_readSource_35 : decode cX9_readSource 35 = .ok (.aload_n 0, 1) := by decide +kernel
theorem dX9_readSource_36 : decode cX9_readSource 36 = .ok (.aload_n 2, 1) := by decide +kernel
theorem dX9_readSource_37 : decode cX9_readSource 37 = .ok (.aload_n 1, 1) := by decide +kernel
theorem dX9_readSource_38 : decode cX9_readSource 38 = .ok (.iconst 1, 1) := by decide +kernel
theorem dX9_readSource_39 : decode cX9_readSource 39 = .ok (.invokevirtual 350, 3) := by decide +kernel
theorem dX9_readSource_42 : decode cX9_readSource 42 = .ok (.putfield 354, 3) := by decide +kernel
theorem dX9_readSource_45 : decode cX9_readSource 45 = .ok (.return_, 1) := by decide +kernel
def wm_X9_readSource (bc bs : Nat) (S : q_S) (a0 : Nat) (r1 : Option Nat) (Q : Option Value → q_S → Prop) (E : String → q_S → Prop) : Prop := q_K S a0 = 10 ∧ (∃ m4_ m5_ : Nat, (0 + m4_ ≤ bc ∧ 0 + m5_ ≤ bs) ∧ (wm_X9_takes m4_ m5_ S a0 (27 : Int32) (fun r2_ S3_ => ∃ x7_ : Int32, r2_ = some (.int x7_) ∧ (((x7_ = 0 → (q_K S3_ a0 = 10 ∧ (∃ m12_ m13_ : Nat, ((0 + m4_) + m12_ ≤ bc ∧ (0 + m5_) + m13_ ≤ bs) ∧ (wm_X9_readPartitionName m12_ m13_ S3_ a0 (fun r10_ S11_ => ∃ r15_ : Option Nat, r10_ = some (va_rf r15_) ∧ (q_K S11_ a0 = 10 ∧ (∃ m19_ m20_ : Nat, (((0 + m4_) + m12_) + m19_ ≤ bc ∧ ((0 + m5_) + m13_) + m20_ ≤ bs) ∧ (wm_X9_expectSign m19_ m20_ S11_ a0 (46 : Int32) (fun r17_ S18_ => r17_ = none ∧ (∃ a22_ : Nat, r1 = some a22_ ∧ (q_K S18_ a22_ = 2 ∧ (q_K (qs_P S18_ 209 a22_ r15_) a0 = 10 ∧ (∃ m28_ m29_ : Nat, ((((0 + m4_) + m12_) + m19_) + m28_ ≤ bc ∧ (((0 + m5_) + m13_) + m20_) + m29_ ≤ bs) ∧ (wm_X9_readPortName m28_ m29_ (qs_P S18_ 209 a22_ r15_) a0 r15_ r1 (1 : Int32) (fun r26_ S27_ => ∃ x31_ : Int32, r26_ = some (.int x31_) ∧ (q_K S27_ a22_ = 2 ∧ (Q none (qs_I S27_ 210 a22_ x31_)))) E)))))) E)))) E)))) ∧ (¬ x7_ = 0 → (q_K S3_ a0 = 10 ∧ (∃ a34_ : Nat, (q_P S3_ 1800 a0) = some a34_ ∧ (q_K S3_ a34_ = 7 ∧ (wm_X6_addInput S3_ a34_ r1 (fun r37_ S38_ => r37_ = none ∧ (Q none S38_)))))))))) E))
set_option maxHeartbeats 4000000 in
set_option maxRecDepth 100000 in
theorem cm_X9_readSource {l : Launch} {D : va_G} {cy : Nat → ClassId} {lo : Nat} {bc bs : Nat} {S : q_S} {a0 : Nat} {r1 : Option Nat} {Q : Option Value → q_S → Prop} {E : String → q_S → Prop} (hst : l.stackTraces = false) (h : wm_X9_readSource bc bs S a0 r1 Q E) : q_MetX l D cy lo yX9_readSource cX9_readSource 3 none 9 164 bc bs [.ref a0, va_rf r1] S Q E := by
  refine q_bodyX (by decide) (by first | exact Nat.le_of_ble_eq_true rfl | simp [lg_sl, q_cat, q_catI, q_catJ, q_catR]) ?_
  intro p e s m below meth c ls X hex Y hl
  have hx := X.1
  have hb := X.2.1
  have hl : lv_has ls 3 [(0, .ref a0), (1, va_rf r1)] := by first | exact hl | simpa [lv_args, q_cat, q_catI, q_catJ, q_catR] using hl
  generalize hargs : ([.ref a0, va_rf r1] : List Value).toArray = args at X ⊢
  have hu : 0 ≤ bc ∧ 0 ≤ bs := ⟨Nat.zero_le _, Nat.zero_le _⟩
  unfold wm_X9_readSource at h
  refine lv_aload_n hx hb dX9_readSource_0 rfl (lv_at hl 0 rfl) ?_
  refine lv_bipush (v := 27) hx hb dX9_readSource_1 (by decide) ?_
  obtain ⟨k1_, h⟩ := h
  obtain ⟨m4_, m5_, w6_, h⟩ := h
  refine q_callVX X hex Y hl (cm_X9_takes hst h) mt_X9_takes mi_X9_takes ml_X9_248 (ci := 9) rfl k1_ (by decide) rfl rfl (by first | exact Nat.le_of_ble_eq_true rfl | simp [q_cat, q_catI, q_catJ, q_catR]) ⟨Nat.le_of_ble_eq_true rfl, Nat.le_of_ble_eq_true rfl⟩ w6_ w6_ dX9_readSource_3 (fun r2_ S3_ H locs hp Y => ?_)
  obtain ⟨x7_, rfl, h⟩ := hp
  replace hu := w6_
  refine W.eq (g2 := F0 m 6 ls [.int x7_]) rfl ?_
  refine lv_if_eq (tgt := 18) hx hb dX9_readSource_6 (by decide) (fun c8_ => ?_) (fun c8_ => ?_)
  · replace h := h.1 c8_
    refine lv_aload_n hx hb dX9_readSource_18 rfl (lv_at hl 0 rfl) ?_
    obtain ⟨k9_, h⟩ := h
    obtain ⟨m12_, m13_, w14_, h⟩ := h
    refine q_callVX X hex Y hl (cm_X9_readPartitionName hst h) mt_X9_readPartitionName mi_X9_readPartitionName ml_X9_343 (ci := 9) rfl k9_ (by decide) rfl rfl (by first | exact Nat.le_of_ble_eq_true rfl | simp [q_cat, q_catI, q_catJ, q_catR]) ⟨Nat.le_of_ble_eq_true rfl, Nat.le_of_ble_eq_true rfl⟩ w14_ w14_ dX9_readSource_19 (fun r10_ S11_ H locs hp Y => ?_)
    obtain ⟨r15_, rfl, h⟩ := hp
    replace hu := w14_
    refine W.eq (g2 := F0 m 22 ls [va_rf r15_]) rfl ?_
    refine q_astore_n (i := 2) (lv' := [(2, va_rf r15_), (0, .ref a0), (1, va_rf r1)]) hx hb dX9_readSource_22 rfl hl (by decide) (by first | rfl | simp [q_cat, q_catI, q_catJ, q_catR]) (fun ls hl => ?_)
    refine lv_aload_n hx hb dX9_readSource_23 rfl (lv_at hl 1 rfl) ?_
    refine lv_bipush (v := 46) hx hb dX9_readSource_24 (by decide) ?_
    obtain ⟨k16_, h⟩ := h
    obtain ⟨m19_, m20_, w21_, h⟩ := h
    refine q_callVX X hex Y hl (cm_X9_expectSign hst h) mt_X9_expectSign mi_X9_expectSign ml_X9_160 (ci := 9) rfl k16_ (by decide) rfl rfl (by first | exact Nat.le_of_ble_eq_true rfl | simp [q_cat, q_catI, q_catJ, q_catR]) ⟨Nat.le_of_ble_eq_true rfl, Nat.le_of_ble_eq_true rfl⟩ w21_ w21_ dX9_readSource_26 (fun r17_ S18_ H locs hp Y => ?_)
    obtain ⟨rfl, h⟩ := hp
    replace hu := w21_
    refine W.eq (g2 := F0 m 29 ls []) rfl ?_
    refine q_aload_n hx hb dX9_readSource_29 rfl (lv_at hl 2 rfl) ?_
    refine q_aload_n hx hb dX9_readSource_30 rfl (lv_at hl 0 rfl) ?_
    obtain ⟨a22_, e23_, h⟩ := h
    refine q_nn [va_rf r15_] e23_ ?_
    obtain ⟨k24_, h⟩ := h
    refine q_putP X Y r15_ rfl kX1 9 rfl fl_X9_346 k24_ _ rfl (Or.inl ⟨_, rfl⟩) (Or.inl rfl) dX9_readSource_31 (fun H locs Y => ?_)
    refine q_aload_n hx hb dX9_readSource_34 rfl (lv_at hl 2 rfl) ?_
    refine lv_aload_n hx hb dX9_readSource_35 rfl (lv_at hl 1 rfl) ?_
    refine q_aload_n hx hb dX9_readSource_36 rfl (lv_at hl 0 rfl) ?_
    refine q_aload_n hx hb dX9_readSource_37 rfl (lv_at hl 2 rfl) ?_
    refine lv_iconst (v := 1) hx hb dX9_readSource_38 (by decide) ?_
    obtain ⟨k25_, h⟩ := h
    obtain ⟨m28_, m29_, w30_, h⟩ := h
    refine q_callVX X hex Y hl (cm_X9_readPortName hst h) mt_X9_readPortName mi_X9_readPortName ml_X9_350 (ci := 9) rfl k25_ (by decide) rfl rfl (by first | exact Nat.le_of_ble_eq_true rfl | simp [q_cat, q_catI, q_catJ, q_catR]) ⟨Nat.le_of_ble_eq_true rfl, Nat.le_of_ble_eq_true rfl⟩ w30_ w30_ dX9_readSource_39 (fun r26_ S27_ H locs hp Y => ?_)
    obtain ⟨x31_, rfl, h⟩ := hp
    replace hu := w30_
    refine W.eq (g2 := F0 m 42 ls [.int x31_, va_rf r1]) rfl ?_
    refine q_nn [.int x31_] e23_ ?_
    obtain ⟨k32_, h⟩ := h
    refine q_putI X Y kX1 10 rfl fl_X9_354 k32_ .int rfl ⟨rfl, rfl⟩ rfl dX9_readSource_42 (fun H locs Y => ?_)
    exact vx_ret <| q_vret X Y hu.1 hu.2 h dX9_readSource_45
  · replace h := h.2 c8_
    refine lv_aload_n hx hb dX9_readSource_9 rfl (lv_at hl 0 rfl) ?_
    obtain ⟨k33_, h⟩ := h
    refine q_getP X Y kX9 0 rfl fl_X9_12 k33_ rfl dX9_readSource_10 ?_
    refine q_aload_n hx hb dX9_readSource_13 rfl (lv_at hl 1 rfl) ?_
    obtain ⟨a34_, e35_, h⟩ := h
    refine q_nn [va_rf r1] e35_ ?_
    obtain ⟨k36_, h⟩ := h
    refine q_callV X Y hl (cm_X6_addInput h) mt_X6_addInput mi_X6_addInput ml_X9_340 (ci := 6) rfl k36_ (by decide) rfl rfl (by first | exact Nat.le_of_ble_eq_true rfl | simp [q_cat, q_catI, q_catJ, q_catR]) ⟨Nat.le_of_ble_eq_true rfl, Nat.le_of_ble_eq_true rfl⟩ hu dX9_readSource_14 (fun r37_ S38_ H locs hp Y => ?_)
    obtain ⟨rfl, h⟩ := hp
    refine W.eq (g2 := F0 m 17 ls []) rfl ?_
    exact vx_ret <| q_vret X Y hu.1 hu.2 h dX9_readSource_17
-- X9_readGoal
theorem fl_X9_337 : Cond.fieldLink RX9 337 "PartitionWorks$Channel" "goals" "I" ∈ q_G := q_tb (i := 1132) (by decide +kernel) (by decide +kernel)
theorem fl_X9_360 : Cond.fieldLink RX9 360 "PartitionWorks$Channel" "goal" "LPartitionWorks$Partition;" ∈ q_G := q_tb (i := 1142) (by decide +kernel) (by decide +kernel)
theorem fl_X9_363 : Cond.fieldLink RX9 363 "PartitionWorks$Channel" "goalSlot" "I" ∈ q_G := q_tb (i := 1144) (by decide +kernel) (by decide +kernel)
theorem ml_X9_357 : Cond.methodLink RX9 357 yX6_addOutput ∈ q_G := q_tb (i := 1216) (by decide +kernel) (by decide +kernel)
theorem mt_X6_addOutput : q_Mt yX6_addOutput cX6_addOutput 2 none 1 := ⟨q_tb (i := 1219) (by decide +kernel) (by decide +kernel), q_tb (i := 3) (by decide +kernel) (by decide +kernel), by decide +kernel, by decide +kernel, by decide +kernel⟩
theorem mi_X6_addOutput : Cond.instanceMethod yX6_addOutput ∈ q_G ∧ Cond.selects yX6_addOutput.cls yX6_addOutput yX6_addOutput ∈ q_G := ⟨q_tb (i := 1217) (by decide +kernel) (by decide +kernel), q_tb (i := 1218) (by decide +kernel) (by decide +kernel)⟩
theorem dX9_readGoal_0 : decode cX9_readGoal 0 = .ok (.aload_n 1, 1) := by decide +kernel
theorem dX9_readGoal_1 : decode cX9_readGoal 1 = .ok (.dup, 1) := by decide +kernel
theorem dX9_readGoal_2 : decode cX9_readGoal 2 = .ok (.getfield 337, 3) := by decide +kernel
theorem dX9_readGoal_5 : decode cX9_readGoal 5 = .ok (.iconst 1, 1) := by decide +kernel
theorem dX9_readGoal_6 : decode cX9_readGoal 6 = .ok (.iadd, 1) := by decide +kernel
theorem dX9_readGoal_7 : decode cX9_readGoal 7 = .ok (.putfield 337, 3) := by decide +kernel
theorem dX9_readGoal_10 : decode cX9_readGoal 10 = .ok (.aload_n 0, 1) := by decide +kernel
theorem dX9_readGoal_11 : decode cX9_readGoal 11 = .ok (.bipush 28, 2) := by decide +kernel
theorem dX9_readGoal_13 : decode cX9_readGoal 13 = .ok (.invokevirtual 248, 3) := by decide +kernel
theorem dX9_readGoal_16 : decode cX9_readGoal 16 = .ok (.ifCond .eq 12, 3) := by decide +kernel
theorem dX9_readGoal_19 : decode cX9_readGoal 19 = .ok (.aload_n 0, 1) := by decide +kernel
theorem dX9_readGoal_20 : decode cX9_readGoal 20 = .ok (.getfield 12, 3) := by decide +kernel
theorem dX9_readGoal_23 : decode cX9_readGoal 23 = .ok (.aload_n 1, 1) := by decide +kernel
theorem dX9_readGoal_24 : decode cX9_readGoal 24 = .ok (.invokevirtual 357, 3) := by decide +kernel
theorem dX9_readGoal_27 : decode cX9_readGoal 27 = .ok (.return_, 1) := by decide +kernel
theorem dX9_readGoal_28 : decode cX9_readGoal 28 = .ok (.aload_n 0, 1) := by decide +kernel
theorem dX9_readGoal_29 : decode cX9_readGoal 29 = .ok (.invokevirtual 343, 3) := by decide +kernel
theorem dX9_readGoal_32 : decode cX9_readGoal 32 = .ok (.astore_n 2, 1) := by decide +kernel
theorem dX9_readGoal_33 : decode cX9_readGoal 33 = .ok (.aload_n 0, 1) := by decide +kernel
theorem dX9_readGoal_34 : decode cX9_readGoal 34 = .ok (.bipush 46, 2) := by decide +kernel
theorem dX9_readGoal_36 : decode cX9_readGoal 36 = .ok (.invokevirtual 160, 3) := by decide +kernel
theorem dX9_readGoal_39 : decode cX9_readGoal 39 = .ok (.aload_n 1, 1) := by decide +kernel
theorem dX9_readGoal_40 : decode cX9_readGoal 40 = .ok (.aload_n 2, 1) := by decide +kernel
theorem dX9_readGoal_41 : decode cX9_readGoal 41 = .ok (.putfield 360, 3) := by decide +kernel
theorem dX9_readGoal_44 : decode cX9_readGoal 44 = .ok (.aload_n 1, 1) := by decide +kernel
theorem dX9_readGoal_45 : decode cX9_readGoal 45 = .ok (.aload_n 0, 1) := by decide +kernel
theorem dX9_readGoal_46 : decode cX9_readGoal 46 = .ok (.aload_n 2, 1) := by decide +kernel
theorem dX9_readGoal_47 : decode cX9_readGoal 47 = .ok (.aload_n 1, 1) := by decide +kernel
theorem dX9_readGoal_48 : decode cX9_readGoal 48 = .ok (.iconst 0, 1) := by decide +kernel
theorem dX9_readGoal_49 : decode cX9_readGoal 49 = .ok (.invokevirtual 350, 3) := by decide +kernel
theorem dX9_readGoal_52 : decode cX9_readGoal 52 = .ok (.putfield 363, 3) := by decide +kernel
theorem dX9_readGoal_55 : decode cX9_readGoal 55 = .ok (.return_, 1) := by decide +kernel
def wm_X9_readGoal (bc bs : Nat) (S : q_S) (a0 : Nat) (r1 : Option Nat) (Q : Option Value → q_S → Prop) (E : String → q_S → Prop) : Prop := ∃ a1_ : Nat, r1 = some a1_ ∧ (q_K S a1_ = 2 ∧ (q_K (qs_I S 207 a1_ ((q_I S 207 a1_) + (1 : Int32))) a0 = 10 ∧ (∃ m7_ m8_ : Nat, (0 + m7_ ≤ bc ∧ 0 + m8_ ≤ bs) ∧ (wm_X9_takes m7_ m8_ (qs_I S 207 a1_ ((q_I S 207 a1_) + (1 : Int32))) a0 (28 : Int32) (fun r5_ S6_ => ∃ x10_ : Int32, r5_ = some (.int x10_) ∧ (((x10_ = 0 → (q_K S6_ a0 = 10 ∧ (∃ m15_ m16_ : Nat, ((0 + m7_) + m15_ ≤ bc ∧ (0 + m8_) + m16_ ≤ bs) ∧ (wm_X9_readPartitionName m15_ m16_ S6_ a0 (fun r13_ S14_ => ∃ r18_ : Option Nat, r13_ = some (va_rf r18_) ∧ (q_K S14_ a0 = 10 ∧ (∃ m22_ m23_ : Nat, (((0 + m7_) + m15_) + m22_ ≤ bc ∧ ((0 + m8_) + m16_) + m23_ ≤ bs) ∧ (wm_X9_expectSign m22_ m23_ S14_ a0 (46 : Int32) (fun r20_ S21_ => r20_ = none ∧ (q_K S21_ a1_ = 2 ∧ (q_K (qs_P S21_ 211 a1_ r18_) a0 = 10 ∧ (∃ m29_ m30_ : Nat, ((((0 + m7_) + m15_) + m22_) + m29_ ≤ bc ∧ (((0 + m8_) + m16_) + m23_) + m30_ ≤ bs) ∧ (wm_X9_readPortName m29_ m30_ (qs_P S21_ 211 a1_ r18_) a0 r18_ r1 (0 : Int32) (fun r27_ S28_ => ∃ x32_ : Int32, r27_ = some (.int x32_) ∧ (q_K S28_ a1_ = 2 ∧ (Q none (qs_I S28_ 212 a1_ x32_)))) E))))) E)))) E)))) ∧ (¬ x10_ = 0 → (q_K S6_ a0 = 10 ∧ (∃ a35_ : Nat, (q_P S6_ 1800 a0) = some a35_ ∧ (q_K S6_ a35_ = 7 ∧ (wm_X6_addOutput S6_ a35_ r1 (fun r38_ S39_ => r38_ = none ∧ (Q none S39_)))))))))) E))))
set_option maxHeartbeats 4000000 in
set_option maxRecDepth 100000 in
theorem cm_X9_readGoal {l : Launch} {D : va_G} {cy : Nat → ClassId} {lo : Nat} {bc bs : Nat} {S : q_S} {a0 : Nat} {r1 : Option Nat} {Q : Option Value → q_S → Prop} {E : String → q_S → Prop} (hst : l.stackTraces = false) (h : wm_X9_readGoal bc bs S a0 r1 Q E) : q_MetX l D cy lo yX9_readGoal cX9_readGoal 3 none 9 164 bc bs [.ref a0, va_rf r1] S Q E := by
  refine q_bodyX (by decide) (by first | exact Nat.le_of_ble_eq_true rfl | simp [lg_sl, q_cat, q_catI, q_catJ, q_catR]) ?_
  intro p e s m below meth c ls X hex Y hl
  have hx := X.1
  have hb := X.2.1
  have hl : lv_has ls 3 [(0, .ref a0), (1, va_rf r1)] := by first | exact hl | simpa [lv_args, q_cat, q_catI, q_catJ, q_catR] using hl
  generalize hargs : ([.ref a0, va_rf r1] : List Value).toArray = args at X ⊢
  have hu : 0 ≤ bc ∧ 0 ≤ bs := ⟨Nat.zero_le _, Nat.zero_le _⟩
  unfold wm_X9_readGoal at h
  refine q_aload_n hx hb dX9_readGoal_0 rfl (lv_at hl 1 rfl) ?_
  refine lv_dup hx hb dX9_readGoal_1 (q_cat _) ?_
  obtain ⟨a1_, e2_, h⟩ := h
  refine q_nn [] e2_ ?_
  obtain ⟨k3_, h⟩ := h
  refine q_getI X Y kX1 7 rfl fl_X9_337 k3_ dX9_readGoal_2 ?_
  refine lv_iconst (v := 1) hx hb dX9_readGoal_5 (by decide) ?_
  refine lv_iadd hx hb dX9_readGoal_6 ?_
  refine q_nn [.int ((q_I S 207 a1_) + (1 : Int32))] e2_ ?_
  refine q_putI X Y kX1 7 rfl fl_X9_337 k3_ .int rfl ⟨rfl, rfl⟩ rfl dX9_readGoal_7 (fun H locs Y => ?_)
  refine lv_aload_n hx hb dX9_readGoal_10 rfl (lv_at hl 0 rfl) ?_
  refine lv_bipush (v := 28) hx hb dX9_readGoal_11 (by decide) ?_
  obtain ⟨k4_, h⟩ := h
  obtain ⟨m7_, m8_, w9_, h⟩ := h
  refine q_callVX X hex Y hl (cm_X9_takes hst h) mt_X9_takes mi_X9_takes ml_X9_248 (ci := 9) rfl k4_ (by decide) rfl rfl (by first | exact Nat.le_of_ble_eq_true rfl | simp [q_cat, q_catI, q_catJ, q_catR]) ⟨Nat.le_of_ble_eq_true rfl, Nat.le_of_ble_eq_true rfl⟩ w9_ w9_ dX9_readGoal_13 (fun r5_ S6_ H locs hp Y => ?_)
  obtain ⟨x10_, rfl, h⟩ := hp
  replace hu := w9_
  refine W.eq (g2 := F0 m 16 ls [.int x10_]) rfl ?_
  refine lv_if_eq (tgt := 28) hx hb dX9_readGoal_16 (by decide) (fun c11_ => ?_) (fun c11_ => ?_)
  · replace h := h.1 c11_
    refine lv_aload_n hx hb dX9_readGoal_28 rfl (lv_at hl 0 rfl) ?_
    obtain ⟨k12_, h⟩ := h
    obtain ⟨m15_, m16_, w17_, h⟩ := h
    refine q_callVX X hex Y hl (cm_X9_readPartitionName hst h) mt_X9_readPartitionName mi_X9_readPartitionName ml_X9_343 (ci := 9) rfl k12_ (by decide) rfl rfl (by first | exact Nat.le_of_ble_eq_true rfl | simp [q_cat, q_catI, q_catJ, q_catR]) ⟨Nat.le_of_ble_eq_true rfl, Nat.le_of_ble_eq_true rfl⟩ w17_ w17_ dX9_readGoal_29 (fun r13_ S14_ H locs hp Y => ?_)
    obtain ⟨r18_, rfl, h⟩ := hp
    replace hu := w17_
    refine W.eq (g2 := F0 m 32 ls [va_rf r18_]) rfl ?_
    refine q_astore_n (i := 2) (lv' := [(2, va_rf r18_), (0, .ref a0), (1, va_rf r1)]) hx hb dX9_readGoal_32 rfl hl (by decide) (by first | rfl | simp [q_cat, q_catI, q_catJ, q_catR]) (fun ls hl => ?_)
    refine lv_aload_n hx hb dX9_readGoal_33 rfl (lv_at hl 1 rfl) ?_
    refine lv_bipush (v := 46) hx hb dX9_readGoal_34 (by decide) ?_
    obtain ⟨k19_, h⟩ := h
    obtain ⟨m22_, m23_, w24_, h⟩ := h
    refine q_callVX X hex Y hl (cm_X9_expectSign hst h) mt_X9_expectSign mi_X9_expectSign ml_X9_160 (ci := 9) rfl k19_ (by decide) rfl rfl (by first | exact Nat.le_of_ble_eq_true rfl | simp [q_cat, q_catI, q_catJ, q_catR]) ⟨Nat.le_of_ble_eq_true rfl, Nat.le_of_ble_eq_true rfl⟩ w24_ w24_ dX9_readGoal_36 (fun r20_ S21_ H locs hp Y => ?_)
    obtain ⟨rfl, h⟩ := hp
    replace hu := w24_
    refine W.eq (g2 := F0 m 39 ls []) rfl ?_
    refine q_aload_n hx hb dX9_readGoal_39 rfl (lv_at hl 2 rfl) ?_
    refine q_aload_n hx hb dX9_readGoal_40 rfl (lv_at hl 0 rfl) ?_
    refine q_nn [va_rf r18_] e2_ ?_
    obtain ⟨k25_, h⟩ := h
    refine q_putP X Y r18_ rfl kX1 11 rfl fl_X9_360 k25_ _ rfl (Or.inl ⟨_, rfl⟩) (Or.inl rfl) dX9_readGoal_41 (fun H locs Y => ?_)
    refine q_aload_n hx hb dX9_readGoal_44 rfl (lv_at hl 2 rfl) ?_
    refine lv_aload_n hx hb dX9_readGoal_45 rfl (lv_at hl 1 rfl) ?_
    refine q_aload_n hx hb dX9_readGoal_46 rfl (lv_at hl 0 rfl) ?_
    refine q_aload_n hx hb dX9_readGoal_47 rfl (lv_at hl 2 rfl) ?_
    refine lv_iconst (v := 0) hx hb dX9_readGoal_48 (by decide) ?_
    obtain ⟨k26_, h⟩ := h
    obtain ⟨m29_, m30_, w31_, h⟩ := h
    refine q_callVX X hex Y hl (cm_X9_readPortName hst h) mt_X9_readPortName mi_X9_readPortName ml_X9_350 (ci := 9) rfl k26_ (by decide) rfl rfl (by first | exact Nat.le_of_ble_eq_true rfl | simp [q_cat, q_catI, q_catJ, q_catR]) ⟨Nat.le_of_ble_eq_true rfl, Nat.le_of_ble_eq_true rfl⟩ w31_ w31_ dX9_readGoal_49 (fun r27_ S28_ H locs hp Y => ?_)
    obtain ⟨x32_, rfl, h⟩ := hp
    replace hu := w31_
    refine W.eq (g2 := F0 m 52 ls [.int x32_, va_rf r1]) rfl ?_
    refine q_nn [.int x32_] e2_ ?_
    obtain ⟨k33_, h⟩ := h
    refine q_putI X Y kX1 12 rfl fl_X9_363 k33_ .int rfl ⟨rfl, rfl⟩ rfl dX9_readGoal_52 (fun H locs Y => ?_)
    exact vx_ret <| q_vret X Y hu.1 hu.2 h dX9_readGoal_55
  · replace h := h.2 c11_
    refine lv_aload_n hx hb dX9_readGoal_19 rfl (lv_at hl 0 rfl) ?_
    obtain ⟨k34_, h⟩ := h
    refine q_getP X Y kX9 0 rfl fl_X9_12 k34_ rfl dX9_readGoal_20 ?_
    refine q_aload_n hx hb dX9_readGoal_23 rfl (lv_at hl 1 rfl) ?_
    obtain ⟨a35_, e36_, h⟩ := h
    refine q_nn [va_rf r1] e36_ ?_
    obtain ⟨k37_, h⟩ := h
    refine q_callV X Y hl (cm_X6_addOutput h) mt_X6_addOutput mi_X6_addOutput ml_X9_357 (ci := 6) rfl k37_ (by decide) rfl rfl (by first | exact Nat.le_of_ble_eq_true rfl | simp [q_cat, q_catI, q_catJ, q_catR]) ⟨Nat.le_of_ble_eq_true rfl, Nat.le_of_ble_eq_true rfl⟩ hu dX9_readGoal_24 (fun r38_ S39_ H locs hp Y => ?_)
    obtain ⟨rfl, h⟩ := hp
    refine W.eq (g2 := F0 m 27 ls []) rfl ?_
    exact vx_ret <| q_vret X Y hu.1 hu.2 h dX9_readGoal_27
-- X9_readChannel
theorem ml_X9_334 : Cond.methodLink RX9 334 yX9_readGoal ∈ q_G := q_tb (i := 1212) (by decide +kernel) (by decide +kernel)
theorem mt_X9_readGoal : q_Mt yX9_readGoal cX9_readGoal 3 none 1 := ⟨q_tb (i := 1215) (by decide +kernel) (by decide +kernel), q_tb (i := 2) (by decide +kernel) (by decide +kernel), by decide +kernel, by decide +kernel, by decide +kernel⟩
theorem mi_X9_readGoal : Cond.instanceMethod yX9_readGoal ∈ q_G ∧ Cond.selects yX9_readGoal.cls yX9_readGoal yX9_readGoal ∈ q_G := ⟨q_tb (i := 1214) (by decide +kernel) (by decide +kernel), q_tp (i := 32) (q := (yX9_readGoal, 14)) (by decide +kernel) (by decide +kernel)⟩
theorem fl_X9_329 : Cond.fieldLink RX9 329 "PartitionWorks$Channel" "fifo" "Z" ∈ q_G := q_tb (i := 1116) (by decide +kernel) (by decide +kernel)
theorem ml_X9_330 : Cond.methodLink RX9 330 yX9_readSource ∈ q_G := q_tb (i := 1194) (by decide +kernel) (by decide +kernel)
theorem mt_X9_readSource : q_Mt yX9_readSource cX9_readSource 3 none 1 := ⟨q_tb (i := 1197) (by decide +kernel) (by decide +kernel), q_tb (i := 2) (by decide +kernel) (by decide +kernel), by decide +kernel, by decide +kernel, by decide +kernel⟩
theorem mi_X9_readSource : Cond.instanceMethod yX9_readSource ∈ q_G ∧ Cond.selects yX9_readSource.cls yX9_readSource yX9_readSource ∈ q_G := ⟨q_tb (i := 1196) (by decide +kernel) (by decide +kernel), q_tp (i := 29) (q := (yX9_readSource, 14)) (by decide +kernel) (by decide +kernel)⟩
theorem ml_X9_326 : Cond.methodLink RX9 326 yX1_setLimit ∈ q_G := q_tb (i := 1189) (by decide +kernel) (by decide +kernel)
theorem mt_X1_setLimit : q_Mt yX1_setLimit cX1_setLimit 2 none 1 := ⟨q_tb (i := 1192) (by decide +kernel) (by decide +kernel), q_tb (i := 25) (by decide +kernel) (by decide +kernel), by decide +kernel, by decide +kernel, by decide +kernel⟩
theorem mi_X1_setLimit : Cond.instanceMethod yX1_setLimit ∈ q_G ∧ Cond.selects yX1_setLimit.cls yX1_setLimit yX1_setLimit ∈ q_G := ⟨q_tb (i := 1190) (by decide +kernel) (by decide +kernel), q_tb (i := 1191) (by decide +kernel) (by decide +kernel)⟩
theorem ml_X9_319 : Cond.methodLink RX9 319 yX6_addChannel ∈ q_G := q_tb (i := 1095) (by decide +kernel) (by decide +kernel)
theorem mt_X6_addChannel : q_Mt yX6_addChannel cX6_addChannel 4 (some (.object "PartitionWorks$Channel")) 1 := ⟨q_tb (i := 1098) (by decide +kernel) (by decide +kernel), q_tb (i := 3) (by decide +kernel) (by decide +kernel), by decide +kernel, by decide +kernel, by decide +kernel⟩
theorem mi_X6_addChannel : Cond.instanceMethod yX6_addChannel ∈ q_G ∧ Cond.selects yX6_addChannel.cls yX6_addChannel yX6_addChannel ∈ q_G := ⟨q_tb (i := 1096) (by decide +kernel) (by decide +kernel), q_tb (i := 1097) (by decide +kernel) (by decide +kernel)⟩
theorem fl_X9_316 : Cond.fieldLink RX9 316 "PartitionWorks$Plan" "channelCount" "I" ∈ q_G := q_tb (i := 84) (by decide +kernel) (by decide +kernel)
theorem dX9_readChannel_0 : decode cX9_readChannel 0 = .ok (.aload_n 0, 1) := by decide +kernel
theorem dX9_readChannel_1 : decode cX9_readChannel 1 = .ok (.getfield 12, 3) := by decide +kernel
theorem dX9_readChannel_4 : decode cX9_readChannel 4 = .ok (.getfield 316, 3) := by decide +kernel
theorem dX9_readChannel_7 : decode cX9_readChannel 7 = .ok (.bipush 24, 2) := by decide +kernel
theorem dX9_readChannel_9 : decode cX9_readChannel 9 = .ok (.if_icmp .lt 12, 3) := by decide +kernel
theorem dX9_readChannel_12 : decode cX9_readChannel 12 = .ok (.aload_n 0, 1) := by decide +kernel
theorem dX9_readChannel_13 : decode cX9_readChannel 13 = .ok (.iconst 4, 1) := by decide +kernel
theorem dX9_readChannel_14 : decode cX9_readChannel 14 = .ok (.aload_n 0, 1) := by decide +kernel
theorem dX9_readChannel_15 : decode cX9_readChannel 15 = .ok (.getfield 113, 3) := by decide +kernel
theorem dX9_readChannel_18 : decode cX9_readChannel 18 = .ok (.invokevirtual 133, 3) := by decide +kernel
theorem dX9_readChannel_21 : decode cX9_readChannel 21 = .ok (.aload_n 0, 1) := by decide +kernel
theorem dX9_readChannel_22 : decode cX9_readChannel 22 = .ok (.invokevirtual 78, 3) := by decide +kernel
theorem dX9_readChannel_25 : decode cX9_readChannel 25 = .ok (.aload_n 0, 1) := by decide +kernel
theorem dX9_readChannel_26 : decode cX9_readChannel 26 = .ok (.getfield 12, 3) := by decide +kernel
theorem dX9_readChannel_29 : decode cX9_readChannel 29 = .ok (.aload_n 0, 1) := by decide +kernel
theorem dX9_readChannel_30 : decode cX9_readChannel 30 = .ok (.invokevirtual 300, 3) := by decide +kernel
theorem dX9_readChannel_33 : decode cX9_readChannel 33 = .ok (.invokevirtual 319, 3) := by decide +kernel
theorem dX9_readChannel_36 : decode cX9_readChannel 36 = .ok (.astore_n 1, 1) := by decide +kernel
theorem dX9_readChannel_37 : decode cX9_readChannel 37 = .ok (.aload_n 1, 1) := by decide +kernel
theorem dX9_readChannel_38 : decode cX9_readChannel 38 = .ok (.aload_n 1, 1) := by decide +kernel
theorem dX9_readChannel_39 : decode cX9_readChannel 39 = .ok (.getfield 323, 3) := by decide +kernel
theorem dX9_readChannel_42 : decode cX9_readChannel 42 = .ok (.ifCond .eq 14, 3) := by decide +kernel
theorem dX9_readChannel_45 : decode cX9_readChannel 45 = .ok (.aload_n 0, 1) := by decide +kernel
theorem dX9_readChannel_46 : decode cX9_readChannel 46 = .ok (.iconst 1, 1) := by decide +kernel
theorem dX9_readChannel_47 : decode cX9_readChannel 47 = .ok (.bipush 32, 2) := by decide +kernel
theorem dX9_readChannel_49 : decode cX9_readChannel 49 = .ok (.iconst 1, 1) := by decide +kernel
theorem dX9_readChannel_50 : decode cX9_readChannel 50 = .ok (.invokevirtual 170, 3) := by decide +kernel
theorem dX9_readChannel_53 : decode cX9_readChannel 53 = .ok (.goto 11, 3) := by decide +kernel
theorem dX9_readChannel_56 : decode cX9_readChannel 56 = .ok (.aload_n 0, 1) := by decide +kernel
theorem dX9_readChannel_57 : decode cX9_readChannel 57 = .ok (.iconst 0, 1) := by decide +kernel
theorem dX9_readChannel_58 : decode cX9_readChannel 58 = .ok (.ldc 251, 2) := by decide +kernel
theorem dX9_readChannel_60 : decode cX9_readChannel 60 = .ok (.iconst 1, 1) := by decide +kernel
theorem dX9_readChannel_61 : decode cX9_readChannel 61 = .ok (.invokevirtual 170, 3) := by decide +kernel
theorem dX9_readChannel_64 : decode cX9_readChannel 64 = .ok (.invokevirtual 326, 3) := by decide +kernel
theorem dX9_readChannel_67 : decode cX9_readChannel 67 = .ok (.aload_n 1, 1) := by decide +kernel
theorem dX9_readChannel_68 : decode cX9_readChannel 68 = .ok (.aload_n 1, 1) := by decide +kernel
theorem dX9_readChannel_69 : decode cX9_readChannel 69 = .ok (.getfield 323, 3) := by decide +kernel
theorem dX9_readChannel_72 : decode cX9_readChannel 72 = .ok (.ifCond .eq 16, 3) := by decide +kernel
theorem dX9_readChannel_75 : decode cX9_readChannel 75 = .ok (.aload_n 0, 1) := by decide +kernel
theorem dX9_readChannel_76 : decode cX9_readChannel 76 = .ok (.bipush 18, 2) := by decide +kernel
theorem dX9_readChannel_78 : decode cX9_readChannel 78 = .ok (.invokevirtual 248, 3) := by decide +kernel
theorem dX9_readChannel_81 : decode cX9_readChannel 81 = .ok (.ifCond .eq 7, 3) := by decide +kernel
theorem dX9_readChannel_84 : decode cX9_readChannel 84 = .ok (.iconst 1, 1) := by decide +kernel
theorem dX9_readChannel_85 : decode cX9_readChannel 85 = .ok (.goto 4, 3) := by decide +kernel
theorem dX9_readChannel_88 : decode cX9_readChannel 88 = .ok (.iconst 0, 1) := by decide +kernel
theorem dX9_readChannel_89 : decode cX9_readChannel 89 = .ok (.putfield 329, 3) := by decide +kernel
theorem dX9_readChannel_92 : decode cX9_readChannel 92 = .ok (.aload_n 0, 1) := by decide +kernel
theorem dX9_readChannel_93 : decode cX9_readChannel 93 = .ok (.bipush 123, 2) := by decide +kernel
theorem dX9_readChannel_95 : decode cX9_readChannel 95 = .ok (.invokevirtual 160, 3) := by decide +kernel
theorem dX9_readChannel_98 : decode cX9_readChannel 98 = .ok (.aload_n 0, 1) := by decide +kernel
theorem dX9_readChannel_99 : decode cX9_readChannel 99 = .ok (.aload_n 1, 1) := by decide +kernel
theorem dX9_readChannel_100 : decode cX9_readChannel 100 = .ok (.invokevirtual 330, 3) := by decide +kernel
theorem dX9_readChannel_103 : decode cX9_readChannel 103 = .ok (.aload_n 0, 1) := by decide +kernel
theorem dX9_readChannel_104 : decode cX9_readChannel 104 = .ok (.bipush 62, 2) := by decide +kernel
theorem dX9_readChannel_106 : decode cX9_readChannel 106 = .ok (.invokevirtual 160, 3) := by decide +kernel
theorem dX9_readChannel_109 : decode cX9_readChannel 109 = .ok (.aload_n 0, 1) := by decide +kernel
theorem dX9_readChannel_110 : decode cX9_readChannel 110 = .ok (.aload_n 1, 1) := by decide +kernel
theorem dX9_readChannel_111 : decode cX9_readChannel 111 = .ok (.invokevirtual 334, 3) := by decide +kernel
theorem dX9_readChannel_114 : decode cX9_readChannel 114 = .ok (.iconst 0, 1) := by decide +kernel
theorem dX9_readChannel_115 : decode cX9_readChannel 115 = .ok (.istore_n 2, 1) := by decide +kernel
theorem dX9_readChannel_116 : decode cX9_readChannel 116 = .ok (.iload_n 2, 1) := by decide +kernel
theorem dX9_readChannel_117 : decode cX9_readChannel 117 = .ok (.iconst 4, 1) := by decide +kernel
theorem dX9_readChannel_118 : decode cX9_readChannel 118 = .ok (.if_icmp .ge 51, 3) := by decide +kernel
theorem dX9_readChannel_121 : decode cX9_readChannel 121 = .ok (.aload_n 1, 1) := by decide +kernel
theorem dX9_readChannel_122 : decode cX9_readChannel 122 = .ok (.getfield 323, 3) := by decide +kernel
theorem dX9_readChannel_125 : decode cX9_readChannel 125 = .ok (.ifCond .ne 44, 3) := by decide +kernel
theorem dX9_readChannel_128 : decode cX9_readChannel 128 = .ok (.aload_n 0, 1) := by decide +kernel
theorem dX9_readChannel_129 : decode cX9_readChannel 129 = .ok (.bipush 44, 2) := by decide +kernel
theorem dX9_readChannel_131 : decode cX9_readChannel 131 = .ok (.invokevirtual 141, 3) := by decide +kernel
theorem dX9_readChannel_134 : decode cX9_readChannel 134 = .ok (.ifCond .eq 35, 3) := by decide +kernel
theorem dX9_readChannel_137 : decode cX9_readChannel 137 = .ok (.aload_n 0, 1) := by decide +kernel
theorem dX9_readChannel_138 : decode cX9_readChannel 138 = .ok (.invokevirtual 78, 3) := by decide +kernel
theorem dX9_readChannel_141 : decode cX9_readChannel 141 = .ok (.aload_n 1, 1) := by decide +kernel
theorem dX9_readChannel_142 : decode cX9_readChannel 142 = .ok (.getfield 337, 3) := by decide +kernel
theorem dX9_readChannel_145 : decode cX9_readChannel 145 = .ok (.iconst 4, 1) := by decide +kernel
theorem dX9_readChannel_146 : decode cX9_readChannel 146 = .ok (.if_icmp .lt 12, 3) := by decide +kernel
theorem dX9_readChannel_149 : decode cX9_readChannel 149 = .ok (.aload_n 0, 1) := by decide +kernel
theorem dX9_readChannel_150 : decode cX9_readChannel 150 = .ok (.iconst 4, 1) := by decide +kernel
theorem dX9_readChannel_151 : decode cX9_readChannel 151 = .ok (.aload_n 0, 1) := by decide +kernel
theorem dX9_readChannel_152 : decode cX9_readChannel 152 = .ok (.getfield 113, 3) := by decide +kernel
theorem dX9_readChannel_155 : decode cX9_readChannel 155 = .ok (.invokevirtual 133, 3) := by decide +kernel
theorem dX9_readChannel_158 : decode cX9_readChannel 158 = .ok (.aload_n 0, 1) := by decide +kernel
theorem dX9_readChannel_159 : decode cX9_readChannel 159 = .ok (.aload_n 1, 1) := by decide +kernel
theorem dX9_readChannel_160 : decode cX9_readChannel 160 = .ok (.invokevirtual 334, 3) := by decide +kernel
theorem dX9_readChannel_163 : decode cX9_readChannel 163 = .ok (.iinc 2 1, 3) := by decide +kernel
theorem dX9_readChannel_166 : decode cX9_readChannel 166 = .ok (.goto (-50), 3) := by decide +kernel
theorem dX9_readChannel_169 : decode cX9_readChannel 169 = .ok (.aload_n 0, 1) := by decide +kernel
theorem dX9_readChannel_170 : decode cX9_readChannel 170 = .ok (.bipush 125, 2) := by decide +kernel
theorem dX9_readChannel_172 : decode cX9_readChannel 172 = .ok (.invokevirtual 160, 3) := by decide +kernel
theorem dX9_readChannel_175 : decode cX9_readChannel 175 = .ok (.return_, 1) := by decide +kernel
def wb_X9_readChannel_158 (bc bs : Nat) (B116 : Nat → Nat → q_S → Nat → Option Nat → Int32 → Prop) (u v : Nat) (S : q_S) (a0 : Nat) (r1 : Option Nat) (x2 : Int32) (Q : Option Value → q_S → Prop) (E : String → q_S → Prop) : Prop := q_K S a0 = 10 ∧ (∃ m4_ m5_ : Nat, (u + m4_ ≤ bc ∧ v + m5_ ≤ bs) ∧ (wm_X9_readGoal m4_ m5_ S a0 r1 (fun r2_ S3_ => r2_ = none ∧ (B116 (u + m4_) (v + m5_) S3_ a0 r1 (x2 + 1))) E))
set_option maxHeartbeats 4000000 in
set_option maxRecDepth 100000 in
theorem cb_X9_readChannel_158 {p : Program} {l : Launch} {e : Env} {s : State} {m : MethodId} {args : Array Value} {below : List Frame} {meth : Method} {c : Code} {D : va_G} {cy : Nat → ClassId} {lo : Nat} {bc bs : Nat} {B116 : Nat → Nat → q_S → Nat → Option Nat → Int32 → Prop} {u v : Nat} {S : q_S} {a0 : Nat} {r1 : Option Nat} {x2 : Int32} {Q : Option Value → q_S → Prop} {E : String → q_S → Prop} {H : Heap} {locs : List Loc} {ls : Array Slot} (X : q_X p s m args meth c RX9 cX9_readChannel 3 none D cy lo) (hex : ∀ x ∈ c.exceptionTable.toList, False) (hst : l.stackTraces = false) (hB116 : ∀ (u v : Nat) (S : q_S) (a0 : Nat) (r1 : Option Nat) (x2 : Int32) (H : Heap) (locs : List Loc) (ls : Array Slot), B116 u v S a0 r1 x2 → (u ≤ bc ∧ v ≤ bs) → q_Y D cy lo s S H locs → lv_has ls 3 [(0, .ref a0), (1, va_rf r1), (2, .int x2)] → W p l e ({ frames := 10, cells := bc, slots := bs, locals := 186 } : Room) s m args below meth c H locs u v (vx_MQ below (q_Q D cy lo Q) (q_XE D cy lo E) args s bc bs (fun q => lo ≤ q)) (F0 m 116 ls [])) (hu : u ≤ bc ∧ v ≤ bs) (Y : q_Y D cy lo s S H locs) (hl : lv_has ls 3 [(0, .ref a0), (1, va_rf r1), (2, .int x2)]) (h : wb_X9_readChannel_158 bc bs B116 u v S a0 r1 x2 Q E) : W p l e ({ frames := 10, cells := bc, slots := bs, locals := 186 } : Room) s m args below meth c H locs u v (vx_MQ below (q_Q D cy lo Q) (q_XE D cy lo E) args s bc bs (fun q => lo ≤ q)) (F0 m 158 ls []) := by
  have hx := X.1
  have hb := X.2.1
  unfold wb_X9_readChannel_158 at h
  refine lv_aload_n hx hb dX9_readChannel_158 rfl (lv_at hl 0 rfl) ?_
  refine q_aload_n hx hb dX9_readChannel_159 rfl (lv_at hl 1 rfl) ?_
  obtain ⟨k1_, h⟩ := h
  obtain ⟨m4_, m5_, w6_, h⟩ := h
  refine q_callVX X hex Y hl (cm_X9_readGoal hst h) mt_X9_readGoal mi_X9_readGoal ml_X9_334 (ci := 9) rfl k1_ (by decide) rfl rfl (by first | exact Nat.le_of_ble_eq_true rfl | simp [q_cat, q_catI, q_catJ, q_catR]) ⟨Nat.le_of_ble_eq_true rfl, Nat.le_of_ble_eq_true rfl⟩ w6_ w6_ dX9_readChannel_160 (fun r2_ S3_ H locs hp Y => ?_)
  obtain ⟨rfl, h⟩ := hp
  replace hu := w6_
  refine W.eq (g2 := F0 m 163 ls []) rfl ?_
  refine lv_iinc (v := (x2 + 1)) (lv' := [(2, .int (x2 + 1)), (0, .ref a0), (1, va_rf r1)]) hx hb dX9_readChannel_163 hl (k := 2) rfl (by first | rfl | decide) (by decide) (by first | rfl | simp [q_cat, q_catI, q_catJ, q_catR]) (fun ls hl => ?_)
  refine lv_goto (tgt := 116) hx hb dX9_readChannel_166 (by decide) ?_
  exact hB116 _ _ _ _ _ _ _ _ _ h hu Y (lv_sub hl [1, 2, 0] rfl)
def wb_X9_readChannel_169 (bc bs : Nat)  (u v : Nat) (S : q_S) (a0 : Nat) (Q : Option Value → q_S → Prop) (E : String → q_S → Prop) : Prop := q_K S a0 = 10 ∧ (∃ m10_ m11_ : Nat, (u + m10_ ≤ bc ∧ v + m11_ ≤ bs) ∧ (wm_X9_expectSign m10_ m11_ S a0 (125 : Int32) (fun r8_ S9_ => r8_ = none ∧ (Q none S9_)) E))
set_option maxHeartbeats 4000000 in
set_option maxRecDepth 100000 in
theorem cb_X9_readChannel_169 {p : Program} {l : Launch} {e : Env} {s : State} {m : MethodId} {args : Array Value} {below : List Frame} {meth : Method} {c : Code} {D : va_G} {cy : Nat → ClassId} {lo : Nat} {bc bs : Nat}  {u v : Nat} {S : q_S} {a0 : Nat} {Q : Option Value → q_S → Prop} {E : String → q_S → Prop} {H : Heap} {locs : List Loc} {ls : Array Slot} (X : q_X p s m args meth c RX9 cX9_readChannel 3 none D cy lo) (hex : ∀ x ∈ c.exceptionTable.toList, False) (hst : l.stackTraces = false)  (hu : u ≤ bc ∧ v ≤ bs) (Y : q_Y D cy lo s S H locs) (hl : lv_has ls 3 [(0, .ref a0)]) (h : wb_X9_readChannel_169 bc bs u v S a0 Q E) : W p l e ({ frames := 10, cells := bc, slots := bs, locals := 186 } : Room) s m args below meth c H locs u v (vx_MQ below (q_Q D cy lo Q) (q_XE D cy lo E) args s bc bs (fun q => lo ≤ q)) (F0 m 169 ls []) := by
  have hx := X.1
  have hb := X.2.1
  unfold wb_X9_readChannel_169 at h
  refine lv_aload_n hx hb dX9_readChannel_169 rfl (lv_at hl 0 rfl) ?_
  refine lv_bipush (v := 125) hx hb dX9_readChannel_170 (by decide) ?_
  obtain ⟨k7_, h⟩ := h
  obtain ⟨m10_, m11_, w12_, h⟩ := h
  refine q_callVX X hex Y hl (cm_X9_expectSign hst h) mt_X9_expectSign mi_X9_expectSign ml_X9_160 (ci := 9) rfl k7_ (by decide) rfl rfl (by first | exact Nat.le_of_ble_eq_true rfl | simp [q_cat, q_catI, q_catJ, q_catR]) ⟨Nat.le_of_ble_eq_true rfl, Nat.le_of_ble_eq_true rfl⟩ w12_ w12_ dX9_readChannel_172 (fun r8_ S9_ H locs hp Y => ?_)
  obtain ⟨rfl, h⟩ := hp
  replace hu := w12_
  refine W.eq (g2 := F0 m 175 ls []) rfl ?_
  exact vx_ret <| q_vret X Y hu.1 hu.2 h dX9_readChannel_175
def wb_X9_readChannel_116 (bc bs : Nat) (B116 : Nat → Nat → q_S → Nat → Option Nat → Int32 → Prop) (u v : Nat) (S : q_S) (a0 : Nat) (r1 : Option Nat) (x2 : Int32) (Q : Option Value → q_S → Prop) (E : String → q_S → Prop) : Prop := (((4 : Int32) ≤ x2 → (wb_X9_readChannel_169 bc bs u v S a0 Q E)) ∧ (¬ (4 : Int32) ≤ x2 → (∃ a14_ : Nat, r1 = some a14_ ∧ (q_K S a14_ = 2 ∧ (((¬ (q_I S 201 a14_) = 0 → (wb_X9_readChannel_169 bc bs u v S a0 Q E)) ∧ ((q_I S 201 a14_) = 0 → (q_K S a0 = 10 ∧ (wm_X9_seesSign S a0 (44 : Int32) (fun r19_ S20_ => ∃ x21_ : Int32, r19_ = some (.int x21_) ∧ (((x21_ = 0 → (wb_X9_readChannel_169 bc bs u v S20_ a0 Q E)) ∧ (¬ x21_ = 0 → (q_K S20_ a0 = 10 ∧ (∃ m26_ m27_ : Nat, (u + m26_ ≤ bc ∧ v + m27_ ≤ bs) ∧ (wm_X9_advance m26_ m27_ S20_ a0 (fun r24_ S25_ => r24_ = none ∧ (q_K S25_ a14_ = 2 ∧ ((((q_I S25_ 207 a14_) < (4 : Int32) → (wb_X9_readChannel_158 bc bs B116 (u + m26_) (v + m27_) S25_ a0 r1 x2 Q E)) ∧ (¬ (q_I S25_ 207 a14_) < (4 : Int32) → (q_K S25_ a0 = 10 ∧ (∃ m34_ m35_ : Nat, ((u + m26_) + m34_ ≤ bc ∧ (v + m27_) + m35_ ≤ bs) ∧ (wm_X9_fail m34_ m35_ S25_ a0 (4 : Int32) (q_I S25_ 1811 a0) (fun r32_ S33_ => r32_ = none ∧ (wb_X9_readChannel_158 bc bs B116 ((u + m26_) + m34_) ((v + m27_) + m35_) S33_ a0 r1 x2 Q E)) E)))))))) E))))))))))))))))
set_option maxHeartbeats 4000000 in
set_option maxRecDepth 100000 in
theorem cb_X9_readChannel_116 {p : Program} {l : Launch} {e : Env} {s : State} {m : MethodId} {args : Array Value} {below : List Frame} {meth : Method} {c : Code} {D : va_G} {cy : Nat → ClassId} {lo : Nat} {bc bs : Nat} {B116 : Nat → Nat → q_S → Nat → Option Nat → Int32 → Prop} {u v : Nat} {S : q_S} {a0 : Nat} {r1 : Option Nat} {x2 : Int32} {Q : Option Value → q_S → Prop} {E : String → q_S → Prop} {H : Heap} {locs : List Loc} {ls : Array Slot} (X : q_X p s m args meth c RX9 cX9_readChannel 3 none D cy lo) (hex : ∀ x ∈ c.exceptionTable.toList, False) (hst : l.stackTraces = false) (hB116 : ∀ (u v : Nat) (S : q_S) (a0 : Nat) (r1 : Option Nat) (x2 : Int32) (H : Heap) (locs : List Loc) (ls : Array Slot), B116 u v S a0 r1 x2 → (u ≤ bc ∧ v ≤ bs) → q_Y D cy lo s S H locs → lv_has ls 3 [(0, .ref a0), (1, va_rf r1), (2, .int x2)] → W p l e ({ frames := 10, cells := bc, slots := bs, locals := 186 } : Room) s m args below meth c H locs u v (vx_MQ below (q_Q D cy lo Q) (q_XE D cy lo E) args s bc bs (fun q => lo ≤ q)) (F0 m 116 ls [])) (hu : u ≤ bc ∧ v ≤ bs) (Y : q_Y D cy lo s S H locs) (hl : lv_has ls 3 [(0, .ref a0), (1, va_rf r1), (2, .int x2)]) (h : wb_X9_readChannel_116 bc bs B116 u v S a0 r1 x2 Q E) : W p l e ({ frames := 10, cells := bc, slots := bs, locals := 186 } : Room) s m args below meth c H locs u v (vx_MQ below (q_Q D cy lo Q) (q_XE D cy lo E) args s bc bs (fun q => lo ≤ q)) (F0 m 116 ls []) := by
  have hx := X.1
  have hb := X.2.1
  unfold wb_X9_readChannel_116 at h
  refine lv_iload_n hx hb dX9_readChannel_116 rfl (lv_at hl 2 rfl) ?_
  refine lv_iconst (v := 4) hx hb dX9_readChannel_117 (by decide) ?_
  refine lv_icmp_ge (tgt := 169) hx hb dX9_readChannel_118 (by decide) (fun c13_ => ?_) (fun c13_ => ?_)
  · replace h := h.1 c13_
    exact cb_X9_readChannel_169 X hex hst hu Y (lv_sub hl [0] rfl) h
  · replace h := h.2 c13_
    refine q_aload_n hx hb dX9_readChannel_121 rfl (lv_at hl 1 rfl) ?_
    obtain ⟨a14_, e15_, h⟩ := h
    refine q_nn [] e15_ ?_
    obtain ⟨k16_, h⟩ := h
    refine q_getI X Y kX1 1 rfl fl_X9_323 k16_ dX9_readChannel_122 ?_
    refine lv_if_ne (tgt := 169) hx hb dX9_readChannel_125 (by decide) (fun c17_ => ?_) (fun c17_ => ?_)
    · replace h := h.1 c17_
      exact cb_X9_readChannel_169 X hex hst hu Y (lv_sub hl [0] rfl) h
    · replace h := h.2 c17_
      refine lv_aload_n hx hb dX9_readChannel_128 rfl (lv_at hl 0 rfl) ?_
      refine lv_bipush (v := 44) hx hb dX9_readChannel_129 (by decide) ?_
      obtain ⟨k18_, h⟩ := h
      refine q_callV X Y hl (cm_X9_seesSign h) mt_X9_seesSign mi_X9_seesSign ml_X9_141 (ci := 9) rfl k18_ (by decide) rfl rfl (by first | exact Nat.le_of_ble_eq_true rfl | simp [q_cat, q_catI, q_catJ, q_catR]) ⟨Nat.le_of_ble_eq_true rfl, Nat.le_of_ble_eq_true rfl⟩ hu dX9_readChannel_131 (fun r19_ S20_ H locs hp Y => ?_)
      obtain ⟨x21_, rfl, h⟩ := hp
      refine W.eq (g2 := F0 m 134 ls [.int x21_]) rfl ?_
      refine lv_if_eq (tgt := 169) hx hb dX9_readChannel_134 (by decide) (fun c22_ => ?_) (fun c22_ => ?_)
      · replace h := h.1 c22_
        exact cb_X9_readChannel_169 X hex hst hu Y (lv_sub hl [0] rfl) h
      · replace h := h.2 c22_
        refine lv_aload_n hx hb dX9_readChannel_137 rfl (lv_at hl 0 rfl) ?_
        obtain ⟨k23_, h⟩ := h
        obtain ⟨m26_, m27_, w28_, h⟩ := h
        refine q_callVX X hex Y hl (cm_X9_advance hst h) mt_X9_advance mi_X9_advance ml_X9_78 (ci := 9) rfl k23_ (by decide) rfl rfl (by first | exact Nat.le_of_ble_eq_true rfl | simp [q_cat, q_catI, q_catJ, q_catR]) ⟨Nat.le_of_ble_eq_true rfl, Nat.le_of_ble_eq_true rfl⟩ w28_ w28_ dX9_readChannel_138 (fun r24_ S25_ H locs hp Y => ?_)
        obtain ⟨rfl, h⟩ := hp
        replace hu := w28_
        refine W.eq (g2 := F0 m 141 ls []) rfl ?_
        refine q_aload_n hx hb dX9_readChannel_141 rfl (lv_at hl 1 rfl) ?_
        refine q_nn [] e15_ ?_
        obtain ⟨k29_, h⟩ := h
        refine q_getI X Y kX1 7 rfl fl_X9_337 k29_ dX9_readChannel_142 ?_
        refine lv_iconst (v := 4) hx hb dX9_readChannel_145 (by decide) ?_
        refine lv_icmp_lt (tgt := 158) hx hb dX9_readChannel_146 (by decide) (fun c30_ => ?_) (fun c30_ => ?_)
        · replace h := h.1 c30_
          exact cb_X9_readChannel_158 X hex hst hB116 hu Y (lv_sub hl [0, 1, 2] rfl) h
        · replace h := h.2 c30_
          refine lv_aload_n hx hb dX9_readChannel_149 rfl (lv_at hl 0 rfl) ?_
          refine lv_iconst (v := 4) hx hb dX9_readChannel_150 (by decide) ?_
          refine lv_aload_n hx hb dX9_readChannel_151 rfl (lv_at hl 0 rfl) ?_
          obtain ⟨k31_, h⟩ := h
          refine q_getI X Y kX9 11 rfl fl_X9_113 k31_ dX9_readChannel_152 ?_
          obtain ⟨m34_, m35_, w36_, h⟩ := h
          refine q_callVX X hex Y hl (cm_X9_fail hst h) mt_X9_fail mi_X9_fail ml_X9_133 (ci := 9) rfl k31_ (by decide) rfl rfl (by first | exact Nat.le_of_ble_eq_true rfl | simp [q_cat, q_catI, q_catJ, q_catR]) ⟨Nat.le_of_ble_eq_true rfl, Nat.le_of_ble_eq_true rfl⟩ w36_ w36_ dX9_readChannel_155 (fun r32_ S33_ H locs hp Y => ?_)
          obtain ⟨rfl, h⟩ := hp
          replace hu := w36_
          refine W.eq (g2 := F0 m 158 ls []) rfl ?_
          exact cb_X9_readChannel_158 X hex hst hB116 hu Y (lv_sub hl [0, 1, 2] rfl) h
def wl_X9_readChannel_116 (bc bs : Nat)  : Nat → Nat → Nat → q_S → Nat → Option Nat → Int32 → (Option Value → q_S → Prop) → (String → q_S → Prop) → Prop
  | 0, _, _, _, _, _, _, _, _ => False
  | n + 1, u, v, S, a0, r1, x2, Q, E => wb_X9_readChannel_116 bc bs (fun u v S a0 r1 x2 => wl_X9_readChannel_116 bc bs n u v S a0 r1 x2 Q E) u v S a0 r1 x2 Q E
set_option maxHeartbeats 4000000 in
set_option maxRecDepth 100000 in
theorem cl_X9_readChannel_116 {p : Program} {l : Launch} {e : Env} {s : State} {m : MethodId} {args : Array Value} {below : List Frame} {meth : Method} {c : Code} {D : va_G} {cy : Nat → ClassId} {lo : Nat} {bc bs : Nat}  {Q : Option Value → q_S → Prop} {E : String → q_S → Prop} (X : q_X p s m args meth c RX9 cX9_readChannel 3 none D cy lo) (hex : ∀ x ∈ c.exceptionTable.toList, False) (hst : l.stackTraces = false)  : ∀ (n : Nat) (u v : Nat) (S : q_S) (a0 : Nat) (r1 : Option Nat) (x2 : Int32) (H : Heap) (locs : List Loc) (ls : Array Slot), wl_X9_readChannel_116 bc bs n u v S a0 r1 x2 Q E → (u ≤ bc ∧ v ≤ bs) → q_Y D cy lo s S H locs → lv_has ls 3 [(0, .ref a0), (1, va_rf r1), (2, .int x2)] → W p l e ({ frames := 10, cells := bc, slots := bs, locals := 186 } : Room) s m args below meth c H locs u v (vx_MQ below (q_Q D cy lo Q) (q_XE D cy lo E) args s bc bs (fun q => lo ≤ q)) (F0 m 116 ls []) := by
  intro n
  induction n with
  | zero => intro u v S a0 r1 x2 H locs ls h; exact absurd h id
  | succ n ih => intro u v S a0 r1 x2 H locs ls h hu Y hl; exact cb_X9_readChannel_116 X hex hst ih hu Y hl h
def wb_X9_readChannel_89 (bc bs : Nat)  (u v : Nat) (S : q_S) (a0 : Nat) (r1 : Option Nat) (rs0 : Option Nat) (xs1 : Int32) (Q : Option Value → q_S → Prop) (E : String → q_S → Prop) : Prop := ∃ a37_ : Nat, rs0 = some a37_ ∧ (q_K S a37_ = 2 ∧ ((narrow .boolean (.int xs1) = .int xs1 ∧ fits .boolean (.int xs1) = true) ∧ (q_K (qs_I S 202 a37_ xs1) a0 = 10 ∧ (∃ m44_ m45_ : Nat, (u + m44_ ≤ bc ∧ v + m45_ ≤ bs) ∧ (wm_X9_expectSign m44_ m45_ (qs_I S 202 a37_ xs1) a0 (123 : Int32) (fun r42_ S43_ => r42_ = none ∧ (q_K S43_ a0 = 10 ∧ (∃ m50_ m51_ : Nat, ((u + m44_) + m50_ ≤ bc ∧ (v + m45_) + m51_ ≤ bs) ∧ (wm_X9_readSource m50_ m51_ S43_ a0 r1 (fun r48_ S49_ => r48_ = none ∧ (q_K S49_ a0 = 10 ∧ (∃ m56_ m57_ : Nat, (((u + m44_) + m50_) + m56_ ≤ bc ∧ ((v + m45_) + m51_) + m57_ ≤ bs) ∧ (wm_X9_expectSign m56_ m57_ S49_ a0 (62 : Int32) (fun r54_ S55_ => r54_ = none ∧ (q_K S55_ a0 = 10 ∧ (∃ m62_ m63_ : Nat, ((((u + m44_) + m50_) + m56_) + m62_ ≤ bc ∧ (((v + m45_) + m51_) + m57_) + m63_ ≤ bs) ∧ (wm_X9_readGoal m62_ m63_ S55_ a0 r1 (fun r60_ S61_ => r60_ = none ∧ (∃ n65_ : Nat, wl_X9_readChannel_116 bc bs n65_ ((((u + m44_) + m50_) + m56_) + m62_) ((((v + m45_) + m51_) + m57_) + m63_) S61_ a0 r1 (0 : Int32) Q E)) E)))) E)))) E)))) E)))))
set_option maxHeartbeats 4000000 in
set_option maxRecDepth 100000 in
theorem cb_X9_readChannel_89 {p : Program} {l : Launch} {e : Env} {s : State} {m : MethodId} {args : Array Value} {below : List Frame} {meth : Method} {c : Code} {D : va_G} {cy : Nat → ClassId} {lo : Nat} {bc bs : Nat}  {u v : Nat} {S : q_S} {a0 : Nat} {r1 : Option Nat} {rs0 : Option Nat} {xs1 : Int32} {Q : Option Value → q_S → Prop} {E : String → q_S → Prop} {H : Heap} {locs : List Loc} {ls : Array Slot} (X : q_X p s m args meth c RX9 cX9_readChannel 3 none D cy lo) (hex : ∀ x ∈ c.exceptionTable.toList, False) (hst : l.stackTraces = false)  (hu : u ≤ bc ∧ v ≤ bs) (Y : q_Y D cy lo s S H locs) (hl : lv_has ls 3 [(0, .ref a0), (1, va_rf r1)]) (h : wb_X9_readChannel_89 bc bs u v S a0 r1 rs0 xs1 Q E) : W p l e ({ frames := 10, cells := bc, slots := bs, locals := 186 } : Room) s m args below meth c H locs u v (vx_MQ below (q_Q D cy lo Q) (q_XE D cy lo E) args s bc bs (fun q => lo ≤ q)) (F0 m 89 ls [.int xs1, va_rf rs0]) := by
  have hx := X.1
  have hb := X.2.1
  unfold wb_X9_readChannel_89 at h
  obtain ⟨a37_, e38_, h⟩ := h
  refine q_nn [.int xs1] e38_ ?_
  obtain ⟨k39_, h⟩ := h
  obtain ⟨v40_, h⟩ := h
  refine q_putI X Y kX1 2 rfl fl_X9_329 k39_ .boolean rfl v40_ rfl dX9_readChannel_89 (fun H locs Y => ?_)
  refine lv_aload_n hx hb dX9_readChannel_92 rfl (lv_at hl 0 rfl) ?_
  refine lv_bipush (v := 123) hx hb dX9_readChannel_93 (by decide) ?_
  obtain ⟨k41_, h⟩ := h
  obtain ⟨m44_, m45_, w46_, h⟩ := h
  refine q_callVX X hex Y hl (cm_X9_expectSign hst h) mt_X9_expectSign mi_X9_expectSign ml_X9_160 (ci := 9) rfl k41_ (by decide) rfl rfl (by first | exact Nat.le_of_ble_eq_true rfl | simp [q_cat, q_catI, q_catJ, q_catR]) ⟨Nat.le_of_ble_eq_true rfl, Nat.le_of_ble_eq_true rfl⟩ w46_ w46_ dX9_readChannel_95 (fun r42_ S43_ H locs hp Y => ?_)
  obtain ⟨rfl, h⟩ := hp
  replace hu := w46_
  refine W.eq (g2 := F0 m 98 ls []) rfl ?_
  refine lv_aload_n hx hb dX9_readChannel_98 rfl (lv_at hl 0 rfl) ?_
  refine q_aload_n hx hb dX9_readChannel_99 rfl (lv_at hl 1 rfl) ?_
  obtain ⟨k47_, h⟩ := h
  obtain ⟨m50_, m51_, w52_, h⟩ := h
  refine q_callVX X hex Y hl (cm_X9_readSource hst h) mt_X9_readSource mi_X9_readSource ml_X9_330 (ci := 9) rfl k47_ (by decide) rfl rfl (by first | exact Nat.le_of_ble_eq_true rfl | simp [q_cat, q_catI, q_catJ, q_catR]) ⟨Nat.le_of_ble_eq_true rfl, Nat.le_of_ble_eq_true rfl⟩ w52_ w52_ dX9_readChannel_100 (fun r48_ S49_ H locs hp Y => ?_)
  obtain ⟨rfl, h⟩ := hp
  replace hu := w52_
  refine W.eq (g2 := F0 m 103 ls []) rfl ?_
  refine lv_aload_n hx hb dX9_readChannel_103 rfl (lv_at hl 0 rfl) ?_
  refine lv_bipush (v := 62) hx hb dX9_readChannel_104 (by decide) ?_
  obtain ⟨k53_, h⟩ := h
  obtain ⟨m56_, m57_, w58_, h⟩ := h
  refine q_callVX X hex Y hl (cm_X9_expectSign hst h) mt_X9_expectSign mi_X9_expectSign ml_X9_160 (ci := 9) rfl k53_ (by decide) rfl rfl (by first | exact Nat.le_of_ble_eq_true rfl | simp [q_cat, q_catI, q_catJ, q_catR]) ⟨Nat.le_of_ble_eq_true rfl, Nat.le_of_ble_eq_true rfl⟩ w58_ w58_ dX9_readChannel_106 (fun r54_ S55_ H locs hp Y => ?_)
  obtain ⟨rfl, h⟩ := hp
  replace hu := w58_
  refine W.eq (g2 := F0 m 109 ls []) rfl ?_
  refine lv_aload_n hx hb dX9_readChannel_109 rfl (lv_at hl 0 rfl) ?_
  refine q_aload_n hx hb dX9_readChannel_110 rfl (lv_at hl 1 rfl) ?_
  obtain ⟨k59_, h⟩ := h
  obtain ⟨m62_, m63_, w64_, h⟩ := h
  refine q_callVX X hex Y hl (cm_X9_readGoal hst h) mt_X9_readGoal mi_X9_readGoal ml_X9_334 (ci := 9) rfl k59_ (by decide) rfl rfl (by first | exact Nat.le_of_ble_eq_true rfl | simp [q_cat, q_catI, q_catJ, q_catR]) ⟨Nat.le_of_ble_eq_true rfl, Nat.le_of_ble_eq_true rfl⟩ w64_ w64_ dX9_readChannel_111 (fun r60_ S61_ H locs hp Y => ?_)
  obtain ⟨rfl, h⟩ := hp
  replace hu := w64_
  refine W.eq (g2 := F0 m 114 ls []) rfl ?_
  refine lv_iconst (v := 0) hx hb dX9_readChannel_114 (by decide) ?_
  refine lv_istore_n (i := 2) (lv' := [(2, .int (0 : Int32)), (0, .ref a0), (1, va_rf r1)]) hx hb dX9_readChannel_115 rfl hl (by decide) (by first | rfl | simp [q_cat, q_catI, q_catJ, q_catR]) (fun ls hl => ?_)
  obtain ⟨n65_, h⟩ := h
  exact cl_X9_readChannel_116 X hex hst n65_ _ _ _ _ _ _ _ _ _ h hu Y (lv_sub hl [1, 2, 0] rfl)
def wb_X9_readChannel_88 (bc bs : Nat)  (u v : Nat) (S : q_S) (a0 : Nat) (r1 : Option Nat) (rs0 : Option Nat) (Q : Option Value → q_S → Prop) (E : String → q_S → Prop) : Prop := wb_X9_readChannel_89 bc bs u v S a0 r1 rs0 (0 : Int32) Q E
set_option maxHeartbeats 4000000 in
set_option maxRecDepth 100000 in
theorem cb_X9_readChannel_88 {p : Program} {l : Launch} {e : Env} {s : State} {m : MethodId} {args : Array Value} {below : List Frame} {meth : Method} {c : Code} {D : va_G} {cy : Nat → ClassId} {lo : Nat} {bc bs : Nat}  {u v : Nat} {S : q_S} {a0 : Nat} {r1 : Option Nat} {rs0 : Option Nat} {Q : Option Value → q_S → Prop} {E : String → q_S → Prop} {H : Heap} {locs : List Loc} {ls : Array Slot} (X : q_X p s m args meth c RX9 cX9_readChannel 3 none D cy lo) (hex : ∀ x ∈ c.exceptionTable.toList, False) (hst : l.stackTraces = false)  (hu : u ≤ bc ∧ v ≤ bs) (Y : q_Y D cy lo s S H locs) (hl : lv_has ls 3 [(0, .ref a0), (1, va_rf r1)]) (h : wb_X9_readChannel_88 bc bs u v S a0 r1 rs0 Q E) : W p l e ({ frames := 10, cells := bc, slots := bs, locals := 186 } : Room) s m args below meth c H locs u v (vx_MQ below (q_Q D cy lo Q) (q_XE D cy lo E) args s bc bs (fun q => lo ≤ q)) (F0 m 88 ls [va_rf rs0]) := by
  have hx := X.1
  have hb := X.2.1
  unfold wb_X9_readChannel_88 at h
  refine lv_iconst (v := 0) hx hb dX9_readChannel_88 (by decide) ?_
  exact cb_X9_readChannel_89 X hex hst hu Y (lv_sub hl [0, 1] rfl) h
def wb_X9_readChannel_64 (bc bs : Nat)  (u v : Nat) (S : q_S) (a0 : Nat) (r1 : Option Nat) (rs0 : Option Nat) (xs1 : Int32) (Q : Option Value → q_S → Prop) (E : String → q_S → Prop) : Prop := ∃ a66_ : Nat, rs0 = some a66_ ∧ (q_K S a66_ = 2 ∧ (∃ m71_ m72_ : Nat, (u + m71_ ≤ bc ∧ v + m72_ ≤ bs) ∧ (wm_X1_setLimit m71_ m72_ S a66_ xs1 (fun r69_ S70_ => r69_ = none ∧ (∃ a74_ : Nat, r1 = some a74_ ∧ (q_K S70_ a74_ = 2 ∧ ((((q_I S70_ 201 a74_) = 0 → (wb_X9_readChannel_88 bc bs (u + m71_) (v + m72_) S70_ a0 r1 r1 Q E)) ∧ (¬ (q_I S70_ 201 a74_) = 0 → (q_K S70_ a0 = 10 ∧ (∃ m81_ m82_ : Nat, ((u + m71_) + m81_ ≤ bc ∧ (v + m72_) + m82_ ≤ bs) ∧ (wm_X9_takes m81_ m82_ S70_ a0 (18 : Int32) (fun r79_ S80_ => ∃ x84_ : Int32, r79_ = some (.int x84_) ∧ (((x84_ = 0 → (wb_X9_readChannel_88 bc bs ((u + m71_) + m81_) ((v + m72_) + m82_) S80_ a0 r1 r1 Q E)) ∧ (¬ x84_ = 0 → (wb_X9_readChannel_89 bc bs ((u + m71_) + m81_) ((v + m72_) + m82_) S80_ a0 r1 r1 (1 : Int32) Q E))))) E))))))))))))
set_option maxHeartbeats 4000000 in
set_option maxRecDepth 100000 in
theorem cb_X9_readChannel_64 {p : Program} {l : Launch} {e : Env} {s : State} {m : MethodId} {args : Array Value} {below : List Frame} {meth : Method} {c : Code} {D : va_G} {cy : Nat → ClassId} {lo : Nat} {bc bs : Nat}  {u v : Nat} {S : q_S} {a0 : Nat} {r1 : Option Nat} {rs0 : Option Nat} {xs1 : Int32} {Q : Option Value → q_S → Prop} {E : String → q_S → Prop} {H : Heap} {locs : List Loc} {ls : Array Slot} (X : q_X p s m args meth c RX9 cX9_readChannel 3 none D cy lo) (hex : ∀ x ∈ c.exceptionTable.toList, False) (hst : l.stackTraces = false)  (hu : u ≤ bc ∧ v ≤ bs) (Y : q_Y D cy lo s S H locs) (hl : lv_has ls 3 [(0, .ref a0), (1, va_rf r1)]) (h : wb_X9_readChannel_64 bc bs u v S a0 r1 rs0 xs1 Q E) : W p l e ({ frames := 10, cells := bc, slots := bs, locals := 186 } : Room) s m args below meth c H locs u v (vx_MQ below (q_Q D cy lo Q) (q_XE D cy lo E) args s bc bs (fun q => lo ≤ q)) (F0 m 64 ls [.int xs1, va_rf rs0]) := by
  have hx := X.1
  have hb := X.2.1
  unfold wb_X9_readChannel_64 at h
  obtain ⟨a66_, e67_, h⟩ := h
  refine q_nn [.int xs1] e67_ ?_
  obtain ⟨k68_, h⟩ := h
  obtain ⟨m71_, m72_, w73_, h⟩ := h
  refine q_callV X Y hl (cm_X1_setLimit h) mt_X1_setLimit mi_X1_setLimit ml_X9_326 (ci := 1) rfl k68_ (by decide) rfl rfl (by first | exact Nat.le_of_ble_eq_true rfl | simp [q_cat, q_catI, q_catJ, q_catR]) ⟨Nat.le_of_ble_eq_true rfl, Nat.le_of_ble_eq_true rfl⟩ w73_ dX9_readChannel_64 (fun r69_ S70_ H locs hp Y => ?_)
  obtain ⟨rfl, h⟩ := hp
  replace hu := w73_
  refine W.eq (g2 := F0 m 67 ls []) rfl ?_
  refine q_aload_n hx hb dX9_readChannel_67 rfl (lv_at hl 1 rfl) ?_
  refine q_aload_n hx hb dX9_readChannel_68 rfl (lv_at hl 1 rfl) ?_
  obtain ⟨a74_, e75_, h⟩ := h
  refine q_nn [] e75_ ?_
  obtain ⟨k76_, h⟩ := h
  refine q_getI X Y kX1 1 rfl fl_X9_323 k76_ dX9_readChannel_69 ?_
  refine lv_if_eq (tgt := 88) hx hb dX9_readChannel_72 (by decide) (fun c77_ => ?_) (fun c77_ => ?_)
  · replace h := h.1 c77_
    exact cb_X9_readChannel_88 X hex hst hu Y (lv_sub hl [0, 1] rfl) h
  · replace h := h.2 c77_
    refine lv_aload_n hx hb dX9_readChannel_75 rfl (lv_at hl 0 rfl) ?_
    refine lv_bipush (v := 18) hx hb dX9_readChannel_76 (by decide) ?_
    obtain ⟨k78_, h⟩ := h
    obtain ⟨m81_, m82_, w83_, h⟩ := h
    refine q_callVX X hex Y hl (cm_X9_takes hst h) mt_X9_takes mi_X9_takes ml_X9_248 (ci := 9) rfl k78_ (by decide) rfl rfl (by first | exact Nat.le_of_ble_eq_true rfl | simp [q_cat, q_catI, q_catJ, q_catR]) ⟨Nat.le_of_ble_eq_true rfl, Nat.le_of_ble_eq_true rfl⟩ w83_ w83_ dX9_readChannel_78 (fun r79_ S80_ H locs hp Y => ?_)
    obtain ⟨x84_, rfl, h⟩ := hp
    replace hu := w83_
    refine W.eq (g2 := F0 m 81 ls [.int x84_, va_rf r1]) rfl ?_
    refine lv_if_eq (tgt := 88) hx hb dX9_readChannel_81 (by decide) (fun c85_ => ?_) (fun c85_ => ?_)
    · replace h := h.1 c85_
      exact cb_X9_readChannel_88 X hex hst hu Y (lv_sub hl [0, 1] rfl) h
    · replace h := h.2 c85_
      refine lv_iconst (v := 1) hx hb dX9_readChannel_84 (by decide) ?_
      refine lv_goto (tgt := 89) hx hb dX9_readChannel_85 (by decide) ?_
      exact cb_X9_readChannel_89 X hex hst hu Y (lv_sub hl [0, 1] rfl) h
def wb_X9_readChannel_21 (bc bs : Nat)  (u v : Nat) (S : q_S) (a0 : Nat) (Q : Option Value → q_S → Prop) (E : String → q_S → Prop) : Prop := q_K S a0 = 10 ∧ (∃ m89_ m90_ : Nat, (u + m89_ ≤ bc ∧ v + m90_ ≤ bs) ∧ (wm_X9_advance m89_ m90_ S a0 (fun r87_ S88_ => r87_ = none ∧ (q_K S88_ a0 = 10 ∧ (∃ m95_ m96_ : Nat, ((u + m89_) + m95_ ≤ bc ∧ (v + m90_) + m96_ ≤ bs) ∧ (wm_X9_readIsQueuing m95_ m96_ S88_ a0 (fun r93_ S94_ => ∃ x98_ : Int32, r93_ = some (.int x98_) ∧ (∃ a99_ : Nat, (q_P S88_ 1800 a0) = some a99_ ∧ (q_K S94_ a99_ = 7 ∧ (∃ m104_ m105_ : Nat, (((u + m89_) + m95_) + m104_ ≤ bc ∧ ((v + m90_) + m96_) + m105_ ≤ bs) ∧ (wm_X6_addChannel m104_ m105_ S94_ a99_ x98_ (fun r102_ S103_ => ∃ r107_ : Option Nat, r102_ = some (va_rf r107_) ∧ (∃ a108_ : Nat, r107_ = some a108_ ∧ (q_K S103_ a108_ = 2 ∧ ((((q_I S103_ 201 a108_) = 0 → (q_K S103_ a0 = 10 ∧ (∃ m115_ m116_ : Nat, ((((u + m89_) + m95_) + m104_) + m115_ ≤ bc ∧ (((v + m90_) + m96_) + m105_) + m116_ ≤ bs) ∧ (wm_X9_number m115_ m116_ S103_ a0 (0 : Int32) (100000 : Int32) (1 : Int32) (fun r113_ S114_ => ∃ x118_ : Int32, r113_ = some (.int x118_) ∧ (wb_X9_readChannel_64 bc bs ((((u + m89_) + m95_) + m104_) + m115_) ((((v + m90_) + m96_) + m105_) + m116_) S114_ a0 r107_ r107_ x118_ Q E)) E)))) ∧ (¬ (q_I S103_ 201 a108_) = 0 → (q_K S103_ a0 = 10 ∧ (∃ m122_ m123_ : Nat, ((((u + m89_) + m95_) + m104_) + m122_ ≤ bc ∧ (((v + m90_) + m96_) + m105_) + m123_ ≤ bs) ∧ (wm_X9_number m122_ m123_ S103_ a0 (1 : Int32) (32 : Int32) (1 : Int32) (fun r120_ S121_ => ∃ x125_ : Int32, r120_ = some (.int x125_) ∧ (wb_X9_readChannel_64 bc bs ((((u + m89_) + m95_) + m104_) + m122_) ((((v + m90_) + m96_) + m105_) + m123_) S121_ a0 r107_ r107_ x125_ Q E)) E)))))))))))))) E)))) E))
set_option maxHeartbeats 4000000 in
set_option maxRecDepth 100000 in
theorem cb_X9_readChannel_21 {p : Program} {l : Launch} {e : Env} {s : State} {m : MethodId} {args : Array Value} {below : List Frame} {meth : Method} {c : Code} {D : va_G} {cy : Nat → ClassId} {lo : Nat} {bc bs : Nat}  {u v : Nat} {S : q_S} {a0 : Nat} {Q : Option Value → q_S → Prop} {E : String → q_S → Prop} {H : Heap} {locs : List Loc} {ls : Array Slot} (X : q_X p s m args meth c RX9 cX9_readChannel 3 none D cy lo) (hex : ∀ x ∈ c.exceptionTable.toList, False) (hst : l.stackTraces = false)  (hu : u ≤ bc ∧ v ≤ bs) (Y : q_Y D cy lo s S H locs) (hl : lv_has ls 3 [(0, .ref a0)]) (h : wb_X9_readChannel_21 bc bs u v S a0 Q E) : W p l e ({ frames := 10, cells := bc, slots := bs, locals := 186 } : Room) s m args below meth c H locs u v (vx_MQ below (q_Q D cy lo Q) (q_XE D cy lo E) args s bc bs (fun q => lo ≤ q)) (F0 m 21 ls []) := by
  have hx := X.1
  have hb := X.2.1
  unfold wb_X9_readChannel_21 at h
  refine lv_aload_n hx hb dX9_readChannel_21 rfl (lv_at hl 0 rfl) ?_
  obtain ⟨k86_, h⟩ := h
  obtain ⟨m89_, m90_, w91_, h⟩ := h
  refine q_callVX X hex Y hl (cm_X9_advance hst h) mt_X9_advance mi_X9_advance ml_X9_78 (ci := 9) rfl k86_ (by decide) rfl rfl (by first | exact Nat.le_of_ble_eq_true rfl | simp [q_cat, q_catI, q_catJ, q_catR]) ⟨Nat.le_of_ble_eq_true rfl, Nat.le_of_ble_eq_true rfl⟩ w91_ w91_ dX9_readChannel_22 (fun r87_ S88_ H locs hp Y => ?_)
  obtain ⟨rfl, h⟩ := hp
  replace hu := w91_
  refine W.eq (g2 := F0 m 25 ls []) rfl ?_
  refine lv_aload_n hx hb dX9_readChannel_25 rfl (lv_at hl 0 rfl) ?_
  obtain ⟨k92_, h⟩ := h
  refine q_getP X Y kX9 0 rfl fl_X9_12 k92_ rfl dX9_readChannel_26 ?_
  refine lv_aload_n hx hb dX9_readChannel_29 rfl (lv_at hl 0 rfl) ?_
  obtain ⟨m95_, m96_, w97_, h⟩ := h
  refine q_callVX X hex Y hl (cm_X9_readIsQueuing hst h) mt_X9_readIsQueuing mi_X9_readIsQueuing ml_X9_300 (ci := 9) rfl k92_ (by decide) rfl rfl (by first | exact Nat.le_of_ble_eq_true rfl | simp [q_cat, q_catI, q_catJ, q_catR]) ⟨Nat.le_of_ble_eq_true rfl, Nat.le_of_ble_eq_true rfl⟩ w97_ w97_ dX9_readChannel_30 (fun r93_ S94_ H locs hp Y => ?_)
  obtain ⟨x98_, rfl, h⟩ := hp
  replace hu := w97_
  refine W.eq (g2 := F0 m 33 ls [.int x98_, va_rf (q_P S88_ 1800 a0)]) rfl ?_
  obtain ⟨a99_, e100_, h⟩ := h
  refine q_nn [.int x98_] e100_ ?_
  obtain ⟨k101_, h⟩ := h
  obtain ⟨m104_, m105_, w106_, h⟩ := h
  refine q_callV X Y hl (cm_X6_addChannel h) mt_X6_addChannel mi_X6_addChannel ml_X9_319 (ci := 6) rfl k101_ (by decide) rfl rfl (by first | exact Nat.le_of_ble_eq_true rfl | simp [q_cat, q_catI, q_catJ, q_catR]) ⟨Nat.le_of_ble_eq_true rfl, Nat.le_of_ble_eq_true rfl⟩ w106_ dX9_readChannel_33 (fun r102_ S103_ H locs hp Y => ?_)
  obtain ⟨r107_, rfl, h⟩ := hp
  replace hu := w106_
  refine W.eq (g2 := F0 m 36 ls [va_rf r107_]) rfl ?_
  refine q_astore_n (i := 1) (lv' := [(1, va_rf r107_), (0, .ref a0)]) hx hb dX9_readChannel_36 rfl hl (by decide) (by first | rfl | simp [q_cat, q_catI, q_catJ, q_catR]) (fun ls hl => ?_)
  refine q_aload_n hx hb dX9_readChannel_37 rfl (lv_at hl 0 rfl) ?_
  refine q_aload_n hx hb dX9_readChannel_38 rfl (lv_at hl 0 rfl) ?_
  obtain ⟨a108_, e109_, h⟩ := h
  refine q_nn [] e109_ ?_
  obtain ⟨k110_, h⟩ := h
  refine q_getI X Y kX1 1 rfl fl_X9_323 k110_ dX9_readChannel_39 ?_
  refine lv_if_eq (tgt := 56) hx hb dX9_readChannel_42 (by decide) (fun c111_ => ?_) (fun c111_ => ?_)
  · replace h := h.1 c111_
    refine lv_aload_n hx hb dX9_readChannel_56 rfl (lv_at hl 1 rfl) ?_
    refine lv_iconst (v := 0) hx hb dX9_readChannel_57 (by decide) ?_
    refine lv_ldc (v := 100000) hx hb X.2.2.2.1 (X.2.2.2.2.1 _ co_X9_251) dX9_readChannel_58 ?_
    refine lv_iconst (v := 1) hx hb dX9_readChannel_60 (by decide) ?_
    obtain ⟨k112_, h⟩ := h
    obtain ⟨m115_, m116_, w117_, h⟩ := h
    refine q_callVX X hex Y hl (cm_X9_number hst h) mt_X9_number mi_X9_number ml_X9_170 (ci := 9) rfl k112_ (by decide) rfl rfl (by first | exact Nat.le_of_ble_eq_true rfl | simp [q_cat, q_catI, q_catJ, q_catR]) ⟨Nat.le_of_ble_eq_true rfl, Nat.le_of_ble_eq_true rfl⟩ w117_ w117_ dX9_readChannel_61 (fun r113_ S114_ H locs hp Y => ?_)
    obtain ⟨x118_, rfl, h⟩ := hp
    replace hu := w117_
    refine W.eq (g2 := F0 m 64 ls [.int x118_, va_rf r107_]) rfl ?_
    exact cb_X9_readChannel_64 X hex hst hu Y (lv_sub hl [1, 0] rfl) h
  · replace h := h.2 c111_
    refine lv_aload_n hx hb dX9_readChannel_45 rfl (lv_at hl 1 rfl) ?_
    refine lv_iconst (v := 1) hx hb dX9_readChannel_46 (by decide) ?_
    refine lv_bipush (v := 32) hx hb dX9_readChannel_47 (by decide) ?_
    refine lv_iconst (v := 1) hx hb dX9_readChannel_49 (by decide) ?_
    obtain ⟨k119_, h⟩ := h
    obtain ⟨m122_, m123_, w124_, h⟩ := h
    refine q_callVX X hex Y hl (cm_X9_number hst h) mt_X9_number mi_X9_number ml_X9_170 (ci := 9) rfl k119_ (by decide) rfl rfl (by first | exact Nat.le_of_ble_eq_true rfl | simp [q_cat, q_catI, q_catJ, q_catR]) ⟨Nat.le_of_ble_eq_true rfl, Nat.le_of_ble_eq_true rfl⟩ w124_ w124_ dX9_readChannel_50 (fun r120_ S121_ H locs hp Y => ?_)
    obtain ⟨x125_, rfl, h⟩ := hp
    replace hu := w124_
    refine W.eq (g2 := F0 m 53 ls [.int x125_, va_rf r107_]) rfl ?_
    refine lv_goto (tgt := 64) hx hb dX9_readChannel_53 (by decide) ?_
    exact cb_X9_readChannel_64 X hex hst hu Y (lv_sub hl [1, 0] rfl) h
def wm_X9_readChannel (bc bs : Nat) (S : q_S) (a0 : Nat) (Q : Option Value → q_S → Prop) (E : String → q_S → Prop) : Prop := q_K S a0 = 10 ∧ (∃ a127_ : Nat, (q_P S 1800 a0) = some a127_ ∧ (q_K S a127_ = 7 ∧ ((((q_I S 1203 a127_) < (24 : Int32) → (wb_X9_readChannel_21 bc bs 0 0 S a0 Q E)) ∧ (¬ (q_I S 1203 a127_) < (24 : Int32) → (∃ m133_ m134_ : Nat, (0 + m133_ ≤ bc ∧ 0 + m134_ ≤ bs) ∧ (wm_X9_fail m133_ m134_ S a0 (4 : Int32) (q_I S 1811 a0) (fun r131_ S132_ => r131_ = none ∧ (wb_X9_readChannel_21 bc bs (0 + m133_) (0 + m134_) S132_ a0 Q E)) E)))))))
set_option maxHeartbeats 4000000 in
set_option maxRecDepth 100000 in
theorem cm_X9_readChannel {l : Launch} {D : va_G} {cy : Nat → ClassId} {lo : Nat} {bc bs : Nat} {S : q_S} {a0 : Nat} {Q : Option Value → q_S → Prop} {E : String → q_S → Prop} (hst : l.stackTraces = false) (h : wm_X9_readChannel bc bs S a0 Q E) : q_MetX l D cy lo yX9_readChannel cX9_readChannel 3 none 10 186 bc bs [.ref a0] S Q E := by
  refine q_bodyX (by decide) (by first | exact Nat.le_of_ble_eq_true rfl | simp [lg_sl, q_cat, q_catI, q_catJ, q_catR]) ?_
  intro p e s m below meth c ls X hex Y hl
  have hx := X.1
  have hb := X.2.1
  have hl : lv_has ls 3 [(0, .ref a0)] := by first | exact hl | simpa [lv_args, q_cat, q_catI, q_catJ, q_catR] using hl
  generalize hargs : ([.ref a0] : List Value).toArray = args at X ⊢
  have hu : 0 ≤ bc ∧ 0 ≤ bs := ⟨Nat.zero_le _, Nat.zero_le _⟩
  unfold wm_X9_readChannel at h
  refine lv_aload_n hx hb dX9_readChannel_0 rfl (lv_at hl 0 rfl) ?_
  obtain ⟨k126_, h⟩ := h
  refine q_getP X Y kX9 0 rfl fl_X9_12 k126_ rfl dX9_readChannel_1 ?_
  obtain ⟨a127_, e128_, h⟩ := h
  refine q_nn [] e128_ ?_
  obtain ⟨k129_, h⟩ := h
  refine q_getI X Y kX6 3 rfl fl_X9_316 k129_ dX9_readChannel_4 ?_
  refine lv_bipush (v := 24) hx hb dX9_readChannel_7 (by decide) ?_
  refine lv_icmp_lt (tgt := 21) hx hb dX9_readChannel_9 (by decide) (fun c130_ => ?_) (fun c130_ => ?_)
  · replace h := h.1 c130_
    exact cb_X9_readChannel_21 X hex hst hu Y (lv_sub hl [0] rfl) h
  · replace h := h.2 c130_
    refine lv_aload_n hx hb dX9_readChannel_12 rfl (lv_at hl 0 rfl) ?_
    refine lv_iconst (v := 4) hx hb dX9_readChannel_13 (by decide) ?_
    refine lv_aload_n hx hb dX9_readChannel_14 rfl (lv_at hl 0 rfl) ?_
    refine q_getI X Y kX9 11 rfl fl_X9_113 k126_ dX9_readChannel_15 ?_
    obtain ⟨m133_, m134_, w135_, h⟩ := h
    refine q_callVX X hex Y hl (cm_X9_fail hst h) mt_X9_fail mi_X9_fail ml_X9_133 (ci := 9) rfl k126_ (by decide) rfl rfl (by first | exact Nat.le_of_ble_eq_true rfl | simp [q_cat, q_catI, q_catJ, q_catR]) ⟨Nat.le_of_ble_eq_true rfl, Nat.le_of_ble_eq_true rfl⟩ w135_ w135_ dX9_readChannel_18 (fun r131_ S132_ H locs hp Y => ?_)
    obtain ⟨rfl, h⟩ := hp
    replace hu := w135_
    refine W.eq (g2 := F0 m 21 ls []) rfl ?_
    exact cb_X9_readChannel_21 X hex hst hu Y (lv_sub hl [0] rfl) h
-- X9_readFrame
theorem fl_X9_385 : Cond.fieldLink RX9 385 "PartitionWorks$Partition" "number" "I" ∈ q_G := q_tb (i := 691) (by decide +kernel) (by decide +kernel)
theorem ml_X9_386 : Cond.methodLink RX9 386 yX6_addWindow ∈ q_G := q_tb (i := 1224) (by decide +kernel) (by decide +kernel)
theorem mt_X6_addWindow : q_Mt yX6_addWindow cX6_addWindow 3 none 2 := ⟨q_tb (i := 1227) (by decide +kernel) (by decide +kernel), q_tb (i := 3) (by decide +kernel) (by decide +kernel), by decide +kernel, by decide +kernel, by decide +kernel⟩
theorem mi_X6_addWindow : Cond.instanceMethod yX6_addWindow ∈ q_G ∧ Cond.selects yX6_addWindow.cls yX6_addWindow yX6_addWindow ∈ q_G := ⟨q_tb (i := 1225) (by decide +kernel) (by decide +kernel), q_tb (i := 1226) (by decide +kernel) (by decide +kernel)⟩
theorem fl_X9_382 : Cond.fieldLink RX9 382 "PartitionWorks$Plan" "windowCount" "I" ∈ q_G := q_tb (i := 94) (by decide +kernel) (by decide +kernel)
theorem dX9_readFrame_0 : decode cX9_readFrame 0 = .ok (.aload_n 0, 1) := by decide +kernel
theorem dX9_readFrame_1 : decode cX9_readFrame 1 = .ok (.bipush 29, 2) := by decide +kernel
theorem dX9_readFrame_3 : decode cX9_readFrame 3 = .ok (.invokevirtual 145, 3) := by decide +kernel
theorem dX9_readFrame_6 : decode cX9_readFrame 6 = .ok (.aload_n 0, 1) := by decide +kernel
theorem dX9_readFrame_7 : decode cX9_readFrame 7 = .ok (.bipush 123, 2) := by decide +kernel
theorem dX9_readFrame_9 : decode cX9_readFrame 9 = .ok (.invokevirtual 160, 3) := by decide +kernel
theorem dX9_readFrame_12 : decode cX9_readFrame 12 = .ok (.iconst 0, 1) := by decide +kernel
theorem dX9_readFrame_13 : decode cX9_readFrame 13 = .ok (.istore_n 1, 1) := by decide +kernel
theorem dX9_readFrame_14 : decode cX9_readFrame 14 = .ok (.iload_n 1, 1) := by decide +kernel
theorem dX9_readFrame_15 : decode cX9_readFrame 15 = .ok (.bipush 24, 2) := by decide +kernel
theorem dX9_readFrame_17 : decode cX9_readFrame 17 = .ok (.if_icmp .gt 77, 3) := by decide +kernel
theorem dX9_readFrame_20 : decode cX9_readFrame 20 = .ok (.iload_n 1, 1) := by decide +kernel
theorem dX9_readFrame_21 : decode cX9_readFrame 21 = .ok (.ifCond .le 15, 3) := by decide +kernel
theorem dX9_readFrame_24 : decode cX9_readFrame 24 = .ok (.aload_n 0, 1) := by decide +kernel
theorem dX9_readFrame_25 : decode cX9_readFrame 25 = .ok (.bipush 125, 2) := by decide +kernel
theorem dX9_readFrame_27 : decode cX9_readFrame 27 = .ok (.invokevirtual 141, 3) := by decide +kernel
theorem dX9_readFrame_30 : decode cX9_readFrame 30 = .ok (.ifCond .eq 6, 3) := by decide +kernel
theorem dX9_readFrame_33 : decode cX9_readFrame 33 = .ok (.goto 61, 3) := by decide +kernel
theorem dX9_readFrame_36 : decode cX9_readFrame 36 = .ok (.aload_n 0, 1) := by decide +kernel
theorem dX9_readFrame_37 : decode cX9_readFrame 37 = .ok (.getfield 12, 3) := by decide +kernel
theorem dX9_readFrame_40 : decode cX9_readFrame 40 = .ok (.getfield 382, 3) := by decide +kernel
theorem dX9_readFrame_43 : decode cX9_readFrame 43 = .ok (.bipush 24, 2) := by decide +kernel
theorem dX9_readFrame_45 : decode cX9_readFrame 45 = .ok (.if_icmp .lt 12, 3) := by decide +kernel
theorem dX9_readFrame_48 : decode cX9_readFrame 48 = .ok (.aload_n 0, 1) := by decide +kernel
theorem dX9_readFrame_49 : decode cX9_readFrame 49 = .ok (.iconst 4, 1) := by decide +kernel
theorem dX9_readFrame_50 : decode cX9_readFrame 50 = .ok (.aload_n 0, 1) := by decide +kernel
theorem dX9_readFrame_51 : decode cX9_readFrame 51 = .ok (.getfield 113, 3) := by decide +kernel
theorem dX9_readFrame_54 : decode cX9_readFrame 54 = .ok (.invokevirtual 133, 3) := by decide +kernel
theorem dX9_readFrame_57 : decode cX9_readFrame 57 = .ok (.aload_n 0, 1) := by decide +kernel
theorem dX9_readFrame_58 : decode cX9_readFrame 58 = .ok (.invokevirtual 343, 3) := by decide +kernel
theorem dX9_readFrame_61 : decode cX9_readFrame 61 = .ok (.astore_n 2, 1) := by decide +kernel
theorem dX9_readFrame_62 : decode cX9_readFrame 62 = .ok (.aload_n 0, 1) := by decide +kernel
theorem dX9_readFrame_63 : decode cX9_readFrame 63 = .ok (.getfield 12, 3) := by decide +kernel
theorem dX9_readFrame_66 : decode cX9_readFrame 66 = .ok (.aload_n 2, 1) := by decide +kernel
theorem dX9_readFrame_67 : decode cX9_readFrame 67 = .ok (.getfield 385, 3) := by decide +kernel
theorem dX9_readFrame_70 : decode cX9_readFrame 70 = .ok (.aload_n 0, 1) := by decide +kernel
theorem dX9_readFrame_71 : decode cX9_readFrame 71 = .ok (.iconst 1, 1) := by decide +kernel
theorem dX9_readFrame_72 : decode cX9_readFrame 72 = .ok (.sipush 200, 3) := by decide +kernel
theorem dX9_readFrame_75 : decode cX9_readFrame 75 = .ok (.iconst 1, 1) := by decide +kernel
theorem dX9_readFrame_76 : decode cX9_readFrame 76 = .ok (.invokevirtual 170, 3) := by decide +kernel
theorem dX9_readFrame_79 : decode cX9_readFrame 79 = .ok (.invokevirtual 386, 3) := by decide +kernel
theorem dX9_readFrame_82 : decode cX9_readFrame 82 = .ok (.aload_n 0, 1) := by decide +kernel
theorem dX9_readFrame_83 : decode cX9_readFrame 83 = .ok (.bipush 59, 2) := by decide +kernel
theorem dX9_readFrame_85 : decode cX9_readFrame 85 = .ok (.invokevirtual 160, 3) := by decide +kernel
theorem dX9_readFrame_88 : decode cX9_readFrame 88 = .ok (.iinc 1 1, 3) := by decide +kernel
theorem dX9_readFrame_91 : decode cX9_readFrame 91 = .ok (.goto (-77), 3) := by decide +kernel
theorem dX9_readFrame_94 : decode cX9_readFrame 94 = .ok (.aload_n 0, 1) := by decide +kernel
theorem dX9_readFrame_95 : decode cX9_readFrame 95 = .ok (.bipush 125, 2) := by decide +kernel
theorem dX9_readFrame_97 : decode cX9_readFrame 97 = .ok (.invokevirtual 160, 3) := by decide +kernel
theorem dX9_readFrame_100 : decode cX9_readFrame 100 = .ok (.aload_n 0, 1) := by decide +kernel
theorem dX9_readFrame_101 : decode cX9_readFrame 101 = .ok (.getfield 119, 3) := by decide +kernel
theorem dX9_readFrame_104 : decode cX9_readFrame 104 = .ok (.ifCond .eq 12, 3) := by decide +kernel
theorem dX9_readFrame_107 : decode cX9_readFrame 107 = .ok (.aload_n 0, 1) := by decide +kernel
theorem dX9_readFrame_108 : decode cX9_readFrame 108 = .ok (.iconst 1, 1) := by decide +kernel
theorem dX9_readFrame_109 : decode cX9_readFrame 109 = .ok (.aload_n 0, 1) := by decide +kernel
theorem dX9_readFrame_110 : decode cX9_readFrame 110 = .ok (.getfield 113, 3) := by decide +kernel
theorem dX9_readFrame_113 : decode cX9_readFrame 113 = .ok (.invokevirtual 133, 3) := by decide +kernel
theorem dX9_readFrame_116 : decode cX9_readFrame 116 = .ok (.return_, 1) := by decide +kernel
def wb_X9_readFrame_116 (bc bs : Nat)  (u v : Nat) (S : q_S) (Q : Option Value → q_S → Prop) (E : String → q_S → Prop) : Prop := Q none S
set_option maxHeartbeats 4000000 in
set_option maxRecDepth 100000 in
theorem cb_X9_readFrame_116 {p : Program} {l : Launch} {e : Env} {s : State} {m : MethodId} {args : Array Value} {below : List Frame} {meth : Method} {c : Code} {D : va_G} {cy : Nat → ClassId} {lo : Nat} {bc bs : Nat}  {u v : Nat} {S : q_S} {Q : Option Value → q_S → Prop} {E : String → q_S → Prop} {H : Heap} {locs : List Loc} {ls : Array Slot} (X : q_X p s m args meth c RX9 cX9_readFrame 3 none D cy lo) (hex : ∀ x ∈ c.exceptionTable.toList, False) (hst : l.stackTraces = false)  (hu : u ≤ bc ∧ v ≤ bs) (Y : q_Y D cy lo s S H locs) (hl : lv_has ls 3 []) (h : wb_X9_readFrame_116 bc bs u v S Q E) : W p l e ({ frames := 9, cells := bc, slots := bs, locals := 163 } : Room) s m args below meth c H locs u v (vx_MQ below (q_Q D cy lo Q) (q_XE D cy lo E) args s bc bs (fun q => lo ≤ q)) (F0 m 116 ls []) := by
  have hx := X.1
  have hb := X.2.1
  unfold wb_X9_readFrame_116 at h
  exact vx_ret <| q_vret X Y hu.1 hu.2 h dX9_readFrame_116
def wb_X9_readFrame_94 (bc bs : Nat)  (u v : Nat) (S : q_S) (a0 : Nat) (Q : Option Value → q_S → Prop) (E : String → q_S → Prop) : Prop := q_K S a0 = 10 ∧ (∃ m4_ m5_ : Nat, (u + m4_ ≤ bc ∧ v + m5_ ≤ bs) ∧ (wm_X9_expectSign m4_ m5_ S a0 (125 : Int32) (fun r2_ S3_ => r2_ = none ∧ (q_K S3_ a0 = 10 ∧ ((((q_I S3_ 1808 a0) = 0 → (wb_X9_readFrame_116 bc bs (u + m4_) (v + m5_) S3_ Q E)) ∧ (¬ (q_I S3_ 1808 a0) = 0 → (∃ m11_ m12_ : Nat, ((u + m4_) + m11_ ≤ bc ∧ (v + m5_) + m12_ ≤ bs) ∧ (wm_X9_fail m11_ m12_ S3_ a0 (1 : Int32) (q_I S3_ 1811 a0) (fun r9_ S10_ => r9_ = none ∧ (wb_X9_readFrame_116 bc bs ((u + m4_) + m11_) ((v + m5_) + m12_) S10_ Q E)) E))))))) E))
set_option maxHeartbeats 4000000 in
set_option maxRecDepth 100000 in
theorem cb_X9_readFrame_94 {p : Program} {l : Launch} {e : Env} {s : State} {m : MethodId} {args : Array Value} {below : List Frame} {meth : Method} {c : Code} {D : va_G} {cy : Nat → ClassId} {lo : Nat} {bc bs : Nat}  {u v : Nat} {S : q_S} {a0 : Nat} {Q : Option Value → q_S → Prop} {E : String → q_S → Prop} {H : Heap} {locs : List Loc} {ls : Array Slot} (X : q_X p s m args meth c RX9 cX9_readFrame 3 none D cy lo) (hex : ∀ x ∈ c.exceptionTable.toList, False) (hst : l.stackTraces = false)  (hu : u ≤ bc ∧ v ≤ bs) (Y : q_Y D cy lo s S H locs) (hl : lv_has ls 3 [(0, .ref a0)]) (h : wb_X9_readFrame_94 bc bs u v S a0 Q E) : W p l e ({ frames := 9, cells := bc, slots := bs, locals := 163 } : Room) s m args below meth c H locs u v (vx_MQ below (q_Q D cy lo Q) (q_XE D cy lo E) args s bc bs (fun q => lo ≤ q)) (F0 m 94 ls []) := by
  have hx := X.1
  have hb := X.2.1
  unfold wb_X9_readFrame_94 at h
  refine lv_aload_n hx hb dX9_readFrame_94 rfl (lv_at hl 0 rfl) ?_
  refine lv_bipush (v := 125) hx hb dX9_readFrame_95 (by decide) ?_
  obtain ⟨k1_, h⟩ := h
  obtain ⟨m4_, m5_, w6_, h⟩ := h
  refine q_callVX X hex Y hl (cm_X9_expectSign hst h) mt_X9_expectSign mi_X9_expectSign ml_X9_160 (ci := 9) rfl k1_ (by decide) rfl rfl (by first | exact Nat.le_of_ble_eq_true rfl | simp [q_cat, q_catI, q_catJ, q_catR]) ⟨Nat.le_of_ble_eq_true rfl, Nat.le_of_ble_eq_true rfl⟩ w6_ w6_ dX9_readFrame_97 (fun r2_ S3_ H locs hp Y => ?_)
  obtain ⟨rfl, h⟩ := hp
  replace hu := w6_
  refine W.eq (g2 := F0 m 100 ls []) rfl ?_
  refine lv_aload_n hx hb dX9_readFrame_100 rfl (lv_at hl 0 rfl) ?_
  obtain ⟨k7_, h⟩ := h
  refine q_getI X Y kX9 8 rfl fl_X9_119 k7_ dX9_readFrame_101 ?_
  refine lv_if_eq (tgt := 116) hx hb dX9_readFrame_104 (by decide) (fun c8_ => ?_) (fun c8_ => ?_)
  · replace h := h.1 c8_
    exact cb_X9_readFrame_116 X hex hst hu Y (lv_sub hl [] rfl) h
  · replace h := h.2 c8_
    refine lv_aload_n hx hb dX9_readFrame_107 rfl (lv_at hl 0 rfl) ?_
    refine lv_iconst (v := 1) hx hb dX9_readFrame_108 (by decide) ?_
    refine lv_aload_n hx hb dX9_readFrame_109 rfl (lv_at hl 0 rfl) ?_
    refine q_getI X Y kX9 11 rfl fl_X9_113 k7_ dX9_readFrame_110 ?_
    obtain ⟨m11_, m12_, w13_, h⟩ := h
    refine q_callVX X hex Y hl (cm_X9_fail hst h) mt_X9_fail mi_X9_fail ml_X9_133 (ci := 9) rfl k7_ (by decide) rfl rfl (by first | exact Nat.le_of_ble_eq_true rfl | simp [q_cat, q_catI, q_catJ, q_catR]) ⟨Nat.le_of_ble_eq_true rfl, Nat.le_of_ble_eq_true rfl⟩ w13_ w13_ dX9_readFrame_113 (fun r9_ S10_ H locs hp Y => ?_)
    obtain ⟨rfl, h⟩ := hp
    replace hu := w13_
    refine W.eq (g2 := F0 m 116 ls []) rfl ?_
    exact cb_X9_readFrame_116 X hex hst hu Y (lv_sub hl [] rfl) h
def wb_X9_readFrame_57 (bc bs : Nat) (B14 : Nat → Nat → q_S → Nat → Int32 → Prop) (u v : Nat) (S : q_S) (a0 : Nat) (x1 : Int32) (Q : Option Value → q_S → Prop) (E : String → q_S → Prop) : Prop := q_K S a0 = 10 ∧ (∃ m17_ m18_ : Nat, (u + m17_ ≤ bc ∧ v + m18_ ≤ bs) ∧ (wm_X9_readPartitionName m17_ m18_ S a0 (fun r15_ S16_ => ∃ r20_ : Option Nat, r15_ = some (va_rf r20_) ∧ (q_K S16_ a0 = 10 ∧ (∃ a22_ : Nat, r20_ = some a22_ ∧ (q_K S16_ a22_ = 6 ∧ (∃ m27_ m28_ : Nat, ((u + m17_) + m27_ ≤ bc ∧ (v + m18_) + m28_ ≤ bs) ∧ (wm_X9_number m27_ m28_ S16_ a0 (1 : Int32) (200 : Int32) (1 : Int32) (fun r25_ S26_ => ∃ x30_ : Int32, r25_ = some (.int x30_) ∧ (∃ a31_ : Nat, (q_P S16_ 1800 a0) = some a31_ ∧ (q_K S26_ a31_ = 7 ∧ (wm_X6_addWindow S26_ a31_ (q_I S16_ 1000 a22_) x30_ (fun r34_ S35_ => r34_ = none ∧ (q_K S35_ a0 = 10 ∧ (∃ m39_ m40_ : Nat, (((u + m17_) + m27_) + m39_ ≤ bc ∧ ((v + m18_) + m28_) + m40_ ≤ bs) ∧ (wm_X9_expectSign m39_ m40_ S35_ a0 (59 : Int32) (fun r37_ S38_ => r37_ = none ∧ (B14 (((u + m17_) + m27_) + m39_) (((v + m18_) + m28_) + m40_) S38_ a0 (x1 + 1))) E)))))))) E)))))) E))
set_option maxHeartbeats 4000000 in
set_option maxRecDepth 100000 in
theorem cb_X9_readFrame_57 {p : Program} {l : Launch} {e : Env} {s : State} {m : MethodId} {args : Array Value} {below : List Frame} {meth : Method} {c : Code} {D : va_G} {cy : Nat → ClassId} {lo : Nat} {bc bs : Nat} {B14 : Nat → Nat → q_S → Nat → Int32 → Prop} {u v : Nat} {S : q_S} {a0 : Nat} {x1 : Int32} {Q : Option Value → q_S → Prop} {E : String → q_S → Prop} {H : Heap} {locs : List Loc} {ls : Array Slot} (X : q_X p s m args meth c RX9 cX9_readFrame 3 none D cy lo) (hex : ∀ x ∈ c.exceptionTable.toList, False) (hst : l.stackTraces = false) (hB14 : ∀ (u v : Nat) (S : q_S) (a0 : Nat) (x1 : Int32) (H : Heap) (locs : List Loc) (ls : Array Slot), B14 u v S a0 x1 → (u ≤ bc ∧ v ≤ bs) → q_Y D cy lo s S H locs → lv_has ls 3 [(0, .ref a0), (1, .int x1)] → W p l e ({ frames := 9, cells := bc, slots := bs, locals := 163 } : Room) s m args below meth c H locs u v (vx_MQ below (q_Q D cy lo Q) (q_XE D cy lo E) args s bc bs (fun q => lo ≤ q)) (F0 m 14 ls [])) (hu : u ≤ bc ∧ v ≤ bs) (Y : q_Y D cy lo s S H locs) (hl : lv_has ls 3 [(0, .ref a0), (1, .int x1)]) (h : wb_X9_readFrame_57 bc bs B14 u v S a0 x1 Q E) : W p l e ({ frames := 9, cells := bc, slots := bs, locals := 163 } : Room) s m args below meth c H locs u v (vx_MQ below (q_Q D cy lo Q) (q_XE D cy lo E) args s bc bs (fun q => lo ≤ q)) (F0 m 57 ls []) := by
  have hx := X.1
  have hb := X.2.1
  unfold wb_X9_readFrame_57 at h
  refine lv_aload_n hx hb dX9_readFrame_57 rfl (lv_at hl 0 rfl) ?_
  obtain ⟨k14_, h⟩ := h
  obtain ⟨m17_, m18_, w19_, h⟩ := h
  refine q_callVX X hex Y hl (cm_X9_readPartitionName hst h) mt_X9_readPartitionName mi_X9_readPartitionName ml_X9_343 (ci := 9) rfl k14_ (by decide) rfl rfl (by first | exact Nat.le_of_ble_eq_true rfl | simp [q_cat, q_catI, q_catJ, q_catR]) ⟨Nat.le_of_ble_eq_true rfl, Nat.le_of_ble_eq_true rfl⟩ w19_ w19_ dX9_readFrame_58 (fun r15_ S16_ H locs hp Y => ?_)
  obtain ⟨r20_, rfl, h⟩ := hp
  replace hu := w19_
  refine W.eq (g2 := F0 m 61 ls [va_rf r20_]) rfl ?_
  refine q_astore_n (i := 2) (lv' := [(2, va_rf r20_), (0, .ref a0), (1, .int x1)]) hx hb dX9_readFrame_61 rfl hl (by decide) (by first | rfl | simp [q_cat, q_catI, q_catJ, q_catR]) (fun ls hl => ?_)
  refine lv_aload_n hx hb dX9_readFrame_62 rfl (lv_at hl 1 rfl) ?_
  obtain ⟨k21_, h⟩ := h
  refine q_getP X Y kX9 0 rfl fl_X9_12 k21_ rfl dX9_readFrame_63 ?_
  refine q_aload_n hx hb dX9_readFrame_66 rfl (lv_at hl 0 rfl) ?_
  obtain ⟨a22_, e23_, h⟩ := h
  refine q_nn [] e23_ ?_
  obtain ⟨k24_, h⟩ := h
  refine q_getI X Y kX5 0 rfl fl_X9_385 k24_ dX9_readFrame_67 ?_
  refine lv_aload_n hx hb dX9_readFrame_70 rfl (lv_at hl 1 rfl) ?_
  refine lv_iconst (v := 1) hx hb dX9_readFrame_71 (by decide) ?_
  refine lv_sipush (v := 200) hx hb dX9_readFrame_72 (by decide) ?_
  refine lv_iconst (v := 1) hx hb dX9_readFrame_75 (by decide) ?_
  obtain ⟨m27_, m28_, w29_, h⟩ := h
  refine q_callVX X hex Y hl (cm_X9_number hst h) mt_X9_number mi_X9_number ml_X9_170 (ci := 9) rfl k21_ (by decide) rfl rfl (by first | exact Nat.le_of_ble_eq_true rfl | simp [q_cat, q_catI, q_catJ, q_catR]) ⟨Nat.le_of_ble_eq_true rfl, Nat.le_of_ble_eq_true rfl⟩ w29_ w29_ dX9_readFrame_76 (fun r25_ S26_ H locs hp Y => ?_)
  obtain ⟨x30_, rfl, h⟩ := hp
  replace hu := w29_
  refine W.eq (g2 := F0 m 79 ls [.int x30_, .int (q_I S16_ 1000 a22_), va_rf (q_P S16_ 1800 a0)]) rfl ?_
  obtain ⟨a31_, e32_, h⟩ := h
  refine q_nn [.int x30_, .int (q_I S16_ 1000 a22_)] e32_ ?_
  obtain ⟨k33_, h⟩ := h
  refine q_callV X Y hl (cm_X6_addWindow h) mt_X6_addWindow mi_X6_addWindow ml_X9_386 (ci := 6) rfl k33_ (by decide) rfl rfl (by first | exact Nat.le_of_ble_eq_true rfl | simp [q_cat, q_catI, q_catJ, q_catR]) ⟨Nat.le_of_ble_eq_true rfl, Nat.le_of_ble_eq_true rfl⟩ hu dX9_readFrame_79 (fun r34_ S35_ H locs hp Y => ?_)
  obtain ⟨rfl, h⟩ := hp
  refine W.eq (g2 := F0 m 82 ls []) rfl ?_
  refine lv_aload_n hx hb dX9_readFrame_82 rfl (lv_at hl 1 rfl) ?_
  refine lv_bipush (v := 59) hx hb dX9_readFrame_83 (by decide) ?_
  obtain ⟨k36_, h⟩ := h
  obtain ⟨m39_, m40_, w41_, h⟩ := h
  refine q_callVX X hex Y hl (cm_X9_expectSign hst h) mt_X9_expectSign mi_X9_expectSign ml_X9_160 (ci := 9) rfl k36_ (by decide) rfl rfl (by first | exact Nat.le_of_ble_eq_true rfl | simp [q_cat, q_catI, q_catJ, q_catR]) ⟨Nat.le_of_ble_eq_true rfl, Nat.le_of_ble_eq_true rfl⟩ w41_ w41_ dX9_readFrame_85 (fun r37_ S38_ H locs hp Y => ?_)
  obtain ⟨rfl, h⟩ := hp
  replace hu := w41_
  refine W.eq (g2 := F0 m 88 ls []) rfl ?_
  refine lv_iinc (v := (x1 + 1)) (lv' := [(1, .int (x1 + 1)), (2, va_rf r20_), (0, .ref a0)]) hx hb dX9_readFrame_88 hl (k := 2) rfl (by first | rfl | decide) (by decide) (by first | rfl | simp [q_cat, q_catI, q_catJ, q_catR]) (fun ls hl => ?_)
  refine lv_goto (tgt := 14) hx hb dX9_readFrame_91 (by decide) ?_
  exact hB14 _ _ _ _ _ _ _ _ h hu Y (lv_sub hl [2, 0] rfl)
def wb_X9_readFrame_36 (bc bs : Nat) (B14 : Nat → Nat → q_S → Nat → Int32 → Prop) (u v : Nat) (S : q_S) (a0 : Nat) (x1 : Int32) (Q : Option Value → q_S → Prop) (E : String → q_S → Prop) : Prop := q_K S a0 = 10 ∧ (∃ a43_ : Nat, (q_P S 1800 a0) = some a43_ ∧ (q_K S a43_ = 7 ∧ ((((q_I S 1209 a43_) < (24 : Int32) → (wb_X9_readFrame_57 bc bs B14 u v S a0 x1 Q E)) ∧ (¬ (q_I S 1209 a43_) < (24 : Int32) → (∃ m49_ m50_ : Nat, (u + m49_ ≤ bc ∧ v + m50_ ≤ bs) ∧ (wm_X9_fail m49_ m50_ S a0 (4 : Int32) (q_I S 1811 a0) (fun r47_ S48_ => r47_ = none ∧ (wb_X9_readFrame_57 bc bs B14 (u + m49_) (v + m50_) S48_ a0 x1 Q E)) E)))))))
set_option maxHeartbeats 4000000 in
set_option maxRecDepth 100000 in
theorem cb_X9_readFrame_36 {p : Program} {l : Launch} {e : Env} {s : State} {m : MethodId} {args : Array Value} {below : List Frame} {meth : Method} {c : Code} {D : va_G} {cy : Nat → ClassId} {lo : Nat} {bc bs : Nat} {B14 : Nat → Nat → q_S → Nat → Int32 → Prop} {u v : Nat} {S : q_S} {a0 : Nat} {x1 : Int32} {Q : Option Value → q_S → Prop} {E : String → q_S → Prop} {H : Heap} {locs : List Loc} {ls : Array Slot} (X : q_X p s m args meth c RX9 cX9_readFrame 3 none D cy lo) (hex : ∀ x ∈ c.exceptionTable.toList, False) (hst : l.stackTraces = false) (hB14 : ∀ (u v : Nat) (S : q_S) (a0 : Nat) (x1 : Int32) (H : Heap) (locs : List Loc) (ls : Array Slot), B14 u v S a0 x1 → (u ≤ bc ∧ v ≤ bs) → q_Y D cy lo s S H locs → lv_has ls 3 [(0, .ref a0), (1, .int x1)] → W p l e ({ frames := 9, cells := bc, slots := bs, locals := 163 } : Room) s m args below meth c H locs u v (vx_MQ below (q_Q D cy lo Q) (q_XE D cy lo E) args s bc bs (fun q => lo ≤ q)) (F0 m 14 ls [])) (hu : u ≤ bc ∧ v ≤ bs) (Y : q_Y D cy lo s S H locs) (hl : lv_has ls 3 [(0, .ref a0), (1, .int x1)]) (h : wb_X9_readFrame_36 bc bs B14 u v S a0 x1 Q E) : W p l e ({ frames := 9, cells := bc, slots := bs, locals := 163 } : Room) s m args below meth c H locs u v (vx_MQ below (q_Q D cy lo Q) (q_XE D cy lo E) args s bc bs (fun q => lo ≤ q)) (F0 m 36 ls []) := by
  have hx := X.1
  have hb := X.2.1
  unfold wb_X9_readFrame_36 at h
  refine lv_aload_n hx hb dX9_readFrame_36 rfl (lv_at hl 0 rfl) ?_
  obtain ⟨k42_, h⟩ := h
  refine q_getP X Y kX9 0 rfl fl_X9_12 k42_ rfl dX9_readFrame_37 ?_
  obtain ⟨a43_, e44_, h⟩ := h
  refine q_nn [] e44_ ?_
  obtain ⟨k45_, h⟩ := h
  refine q_getI X Y kX6 9 rfl fl_X9_382 k45_ dX9_readFrame_40 ?_
  refine lv_bipush (v := 24) hx hb dX9_readFrame_43 (by decide) ?_
  refine lv_icmp_lt (tgt := 57) hx hb dX9_readFrame_45 (by decide) (fun c46_ => ?_) (fun c46_ => ?_)
  · replace h := h.1 c46_
    exact cb_X9_readFrame_57 X hex hst hB14 hu Y (lv_sub hl [0, 1] rfl) h
  · replace h := h.2 c46_
    refine lv_aload_n hx hb dX9_readFrame_48 rfl (lv_at hl 0 rfl) ?_
    refine lv_iconst (v := 4) hx hb dX9_readFrame_49 (by decide) ?_
    refine lv_aload_n hx hb dX9_readFrame_50 rfl (lv_at hl 0 rfl) ?_
    refine q_getI X Y kX9 11 rfl fl_X9_113 k42_ dX9_readFrame_51 ?_
    obtain ⟨m49_, m50_, w51_, h⟩ := h
    refine q_callVX X hex Y hl (cm_X9_fail hst h) mt_X9_fail mi_X9_fail ml_X9_133 (ci := 9) rfl k42_ (by decide) rfl rfl (by first | exact Nat.le_of_ble_eq_true rfl | simp [q_cat, q_catI, q_catJ, q_catR]) ⟨Nat.le_of_ble_eq_true rfl, Nat.le_of_ble_eq_true rfl⟩ w51_ w51_ dX9_readFrame_54 (fun r47_ S48_ H locs hp Y => ?_)
    obtain ⟨rfl, h⟩ := hp
    replace hu := w51_
    refine W.eq (g2 := F0 m 57 ls []) rfl ?_
    exact cb_X9_readFrame_57 X hex hst hB14 hu Y (lv_sub hl [0, 1] rfl) h
def wb_X9_readFrame_14 (bc bs : Nat) (B14 : Nat → Nat → q_S → Nat → Int32 → Prop) (u v : Nat) (S : q_S) (a0 : Nat) (x1 : Int32) (Q : Option Value → q_S → Prop) (E : String → q_S → Prop) : Prop := (((24 : Int32) < x1 → (wb_X9_readFrame_94 bc bs u v S a0 Q E)) ∧ (¬ (24 : Int32) < x1 → (((x1 ≤ 0 → (wb_X9_readFrame_36 bc bs B14 u v S a0 x1 Q E)) ∧ (¬ x1 ≤ 0 → (q_K S a0 = 10 ∧ (wm_X9_seesSign S a0 (125 : Int32) (fun r55_ S56_ => ∃ x57_ : Int32, r55_ = some (.int x57_) ∧ (((x57_ = 0 → (wb_X9_readFrame_36 bc bs B14 u v S56_ a0 x1 Q E)) ∧ (¬ x57_ = 0 → (wb_X9_readFrame_94 bc bs u v S56_ a0 Q E))))))))))))
set_option maxHeartbeats 4000000 in
set_option maxRecDepth 100000 in
theorem cb_X9_readFrame_14 {p : Program} {l : Launch} {e : Env} {s : State} {m : MethodId} {args : Array Value} {below : List Frame} {meth : Method} {c : Code} {D : va_G} {cy : Nat → ClassId} {lo : Nat} {bc bs : Nat} {B14 : Nat → Nat → q_S → Nat → Int32 → Prop} {u v : Nat} {S : q_S} {a0 : Nat} {x1 : Int32} {Q : Option Value → q_S → Prop} {E : String → q_S → Prop} {H : Heap} {locs : List Loc} {ls : Array Slot} (X : q_X p s m args meth c RX9 cX9_readFrame 3 none D cy lo) (hex : ∀ x ∈ c.exceptionTable.toList, False) (hst : l.stackTraces = false) (hB14 : ∀ (u v : Nat) (S : q_S) (a0 : Nat) (x1 : Int32) (H : Heap) (locs : List Loc) (ls : Array Slot), B14 u v S a0 x1 → (u ≤ bc ∧ v ≤ bs) → q_Y D cy lo s S H locs → lv_has ls 3 [(0, .ref a0), (1, .int x1)] → W p l e ({ frames := 9, cells := bc, slots := bs, locals := 163 } : Room) s m args below meth c H locs u v (vx_MQ below (q_Q D cy lo Q) (q_XE D cy lo E) args s bc bs (fun q => lo ≤ q)) (F0 m 14 ls [])) (hu : u ≤ bc ∧ v ≤ bs) (Y : q_Y D cy lo s S H locs) (hl : lv_has ls 3 [(0, .ref a0), (1, .int x1)]) (h : wb_X9_readFrame_14 bc bs B14 u v S a0 x1 Q E) : W p l e ({ frames := 9, cells := bc, slots := bs, locals := 163 } : Room) s m args below meth c H locs u v (vx_MQ below (q_Q D cy lo Q) (q_XE D cy lo E) args s bc bs (fun q => lo ≤ q)) (F0 m 14 ls []) := by
  have hx := X.1
  have hb := X.2.1
  unfold wb_X9_readFrame_14 at h
  refine lv_iload_n hx hb dX9_readFrame_14 rfl (lv_at hl 1 rfl) ?_
  refine lv_bipush (v := 24) hx hb dX9_readFrame_15 (by decide) ?_
  refine lv_icmp_gt (tgt := 94) hx hb dX9_readFrame_17 (by decide) (fun c52_ => ?_) (fun c52_ => ?_)
  · replace h := h.1 c52_
    exact cb_X9_readFrame_94 X hex hst hu Y (lv_sub hl [0] rfl) h
  · replace h := h.2 c52_
    refine lv_iload_n hx hb dX9_readFrame_20 rfl (lv_at hl 1 rfl) ?_
    refine lv_if_le (tgt := 36) hx hb dX9_readFrame_21 (by decide) (fun c53_ => ?_) (fun c53_ => ?_)
    · replace h := h.1 c53_
      exact cb_X9_readFrame_36 X hex hst hB14 hu Y (lv_sub hl [0, 1] rfl) h
    · replace h := h.2 c53_
      refine lv_aload_n hx hb dX9_readFrame_24 rfl (lv_at hl 0 rfl) ?_
      refine lv_bipush (v := 125) hx hb dX9_readFrame_25 (by decide) ?_
      obtain ⟨k54_, h⟩ := h
      refine q_callV X Y hl (cm_X9_seesSign h) mt_X9_seesSign mi_X9_seesSign ml_X9_141 (ci := 9) rfl k54_ (by decide) rfl rfl (by first | exact Nat.le_of_ble_eq_true rfl | simp [q_cat, q_catI, q_catJ, q_catR]) ⟨Nat.le_of_ble_eq_true rfl, Nat.le_of_ble_eq_true rfl⟩ hu dX9_readFrame_27 (fun r55_ S56_ H locs hp Y => ?_)
      obtain ⟨x57_, rfl, h⟩ := hp
      refine W.eq (g2 := F0 m 30 ls [.int x57_]) rfl ?_
      refine lv_if_eq (tgt := 36) hx hb dX9_readFrame_30 (by decide) (fun c58_ => ?_) (fun c58_ => ?_)
      · replace h := h.1 c58_
        exact cb_X9_readFrame_36 X hex hst hB14 hu Y (lv_sub hl [0, 1] rfl) h
      · replace h := h.2 c58_
        refine lv_goto (tgt := 94) hx hb dX9_readFrame_33 (by decide) ?_
        exact cb_X9_readFrame_94 X hex hst hu Y (lv_sub hl [0] rfl) h
def wl_X9_readFrame_14 (bc bs : Nat)  : Nat → Nat → Nat → q_S → Nat → Int32 → (Option Value → q_S → Prop) → (String → q_S → Prop) → Prop
  | 0, _, _, _, _, _, _, _ => False
  | n + 1, u, v, S, a0, x1, Q, E => wb_X9_readFrame_14 bc bs (fun u v S a0 x1 => wl_X9_readFrame_14 bc bs n u v S a0 x1 Q E) u v S a0 x1 Q E
set_option maxHeartbeats 4000000 in
set_option maxRecDepth 100000 in
theorem cl_X9_readFrame_14 {p : Program} {l : Launch} {e : Env} {s : State} {m : MethodId} {args : Array Value} {below : List Frame} {meth : Method} {c : Code} {D : va_G} {cy : Nat → ClassId} {lo : Nat} {bc bs : Nat}  {Q : Option Value → q_S → Prop} {E : String → q_S → Prop} (X : q_X p s m args meth c RX9 cX9_readFrame 3 none D cy lo) (hex : ∀ x ∈ c.exceptionTable.toList, False) (hst : l.stackTraces = false)  : ∀ (n : Nat) (u v : Nat) (S : q_S) (a0 : Nat) (x1 : Int32) (H : Heap) (locs : List Loc) (ls : Array Slot), wl_X9_readFrame_14 bc bs n u v S a0 x1 Q E → (u ≤ bc ∧ v ≤ bs) → q_Y D cy lo s S H locs → lv_has ls 3 [(0, .ref a0), (1, .int x1)] → W p l e ({ frames := 9, cells := bc, slots := bs, locals := 163 } : Room) s m args below meth c H locs u v (vx_MQ below (q_Q D cy lo Q) (q_XE D cy lo E) args s bc bs (fun q => lo ≤ q)) (F0 m 14 ls []) := by
  intro n
  induction n with
  | zero => intro u v S a0 x1 H locs ls h; exact absurd h id
  | succ n ih => intro u v S a0 x1 H locs ls h hu Y hl; exact cb_X9_readFrame_14 X hex hst ih hu Y hl h
def wm_X9_readFrame (bc bs : Nat) (S : q_S) (a0 : Nat) (Q : Option Value → q_S → Prop) (E : String → q_S → Prop) : Prop := q_K S a0 = 10 ∧ (∃ m62_ m63_ : Nat, (0 + m62_ ≤ bc ∧ 0 + m63_ ≤ bs) ∧ (wm_X9_expect m62_ m63_ S a0 (29 : Int32) (fun r60_ S61_ => r60_ = none ∧ (q_K S61_ a0 = 10 ∧ (∃ m68_ m69_ : Nat, ((0 + m62_) + m68_ ≤ bc ∧ (0 + m63_) + m69_ ≤ bs) ∧ (wm_X9_expectSign m68_ m69_ S61_ a0 (123 : Int32) (fun r66_ S67_ => r66_ = none ∧ (∃ n71_ : Nat, wl_X9_readFrame_14 bc bs n71_ ((0 + m62_) + m68_) ((0 + m63_) + m69_) S67_ a0 (0 : Int32) Q E)) E)))) E))
set_option maxHeartbeats 4000000 in
set_option maxRecDepth 100000 in
theorem cm_X9_readFrame {l : Launch} {D : va_G} {cy : Nat → ClassId} {lo : Nat} {bc bs : Nat} {S : q_S} {a0 : Nat} {Q : Option Value → q_S → Prop} {E : String → q_S → Prop} (hst : l.stackTraces = false) (h : wm_X9_readFrame bc bs S a0 Q E) : q_MetX l D cy lo yX9_readFrame cX9_readFrame 3 none 9 163 bc bs [.ref a0] S Q E := by
  refine q_bodyX (by decide) (by first | exact Nat.le_of_ble_eq_true rfl | simp [lg_sl, q_cat, q_catI, q_catJ, q_catR]) ?_
  intro p e s m below meth c ls X hex Y hl
  have hx := X.1
  have hb := X.2.1
  have hl : lv_has ls 3 [(0, .ref a0)] := by first | exact hl | simpa [lv_args, q_cat, q_catI, q_catJ, q_catR] using hl
  generalize hargs : ([.ref a0] : List Value).toArray = args at X ⊢
  have hu : 0 ≤ bc ∧ 0 ≤ bs := ⟨Nat.zero_le _, Nat.zero_le _⟩
  unfold wm_X9_readFrame at h
  refine lv_aload_n hx hb dX9_readFrame_0 rfl (lv_at hl 0 rfl) ?_
  refine lv_bipush (v := 29) hx hb dX9_readFrame_1 (by decide) ?_
  obtain ⟨k59_, h⟩ := h
  obtain ⟨m62_, m63_, w64_, h⟩ := h
  refine q_callVX X hex Y hl (cm_X9_expect hst h) mt_X9_expect mi_X9_expect ml_X9_145 (ci := 9) rfl k59_ (by decide) rfl rfl (by first | exact Nat.le_of_ble_eq_true rfl | simp [q_cat, q_catI, q_catJ, q_catR]) ⟨Nat.le_of_ble_eq_true rfl, Nat.le_of_ble_eq_true rfl⟩ w64_ w64_ dX9_readFrame_3 (fun r60_ S61_ H locs hp Y => ?_)
  obtain ⟨rfl, h⟩ := hp
  replace hu := w64_
  refine W.eq (g2 := F0 m 6 ls []) rfl ?_
  refine lv_aload_n hx hb dX9_readFrame_6 rfl (lv_at hl 0 rfl) ?_
  refine lv_bipush (v := 123) hx hb dX9_readFrame_7 (by decide) ?_
  obtain ⟨k65_, h⟩ := h
  obtain ⟨m68_, m69_, w70_, h⟩ := h
  refine q_callVX X hex Y hl (cm_X9_expectSign hst h) mt_X9_expectSign mi_X9_expectSign ml_X9_160 (ci := 9) rfl k65_ (by decide) rfl rfl (by first | exact Nat.le_of_ble_eq_true rfl | simp [q_cat, q_catI, q_catJ, q_catR]) ⟨Nat.le_of_ble_eq_true rfl, Nat.le_of_ble_eq_true rfl⟩ w70_ w70_ dX9_readFrame_9 (fun r66_ S67_ H locs hp Y => ?_)
  obtain ⟨rfl, h⟩ := hp
  replace hu := w70_
  refine W.eq (g2 := F0 m 12 ls []) rfl ?_
  refine lv_iconst (v := 0) hx hb dX9_readFrame_12 (by decide) ?_
  refine lv_istore_n (i := 1) (lv' := [(1, .int (0 : Int32)), (0, .ref a0)]) hx hb dX9_readFrame_13 rfl hl (by decide) (by first | rfl | simp [q_cat, q_catI, q_catJ, q_catR]) (fun ls hl => ?_)
  obtain ⟨n71_, h⟩ := h
  exact cl_X9_readFrame_14 X hex hst n71_ _ _ _ _ _ _ _ _ h hu Y (lv_sub hl [1, 0] rfl)
-- X9_read
theorem ml_X9_85 : Cond.methodLink RX9 85 yX9_readHead ∈ q_G := q_tb (i := 630) (by decide +kernel) (by decide +kernel)
theorem mt_X9_readHead : q_Mt yX9_readHead cX9_readHead 2 (some (.object "PartitionWorks$Partition")) 0 := ⟨q_tb (i := 633) (by decide +kernel) (by decide +kernel), q_tb (i := 2) (by decide +kernel) (by decide +kernel), by decide +kernel, by decide +kernel, by decide +kernel⟩
theorem mi_X9_readHead : Cond.instanceMethod yX9_readHead ∈ q_G ∧ Cond.selects yX9_readHead.cls yX9_readHead yX9_readHead ∈ q_G := ⟨q_tb (i := 632) (by decide +kernel) (by decide +kernel), q_tp (i := 10) (q := (yX9_readHead, 14)) (by decide +kernel) (by decide +kernel)⟩
theorem ml_X9_89 : Cond.methodLink RX9 89 yX9_readThings ∈ q_G := q_tb (i := 807) (by decide +kernel) (by decide +kernel)
theorem mt_X9_readThings : q_Mt yX9_readThings cX9_readThings 3 none 1 := ⟨q_tb (i := 810) (by decide +kernel) (by decide +kernel), q_tb (i := 2) (by decide +kernel) (by decide +kernel), by decide +kernel, by decide +kernel, by decide +kernel⟩
theorem mi_X9_readThings : Cond.instanceMethod yX9_readThings ∈ q_G ∧ Cond.selects yX9_readThings.cls yX9_readThings yX9_readThings ∈ q_G := ⟨q_tb (i := 809) (by decide +kernel) (by decide +kernel), q_tp (i := 16) (q := (yX9_readThings, 14)) (by decide +kernel) (by decide +kernel)⟩
theorem ml_X9_96 : Cond.methodLink RX9 96 yX9_readFrame ∈ q_G := q_tb (i := 1220) (by decide +kernel) (by decide +kernel)
theorem mt_X9_readFrame : q_Mt yX9_readFrame cX9_readFrame 3 none 0 := ⟨q_tb (i := 1223) (by decide +kernel) (by decide +kernel), q_tb (i := 2) (by decide +kernel) (by decide +kernel), by decide +kernel, by decide +kernel, by decide +kernel⟩
theorem mi_X9_readFrame : Cond.instanceMethod yX9_readFrame ∈ q_G ∧ Cond.selects yX9_readFrame.cls yX9_readFrame yX9_readFrame ∈ q_G := ⟨q_tb (i := 1222) (by decide +kernel) (by decide +kernel), q_tp (i := 33) (q := (yX9_readFrame, 14)) (by decide +kernel) (by decide +kernel)⟩
theorem fl_X9_99 : Cond.fieldLink RX9 99 "PartitionWorks$Plan" "loaded" "Z" ∈ q_G := q_tb (i := 103) (by decide +kernel) (by decide +kernel)
theorem ml_X9_93 : Cond.methodLink RX9 93 yX9_readChannel ∈ q_G := q_tb (i := 1091) (by decide +kernel) (by decide +kernel)
theorem mt_X9_readChannel : q_Mt yX9_readChannel cX9_readChannel 3 none 0 := ⟨q_tb (i := 1094) (by decide +kernel) (by decide +kernel), q_tb (i := 2) (by decide +kernel) (by decide +kernel), by decide +kernel, by decide +kernel, by decide +kernel⟩
theorem mi_X9_readChannel : Cond.instanceMethod yX9_readChannel ∈ q_G ∧ Cond.selects yX9_readChannel.cls yX9_readChannel yX9_readChannel ∈ q_G := ⟨q_tb (i := 1093) (by decide +kernel) (by decide +kernel), q_tp (i := 28) (q := (yX9_readChannel, 14)) (by decide +kernel) (by decide +kernel)⟩
theorem ml_X9_75 : Cond.methodLink RX9 75 yX6_clear ∈ q_G := q_tb (i := 470) (by decide +kernel) (by decide +kernel)
theorem mt_X6_clear : q_Mt yX6_clear cX6_clear 1 none 0 := ⟨q_tb (i := 473) (by decide +kernel) (by decide +kernel), q_tb (i := 3) (by decide +kernel) (by decide +kernel), by decide +kernel, by decide +kernel, by decide +kernel⟩
theorem mi_X6_clear : Cond.instanceMethod yX6_clear ∈ q_G ∧ Cond.selects yX6_clear.cls yX6_clear yX6_clear ∈ q_G := ⟨q_tb (i := 471) (by decide +kernel) (by decide +kernel), q_tb (i := 472) (by decide +kernel) (by decide +kernel)⟩
theorem dX9_read_0 : decode cX9_read 0 = .ok (.aload_n 0, 1) := by decide +kernel
theorem dX9_read_1 : decode cX9_read 1 = .ok (.aload_n 0, 1) := by decide +kernel
theorem dX9_read_2 : decode cX9_read 2 = .ok (.getfield 58, 3) := by decide +kernel
theorem dX9_read_5 : decode cX9_read 5 = .ok (.putfield 66, 3) := by decide +kernel
theorem dX9_read_8 : decode cX9_read 8 = .ok (.aload_n 0, 1) := by decide +kernel
theorem dX9_read_9 : decode cX9_read 9 = .ok (.iconst 0, 1) := by decide +kernel
theorem dX9_read_10 : decode cX9_read 10 = .ok (.putfield 58, 3) := by decide +kernel
theorem dX9_read_13 : decode cX9_read 13 = .ok (.aload_n 0, 1) := by decide +kernel
theorem dX9_read_14 : decode cX9_read 14 = .ok (.iconst 0, 1) := by decide +kernel
theorem dX9_read_15 : decode cX9_read 15 = .ok (.putfield 69, 3) := by decide +kernel
theorem dX9_read_18 : decode cX9_read 18 = .ok (.aload_n 0, 1) := by decide +kernel
theorem dX9_read_19 : decode cX9_read 19 = .ok (.iconst 0, 1) := by decide +kernel
theorem dX9_read_20 : decode cX9_read 20 = .ok (.putfield 72, 3) := by decide +kernel
theorem dX9_read_23 : decode cX9_read 23 = .ok (.aload_n 0, 1) := by decide +kernel
theorem dX9_read_24 : decode cX9_read 24 = .ok (.iconst (-1), 1) := by decide +kernel
theorem dX9_read_25 : decode cX9_read 25 = .ok (.putfield 22, 3) := by decide +kernel
theorem dX9_read_28 : decode cX9_read 28 = .ok (.aload_n 0, 1) := by decide +kernel
theorem dX9_read_29 : decode cX9_read 29 = .ok (.getfield 12, 3) := by decide +kernel
theorem dX9_read_32 : decode cX9_read 32 = .ok (.invokevirtual 75, 3) := by decide +kernel
theorem dX9_read_35 : decode cX9_read 35 = .ok (.aload_n 0, 1) := by decide +kernel
theorem dX9_read_36 : decode cX9_read 36 = .ok (.invokevirtual 78, 3) := by decide +kernel
theorem dX9_read_39 : decode cX9_read 39 = .ok (.iconst 0, 1) := by decide +kernel
theorem dX9_read_40 : decode cX9_read 40 = .ok (.istore_n 1, 1) := by decide +kernel
theorem dX9_read_41 : decode cX9_read 41 = .ok (.iload_n 1, 1) := by decide +kernel
theorem dX9_read_42 : decode cX9_read 42 = .ok (.sipush 4000, 3) := by decide +kernel
theorem dX9_read_45 : decode cX9_read 45 = .ok (.if_icmp .gt 29, 3) := by decide +kernel
theorem dX9_read_48 : decode cX9_read 48 = .ok (.iload_n 1, 1) := by decide +kernel
theorem dX9_read_49 : decode cX9_read 49 = .ok (.ifCond .eq 11, 3) := by decide +kernel
theorem dX9_read_52 : decode cX9_read 52 = .ok (.aload_n 0, 1) := by decide +kernel
theorem dX9_read_53 : decode cX9_read 53 = .ok (.iconst 0, 1) := by decide +kernel
theorem dX9_read_54 : decode cX9_read 54 = .ok (.invokevirtual 81, 3) := by decide +kernel
theorem dX9_read_57 : decode cX9_read 57 = .ok (.ifCond .eq 17, 3) := by decide +kernel
theorem dX9_read_60 : decode cX9_read 60 = .ok (.aload_n 0, 1) := by decide +kernel
theorem dX9_read_61 : decode cX9_read 61 = .ok (.aload_n 0, 1) := by decide +kernel
theorem dX9_read_62 : decode cX9_read 62 = .ok (.invokevirtual 85, 3) := by decide +kernel
theorem dX9_read_65 : decode cX9_read 65 = .ok (.invokevirtual 89, 3) := by decide +kernel
theorem dX9_read_68 : decode cX9_read 68 = .ok (.iinc 1 1, 3) := by decide +kernel
theorem dX9_read_71 : decode cX9_read 71 = .ok (.goto (-30), 3) := by decide +kernel
theorem dX9_read_74 : decode cX9_read 74 = .ok (.iconst 0, 1) := by decide +kernel
theorem dX9_read_75 : decode cX9_read 75 = .ok (.istore_n 1, 1) := by decide +kernel
theorem dX9_read_76 : decode cX9_read 76 = .ok (.iload_n 1, 1) := by decide +kernel
theorem dX9_read_77 : decode cX9_read 77 = .ok (.sipush 4000, 3) := by decide +kernel
theorem dX9_read_80 : decode cX9_read 80 = .ok (.if_icmp .gt 22, 3) := by decide +kernel
theorem dX9_read_83 : decode cX9_read 83 = .ok (.aload_n 0, 1) := by decide +kernel
theorem dX9_read_84 : decode cX9_read 84 = .ok (.bipush 24, 2) := by decide +kernel
theorem dX9_read_86 : decode cX9_read 86 = .ok (.invokevirtual 81, 3) := by decide +kernel
theorem dX9_read_89 : decode cX9_read 89 = .ok (.ifCond .eq 13, 3) := by decide +kernel
theorem dX9_read_92 : decode cX9_read 92 = .ok (.aload_n 0, 1) := by decide +kernel
theorem dX9_read_93 : decode cX9_read 93 = .ok (.invokevirtual 93, 3) := by decide +kernel
theorem dX9_read_96 : decode cX9_read 96 = .ok (.iinc 1 1, 3) := by decide +kernel
theorem dX9_read_99 : decode cX9_read 99 = .ok (.goto (-23), 3) := by decide +kernel
theorem dX9_read_102 : decode cX9_read 102 = .ok (.aload_n 0, 1) := by decide +kernel
theorem dX9_read_103 : decode cX9_read 103 = .ok (.invokevirtual 96, 3) := by decide +kernel
theorem dX9_read_106 : decode cX9_read 106 = .ok (.aload_n 0, 1) := by decide +kernel
theorem dX9_read_107 : decode cX9_read 107 = .ok (.getfield 12, 3) := by decide +kernel
theorem dX9_read_110 : decode cX9_read 110 = .ok (.iconst 1, 1) := by decide +kernel
theorem dX9_read_111 : decode cX9_read 111 = .ok (.putfield 99, 3) := by decide +kernel
theorem dX9_read_114 : decode cX9_read 114 = .ok (.return_, 1) := by decide +kernel
def wb_X9_read_60 (bc bs : Nat) (B41 : Nat → Nat → q_S → Nat → Int32 → Prop) (u v : Nat) (S : q_S) (a0 : Nat) (x1 : Int32) (Q : Option Value → q_S → Prop) (E : String → q_S → Prop) : Prop := q_K S a0 = 10 ∧ (∃ m4_ m5_ : Nat, (u + m4_ ≤ bc ∧ v + m5_ ≤ bs) ∧ (wm_X9_readHead m4_ m5_ S a0 (fun r2_ S3_ => ∃ r7_ : Option Nat, r2_ = some (va_rf r7_) ∧ (q_K S3_ a0 = 10 ∧ (∃ m11_ m12_ : Nat, ((u + m4_) + m11_ ≤ bc ∧ (v + m5_) + m12_ ≤ bs) ∧ (wm_X9_readThings m11_ m12_ S3_ a0 r7_ (fun r9_ S10_ => r9_ = none ∧ (B41 ((u + m4_) + m11_) ((v + m5_) + m12_) S10_ a0 (x1 + 1))) E)))) E))
set_option maxHeartbeats 4000000 in
set_option maxRecDepth 100000 in
theorem cb_X9_read_60 {p : Program} {l : Launch} {e : Env} {s : State} {m : MethodId} {args : Array Value} {below : List Frame} {meth : Method} {c : Code} {D : va_G} {cy : Nat → ClassId} {lo : Nat} {bc bs : Nat} {B41 : Nat → Nat → q_S → Nat → Int32 → Prop} {u v : Nat} {S : q_S} {a0 : Nat} {x1 : Int32} {Q : Option Value → q_S → Prop} {E : String → q_S → Prop} {H : Heap} {locs : List Loc} {ls : Array Slot} (X : q_X p s m args meth c RX9 cX9_read 2 none D cy lo) (hex : ∀ x ∈ c.exceptionTable.toList, False) (hst : l.stackTraces = false) (hB41 : ∀ (u v : Nat) (S : q_S) (a0 : Nat) (x1 : Int32) (H : Heap) (locs : List Loc) (ls : Array Slot), B41 u v S a0 x1 → (u ≤ bc ∧ v ≤ bs) → q_Y D cy lo s S H locs → lv_has ls 2 [(0, .ref a0), (1, .int x1)] → W p l e ({ frames := 11, cells := bc, slots := bs, locals := 208 } : Room) s m args below meth c H locs u v (vx_MQ below (q_Q D cy lo Q) (q_XE D cy lo E) args s bc bs (fun q => lo ≤ q)) (F0 m 41 ls [])) (hu : u ≤ bc ∧ v ≤ bs) (Y : q_Y D cy lo s S H locs) (hl : lv_has ls 2 [(0, .ref a0), (1, .int x1)]) (h : wb_X9_read_60 bc bs B41 u v S a0 x1 Q E) : W p l e ({ frames := 11, cells := bc, slots := bs, locals := 208 } : Room) s m args below meth c H locs u v (vx_MQ below (q_Q D cy lo Q) (q_XE D cy lo E) args s bc bs (fun q => lo ≤ q)) (F0 m 60 ls []) := by
  have hx := X.1
  have hb := X.2.1
  unfold wb_X9_read_60 at h
  refine lv_aload_n hx hb dX9_read_60 rfl (lv_at hl 0 rfl) ?_
  refine lv_aload_n hx hb dX9_read_61 rfl (lv_at hl 0 rfl) ?_
  obtain ⟨k1_, h⟩ := h
  obtain ⟨m4_, m5_, w6_, h⟩ := h
  refine q_callVX X hex Y hl (cm_X9_readHead hst h) mt_X9_readHead mi_X9_readHead ml_X9_85 (ci := 9) rfl k1_ (by decide) rfl rfl (by first | exact Nat.le_of_ble_eq_true rfl | simp [q_cat, q_catI, q_catJ, q_catR]) ⟨Nat.le_of_ble_eq_true rfl, Nat.le_of_ble_eq_true rfl⟩ w6_ w6_ dX9_read_62 (fun r2_ S3_ H locs hp Y => ?_)
  obtain ⟨r7_, rfl, h⟩ := hp
  replace hu := w6_
  refine W.eq (g2 := F0 m 65 ls [va_rf r7_, .ref a0]) rfl ?_
  obtain ⟨k8_, h⟩ := h
  obtain ⟨m11_, m12_, w13_, h⟩ := h
  refine q_callVX X hex Y hl (cm_X9_readThings hst h) mt_X9_readThings mi_X9_readThings ml_X9_89 (ci := 9) rfl k8_ (by decide) rfl rfl (by first | exact Nat.le_of_ble_eq_true rfl | simp [q_cat, q_catI, q_catJ, q_catR]) ⟨Nat.le_of_ble_eq_true rfl, Nat.le_of_ble_eq_true rfl⟩ w13_ w13_ dX9_read_65 (fun r9_ S10_ H locs hp Y => ?_)
  obtain ⟨rfl, h⟩ := hp
  replace hu := w13_
  refine W.eq (g2 := F0 m 68 ls []) rfl ?_
  refine lv_iinc (v := (x1 + 1)) (lv' := [(1, .int (x1 + 1)), (0, .ref a0)]) hx hb dX9_read_68 hl (k := 1) rfl (by first | rfl | decide) (by decide) (by first | rfl | simp [q_cat, q_catI, q_catJ, q_catR]) (fun ls hl => ?_)
  refine lv_goto (tgt := 41) hx hb dX9_read_71 (by decide) ?_
  exact hB41 _ _ _ _ _ _ _ _ h hu Y (lv_sub hl [1, 0] rfl)
def wb_X9_read_102 (bc bs : Nat)  (u v : Nat) (S : q_S) (a0 : Nat) (Q : Option Value → q_S → Prop) (E : String → q_S → Prop) : Prop := q_K S a0 = 10 ∧ (∃ m17_ m18_ : Nat, (u + m17_ ≤ bc ∧ v + m18_ ≤ bs) ∧ (wm_X9_readFrame m17_ m18_ S a0 (fun r15_ S16_ => r15_ = none ∧ (q_K S16_ a0 = 10 ∧ (∃ a21_ : Nat, (q_P S16_ 1800 a0) = some a21_ ∧ (q_K S16_ a21_ = 7 ∧ (Q none (qs_I S16_ 1213 a21_ (1 : Int32))))))) E))
set_option maxHeartbeats 4000000 in
set_option maxRecDepth 100000 in
theorem cb_X9_read_102 {p : Program} {l : Launch} {e : Env} {s : State} {m : MethodId} {args : Array Value} {below : List Frame} {meth : Method} {c : Code} {D : va_G} {cy : Nat → ClassId} {lo : Nat} {bc bs : Nat}  {u v : Nat} {S : q_S} {a0 : Nat} {Q : Option Value → q_S → Prop} {E : String → q_S → Prop} {H : Heap} {locs : List Loc} {ls : Array Slot} (X : q_X p s m args meth c RX9 cX9_read 2 none D cy lo) (hex : ∀ x ∈ c.exceptionTable.toList, False) (hst : l.stackTraces = false)  (hu : u ≤ bc ∧ v ≤ bs) (Y : q_Y D cy lo s S H locs) (hl : lv_has ls 2 [(0, .ref a0)]) (h : wb_X9_read_102 bc bs u v S a0 Q E) : W p l e ({ frames := 11, cells := bc, slots := bs, locals := 208 } : Room) s m args below meth c H locs u v (vx_MQ below (q_Q D cy lo Q) (q_XE D cy lo E) args s bc bs (fun q => lo ≤ q)) (F0 m 102 ls []) := by
  have hx := X.1
  have hb := X.2.1
  unfold wb_X9_read_102 at h
  refine lv_aload_n hx hb dX9_read_102 rfl (lv_at hl 0 rfl) ?_
  obtain ⟨k14_, h⟩ := h
  obtain ⟨m17_, m18_, w19_, h⟩ := h
  refine q_callVX X hex Y hl (cm_X9_readFrame hst h) mt_X9_readFrame mi_X9_readFrame ml_X9_96 (ci := 9) rfl k14_ (by decide) rfl rfl (by first | exact Nat.le_of_ble_eq_true rfl | simp [q_cat, q_catI, q_catJ, q_catR]) ⟨Nat.le_of_ble_eq_true rfl, Nat.le_of_ble_eq_true rfl⟩ w19_ w19_ dX9_read_103 (fun r15_ S16_ H locs hp Y => ?_)
  obtain ⟨rfl, h⟩ := hp
  replace hu := w19_
  refine W.eq (g2 := F0 m 106 ls []) rfl ?_
  refine lv_aload_n hx hb dX9_read_106 rfl (lv_at hl 0 rfl) ?_
  obtain ⟨k20_, h⟩ := h
  refine q_getP X Y kX9 0 rfl fl_X9_12 k20_ rfl dX9_read_107 ?_
  refine lv_iconst (v := 1) hx hb dX9_read_110 (by decide) ?_
  obtain ⟨a21_, e22_, h⟩ := h
  refine q_nn [.int (1 : Int32)] e22_ ?_
  obtain ⟨k23_, h⟩ := h
  refine q_putI X Y kX6 13 rfl fl_X9_99 k23_ .boolean rfl ⟨rfl, rfl⟩ rfl dX9_read_111 (fun H locs Y => ?_)
  exact vx_ret <| q_vret X Y hu.1 hu.2 h dX9_read_114
def wb_X9_read_76 (bc bs : Nat) (B76 : Nat → Nat → q_S → Nat → Int32 → Prop) (u v : Nat) (S : q_S) (a0 : Nat) (x1 : Int32) (Q : Option Value → q_S → Prop) (E : String → q_S → Prop) : Prop := (((4000 : Int32) < x1 → (wb_X9_read_102 bc bs u v S a0 Q E)) ∧ (¬ (4000 : Int32) < x1 → (q_K S a0 = 10 ∧ (wm_X9_sees S a0 (24 : Int32) (fun r26_ S27_ => ∃ x28_ : Int32, r26_ = some (.int x28_) ∧ (((x28_ = 0 → (wb_X9_read_102 bc bs u v S27_ a0 Q E)) ∧ (¬ x28_ = 0 → (q_K S27_ a0 = 10 ∧ (∃ m33_ m34_ : Nat, (u + m33_ ≤ bc ∧ v + m34_ ≤ bs) ∧ (wm_X9_readChannel m33_ m34_ S27_ a0 (fun r31_ S32_ => r31_ = none ∧ (B76 (u + m33_) (v + m34_) S32_ a0 (x1 + 1))) E)))))))))))
set_option maxHeartbeats 4000000 in
set_option maxRecDepth 100000 in
theorem cb_X9_read_76 {p : Program} {l : Launch} {e : Env} {s : State} {m : MethodId} {args : Array Value} {below : List Frame} {meth : Method} {c : Code} {D : va_G} {cy : Nat → ClassId} {lo : Nat} {bc bs : Nat} {B76 : Nat → Nat → q_S → Nat → Int32 → Prop} {u v : Nat} {S : q_S} {a0 : Nat} {x1 : Int32} {Q : Option Value → q_S → Prop} {E : String → q_S → Prop} {H : Heap} {locs : List Loc} {ls : Array Slot} (X : q_X p s m args meth c RX9 cX9_read 2 none D cy lo) (hex : ∀ x ∈ c.exceptionTable.toList, False) (hst : l.stackTraces = false) (hB76 : ∀ (u v : Nat) (S : q_S) (a0 : Nat) (x1 : Int32) (H : Heap) (locs : List Loc) (ls : Array Slot), B76 u v S a0 x1 → (u ≤ bc ∧ v ≤ bs) → q_Y D cy lo s S H locs → lv_has ls 2 [(0, .ref a0), (1, .int x1)] → W p l e ({ frames := 11, cells := bc, slots := bs, locals := 208 } : Room) s m args below meth c H locs u v (vx_MQ below (q_Q D cy lo Q) (q_XE D cy lo E) args s bc bs (fun q => lo ≤ q)) (F0 m 76 ls [])) (hu : u ≤ bc ∧ v ≤ bs) (Y : q_Y D cy lo s S H locs) (hl : lv_has ls 2 [(0, .ref a0), (1, .int x1)]) (h : wb_X9_read_76 bc bs B76 u v S a0 x1 Q E) : W p l e ({ frames := 11, cells := bc, slots := bs, locals := 208 } : Room) s m args below meth c H locs u v (vx_MQ below (q_Q D cy lo Q) (q_XE D cy lo E) args s bc bs (fun q => lo ≤ q)) (F0 m 76 ls []) := by
  have hx := X.1
  have hb := X.2.1
  unfold wb_X9_read_76 at h
  refine lv_iload_n hx hb dX9_read_76 rfl (lv_at hl 1 rfl) ?_
  refine lv_sipush (v := 4000) hx hb dX9_read_77 (by decide) ?_
  refine lv_icmp_gt (tgt := 102) hx hb dX9_read_80 (by decide) (fun c24_ => ?_) (fun c24_ => ?_)
  · replace h := h.1 c24_
    exact cb_X9_read_102 X hex hst hu Y (lv_sub hl [0] rfl) h
  · replace h := h.2 c24_
    refine lv_aload_n hx hb dX9_read_83 rfl (lv_at hl 0 rfl) ?_
    refine lv_bipush (v := 24) hx hb dX9_read_84 (by decide) ?_
    obtain ⟨k25_, h⟩ := h
    refine q_callV X Y hl (cm_X9_sees h) mt_X9_sees mi_X9_sees ml_X9_81 (ci := 9) rfl k25_ (by decide) rfl rfl (by first | exact Nat.le_of_ble_eq_true rfl | simp [q_cat, q_catI, q_catJ, q_catR]) ⟨Nat.le_of_ble_eq_true rfl, Nat.le_of_ble_eq_true rfl⟩ hu dX9_read_86 (fun r26_ S27_ H locs hp Y => ?_)
    obtain ⟨x28_, rfl, h⟩ := hp
    refine W.eq (g2 := F0 m 89 ls [.int x28_]) rfl ?_
    refine lv_if_eq (tgt := 102) hx hb dX9_read_89 (by decide) (fun c29_ => ?_) (fun c29_ => ?_)
    · replace h := h.1 c29_
      exact cb_X9_read_102 X hex hst hu Y (lv_sub hl [0] rfl) h
    · replace h := h.2 c29_
      refine lv_aload_n hx hb dX9_read_92 rfl (lv_at hl 0 rfl) ?_
      obtain ⟨k30_, h⟩ := h
      obtain ⟨m33_, m34_, w35_, h⟩ := h
      refine q_callVX X hex Y hl (cm_X9_readChannel hst h) mt_X9_readChannel mi_X9_readChannel ml_X9_93 (ci := 9) rfl k30_ (by decide) rfl rfl (by first | exact Nat.le_of_ble_eq_true rfl | simp [q_cat, q_catI, q_catJ, q_catR]) ⟨Nat.le_of_ble_eq_true rfl, Nat.le_of_ble_eq_true rfl⟩ w35_ w35_ dX9_read_93 (fun r31_ S32_ H locs hp Y => ?_)
      obtain ⟨rfl, h⟩ := hp
      replace hu := w35_
      refine W.eq (g2 := F0 m 96 ls []) rfl ?_
      refine lv_iinc (v := (x1 + 1)) (lv' := [(1, .int (x1 + 1)), (0, .ref a0)]) hx hb dX9_read_96 hl (k := 1) rfl (by first | rfl | decide) (by decide) (by first | rfl | simp [q_cat, q_catI, q_catJ, q_catR]) (fun ls hl => ?_)
      refine lv_goto (tgt := 76) hx hb dX9_read_99 (by decide) ?_
      exact hB76 _ _ _ _ _ _ _ _ h hu Y (lv_sub hl [1, 0] rfl)
def wl_X9_read_76 (bc bs : Nat)  : Nat → Nat → Nat → q_S → Nat → Int32 → (Option Value → q_S → Prop) → (String → q_S → Prop) → Prop
  | 0, _, _, _, _, _, _, _ => False
  | n + 1, u, v, S, a0, x1, Q, E => wb_X9_read_76 bc bs (fun u v S a0 x1 => wl_X9_read_76 bc bs n u v S a0 x1 Q E) u v S a0 x1 Q E
set_option maxHeartbeats 4000000 in
set_option maxRecDepth 100000 in
theorem cl_X9_read_76 {p : Program} {l : Launch} {e : Env} {s : State} {m : MethodId} {args : Array Value} {below : List Frame} {meth : Method} {c : Code} {D : va_G} {cy : Nat → ClassId} {lo : Nat} {bc bs : Nat}  {Q : Option Value → q_S → Prop} {E : String → q_S → Prop} (X : q_X p s m args meth c RX9 cX9_read 2 none D cy lo) (hex : ∀ x ∈ c.exceptionTable.toList, False) (hst : l.stackTraces = false)  : ∀ (n : Nat) (u v : Nat) (S : q_S) (a0 : Nat) (x1 : Int32) (H : Heap) (locs : List Loc) (ls : Array Slot), wl_X9_read_76 bc bs n u v S a0 x1 Q E → (u ≤ bc ∧ v ≤ bs) → q_Y D cy lo s S H locs → lv_has ls 2 [(0, .ref a0), (1, .int x1)] → W p l e ({ frames := 11, cells := bc, slots := bs, locals := 208 } : Room) s m args below meth c H locs u v (vx_MQ below (q_Q D cy lo Q) (q_XE D cy lo E) args s bc bs (fun q => lo ≤ q)) (F0 m 76 ls []) := by
  intro n
  induction n with
  | zero => intro u v S a0 x1 H locs ls h; exact absurd h id
  | succ n ih => intro u v S a0 x1 H locs ls h hu Y hl; exact cb_X9_read_76 X hex hst ih hu Y hl h
def wb_X9_read_74 (bc bs : Nat)  (u v : Nat) (S : q_S) (a0 : Nat) (Q : Option Value → q_S → Prop) (E : String → q_S → Prop) : Prop := ∃ n36_ : Nat, wl_X9_read_76 bc bs n36_ u v S a0 (0 : Int32) Q E
set_option maxHeartbeats 4000000 in
set_option maxRecDepth 100000 in
theorem cb_X9_read_74 {p : Program} {l : Launch} {e : Env} {s : State} {m : MethodId} {args : Array Value} {below : List Frame} {meth : Method} {c : Code} {D : va_G} {cy : Nat → ClassId} {lo : Nat} {bc bs : Nat}  {u v : Nat} {S : q_S} {a0 : Nat} {Q : Option Value → q_S → Prop} {E : String → q_S → Prop} {H : Heap} {locs : List Loc} {ls : Array Slot} (X : q_X p s m args meth c RX9 cX9_read 2 none D cy lo) (hex : ∀ x ∈ c.exceptionTable.toList, False) (hst : l.stackTraces = false)  (hu : u ≤ bc ∧ v ≤ bs) (Y : q_Y D cy lo s S H locs) (hl : lv_has ls 2 [(0, .ref a0)]) (h : wb_X9_read_74 bc bs u v S a0 Q E) : W p l e ({ frames := 11, cells := bc, slots := bs, locals := 208 } : Room) s m args below meth c H locs u v (vx_MQ below (q_Q D cy lo Q) (q_XE D cy lo E) args s bc bs (fun q => lo ≤ q)) (F0 m 74 ls []) := by
  have hx := X.1
  have hb := X.2.1
  unfold wb_X9_read_74 at h
  refine lv_iconst (v := 0) hx hb dX9_read_74 (by decide) ?_
  refine lv_istore_n (i := 1) (lv' := [(1, .int (0 : Int32)), (0, .ref a0)]) hx hb dX9_read_75 rfl hl (by decide) (by first | rfl | simp [q_cat, q_catI, q_catJ, q_catR]) (fun ls hl => ?_)
  obtain ⟨n36_, h⟩ := h
  exact cl_X9_read_76 X hex hst n36_ _ _ _ _ _ _ _ _ h hu Y (lv_sub hl [1, 0] rfl)
def wb_X9_read_41 (bc bs : Nat) (B41 : Nat → Nat → q_S → Nat → Int32 → Prop) (u v : Nat) (S : q_S) (a0 : Nat) (x1 : Int32) (Q : Option Value → q_S → Prop) (E : String → q_S → Prop) : Prop := (((4000 : Int32) < x1 → (wb_X9_read_74 bc bs u v S a0 Q E)) ∧ (¬ (4000 : Int32) < x1 → (((x1 = 0 → (wb_X9_read_60 bc bs B41 u v S a0 x1 Q E)) ∧ (¬ x1 = 0 → (q_K S a0 = 10 ∧ (wm_X9_sees S a0 (0 : Int32) (fun r40_ S41_ => ∃ x42_ : Int32, r40_ = some (.int x42_) ∧ (((x42_ = 0 → (wb_X9_read_74 bc bs u v S41_ a0 Q E)) ∧ (¬ x42_ = 0 → (wb_X9_read_60 bc bs B41 u v S41_ a0 x1 Q E))))))))))))
set_option maxHeartbeats 4000000 in
set_option maxRecDepth 100000 in
theorem cb_X9_read_41 {p : Program} {l : Launch} {e : Env} {s : State} {m : MethodId} {args : Array Value} {below : List Frame} {meth : Method} {c : Code} {D : va_G} {cy : Nat → ClassId} {lo : Nat} {bc bs : Nat} {B41 : Nat → Nat → q_S → Nat → Int32 → Prop} {u v : Nat} {S : q_S} {a0 : Nat} {x1 : Int32} {Q : Option Value → q_S → Prop} {E : String → q_S → Prop} {H : Heap} {locs : List Loc} {ls : Array Slot} (X : q_X p s m args meth c RX9 cX9_read 2 none D cy lo) (hex : ∀ x ∈ c.exceptionTable.toList, False) (hst : l.stackTraces = false) (hB41 : ∀ (u v : Nat) (S : q_S) (a0 : Nat) (x1 : Int32) (H : Heap) (locs : List Loc) (ls : Array Slot), B41 u v S a0 x1 → (u ≤ bc ∧ v ≤ bs) → q_Y D cy lo s S H locs → lv_has ls 2 [(0, .ref a0), (1, .int x1)] → W p l e ({ frames := 11, cells := bc, slots := bs, locals := 208 } : Room) s m args below meth c H locs u v (vx_MQ below (q_Q D cy lo Q) (q_XE D cy lo E) args s bc bs (fun q => lo ≤ q)) (F0 m 41 ls [])) (hu : u ≤ bc ∧ v ≤ bs) (Y : q_Y D cy lo s S H locs) (hl : lv_has ls 2 [(0, .ref a0), (1, .int x1)]) (h : wb_X9_read_41 bc bs B41 u v S a0 x1 Q E) : W p l e ({ frames := 11, cells := bc, slots := bs, locals := 208 } : Room) s m args below meth c H locs u v (vx_MQ below (q_Q D cy lo Q) (q_XE D cy lo E) args s bc bs (fun q => lo ≤ q)) (F0 m 41 ls []) := by
  have hx := X.1
  have hb := X.2.1
  unfold wb_X9_read_41 at h
  refine lv_iload_n hx hb dX9_read_41 rfl (lv_at hl 1 rfl) ?_
  refine lv_sipush (v := 4000) hx hb dX9_read_42 (by decide) ?_
  refine lv_icmp_gt (tgt := 74) hx hb dX9_read_45 (by decide) (fun c37_ => ?_) (fun c37_ => ?_)
  · replace h := h.1 c37_
    exact cb_X9_read_74 X hex hst hu Y (lv_sub hl [0] rfl) h
  · replace h := h.2 c37_
    refine lv_iload_n hx hb dX9_read_48 rfl (lv_at hl 1 rfl) ?_
    refine lv_if_eq (tgt := 60) hx hb dX9_read_49 (by decide) (fun c38_ => ?_) (fun c38_ => ?_)
    · replace h := h.1 c38_
      exact cb_X9_read_60 X hex hst hB41 hu Y (lv_sub hl [0, 1] rfl) h
    · replace h := h.2 c38_
      refine lv_aload_n hx hb dX9_read_52 rfl (lv_at hl 0 rfl) ?_
      refine lv_iconst (v := 0) hx hb dX9_read_53 (by decide) ?_
      obtain ⟨k39_, h⟩ := h
      refine q_callV X Y hl (cm_X9_sees h) mt_X9_sees mi_X9_sees ml_X9_81 (ci := 9) rfl k39_ (by decide) rfl rfl (by first | exact Nat.le_of_ble_eq_true rfl | simp [q_cat, q_catI, q_catJ, q_catR]) ⟨Nat.le_of_ble_eq_true rfl, Nat.le_of_ble_eq_true rfl⟩ hu dX9_read_54 (fun r40_ S41_ H locs hp Y => ?_)
      obtain ⟨x42_, rfl, h⟩ := hp
      refine W.eq (g2 := F0 m 57 ls [.int x42_]) rfl ?_
      refine lv_if_eq (tgt := 74) hx hb dX9_read_57 (by decide) (fun c43_ => ?_) (fun c43_ => ?_)
      · replace h := h.1 c43_
        exact cb_X9_read_74 X hex hst hu Y (lv_sub hl [0] rfl) h
      · replace h := h.2 c43_
        exact cb_X9_read_60 X hex hst hB41 hu Y (lv_sub hl [0, 1] rfl) h
def wl_X9_read_41 (bc bs : Nat)  : Nat → Nat → Nat → q_S → Nat → Int32 → (Option Value → q_S → Prop) → (String → q_S → Prop) → Prop
  | 0, _, _, _, _, _, _, _ => False
  | n + 1, u, v, S, a0, x1, Q, E => wb_X9_read_41 bc bs (fun u v S a0 x1 => wl_X9_read_41 bc bs n u v S a0 x1 Q E) u v S a0 x1 Q E
set_option maxHeartbeats 4000000 in
set_option maxRecDepth 100000 in
theorem cl_X9_read_41 {p : Program} {l : Launch} {e : Env} {s : State} {m : MethodId} {args : Array Value} {below : List Frame} {meth : Method} {c : Code} {D : va_G} {cy : Nat → ClassId} {lo : Nat} {bc bs : Nat}  {Q : Option Value → q_S → Prop} {E : String → q_S → Prop} (X : q_X p s m args meth c RX9 cX9_read 2 none D cy lo) (hex : ∀ x ∈ c.exceptionTable.toList, False) (hst : l.stackTraces = false)  : ∀ (n : Nat) (u v : Nat) (S : q_S) (a0 : Nat) (x1 : Int32) (H : Heap) (locs : List Loc) (ls : Array Slot), wl_X9_read_41 bc bs n u v S a0 x1 Q E → (u ≤ bc ∧ v ≤ bs) → q_Y D cy lo s S H locs → lv_has ls 2 [(0, .ref a0), (1, .int x1)] → W p l e ({ frames := 11, cells := bc, slots := bs, locals := 208 } : Room) s m args below meth c H locs u v (vx_MQ below (q_Q D cy lo Q) (q_XE D cy lo E) args s bc bs (fun q => lo ≤ q)) (F0 m 41 ls []) := by
  intro n
  induction n with
  | zero => intro u v S a0 x1 H locs ls h; exact absurd h id
  | succ n ih => intro u v S a0 x1 H locs ls h hu Y hl; exact cb_X9_read_41 X hex hst ih hu Y hl h
def wm_X9_read (bc bs : Nat) (S : q_S) (a0 : Nat) (Q : Option Value → q_S → Prop) (E : String → q_S → Prop) : Prop := q_K S a0 = 10 ∧ (∀ S45_ : q_S, S45_ = (qs_I (qs_I (qs_I S 1806 a0 (q_I S 1803 a0)) 1803 a0 (0 : Int32)) 1807 a0 (0 : Int32)) → (∃ a46_ : Nat, (q_P (qs_I (qs_I S45_ 1804 a0 (0 : Int32)) 1805 a0 (-1 : Int32)) 1800 a0) = some a46_ ∧ (q_K (qs_I (qs_I S45_ 1804 a0 (0 : Int32)) 1805 a0 (-1 : Int32)) a46_ = 7 ∧ (wm_X6_clear (qs_I (qs_I S45_ 1804 a0 (0 : Int32)) 1805 a0 (-1 : Int32)) a46_ (fun r49_ S50_ => r49_ = none ∧ (q_K S50_ a0 = 10 ∧ (∃ m54_ m55_ : Nat, (0 + m54_ ≤ bc ∧ 0 + m55_ ≤ bs) ∧ (wm_X9_advance m54_ m55_ S50_ a0 (fun r52_ S53_ => r52_ = none ∧ (∃ n57_ : Nat, wl_X9_read_41 bc bs n57_ (0 + m54_) (0 + m55_) S53_ a0 (0 : Int32) Q E)) E))))))))
set_option maxHeartbeats 4000000 in
set_option maxRecDepth 100000 in
theorem cm_X9_read {l : Launch} {D : va_G} {cy : Nat → ClassId} {lo : Nat} {bc bs : Nat} {S : q_S} {a0 : Nat} {Q : Option Value → q_S → Prop} {E : String → q_S → Prop} (hst : l.stackTraces = false) (h : wm_X9_read bc bs S a0 Q E) : q_MetX l D cy lo yX9_read cX9_read 2 none 11 208 bc bs [.ref a0] S Q E := by
  refine q_bodyX (by decide) (by first | exact Nat.le_of_ble_eq_true rfl | simp [lg_sl, q_cat, q_catI, q_catJ, q_catR]) ?_
  intro p e s m below meth c ls X hex Y hl
  have hx := X.1
  have hb := X.2.1
  have hl : lv_has ls 2 [(0, .ref a0)] := by first | exact hl | simpa [lv_args, q_cat, q_catI, q_catJ, q_catR] using hl
  generalize hargs : ([.ref a0] : List Value).toArray = args at X ⊢
  have hu : 0 ≤ bc ∧ 0 ≤ bs := ⟨Nat.zero_le _, Nat.zero_le _⟩
  unfold wm_X9_read at h
  refine lv_aload_n hx hb dX9_read_0 rfl (lv_at hl 0 rfl) ?_
  refine lv_aload_n hx hb dX9_read_1 rfl (lv_at hl 0 rfl) ?_
  obtain ⟨k44_, h⟩ := h
  refine q_getI X Y kX9 3 rfl fl_X9_58 k44_ dX9_read_2 ?_
  refine q_putI X Y kX9 6 rfl fl_X9_66 k44_ .int rfl ⟨rfl, rfl⟩ rfl dX9_read_5 (fun H locs Y => ?_)
  refine lv_aload_n hx hb dX9_read_8 rfl (lv_at hl 0 rfl) ?_
  refine lv_iconst (v := 0) hx hb dX9_read_9 (by decide) ?_
  refine q_putI X Y kX9 3 rfl fl_X9_58 k44_ .int rfl ⟨rfl, rfl⟩ rfl dX9_read_10 (fun H locs Y => ?_)
  refine lv_aload_n hx hb dX9_read_13 rfl (lv_at hl 0 rfl) ?_
  refine lv_iconst (v := 0) hx hb dX9_read_14 (by decide) ?_
  refine q_putI X Y kX9 7 rfl fl_X9_69 k44_ .int rfl ⟨rfl, rfl⟩ rfl dX9_read_15 (fun H locs Y => ?_)
  obtain ⟨S45_, gS45_⟩ : ∃ z : q_S, z = (qs_I (qs_I (qs_I S 1806 a0 (q_I S 1803 a0)) 1803 a0 (0 : Int32)) 1807 a0 (0 : Int32)) := ⟨_, rfl⟩
  replace Y : q_Y D cy lo s S45_ H locs := by rw [gS45_]; exact Y
  replace h := h S45_ gS45_
  replace k44_ : q_K S45_ a0 = 10 := by rw [gS45_]; exact k44_
  refine lv_aload_n hx hb dX9_read_18 rfl (lv_at hl 0 rfl) ?_
  refine lv_iconst (v := 0) hx hb dX9_read_19 (by decide) ?_
  refine q_putI X Y kX9 4 rfl fl_X9_72 k44_ .int rfl ⟨rfl, rfl⟩ rfl dX9_read_20 (fun H locs Y => ?_)
  refine lv_aload_n hx hb dX9_read_23 rfl (lv_at hl 0 rfl) ?_
  refine lv_iconst (v := (-1)) hx hb dX9_read_24 (by decide) ?_
  refine q_putI X Y kX9 5 rfl fl_X9_22 k44_ .int rfl ⟨rfl, rfl⟩ rfl dX9_read_25 (fun H locs Y => ?_)
  refine lv_aload_n hx hb dX9_read_28 rfl (lv_at hl 0 rfl) ?_
  refine q_getP X Y kX9 0 rfl fl_X9_12 k44_ rfl dX9_read_29 ?_
  obtain ⟨a46_, e47_, h⟩ := h
  refine q_nn [] e47_ ?_
  obtain ⟨k48_, h⟩ := h
  refine q_callV X Y hl (cm_X6_clear h) mt_X6_clear mi_X6_clear ml_X9_75 (ci := 6) rfl k48_ (by decide) rfl rfl (by first | exact Nat.le_of_ble_eq_true rfl | simp [q_cat, q_catI, q_catJ, q_catR]) ⟨Nat.le_of_ble_eq_true rfl, Nat.le_of_ble_eq_true rfl⟩ hu dX9_read_32 (fun r49_ S50_ H locs hp Y => ?_)
  obtain ⟨rfl, h⟩ := hp
  refine W.eq (g2 := F0 m 35 ls []) rfl ?_
  refine lv_aload_n hx hb dX9_read_35 rfl (lv_at hl 0 rfl) ?_
  obtain ⟨k51_, h⟩ := h
  obtain ⟨m54_, m55_, w56_, h⟩ := h
  refine q_callVX X hex Y hl (cm_X9_advance hst h) mt_X9_advance mi_X9_advance ml_X9_78 (ci := 9) rfl k51_ (by decide) rfl rfl (by first | exact Nat.le_of_ble_eq_true rfl | simp [q_cat, q_catI, q_catJ, q_catR]) ⟨Nat.le_of_ble_eq_true rfl, Nat.le_of_ble_eq_true rfl⟩ w56_ w56_ dX9_read_36 (fun r52_ S53_ H locs hp Y => ?_)
  obtain ⟨rfl, h⟩ := hp
  replace hu := w56_
  refine W.eq (g2 := F0 m 39 ls []) rfl ?_
  refine lv_iconst (v := 0) hx hb dX9_read_39 (by decide) ?_
  refine lv_istore_n (i := 1) (lv' := [(1, .int (0 : Int32)), (0, .ref a0)]) hx hb dX9_read_40 rfl hl (by decide) (by first | rfl | simp [q_cat, q_catI, q_catJ, q_catR]) (fun ls hl => ?_)
  obtain ⟨n57_, h⟩ := h
  exact cl_X9_read_41 X hex hst n57_ _ _ _ _ _ _ _ _ h hu Y (lv_sub hl [1, 0] rfl)
-- X11_load
theorem ml_X11_57 : Cond.methodLink RX11 57 yX9_read ∈ q_G := q_tb (i := 466) (by decide +kernel) (by decide +kernel)
theorem mt_X9_read : q_Mt yX9_read cX9_read 2 none 0 := ⟨q_tb (i := 469) (by decide +kernel) (by decide +kernel), q_tb (i := 2) (by decide +kernel) (by decide +kernel), by decide +kernel, by decide +kernel, by decide +kernel⟩
theorem mi_X9_read : Cond.instanceMethod yX9_read ∈ q_G ∧ Cond.selects yX9_read.cls yX9_read yX9_read ∈ q_G := ⟨q_tb (i := 467) (by decide +kernel) (by decide +kernel), q_tb (i := 468) (by decide +kernel) (by decide +kernel)⟩
theorem dX11_load_0 : decode cX11_load 0 = .ok (.aload_n 0, 1) := by decide +kernel
theorem dX11_load_1 : decode cX11_load 1 = .ok (.getfield 12, 3) := by decide +kernel
theorem dX11_load_4 : decode cX11_load 4 = .ok (.invokevirtual 57, 3) := by decide +kernel
theorem dX11_load_7 : decode cX11_load 7 = .ok (.aload_n 0, 1) := by decide +kernel
theorem dX11_load_8 : decode cX11_load 8 = .ok (.getfield 20, 3) := by decide +kernel
theorem dX11_load_11 : decode cX11_load 11 = .ok (.getfield 60, 3) := by decide +kernel
theorem dX11_load_14 : decode cX11_load 14 = .ok (.ireturn, 1) := by decide +kernel
def wm_X11_load (bc bs : Nat) (S : q_S) (a0 : Nat) (Q : Option Value → q_S → Prop) (E : String → q_S → Prop) : Prop := q_K S a0 = 12 ∧ (∃ a2_ : Nat, (q_P S 2200 a0) = some a2_ ∧ (q_K S a2_ = 10 ∧ (∃ m7_ m8_ : Nat, (0 + m7_ ≤ bc ∧ 0 + m8_ ≤ bs) ∧ (wm_X9_read m7_ m8_ S a2_ (fun r5_ S6_ => r5_ = none ∧ (q_K S6_ a0 = 12 ∧ (∃ a11_ : Nat, (q_P S6_ 2201 a0) = some a11_ ∧ (q_K S6_ a11_ = 7 ∧ (Q (some (.int (q_I S6_ 1201 a11_))) S6_))))) E))))
set_option maxHeartbeats 4000000 in
set_option maxRecDepth 100000 in
theorem cm_X11_load {l : Launch} {D : va_G} {cy : Nat → ClassId} {lo : Nat} {bc bs : Nat} {S : q_S} {a0 : Nat} {Q : Option Value → q_S → Prop} {E : String → q_S → Prop} (hst : l.stackTraces = false) (h : wm_X11_load bc bs S a0 Q E) : q_MetX l D cy lo yX11_load cX11_load 1 (some .int) 12 229 bc bs [.ref a0] S Q E := by
  refine q_bodyX (by decide) (by first | exact Nat.le_of_ble_eq_true rfl | simp [lg_sl, q_cat, q_catI, q_catJ, q_catR]) ?_
  intro p e s m below meth c ls X hex Y hl
  have hx := X.1
  have hb := X.2.1
  have hl : lv_has ls 1 [(0, .ref a0)] := by first | exact hl | simpa [lv_args, q_cat, q_catI, q_catJ, q_catR] using hl
  generalize hargs : ([.ref a0] : List Value).toArray = args at X ⊢
  have hu : 0 ≤ bc ∧ 0 ≤ bs := ⟨Nat.zero_le _, Nat.zero_le _⟩
  unfold wm_X11_load at h
  refine lv_aload_n hx hb dX11_load_0 rfl (lv_at hl 0 rfl) ?_
  obtain ⟨k1_, h⟩ := h
  refine q_getP X Y kX11 0 rfl fl_X11_12 k1_ rfl dX11_load_1 ?_
  obtain ⟨a2_, e3_, h⟩ := h
  refine q_nn [] e3_ ?_
  obtain ⟨k4_, h⟩ := h
  obtain ⟨m7_, m8_, w9_, h⟩ := h
  refine q_callVX X hex Y hl (cm_X9_read hst h) mt_X9_read mi_X9_read ml_X11_57 (ci := 9) rfl k4_ (by decide) rfl rfl (by first | exact Nat.le_of_ble_eq_true rfl | simp [q_cat, q_catI, q_catJ, q_catR]) ⟨Nat.le_of_ble_eq_true rfl, Nat.le_of_ble_eq_true rfl⟩ w9_ w9_ dX11_load_4 (fun r5_ S6_ H locs hp Y => ?_)
  obtain ⟨rfl, h⟩ := hp
  replace hu := w9_
  refine W.eq (g2 := F0 m 7 ls []) rfl ?_
  refine lv_aload_n hx hb dX11_load_7 rfl (lv_at hl 0 rfl) ?_
  obtain ⟨k10_, h⟩ := h
  refine q_getP X Y kX11 1 rfl fl_X11_20 k10_ rfl dX11_load_8 ?_
  obtain ⟨a11_, e12_, h⟩ := h
  refine q_nn [] e12_ ?_
  obtain ⟨k13_, h⟩ := h
  refine q_getI X Y kX6 1 rfl fl_X11_60 k13_ dX11_load_11 ?_
  exact vx_ret <| q_iret X Y rfl hu.1 hu.2 h dX11_load_14
-- X11_image
theorem cl_X11_78 : Cond.classLink RX11 78 "java/lang/IllegalStateException" ∈ q_G := q_tb (i := 1237) (by decide +kernel) (by decide +kernel)
theorem ix_IllegalStateException : Cond.initialized "java/lang/IllegalStateException" ∈ q_G := q_tb (i := 26) (by decide +kernel) (by decide +kernel)
theorem tg_X11_82 : ∀ w ∈ (vx_atS RX11 82 "java/lang/IllegalStateException" ["java/lang/RuntimeException", "java/lang/Exception"]).filter goodWord, w ∈ q_G := by
  have h : ∀ w ∈ (vx_atS RX11 82 "java/lang/IllegalStateException" ["java/lang/RuntimeException", "java/lang/Exception"]).filter goodWord, w ∈ lw_tbl := by decide +kernel
  exact fun w hw => List.mem_filter.mpr ⟨h w hw, (List.mem_filter.mp hw).2⟩
theorem tn_X11_82 : ∀ w ∈ (vx_atS RX11 82 "java/lang/IllegalStateException" ["java/lang/RuntimeException", "java/lang/Exception"]).filter (fun w => !goodWord w), w ∈ q_Nw ∨ q_dc w = true := by decide +kernel
theorem cl_X11_101 : Cond.classLink RX11 101 "java/lang/IndexOutOfBoundsException" ∈ q_G := q_tb (i := 1253) (by decide +kernel) (by decide +kernel)
theorem ix_IndexOutOfBoundsException : Cond.initialized "java/lang/IndexOutOfBoundsException" ∈ q_G := q_tb (i := 27) (by decide +kernel) (by decide +kernel)
theorem tg_X11_105 : ∀ w ∈ (vx_atS RX11 105 "java/lang/IndexOutOfBoundsException" ["java/lang/RuntimeException", "java/lang/Exception"]).filter goodWord, w ∈ q_G := by
  have h : ∀ w ∈ (vx_atS RX11 105 "java/lang/IndexOutOfBoundsException" ["java/lang/RuntimeException", "java/lang/Exception"]).filter goodWord, w ∈ lw_tbl := by decide +kernel
  exact fun w hw => List.mem_filter.mpr ⟨h w hw, (List.mem_filter.mp hw).2⟩
theorem tn_X11_105 : ∀ w ∈ (vx_atS RX11 105 "java/lang/IndexOutOfBoundsException" ["java/lang/RuntimeException", "java/lang/Exception"]).filter (fun w => !goodWord w), w ∈ q_Nw ∨ q_dc w = true := by decide +kernel
theorem fl_X11_71 : Cond.fieldLink RX11 71 "PartitionWorks$Plan" "loaded" "Z" ∈ q_G := q_tb (i := 104) (by decide +kernel) (by decide +kernel)
theorem dX11_image_0 : decode cX11_image 0 = .ok (.aload_n 0, 1) := by decide +kernel
theorem dX11_image_1 : decode cX11_image 1 = .ok (.getfield 20, 3) := by decide +kernel
theorem dX11_image_4 : decode cX11_image 4 = .ok (.getfield 71, 3) := by decide +kernel
theorem dX11_image_7 : decode cX11_image 7 = .ok (.ifCond .eq 13, 3) := by decide +kernel
theorem dX11_image_10 : decode cX11_image 10 = .ok (.aload_n 0, 1) := by decide +kernel
theorem dX11_image_11 : decode cX11_image 11 = .ok (.getfield 20, 3) := by decide +kernel
theorem dX11_image_14 : decode cX11_image 14 = .ok (.getfield 75, 3) := by decide +kernel
theorem dX11_image_17 : decode cX11_image 17 = .ok (.ifCond .eq 13, 3) := by decide +kernel
theorem dX11_image_20 : decode cX11_image 20 = .ok (.new 78, 3) := by decide +kernel
theorem dX11_image_23 : decode cX11_image 23 = .ok (.dup, 1) := by decide +kernel
theorem dX11_image_24 : decode cX11_image 24 = .ok (.ldc 80, 2) := by decide +kernel
theorem dX11_image_26 : decode cX11_image 26 = .ok (.invokespecial 82, 3) := by decide +kernel
theorem dX11_image_29 : decode cX11_image 29 = .ok (.athrow, 1) := by decide +kernel
theorem dX11_image_30 : decode cX11_image 30 = .ok (.aload_n 0, 1) := by decide +kernel
theorem dX11_image_31 : decode cX11_image 31 = .ok (.getfield 20, 3) := by decide +kernel
theorem dX11_image_34 : decode cX11_image 34 = .ok (.iload_n 1, 1) := by decide +kernel
theorem dX11_image_35 : decode cX11_image 35 = .ok (.invokevirtual 85, 3) := by decide +kernel
theorem dX11_image_38 : decode cX11_image 38 = .ok (.astore 4, 2) := by decide +kernel
theorem dX11_image_40 : decode cX11_image 40 = .ok (.aload 4, 2) := by decide +kernel
theorem dX11_image_42 : decode cX11_image 42 = .ok (.ifnull 15, 3) := by decide +kernel
theorem dX11_image_45 : decode cX11_image 45 = .ok (.aload 4, 2) := by decide +kernel
theorem dX11_image_47 : decode cX11_image 47 = .ok (.getfield 89, 3) := by decide +kernel
theorem dX11_image_50 : decode cX11_image 50 = .ok (.iload_n 2, 1) := by decide +kernel
theorem dX11_image_51 : decode cX11_image 51 = .ok (.invokevirtual 95, 3) := by decide +kernel
theorem dX11_image_54 : decode cX11_image 54 = .ok (.ifCond .ne 13, 3) := by decide +kernel
theorem dX11_image_57 : decode cX11_image 57 = .ok (.new 101, 3) := by decide +kernel
theorem dX11_image_60 : decode cX11_image 60 = .ok (.dup, 1) := by decide +kernel
theorem dX11_image_61 : decode cX11_image 61 = .ok (.ldc 103, 2) := by decide +kernel
theorem dX11_image_63 : decode cX11_image 63 = .ok (.invokespecial 105, 3) := by decide +kernel
theorem dX11_image_66 : decode cX11_image 66 = .ok (.athrow, 1) := by decide +kernel
theorem dX11_image_67 : decode cX11_image 67 = .ok (.aload 4, 2) := by decide +kernel
theorem dX11_image_69 : decode cX11_image 69 = .ok (.getfield 89, 3) := by decide +kernel
theorem dX11_image_72 : decode cX11_image 72 = .ok (.getfield 106, 3) := by decide +kernel
theorem dX11_image_75 : decode cX11_image 75 = .ok (.iload_n 2, 1) := by decide +kernel
theorem dX11_image_76 : decode cX11_image 76 = .ok (.iconst 2, 1) := by decide +kernel
theorem dX11_image_77 : decode cX11_image 77 = .ok (.ishr, 1) := by decide +kernel
theorem dX11_image_78 : decode cX11_image 78 = .ok (.iload_n 3, 1) := by decide +kernel
theorem dX11_image_79 : decode cX11_image 79 = .ok (.iastore, 1) := by decide +kernel
theorem dX11_image_80 : decode cX11_image 80 = .ok (.return_, 1) := by decide +kernel
def wb_X11_image_20 (bc bs : Nat)  (u v : Nat) (S : q_S) (Q : Option Value → q_S → Prop) (E : String → q_S → Prop) : Prop := ((u + 1 ≤ bc ∧ v + 6 ≤ bs) ∧ E "java/lang/IllegalStateException" S)
set_option maxHeartbeats 4000000 in
set_option maxRecDepth 100000 in
theorem cb_X11_image_20 {p : Program} {l : Launch} {e : Env} {s : State} {m : MethodId} {args : Array Value} {below : List Frame} {meth : Method} {c : Code} {D : va_G} {cy : Nat → ClassId} {lo : Nat} {bc bs : Nat}  {u v : Nat} {S : q_S} {Q : Option Value → q_S → Prop} {E : String → q_S → Prop} {H : Heap} {locs : List Loc} {ls : Array Slot} (X : q_X p s m args meth c RX11 cX11_image 5 none D cy lo) (hex : ∀ x ∈ c.exceptionTable.toList, False) (hst : l.stackTraces = false)  (hu : u ≤ bc ∧ v ≤ bs) (Y : q_Y D cy lo s S H locs) (hl : lv_has ls 5 []) (h : wb_X11_image_20 bc bs u v S Q E) : W p l e ({ frames := 6, cells := bc, slots := bs, locals := 96 } : Room) s m args below meth c H locs u v (vx_MQ below (q_Q D cy lo Q) (q_XE D cy lo E) args s bc bs (fun q => lo ≤ q)) (F0 m 20 ls []) := by
  have hx := X.1
  have hb := X.2.1
  unfold wb_X11_image_20 at h
  exact q_throw X hex Y hst hl (i := 4) (by decide +kernel) (by decide +kernel) cl_X11_78 ix_IllegalStateException rfl tg_X11_82 tn_X11_82 to_ ⟨Nat.le_of_ble_eq_true rfl, by first | exact Nat.le_of_ble_eq_true rfl | simp [q_cat, q_catI, q_catJ, q_catR], h.1.1, h.1.2⟩ h.1 dX11_image_20 dX11_image_23 dX11_image_24 dX11_image_26 dX11_image_29 h.2
def wb_X11_image_57 (bc bs : Nat)  (u v : Nat) (S : q_S) (Q : Option Value → q_S → Prop) (E : String → q_S → Prop) : Prop := ((u + 1 ≤ bc ∧ v + 6 ≤ bs) ∧ E "java/lang/IndexOutOfBoundsException" S)
set_option maxHeartbeats 4000000 in
set_option maxRecDepth 100000 in
theorem cb_X11_image_57 {p : Program} {l : Launch} {e : Env} {s : State} {m : MethodId} {args : Array Value} {below : List Frame} {meth : Method} {c : Code} {D : va_G} {cy : Nat → ClassId} {lo : Nat} {bc bs : Nat}  {u v : Nat} {S : q_S} {Q : Option Value → q_S → Prop} {E : String → q_S → Prop} {H : Heap} {locs : List Loc} {ls : Array Slot} (X : q_X p s m args meth c RX11 cX11_image 5 none D cy lo) (hex : ∀ x ∈ c.exceptionTable.toList, False) (hst : l.stackTraces = false)  (hu : u ≤ bc ∧ v ≤ bs) (Y : q_Y D cy lo s S H locs) (hl : lv_has ls 5 []) (h : wb_X11_image_57 bc bs u v S Q E) : W p l e ({ frames := 6, cells := bc, slots := bs, locals := 96 } : Room) s m args below meth c H locs u v (vx_MQ below (q_Q D cy lo Q) (q_XE D cy lo E) args s bc bs (fun q => lo ≤ q)) (F0 m 57 ls []) := by
  have hx := X.1
  have hb := X.2.1
  unfold wb_X11_image_57 at h
  exact q_throw X hex Y hst hl (i := 5) (by decide +kernel) (by decide +kernel) cl_X11_101 ix_IndexOutOfBoundsException rfl tg_X11_105 tn_X11_105 to_ ⟨Nat.le_of_ble_eq_true rfl, by first | exact Nat.le_of_ble_eq_true rfl | simp [q_cat, q_catI, q_catJ, q_catR], h.1.1, h.1.2⟩ h.1 dX11_image_57 dX11_image_60 dX11_image_61 dX11_image_63 dX11_image_66 h.2
def wm_X11_image (bc bs : Nat) (S : q_S) (a0 : Nat) (x1 : Int32) (x2 : Int32) (x3 : Int32) (Q : Option Value → q_S → Prop) (E : String → q_S → Prop) : Prop := q_K S a0 = 12 ∧ (∃ a2_ : Nat, (q_P S 2201 a0) = some a2_ ∧ (q_K S a2_ = 7 ∧ ((((q_I S 1213 a2_) = 0 → (wb_X11_image_20 bc bs 0 0 S Q E)) ∧ (¬ (q_I S 1213 a2_) = 0 → ((((q_I S 1214 a2_) = 0 → (wm_X6_partitionAt S a2_ x1 (fun r7_ S8_ => ∃ r9_ : Option Nat, r7_ = some (va_rf r9_) ∧ (((r9_ = none → (wb_X11_image_57 bc bs 0 0 S8_ Q E)) ∧ (¬ r9_ = none → (∃ a11_ : Nat, r9_ = some a11_ ∧ (q_K S8_ a11_ = 6 ∧ (∃ a14_ : Nat, (q_P S8_ 1002 a11_) = some a14_ ∧ (q_K S8_ a14_ = 5 ∧ (wm_X4_hasWord S8_ a14_ x2 (fun r17_ S18_ => ∃ x19_ : Int32, r17_ = some (.int x19_) ∧ (((¬ x19_ = 0 → (q_K S18_ a11_ = 6 ∧ (∃ a22_ : Nat, (q_P S18_ 1002 a11_) = some a22_ ∧ (q_K S18_ a22_ = 5 ∧ (∃ a25_ : Nat, (q_P S18_ 802 a22_) = some a25_ ∧ (q_K S18_ a25_ = 21 ∧ (vp_in (x2 >>> ((2 : Int32) &&& 31)) (q_N S18_ a25_) ∧ (Q none (qs_A S18_ a25_ (x2 >>> ((2 : Int32) &&& 31)).toNatClampNeg x3))))))))) ∧ (x19_ = 0 → (wb_X11_image_57 bc bs 0 0 S18_ Q E)))))))))))))))) ∧ (¬ (q_I S 1214 a2_) = 0 → (wb_X11_image_20 bc bs 0 0 S Q E)))))))))
set_option maxHeartbeats 4000000 in
set_option maxRecDepth 100000 in
theorem cm_X11_image {l : Launch} {D : va_G} {cy : Nat → ClassId} {lo : Nat} {bc bs : Nat} {S : q_S} {a0 : Nat} {x1 : Int32} {x2 : Int32} {x3 : Int32} {Q : Option Value → q_S → Prop} {E : String → q_S → Prop} (hst : l.stackTraces = false) (h : wm_X11_image bc bs S a0 x1 x2 x3 Q E) : q_MetX l D cy lo yX11_image cX11_image 5 none 6 96 bc bs [.ref a0, .int x1, .int x2, .int x3] S Q E := by
  refine q_bodyX (by decide) (by first | exact Nat.le_of_ble_eq_true rfl | simp [lg_sl, q_cat, q_catI, q_catJ, q_catR]) ?_
  intro p e s m below meth c ls X hex Y hl
  have hx := X.1
  have hb := X.2.1
  have hl : lv_has ls 5 [(0, .ref a0), (1, .int x1), (2, .int x2), (3, .int x3)] := by first | exact hl | simpa [lv_args, q_cat, q_catI, q_catJ, q_catR] using hl
  generalize hargs : ([.ref a0, .int x1, .int x2, .int x3] : List Value).toArray = args at X ⊢
  have hu : 0 ≤ bc ∧ 0 ≤ bs := ⟨Nat.zero_le _, Nat.zero_le _⟩
  unfold wm_X11_image at h
  refine lv_aload_n hx hb dX11_image_0 rfl (lv_at hl 0 rfl) ?_
  obtain ⟨k1_, h⟩ := h
  refine q_getP X Y kX11 1 rfl fl_X11_20 k1_ rfl dX11_image_1 ?_
  obtain ⟨a2_, e3_, h⟩ := h
  refine q_nn [] e3_ ?_
  obtain ⟨k4_, h⟩ := h
  refine q_getI X Y kX6 13 rfl fl_X11_71 k4_ dX11_image_4 ?_
  refine lv_if_eq (tgt := 20) hx hb dX11_image_7 (by decide) (fun c5_ => ?_) (fun c5_ => ?_)
  · replace h := h.1 c5_
    exact cb_X11_image_20 X hex hst hu Y (lv_sub hl [] rfl) h
  · replace h := h.2 c5_
    refine lv_aload_n hx hb dX11_image_10 rfl (lv_at hl 0 rfl) ?_
    refine q_getR X Y kX11 1 rfl fl_X11_20 k1_ e3_ dX11_image_11 ?_
    refine q_getI X Y kX6 14 rfl fl_X11_75 k4_ dX11_image_14 ?_
    refine lv_if_eq (tgt := 30) hx hb dX11_image_17 (by decide) (fun c6_ => ?_) (fun c6_ => ?_)
    · replace h := h.1 c6_
      refine lv_aload_n hx hb dX11_image_30 rfl (lv_at hl 0 rfl) ?_
      refine q_getR X Y kX11 1 rfl fl_X11_20 k1_ e3_ dX11_image_31 ?_
      refine lv_iload_n hx hb dX11_image_34 rfl (lv_at hl 1 rfl) ?_
      refine q_callV X Y hl (cm_X6_partitionAt h) mt_X6_partitionAt mi_X6_partitionAt ml_X11_85 (ci := 6) rfl k4_ (by decide) rfl rfl (by first | exact Nat.le_of_ble_eq_true rfl | simp [q_cat, q_catI, q_catJ, q_catR]) ⟨Nat.le_of_ble_eq_true rfl, Nat.le_of_ble_eq_true rfl⟩ hu dX11_image_35 (fun r7_ S8_ H locs hp Y => ?_)
      obtain ⟨r9_, rfl, h⟩ := hp
      refine W.eq (g2 := F0 m 38 ls [va_rf r9_]) rfl ?_
      refine q_astore (i := 4) (lv' := [(4, va_rf r9_), (0, .ref a0), (1, .int x1), (2, .int x2), (3, .int x3)]) hx hb dX11_image_38 hl (by decide) (by first | rfl | simp [q_cat, q_catI, q_catJ, q_catR]) (fun ls hl => ?_)
      refine q_aload hx hb dX11_image_40 (lv_at hl 0 rfl) ?_
      refine q_ifnull (r := r9_) (tgt := 57) hx hb dX11_image_42 (by decide) (fun c10_ => ?_) (fun c10_ => ?_)
      · replace h := h.1 c10_
        exact cb_X11_image_57 X hex hst hu Y (lv_sub hl [] rfl) h
      · replace h := h.2 c10_
        refine q_aload hx hb dX11_image_45 (lv_at hl 0 rfl) ?_
        obtain ⟨a11_, e12_, h⟩ := h
        refine q_nn [] e12_ ?_
        obtain ⟨k13_, h⟩ := h
        refine q_getP X Y kX5 2 rfl fl_X11_89 k13_ rfl dX11_image_47 ?_
        refine lv_iload_n hx hb dX11_image_50 rfl (lv_at hl 3 rfl) ?_
        obtain ⟨a14_, e15_, h⟩ := h
        refine q_nn [.int x2] e15_ ?_
        obtain ⟨k16_, h⟩ := h
        refine q_callV X Y hl (cm_X4_hasWord h) mt_X4_hasWord mi_X4_hasWord ml_X11_95 (ci := 4) rfl k16_ (by decide) rfl rfl (by first | exact Nat.le_of_ble_eq_true rfl | simp [q_cat, q_catI, q_catJ, q_catR]) ⟨Nat.le_of_ble_eq_true rfl, Nat.le_of_ble_eq_true rfl⟩ hu dX11_image_51 (fun r17_ S18_ H locs hp Y => ?_)
        obtain ⟨x19_, rfl, h⟩ := hp
        refine W.eq (g2 := F0 m 54 ls [.int x19_]) rfl ?_
        refine lv_if_ne (tgt := 67) hx hb dX11_image_54 (by decide) (fun c20_ => ?_) (fun c20_ => ?_)
        · replace h := h.1 c20_
          refine q_aload hx hb dX11_image_67 (lv_at hl 0 rfl) ?_
          refine q_nn [] e12_ ?_
          obtain ⟨k21_, h⟩ := h
          refine q_getP X Y kX5 2 rfl fl_X11_89 k21_ rfl dX11_image_69 ?_
          obtain ⟨a22_, e23_, h⟩ := h
          refine q_nn [] e23_ ?_
          obtain ⟨k24_, h⟩ := h
          refine q_getP X Y kX4 2 rfl fl_X11_106 k24_ rfl dX11_image_72 ?_
          refine lv_iload_n hx hb dX11_image_75 rfl (lv_at hl 3 rfl) ?_
          refine lv_iconst (v := 2) hx hb dX11_image_76 (by decide) ?_
          refine lv_ishr hx hb dX11_image_77 ?_
          refine lv_iload_n hx hb dX11_image_78 rfl (lv_at hl 4 rfl) ?_
          obtain ⟨a25_, e26_, h⟩ := h
          refine q_nn [.int x3, .int (x2 >>> ((2 : Int32) &&& 31))] e26_ ?_
          obtain ⟨k27_, h⟩ := h
          obtain ⟨i28_, h⟩ := h
          refine q_ist X Y k27_ i28_ dX11_image_79 (fun H locs Y => ?_)
          exact vx_ret <| q_vret X Y hu.1 hu.2 h dX11_image_80
        · replace h := h.2 c20_
          exact cb_X11_image_57 X hex hst hu Y (lv_sub hl [] rfl) h
    · replace h := h.2 c6_
      exact cb_X11_image_20 X hex hst hu Y (lv_sub hl [] rfl) h
-- X11_input
theorem cl_X11_122 : Cond.classLink RX11 122 "java/lang/IllegalArgumentException" ∈ q_G := q_tb (i := 1286) (by decide +kernel) (by decide +kernel)
theorem tg_X11_126 : ∀ w ∈ (vx_atS RX11 126 "java/lang/IllegalArgumentException" ["java/lang/RuntimeException", "java/lang/Exception"]).filter goodWord, w ∈ q_G := by
  have h : ∀ w ∈ (vx_atS RX11 126 "java/lang/IllegalArgumentException" ["java/lang/RuntimeException", "java/lang/Exception"]).filter goodWord, w ∈ lw_tbl := by decide +kernel
  exact fun w hw => List.mem_filter.mpr ⟨h w hw, (List.mem_filter.mp hw).2⟩
theorem tn_X11_126 : ∀ w ∈ (vx_atS RX11 126 "java/lang/IllegalArgumentException" ["java/lang/RuntimeException", "java/lang/Exception"]).filter (fun w => !goodWord w), w ∈ q_Nw ∨ q_dc w = true := by decide +kernel
theorem ml_X11_110 : Cond.methodLink RX11 110 yX6_inputAt ∈ q_G := q_tb (i := 1276) (by decide +kernel) (by decide +kernel)
theorem mt_X6_inputAt : q_Mt yX6_inputAt cX6_inputAt 2 (some (.object "PartitionWorks$Channel")) 1 := ⟨q_tb (i := 1279) (by decide +kernel) (by decide +kernel), q_tb (i := 3) (by decide +kernel) (by decide +kernel), by decide +kernel, by decide +kernel, by decide +kernel⟩
theorem mi_X6_inputAt : Cond.instanceMethod yX6_inputAt ∈ q_G ∧ Cond.selects yX6_inputAt.cls yX6_inputAt yX6_inputAt ∈ q_G := ⟨q_tb (i := 1277) (by decide +kernel) (by decide +kernel), q_tb (i := 1278) (by decide +kernel) (by decide +kernel)⟩
theorem ml_X11_116 : Cond.methodLink RX11 116 yX1_latestInput ∈ q_G := q_tb (i := 1282) (by decide +kernel) (by decide +kernel)
theorem mt_X1_latestInput : q_Mt yX1_latestInput cX1_latestInput 1 (some .int) 0 := ⟨q_tb (i := 1285) (by decide +kernel) (by decide +kernel), q_tb (i := 25) (by decide +kernel) (by decide +kernel), by decide +kernel, by decide +kernel, by decide +kernel⟩
theorem mi_X1_latestInput : Cond.instanceMethod yX1_latestInput ∈ q_G ∧ Cond.selects yX1_latestInput.cls yX1_latestInput yX1_latestInput ∈ q_G := ⟨q_tb (i := 1283) (by decide +kernel) (by decide +kernel), q_tb (i := 1284) (by decide +kernel) (by decide +kernel)⟩
theorem fl_X11_127 : Cond.fieldLink RX11 127 "PartitionWorks$Channel" "inputCount" "I" ∈ q_G := q_tb (i := 1148) (by decide +kernel) (by decide +kernel)
theorem ml_X11_132 : Cond.methodLink RX11 132 yX1_addInput ∈ q_G := q_tb (i := 1290) (by decide +kernel) (by decide +kernel)
theorem mt_X1_addInput : q_Mt yX1_addInput cX1_addInput 3 none 2 := ⟨q_tb (i := 1293) (by decide +kernel) (by decide +kernel), q_tb (i := 25) (by decide +kernel) (by decide +kernel), by decide +kernel, by decide +kernel, by decide +kernel⟩
theorem mi_X1_addInput : Cond.instanceMethod yX1_addInput ∈ q_G ∧ Cond.selects yX1_addInput.cls yX1_addInput yX1_addInput ∈ q_G := ⟨q_tb (i := 1291) (by decide +kernel) (by decide +kernel), q_tb (i := 1292) (by decide +kernel) (by decide +kernel)⟩
theorem dX11_input_0 : decode cX11_input 0 = .ok (.aload_n 0, 1) := by decide +kernel
theorem dX11_input_1 : decode cX11_input 1 = .ok (.getfield 20, 3) := by decide +kernel
theorem dX11_input_4 : decode cX11_input 4 = .ok (.getfield 71, 3) := by decide +kernel
theorem dX11_input_7 : decode cX11_input 7 = .ok (.ifCond .eq 13, 3) := by decide +kernel
theorem dX11_input_10 : decode cX11_input 10 = .ok (.aload_n 0, 1) := by decide +kernel
theorem dX11_input_11 : decode cX11_input 11 = .ok (.getfield 20, 3) := by decide +kernel
theorem dX11_input_14 : decode cX11_input 14 = .ok (.getfield 75, 3) := by decide +kernel
theorem dX11_input_17 : decode cX11_input 17 = .ok (.ifCond .eq 13, 3) := by decide +kernel
theorem dX11_input_20 : decode cX11_input 20 = .ok (.new 78, 3) := by decide +kernel
theorem dX11_input_23 : decode cX11_input 23 = .ok (.dup, 1) := by decide +kernel
theorem dX11_input_24 : decode cX11_input 24 = .ok (.ldc 80, 2) := by decide +kernel
theorem dX11_input_26 : decode cX11_input 26 = .ok (.invokespecial 82, 3) := by decide +kernel
theorem dX11_input_29 : decode cX11_input 29 = .ok (.athrow, 1) := by decide +kernel
theorem dX11_input_30 : decode cX11_input 30 = .ok (.aload_n 0, 1) := by decide +kernel
theorem dX11_input_31 : decode cX11_input 31 = .ok (.getfield 20, 3) := by decide +kernel
theorem dX11_input_34 : decode cX11_input 34 = .ok (.iload_n 1, 1) := by decide +kernel
theorem dX11_input_35 : decode cX11_input 35 = .ok (.invokevirtual 110, 3) := by decide +kernel
theorem dX11_input_38 : decode cX11_input 38 = .ok (.astore 4, 2) := by decide +kernel
theorem dX11_input_40 : decode cX11_input 40 = .ok (.aload 4, 2) := by decide +kernel
theorem dX11_input_42 : decode cX11_input 42 = .ok (.ifnonnull 13, 3) := by decide +kernel
theorem dX11_input_45 : decode cX11_input 45 = .ok (.new 101, 3) := by decide +kernel
theorem dX11_input_48 : decode cX11_input 48 = .ok (.dup, 1) := by decide +kernel
theorem dX11_input_49 : decode cX11_input 49 = .ok (.ldc 114, 2) := by decide +kernel
theorem dX11_input_51 : decode cX11_input 51 = .ok (.invokespecial 105, 3) := by decide +kernel
theorem dX11_input_54 : decode cX11_input 54 = .ok (.athrow, 1) := by decide +kernel
theorem dX11_input_55 : decode cX11_input 55 = .ok (.iload_n 2, 1) := by decide +kernel
theorem dX11_input_56 : decode cX11_input 56 = .ok (.ifCond .lt 12, 3) := by decide +kernel
theorem dX11_input_59 : decode cX11_input 59 = .ok (.iload_n 2, 1) := by decide +kernel
theorem dX11_input_60 : decode cX11_input 60 = .ok (.aload 4, 2) := by decide +kernel
theorem dX11_input_62 : decode cX11_input 62 = .ok (.invokevirtual 116, 3) := by decide +kernel
theorem dX11_input_65 : decode cX11_input 65 = .ok (.if_icmp .gt 13, 3) := by decide +kernel
theorem dX11_input_68 : decode cX11_input 68 = .ok (.new 122, 3) := by decide +kernel
theorem dX11_input_71 : decode cX11_input 71 = .ok (.dup, 1) := by decide +kernel
theorem dX11_input_72 : decode cX11_input 72 = .ok (.ldc 124, 2) := by decide +kernel
theorem dX11_input_74 : decode cX11_input 74 = .ok (.invokespecial 126, 3) := by decide +kernel
theorem dX11_input_77 : decode cX11_input 77 = .ok (.athrow, 1) := by decide +kernel
theorem dX11_input_78 : decode cX11_input 78 = .ok (.aload 4, 2) := by decide +kernel
theorem dX11_input_80 : decode cX11_input 80 = .ok (.getfield 127, 3) := by decide +kernel
theorem dX11_input_83 : decode cX11_input 83 = .ok (.bipush 60, 2) := by decide +kernel
theorem dX11_input_85 : decode cX11_input 85 = .ok (.if_icmp .lt 13, 3) := by decide +kernel
theorem dX11_input_88 : decode cX11_input 88 = .ok (.new 78, 3) := by decide +kernel
theorem dX11_input_91 : decode cX11_input 91 = .ok (.dup, 1) := by decide +kernel
theorem dX11_input_92 : decode cX11_input 92 = .ok (.ldc 130, 2) := by decide +kernel
theorem dX11_input_94 : decode cX11_input 94 = .ok (.invokespecial 82, 3) := by decide +kernel
theorem dX11_input_97 : decode cX11_input 97 = .ok (.athrow, 1) := by decide +kernel
theorem dX11_input_98 : decode cX11_input 98 = .ok (.aload 4, 2) := by decide +kernel
theorem dX11_input_100 : decode cX11_input 100 = .ok (.iload_n 2, 1) := by decide +kernel
theorem dX11_input_101 : decode cX11_input 101 = .ok (.iload_n 3, 1) := by decide +kernel
theorem dX11_input_102 : decode cX11_input 102 = .ok (.invokevirtual 132, 3) := by decide +kernel
theorem dX11_input_105 : decode cX11_input 105 = .ok (.return_, 1) := by decide +kernel
def wb_X11_input_20 (bc bs : Nat)  (u v : Nat) (S : q_S) (Q : Option Value → q_S → Prop) (E : String → q_S → Prop) : Prop := ((u + 1 ≤ bc ∧ v + 6 ≤ bs) ∧ E "java/lang/IllegalStateException" S)
set_option maxHeartbeats 4000000 in
set_option maxRecDepth 100000 in
theorem cb_X11_input_20 {p : Program} {l : Launch} {e : Env} {s : State} {m : MethodId} {args : Array Value} {below : List Frame} {meth : Method} {c : Code} {D : va_G} {cy : Nat → ClassId} {lo : Nat} {bc bs : Nat}  {u v : Nat} {S : q_S} {Q : Option Value → q_S → Prop} {E : String → q_S → Prop} {H : Heap} {locs : List Loc} {ls : Array Slot} (X : q_X p s m args meth c RX11 cX11_input 5 none D cy lo) (hex : ∀ x ∈ c.exceptionTable.toList, False) (hst : l.stackTraces = false)  (hu : u ≤ bc ∧ v ≤ bs) (Y : q_Y D cy lo s S H locs) (hl : lv_has ls 5 []) (h : wb_X11_input_20 bc bs u v S Q E) : W p l e ({ frames := 6, cells := bc, slots := bs, locals := 96 } : Room) s m args below meth c H locs u v (vx_MQ below (q_Q D cy lo Q) (q_XE D cy lo E) args s bc bs (fun q => lo ≤ q)) (F0 m 20 ls []) := by
  have hx := X.1
  have hb := X.2.1
  unfold wb_X11_input_20 at h
  exact q_throw X hex Y hst hl (i := 4) (by decide +kernel) (by decide +kernel) cl_X11_78 ix_IllegalStateException rfl tg_X11_82 tn_X11_82 to_ ⟨Nat.le_of_ble_eq_true rfl, by first | exact Nat.le_of_ble_eq_true rfl | simp [q_cat, q_catI, q_catJ, q_catR], h.1.1, h.1.2⟩ h.1 dX11_input_20 dX11_input_23 dX11_input_24 dX11_input_26 dX11_input_29 h.2
def wb_X11_input_68 (bc bs : Nat)  (u v : Nat) (S : q_S) (Q : Option Value → q_S → Prop) (E : String → q_S → Prop) : Prop := ((u + 1 ≤ bc ∧ v + 6 ≤ bs) ∧ E "java/lang/IllegalArgumentException" S)
set_option maxHeartbeats 4000000 in
set_option maxRecDepth 100000 in
theorem cb_X11_input_68 {p : Program} {l : Launch} {e : Env} {s : State} {m : MethodId} {args : Array Value} {below : List Frame} {meth : Method} {c : Code} {D : va_G} {cy : Nat → ClassId} {lo : Nat} {bc bs : Nat}  {u v : Nat} {S : q_S} {Q : Option Value → q_S → Prop} {E : String → q_S → Prop} {H : Heap} {locs : List Loc} {ls : Array Slot} (X : q_X p s m args meth c RX11 cX11_input 5 none D cy lo) (hex : ∀ x ∈ c.exceptionTable.toList, False) (hst : l.stackTraces = false)  (hu : u ≤ bc ∧ v ≤ bs) (Y : q_Y D cy lo s S H locs) (hl : lv_has ls 5 []) (h : wb_X11_input_68 bc bs u v S Q E) : W p l e ({ frames := 6, cells := bc, slots := bs, locals := 96 } : Room) s m args below meth c H locs u v (vx_MQ below (q_Q D cy lo Q) (q_XE D cy lo E) args s bc bs (fun q => lo ≤ q)) (F0 m 68 ls []) := by
  have hx := X.1
  have hb := X.2.1
  unfold wb_X11_input_68 at h
  exact q_throw X hex Y hst hl (i := 7) (by decide +kernel) (by decide +kernel) cl_X11_122 ix_IllegalArgumentException rfl tg_X11_126 tn_X11_126 to_ ⟨Nat.le_of_ble_eq_true rfl, by first | exact Nat.le_of_ble_eq_true rfl | simp [q_cat, q_catI, q_catJ, q_catR], h.1.1, h.1.2⟩ h.1 dX11_input_68 dX11_input_71 dX11_input_72 dX11_input_74 dX11_input_77 h.2
def wm_X11_input (bc bs : Nat) (S : q_S) (a0 : Nat) (x1 : Int32) (x2 : Int32) (x3 : Int32) (Q : Option Value → q_S → Prop) (E : String → q_S → Prop) : Prop := q_K S a0 = 12 ∧ (∃ a2_ : Nat, (q_P S 2201 a0) = some a2_ ∧ (q_K S a2_ = 7 ∧ ((((q_I S 1213 a2_) = 0 → (wb_X11_input_20 bc bs 0 0 S Q E)) ∧ (¬ (q_I S 1213 a2_) = 0 → ((((q_I S 1214 a2_) = 0 → (wm_X6_inputAt S a2_ x1 (fun r7_ S8_ => ∃ r9_ : Option Nat, r7_ = some (va_rf r9_) ∧ (((¬ r9_ = none → (((x2 < 0 → (wb_X11_input_68 bc bs 0 0 S8_ Q E)) ∧ (¬ x2 < 0 → (∃ a12_ : Nat, r9_ = some a12_ ∧ (q_K S8_ a12_ = 2 ∧ (wm_X1_latestInput S8_ a12_ (fun r15_ S16_ => ∃ x17_ : Int32, r15_ = some (.int x17_) ∧ (((x17_ < x2 → (q_K S16_ a12_ = 2 ∧ ((((q_I S16_ 215 a12_) < (60 : Int32) → (∃ m23_ m24_ : Nat, (0 + m23_ ≤ bc ∧ 0 + m24_ ≤ bs) ∧ (wm_X1_addInput m23_ m24_ S16_ a12_ x2 x3 (fun r21_ S22_ => r21_ = none ∧ (Q none S22_))))) ∧ (¬ (q_I S16_ 215 a12_) < (60 : Int32) → (((0 + 1 ≤ bc ∧ 0 + 6 ≤ bs) ∧ E "java/lang/IllegalStateException" S16_))))))) ∧ (¬ x17_ < x2 → (wb_X11_input_68 bc bs 0 0 S16_ Q E)))))))))))) ∧ (r9_ = none → (((0 + 1 ≤ bc ∧ 0 + 6 ≤ bs) ∧ E "java/lang/IndexOutOfBoundsException" S8_)))))))) ∧ (¬ (q_I S 1214 a2_) = 0 → (wb_X11_input_20 bc bs 0 0 S Q E)))))))))
set_option maxHeartbeats 4000000 in
set_option maxRecDepth 100000 in
theorem cm_X11_input {l : Launch} {D : va_G} {cy : Nat → ClassId} {lo : Nat} {bc bs : Nat} {S : q_S} {a0 : Nat} {x1 : Int32} {x2 : Int32} {x3 : Int32} {Q : Option Value → q_S → Prop} {E : String → q_S → Prop} (hst : l.stackTraces = false) (h : wm_X11_input bc bs S a0 x1 x2 x3 Q E) : q_MetX l D cy lo yX11_input cX11_input 5 none 6 96 bc bs [.ref a0, .int x1, .int x2, .int x3] S Q E := by
  refine q_bodyX (by decide) (by first | exact Nat.le_of_ble_eq_true rfl | simp [lg_sl, q_cat, q_catI, q_catJ, q_catR]) ?_
  intro p e s m below meth c ls X hex Y hl
  have hx := X.1
  have hb := X.2.1
  have hl : lv_has ls 5 [(0, .ref a0), (1, .int x1), (2, .int x2), (3, .int x3)] := by first | exact hl | simpa [lv_args, q_cat, q_catI, q_catJ, q_catR] using hl
  generalize hargs : ([.ref a0, .int x1, .int x2, .int x3] : List Value).toArray = args at X ⊢
  have hu : 0 ≤ bc ∧ 0 ≤ bs := ⟨Nat.zero_le _, Nat.zero_le _⟩
  unfold wm_X11_input at h
  refine lv_aload_n hx hb dX11_input_0 rfl (lv_at hl 0 rfl) ?_
  obtain ⟨k1_, h⟩ := h
  refine q_getP X Y kX11 1 rfl fl_X11_20 k1_ rfl dX11_input_1 ?_
  obtain ⟨a2_, e3_, h⟩ := h
  refine q_nn [] e3_ ?_
  obtain ⟨k4_, h⟩ := h
  refine q_getI X Y kX6 13 rfl fl_X11_71 k4_ dX11_input_4 ?_
  refine lv_if_eq (tgt := 20) hx hb dX11_input_7 (by decide) (fun c5_ => ?_) (fun c5_ => ?_)
  · replace h := h.1 c5_
    exact cb_X11_input_20 X hex hst hu Y (lv_sub hl [] rfl) h
  · replace h := h.2 c5_
    refine lv_aload_n hx hb dX11_input_10 rfl (lv_at hl 0 rfl) ?_
    refine q_getR X Y kX11 1 rfl fl_X11_20 k1_ e3_ dX11_input_11 ?_
    refine q_getI X Y kX6 14 rfl fl_X11_75 k4_ dX11_input_14 ?_
    refine lv_if_eq (tgt := 30) hx hb dX11_input_17 (by decide) (fun c6_ => ?_) (fun c6_ => ?_)
    · replace h := h.1 c6_
      refine lv_aload_n hx hb dX11_input_30 rfl (lv_at hl 0 rfl) ?_
      refine q_getR X Y kX11 1 rfl fl_X11_20 k1_ e3_ dX11_input_31 ?_
      refine lv_iload_n hx hb dX11_input_34 rfl (lv_at hl 1 rfl) ?_
      refine q_callV X Y hl (cm_X6_inputAt h) mt_X6_inputAt mi_X6_inputAt ml_X11_110 (ci := 6) rfl k4_ (by decide) rfl rfl (by first | exact Nat.le_of_ble_eq_true rfl | simp [q_cat, q_catI, q_catJ, q_catR]) ⟨Nat.le_of_ble_eq_true rfl, Nat.le_of_ble_eq_true rfl⟩ hu dX11_input_35 (fun r7_ S8_ H locs hp Y => ?_)
      obtain ⟨r9_, rfl, h⟩ := hp
      refine W.eq (g2 := F0 m 38 ls [va_rf r9_]) rfl ?_
      refine q_astore (i := 4) (lv' := [(4, va_rf r9_), (0, .ref a0), (1, .int x1), (2, .int x2), (3, .int x3)]) hx hb dX11_input_38 hl (by decide) (by first | rfl | simp [q_cat, q_catI, q_catJ, q_catR]) (fun ls hl => ?_)
      refine q_aload hx hb dX11_input_40 (lv_at hl 0 rfl) ?_
      refine q_ifnonnull (r := r9_) (tgt := 55) hx hb dX11_input_42 (by decide) (fun c10_ => ?_) (fun c10_ => ?_)
      · replace h := h.1 c10_
        refine lv_iload_n hx hb dX11_input_55 rfl (lv_at hl 3 rfl) ?_
        refine lv_if_lt (tgt := 68) hx hb dX11_input_56 (by decide) (fun c11_ => ?_) (fun c11_ => ?_)
        · replace h := h.1 c11_
          exact cb_X11_input_68 X hex hst hu Y (lv_sub hl [] rfl) h
        · replace h := h.2 c11_
          refine lv_iload_n hx hb dX11_input_59 rfl (lv_at hl 3 rfl) ?_
          refine q_aload hx hb dX11_input_60 (lv_at hl 0 rfl) ?_
          obtain ⟨a12_, e13_, h⟩ := h
          refine q_nn [] e13_ ?_
          obtain ⟨k14_, h⟩ := h
          refine q_callV X Y hl (cm_X1_latestInput h) mt_X1_latestInput mi_X1_latestInput ml_X11_116 (ci := 1) rfl k14_ (by decide) rfl rfl (by first | exact Nat.le_of_ble_eq_true rfl | simp [q_cat, q_catI, q_catJ, q_catR]) ⟨Nat.le_of_ble_eq_true rfl, Nat.le_of_ble_eq_true rfl⟩ hu dX11_input_62 (fun r15_ S16_ H locs hp Y => ?_)
          obtain ⟨x17_, rfl, h⟩ := hp
          refine W.eq (g2 := F0 m 65 ls [.int x17_, .int x2]) rfl ?_
          refine lv_icmp_gt (tgt := 78) hx hb dX11_input_65 (by decide) (fun c18_ => ?_) (fun c18_ => ?_)
          · replace h := h.1 c18_
            refine q_aload hx hb dX11_input_78 (lv_at hl 0 rfl) ?_
            refine q_nn [] e13_ ?_
            obtain ⟨k19_, h⟩ := h
            refine q_getI X Y kX1 15 rfl fl_X11_127 k19_ dX11_input_80 ?_
            refine lv_bipush (v := 60) hx hb dX11_input_83 (by decide) ?_
            refine lv_icmp_lt (tgt := 98) hx hb dX11_input_85 (by decide) (fun c20_ => ?_) (fun c20_ => ?_)
            · replace h := h.1 c20_
              refine q_aload hx hb dX11_input_98 (lv_at hl 0 rfl) ?_
              refine lv_iload_n hx hb dX11_input_100 rfl (lv_at hl 3 rfl) ?_
              refine lv_iload_n hx hb dX11_input_101 rfl (lv_at hl 4 rfl) ?_
              refine q_nn [.int x3, .int x2] e13_ ?_
              obtain ⟨m23_, m24_, w25_, h⟩ := h
              refine q_callV X Y hl (cm_X1_addInput h) mt_X1_addInput mi_X1_addInput ml_X11_132 (ci := 1) rfl k19_ (by decide) rfl rfl (by first | exact Nat.le_of_ble_eq_true rfl | simp [q_cat, q_catI, q_catJ, q_catR]) ⟨Nat.le_of_ble_eq_true rfl, Nat.le_of_ble_eq_true rfl⟩ w25_ dX11_input_102 (fun r21_ S22_ H locs hp Y => ?_)
              obtain ⟨rfl, h⟩ := hp
              replace hu := w25_
              refine W.eq (g2 := F0 m 105 ls []) rfl ?_
              exact vx_ret <| q_vret X Y hu.1 hu.2 h dX11_input_105
            · replace h := h.2 c20_
              exact q_throw X hex Y hst hl (i := 8) (by decide +kernel) (by decide +kernel) cl_X11_78 ix_IllegalStateException rfl tg_X11_82 tn_X11_82 to_ ⟨Nat.le_of_ble_eq_true rfl, by first | exact Nat.le_of_ble_eq_true rfl | simp [q_cat, q_catI, q_catJ, q_catR], h.1.1, h.1.2⟩ h.1 dX11_input_88 dX11_input_91 dX11_input_92 dX11_input_94 dX11_input_97 h.2
          · replace h := h.2 c18_
            exact cb_X11_input_68 X hex hst hu Y (lv_sub hl [] rfl) h
      · replace h := h.2 c10_
        exact q_throw X hex Y hst hl (i := 6) (by decide +kernel) (by decide +kernel) cl_X11_101 ix_IndexOutOfBoundsException rfl tg_X11_105 tn_X11_105 to_ ⟨Nat.le_of_ble_eq_true rfl, by first | exact Nat.le_of_ble_eq_true rfl | simp [q_cat, q_catI, q_catJ, q_catR], h.1.1, h.1.2⟩ h.1 dX11_input_45 dX11_input_48 dX11_input_49 dX11_input_51 dX11_input_54 h.2
    · replace h := h.2 c6_
      exact cb_X11_input_20 X hex hst hu Y (lv_sub hl [] rfl) h
-- X11_begin
theorem fl_X11_137 : Cond.fieldLink RX11 137 "PartitionWorks$Plan" "partitions" "[LPartitionWorks$Partition;" ∈ q_G := q_tb (i := 76) (by decide +kernel) (by decide +kernel)
theorem dX11_begin_0 : decode cX11_begin 0 = .ok (.aload_n 0, 1) := by decide +kernel
theorem dX11_begin_1 : decode cX11_begin 1 = .ok (.getfield 20, 3) := by decide +kernel
theorem dX11_begin_4 : decode cX11_begin 4 = .ok (.getfield 71, 3) := by decide +kernel
theorem dX11_begin_7 : decode cX11_begin 7 = .ok (.ifCond .eq 13, 3) := by decide +kernel
theorem dX11_begin_10 : decode cX11_begin 10 = .ok (.aload_n 0, 1) := by decide +kernel
theorem dX11_begin_11 : decode cX11_begin 11 = .ok (.getfield 20, 3) := by decide +kernel
theorem dX11_begin_14 : decode cX11_begin 14 = .ok (.getfield 75, 3) := by decide +kernel
theorem dX11_begin_17 : decode cX11_begin 17 = .ok (.ifCond .eq 13, 3) := by decide +kernel
theorem dX11_begin_20 : decode cX11_begin 20 = .ok (.new 78, 3) := by decide +kernel
theorem dX11_begin_23 : decode cX11_begin 23 = .ok (.dup, 1) := by decide +kernel
theorem dX11_begin_24 : decode cX11_begin 24 = .ok (.ldc 135, 2) := by decide +kernel
theorem dX11_begin_26 : decode cX11_begin 26 = .ok (.invokespecial 82, 3) := by decide +kernel
theorem dX11_begin_29 : decode cX11_begin 29 = .ok (.athrow, 1) := by decide +kernel
theorem dX11_begin_30 : decode cX11_begin 30 = .ok (.aload_n 0, 1) := by decide +kernel
theorem dX11_begin_31 : decode cX11_begin 31 = .ok (.getfield 20, 3) := by decide +kernel
theorem dX11_begin_34 : decode cX11_begin 34 = .ok (.iconst 1, 1) := by decide +kernel
theorem dX11_begin_35 : decode cX11_begin 35 = .ok (.putfield 75, 3) := by decide +kernel
theorem dX11_begin_38 : decode cX11_begin 38 = .ok (.iconst 0, 1) := by decide +kernel
theorem dX11_begin_39 : decode cX11_begin 39 = .ok (.istore_n 1, 1) := by decide +kernel
theorem dX11_begin_40 : decode cX11_begin 40 = .ok (.iload_n 1, 1) := by decide +kernel
theorem dX11_begin_41 : decode cX11_begin 41 = .ok (.aload_n 0, 1) := by decide +kernel
theorem dX11_begin_42 : decode cX11_begin 42 = .ok (.getfield 20, 3) := by decide +kernel
theorem dX11_begin_45 : decode cX11_begin 45 = .ok (.getfield 60, 3) := by decide +kernel
theorem dX11_begin_48 : decode cX11_begin 48 = .ok (.if_icmp .ge 24, 3) := by decide +kernel
theorem dX11_begin_51 : decode cX11_begin 51 = .ok (.aload_n 0, 1) := by decide +kernel
theorem dX11_begin_52 : decode cX11_begin 52 = .ok (.getfield 20, 3) := by decide +kernel
theorem dX11_begin_55 : decode cX11_begin 55 = .ok (.getfield 137, 3) := by decide +kernel
theorem dX11_begin_58 : decode cX11_begin 58 = .ok (.iload_n 1, 1) := by decide +kernel
theorem dX11_begin_59 : decode cX11_begin 59 = .ok (.aaload, 1) := by decide +kernel
theorem dX11_begin_60 : decode cX11_begin 60 = .ok (.iconst 1, 1) := by decide +kernel
theorem dX11_begin_61 : decode cX11_begin 61 = .ok (.iconst 0, 1) := by decide +kernel
theorem dX11_begin_62 : decode cX11_begin 62 = .ok (.iconst 0, 1) := by decide +kernel
theorem dX11_begin_63 : decode cX11_begin 63 = .ok (.invokevirtual 141, 3) := by decide +kernel
theorem dX11_begin_66 : decode cX11_begin 66 = .ok (.iinc 1 1, 3) := by decide +kernel
theorem dX11_begin_69 : decode cX11_begin 69 = .ok (.goto (-29), 3) := by decide +kernel
theorem dX11_begin_72 : decode cX11_begin 72 = .ok (.return_, 1) := by decide +kernel
def wb_X11_begin_20 (bc bs : Nat)  (u v : Nat) (S : q_S) (Q : Option Value → q_S → Prop) (E : String → q_S → Prop) : Prop := ((u + 1 ≤ bc ∧ v + 6 ≤ bs) ∧ E "java/lang/IllegalStateException" S)
set_option maxHeartbeats 4000000 in
set_option maxRecDepth 100000 in
theorem cb_X11_begin_20 {p : Program} {l : Launch} {e : Env} {s : State} {m : MethodId} {args : Array Value} {below : List Frame} {meth : Method} {c : Code} {D : va_G} {cy : Nat → ClassId} {lo : Nat} {bc bs : Nat}  {u v : Nat} {S : q_S} {Q : Option Value → q_S → Prop} {E : String → q_S → Prop} {H : Heap} {locs : List Loc} {ls : Array Slot} (X : q_X p s m args meth c RX11 cX11_begin 2 none D cy lo) (hex : ∀ x ∈ c.exceptionTable.toList, False) (hst : l.stackTraces = false)  (hu : u ≤ bc ∧ v ≤ bs) (Y : q_Y D cy lo s S H locs) (hl : lv_has ls 2 []) (h : wb_X11_begin_20 bc bs u v S Q E) : W p l e ({ frames := 6, cells := bc, slots := bs, locals := 105 } : Room) s m args below meth c H locs u v (vx_MQ below (q_Q D cy lo Q) (q_XE D cy lo E) args s bc bs (fun q => lo ≤ q)) (F0 m 20 ls []) := by
  have hx := X.1
  have hb := X.2.1
  unfold wb_X11_begin_20 at h
  exact q_throw X hex Y hst hl (i := 9) (by decide +kernel) (by decide +kernel) cl_X11_78 ix_IllegalStateException rfl tg_X11_82 tn_X11_82 to_ ⟨Nat.le_of_ble_eq_true rfl, by first | exact Nat.le_of_ble_eq_true rfl | simp [q_cat, q_catI, q_catJ, q_catR], h.1.1, h.1.2⟩ h.1 dX11_begin_20 dX11_begin_23 dX11_begin_24 dX11_begin_26 dX11_begin_29 h.2
def wb_X11_begin_40 (bc bs : Nat) (B40 : Nat → Nat → q_S → Nat → Int32 → Prop) (u v : Nat) (S : q_S) (a0 : Nat) (x1 : Int32) (Q : Option Value → q_S → Prop) (E : String → q_S → Prop) : Prop := q_K S a0 = 12 ∧ (∃ a2_ : Nat, (q_P S 2201 a0) = some a2_ ∧ (q_K S a2_ = 7 ∧ ((((q_I S 1201 a2_) ≤ x1 → (Q none S)) ∧ (¬ (q_I S 1201 a2_) ≤ x1 → (∃ a6_ : Nat, (q_P S 1200 a2_) = some a6_ ∧ (q_K S a6_ = 25 ∧ (vp_in x1 (q_N S a6_) ∧ (∃ a10_ : Nat, (q_C S a6_ x1.toNatClampNeg) = some a10_ ∧ (q_K S a10_ = 6 ∧ (wm_X5_beginAnew S a10_ (1 : Int32) (0 : Int32) (0 : Int32) (fun r13_ S14_ => r13_ = none ∧ (B40 u v S14_ a0 (x1 + 1))))))))))))))
set_option maxHeartbeats 4000000 in
set_option maxRecDepth 100000 in
theorem cb_X11_begin_40 {p : Program} {l : Launch} {e : Env} {s : State} {m : MethodId} {args : Array Value} {below : List Frame} {meth : Method} {c : Code} {D : va_G} {cy : Nat → ClassId} {lo : Nat} {bc bs : Nat} {B40 : Nat → Nat → q_S → Nat → Int32 → Prop} {u v : Nat} {S : q_S} {a0 : Nat} {x1 : Int32} {Q : Option Value → q_S → Prop} {E : String → q_S → Prop} {H : Heap} {locs : List Loc} {ls : Array Slot} (X : q_X p s m args meth c RX11 cX11_begin 2 none D cy lo) (hex : ∀ x ∈ c.exceptionTable.toList, False) (hst : l.stackTraces = false) (hB40 : ∀ (u v : Nat) (S : q_S) (a0 : Nat) (x1 : Int32) (H : Heap) (locs : List Loc) (ls : Array Slot), B40 u v S a0 x1 → (u ≤ bc ∧ v ≤ bs) → q_Y D cy lo s S H locs → lv_has ls 2 [(0, .ref a0), (1, .int x1)] → W p l e ({ frames := 6, cells := bc, slots := bs, locals := 105 } : Room) s m args below meth c H locs u v (vx_MQ below (q_Q D cy lo Q) (q_XE D cy lo E) args s bc bs (fun q => lo ≤ q)) (F0 m 40 ls [])) (hu : u ≤ bc ∧ v ≤ bs) (Y : q_Y D cy lo s S H locs) (hl : lv_has ls 2 [(0, .ref a0), (1, .int x1)]) (h : wb_X11_begin_40 bc bs B40 u v S a0 x1 Q E) : W p l e ({ frames := 6, cells := bc, slots := bs, locals := 105 } : Room) s m args below meth c H locs u v (vx_MQ below (q_Q D cy lo Q) (q_XE D cy lo E) args s bc bs (fun q => lo ≤ q)) (F0 m 40 ls []) := by
  have hx := X.1
  have hb := X.2.1
  unfold wb_X11_begin_40 at h
  refine lv_iload_n hx hb dX11_begin_40 rfl (lv_at hl 1 rfl) ?_
  refine lv_aload_n hx hb dX11_begin_41 rfl (lv_at hl 0 rfl) ?_
  obtain ⟨k1_, h⟩ := h
  refine q_getP X Y kX11 1 rfl fl_X11_20 k1_ rfl dX11_begin_42 ?_
  obtain ⟨a2_, e3_, h⟩ := h
  refine q_nn [] e3_ ?_
  obtain ⟨k4_, h⟩ := h
  refine q_getI X Y kX6 1 rfl fl_X11_60 k4_ dX11_begin_45 ?_
  refine lv_icmp_ge (tgt := 72) hx hb dX11_begin_48 (by decide) (fun c5_ => ?_) (fun c5_ => ?_)
  · replace h := h.1 c5_
    exact vx_ret <| q_vret X Y hu.1 hu.2 h dX11_begin_72
  · replace h := h.2 c5_
    refine lv_aload_n hx hb dX11_begin_51 rfl (lv_at hl 0 rfl) ?_
    refine q_getR X Y kX11 1 rfl fl_X11_20 k1_ e3_ dX11_begin_52 ?_
    refine q_getP X Y kX6 0 rfl fl_X11_137 k4_ rfl dX11_begin_55 ?_
    refine lv_iload_n hx hb dX11_begin_58 rfl (lv_at hl 1 rfl) ?_
    obtain ⟨a6_, e7_, h⟩ := h
    refine q_nn [.int x1] e7_ ?_
    obtain ⟨k8_, h⟩ := h
    obtain ⟨i9_, h⟩ := h
    refine q_cld X Y k8_ (by decide) (t := 5) rfl i9_ rfl dX11_begin_59 ?_
    refine lv_iconst (v := 1) hx hb dX11_begin_60 (by decide) ?_
    refine lv_iconst (v := 0) hx hb dX11_begin_61 (by decide) ?_
    refine lv_iconst (v := 0) hx hb dX11_begin_62 (by decide) ?_
    obtain ⟨a10_, e11_, h⟩ := h
    refine q_nn [.int (0 : Int32), .int (0 : Int32), .int (1 : Int32)] e11_ ?_
    obtain ⟨k12_, h⟩ := h
    refine q_callV X Y hl (cm_X5_beginAnew h) mt_X5_beginAnew mi_X5_beginAnew ml_X11_141 (ci := 5) rfl k12_ (by decide) rfl rfl (by first | exact Nat.le_of_ble_eq_true rfl | simp [q_cat, q_catI, q_catJ, q_catR]) ⟨Nat.le_of_ble_eq_true rfl, Nat.le_of_ble_eq_true rfl⟩ hu dX11_begin_63 (fun r13_ S14_ H locs hp Y => ?_)
    obtain ⟨rfl, h⟩ := hp
    refine W.eq (g2 := F0 m 66 ls []) rfl ?_
    refine lv_iinc (v := (x1 + 1)) (lv' := [(1, .int (x1 + 1)), (0, .ref a0)]) hx hb dX11_begin_66 hl (k := 1) rfl (by first | rfl | decide) (by decide) (by first | rfl | simp [q_cat, q_catI, q_catJ, q_catR]) (fun ls hl => ?_)
    refine lv_goto (tgt := 40) hx hb dX11_begin_69 (by decide) ?_
    exact hB40 _ _ _ _ _ _ _ _ h hu Y (lv_sub hl [1, 0] rfl)
def wl_X11_begin_40 (bc bs : Nat)  : Nat → Nat → Nat → q_S → Nat → Int32 → (Option Value → q_S → Prop) → (String → q_S → Prop) → Prop
  | 0, _, _, _, _, _, _, _ => False
  | n + 1, u, v, S, a0, x1, Q, E => wb_X11_begin_40 bc bs (fun u v S a0 x1 => wl_X11_begin_40 bc bs n u v S a0 x1 Q E) u v S a0 x1 Q E
set_option maxHeartbeats 4000000 in
set_option maxRecDepth 100000 in
theorem cl_X11_begin_40 {p : Program} {l : Launch} {e : Env} {s : State} {m : MethodId} {args : Array Value} {below : List Frame} {meth : Method} {c : Code} {D : va_G} {cy : Nat → ClassId} {lo : Nat} {bc bs : Nat}  {Q : Option Value → q_S → Prop} {E : String → q_S → Prop} (X : q_X p s m args meth c RX11 cX11_begin 2 none D cy lo) (hex : ∀ x ∈ c.exceptionTable.toList, False) (hst : l.stackTraces = false)  : ∀ (n : Nat) (u v : Nat) (S : q_S) (a0 : Nat) (x1 : Int32) (H : Heap) (locs : List Loc) (ls : Array Slot), wl_X11_begin_40 bc bs n u v S a0 x1 Q E → (u ≤ bc ∧ v ≤ bs) → q_Y D cy lo s S H locs → lv_has ls 2 [(0, .ref a0), (1, .int x1)] → W p l e ({ frames := 6, cells := bc, slots := bs, locals := 105 } : Room) s m args below meth c H locs u v (vx_MQ below (q_Q D cy lo Q) (q_XE D cy lo E) args s bc bs (fun q => lo ≤ q)) (F0 m 40 ls []) := by
  intro n
  induction n with
  | zero => intro u v S a0 x1 H locs ls h; exact absurd h id
  | succ n ih => intro u v S a0 x1 H locs ls h hu Y hl; exact cb_X11_begin_40 X hex hst ih hu Y hl h
def wm_X11_begin (bc bs : Nat) (S : q_S) (a0 : Nat) (Q : Option Value → q_S → Prop) (E : String → q_S → Prop) : Prop := q_K S a0 = 12 ∧ (∃ a16_ : Nat, (q_P S 2201 a0) = some a16_ ∧ (q_K S a16_ = 7 ∧ ((((q_I S 1213 a16_) = 0 → (wb_X11_begin_20 bc bs 0 0 S Q E)) ∧ (¬ (q_I S 1213 a16_) = 0 → ((((q_I S 1214 a16_) = 0 → (∃ n21_ : Nat, wl_X11_begin_40 bc bs n21_ 0 0 (qs_I S 1214 a16_ (1 : Int32)) a0 (0 : Int32) Q E)) ∧ (¬ (q_I S 1214 a16_) = 0 → (wb_X11_begin_20 bc bs 0 0 S Q E)))))))))
set_option maxHeartbeats 4000000 in
set_option maxRecDepth 100000 in
theorem cm_X11_begin {l : Launch} {D : va_G} {cy : Nat → ClassId} {lo : Nat} {bc bs : Nat} {S : q_S} {a0 : Nat} {Q : Option Value → q_S → Prop} {E : String → q_S → Prop} (hst : l.stackTraces = false) (h : wm_X11_begin bc bs S a0 Q E) : q_MetX l D cy lo yX11_begin cX11_begin 2 none 6 105 bc bs [.ref a0] S Q E := by
  refine q_bodyX (by decide) (by first | exact Nat.le_of_ble_eq_true rfl | simp [lg_sl, q_cat, q_catI, q_catJ, q_catR]) ?_
  intro p e s m below meth c ls X hex Y hl
  have hx := X.1
  have hb := X.2.1
  have hl : lv_has ls 2 [(0, .ref a0)] := by first | exact hl | simpa [lv_args, q_cat, q_catI, q_catJ, q_catR] using hl
  generalize hargs : ([.ref a0] : List Value).toArray = args at X ⊢
  have hu : 0 ≤ bc ∧ 0 ≤ bs := ⟨Nat.zero_le _, Nat.zero_le _⟩
  unfold wm_X11_begin at h
  refine lv_aload_n hx hb dX11_begin_0 rfl (lv_at hl 0 rfl) ?_
  obtain ⟨k15_, h⟩ := h
  refine q_getP X Y kX11 1 rfl fl_X11_20 k15_ rfl dX11_begin_1 ?_
  obtain ⟨a16_, e17_, h⟩ := h
  refine q_nn [] e17_ ?_
  obtain ⟨k18_, h⟩ := h
  refine q_getI X Y kX6 13 rfl fl_X11_71 k18_ dX11_begin_4 ?_
  refine lv_if_eq (tgt := 20) hx hb dX11_begin_7 (by decide) (fun c19_ => ?_) (fun c19_ => ?_)
  · replace h := h.1 c19_
    exact cb_X11_begin_20 X hex hst hu Y (lv_sub hl [] rfl) h
  · replace h := h.2 c19_
    refine lv_aload_n hx hb dX11_begin_10 rfl (lv_at hl 0 rfl) ?_
    refine q_getR X Y kX11 1 rfl fl_X11_20 k15_ e17_ dX11_begin_11 ?_
    refine q_getI X Y kX6 14 rfl fl_X11_75 k18_ dX11_begin_14 ?_
    refine lv_if_eq (tgt := 30) hx hb dX11_begin_17 (by decide) (fun c20_ => ?_) (fun c20_ => ?_)
    · replace h := h.1 c20_
      refine lv_aload_n hx hb dX11_begin_30 rfl (lv_at hl 0 rfl) ?_
      refine q_getR X Y kX11 1 rfl fl_X11_20 k15_ e17_ dX11_begin_31 ?_
      refine lv_iconst (v := 1) hx hb dX11_begin_34 (by decide) ?_
      refine q_putI X Y kX6 14 rfl fl_X11_75 k18_ .boolean rfl ⟨rfl, rfl⟩ rfl dX11_begin_35 (fun H locs Y => ?_)
      refine lv_iconst (v := 0) hx hb dX11_begin_38 (by decide) ?_
      refine lv_istore_n (i := 1) (lv' := [(1, .int (0 : Int32)), (0, .ref a0)]) hx hb dX11_begin_39 rfl hl (by decide) (by first | rfl | simp [q_cat, q_catI, q_catJ, q_catR]) (fun ls hl => ?_)
      obtain ⟨n21_, h⟩ := h
      exact cl_X11_begin_40 X hex hst n21_ _ _ _ _ _ _ _ _ h hu Y (lv_sub hl [1, 0] rfl)
    · replace h := h.2 c20_
      exact cb_X11_begin_20 X hex hst hu Y (lv_sub hl [] rfl) h
-- X11_run
theorem ml_X11_152 : Cond.methodLink RX11 152 yX6_takeInputs ∈ q_G := q_tb (i := 1350) (by decide +kernel) (by decide +kernel)
theorem mt_X6_takeInputs : q_Mt yX6_takeInputs cX6_takeInputs 3 none 0 := ⟨q_tb (i := 1353) (by decide +kernel) (by decide +kernel), q_tb (i := 3) (by decide +kernel) (by decide +kernel), by decide +kernel, by decide +kernel, by decide +kernel⟩
theorem mi_X6_takeInputs : Cond.instanceMethod yX6_takeInputs ∈ q_G ∧ Cond.selects yX6_takeInputs.cls yX6_takeInputs yX6_takeInputs ∈ q_G := ⟨q_tb (i := 1351) (by decide +kernel) (by decide +kernel), q_tb (i := 1352) (by decide +kernel) (by decide +kernel)⟩
theorem ml_X11_158 : Cond.methodLink RX11 158 yX11_turn ∈ q_G := q_tb (i := 1392) (by decide +kernel) (by decide +kernel)
theorem mt_X11_turn : q_Mt yX11_turn cX11_turn 5 none 1 := ⟨q_tb (i := 1395) (by decide +kernel) (by decide +kernel), q_tb (i := 1) (by decide +kernel) (by decide +kernel), by decide +kernel, by decide +kernel, by decide +kernel⟩
theorem mi_X11_turn : Cond.instanceMethod yX11_turn ∈ q_G ∧ Cond.selects yX11_turn.cls yX11_turn yX11_turn ∈ q_G := ⟨q_tb (i := 1394) (by decide +kernel) (by decide +kernel), q_tp (i := 35) (q := (yX11_turn, 5)) (by decide +kernel) (by decide +kernel)⟩
theorem dX11_run_0 : decode cX11_run 0 = .ok (.aload_n 0, 1) := by decide +kernel
theorem dX11_run_1 : decode cX11_run 1 = .ok (.getfield 20, 3) := by decide +kernel
theorem dX11_run_4 : decode cX11_run 4 = .ok (.getfield 75, 3) := by decide +kernel
theorem dX11_run_7 : decode cX11_run 7 = .ok (.ifCond .ne 13, 3) := by decide +kernel
theorem dX11_run_10 : decode cX11_run 10 = .ok (.new 78, 3) := by decide +kernel
theorem dX11_run_13 : decode cX11_run 13 = .ok (.dup, 1) := by decide +kernel
theorem dX11_run_14 : decode cX11_run 14 = .ok (.ldc 145, 2) := by decide +kernel
theorem dX11_run_16 : decode cX11_run 16 = .ok (.invokespecial 82, 3) := by decide +kernel
theorem dX11_run_19 : decode cX11_run 19 = .ok (.athrow, 1) := by decide +kernel
theorem dX11_run_20 : decode cX11_run 20 = .ok (.iload_n 1, 1) := by decide +kernel
theorem dX11_run_21 : decode cX11_run 21 = .ok (.ifCond .lt 10, 3) := by decide +kernel
theorem dX11_run_24 : decode cX11_run 24 = .ok (.iload_n 1, 1) := by decide +kernel
theorem dX11_run_25 : decode cX11_run 25 = .ok (.sipush 500, 3) := by decide +kernel
theorem dX11_run_28 : decode cX11_run 28 = .ok (.if_icmp .le 13, 3) := by decide +kernel
theorem dX11_run_31 : decode cX11_run 31 = .ok (.new 122, 3) := by decide +kernel
theorem dX11_run_34 : decode cX11_run 34 = .ok (.dup, 1) := by decide +kernel
theorem dX11_run_35 : decode cX11_run 35 = .ok (.ldc 147, 2) := by decide +kernel
theorem dX11_run_37 : decode cX11_run 37 = .ok (.invokespecial 126, 3) := by decide +kernel
theorem dX11_run_40 : decode cX11_run 40 = .ok (.athrow, 1) := by decide +kernel
theorem dX11_run_41 : decode cX11_run 41 = .ok (.aload_n 0, 1) := by decide +kernel
theorem dX11_run_42 : decode cX11_run 42 = .ok (.getfield 20, 3) := by decide +kernel
theorem dX11_run_45 : decode cX11_run 45 = .ok (.getfield 149, 3) := by decide +kernel
theorem dX11_run_48 : decode cX11_run 48 = .ok (.istore_n 2, 1) := by decide +kernel
theorem dX11_run_49 : decode cX11_run 49 = .ok (.iconst 0, 1) := by decide +kernel
theorem dX11_run_50 : decode cX11_run 50 = .ok (.istore_n 3, 1) := by decide +kernel
theorem dX11_run_51 : decode cX11_run 51 = .ok (.iload_n 3, 1) := by decide +kernel
theorem dX11_run_52 : decode cX11_run 52 = .ok (.iload_n 1, 1) := by decide +kernel
theorem dX11_run_53 : decode cX11_run 53 = .ok (.if_icmp .ge 47, 3) := by decide +kernel
theorem dX11_run_56 : decode cX11_run 56 = .ok (.aload_n 0, 1) := by decide +kernel
theorem dX11_run_57 : decode cX11_run 57 = .ok (.getfield 20, 3) := by decide +kernel
theorem dX11_run_60 : decode cX11_run 60 = .ok (.invokevirtual 152, 3) := by decide +kernel
theorem dX11_run_63 : decode cX11_run 63 = .ok (.aload_n 0, 1) := by decide +kernel
theorem dX11_run_64 : decode cX11_run 64 = .ok (.aload_n 0, 1) := by decide +kernel
theorem dX11_run_65 : decode cX11_run 65 = .ok (.getfield 20, 3) := by decide +kernel
theorem dX11_run_68 : decode cX11_run 68 = .ok (.aload_n 0, 1) := by decide +kernel
theorem dX11_run_69 : decode cX11_run 69 = .ok (.getfield 20, 3) := by decide +kernel
theorem dX11_run_72 : decode cX11_run 72 = .ok (.invokevirtual 155, 3) := by decide +kernel
theorem dX11_run_75 : decode cX11_run 75 = .ok (.invokevirtual 85, 3) := by decide +kernel
theorem dX11_run_78 : decode cX11_run 78 = .ok (.invokevirtual 158, 3) := by decide +kernel
theorem dX11_run_81 : decode cX11_run 81 = .ok (.aload_n 0, 1) := by decide +kernel
theorem dX11_run_82 : decode cX11_run 82 = .ok (.getfield 20, 3) := by decide +kernel
theorem dX11_run_85 : decode cX11_run 85 = .ok (.dup, 1) := by decide +kernel
theorem dX11_run_86 : decode cX11_run 86 = .ok (.getfield 162, 3) := by decide +kernel
theorem dX11_run_89 : decode cX11_run 89 = .ok (.iconst 1, 1) := by decide +kernel
theorem dX11_run_90 : decode cX11_run 90 = .ok (.iadd, 1) := by decide +kernel
theorem dX11_run_91 : decode cX11_run 91 = .ok (.putfield 162, 3) := by decide +kernel
theorem dX11_run_94 : decode cX11_run 94 = .ok (.iinc 3 1, 3) := by decide +kernel
theorem dX11_run_97 : decode cX11_run 97 = .ok (.goto (-46), 3) := by decide +kernel
theorem dX11_run_100 : decode cX11_run 100 = .ok (.aload_n 0, 1) := by decide +kernel
theorem dX11_run_101 : decode cX11_run 101 = .ok (.getfield 20, 3) := by decide +kernel
theorem dX11_run_104 : decode cX11_run 104 = .ok (.getfield 149, 3) := by decide +kernel
theorem dX11_run_107 : decode cX11_run 107 = .ok (.iload_n 2, 1) := by decide +kernel
theorem dX11_run_108 : decode cX11_run 108 = .ok (.isub, 1) := by decide +kernel
theorem dX11_run_109 : decode cX11_run 109 = .ok (.ireturn, 1) := by decide +kernel
def wb_X11_run_31 (bc bs : Nat)  (u v : Nat) (S : q_S) (Q : Option Value → q_S → Prop) (E : String → q_S → Prop) : Prop := ((u + 1 ≤ bc ∧ v + 6 ≤ bs) ∧ E "java/lang/IllegalArgumentException" S)
set_option maxHeartbeats 4000000 in
set_option maxRecDepth 100000 in
theorem cb_X11_run_31 {p : Program} {l : Launch} {e : Env} {s : State} {m : MethodId} {args : Array Value} {below : List Frame} {meth : Method} {c : Code} {D : va_G} {cy : Nat → ClassId} {lo : Nat} {bc bs : Nat}  {u v : Nat} {S : q_S} {Q : Option Value → q_S → Prop} {E : String → q_S → Prop} {H : Heap} {locs : List Loc} {ls : Array Slot} (X : q_X p s m args meth c RX11 cX11_run 4 (some .int) D cy lo) (hex : ∀ x ∈ c.exceptionTable.toList, False) (hst : l.stackTraces = false)  (hu : u ≤ bc ∧ v ≤ bs) (Y : q_Y D cy lo s S H locs) (hl : lv_has ls 4 []) (h : wb_X11_run_31 bc bs u v S Q E) : W p l e ({ frames := 8, cells := bc, slots := bs, locals := 197 } : Room) s m args below meth c H locs u v (vx_MQ below (q_Q D cy lo Q) (q_XE D cy lo E) args s bc bs (fun q => lo ≤ q)) (F0 m 31 ls []) := by
  have hx := X.1
  have hb := X.2.1
  unfold wb_X11_run_31 at h
  exact q_throw X hex Y hst hl (i := 11) (by decide +kernel) (by decide +kernel) cl_X11_122 ix_IllegalArgumentException rfl tg_X11_126 tn_X11_126 to_ ⟨Nat.le_of_ble_eq_true rfl, by first | exact Nat.le_of_ble_eq_true rfl | simp [q_cat, q_catI, q_catJ, q_catR], h.1.1, h.1.2⟩ h.1 dX11_run_31 dX11_run_34 dX11_run_35 dX11_run_37 dX11_run_40 h.2
def wb_X11_run_51 (bc bs : Nat) (B51 : Nat → Nat → q_S → Nat → Int32 → Int32 → Int32 → Prop) (u v : Nat) (S : q_S) (a0 : Nat) (x1 : Int32) (x2 : Int32) (x3 : Int32) (Q : Option Value → q_S → Prop) (E : String → q_S → Prop) : Prop := ((x1 ≤ x3 → (q_K S a0 = 12 ∧ (∃ a3_ : Nat, (q_P S 2201 a0) = some a3_ ∧ (q_K S a3_ = 7 ∧ (Q (some (.int ((q_I S 1212 a3_) - x2))) S))))) ∧ (¬ x1 ≤ x3 → (q_K S a0 = 12 ∧ (∃ a7_ : Nat, (q_P S 2201 a0) = some a7_ ∧ (q_K S a7_ = 7 ∧ (wm_X6_takeInputs S a7_ (fun r10_ S11_ => r10_ = none ∧ (q_K S11_ a0 = 12 ∧ (∃ a13_ : Nat, (q_P S11_ 2201 a0) = some a13_ ∧ (q_K S11_ a13_ = 7 ∧ (wm_X6_partitionNow S11_ a13_ (fun r16_ S17_ => ∃ x18_ : Int32, r16_ = some (.int x18_) ∧ (∃ a19_ : Nat, (q_P S11_ 2201 a0) = some a19_ ∧ (q_K S17_ a19_ = 7 ∧ (wm_X6_partitionAt S17_ a19_ x18_ (fun r22_ S23_ => ∃ r24_ : Option Nat, r22_ = some (va_rf r24_) ∧ (q_K S23_ a0 = 12 ∧ (wm_X11_turn S23_ a0 r24_ (fun r26_ S27_ => r26_ = none ∧ (q_K S27_ a0 = 12 ∧ (∃ a29_ : Nat, (q_P S27_ 2201 a0) = some a29_ ∧ (q_K S27_ a29_ = 7 ∧ (B51 u v (qs_I S27_ 1211 a29_ ((q_I S27_ 1211 a29_) + (1 : Int32))) a0 x1 x2 (x3 + 1))))))))))))))))))))))))
set_option maxHeartbeats 4000000 in
set_option maxRecDepth 100000 in
theorem cb_X11_run_51 {p : Program} {l : Launch} {e : Env} {s : State} {m : MethodId} {args : Array Value} {below : List Frame} {meth : Method} {c : Code} {D : va_G} {cy : Nat → ClassId} {lo : Nat} {bc bs : Nat} {B51 : Nat → Nat → q_S → Nat → Int32 → Int32 → Int32 → Prop} {u v : Nat} {S : q_S} {a0 : Nat} {x1 : Int32} {x2 : Int32} {x3 : Int32} {Q : Option Value → q_S → Prop} {E : String → q_S → Prop} {H : Heap} {locs : List Loc} {ls : Array Slot} (X : q_X p s m args meth c RX11 cX11_run 4 (some .int) D cy lo) (hex : ∀ x ∈ c.exceptionTable.toList, False) (hst : l.stackTraces = false) (hB51 : ∀ (u v : Nat) (S : q_S) (a0 : Nat) (x1 : Int32) (x2 : Int32) (x3 : Int32) (H : Heap) (locs : List Loc) (ls : Array Slot), B51 u v S a0 x1 x2 x3 → (u ≤ bc ∧ v ≤ bs) → q_Y D cy lo s S H locs → lv_has ls 4 [(0, .ref a0), (1, .int x1), (2, .int x2), (3, .int x3)] → W p l e ({ frames := 8, cells := bc, slots := bs, locals := 197 } : Room) s m args below meth c H locs u v (vx_MQ below (q_Q D cy lo Q) (q_XE D cy lo E) args s bc bs (fun q => lo ≤ q)) (F0 m 51 ls [])) (hu : u ≤ bc ∧ v ≤ bs) (Y : q_Y D cy lo s S H locs) (hl : lv_has ls 4 [(0, .ref a0), (1, .int x1), (2, .int x2), (3, .int x3)]) (h : wb_X11_run_51 bc bs B51 u v S a0 x1 x2 x3 Q E) : W p l e ({ frames := 8, cells := bc, slots := bs, locals := 197 } : Room) s m args below meth c H locs u v (vx_MQ below (q_Q D cy lo Q) (q_XE D cy lo E) args s bc bs (fun q => lo ≤ q)) (F0 m 51 ls []) := by
  have hx := X.1
  have hb := X.2.1
  unfold wb_X11_run_51 at h
  refine lv_iload_n hx hb dX11_run_51 rfl (lv_at hl 3 rfl) ?_
  refine lv_iload_n hx hb dX11_run_52 rfl (lv_at hl 1 rfl) ?_
  refine lv_icmp_ge (tgt := 100) hx hb dX11_run_53 (by decide) (fun c1_ => ?_) (fun c1_ => ?_)
  · replace h := h.1 c1_
    refine lv_aload_n hx hb dX11_run_100 rfl (lv_at hl 0 rfl) ?_
    obtain ⟨k2_, h⟩ := h
    refine q_getP X Y kX11 1 rfl fl_X11_20 k2_ rfl dX11_run_101 ?_
    obtain ⟨a3_, e4_, h⟩ := h
    refine q_nn [] e4_ ?_
    obtain ⟨k5_, h⟩ := h
    refine q_getI X Y kX6 12 rfl fl_X11_149 k5_ dX11_run_104 ?_
    refine lv_iload_n hx hb dX11_run_107 rfl (lv_at hl 2 rfl) ?_
    refine lv_isub hx hb dX11_run_108 ?_
    exact vx_ret <| q_iret X Y rfl hu.1 hu.2 h dX11_run_109
  · replace h := h.2 c1_
    refine lv_aload_n hx hb dX11_run_56 rfl (lv_at hl 0 rfl) ?_
    obtain ⟨k6_, h⟩ := h
    refine q_getP X Y kX11 1 rfl fl_X11_20 k6_ rfl dX11_run_57 ?_
    obtain ⟨a7_, e8_, h⟩ := h
    refine q_nn [] e8_ ?_
    obtain ⟨k9_, h⟩ := h
    refine q_callV X Y hl (cm_X6_takeInputs h) mt_X6_takeInputs mi_X6_takeInputs ml_X11_152 (ci := 6) rfl k9_ (by decide) rfl rfl (by first | exact Nat.le_of_ble_eq_true rfl | simp [q_cat, q_catI, q_catJ, q_catR]) ⟨Nat.le_of_ble_eq_true rfl, Nat.le_of_ble_eq_true rfl⟩ hu dX11_run_60 (fun r10_ S11_ H locs hp Y => ?_)
    obtain ⟨rfl, h⟩ := hp
    refine W.eq (g2 := F0 m 63 ls []) rfl ?_
    refine lv_aload_n hx hb dX11_run_63 rfl (lv_at hl 0 rfl) ?_
    refine lv_aload_n hx hb dX11_run_64 rfl (lv_at hl 0 rfl) ?_
    obtain ⟨k12_, h⟩ := h
    refine q_getP X Y kX11 1 rfl fl_X11_20 k12_ rfl dX11_run_65 ?_
    refine lv_aload_n hx hb dX11_run_68 rfl (lv_at hl 0 rfl) ?_
    refine q_getP X Y kX11 1 rfl fl_X11_20 k12_ rfl dX11_run_69 ?_
    obtain ⟨a13_, e14_, h⟩ := h
    refine q_nn [] e14_ ?_
    obtain ⟨k15_, h⟩ := h
    refine q_callV X Y hl (cm_X6_partitionNow h) mt_X6_partitionNow mi_X6_partitionNow ml_X11_155 (ci := 6) rfl k15_ (by decide) rfl rfl (by first | exact Nat.le_of_ble_eq_true rfl | simp [q_cat, q_catI, q_catJ, q_catR]) ⟨Nat.le_of_ble_eq_true rfl, Nat.le_of_ble_eq_true rfl⟩ hu dX11_run_72 (fun r16_ S17_ H locs hp Y => ?_)
    obtain ⟨x18_, rfl, h⟩ := hp
    refine W.eq (g2 := F0 m 75 ls [.int x18_, va_rf (q_P S11_ 2201 a0), .ref a0]) rfl ?_
    obtain ⟨a19_, e20_, h⟩ := h
    refine q_nn [.int x18_] e20_ ?_
    obtain ⟨k21_, h⟩ := h
    refine q_callV X Y hl (cm_X6_partitionAt h) mt_X6_partitionAt mi_X6_partitionAt ml_X11_85 (ci := 6) rfl k21_ (by decide) rfl rfl (by first | exact Nat.le_of_ble_eq_true rfl | simp [q_cat, q_catI, q_catJ, q_catR]) ⟨Nat.le_of_ble_eq_true rfl, Nat.le_of_ble_eq_true rfl⟩ hu dX11_run_75 (fun r22_ S23_ H locs hp Y => ?_)
    obtain ⟨r24_, rfl, h⟩ := hp
    refine W.eq (g2 := F0 m 78 ls [va_rf r24_, .ref a0]) rfl ?_
    obtain ⟨k25_, h⟩ := h
    refine q_callV X Y hl (cm_X11_turn h) mt_X11_turn mi_X11_turn ml_X11_158 (ci := 11) rfl k25_ (by decide) rfl rfl (by first | exact Nat.le_of_ble_eq_true rfl | simp [q_cat, q_catI, q_catJ, q_catR]) ⟨Nat.le_of_ble_eq_true rfl, Nat.le_of_ble_eq_true rfl⟩ hu dX11_run_78 (fun r26_ S27_ H locs hp Y => ?_)
    obtain ⟨rfl, h⟩ := hp
    refine W.eq (g2 := F0 m 81 ls []) rfl ?_
    refine lv_aload_n hx hb dX11_run_81 rfl (lv_at hl 0 rfl) ?_
    obtain ⟨k28_, h⟩ := h
    refine q_getP X Y kX11 1 rfl fl_X11_20 k28_ rfl dX11_run_82 ?_
    refine lv_dup hx hb dX11_run_85 (q_cat _) ?_
    obtain ⟨a29_, e30_, h⟩ := h
    refine q_nn [] e30_ ?_
    obtain ⟨k31_, h⟩ := h
    refine q_getI X Y kX6 11 rfl fl_X11_162 k31_ dX11_run_86 ?_
    refine lv_iconst (v := 1) hx hb dX11_run_89 (by decide) ?_
    refine lv_iadd hx hb dX11_run_90 ?_
    refine q_nn [.int ((q_I S27_ 1211 a29_) + (1 : Int32))] e30_ ?_
    refine q_putI X Y kX6 11 rfl fl_X11_162 k31_ .int rfl ⟨rfl, rfl⟩ rfl dX11_run_91 (fun H locs Y => ?_)
    refine lv_iinc (v := (x3 + 1)) (lv' := [(3, .int (x3 + 1)), (0, .ref a0), (1, .int x1), (2, .int x2)]) hx hb dX11_run_94 hl (k := 3) rfl (by first | rfl | decide) (by decide) (by first | rfl | simp [q_cat, q_catI, q_catJ, q_catR]) (fun ls hl => ?_)
    refine lv_goto (tgt := 51) hx hb dX11_run_97 (by decide) ?_
    exact hB51 _ _ _ _ _ _ _ _ _ _ h hu Y (lv_sub hl [1, 2, 3, 0] rfl)
def wl_X11_run_51 (bc bs : Nat)  : Nat → Nat → Nat → q_S → Nat → Int32 → Int32 → Int32 → (Option Value → q_S → Prop) → (String → q_S → Prop) → Prop
  | 0, _, _, _, _, _, _, _, _, _ => False
  | n + 1, u, v, S, a0, x1, x2, x3, Q, E => wb_X11_run_51 bc bs (fun u v S a0 x1 x2 x3 => wl_X11_run_51 bc bs n u v S a0 x1 x2 x3 Q E) u v S a0 x1 x2 x3 Q E
set_option maxHeartbeats 4000000 in
set_option maxRecDepth 100000 in
theorem cl_X11_run_51 {p : Program} {l : Launch} {e : Env} {s : State} {m : MethodId} {args : Array Value} {below : List Frame} {meth : Method} {c : Code} {D : va_G} {cy : Nat → ClassId} {lo : Nat} {bc bs : Nat}  {Q : Option Value → q_S → Prop} {E : String → q_S → Prop} (X : q_X p s m args meth c RX11 cX11_run 4 (some .int) D cy lo) (hex : ∀ x ∈ c.exceptionTable.toList, False) (hst : l.stackTraces = false)  : ∀ (n : Nat) (u v : Nat) (S : q_S) (a0 : Nat) (x1 : Int32) (x2 : Int32) (x3 : Int32) (H : Heap) (locs : List Loc) (ls : Array Slot), wl_X11_run_51 bc bs n u v S a0 x1 x2 x3 Q E → (u ≤ bc ∧ v ≤ bs) → q_Y D cy lo s S H locs → lv_has ls 4 [(0, .ref a0), (1, .int x1), (2, .int x2), (3, .int x3)] → W p l e ({ frames := 8, cells := bc, slots := bs, locals := 197 } : Room) s m args below meth c H locs u v (vx_MQ below (q_Q D cy lo Q) (q_XE D cy lo E) args s bc bs (fun q => lo ≤ q)) (F0 m 51 ls []) := by
  intro n
  induction n with
  | zero => intro u v S a0 x1 x2 x3 H locs ls h; exact absurd h id
  | succ n ih => intro u v S a0 x1 x2 x3 H locs ls h hu Y hl; exact cb_X11_run_51 X hex hst ih hu Y hl h
def wm_X11_run (bc bs : Nat) (S : q_S) (a0 : Nat) (x1 : Int32) (Q : Option Value → q_S → Prop) (E : String → q_S → Prop) : Prop := q_K S a0 = 12 ∧ (∃ a33_ : Nat, (q_P S 2201 a0) = some a33_ ∧ (q_K S a33_ = 7 ∧ (((¬ (q_I S 1214 a33_) = 0 → (((x1 < 0 → (wb_X11_run_31 bc bs 0 0 S Q E)) ∧ (¬ x1 < 0 → (((x1 ≤ (500 : Int32) → (∃ n39_ : Nat, wl_X11_run_51 bc bs n39_ 0 0 S a0 x1 (q_I S 1212 a33_) (0 : Int32) Q E)) ∧ (¬ x1 ≤ (500 : Int32) → (wb_X11_run_31 bc bs 0 0 S Q E)))))))) ∧ ((q_I S 1214 a33_) = 0 → (((0 + 1 ≤ bc ∧ 0 + 6 ≤ bs) ∧ E "java/lang/IllegalStateException" S)))))))
set_option maxHeartbeats 4000000 in
set_option maxRecDepth 100000 in
theorem cm_X11_run {l : Launch} {D : va_G} {cy : Nat → ClassId} {lo : Nat} {bc bs : Nat} {S : q_S} {a0 : Nat} {x1 : Int32} {Q : Option Value → q_S → Prop} {E : String → q_S → Prop} (hst : l.stackTraces = false) (h : wm_X11_run bc bs S a0 x1 Q E) : q_MetX l D cy lo yX11_run cX11_run 4 (some .int) 8 197 bc bs [.ref a0, .int x1] S Q E := by
  refine q_bodyX (by decide) (by first | exact Nat.le_of_ble_eq_true rfl | simp [lg_sl, q_cat, q_catI, q_catJ, q_catR]) ?_
  intro p e s m below meth c ls X hex Y hl
  have hx := X.1
  have hb := X.2.1
  have hl : lv_has ls 4 [(0, .ref a0), (1, .int x1)] := by first | exact hl | simpa [lv_args, q_cat, q_catI, q_catJ, q_catR] using hl
  generalize hargs : ([.ref a0, .int x1] : List Value).toArray = args at X ⊢
  have hu : 0 ≤ bc ∧ 0 ≤ bs := ⟨Nat.zero_le _, Nat.zero_le _⟩
  unfold wm_X11_run at h
  refine lv_aload_n hx hb dX11_run_0 rfl (lv_at hl 0 rfl) ?_
  obtain ⟨k32_, h⟩ := h
  refine q_getP X Y kX11 1 rfl fl_X11_20 k32_ rfl dX11_run_1 ?_
  obtain ⟨a33_, e34_, h⟩ := h
  refine q_nn [] e34_ ?_
  obtain ⟨k35_, h⟩ := h
  refine q_getI X Y kX6 14 rfl fl_X11_75 k35_ dX11_run_4 ?_
  refine lv_if_ne (tgt := 20) hx hb dX11_run_7 (by decide) (fun c36_ => ?_) (fun c36_ => ?_)
  · replace h := h.1 c36_
    refine lv_iload_n hx hb dX11_run_20 rfl (lv_at hl 1 rfl) ?_
    refine lv_if_lt (tgt := 31) hx hb dX11_run_21 (by decide) (fun c37_ => ?_) (fun c37_ => ?_)
    · replace h := h.1 c37_
      exact cb_X11_run_31 X hex hst hu Y (lv_sub hl [] rfl) h
    · replace h := h.2 c37_
      refine lv_iload_n hx hb dX11_run_24 rfl (lv_at hl 1 rfl) ?_
      refine lv_sipush (v := 500) hx hb dX11_run_25 (by decide) ?_
      refine lv_icmp_le (tgt := 41) hx hb dX11_run_28 (by decide) (fun c38_ => ?_) (fun c38_ => ?_)
      · replace h := h.1 c38_
        refine lv_aload_n hx hb dX11_run_41 rfl (lv_at hl 0 rfl) ?_
        refine q_getR X Y kX11 1 rfl fl_X11_20 k32_ e34_ dX11_run_42 ?_
        refine q_getI X Y kX6 12 rfl fl_X11_149 k35_ dX11_run_45 ?_
        refine lv_istore_n (i := 2) (lv' := [(2, .int (q_I S 1212 a33_)), (0, .ref a0), (1, .int x1)]) hx hb dX11_run_48 rfl hl (by decide) (by first | rfl | simp [q_cat, q_catI, q_catJ, q_catR]) (fun ls hl => ?_)
        refine lv_iconst (v := 0) hx hb dX11_run_49 (by decide) ?_
        refine lv_istore_n (i := 3) (lv' := [(3, .int (0 : Int32)), (2, .int (q_I S 1212 a33_)), (0, .ref a0), (1, .int x1)]) hx hb dX11_run_50 rfl hl (by decide) (by first | rfl | simp [q_cat, q_catI, q_catJ, q_catR]) (fun ls hl => ?_)
        obtain ⟨n39_, h⟩ := h
        exact cl_X11_run_51 X hex hst n39_ _ _ _ _ _ _ _ _ _ _ h hu Y (lv_sub hl [2, 3, 1, 0] rfl)
      · replace h := h.2 c38_
        exact cb_X11_run_31 X hex hst hu Y (lv_sub hl [] rfl) h
  · replace h := h.2 c36_
    exact q_throw X hex Y hst hl (i := 10) (by decide +kernel) (by decide +kernel) cl_X11_78 ix_IllegalStateException rfl tg_X11_82 tn_X11_82 to_ ⟨Nat.le_of_ble_eq_true rfl, by first | exact Nat.le_of_ble_eq_true rfl | simp [q_cat, q_catI, q_catJ, q_catR], h.1.1, h.1.2⟩ h.1 dX11_run_10 dX11_run_13 dX11_run_14 dX11_run_16 dX11_run_19 h.2
