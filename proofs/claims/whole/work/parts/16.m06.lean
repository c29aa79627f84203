-- J3_checkIndex_8e157
theorem dJ3_checkIndex_8e157_0 : decode cJ3_checkIndex_8e157 0 = .ok (.iload_n 0, 1) := by decide +kernel
theorem dJ3_checkIndex_8e157_1 : decode cJ3_checkIndex_8e157 1 = .ok (.ifCond .lt 8, 3) := by decide +kernel
theorem dJ3_checkIndex_8e157_4 : decode cJ3_checkIndex_8e157 4 = .ok (.iload_n 0, 1) := by decide +kernel
theorem dJ3_checkIndex_8e157_5 : decode cJ3_checkIndex_8e157 5 = .ok (.iload_n 1, 1) := by decide +kernel
theorem dJ3_checkIndex_8e157_6 : decode cJ3_checkIndex_8e157 6 = .ok (.if_icmp .lt 10, 3) := by decide +kernel
theorem dJ3_checkIndex_8e157_9 : decode cJ3_checkIndex_8e157 9 = .ok (.aload_n 2, 1) := by decide +kernel
theorem dJ3_checkIndex_8e157_10 : decode cJ3_checkIndex_8e157 10 = .ok (.iload_n 0, 1) := by decide +kernel
theorem dJ3_checkIndex_8e157_11 : decode cJ3_checkIndex_8e157 11 = .ok (.iload_n 1, 1) := by decide +kernel
theorem dJ3_checkIndex_8e157_16 : decode cJ3_checkIndex_8e157 16 = .ok (.iload_n 0, 1) := by decide +kernel
theorem dJ3_checkIndex_8e157_17 : decode cJ3_checkIndex_8e157 17 = .ok (.ireturn, 1) := by decide +kernel
def wb_J3_checkIndex_8e157_9  (S : q_S) (x0 : Int32) (x1 : Int32) (r2 : Option Nat) (Q : Option Value → q_S → Prop) : Prop := False
set_option maxHeartbeats 4000000 in
set_option maxRecDepth 100000 in
theorem cb_J3_checkIndex_8e157_9 {p : Program} {l : Launch} {e : Env} {s : State} {m : MethodId} {args : Array Value} {below : List Frame} {meth : Method} {c : Code} {D : va_G} {cy : Nat → ClassId} {lo : Nat}  {S : q_S} {x0 : Int32} {x1 : Int32} {r2 : Option Nat} {Q : Option Value → q_S → Prop} {H : Heap} {locs : List Loc} {ls : Array Slot} (X : q_X p s m args meth c RJ3 cJ3_checkIndex_8e157 3 (some .int) D cy lo)  (Y : q_Y D cy lo s S H locs) (hl : lv_has ls 3 [(0, .int x0), (1, .int x1), (2, va_rf r2)]) (h : wb_J3_checkIndex_8e157_9 S x0 x1 r2 Q) : W p l e ({ frames := 0, cells := 0, slots := 0, locals := 0 } : Room) s m args below meth c H locs 0 0 (MQ below (q_Q D cy lo Q) args s 0 0 (fun q => lo ≤ q)) (F0 m 9 ls []) := by
  have hx := X.1
  have hb := X.2.1
  unfold wb_J3_checkIndex_8e157_9 at h
  refine q_aload_n hx hb dJ3_checkIndex_8e157_9 rfl (lv_at hl 2 rfl) ?_
  refine lv_iload_n hx hb dJ3_checkIndex_8e157_10 rfl (lv_at hl 0 rfl) ?_
  refine lv_iload_n hx hb dJ3_checkIndex_8e157_11 rfl (lv_at hl 1 rfl) ?_
  exact h.elim
def wm_J3_checkIndex_8e157 (S : q_S) (x0 : Int32) (x1 : Int32) (r2 : Option Nat) (Q : Option Value → q_S → Prop) : Prop := ((x0 < 0 → (wb_J3_checkIndex_8e157_9 S x0 x1 r2 Q)) ∧ (¬ x0 < 0 → (((x0 < x1 → (Q (some (.int x0)) S)) ∧ (¬ x0 < x1 → (wb_J3_checkIndex_8e157_9 S x0 x1 r2 Q))))))
set_option maxHeartbeats 4000000 in
set_option maxRecDepth 100000 in
theorem cm_J3_checkIndex_8e157 {l : Launch} {D : va_G} {cy : Nat → ClassId} {lo : Nat} {S : q_S} {x0 : Int32} {x1 : Int32} {r2 : Option Nat} {Q : Option Value → q_S → Prop} (h : wm_J3_checkIndex_8e157 S x0 x1 r2 Q) : q_Met l D cy lo yJ3_checkIndex_8e157 cJ3_checkIndex_8e157 3 (some .int) 0 0 0 0 [.int x0, .int x1, va_rf r2] S Q := by
  refine q_body (by decide) (by first | exact Nat.le_of_ble_eq_true rfl | simp [lg_sl, q_cat, q_catI, q_catJ, q_catR]) ?_
  intro p e s m below meth c ls X hnm Y hl
  have hx := X.1
  have hb := X.2.1
  have hl : lv_has ls 3 [(0, .int x0), (1, .int x1), (2, va_rf r2)] := by first | exact hl | simpa [lv_args, q_cat, q_catI, q_catJ, q_catR] using hl
  generalize hargs : ([.int x0, .int x1, va_rf r2] : List Value).toArray = args at X ⊢
  unfold wm_J3_checkIndex_8e157 at h
  refine lv_iload_n hx hb dJ3_checkIndex_8e157_0 rfl (lv_at hl 0 rfl) ?_
  refine lv_if_lt (tgt := 9) hx hb dJ3_checkIndex_8e157_1 (by decide) (fun c1_ => ?_) (fun c1_ => ?_)
  · replace h := h.1 c1_
    exact cb_J3_checkIndex_8e157_9 X Y (lv_sub hl [0, 1, 2] rfl) h
  · replace h := h.2 c1_
    refine lv_iload_n hx hb dJ3_checkIndex_8e157_4 rfl (lv_at hl 0 rfl) ?_
    refine lv_iload_n hx hb dJ3_checkIndex_8e157_5 rfl (lv_at hl 1 rfl) ?_
    refine lv_icmp_lt (tgt := 16) hx hb dJ3_checkIndex_8e157_6 (by decide) (fun c2_ => ?_) (fun c2_ => ?_)
    · replace h := h.1 c2_
      refine lv_iload_n hx hb dJ3_checkIndex_8e157_16 rfl (lv_at hl 0 rfl) ?_
      exact q_iret X Y rfl (Nat.le_refl _) (Nat.le_refl _) h dJ3_checkIndex_8e157_17
    · replace h := h.2 c2_
      exact cb_J3_checkIndex_8e157_9 X Y (lv_sub hl [0, 1, 2] rfl) h
-- J0_checkIndex_df160
theorem fl_J0_1053 : Cond.fieldLink RJ0 1053 "jdk/internal/util/Preconditions" "SIOOBE_FORMATTER" "Ljava/util/function/BiFunction;" ∈ q_G := q_tb (i := 169) (by decide +kernel) (by decide +kernel)
theorem ml_J0_1059 : Cond.methodLink RJ0 1059 yJ3_checkIndex_8e157 ∈ q_G := q_tb (i := 171) (by decide +kernel) (by decide +kernel)
theorem mt_J3_checkIndex_8e157 : q_Mt yJ3_checkIndex_8e157 cJ3_checkIndex_8e157 3 (some .int) 3 := ⟨q_tb (i := 173) (by decide +kernel) (by decide +kernel), q_tb (i := 7) (by decide +kernel) (by decide +kernel), by decide +kernel, by decide +kernel, by decide +kernel⟩
theorem ms_J3_checkIndex_8e157 : Cond.static yJ3_checkIndex_8e157 ∈ q_G := q_tb (i := 172) (by decide +kernel) (by decide +kernel)
theorem dJ0_checkIndex_df160_0 : decode cJ0_checkIndex_df160 0 = .ok (.iload_n 0, 1) := by decide +kernel
theorem dJ0_checkIndex_df160_1 : decode cJ0_checkIndex_df160 1 = .ok (.iload_n 1, 1) := by decide +kernel
theorem dJ0_checkIndex_df160_2 : decode cJ0_checkIndex_df160 2 = .ok (.getstatic 1053, 3) := by decide +kernel
theorem dJ0_checkIndex_df160_5 : decode cJ0_checkIndex_df160 5 = .ok (.invokestatic 1059, 3) := by decide +kernel
theorem dJ0_checkIndex_df160_8 : decode cJ0_checkIndex_df160 8 = .ok (.pop, 1) := by decide +kernel
theorem dJ0_checkIndex_df160_9 : decode cJ0_checkIndex_df160 9 = .ok (.return_, 1) := by decide +kernel
def wm_J0_checkIndex_df160 (S : q_S) (x0 : Int32) (x1 : Int32) (Q : Option Value → q_S → Prop) : Prop := ∀ r1_ : Option Nat, (wm_J3_checkIndex_8e157 S x0 x1 r1_ (fun r2_ S3_ => ∃ x4_ : Int32, r2_ = some (.int x4_) ∧ (Q none S3_)))
set_option maxHeartbeats 4000000 in
set_option maxRecDepth 100000 in
theorem cm_J0_checkIndex_df160 {l : Launch} {D : va_G} {cy : Nat → ClassId} {lo : Nat} {S : q_S} {x0 : Int32} {x1 : Int32} {Q : Option Value → q_S → Prop} (h : wm_J0_checkIndex_df160 S x0 x1 Q) : q_Met l D cy lo yJ0_checkIndex_df160 cJ0_checkIndex_df160 2 none 1 22 0 0 [.int x0, .int x1] S Q := by
  refine q_body (by decide) (by first | exact Nat.le_of_ble_eq_true rfl | simp [lg_sl, q_cat, q_catI, q_catJ, q_catR]) ?_
  intro p e s m below meth c ls X hnm Y hl
  have hx := X.1
  have hb := X.2.1
  have hl : lv_has ls 2 [(0, .int x0), (1, .int x1)] := by first | exact hl | simpa [lv_args, q_cat, q_catI, q_catJ, q_catR] using hl
  generalize hargs : ([.int x0, .int x1] : List Value).toArray = args at X ⊢
  unfold wm_J0_checkIndex_df160 at h
  refine lv_iload_n hx hb dJ0_checkIndex_df160_0 rfl (lv_at hl 0 rfl) ?_
  refine lv_iload_n hx hb dJ0_checkIndex_df160_1 rfl (lv_at hl 1 rfl) ?_
  refine q_sfmt X Y fl_J0_1053 dJ0_checkIndex_df160_2 (fun r1_ => ?_)
  replace h := h r1_
  refine q_callS X Y hl (cm_J3_checkIndex_8e157 h) mt_J3_checkIndex_8e157 ms_J3_checkIndex_8e157 ml_J0_1059 rfl rfl (by first | exact Nat.le_of_ble_eq_true rfl | simp [q_cat, q_catI, q_catJ, q_catR]) ⟨Nat.le_of_ble_eq_true rfl, Nat.le_of_ble_eq_true rfl⟩ ⟨Nat.le_of_ble_eq_true rfl, Nat.le_of_ble_eq_true rfl⟩ dJ0_checkIndex_df160_5 (fun r2_ S3_ H locs hp Y => ?_)
  obtain ⟨x4_, rfl, h⟩ := hp
  refine W.eq (g2 := F0 m 8 ls [.int x4_]) rfl ?_
  refine lv_pop hx hb dJ0_checkIndex_df160_8 rfl ?_
  exact q_vret X Y (Nat.le_refl _) (Nat.le_refl _) h dJ0_checkIndex_df160_9
-- J1_charAt_3b067
theorem ml_J1_9 : Cond.methodLink RJ1 9 yJ0_checkIndex_df160 ∈ q_G := q_tb (i := 166) (by decide +kernel) (by decide +kernel)
theorem mt_J0_checkIndex_df160 : q_Mt yJ0_checkIndex_df160 cJ0_checkIndex_df160 2 none 2 := ⟨q_tb (i := 168) (by decide +kernel) (by decide +kernel), q_tb (i := 5) (by decide +kernel) (by decide +kernel), by decide +kernel, by decide +kernel, by decide +kernel⟩
theorem ms_J0_checkIndex_df160 : Cond.static yJ0_checkIndex_df160 ∈ q_G := q_tb (i := 167) (by decide +kernel) (by decide +kernel)
theorem dJ1_charAt_3b067_0 : decode cJ1_charAt_3b067 0 = .ok (.iload_n 1, 1) := by decide +kernel
theorem dJ1_charAt_3b067_1 : decode cJ1_charAt_3b067 1 = .ok (.aload_n 0, 1) := by decide +kernel
theorem dJ1_charAt_3b067_2 : decode cJ1_charAt_3b067 2 = .ok (.arraylength, 1) := by decide +kernel
theorem dJ1_charAt_3b067_3 : decode cJ1_charAt_3b067 3 = .ok (.invokestatic 9, 3) := by decide +kernel
theorem dJ1_charAt_3b067_6 : decode cJ1_charAt_3b067 6 = .ok (.aload_n 0, 1) := by decide +kernel
theorem dJ1_charAt_3b067_7 : decode cJ1_charAt_3b067 7 = .ok (.iload_n 1, 1) := by decide +kernel
theorem dJ1_charAt_3b067_8 : decode cJ1_charAt_3b067 8 = .ok (.baload, 1) := by decide +kernel
theorem dJ1_charAt_3b067_9 : decode cJ1_charAt_3b067 9 = .ok (.sipush 255, 3) := by decide +kernel
theorem dJ1_charAt_3b067_12 : decode cJ1_charAt_3b067 12 = .ok (.iand, 1) := by decide +kernel
theorem dJ1_charAt_3b067_13 : decode cJ1_charAt_3b067 13 = .ok (.i2c, 1) := by decide +kernel
theorem dJ1_charAt_3b067_14 : decode cJ1_charAt_3b067 14 = .ok (.ireturn, 1) := by decide +kernel
def wm_J1_charAt_3b067 (S : q_S) (r0 : Option Nat) (x1 : Int32) (Q : Option Value → q_S → Prop) : Prop := ∃ a1_ : Nat, r0 = some a1_ ∧ (q_K S a1_ = 31 ∧ (wm_J0_checkIndex_df160 S x1 (nI (q_sl.getD (q_N S a1_) 0)) (fun r4_ S5_ => r4_ = none ∧ (q_K S5_ a1_ = 31 ∧ (vp_in x1 (q_sl.getD (q_N S5_ a1_) 0) ∧ ((narrow .char (.int (((((q_sb.getD (q_N S5_ a1_) []).getD x1.toNatClampNeg 0) &&& (255 : Int32)).toUInt32 % 65536).toInt32)) = .int (((((q_sb.getD (q_N S5_ a1_) []).getD x1.toNatClampNeg 0) &&& (255 : Int32)).toUInt32 % 65536).toInt32) ∧ Q (some (.int (((((q_sb.getD (q_N S5_ a1_) []).getD x1.toNatClampNeg 0) &&& (255 : Int32)).toUInt32 % 65536).toInt32))) S5_)))))))
set_option maxHeartbeats 4000000 in
set_option maxRecDepth 100000 in
theorem cm_J1_charAt_3b067 {l : Launch} {D : va_G} {cy : Nat → ClassId} {lo : Nat} {S : q_S} {r0 : Option Nat} {x1 : Int32} {Q : Option Value → q_S → Prop} (h : wm_J1_charAt_3b067 S r0 x1 Q) : q_Met l D cy lo yJ1_charAt_3b067 cJ1_charAt_3b067 2 (some .char) 2 43 0 0 [va_rf r0, .int x1] S Q := by
  refine q_body (by decide) (by first | exact Nat.le_of_ble_eq_true rfl | simp [lg_sl, q_cat, q_catI, q_catJ, q_catR]) ?_
  intro p e s m below meth c ls X hnm Y hl
  have hx := X.1
  have hb := X.2.1
  have hl : lv_has ls 2 [(0, va_rf r0), (1, .int x1)] := by first | exact hl | simpa [lv_args, q_cat, q_catI, q_catJ, q_catR] using hl
  generalize hargs : ([va_rf r0, .int x1] : List Value).toArray = args at X ⊢
  unfold wm_J1_charAt_3b067 at h
  refine lv_iload_n hx hb dJ1_charAt_3b067_0 rfl (lv_at hl 1 rfl) ?_
  refine q_aload_n hx hb dJ1_charAt_3b067_1 rfl (lv_at hl 0 rfl) ?_
  obtain ⟨a1_, e2_, h⟩ := h
  refine q_nn [] e2_ ?_
  obtain ⟨k3_, h⟩ := h
  refine q_slen X Y k3_ dJ1_charAt_3b067_2 ?_
  refine q_callS X Y hl (cm_J0_checkIndex_df160 h) mt_J0_checkIndex_df160 ms_J0_checkIndex_df160 ml_J1_9 rfl rfl (by first | exact Nat.le_of_ble_eq_true rfl | simp [q_cat, q_catI, q_catJ, q_catR]) ⟨Nat.le_of_ble_eq_true rfl, Nat.le_of_ble_eq_true rfl⟩ ⟨Nat.le_of_ble_eq_true rfl, Nat.le_of_ble_eq_true rfl⟩ dJ1_charAt_3b067_3 (fun r4_ S5_ H locs hp Y => ?_)
  obtain ⟨rfl, h⟩ := hp
  refine W.eq (g2 := F0 m 6 ls []) rfl ?_
  refine q_aload_n hx hb dJ1_charAt_3b067_6 rfl (lv_at hl 0 rfl) ?_
  refine lv_iload_n hx hb dJ1_charAt_3b067_7 rfl (lv_at hl 1 rfl) ?_
  refine q_nn [.int x1] e2_ ?_
  obtain ⟨k6_, h⟩ := h
  obtain ⟨i7_, h⟩ := h
  refine q_sbld X Y k6_ i7_ dJ1_charAt_3b067_8 ?_
  refine lv_sipush (v := 255) hx hb dJ1_charAt_3b067_9 (by decide) ?_
  refine lv_iand hx hb dJ1_charAt_3b067_12 ?_
  refine lv_i2c hx hb dJ1_charAt_3b067_13 rfl ?_
  exact q_iret X Y h.1 (Nat.le_refl _) (Nat.le_refl _) h.2 dJ1_charAt_3b067_14
-- J0_charAt_5068e
theorem ml_J0_492 : Cond.methodLink RJ0 492 yJ0_isLatin1_aae02 ∈ q_G := q_tb (i := 159) (by decide +kernel) (by decide +kernel)
theorem mt_J0_isLatin1_aae02 : q_Mt yJ0_isLatin1_aae02 cJ0_isLatin1_aae02 1 (some .boolean) 0 := ⟨q_tb (i := 162) (by decide +kernel) (by decide +kernel), q_tb (i := 5) (by decide +kernel) (by decide +kernel), by decide +kernel, by decide +kernel, by decide +kernel⟩
theorem mi_J0_isLatin1_aae02 : Cond.instanceMethod yJ0_isLatin1_aae02 ∈ q_G ∧ Cond.selects yJ0_isLatin1_aae02.cls yJ0_isLatin1_aae02 yJ0_isLatin1_aae02 ∈ q_G := ⟨q_tb (i := 160) (by decide +kernel) (by decide +kernel), q_tb (i := 161) (by decide +kernel) (by decide +kernel)⟩
theorem ml_J0_495 : Cond.methodLink RJ0 495 yJ1_charAt_3b067 ∈ q_G := q_tb (i := 163) (by decide +kernel) (by decide +kernel)
theorem mt_J1_charAt_3b067 : q_Mt yJ1_charAt_3b067 cJ1_charAt_3b067 2 (some .char) 2 := ⟨q_tb (i := 165) (by decide +kernel) (by decide +kernel), q_tb (i := 6) (by decide +kernel) (by decide +kernel), by decide +kernel, by decide +kernel, by decide +kernel⟩
theorem ms_J1_charAt_3b067 : Cond.static yJ1_charAt_3b067 ∈ q_G := q_tb (i := 164) (by decide +kernel) (by decide +kernel)
theorem dJ0_charAt_5068e_0 : decode cJ0_charAt_5068e 0 = .ok (.aload_n 0, 1) := by decide +kernel
theorem dJ0_charAt_5068e_1 : decode cJ0_charAt_5068e 1 = .ok (.invokevirtual 492, 3) := by decide +kernel
theorem dJ0_charAt_5068e_4 : decode cJ0_charAt_5068e 4 = .ok (.ifCond .eq 12, 3) := by decide +kernel
theorem dJ0_charAt_5068e_7 : decode cJ0_charAt_5068e 7 = .ok (.aload_n 0, 1) := by decide +kernel
theorem dJ0_charAt_5068e_8 : decode cJ0_charAt_5068e 8 = .ok (.getfield 9, 3) := by decide +kernel
theorem dJ0_charAt_5068e_11 : decode cJ0_charAt_5068e 11 = .ok (.iload_n 1, 1) := by decide +kernel
theorem dJ0_charAt_5068e_12 : decode cJ0_charAt_5068e 12 = .ok (.invokestatic 495, 3) := by decide +kernel
theorem dJ0_charAt_5068e_15 : decode cJ0_charAt_5068e 15 = .ok (.ireturn, 1) := by decide +kernel
theorem dJ0_charAt_5068e_16 : decode cJ0_charAt_5068e 16 = .ok (.aload_n 0, 1) := by decide +kernel
theorem dJ0_charAt_5068e_17 : decode cJ0_charAt_5068e 17 = .ok (.getfield 9, 3) := by decide +kernel
theorem dJ0_charAt_5068e_20 : decode cJ0_charAt_5068e 20 = .ok (.iload_n 1, 1) := by decide +kernel
def wm_J0_charAt_5068e (S : q_S) (a0 : Nat) (x1 : Int32) (Q : Option Value → q_S → Prop) : Prop := q_K S a0 = 30 ∧ (wm_J0_isLatin1_aae02 S a0 (fun r2_ S3_ => ∃ x4_ : Int32, r2_ = some (.int x4_) ∧ (((x4_ = 0 → (q_K S3_ a0 = 30 ∧ (∀ b7_ : Nat, q_K S3_ b7_ = 31 → q_N S3_ b7_ = q_N S3_ a0 → (False)))) ∧ (¬ x4_ = 0 → (q_K S3_ a0 = 30 ∧ (∀ b11_ : Nat, q_K S3_ b11_ = 31 → q_N S3_ b11_ = q_N S3_ a0 → (wm_J1_charAt_3b067 S3_ (some b11_) x1 (fun r14_ S15_ => ∃ x16_ : Int32, r14_ = some (.int x16_) ∧ ((narrow .char (.int x16_) = .int x16_ ∧ Q (some (.int x16_)) S15_)))))))))))
set_option maxHeartbeats 4000000 in
set_option maxRecDepth 100000 in
theorem cm_J0_charAt_5068e {l : Launch} {D : va_G} {cy : Nat → ClassId} {lo : Nat} {S : q_S} {a0 : Nat} {x1 : Int32} {Q : Option Value → q_S → Prop} (h : wm_J0_charAt_5068e S a0 x1 Q) : q_Met l D cy lo yJ0_charAt_5068e cJ0_charAt_5068e 2 (some .char) 3 64 0 0 [.ref a0, .int x1] S Q := by
  refine q_body (by decide) (by first | exact Nat.le_of_ble_eq_true rfl | simp [lg_sl, q_cat, q_catI, q_catJ, q_catR]) ?_
  intro p e s m below meth c ls X hnm Y hl
  have hx := X.1
  have hb := X.2.1
  have hl : lv_has ls 2 [(0, .ref a0), (1, .int x1)] := by first | exact hl | simpa [lv_args, q_cat, q_catI, q_catJ, q_catR] using hl
  generalize hargs : ([.ref a0, .int x1] : List Value).toArray = args at X ⊢
  unfold wm_J0_charAt_5068e at h
  refine lv_aload_n hx hb dJ0_charAt_5068e_0 rfl (lv_at hl 0 rfl) ?_
  obtain ⟨k1_, h⟩ := h
  refine q_callT X Y hl (cm_J0_isLatin1_aae02 h) mt_J0_isLatin1_aae02 mi_J0_isLatin1_aae02 ml_J0_492 rfl k1_ rfl rfl (by first | exact Nat.le_of_ble_eq_true rfl | simp [q_cat, q_catI, q_catJ, q_catR]) ⟨Nat.le_of_ble_eq_true rfl, Nat.le_of_ble_eq_true rfl⟩ ⟨Nat.le_of_ble_eq_true rfl, Nat.le_of_ble_eq_true rfl⟩ dJ0_charAt_5068e_1 (fun r2_ S3_ H locs hp Y => ?_)
  obtain ⟨x4_, rfl, h⟩ := hp
  refine W.eq (g2 := F0 m 4 ls [.int x4_]) rfl ?_
  refine lv_if_eq (tgt := 16) hx hb dJ0_charAt_5068e_4 (by decide) (fun c5_ => ?_) (fun c5_ => ?_)
  · replace h := h.1 c5_
    refine lv_aload_n hx hb dJ0_charAt_5068e_16 rfl (lv_at hl 0 rfl) ?_
    obtain ⟨k6_, h⟩ := h
    refine q_sval X Y fl_J0_9 k6_ dJ0_charAt_5068e_17 (fun b7_ k8_ k9_ => ?_)
    replace h := h b7_ k8_ k9_
    refine lv_iload_n hx hb dJ0_charAt_5068e_20 rfl (lv_at hl 1 rfl) ?_
    exact h.elim
  · replace h := h.2 c5_
    refine lv_aload_n hx hb dJ0_charAt_5068e_7 rfl (lv_at hl 0 rfl) ?_
    obtain ⟨k10_, h⟩ := h
    refine q_sval X Y fl_J0_9 k10_ dJ0_charAt_5068e_8 (fun b11_ k12_ k13_ => ?_)
    replace h := h b11_ k12_ k13_
    refine lv_iload_n hx hb dJ0_charAt_5068e_11 rfl (lv_at hl 1 rfl) ?_
    refine q_callS X Y hl (cm_J1_charAt_3b067 h) mt_J1_charAt_3b067 ms_J1_charAt_3b067 ml_J0_495 rfl rfl (by first | exact Nat.le_of_ble_eq_true rfl | simp [q_cat, q_catI, q_catJ, q_catR]) ⟨Nat.le_of_ble_eq_true rfl, Nat.le_of_ble_eq_true rfl⟩ ⟨Nat.le_of_ble_eq_true rfl, Nat.le_of_ble_eq_true rfl⟩ dJ0_charAt_5068e_12 (fun r14_ S15_ H locs hp Y => ?_)
    obtain ⟨x16_, rfl, h⟩ := hp
    refine W.eq (g2 := F0 m 15 ls [.int x16_]) rfl ?_
    exact q_iret X Y h.1 (Nat.le_refl _) (Nat.le_refl _) h.2 dJ0_charAt_5068e_15
-- X9_addKeys
theorem ml_X9_42 : Cond.methodLink RX9 42 yJ0_length_8abf5 ∈ q_G := q_tb (i := 145) (by decide +kernel) (by decide +kernel)
theorem mt_J0_length_8abf5 : q_Mt yJ0_length_8abf5 cJ0_length_8abf5 1 (some .int) 0 := ⟨q_tb (i := 148) (by decide +kernel) (by decide +kernel), q_tb (i := 5) (by decide +kernel) (by decide +kernel), by decide +kernel, by decide +kernel, by decide +kernel⟩
theorem mi_J0_length_8abf5 : Cond.instanceMethod yJ0_length_8abf5 ∈ q_G ∧ Cond.selects yJ0_length_8abf5.cls yJ0_length_8abf5 yJ0_length_8abf5 ∈ q_G := ⟨q_tb (i := 146) (by decide +kernel) (by decide +kernel), q_tb (i := 147) (by decide +kernel) (by decide +kernel)⟩
theorem ml_X9_48 : Cond.methodLink RX9 48 yJ0_charAt_5068e ∈ q_G := q_tb (i := 155) (by decide +kernel) (by decide +kernel)
theorem mt_J0_charAt_5068e : q_Mt yJ0_charAt_5068e cJ0_charAt_5068e 2 (some .char) 1 := ⟨q_tb (i := 158) (by decide +kernel) (by decide +kernel), q_tb (i := 5) (by decide +kernel) (by decide +kernel), by decide +kernel, by decide +kernel, by decide +kernel⟩
theorem mi_J0_charAt_5068e : Cond.instanceMethod yJ0_charAt_5068e ∈ q_G ∧ Cond.selects yJ0_charAt_5068e.cls yJ0_charAt_5068e yJ0_charAt_5068e ∈ q_G := ⟨q_tb (i := 156) (by decide +kernel) (by decide +kernel), q_tb (i := 157) (by decide +kernel) (by decide +kernel)⟩
theorem mn_X9_52 : Cond.methodLinkNest RX9 52 yX11_nameDigit "PartitionWorks" ∈ q_Nw := List.mem_filter.mpr ⟨List.mem_of_getElem? (i := 193) (by decide +kernel), rfl⟩
theorem cp_X9_56 : Cond.constantLong RX9 56 (37) ∈ q_G := q_tb (i := 196) (by decide +kernel) (by decide +kernel)
theorem dX9_addKeys_0 : decode cX9_addKeys 0 = .ok (.iload_n 1, 1) := by decide +kernel
theorem dX9_addKeys_1 : decode cX9_addKeys 1 = .ok (.istore_n 3, 1) := by decide +kernel
theorem dX9_addKeys_2 : decode cX9_addKeys 2 = .ok (.iconst 0, 1) := by decide +kernel
theorem dX9_addKeys_3 : decode cX9_addKeys 3 = .ok (.istore 4, 2) := by decide +kernel
theorem dX9_addKeys_5 : decode cX9_addKeys 5 = .ok (.iload 4, 2) := by decide +kernel
theorem dX9_addKeys_7 : decode cX9_addKeys 7 = .ok (.aload_n 2, 1) := by decide +kernel
theorem dX9_addKeys_8 : decode cX9_addKeys 8 = .ok (.invokevirtual 42, 3) := by decide +kernel
theorem dX9_addKeys_11 : decode cX9_addKeys 11 = .ok (.if_icmp .ge 55, 3) := by decide +kernel
theorem dX9_addKeys_14 : decode cX9_addKeys 14 = .ok (.aload_n 2, 1) := by decide +kernel
theorem dX9_addKeys_15 : decode cX9_addKeys 15 = .ok (.iload 4, 2) := by decide +kernel
theorem dX9_addKeys_17 : decode cX9_addKeys 17 = .ok (.invokevirtual 48, 3) := by decide +kernel
theorem dX9_addKeys_20 : decode cX9_addKeys 20 = .ok (.invokestatic 52, 3) := by decide +kernel
theorem dX9_addKeys_23 : decode cX9_addKeys 23 = .ok (.istore 5, 2) := by decide +kernel
theorem dX9_addKeys_25 : decode cX9_addKeys 25 = .ok (.iload 5, 2) := by decide +kernel
theorem dX9_addKeys_27 : decode cX9_addKeys 27 = .ok (.ifCond .ne 9, 3) := by decide +kernel
theorem dX9_addKeys_30 : decode cX9_addKeys 30 = .ok (.iinc 3 1, 3) := by decide +kernel
theorem dX9_addKeys_33 : decode cX9_addKeys 33 = .ok (.goto 27, 3) := by decide +kernel
theorem dX9_addKeys_36 : decode cX9_addKeys 36 = .ok (.iload_n 3, 1) := by decide +kernel
theorem dX9_addKeys_37 : decode cX9_addKeys 37 = .ok (.ifCond .lt 23, 3) := by decide +kernel
theorem dX9_addKeys_40 : decode cX9_addKeys 40 = .ok (.iload_n 3, 1) := by decide +kernel
theorem dX9_addKeys_41 : decode cX9_addKeys 41 = .ok (.aload_n 0, 1) := by decide +kernel
theorem dX9_addKeys_42 : decode cX9_addKeys 42 = .ok (.arraylength, 1) := by decide +kernel
theorem dX9_addKeys_43 : decode cX9_addKeys 43 = .ok (.if_icmp .ge 17, 3) := by decide +kernel
theorem dX9_addKeys_46 : decode cX9_addKeys 46 = .ok (.aload_n 0, 1) := by decide +kernel
theorem dX9_addKeys_47 : decode cX9_addKeys 47 = .ok (.iload_n 3, 1) := by decide +kernel
theorem dX9_addKeys_48 : decode cX9_addKeys 48 = .ok (.aload_n 0, 1) := by decide +kernel
theorem dX9_addKeys_49 : decode cX9_addKeys 49 = .ok (.iload_n 3, 1) := by decide +kernel
theorem dX9_addKeys_50 : decode cX9_addKeys 50 = .ok (.laload, 1) := by decide +kernel
theorem dX9_addKeys_51 : decode cX9_addKeys 51 = .ok (.ldc2_w 56, 3) := by decide +kernel
theorem dX9_addKeys_54 : decode cX9_addKeys 54 = .ok (.lmul, 1) := by decide +kernel
theorem dX9_addKeys_55 : decode cX9_addKeys 55 = .ok (.iload 5, 2) := by decide +kernel
theorem dX9_addKeys_57 : decode cX9_addKeys 57 = .ok (.i2l, 1) := by decide +kernel
theorem dX9_addKeys_58 : decode cX9_addKeys 58 = .ok (.ladd, 1) := by decide +kernel
theorem dX9_addKeys_59 : decode cX9_addKeys 59 = .ok (.lastore, 1) := by decide +kernel
theorem dX9_addKeys_60 : decode cX9_addKeys 60 = .ok (.iinc 4 1, 3) := by decide +kernel
theorem dX9_addKeys_63 : decode cX9_addKeys 63 = .ok (.goto (-58), 3) := by decide +kernel
theorem dX9_addKeys_66 : decode cX9_addKeys 66 = .ok (.return_, 1) := by decide +kernel
def wb_X9_addKeys_60 (B5 : q_S → Option Nat → Option Nat → Int32 → Int32 → Prop) (S : q_S) (r0 : Option Nat) (r2 : Option Nat) (x3 : Int32) (x4 : Int32) (Q : Option Value → q_S → Prop) : Prop := B5 S r0 r2 x3 (x4 + 1)
set_option maxHeartbeats 4000000 in
set_option maxRecDepth 100000 in
theorem cb_X9_addKeys_60 {p : Program} {l : Launch} {e : Env} {s : State} {m : MethodId} {args : Array Value} {below : List Frame} {meth : Method} {c : Code} {D : va_G} {cy : Nat → ClassId} {lo : Nat} {B5 : q_S → Option Nat → Option Nat → Int32 → Int32 → Prop} {S : q_S} {r0 : Option Nat} {r2 : Option Nat} {x3 : Int32} {x4 : Int32} {Q : Option Value → q_S → Prop} {H : Heap} {locs : List Loc} {ls : Array Slot} (X : q_X p s m args meth c RX9 cX9_addKeys 6 none D cy lo) (hB5 : ∀ (S : q_S) (r0 : Option Nat) (r2 : Option Nat) (x3 : Int32) (x4 : Int32) (H : Heap) (locs : List Loc) (ls : Array Slot), B5 S r0 r2 x3 x4 → q_Y D cy lo s S H locs → lv_has ls 6 [(0, va_rf r0), (2, va_rf r2), (3, .int x3), (4, .int x4)] → W p l e ({ frames := 4, cells := 0, slots := 0, locals := 85 } : Room) s m args below meth c H locs 0 0 (MQ below (q_Q D cy lo Q) args s 0 0 (fun q => lo ≤ q)) (F0 m 5 ls [])) (Y : q_Y D cy lo s S H locs) (hl : lv_has ls 6 [(0, va_rf r0), (2, va_rf r2), (3, .int x3), (4, .int x4)]) (h : wb_X9_addKeys_60 B5 S r0 r2 x3 x4 Q) : W p l e ({ frames := 4, cells := 0, slots := 0, locals := 85 } : Room) s m args below meth c H locs 0 0 (MQ below (q_Q D cy lo Q) args s 0 0 (fun q => lo ≤ q)) (F0 m 60 ls []) := by
  have hx := X.1
  have hb := X.2.1
  unfold wb_X9_addKeys_60 at h
  refine lv_iinc (v := (x4 + 1)) (lv' := [(4, .int (x4 + 1)), (0, va_rf r0), (2, va_rf r2), (3, .int x3)]) hx hb dX9_addKeys_60 hl (k := 3) rfl (by first | rfl | decide) (by decide) (by first | rfl | simp [q_cat, q_catI, q_catJ, q_catR]) (fun ls hl => ?_)
  refine lv_goto (tgt := 5) hx hb dX9_addKeys_63 (by decide) ?_
  exact hB5 _ _ _ _ _ _ _ _ h Y (lv_sub hl [1, 2, 3, 0] rfl)
def wb_X9_addKeys_5 (B5 : q_S → Option Nat → Option Nat → Int32 → Int32 → Prop) (S : q_S) (r0 : Option Nat) (r2 : Option Nat) (x3 : Int32) (x4 : Int32) (Q : Option Value → q_S → Prop) : Prop := ∃ a1_ : Nat, r2 = some a1_ ∧ (q_K S a1_ = 30 ∧ (wm_J0_length_8abf5 S a1_ (fun r4_ S5_ => ∃ x6_ : Int32, r4_ = some (.int x6_) ∧ (((x6_ ≤ x4 → (Q none S5_)) ∧ (¬ x6_ ≤ x4 → (q_K S5_ a1_ = 30 ∧ (wm_J0_charAt_5068e S5_ a1_ x4 (fun r9_ S10_ => ∃ x11_ : Int32, r9_ = some (.int x11_) ∧ (wm_X11_nameDigit S10_ x11_ (fun r12_ S13_ => ∃ x14_ : Int32, r12_ = some (.int x14_) ∧ (((¬ x14_ = 0 → (((x3 < 0 → (wb_X9_addKeys_60 B5 S13_ r0 r2 x3 x4 Q)) ∧ (¬ x3 < 0 → (∃ a17_ : Nat, r0 = some a17_ ∧ (q_K S13_ a17_ = 23 ∧ ((((nI (q_N S13_ a17_)) ≤ x3 → (wb_X9_addKeys_60 B5 S13_ r0 r2 x3 x4 Q)) ∧ (¬ (nI (q_N S13_ a17_)) ≤ x3 → (vp_in x3 (q_N S13_ a17_) ∧ (vp_in x3 (q_N S13_ a17_) ∧ (wb_X9_addKeys_60 B5 (qs_B S13_ a17_ x3.toNatClampNeg (((q_B S13_ a17_ x3.toNatClampNeg) * (37 : Int64)) + (x14_.toInt64))) r0 r2 x3 x4 Q)))))))))))) ∧ (x14_ = 0 → (wb_X9_addKeys_60 B5 S13_ r0 r2 (x3 + 1) x4 Q)))))))))))))))
set_option maxHeartbeats 4000000 in
set_option maxRecDepth 100000 in
theorem cb_X9_addKeys_5 {p : Program} {l : Launch} {e : Env} {s : State} {m : MethodId} {args : Array Value} {below : List Frame} {meth : Method} {c : Code} {D : va_G} {cy : Nat → ClassId} {lo : Nat} {B5 : q_S → Option Nat → Option Nat → Int32 → Int32 → Prop} {S : q_S} {r0 : Option Nat} {r2 : Option Nat} {x3 : Int32} {x4 : Int32} {Q : Option Value → q_S → Prop} {H : Heap} {locs : List Loc} {ls : Array Slot} (X : q_X p s m args meth c RX9 cX9_addKeys 6 none D cy lo) (hB5 : ∀ (S : q_S) (r0 : Option Nat) (r2 : Option Nat) (x3 : Int32) (x4 : Int32) (H : Heap) (locs : List Loc) (ls : Array Slot), B5 S r0 r2 x3 x4 → q_Y D cy lo s S H locs → lv_has ls 6 [(0, va_rf r0), (2, va_rf r2), (3, .int x3), (4, .int x4)] → W p l e ({ frames := 4, cells := 0, slots := 0, locals := 85 } : Room) s m args below meth c H locs 0 0 (MQ below (q_Q D cy lo Q) args s 0 0 (fun q => lo ≤ q)) (F0 m 5 ls [])) (Y : q_Y D cy lo s S H locs) (hl : lv_has ls 6 [(0, va_rf r0), (2, va_rf r2), (3, .int x3), (4, .int x4)]) (h : wb_X9_addKeys_5 B5 S r0 r2 x3 x4 Q) : W p l e ({ frames := 4, cells := 0, slots := 0, locals := 85 } : Room) s m args below meth c H locs 0 0 (MQ below (q_Q D cy lo Q) args s 0 0 (fun q => lo ≤ q)) (F0 m 5 ls []) := by
  have hx := X.1
  have hb := X.2.1
  unfold wb_X9_addKeys_5 at h
  refine lv_iload hx hb dX9_addKeys_5 (lv_at hl 3 rfl) ?_
  refine q_aload_n hx hb dX9_addKeys_7 rfl (lv_at hl 1 rfl) ?_
  obtain ⟨a1_, e2_, h⟩ := h
  refine q_nn [] e2_ ?_
  obtain ⟨k3_, h⟩ := h
  refine q_callT X Y hl (cm_J0_length_8abf5 h) mt_J0_length_8abf5 mi_J0_length_8abf5 ml_X9_42 rfl k3_ rfl rfl (by first | exact Nat.le_of_ble_eq_true rfl | simp [q_cat, q_catI, q_catJ, q_catR]) ⟨Nat.le_of_ble_eq_true rfl, Nat.le_of_ble_eq_true rfl⟩ ⟨Nat.le_of_ble_eq_true rfl, Nat.le_of_ble_eq_true rfl⟩ dX9_addKeys_8 (fun r4_ S5_ H locs hp Y => ?_)
  obtain ⟨x6_, rfl, h⟩ := hp
  refine W.eq (g2 := F0 m 11 ls [.int x6_, .int x4]) rfl ?_
  refine lv_icmp_ge (tgt := 66) hx hb dX9_addKeys_11 (by decide) (fun c7_ => ?_) (fun c7_ => ?_)
  · replace h := h.1 c7_
    exact q_vret X Y (Nat.le_refl _) (Nat.le_refl _) h dX9_addKeys_66
  · replace h := h.2 c7_
    refine q_aload_n hx hb dX9_addKeys_14 rfl (lv_at hl 1 rfl) ?_
    refine lv_iload hx hb dX9_addKeys_15 (lv_at hl 3 rfl) ?_
    refine q_nn [.int x4] e2_ ?_
    obtain ⟨k8_, h⟩ := h
    refine q_callT X Y hl (cm_J0_charAt_5068e h) mt_J0_charAt_5068e mi_J0_charAt_5068e ml_X9_48 rfl k8_ rfl rfl (by first | exact Nat.le_of_ble_eq_true rfl | simp [q_cat, q_catI, q_catJ, q_catR]) ⟨Nat.le_of_ble_eq_true rfl, Nat.le_of_ble_eq_true rfl⟩ ⟨Nat.le_of_ble_eq_true rfl, Nat.le_of_ble_eq_true rfl⟩ dX9_addKeys_17 (fun r9_ S10_ H locs hp Y => ?_)
    obtain ⟨x11_, rfl, h⟩ := hp
    refine W.eq (g2 := F0 m 20 ls [.int x11_]) rfl ?_
    refine q_callSN X Y hl (cm_X11_nameDigit h) mt_X11_nameDigit ms_X11_nameDigit mn_X9_52 rfl rfl (by first | exact Nat.le_of_ble_eq_true rfl | simp [q_cat, q_catI, q_catJ, q_catR]) ⟨Nat.le_of_ble_eq_true rfl, Nat.le_of_ble_eq_true rfl⟩ ⟨Nat.le_of_ble_eq_true rfl, Nat.le_of_ble_eq_true rfl⟩ dX9_addKeys_20 (fun r12_ S13_ H locs hp Y => ?_)
    obtain ⟨x14_, rfl, h⟩ := hp
    refine W.eq (g2 := F0 m 23 ls [.int x14_]) rfl ?_
    refine lv_istore (i := 5) (lv' := [(5, .int x14_), (0, va_rf r0), (2, va_rf r2), (3, .int x3), (4, .int x4)]) hx hb dX9_addKeys_23 hl (by decide) (by first | rfl | simp [q_cat, q_catI, q_catJ, q_catR]) (fun ls hl => ?_)
    refine lv_iload hx hb dX9_addKeys_25 (lv_at hl 0 rfl) ?_
    refine lv_if_ne (tgt := 36) hx hb dX9_addKeys_27 (by decide) (fun c15_ => ?_) (fun c15_ => ?_)
    · replace h := h.1 c15_
      refine lv_iload_n hx hb dX9_addKeys_36 rfl (lv_at hl 3 rfl) ?_
      refine lv_if_lt (tgt := 60) hx hb dX9_addKeys_37 (by decide) (fun c16_ => ?_) (fun c16_ => ?_)
      · replace h := h.1 c16_
        exact cb_X9_addKeys_60 X hB5 Y (lv_sub hl [1, 2, 3, 4] rfl) h
      · replace h := h.2 c16_
        refine lv_iload_n hx hb dX9_addKeys_40 rfl (lv_at hl 3 rfl) ?_
        refine q_aload_n hx hb dX9_addKeys_41 rfl (lv_at hl 1 rfl) ?_
        obtain ⟨a17_, e18_, h⟩ := h
        refine q_nn [] e18_ ?_
        obtain ⟨k19_, h⟩ := h
        refine q_alen X Y k19_ (by decide) (t := 3) rfl dX9_addKeys_42 ?_
        refine lv_icmp_ge (tgt := 60) hx hb dX9_addKeys_43 (by decide) (fun c20_ => ?_) (fun c20_ => ?_)
        · replace h := h.1 c20_
          exact cb_X9_addKeys_60 X hB5 Y (lv_sub hl [1, 2, 3, 4] rfl) h
        · replace h := h.2 c20_
          refine q_aload_n hx hb dX9_addKeys_46 rfl (lv_at hl 1 rfl) ?_
          refine lv_iload_n hx hb dX9_addKeys_47 rfl (lv_at hl 3 rfl) ?_
          refine q_aload_n hx hb dX9_addKeys_48 rfl (lv_at hl 1 rfl) ?_
          refine lv_iload_n hx hb dX9_addKeys_49 rfl (lv_at hl 3 rfl) ?_
          refine q_nn [.int x3] e18_ ?_
          obtain ⟨i21_, h⟩ := h
          refine q_lld X Y k19_ i21_ dX9_addKeys_50 ?_
          refine lv_ldc2 (v := 37) hx hb X.2.2.2.1 (X.2.2.2.2.1 _ cp_X9_56) dX9_addKeys_51 ?_
          refine lv_lmul hx hb dX9_addKeys_54 ?_
          refine lv_iload hx hb dX9_addKeys_55 (lv_at hl 0 rfl) ?_
          refine lv_i2l hx hb dX9_addKeys_57 rfl ?_
          refine lv_ladd hx hb dX9_addKeys_58 ?_
          refine q_nn [.long (((q_B S13_ a17_ x3.toNatClampNeg) * (37 : Int64)) + (x14_.toInt64)), .int x3] e18_ ?_
          obtain ⟨i22_, h⟩ := h
          refine q_lst X Y k19_ i22_ dX9_addKeys_59 (fun H locs Y => ?_)
          exact cb_X9_addKeys_60 X hB5 Y (lv_sub hl [1, 2, 3, 4] rfl) h
    · replace h := h.2 c15_
      refine lv_iinc (v := (x3 + 1)) (lv' := [(3, .int (x3 + 1)), (5, .int x14_), (0, va_rf r0), (2, va_rf r2), (4, .int x4)]) hx hb dX9_addKeys_30 hl (k := 3) rfl (by first | rfl | decide) (by decide) (by first | rfl | simp [q_cat, q_catI, q_catJ, q_catR]) (fun ls hl => ?_)
      refine lv_goto (tgt := 60) hx hb dX9_addKeys_33 (by decide) ?_
      exact cb_X9_addKeys_60 X hB5 Y (lv_sub hl [2, 3, 0, 4] rfl) h
def wl_X9_addKeys_5  : Nat → q_S → Option Nat → Option Nat → Int32 → Int32 → (Option Value → q_S → Prop) → Prop
  | 0, _, _, _, _, _, _ => False
  | n + 1, S, r0, r2, x3, x4, Q => wb_X9_addKeys_5 (fun S r0 r2 x3 x4 => wl_X9_addKeys_5 n S r0 r2 x3 x4 Q) S r0 r2 x3 x4 Q
set_option maxHeartbeats 4000000 in
set_option maxRecDepth 100000 in
theorem cl_X9_addKeys_5 {p : Program} {l : Launch} {e : Env} {s : State} {m : MethodId} {args : Array Value} {below : List Frame} {meth : Method} {c : Code} {D : va_G} {cy : Nat → ClassId} {lo : Nat}  {Q : Option Value → q_S → Prop} (X : q_X p s m args meth c RX9 cX9_addKeys 6 none D cy lo)  : ∀ (n : Nat) (S : q_S) (r0 : Option Nat) (r2 : Option Nat) (x3 : Int32) (x4 : Int32) (H : Heap) (locs : List Loc) (ls : Array Slot), wl_X9_addKeys_5 n S r0 r2 x3 x4 Q → q_Y D cy lo s S H locs → lv_has ls 6 [(0, va_rf r0), (2, va_rf r2), (3, .int x3), (4, .int x4)] → W p l e ({ frames := 4, cells := 0, slots := 0, locals := 85 } : Room) s m args below meth c H locs 0 0 (MQ below (q_Q D cy lo Q) args s 0 0 (fun q => lo ≤ q)) (F0 m 5 ls []) := by
  intro n
  induction n with
  | zero => intro S r0 r2 x3 x4 H locs ls h; exact absurd h id
  | succ n ih => intro S r0 r2 x3 x4 H locs ls h Y hl; exact cb_X9_addKeys_5 X ih Y hl h
def wm_X9_addKeys (S : q_S) (r0 : Option Nat) (x1 : Int32) (r2 : Option Nat) (Q : Option Value → q_S → Prop) : Prop := ∃ n23_ : Nat, wl_X9_addKeys_5 n23_ S r0 r2 x1 (0 : Int32) Q
set_option maxHeartbeats 4000000 in
set_option maxRecDepth 100000 in
theorem cm_X9_addKeys {l : Launch} {D : va_G} {cy : Nat → ClassId} {lo : Nat} {S : q_S} {r0 : Option Nat} {x1 : Int32} {r2 : Option Nat} {Q : Option Value → q_S → Prop} (h : wm_X9_addKeys S r0 x1 r2 Q) : q_Met l D cy lo yX9_addKeys cX9_addKeys 6 none 4 85 0 0 [va_rf r0, .int x1, va_rf r2] S Q := by
  refine q_body (by decide) (by first | exact Nat.le_of_ble_eq_true rfl | simp [lg_sl, q_cat, q_catI, q_catJ, q_catR]) ?_
  intro p e s m below meth c ls X hnm Y hl
  have hx := X.1
  have hb := X.2.1
  have hl : lv_has ls 6 [(0, va_rf r0), (1, .int x1), (2, va_rf r2)] := by first | exact hl | simpa [lv_args, q_cat, q_catI, q_catJ, q_catR] using hl
  generalize hargs : ([va_rf r0, .int x1, va_rf r2] : List Value).toArray = args at X ⊢
  unfold wm_X9_addKeys at h
  refine lv_iload_n hx hb dX9_addKeys_0 rfl (lv_at hl 1 rfl) ?_
  refine lv_istore_n (i := 3) (lv' := [(3, .int x1), (0, va_rf r0), (1, .int x1), (2, va_rf r2)]) hx hb dX9_addKeys_1 rfl hl (by decide) (by first | rfl | simp [q_cat, q_catI, q_catJ, q_catR]) (fun ls hl => ?_)
  refine lv_iconst (v := 0) hx hb dX9_addKeys_2 (by decide) ?_
  refine lv_istore (i := 4) (lv' := [(4, .int (0 : Int32)), (3, .int x1), (0, va_rf r0), (1, .int x1), (2, va_rf r2)]) hx hb dX9_addKeys_3 hl (by decide) (by first | rfl | simp [q_cat, q_catI, q_catJ, q_catR]) (fun ls hl => ?_)
  obtain ⟨n23_, h⟩ := h
  exact cl_X9_addKeys_5 X n23_ _ _ _ _ _ _ _ _ h Y (lv_sub hl [2, 4, 1, 0] rfl)
-- X9_allKeys
theorem ar_long : Cond.arrayClass .long ∈ q_G := q_tb (i := 246) (by decide +kernel) (by decide +kernel)
theorem ml_X9_36 : Cond.methodLink RX9 36 yX9_addKeys ∈ q_G := q_tb (i := 142) (by decide +kernel) (by decide +kernel)
theorem mt_X9_addKeys : q_Mt yX9_addKeys cX9_addKeys 6 none 3 := ⟨q_tb (i := 144) (by decide +kernel) (by decide +kernel), q_tb (i := 2) (by decide +kernel) (by decide +kernel), by decide +kernel, by decide +kernel, by decide +kernel⟩
theorem ms_X9_addKeys : Cond.static yX9_addKeys ∈ q_G := q_tb (i := 143) (by decide +kernel) (by decide +kernel)
theorem dX9_allKeys_0 : decode cX9_allKeys 0 = .ok (.bipush 41, 2) := by decide +kernel
theorem dX9_allKeys_2 : decode cX9_allKeys 2 = .ok (.newarray .long, 2) := by decide +kernel
theorem dX9_allKeys_4 : decode cX9_allKeys 4 = .ok (.astore_n 0, 1) := by decide +kernel
theorem dX9_allKeys_5 : decode cX9_allKeys 5 = .ok (.aload_n 0, 1) := by decide +kernel
theorem dX9_allKeys_6 : decode cX9_allKeys 6 = .ok (.iconst 0, 1) := by decide +kernel
theorem dX9_allKeys_7 : decode cX9_allKeys 7 = .ok (.ldc 34, 2) := by decide +kernel
theorem dX9_allKeys_9 : decode cX9_allKeys 9 = .ok (.invokestatic 36, 3) := by decide +kernel
theorem dX9_allKeys_12 : decode cX9_allKeys 12 = .ok (.aload_n 0, 1) := by decide +kernel
theorem dX9_allKeys_13 : decode cX9_allKeys 13 = .ok (.bipush 30, 2) := by decide +kernel
theorem dX9_allKeys_15 : decode cX9_allKeys 15 = .ok (.ldc 40, 2) := by decide +kernel
theorem dX9_allKeys_17 : decode cX9_allKeys 17 = .ok (.invokestatic 36, 3) := by decide +kernel
theorem dX9_allKeys_20 : decode cX9_allKeys 20 = .ok (.aload_n 0, 1) := by decide +kernel
theorem dX9_allKeys_21 : decode cX9_allKeys 21 = .ok (.areturn, 1) := by decide +kernel
def wm_X9_allKeys (bc bs : Nat) (S : q_S) (Q : Option Value → q_S → Prop) : Prop := (0 + 1 ≤ bc ∧ 0 + 41 ≤ bs) ∧ (∀ b1_ : Nat, q_K S b1_ = 0 → (∀ b6_ : Nat, q_K (qs_R S 23 41 b1_) b6_ = 30 → q_N (qs_R S 23 41 b1_) b6_ = 0 → (wm_X9_addKeys (qs_R S 23 41 b1_) (some b1_) (0 : Int32) (some b6_) (fun r9_ S10_ => r9_ = none ∧ (∀ b11_ : Nat, q_K S10_ b11_ = 30 → q_N S10_ b11_ = 1 → (wm_X9_addKeys S10_ (some b1_) (30 : Int32) (some b11_) (fun r14_ S15_ => r14_ = none ∧ (Q (some (.ref b1_)) S15_))))))))
set_option maxHeartbeats 4000000 in
set_option maxRecDepth 100000 in
theorem cm_X9_allKeys {l : Launch} {D : va_G} {cy : Nat → ClassId} {lo : Nat} {bc bs : Nat} {S : q_S} {Q : Option Value → q_S → Prop} (h : wm_X9_allKeys bc bs S Q) : q_Met l D cy lo yX9_allKeys cX9_allKeys 1 (some (.array .long)) 5 110 bc bs [] S Q := by
  refine q_body (by decide) (by first | exact Nat.le_of_ble_eq_true rfl | simp [lg_sl, q_cat, q_catI, q_catJ, q_catR]) ?_
  intro p e s m below meth c ls X hnm Y hl
  have hx := X.1
  have hb := X.2.1
  have hl : lv_has ls 1 [] := by first | exact hl | simpa [lv_args, q_cat, q_catI, q_catJ, q_catR] using hl
  generalize hargs : ([] : List Value).toArray = args at X ⊢
  have hu : 0 ≤ bc ∧ 0 ≤ bs := ⟨Nat.zero_le _, Nat.zero_le _⟩
  unfold wm_X9_allKeys at h
  refine lv_bipush (v := 41) hx hb dX9_allKeys_0 (by decide) ?_
  obtain ⟨w4_, h⟩ := h
  refine q_newa X Y (k := 23) (t := 3) (n := 41) (ty := .long) rfl (by decide) rfl (fun _ _ => rfl) (by first | exact rfl | decide | simp [defaultValue]) ar_long (by decide) (by decide) (by decide) w4_ dX9_allKeys_2 (fun b1_ H h2_ h3_ Y => ?_)
  replace h := h b1_ h2_
  replace hu := w4_
  have k5_ : q_K (qs_R S 23 41 b1_) b1_ = 23 := qs_R_Ks
  refine lv_astore_n (i := 0) (lv' := [(0, .ref b1_)]) hx hb dX9_allKeys_4 rfl hl (by decide) (by first | rfl | simp [q_cat, q_catI, q_catJ, q_catR]) (fun ls hl => ?_)
  refine lv_aload_n hx hb dX9_allKeys_5 rfl (lv_at hl 0 rfl) ?_
  refine lv_iconst (v := 0) hx hb dX9_allKeys_6 (by decide) ?_
  refine q_ldcs X Y 0 rfl (by decide) dX9_allKeys_7 (fun b6_ k7_ k8_ => ?_)
  replace h := h b6_ k7_ k8_
  refine q_callS X Y hl (cm_X9_addKeys h) mt_X9_addKeys ms_X9_addKeys ml_X9_36 rfl rfl (by first | exact Nat.le_of_ble_eq_true rfl | simp [q_cat, q_catI, q_catJ, q_catR]) ⟨Nat.le_of_ble_eq_true rfl, Nat.le_of_ble_eq_true rfl⟩ hu dX9_allKeys_9 (fun r9_ S10_ H locs hp Y => ?_)
  obtain ⟨rfl, h⟩ := hp
  refine W.eq (g2 := F0 m 12 ls []) rfl ?_
  refine lv_aload_n hx hb dX9_allKeys_12 rfl (lv_at hl 0 rfl) ?_
  refine lv_bipush (v := 30) hx hb dX9_allKeys_13 (by decide) ?_
  refine q_ldcs X Y 1 rfl (by decide) dX9_allKeys_15 (fun b11_ k12_ k13_ => ?_)
  replace h := h b11_ k12_ k13_
  refine q_callS X Y hl (cm_X9_addKeys h) mt_X9_addKeys ms_X9_addKeys ml_X9_36 rfl rfl (by first | exact Nat.le_of_ble_eq_true rfl | simp [q_cat, q_catI, q_catJ, q_catR]) ⟨Nat.le_of_ble_eq_true rfl, Nat.le_of_ble_eq_true rfl⟩ hu dX9_allKeys_17 (fun r14_ S15_ H locs hp Y => ?_)
  obtain ⟨rfl, h⟩ := hp
  refine W.eq (g2 := F0 m 20 ls []) rfl ?_
  refine lv_aload_n hx hb dX9_allKeys_20 rfl (lv_at hl 0 rfl) ?_
  exact q_aret X Y (Or.inr ⟨_, rfl⟩) (Or.inr ⟨_, rfl⟩) hu.1 hu.2 h dX9_allKeys_21
-- X9_init
theorem ml_X9_3 : Cond.methodLink RX9 3 Lib.objectInit ∈ q_G := q_tb (i := 42) (by decide +kernel) (by decide +kernel)
theorem cl_X9_9 : Cond.classLink RX9 9 RX6 ∈ q_G := q_tb (i := 43) (by decide +kernel) (by decide +kernel)
theorem ib_X6 : Cond.instantiable RX6 15 ∈ q_G := q_tb (i := 44) (by decide +kernel) (by decide +kernel)
theorem in_X6 : Cond.initialized RX6 ∈ q_G := q_tb (i := 3) (by decide +kernel) (by decide +kernel)
theorem dv_X6 : ∀ k, k < 15 → defaultValue (tyX6 k) = vp_V ((q_F 6).map (fun q => q_dv q.1)) k := by decide +kernel
theorem mn_X9_11 : Cond.methodLinkNest RX9 11 yX6_init "PartitionWorks" ∈ q_Nw := List.mem_filter.mpr ⟨List.mem_of_getElem? (i := 45) (by decide +kernel), rfl⟩
theorem mt_X6_init : q_Mt yX6_init cX6_init 1 none 0 := ⟨q_tb (i := 47) (by decide +kernel) (by decide +kernel), q_tb (i := 3) (by decide +kernel) (by decide +kernel), by decide +kernel, by decide +kernel, by decide +kernel⟩
theorem mj_X6_init : Cond.instanceMethod yX6_init ∈ q_G := q_tb (i := 46) (by decide +kernel) (by decide +kernel)
theorem fl_X9_12 : Cond.fieldLink RX9 12 "PartitionWorks$Reader" "plan" "LPartitionWorks$Plan;" ∈ q_G := q_tb (i := 198) (by decide +kernel) (by decide +kernel)
theorem ar_byte : Cond.arrayClass .byte ∈ q_G := q_tb (i := 245) (by decide +kernel) (by decide +kernel)
theorem fl_X9_18 : Cond.fieldLink RX9 18 "PartitionWorks$Reader" "text" "[B" ∈ q_G := q_tb (i := 201) (by decide +kernel) (by decide +kernel)
theorem fl_X9_22 : Cond.fieldLink RX9 22 "PartitionWorks$Reader" "faultPlace" "I" ∈ q_G := q_tb (i := 206) (by decide +kernel) (by decide +kernel)
theorem ml_X9_26 : Cond.methodLink RX9 26 yX9_allKeys ∈ q_G := q_tb (i := 138) (by decide +kernel) (by decide +kernel)
theorem mt_X9_allKeys : q_Mt yX9_allKeys cX9_allKeys 1 (some (.array .long)) 0 := ⟨q_tb (i := 140) (by decide +kernel) (by decide +kernel), q_tb (i := 2) (by decide +kernel) (by decide +kernel), by decide +kernel, by decide +kernel, by decide +kernel⟩
theorem ms_X9_allKeys : Cond.static yX9_allKeys ∈ q_G := q_tb (i := 139) (by decide +kernel) (by decide +kernel)
theorem fl_X9_30 : Cond.fieldLink RX9 30 "PartitionWorks$Reader" "keys" "[J" ∈ q_G := q_tb (i := 200) (by decide +kernel) (by decide +kernel)
theorem dX9_init_0 : decode cX9_init 0 = .ok (.aload_n 0, 1) := by decide +kernel
theorem dX9_init_1 : decode cX9_init 1 = .ok (.invokespecial 3, 3) := by decide +kernel
theorem dX9_init_4 : decode cX9_init 4 = .ok (.aload_n 0, 1) := by decide +kernel
theorem dX9_init_5 : decode cX9_init 5 = .ok (.new 9, 3) := by decide +kernel
theorem dX9_init_8 : decode cX9_init 8 = .ok (.dup, 1) := by decide +kernel
theorem dX9_init_9 : decode cX9_init 9 = .ok (.invokespecial 11, 3) := by decide +kernel
theorem dX9_init_12 : decode cX9_init 12 = .ok (.putfield 12, 3) := by decide +kernel
theorem dX9_init_15 : decode cX9_init 15 = .ok (.aload_n 0, 1) := by decide +kernel
theorem dX9_init_16 : decode cX9_init 16 = .ok (.sipush 4000, 3) := by decide +kernel
theorem dX9_init_19 : decode cX9_init 19 = .ok (.newarray .byte, 2) := by decide +kernel
theorem dX9_init_21 : decode cX9_init 21 = .ok (.putfield 18, 3) := by decide +kernel
theorem dX9_init_24 : decode cX9_init 24 = .ok (.aload_n 0, 1) := by decide +kernel
theorem dX9_init_25 : decode cX9_init 25 = .ok (.iconst (-1), 1) := by decide +kernel
theorem dX9_init_26 : decode cX9_init 26 = .ok (.putfield 22, 3) := by decide +kernel
theorem dX9_init_29 : decode cX9_init 29 = .ok (.aload_n 0, 1) := by decide +kernel
theorem dX9_init_30 : decode cX9_init 30 = .ok (.invokestatic 26, 3) := by decide +kernel
theorem dX9_init_33 : decode cX9_init 33 = .ok (.putfield 30, 3) := by decide +kernel
theorem dX9_init_36 : decode cX9_init 36 = .ok (.return_, 1) := by decide +kernel
def wm_X9_init (bc bs : Nat) (S : q_S) (a0 : Nat) (Q : Option Value → q_S → Prop) : Prop := (0 + 1 ≤ bc ∧ 0 + 15 ≤ bs) ∧ (∀ b1_ : Nat, q_K S b1_ = 0 → (∃ m8_ m9_ : Nat, ((0 + 1) + m8_ ≤ bc ∧ (0 + 15) + m9_ ≤ bs) ∧ (wm_X6_init m8_ m9_ (qs_O S 6 b1_) b1_ (fun r6_ S7_ => r6_ = none ∧ (q_K S7_ a0 = 10 ∧ ((((0 + 1) + m8_) + 1 ≤ bc ∧ ((0 + 15) + m9_) + 4000 ≤ bs) ∧ (∀ b12_ : Nat, q_K (qs_P S7_ 1800 a0 (some b1_)) b12_ = 0 → (∀ S17_ : q_S, S17_ = (qs_P (qs_R (qs_P S7_ 1800 a0 (some b1_)) 20 4000 b12_) 1802 a0 (some b12_)) → (∃ m20_ m21_ : Nat, ((((0 + 1) + m8_) + 1) + m20_ ≤ bc ∧ (((0 + 15) + m9_) + 4000) + m21_ ≤ bs) ∧ (wm_X9_allKeys m20_ m21_ (qs_I S17_ 1805 a0 (-1 : Int32)) (fun r18_ S19_ => ∃ r23_ : Option Nat, r18_ = some (va_rf r23_) ∧ (q_K S19_ a0 = 10 ∧ (Q none (qs_P S19_ 1801 a0 r23_))))))))))))))
set_option maxHeartbeats 4000000 in
set_option maxRecDepth 100000 in
theorem cm_X9_init {l : Launch} {D : va_G} {cy : Nat → ClassId} {lo : Nat} {bc bs : Nat} {S : q_S} {a0 : Nat} {Q : Option Value → q_S → Prop} (h : wm_X9_init bc bs S a0 Q) : q_Met l D cy lo yX9_init cX9_init 1 none 6 130 bc bs [.ref a0] S Q := by
  refine q_body (by decide) (by first | exact Nat.le_of_ble_eq_true rfl | simp [lg_sl, q_cat, q_catI, q_catJ, q_catR]) ?_
  intro p e s m below meth c ls X hnm Y hl
  have hx := X.1
  have hb := X.2.1
  have hl : lv_has ls 1 [(0, .ref a0)] := by first | exact hl | simpa [lv_args, q_cat, q_catI, q_catJ, q_catR] using hl
  generalize hargs : ([.ref a0] : List Value).toArray = args at X ⊢
  have hu : 0 ≤ bc ∧ 0 ≤ bs := ⟨Nat.zero_le _, Nat.zero_le _⟩
  unfold wm_X9_init at h
  refine lv_aload_n hx hb dX9_init_0 rfl (lv_at hl 0 rfl) ?_
  refine q_obj X hl ml_X9_3 oi_ oc_ ⟨Nat.le_of_ble_eq_true rfl, (by first | exact Nat.le_of_ble_eq_true rfl | simp [q_cat, q_catI, q_catJ, q_catR])⟩ dX9_init_1 ?_
  refine lv_aload_n hx hb dX9_init_4 rfl (lv_at hl 0 rfl) ?_
  obtain ⟨w4_, h⟩ := h
  refine q_new X Y kX6 tyX6 tyX6_ok dv_X6 cl_X9_9 ib_X6 in_X6 w4_ dX9_init_5 (fun b1_ H h2_ h3_ Y => ?_)
  replace h := h b1_ h2_
  replace hu := w4_
  have k5_ : q_K (qs_O S 6 b1_) b1_ = 7 := qs_O_Ks
  refine lv_dup hx hb dX9_init_8 rfl ?_
  obtain ⟨m8_, m9_, w10_, h⟩ := h
  refine q_callN X Y hl (cm_X6_init h) mt_X6_init mj_X6_init rfl mn_X9_11 rfl rfl (by first | exact Nat.le_of_ble_eq_true rfl | simp [q_cat, q_catI, q_catJ, q_catR]) ⟨Nat.le_of_ble_eq_true rfl, Nat.le_of_ble_eq_true rfl⟩ w10_ dX9_init_9 (fun r6_ S7_ H locs hp Y => ?_)
  obtain ⟨rfl, h⟩ := hp
  replace hu := w10_
  refine W.eq (g2 := F0 m 12 ls [.ref b1_, .ref a0]) rfl ?_
  obtain ⟨k11_, h⟩ := h
  refine q_putP X Y (some b1_) rfl kX9 0 rfl fl_X9_12 k11_ _ rfl (Or.inl ⟨_, rfl⟩) (Or.inr ⟨rfl, hnm, rfl⟩) dX9_init_12 (fun H locs Y => ?_)
  refine lv_aload_n hx hb dX9_init_15 rfl (lv_at hl 0 rfl) ?_
  refine lv_sipush (v := 4000) hx hb dX9_init_16 (by decide) ?_
  obtain ⟨w15_, h⟩ := h
  refine q_newa X Y (k := 20) (t := 0) (n := 4000) (ty := .byte) rfl (by decide) rfl (fun _ _ => rfl) (by first | exact rfl | decide | simp [defaultValue]) ar_byte (by decide) (by decide) (by decide) w15_ dX9_init_19 (fun b12_ H h13_ h14_ Y => ?_)
  replace h := h b12_ h13_
  replace hu := w15_
  replace k11_ := qs_R_keep (j := 20) (n := 4000) h13_ k11_ (by decide)
  have k16_ : q_K (qs_R (qs_P S7_ 1800 a0 (some b1_)) 20 4000 b12_) b12_ = 20 := qs_R_Ks
  refine q_putP X Y (some b12_) rfl kX9 2 rfl fl_X9_18 k11_ _ rfl (Or.inr ⟨_, rfl⟩) (Or.inr ⟨rfl, hnm, rfl⟩) dX9_init_21 (fun H locs Y => ?_)
  obtain ⟨S17_, gS17_⟩ : ∃ z : q_S, z = (qs_P (qs_R (qs_P S7_ 1800 a0 (some b1_)) 20 4000 b12_) 1802 a0 (some b12_)) := ⟨_, rfl⟩
  replace Y : q_Y D cy lo s S17_ H locs := by rw [gS17_]; exact Y
  replace h := h S17_ gS17_
  replace k11_ : q_K S17_ a0 = 10 := by rw [gS17_]; exact k11_
  replace k16_ : q_K S17_ b12_ = 20 := by rw [gS17_]; exact k16_
  refine lv_aload_n hx hb dX9_init_24 rfl (lv_at hl 0 rfl) ?_
  refine lv_iconst (v := (-1)) hx hb dX9_init_25 (by decide) ?_
  refine q_putI X Y kX9 5 rfl fl_X9_22 k11_ .int rfl ⟨rfl, rfl⟩ rfl dX9_init_26 (fun H locs Y => ?_)
  refine lv_aload_n hx hb dX9_init_29 rfl (lv_at hl 0 rfl) ?_
  obtain ⟨m20_, m21_, w22_, h⟩ := h
  refine q_callS X Y hl (cm_X9_allKeys h) mt_X9_allKeys ms_X9_allKeys ml_X9_26 rfl rfl (by first | exact Nat.le_of_ble_eq_true rfl | simp [q_cat, q_catI, q_catJ, q_catR]) ⟨Nat.le_of_ble_eq_true rfl, Nat.le_of_ble_eq_true rfl⟩ w22_ dX9_init_30 (fun r18_ S19_ H locs hp Y => ?_)
  obtain ⟨r23_, rfl, h⟩ := hp
  replace hu := w22_
  refine W.eq (g2 := F0 m 33 ls [va_rf r23_, .ref a0]) rfl ?_
  obtain ⟨k24_, h⟩ := h
  refine q_putP X Y r23_ rfl kX9 1 rfl fl_X9_30 k24_ _ rfl (Or.inr ⟨_, rfl⟩) (Or.inr ⟨rfl, hnm, rfl⟩) dX9_init_33 (fun H locs Y => ?_)
  exact q_vret X Y hu.1 hu.2 h dX9_init_36
-- X9_takeIn
theorem fl_X9_58 : Cond.fieldLink RX9 58 "PartitionWorks$Reader" "length" "I" ∈ q_G := q_tb (i := 202) (by decide +kernel) (by decide +kernel)
theorem ml_X9_60 : Cond.methodLink RX9 60 arraycopyName ∈ q_G := q_tb (i := 312) (by decide +kernel) (by decide +kernel)
theorem dX9_takeIn_0 : decode cX9_takeIn 0 = .ok (.iload_n 2, 1) := by decide +kernel
theorem dX9_takeIn_1 : decode cX9_takeIn 1 = .ok (.ifCond .lt 21, 3) := by decide +kernel
theorem dX9_takeIn_4 : decode cX9_takeIn 4 = .ok (.iload_n 2, 1) := by decide +kernel
theorem dX9_takeIn_5 : decode cX9_takeIn 5 = .ok (.aload_n 1, 1) := by decide +kernel
theorem dX9_takeIn_6 : decode cX9_takeIn 6 = .ok (.arraylength, 1) := by decide +kernel
theorem dX9_takeIn_7 : decode cX9_takeIn 7 = .ok (.if_icmp .gt 15, 3) := by decide +kernel
theorem dX9_takeIn_10 : decode cX9_takeIn 10 = .ok (.aload_n 0, 1) := by decide +kernel
theorem dX9_takeIn_11 : decode cX9_takeIn 11 = .ok (.getfield 58, 3) := by decide +kernel
theorem dX9_takeIn_14 : decode cX9_takeIn 14 = .ok (.iload_n 2, 1) := by decide +kernel
theorem dX9_takeIn_15 : decode cX9_takeIn 15 = .ok (.iadd, 1) := by decide +kernel
theorem dX9_takeIn_16 : decode cX9_takeIn 16 = .ok (.sipush 4000, 3) := by decide +kernel
theorem dX9_takeIn_19 : decode cX9_takeIn 19 = .ok (.if_icmp .le 5, 3) := by decide +kernel
theorem dX9_takeIn_22 : decode cX9_takeIn 22 = .ok (.iconst 0, 1) := by decide +kernel
theorem dX9_takeIn_23 : decode cX9_takeIn 23 = .ok (.ireturn, 1) := by decide +kernel
theorem dX9_takeIn_24 : decode cX9_takeIn 24 = .ok (.aload_n 1, 1) := by decide +kernel
theorem dX9_takeIn_25 : decode cX9_takeIn 25 = .ok (.iconst 0, 1) := by decide +kernel
theorem dX9_takeIn_26 : decode cX9_takeIn 26 = .ok (.aload_n 0, 1) := by decide +kernel
theorem dX9_takeIn_27 : decode cX9_takeIn 27 = .ok (.getfield 18, 3) := by decide +kernel
theorem dX9_takeIn_30 : decode cX9_takeIn 30 = .ok (.aload_n 0, 1) := by decide +kernel
theorem dX9_takeIn_31 : decode cX9_takeIn 31 = .ok (.getfield 58, 3) := by decide +kernel
theorem dX9_takeIn_34 : decode cX9_takeIn 34 = .ok (.iload_n 2, 1) := by decide +kernel
theorem dX9_takeIn_35 : decode cX9_takeIn 35 = .ok (.invokestatic 60, 3) := by decide +kernel
theorem dX9_takeIn_38 : decode cX9_takeIn 38 = .ok (.aload_n 0, 1) := by decide +kernel
theorem dX9_takeIn_39 : decode cX9_takeIn 39 = .ok (.dup, 1) := by decide +kernel
theorem dX9_takeIn_40 : decode cX9_takeIn 40 = .ok (.getfield 58, 3) := by decide +kernel
theorem dX9_takeIn_43 : decode cX9_takeIn 43 = .ok (.iload_n 2, 1) := by decide +kernel
theorem dX9_takeIn_44 : decode cX9_takeIn 44 = .ok (.iadd, 1) := by decide +kernel
theorem dX9_takeIn_45 : decode cX9_takeIn 45 = .ok (.putfield 58, 3) := by decide +kernel
theorem dX9_takeIn_48 : decode cX9_takeIn 48 = .ok (.iconst 1, 1) := by decide +kernel
theorem dX9_takeIn_49 : decode cX9_takeIn 49 = .ok (.ireturn, 1) := by decide +kernel
def wb_X9_takeIn_22  (S : q_S) (Q : Option Value → q_S → Prop) : Prop := Q (some (.int (0 : Int32))) S
set_option maxHeartbeats 4000000 in
set_option maxRecDepth 100000 in
theorem cb_X9_takeIn_22 {p : Program} {l : Launch} {e : Env} {s : State} {m : MethodId} {args : Array Value} {below : List Frame} {meth : Method} {c : Code} {D : va_G} {cy : Nat → ClassId} {lo : Nat}  {S : q_S} {Q : Option Value → q_S → Prop} {H : Heap} {locs : List Loc} {ls : Array Slot} (X : q_X p s m args meth c RX9 cX9_takeIn 3 (some .boolean) D cy lo)  (Y : q_Y D cy lo s S H locs) (hl : lv_has ls 3 []) (h : wb_X9_takeIn_22 S Q) : W p l e ({ frames := 1, cells := 0, slots := 0, locals := 60 } : Room) s m args below meth c H locs 0 0 (MQ below (q_Q D cy lo Q) args s 0 0 (fun q => lo ≤ q)) (F0 m 22 ls []) := by
  have hx := X.1
  have hb := X.2.1
  unfold wb_X9_takeIn_22 at h
  refine lv_iconst (v := 0) hx hb dX9_takeIn_22 (by decide) ?_
  exact q_iret X Y rfl (Nat.le_refl _) (Nat.le_refl _) h dX9_takeIn_23
def wm_X9_takeIn (S : q_S) (a0 : Nat) (r1 : Option Nat) (x2 : Int32) (Q : Option Value → q_S → Prop) : Prop := ((x2 < 0 → (wb_X9_takeIn_22 S Q)) ∧ (¬ x2 < 0 → (∃ a2_ : Nat, r1 = some a2_ ∧ (q_K S a2_ = 20 ∧ ((((nI (q_N S a2_)) < x2 → (wb_X9_takeIn_22 S Q)) ∧ (¬ (nI (q_N S a2_)) < x2 → (q_K S a0 = 10 ∧ (((((q_I S 1803 a0) + x2) ≤ (4000 : Int32) → (∃ a8_ : Nat, (q_P S 1802 a0) = some a8_ ∧ (q_K S a8_ = 20 ∧ ((¬ (0 : Int32) < 0) ∧ (¬ (q_I S 1803 a0) < 0) ∧ (¬ x2 < 0) ∧ ((0 : Int32).toNatClampNeg + x2.toNatClampNeg ≤ q_N S a2_) ∧ ((q_I S 1803 a0).toNatClampNeg + x2.toNatClampNeg ≤ q_N S a8_) ∧ ((∀ i : Nat, i < x2.toNatClampNeg → fits .byte (.int (q_A S a2_ ((0 : Int32).toNatClampNeg + i))) = true) ∧ (∀ S17_ : q_S, S17_ = (qs_I (qs_G S a8_ (va_cpy (q_A S a2_) (q_A S a8_) (0 : Int32).toNatClampNeg (q_I S 1803 a0).toNatClampNeg x2.toNatClampNeg)) 1803 a0 ((q_I (qs_G S a8_ (va_cpy (q_A S a2_) (q_A S a8_) (0 : Int32).toNatClampNeg (q_I S 1803 a0).toNatClampNeg x2.toNatClampNeg)) 1803 a0) + x2)) → (Q (some (.int (1 : Int32))) S17_))))))) ∧ (¬ ((q_I S 1803 a0) + x2) ≤ (4000 : Int32) → (wb_X9_takeIn_22 S Q))))))))))))
set_option maxHeartbeats 4000000 in
set_option maxRecDepth 100000 in
theorem cm_X9_takeIn {l : Launch} {D : va_G} {cy : Nat → ClassId} {lo : Nat} {S : q_S} {a0 : Nat} {r1 : Option Nat} {x2 : Int32} {Q : Option Value → q_S → Prop} (h : wm_X9_takeIn S a0 r1 x2 Q) : q_Met l D cy lo yX9_takeIn cX9_takeIn 3 (some .boolean) 1 60 0 0 [.ref a0, va_rf r1, .int x2] S Q := by
  refine q_body (by decide) (by first | exact Nat.le_of_ble_eq_true rfl | simp [lg_sl, q_cat, q_catI, q_catJ, q_catR]) ?_
  intro p e s m below meth c ls X hnm Y hl
  have hx := X.1
  have hb := X.2.1
  have hl : lv_has ls 3 [(0, .ref a0), (1, va_rf r1), (2, .int x2)] := by first | exact hl | simpa [lv_args, q_cat, q_catI, q_catJ, q_catR] using hl
  generalize hargs : ([.ref a0, va_rf r1, .int x2] : List Value).toArray = args at X ⊢
  unfold wm_X9_takeIn at h
  refine lv_iload_n hx hb dX9_takeIn_0 rfl (lv_at hl 2 rfl) ?_
  refine lv_if_lt (tgt := 22) hx hb dX9_takeIn_1 (by decide) (fun c1_ => ?_) (fun c1_ => ?_)
  · replace h := h.1 c1_
    exact cb_X9_takeIn_22 X Y (lv_sub hl [] rfl) h
  · replace h := h.2 c1_
    refine lv_iload_n hx hb dX9_takeIn_4 rfl (lv_at hl 2 rfl) ?_
    refine q_aload_n hx hb dX9_takeIn_5 rfl (lv_at hl 1 rfl) ?_
    obtain ⟨a2_, e3_, h⟩ := h
    refine q_nn [] e3_ ?_
    obtain ⟨k4_, h⟩ := h
    refine q_alen X Y k4_ (by decide) (t := 0) rfl dX9_takeIn_6 ?_
    refine lv_icmp_gt (tgt := 22) hx hb dX9_takeIn_7 (by decide) (fun c5_ => ?_) (fun c5_ => ?_)
    · replace h := h.1 c5_
      exact cb_X9_takeIn_22 X Y (lv_sub hl [] rfl) h
    · replace h := h.2 c5_
      refine lv_aload_n hx hb dX9_takeIn_10 rfl (lv_at hl 0 rfl) ?_
      obtain ⟨k6_, h⟩ := h
      refine q_getI X Y kX9 3 rfl fl_X9_58 k6_ dX9_takeIn_11 ?_
      refine lv_iload_n hx hb dX9_takeIn_14 rfl (lv_at hl 2 rfl) ?_
      refine lv_iadd hx hb dX9_takeIn_15 ?_
      refine lv_sipush (v := 4000) hx hb dX9_takeIn_16 (by decide) ?_
      refine lv_icmp_le (tgt := 24) hx hb dX9_takeIn_19 (by decide) (fun c7_ => ?_) (fun c7_ => ?_)
      · replace h := h.1 c7_
        refine q_aload_n hx hb dX9_takeIn_24 rfl (lv_at hl 1 rfl) ?_
        refine lv_iconst (v := 0) hx hb dX9_takeIn_25 (by decide) ?_
        refine lv_aload_n hx hb dX9_takeIn_26 rfl (lv_at hl 0 rfl) ?_
        refine q_getP X Y kX9 2 rfl fl_X9_18 k6_ rfl dX9_takeIn_27 ?_
        refine lv_aload_n hx hb dX9_takeIn_30 rfl (lv_at hl 0 rfl) ?_
        refine q_getI X Y kX9 3 rfl fl_X9_58 k6_ dX9_takeIn_31 ?_
        refine lv_iload_n hx hb dX9_takeIn_34 rfl (lv_at hl 2 rfl) ?_
        obtain ⟨a8_, e9_, h⟩ := h
        refine q_nn [.int x2, .int (q_I S 1803 a0)] e9_ ?_
        refine q_nn [.int x2, .int (q_I S 1803 a0), .ref a8_, .int (0 : Int32)] e3_ ?_
        obtain ⟨k10_, h⟩ := h
        obtain ⟨g11_, g12_, g13_, g14_, g15_, h⟩ := h
        obtain ⟨f16_, h⟩ := h
        refine q_copy X Y hl ml_X9_60 acn_ acs_ aci_ (by decide) k4_ k10_ (t := 0) rfl rfl g11_ g12_ g13_ g14_ g15_ f16_ ⟨Nat.le_of_ble_eq_true rfl, by first | exact Nat.le_of_ble_eq_true rfl | simp [q_cat, q_catI, q_catJ, q_catR, nativeFrameWords] | decide⟩ dX9_takeIn_35 (fun H locs Y => ?_)
        refine lv_aload_n hx hb dX9_takeIn_38 rfl (lv_at hl 0 rfl) ?_
        refine lv_dup hx hb dX9_takeIn_39 rfl ?_
        refine q_getI X Y kX9 3 rfl fl_X9_58 k6_ dX9_takeIn_40 ?_
        refine lv_iload_n hx hb dX9_takeIn_43 rfl (lv_at hl 2 rfl) ?_
        refine lv_iadd hx hb dX9_takeIn_44 ?_
        refine q_putI X Y kX9 3 rfl fl_X9_58 k6_ .int rfl ⟨rfl, rfl⟩ rfl dX9_takeIn_45 (fun H locs Y => ?_)
        obtain ⟨S17_, gS17_⟩ : ∃ z : q_S, z = (qs_I (qs_G S a8_ (va_cpy (q_A S a2_) (q_A S a8_) (0 : Int32).toNatClampNeg (q_I S 1803 a0).toNatClampNeg x2.toNatClampNeg)) 1803 a0 ((q_I (qs_G S a8_ (va_cpy (q_A S a2_) (q_A S a8_) (0 : Int32).toNatClampNeg (q_I S 1803 a0).toNatClampNeg x2.toNatClampNeg)) 1803 a0) + x2)) := ⟨_, rfl⟩
        replace Y : q_Y D cy lo s S17_ H locs := by rw [gS17_]; exact Y
        replace h := h S17_ gS17_
        replace k4_ : q_K S17_ a2_ = 20 := by rw [gS17_]; exact k4_
        replace k6_ : q_K S17_ a0 = 10 := by rw [gS17_]; exact k6_
        replace k10_ : q_K S17_ a8_ = 20 := by rw [gS17_]; exact k10_
        refine lv_iconst (v := 1) hx hb dX9_takeIn_48 (by decide) ?_
        exact q_iret X Y rfl (Nat.le_refl _) (Nat.le_refl _) h dX9_takeIn_49
      · replace h := h.2 c7_
        exact cb_X9_takeIn_22 X Y (lv_sub hl [] rfl) h
-- X9_scanName
theorem fl_X9_119 : Cond.fieldLink RX9 119 "PartitionWorks$Reader" "kind" "I" ∈ q_G := q_tb (i := 210) (by decide +kernel) (by decide +kernel)
theorem fl_X9_137 : Cond.fieldLink RX9 137 "PartitionWorks$Reader" "name" "J" ∈ q_G := q_tb (i := 212) (by decide +kernel) (by decide +kernel)
theorem fl_X9_116 : Cond.fieldLink RX9 116 "PartitionWorks$Reader" "value" "I" ∈ q_G := q_tb (i := 211) (by decide +kernel) (by decide +kernel)
theorem fl_X9_69 : Cond.fieldLink RX9 69 "PartitionWorks$Reader" "at" "I" ∈ q_G := q_tb (i := 209) (by decide +kernel) (by decide +kernel)
theorem fl_X9_113 : Cond.fieldLink RX9 113 "PartitionWorks$Reader" "place" "I" ∈ q_G := q_tb (i := 213) (by decide +kernel) (by decide +kernel)
theorem fl_X9_66 : Cond.fieldLink RX9 66 "PartitionWorks$Reader" "bytes" "I" ∈ q_G := q_tb (i := 208) (by decide +kernel) (by decide +kernel)
theorem dX9_scanName_0 : decode cX9_scanName 0 = .ok (.aload_n 0, 1) := by decide +kernel
theorem dX9_scanName_1 : decode cX9_scanName 1 = .ok (.lconst 0, 1) := by decide +kernel
theorem dX9_scanName_2 : decode cX9_scanName 2 = .ok (.putfield 137, 3) := by decide +kernel
theorem dX9_scanName_5 : decode cX9_scanName 5 = .ok (.aload_n 0, 1) := by decide +kernel
theorem dX9_scanName_6 : decode cX9_scanName 6 = .ok (.getfield 69, 3) := by decide +kernel
theorem dX9_scanName_9 : decode cX9_scanName 9 = .ok (.aload_n 0, 1) := by decide +kernel
theorem dX9_scanName_10 : decode cX9_scanName 10 = .ok (.getfield 66, 3) := by decide +kernel
theorem dX9_scanName_13 : decode cX9_scanName 13 = .ok (.if_icmp .ge 57, 3) := by decide +kernel
theorem dX9_scanName_16 : decode cX9_scanName 16 = .ok (.aload_n 0, 1) := by decide +kernel
theorem dX9_scanName_17 : decode cX9_scanName 17 = .ok (.getfield 18, 3) := by decide +kernel
theorem dX9_scanName_20 : decode cX9_scanName 20 = .ok (.aload_n 0, 1) := by decide +kernel
theorem dX9_scanName_21 : decode cX9_scanName 21 = .ok (.getfield 69, 3) := by decide +kernel
theorem dX9_scanName_24 : decode cX9_scanName 24 = .ok (.baload, 1) := by decide +kernel
theorem dX9_scanName_25 : decode cX9_scanName 25 = .ok (.invokestatic 52, 3) := by decide +kernel
theorem dX9_scanName_28 : decode cX9_scanName 28 = .ok (.ifCond .eq 42, 3) := by decide +kernel
theorem dX9_scanName_31 : decode cX9_scanName 31 = .ok (.aload_n 0, 1) := by decide +kernel
theorem dX9_scanName_32 : decode cX9_scanName 32 = .ok (.aload_n 0, 1) := by decide +kernel
theorem dX9_scanName_33 : decode cX9_scanName 33 = .ok (.getfield 137, 3) := by decide +kernel
theorem dX9_scanName_36 : decode cX9_scanName 36 = .ok (.ldc2_w 56, 3) := by decide +kernel
theorem dX9_scanName_39 : decode cX9_scanName 39 = .ok (.lmul, 1) := by decide +kernel
theorem dX9_scanName_40 : decode cX9_scanName 40 = .ok (.aload_n 0, 1) := by decide +kernel
theorem dX9_scanName_41 : decode cX9_scanName 41 = .ok (.getfield 18, 3) := by decide +kernel
theorem dX9_scanName_44 : decode cX9_scanName 44 = .ok (.aload_n 0, 1) := by decide +kernel
theorem dX9_scanName_45 : decode cX9_scanName 45 = .ok (.getfield 69, 3) := by decide +kernel
theorem dX9_scanName_48 : decode cX9_scanName 48 = .ok (.baload, 1) := by decide +kernel
theorem dX9_scanName_49 : decode cX9_scanName 49 = .ok (.invokestatic 52, 3) := by decide +kernel
theorem dX9_scanName_52 : decode cX9_scanName 52 = .ok (.i2l, 1) := by decide +kernel
theorem dX9_scanName_53 : decode cX9_scanName 53 = .ok (.ladd, 1) := by decide +kernel
theorem dX9_scanName_54 : decode cX9_scanName 54 = .ok (.putfield 137, 3) := by decide +kernel
theorem dX9_scanName_57 : decode cX9_scanName 57 = .ok (.aload_n 0, 1) := by decide +kernel
theorem dX9_scanName_58 : decode cX9_scanName 58 = .ok (.dup, 1) := by decide +kernel
theorem dX9_scanName_59 : decode cX9_scanName 59 = .ok (.getfield 69, 3) := by decide +kernel
theorem dX9_scanName_62 : decode cX9_scanName 62 = .ok (.iconst 1, 1) := by decide +kernel
theorem dX9_scanName_63 : decode cX9_scanName 63 = .ok (.iadd, 1) := by decide +kernel
theorem dX9_scanName_64 : decode cX9_scanName 64 = .ok (.putfield 69, 3) := by decide +kernel
theorem dX9_scanName_67 : decode cX9_scanName 67 = .ok (.goto (-62), 3) := by decide +kernel
theorem dX9_scanName_70 : decode cX9_scanName 70 = .ok (.aload_n 0, 1) := by decide +kernel
theorem dX9_scanName_71 : decode cX9_scanName 71 = .ok (.aload_n 0, 1) := by decide +kernel
theorem dX9_scanName_72 : decode cX9_scanName 72 = .ok (.getfield 69, 3) := by decide +kernel
theorem dX9_scanName_75 : decode cX9_scanName 75 = .ok (.aload_n 0, 1) := by decide +kernel
theorem dX9_scanName_76 : decode cX9_scanName 76 = .ok (.getfield 113, 3) := by decide +kernel
theorem dX9_scanName_79 : decode cX9_scanName 79 = .ok (.isub, 1) := by decide +kernel
theorem dX9_scanName_80 : decode cX9_scanName 80 = .ok (.bipush 12, 2) := by decide +kernel
theorem dX9_scanName_82 : decode cX9_scanName 82 = .ok (.if_icmp .le 7, 3) := by decide +kernel
theorem dX9_scanName_85 : decode cX9_scanName 85 = .ok (.iconst 1, 1) := by decide +kernel
theorem dX9_scanName_86 : decode cX9_scanName 86 = .ok (.goto 4, 3) := by decide +kernel
theorem dX9_scanName_89 : decode cX9_scanName 89 = .ok (.iconst 2, 1) := by decide +kernel
theorem dX9_scanName_90 : decode cX9_scanName 90 = .ok (.putfield 119, 3) := by decide +kernel
theorem dX9_scanName_93 : decode cX9_scanName 93 = .ok (.aload_n 0, 1) := by decide +kernel
theorem dX9_scanName_94 : decode cX9_scanName 94 = .ok (.getfield 119, 3) := by decide +kernel
theorem dX9_scanName_97 : decode cX9_scanName 97 = .ok (.iconst 1, 1) := by decide +kernel
theorem dX9_scanName_98 : decode cX9_scanName 98 = .ok (.if_icmp .ne 4, 3) := by decide +kernel
theorem dX9_scanName_101 : decode cX9_scanName 101 = .ok (.return_, 1) := by decide +kernel
theorem dX9_scanName_102 : decode cX9_scanName 102 = .ok (.iconst 0, 1) := by decide +kernel
theorem dX9_scanName_103 : decode cX9_scanName 103 = .ok (.istore_n 1, 1) := by decide +kernel
theorem dX9_scanName_104 : decode cX9_scanName 104 = .ok (.iload_n 1, 1) := by decide +kernel
theorem dX9_scanName_105 : decode cX9_scanName 105 = .ok (.bipush 41, 2) := by decide +kernel
theorem dX9_scanName_107 : decode cX9_scanName 107 = .ok (.if_icmp .ge 43, 3) := by decide +kernel
theorem dX9_scanName_110 : decode cX9_scanName 110 = .ok (.aload_n 0, 1) := by decide +kernel
theorem dX9_scanName_111 : decode cX9_scanName 111 = .ok (.getfield 30, 3) := by decide +kernel
theorem dX9_scanName_114 : decode cX9_scanName 114 = .ok (.iload_n 1, 1) := by decide +kernel
theorem dX9_scanName_115 : decode cX9_scanName 115 = .ok (.laload, 1) := by decide +kernel
theorem dX9_scanName_116 : decode cX9_scanName 116 = .ok (.aload_n 0, 1) := by decide +kernel
theorem dX9_scanName_117 : decode cX9_scanName 117 = .ok (.getfield 137, 3) := by decide +kernel
theorem dX9_scanName_120 : decode cX9_scanName 120 = .ok (.lcmp, 1) := by decide +kernel
theorem dX9_scanName_121 : decode cX9_scanName 121 = .ok (.ifCond .ne 23, 3) := by decide +kernel
theorem dX9_scanName_124 : decode cX9_scanName 124 = .ok (.aload_n 0, 1) := by decide +kernel
theorem dX9_scanName_125 : decode cX9_scanName 125 = .ok (.iload_n 1, 1) := by decide +kernel
theorem dX9_scanName_126 : decode cX9_scanName 126 = .ok (.putfield 116, 3) := by decide +kernel
theorem dX9_scanName_129 : decode cX9_scanName 129 = .ok (.aload_n 0, 1) := by decide +kernel
theorem dX9_scanName_130 : decode cX9_scanName 130 = .ok (.iload_n 1, 1) := by decide +kernel
theorem dX9_scanName_131 : decode cX9_scanName 131 = .ok (.bipush 30, 2) := by decide +kernel
theorem dX9_scanName_133 : decode cX9_scanName 133 = .ok (.if_icmp .ge 7, 3) := by decide +kernel
theorem dX9_scanName_136 : decode cX9_scanName 136 = .ok (.iconst 5, 1) := by decide +kernel
theorem dX9_scanName_137 : decode cX9_scanName 137 = .ok (.goto 4, 3) := by decide +kernel
theorem dX9_scanName_140 : decode cX9_scanName 140 = .ok (.iconst 2, 1) := by decide +kernel
theorem dX9_scanName_141 : decode cX9_scanName 141 = .ok (.putfield 119, 3) := by decide +kernel
theorem dX9_scanName_144 : decode cX9_scanName 144 = .ok (.iinc 1 1, 3) := by decide +kernel
theorem dX9_scanName_147 : decode cX9_scanName 147 = .ok (.goto (-43), 3) := by decide +kernel
theorem dX9_scanName_150 : decode cX9_scanName 150 = .ok (.return_, 1) := by decide +kernel
def wb_X9_scanName_144 (B104 : q_S → Nat → Int32 → Prop) (S : q_S) (a0 : Nat) (x1 : Int32) (Q : Option Value → q_S → Prop) : Prop := B104 S a0 (x1 + 1)
set_option maxHeartbeats 4000000 in
set_option maxRecDepth 100000 in
theorem cb_X9_scanName_144 {p : Program} {l : Launch} {e : Env} {s : State} {m : MethodId} {args : Array Value} {below : List Frame} {meth : Method} {c : Code} {D : va_G} {cy : Nat → ClassId} {lo : Nat} {B104 : q_S → Nat → Int32 → Prop} {S : q_S} {a0 : Nat} {x1 : Int32} {Q : Option Value → q_S → Prop} {H : Heap} {locs : List Loc} {ls : Array Slot} (X : q_X p s m args meth c RX9 cX9_scanName 2 none D cy lo) (hB104 : ∀ (S : q_S) (a0 : Nat) (x1 : Int32) (H : Heap) (locs : List Loc) (ls : Array Slot), B104 S a0 x1 → q_Y D cy lo s S H locs → lv_has ls 2 [(0, .ref a0), (1, .int x1)] → W p l e ({ frames := 1, cells := 0, slots := 0, locals := 20 } : Room) s m args below meth c H locs 0 0 (MQ below (q_Q D cy lo Q) args s 0 0 (fun q => lo ≤ q)) (F0 m 104 ls [])) (Y : q_Y D cy lo s S H locs) (hl : lv_has ls 2 [(0, .ref a0), (1, .int x1)]) (h : wb_X9_scanName_144 B104 S a0 x1 Q) : W p l e ({ frames := 1, cells := 0, slots := 0, locals := 20 } : Room) s m args below meth c H locs 0 0 (MQ below (q_Q D cy lo Q) args s 0 0 (fun q => lo ≤ q)) (F0 m 144 ls []) := by
  have hx := X.1
  have hb := X.2.1
  unfold wb_X9_scanName_144 at h
  refine lv_iinc (v := (x1 + 1)) (lv' := [(1, .int (x1 + 1)), (0, .ref a0)]) hx hb dX9_scanName_144 hl (k := 1) rfl (by first | rfl | decide) (by decide) (by first | rfl | simp [q_cat, q_catI, q_catJ, q_catR]) (fun ls hl => ?_)
  refine lv_goto (tgt := 104) hx hb dX9_scanName_147 (by decide) ?_
  exact hB104 _ _ _ _ _ _ h Y (lv_sub hl [1, 0] rfl)
def wb_X9_scanName_141 (B104 : q_S → Nat → Int32 → Prop) (S : q_S) (a0 : Nat) (x1 : Int32) (as0 : Nat) (xs1 : Int32) (Q : Option Value → q_S → Prop) : Prop := q_K S as0 = 10 ∧ (wb_X9_scanName_144 B104 (qs_I S 1808 as0 xs1) a0 x1 Q)
set_option maxHeartbeats 4000000 in
set_option maxRecDepth 100000 in
theorem cb_X9_scanName_141 {p : Program} {l : Launch} {e : Env} {s : State} {m : MethodId} {args : Array Value} {below : List Frame} {meth : Method} {c : Code} {D : va_G} {cy : Nat → ClassId} {lo : Nat} {B104 : q_S → Nat → Int32 → Prop} {S : q_S} {a0 : Nat} {x1 : Int32} {as0 : Nat} {xs1 : Int32} {Q : Option Value → q_S → Prop} {H : Heap} {locs : List Loc} {ls : Array Slot} (X : q_X p s m args meth c RX9 cX9_scanName 2 none D cy lo) (hB104 : ∀ (S : q_S) (a0 : Nat) (x1 : Int32) (H : Heap) (locs : List Loc) (ls : Array Slot), B104 S a0 x1 → q_Y D cy lo s S H locs → lv_has ls 2 [(0, .ref a0), (1, .int x1)] → W p l e ({ frames := 1, cells := 0, slots := 0, locals := 20 } : Room) s m args below meth c H locs 0 0 (MQ below (q_Q D cy lo Q) args s 0 0 (fun q => lo ≤ q)) (F0 m 104 ls [])) (Y : q_Y D cy lo s S H locs) (hl : lv_has ls 2 [(0, .ref a0), (1, .int x1)]) (h : wb_X9_scanName_141 B104 S a0 x1 as0 xs1 Q) : W p l e ({ frames := 1, cells := 0, slots := 0, locals := 20 } : Room) s m args below meth c H locs 0 0 (MQ below (q_Q D cy lo Q) args s 0 0 (fun q => lo ≤ q)) (F0 m 141 ls [.int xs1, .ref as0]) := by
  have hx := X.1
  have hb := X.2.1
  unfold wb_X9_scanName_141 at h
  obtain ⟨k1_, h⟩ := h
  refine q_putI X Y kX9 8 rfl fl_X9_119 k1_ .int rfl ⟨rfl, rfl⟩ rfl dX9_scanName_141 (fun H locs Y => ?_)
  exact cb_X9_scanName_144 X hB104 Y (lv_sub hl [0, 1] rfl) h
def wb_X9_scanName_104 (B104 : q_S → Nat → Int32 → Prop) (S : q_S) (a0 : Nat) (x1 : Int32) (Q : Option Value → q_S → Prop) : Prop := (((41 : Int32) ≤ x1 → (Q none S)) ∧ (¬ (41 : Int32) ≤ x1 → (q_K S a0 = 10 ∧ (∃ a4_ : Nat, (q_P S 1801 a0) = some a4_ ∧ (q_K S a4_ = 23 ∧ (vp_in x1 (q_N S a4_) ∧ (((¬ (lg_cmp (q_B S a4_ x1.toNatClampNeg) (q_J S 1810 a0)) = 0 → (wb_X9_scanName_144 B104 S a0 x1 Q)) ∧ ((lg_cmp (q_B S a4_ x1.toNatClampNeg) (q_J S 1810 a0)) = 0 → ((((30 : Int32) ≤ x1 → (wb_X9_scanName_141 B104 (qs_I S 1809 a0 x1) a0 x1 a0 (2 : Int32) Q)) ∧ (¬ (30 : Int32) ≤ x1 → (wb_X9_scanName_141 B104 (qs_I S 1809 a0 x1) a0 x1 a0 (5 : Int32) Q)))))))))))))
set_option maxHeartbeats 4000000 in
set_option maxRecDepth 100000 in
theorem cb_X9_scanName_104 {p : Program} {l : Launch} {e : Env} {s : State} {m : MethodId} {args : Array Value} {below : List Frame} {meth : Method} {c : Code} {D : va_G} {cy : Nat → ClassId} {lo : Nat} {B104 : q_S → Nat → Int32 → Prop} {S : q_S} {a0 : Nat} {x1 : Int32} {Q : Option Value → q_S → Prop} {H : Heap} {locs : List Loc} {ls : Array Slot} (X : q_X p s m args meth c RX9 cX9_scanName 2 none D cy lo) (hB104 : ∀ (S : q_S) (a0 : Nat) (x1 : Int32) (H : Heap) (locs : List Loc) (ls : Array Slot), B104 S a0 x1 → q_Y D cy lo s S H locs → lv_has ls 2 [(0, .ref a0), (1, .int x1)] → W p l e ({ frames := 1, cells := 0, slots := 0, locals := 20 } : Room) s m args below meth c H locs 0 0 (MQ below (q_Q D cy lo Q) args s 0 0 (fun q => lo ≤ q)) (F0 m 104 ls [])) (Y : q_Y D cy lo s S H locs) (hl : lv_has ls 2 [(0, .ref a0), (1, .int x1)]) (h : wb_X9_scanName_104 B104 S a0 x1 Q) : W p l e ({ frames := 1, cells := 0, slots := 0, locals := 20 } : Room) s m args below meth c H locs 0 0 (MQ below (q_Q D cy lo Q) args s 0 0 (fun q => lo ≤ q)) (F0 m 104 ls []) := by
  have hx := X.1
  have hb := X.2.1
  unfold wb_X9_scanName_104 at h
  refine lv_iload_n hx hb dX9_scanName_104 rfl (lv_at hl 1 rfl) ?_
  refine lv_bipush (v := 41) hx hb dX9_scanName_105 (by decide) ?_
  refine lv_icmp_ge (tgt := 150) hx hb dX9_scanName_107 (by decide) (fun c2_ => ?_) (fun c2_ => ?_)
  · replace h := h.1 c2_
    exact q_vret X Y (Nat.le_refl _) (Nat.le_refl _) h dX9_scanName_150
  · replace h := h.2 c2_
    refine lv_aload_n hx hb dX9_scanName_110 rfl (lv_at hl 0 rfl) ?_
    obtain ⟨k3_, h⟩ := h
    refine q_getP X Y kX9 1 rfl fl_X9_30 k3_ rfl dX9_scanName_111 ?_
    refine lv_iload_n hx hb dX9_scanName_114 rfl (lv_at hl 1 rfl) ?_
    obtain ⟨a4_, e5_, h⟩ := h
    refine q_nn [.int x1] e5_ ?_
    obtain ⟨k6_, h⟩ := h
    obtain ⟨i7_, h⟩ := h
    refine q_lld X Y k6_ i7_ dX9_scanName_115 ?_
    refine lv_aload_n hx hb dX9_scanName_116 rfl (lv_at hl 0 rfl) ?_
    refine q_getJ X Y kX9 10 rfl fl_X9_137 k3_ dX9_scanName_117 ?_
    refine W.lcmp hx hb dX9_scanName_120 ?_
    refine lv_if_ne (tgt := 144) hx hb dX9_scanName_121 (by decide) (fun c8_ => ?_) (fun c8_ => ?_)
    · replace h := h.1 c8_
      exact cb_X9_scanName_144 X hB104 Y (lv_sub hl [0, 1] rfl) h
    · replace h := h.2 c8_
      refine lv_aload_n hx hb dX9_scanName_124 rfl (lv_at hl 0 rfl) ?_
      refine lv_iload_n hx hb dX9_scanName_125 rfl (lv_at hl 1 rfl) ?_
      refine q_putI X Y kX9 9 rfl fl_X9_116 k3_ .int rfl ⟨rfl, rfl⟩ rfl dX9_scanName_126 (fun H locs Y => ?_)
      refine lv_aload_n hx hb dX9_scanName_129 rfl (lv_at hl 0 rfl) ?_
      refine lv_iload_n hx hb dX9_scanName_130 rfl (lv_at hl 1 rfl) ?_
      refine lv_bipush (v := 30) hx hb dX9_scanName_131 (by decide) ?_
      refine lv_icmp_ge (tgt := 140) hx hb dX9_scanName_133 (by decide) (fun c9_ => ?_) (fun c9_ => ?_)
      · replace h := h.1 c9_
        refine lv_iconst (v := 2) hx hb dX9_scanName_140 (by decide) ?_
        exact cb_X9_scanName_141 X hB104 Y (lv_sub hl [0, 1] rfl) h
      · replace h := h.2 c9_
        refine lv_iconst (v := 5) hx hb dX9_scanName_136 (by decide) ?_
        refine lv_goto (tgt := 141) hx hb dX9_scanName_137 (by decide) ?_
        exact cb_X9_scanName_141 X hB104 Y (lv_sub hl [0, 1] rfl) h
def wl_X9_scanName_104  : Nat → q_S → Nat → Int32 → (Option Value → q_S → Prop) → Prop
  | 0, _, _, _, _ => False
  | n + 1, S, a0, x1, Q => wb_X9_scanName_104 (fun S a0 x1 => wl_X9_scanName_104 n S a0 x1 Q) S a0 x1 Q
set_option maxHeartbeats 4000000 in
set_option maxRecDepth 100000 in
theorem cl_X9_scanName_104 {p : Program} {l : Launch} {e : Env} {s : State} {m : MethodId} {args : Array Value} {below : List Frame} {meth : Method} {c : Code} {D : va_G} {cy : Nat → ClassId} {lo : Nat}  {Q : Option Value → q_S → Prop} (X : q_X p s m args meth c RX9 cX9_scanName 2 none D cy lo)  : ∀ (n : Nat) (S : q_S) (a0 : Nat) (x1 : Int32) (H : Heap) (locs : List Loc) (ls : Array Slot), wl_X9_scanName_104 n S a0 x1 Q → q_Y D cy lo s S H locs → lv_has ls 2 [(0, .ref a0), (1, .int x1)] → W p l e ({ frames := 1, cells := 0, slots := 0, locals := 20 } : Room) s m args below meth c H locs 0 0 (MQ below (q_Q D cy lo Q) args s 0 0 (fun q => lo ≤ q)) (F0 m 104 ls []) := by
  intro n
  induction n with
  | zero => intro S a0 x1 H locs ls h; exact absurd h id
  | succ n ih => intro S a0 x1 H locs ls h Y hl; exact cb_X9_scanName_104 X ih Y hl h
def wb_X9_scanName_90  (S : q_S) (a0 : Nat) (as0 : Nat) (xs1 : Int32) (Q : Option Value → q_S → Prop) : Prop := q_K S as0 = 10 ∧ (q_K (qs_I S 1808 as0 xs1) a0 = 10 ∧ (((¬ (q_I (qs_I S 1808 as0 xs1) 1808 a0) = (1 : Int32) → (∃ n13_ : Nat, wl_X9_scanName_104 n13_ (qs_I S 1808 as0 xs1) a0 (0 : Int32) Q)) ∧ ((q_I (qs_I S 1808 as0 xs1) 1808 a0) = (1 : Int32) → (Q none (qs_I S 1808 as0 xs1))))))
set_option maxHeartbeats 4000000 in
set_option maxRecDepth 100000 in
theorem cb_X9_scanName_90 {p : Program} {l : Launch} {e : Env} {s : State} {m : MethodId} {args : Array Value} {below : List Frame} {meth : Method} {c : Code} {D : va_G} {cy : Nat → ClassId} {lo : Nat}  {S : q_S} {a0 : Nat} {as0 : Nat} {xs1 : Int32} {Q : Option Value → q_S → Prop} {H : Heap} {locs : List Loc} {ls : Array Slot} (X : q_X p s m args meth c RX9 cX9_scanName 2 none D cy lo)  (Y : q_Y D cy lo s S H locs) (hl : lv_has ls 2 [(0, .ref a0)]) (h : wb_X9_scanName_90 S a0 as0 xs1 Q) : W p l e ({ frames := 1, cells := 0, slots := 0, locals := 20 } : Room) s m args below meth c H locs 0 0 (MQ below (q_Q D cy lo Q) args s 0 0 (fun q => lo ≤ q)) (F0 m 90 ls [.int xs1, .ref as0]) := by
  have hx := X.1
  have hb := X.2.1
  unfold wb_X9_scanName_90 at h
  obtain ⟨k10_, h⟩ := h
  refine q_putI X Y kX9 8 rfl fl_X9_119 k10_ .int rfl ⟨rfl, rfl⟩ rfl dX9_scanName_90 (fun H locs Y => ?_)
  refine lv_aload_n hx hb dX9_scanName_93 rfl (lv_at hl 0 rfl) ?_
  obtain ⟨k11_, h⟩ := h
  refine q_getI X Y kX9 8 rfl fl_X9_119 k11_ dX9_scanName_94 ?_
  refine lv_iconst (v := 1) hx hb dX9_scanName_97 (by decide) ?_
  refine lv_icmp_ne (tgt := 102) hx hb dX9_scanName_98 (by decide) (fun c12_ => ?_) (fun c12_ => ?_)
  · replace h := h.1 c12_
    refine lv_iconst (v := 0) hx hb dX9_scanName_102 (by decide) ?_
    refine lv_istore_n (i := 1) (lv' := [(1, .int (0 : Int32)), (0, .ref a0)]) hx hb dX9_scanName_103 rfl hl (by decide) (by first | rfl | simp [q_cat, q_catI, q_catJ, q_catR]) (fun ls hl => ?_)
    obtain ⟨n13_, h⟩ := h
    exact cl_X9_scanName_104 X n13_ _ _ _ _ _ _ h Y (lv_sub hl [1, 0] rfl)
  · replace h := h.2 c12_
    exact q_vret X Y (Nat.le_refl _) (Nat.le_refl _) h dX9_scanName_101
def wb_X9_scanName_70  (S : q_S) (a0 : Nat) (Q : Option Value → q_S → Prop) : Prop := q_K S a0 = 10 ∧ (((((q_I S 1807 a0) - (q_I S 1811 a0)) ≤ (12 : Int32) → (wb_X9_scanName_90 S a0 a0 (2 : Int32) Q)) ∧ (¬ ((q_I S 1807 a0) - (q_I S 1811 a0)) ≤ (12 : Int32) → (wb_X9_scanName_90 S a0 a0 (1 : Int32) Q))))
set_option maxHeartbeats 4000000 in
set_option maxRecDepth 100000 in
theorem cb_X9_scanName_70 {p : Program} {l : Launch} {e : Env} {s : State} {m : MethodId} {args : Array Value} {below : List Frame} {meth : Method} {c : Code} {D : va_G} {cy : Nat → ClassId} {lo : Nat}  {S : q_S} {a0 : Nat} {Q : Option Value → q_S → Prop} {H : Heap} {locs : List Loc} {ls : Array Slot} (X : q_X p s m args meth c RX9 cX9_scanName 2 none D cy lo)  (Y : q_Y D cy lo s S H locs) (hl : lv_has ls 2 [(0, .ref a0)]) (h : wb_X9_scanName_70 S a0 Q) : W p l e ({ frames := 1, cells := 0, slots := 0, locals := 20 } : Room) s m args below meth c H locs 0 0 (MQ below (q_Q D cy lo Q) args s 0 0 (fun q => lo ≤ q)) (F0 m 70 ls []) := by
  have hx := X.1
  have hb := X.2.1
  unfold wb_X9_scanName_70 at h
  refine lv_aload_n hx hb dX9_scanName_70 rfl (lv_at hl 0 rfl) ?_
  refine lv_aload_n hx hb dX9_scanName_71 rfl (lv_at hl 0 rfl) ?_
  obtain ⟨k14_, h⟩ := h
  refine q_getI X Y kX9 7 rfl fl_X9_69 k14_ dX9_scanName_72 ?_
  refine lv_aload_n hx hb dX9_scanName_75 rfl (lv_at hl 0 rfl) ?_
  refine q_getI X Y kX9 11 rfl fl_X9_113 k14_ dX9_scanName_76 ?_
  refine lv_isub hx hb dX9_scanName_79 ?_
  refine lv_bipush (v := 12) hx hb dX9_scanName_80 (by decide) ?_
  refine lv_icmp_le (tgt := 89) hx hb dX9_scanName_82 (by decide) (fun c15_ => ?_) (fun c15_ => ?_)
  · replace h := h.1 c15_
    refine lv_iconst (v := 2) hx hb dX9_scanName_89 (by decide) ?_
    exact cb_X9_scanName_90 X Y (lv_sub hl [0] rfl) h
  · replace h := h.2 c15_
    refine lv_iconst (v := 1) hx hb dX9_scanName_85 (by decide) ?_
    refine lv_goto (tgt := 90) hx hb dX9_scanName_86 (by decide) ?_
    exact cb_X9_scanName_90 X Y (lv_sub hl [0] rfl) h
def wb_X9_scanName_5 (B5 : q_S → Nat → Prop) (S : q_S) (a0 : Nat) (Q : Option Value → q_S → Prop) : Prop := q_K S a0 = 10 ∧ ((((q_I S 1806 a0) ≤ (q_I S 1807 a0) → (wb_X9_scanName_70 S a0 Q)) ∧ (¬ (q_I S 1806 a0) ≤ (q_I S 1807 a0) → (∃ a18_ : Nat, (q_P S 1802 a0) = some a18_ ∧ (q_K S a18_ = 20 ∧ (vp_in (q_I S 1807 a0) (q_N S a18_) ∧ (wm_X11_nameDigit S (q_A S a18_ (q_I S 1807 a0).toNatClampNeg) (fun r22_ S23_ => ∃ x24_ : Int32, r22_ = some (.int x24_) ∧ (((x24_ = 0 → (wb_X9_scanName_70 S23_ a0 Q)) ∧ (¬ x24_ = 0 → (q_K S23_ a0 = 10 ∧ (∃ a27_ : Nat, (q_P S23_ 1802 a0) = some a27_ ∧ (q_K S23_ a27_ = 20 ∧ (vp_in (q_I S23_ 1807 a0) (q_N S23_ a27_) ∧ (wm_X11_nameDigit S23_ (q_A S23_ a27_ (q_I S23_ 1807 a0).toNatClampNeg) (fun r31_ S32_ => ∃ x33_ : Int32, r31_ = some (.int x33_) ∧ (q_K S32_ a0 = 10 ∧ (∀ S35_ : q_S, S35_ = (qs_I (qs_J S32_ 1810 a0 (((q_J S23_ 1810 a0) * (37 : Int64)) + (x33_.toInt64))) 1807 a0 ((q_I (qs_J S32_ 1810 a0 (((q_J S23_ 1810 a0) * (37 : Int64)) + (x33_.toInt64))) 1807 a0) + (1 : Int32))) → (B5 S35_ a0))))))))))))))))))))
set_option maxHeartbeats 4000000 in
set_option maxRecDepth 100000 in
theorem cb_X9_scanName_5 {p : Program} {l : Launch} {e : Env} {s : State} {m : MethodId} {args : Array Value} {below : List Frame} {meth : Method} {c : Code} {D : va_G} {cy : Nat → ClassId} {lo : Nat} {B5 : q_S → Nat → Prop} {S : q_S} {a0 : Nat} {Q : Option Value → q_S → Prop} {H : Heap} {locs : List Loc} {ls : Array Slot} (X : q_X p s m args meth c RX9 cX9_scanName 2 none D cy lo) (hB5 : ∀ (S : q_S) (a0 : Nat) (H : Heap) (locs : List Loc) (ls : Array Slot), B5 S a0 → q_Y D cy lo s S H locs → lv_has ls 2 [(0, .ref a0)] → W p l e ({ frames := 1, cells := 0, slots := 0, locals := 20 } : Room) s m args below meth c H locs 0 0 (MQ below (q_Q D cy lo Q) args s 0 0 (fun q => lo ≤ q)) (F0 m 5 ls [])) (Y : q_Y D cy lo s S H locs) (hl : lv_has ls 2 [(0, .ref a0)]) (h : wb_X9_scanName_5 B5 S a0 Q) : W p l e ({ frames := 1, cells := 0, slots := 0, locals := 20 } : Room) s m args below meth c H locs 0 0 (MQ below (q_Q D cy lo Q) args s 0 0 (fun q => lo ≤ q)) (F0 m 5 ls []) := by
  have hx := X.1
  have hb := X.2.1
  unfold wb_X9_scanName_5 at h
  refine lv_aload_n hx hb dX9_scanName_5 rfl (lv_at hl 0 rfl) ?_
  obtain ⟨k16_, h⟩ := h
  refine q_getI X Y kX9 7 rfl fl_X9_69 k16_ dX9_scanName_6 ?_
  refine lv_aload_n hx hb dX9_scanName_9 rfl (lv_at hl 0 rfl) ?_
  refine q_getI X Y kX9 6 rfl fl_X9_66 k16_ dX9_scanName_10 ?_
  refine lv_icmp_ge (tgt := 70) hx hb dX9_scanName_13 (by decide) (fun c17_ => ?_) (fun c17_ => ?_)
  · replace h := h.1 c17_
    exact cb_X9_scanName_70 X Y (lv_sub hl [0] rfl) h
  · replace h := h.2 c17_
    refine lv_aload_n hx hb dX9_scanName_16 rfl (lv_at hl 0 rfl) ?_
    refine q_getP X Y kX9 2 rfl fl_X9_18 k16_ rfl dX9_scanName_17 ?_
    refine lv_aload_n hx hb dX9_scanName_20 rfl (lv_at hl 0 rfl) ?_
    refine q_getI X Y kX9 7 rfl fl_X9_69 k16_ dX9_scanName_21 ?_
    obtain ⟨a18_, e19_, h⟩ := h
    refine q_nn [.int (q_I S 1807 a0)] e19_ ?_
    obtain ⟨k20_, h⟩ := h
    obtain ⟨i21_, h⟩ := h
    refine q_bld X Y k20_ i21_ dX9_scanName_24 ?_
    refine q_callSN X Y hl (cm_X11_nameDigit h) mt_X11_nameDigit ms_X11_nameDigit mn_X9_52 rfl rfl (by first | exact Nat.le_of_ble_eq_true rfl | simp [q_cat, q_catI, q_catJ, q_catR]) ⟨Nat.le_of_ble_eq_true rfl, Nat.le_of_ble_eq_true rfl⟩ ⟨Nat.le_of_ble_eq_true rfl, Nat.le_of_ble_eq_true rfl⟩ dX9_scanName_25 (fun r22_ S23_ H locs hp Y => ?_)
    obtain ⟨x24_, rfl, h⟩ := hp
    refine W.eq (g2 := F0 m 28 ls [.int x24_]) rfl ?_
    refine lv_if_eq (tgt := 70) hx hb dX9_scanName_28 (by decide) (fun c25_ => ?_) (fun c25_ => ?_)
    · replace h := h.1 c25_
      exact cb_X9_scanName_70 X Y (lv_sub hl [0] rfl) h
    · replace h := h.2 c25_
      refine lv_aload_n hx hb dX9_scanName_31 rfl (lv_at hl 0 rfl) ?_
      refine lv_aload_n hx hb dX9_scanName_32 rfl (lv_at hl 0 rfl) ?_
      obtain ⟨k26_, h⟩ := h
      refine q_getJ X Y kX9 10 rfl fl_X9_137 k26_ dX9_scanName_33 ?_
      refine lv_ldc2 (v := 37) hx hb X.2.2.2.1 (X.2.2.2.2.1 _ cp_X9_56) dX9_scanName_36 ?_
      refine lv_lmul hx hb dX9_scanName_39 ?_
      refine lv_aload_n hx hb dX9_scanName_40 rfl (lv_at hl 0 rfl) ?_
      refine q_getP X Y kX9 2 rfl fl_X9_18 k26_ rfl dX9_scanName_41 ?_
      refine lv_aload_n hx hb dX9_scanName_44 rfl (lv_at hl 0 rfl) ?_
      refine q_getI X Y kX9 7 rfl fl_X9_69 k26_ dX9_scanName_45 ?_
      obtain ⟨a27_, e28_, h⟩ := h
      refine q_nn [.int (q_I S23_ 1807 a0)] e28_ ?_
      obtain ⟨k29_, h⟩ := h
      obtain ⟨i30_, h⟩ := h
      refine q_bld X Y k29_ i30_ dX9_scanName_48 ?_
      refine q_callSN X Y hl (cm_X11_nameDigit h) mt_X11_nameDigit ms_X11_nameDigit mn_X9_52 rfl rfl (by first | exact Nat.le_of_ble_eq_true rfl | simp [q_cat, q_catI, q_catJ, q_catR]) ⟨Nat.le_of_ble_eq_true rfl, Nat.le_of_ble_eq_true rfl⟩ ⟨Nat.le_of_ble_eq_true rfl, Nat.le_of_ble_eq_true rfl⟩ dX9_scanName_49 (fun r31_ S32_ H locs hp Y => ?_)
      obtain ⟨x33_, rfl, h⟩ := hp
      refine W.eq (g2 := F0 m 52 ls [.int x33_, .long ((q_J S23_ 1810 a0) * (37 : Int64)), .ref a0]) rfl ?_
      refine lv_i2l hx hb dX9_scanName_52 rfl ?_
      refine lv_ladd hx hb dX9_scanName_53 ?_
      obtain ⟨k34_, h⟩ := h
      refine q_putJ X Y kX9 10 rfl fl_X9_137 k34_ rfl rfl dX9_scanName_54 (fun H locs Y => ?_)
      refine lv_aload_n hx hb dX9_scanName_57 rfl (lv_at hl 0 rfl) ?_
      refine lv_dup hx hb dX9_scanName_58 rfl ?_
      refine q_getI X Y kX9 7 rfl fl_X9_69 k34_ dX9_scanName_59 ?_
      refine lv_iconst (v := 1) hx hb dX9_scanName_62 (by decide) ?_
      refine lv_iadd hx hb dX9_scanName_63 ?_
      refine q_putI X Y kX9 7 rfl fl_X9_69 k34_ .int rfl ⟨rfl, rfl⟩ rfl dX9_scanName_64 (fun H locs Y => ?_)
      obtain ⟨S35_, gS35_⟩ : ∃ z : q_S, z = (qs_I (qs_J S32_ 1810 a0 (((q_J S23_ 1810 a0) * (37 : Int64)) + (x33_.toInt64))) 1807 a0 ((q_I (qs_J S32_ 1810 a0 (((q_J S23_ 1810 a0) * (37 : Int64)) + (x33_.toInt64))) 1807 a0) + (1 : Int32))) := ⟨_, rfl⟩
      replace Y : q_Y D cy lo s S35_ H locs := by rw [gS35_]; exact Y
      replace h := h S35_ gS35_
      replace k34_ : q_K S35_ a0 = 10 := by rw [gS35_]; exact k34_
      refine lv_goto (tgt := 5) hx hb dX9_scanName_67 (by decide) ?_
      exact hB5 _ _ _ _ _ h Y (lv_sub hl [0] rfl)
def wl_X9_scanName_5  : Nat → q_S → Nat → (Option Value → q_S → Prop) → Prop
  | 0, _, _, _ => False
  | n + 1, S, a0, Q => wb_X9_scanName_5 (fun S a0 => wl_X9_scanName_5 n S a0 Q) S a0 Q
set_option maxHeartbeats 4000000 in
set_option maxRecDepth 100000 in
theorem cl_X9_scanName_5 {p : Program} {l : Launch} {e : Env} {s : State} {m : MethodId} {args : Array Value} {below : List Frame} {meth : Method} {c : Code} {D : va_G} {cy : Nat → ClassId} {lo : Nat}  {Q : Option Value → q_S → Prop} (X : q_X p s m args meth c RX9 cX9_scanName 2 none D cy lo)  : ∀ (n : Nat) (S : q_S) (a0 : Nat) (H : Heap) (locs : List Loc) (ls : Array Slot), wl_X9_scanName_5 n S a0 Q → q_Y D cy lo s S H locs → lv_has ls 2 [(0, .ref a0)] → W p l e ({ frames := 1, cells := 0, slots := 0, locals := 20 } : Room) s m args below meth c H locs 0 0 (MQ below (q_Q D cy lo Q) args s 0 0 (fun q => lo ≤ q)) (F0 m 5 ls []) := by
  intro n
  induction n with
  | zero => intro S a0 H locs ls h; exact absurd h id
  | succ n ih => intro S a0 H locs ls h Y hl; exact cb_X9_scanName_5 X ih Y hl h
def wm_X9_scanName (S : q_S) (a0 : Nat) (Q : Option Value → q_S → Prop) : Prop := q_K S a0 = 10 ∧ (∃ n37_ : Nat, wl_X9_scanName_5 n37_ (qs_J S 1810 a0 (0 : Int64)) a0 Q)
set_option maxHeartbeats 4000000 in
set_option maxRecDepth 100000 in
theorem cm_X9_scanName {l : Launch} {D : va_G} {cy : Nat → ClassId} {lo : Nat} {S : q_S} {a0 : Nat} {Q : Option Value → q_S → Prop} (h : wm_X9_scanName S a0 Q) : q_Met l D cy lo yX9_scanName cX9_scanName 2 none 1 20 0 0 [.ref a0] S Q := by
  refine q_body (by decide) (by first | exact Nat.le_of_ble_eq_true rfl | simp [lg_sl, q_cat, q_catI, q_catJ, q_catR]) ?_
  intro p e s m below meth c ls X hnm Y hl
  have hx := X.1
  have hb := X.2.1
  have hl : lv_has ls 2 [(0, .ref a0)] := by first | exact hl | simpa [lv_args, q_cat, q_catI, q_catJ, q_catR] using hl
  generalize hargs : ([.ref a0] : List Value).toArray = args at X ⊢
  unfold wm_X9_scanName at h
  refine lv_aload_n hx hb dX9_scanName_0 rfl (lv_at hl 0 rfl) ?_
  refine lv_lconst (v := 0) hx hb dX9_scanName_1 (by decide) ?_
  obtain ⟨k36_, h⟩ := h
  refine q_putJ X Y kX9 10 rfl fl_X9_137 k36_ rfl rfl dX9_scanName_2 (fun H locs Y => ?_)
  obtain ⟨n37_, h⟩ := h
  exact cl_X9_scanName_5 X n37_ _ _ _ _ _ h Y (lv_sub hl [0] rfl)
-- X9_scanNumber
theorem dX9_scanNumber_0 : decode cX9_scanNumber 0 = .ok (.aload_n 0, 1) := by decide +kernel
theorem dX9_scanNumber_1 : decode cX9_scanNumber 1 = .ok (.iconst 0, 1) := by decide +kernel
theorem dX9_scanNumber_2 : decode cX9_scanNumber 2 = .ok (.putfield 116, 3) := by decide +kernel
theorem dX9_scanNumber_5 : decode cX9_scanNumber 5 = .ok (.aload_n 0, 1) := by decide +kernel
theorem dX9_scanNumber_6 : decode cX9_scanNumber 6 = .ok (.getfield 69, 3) := by decide +kernel
theorem dX9_scanNumber_9 : decode cX9_scanNumber 9 = .ok (.aload_n 0, 1) := by decide +kernel
theorem dX9_scanNumber_10 : decode cX9_scanNumber 10 = .ok (.getfield 66, 3) := by decide +kernel
theorem dX9_scanNumber_13 : decode cX9_scanNumber 13 = .ok (.if_icmp .ge 89, 3) := by decide +kernel
theorem dX9_scanNumber_16 : decode cX9_scanNumber 16 = .ok (.aload_n 0, 1) := by decide +kernel
theorem dX9_scanNumber_17 : decode cX9_scanNumber 17 = .ok (.getfield 18, 3) := by decide +kernel
theorem dX9_scanNumber_20 : decode cX9_scanNumber 20 = .ok (.aload_n 0, 1) := by decide +kernel
theorem dX9_scanNumber_21 : decode cX9_scanNumber 21 = .ok (.getfield 69, 3) := by decide +kernel
theorem dX9_scanNumber_24 : decode cX9_scanNumber 24 = .ok (.baload, 1) := by decide +kernel
theorem dX9_scanNumber_25 : decode cX9_scanNumber 25 = .ok (.bipush 48, 2) := by decide +kernel
theorem dX9_scanNumber_27 : decode cX9_scanNumber 27 = .ok (.if_icmp .lt 75, 3) := by decide +kernel
theorem dX9_scanNumber_30 : decode cX9_scanNumber 30 = .ok (.aload_n 0, 1) := by decide +kernel
theorem dX9_scanNumber_31 : decode cX9_scanNumber 31 = .ok (.getfield 18, 3) := by decide +kernel
theorem dX9_scanNumber_34 : decode cX9_scanNumber 34 = .ok (.aload_n 0, 1) := by decide +kernel
theorem dX9_scanNumber_35 : decode cX9_scanNumber 35 = .ok (.getfield 69, 3) := by decide +kernel
theorem dX9_scanNumber_38 : decode cX9_scanNumber 38 = .ok (.baload, 1) := by decide +kernel
theorem dX9_scanNumber_39 : decode cX9_scanNumber 39 = .ok (.bipush 57, 2) := by decide +kernel
theorem dX9_scanNumber_41 : decode cX9_scanNumber 41 = .ok (.if_icmp .gt 61, 3) := by decide +kernel
theorem dX9_scanNumber_44 : decode cX9_scanNumber 44 = .ok (.aload_n 0, 1) := by decide +kernel
theorem dX9_scanNumber_45 : decode cX9_scanNumber 45 = .ok (.aload_n 0, 1) := by decide +kernel
theorem dX9_scanNumber_46 : decode cX9_scanNumber 46 = .ok (.getfield 69, 3) := by decide +kernel
theorem dX9_scanNumber_49 : decode cX9_scanNumber 49 = .ok (.aload_n 0, 1) := by decide +kernel
theorem dX9_scanNumber_50 : decode cX9_scanNumber 50 = .ok (.getfield 113, 3) := by decide +kernel
theorem dX9_scanNumber_53 : decode cX9_scanNumber 53 = .ok (.isub, 1) := by decide +kernel
theorem dX9_scanNumber_54 : decode cX9_scanNumber 54 = .ok (.bipush 6, 2) := by decide +kernel
theorem dX9_scanNumber_56 : decode cX9_scanNumber 56 = .ok (.if_icmp .ge 26, 3) := by decide +kernel
theorem dX9_scanNumber_59 : decode cX9_scanNumber 59 = .ok (.aload_n 0, 1) := by decide +kernel
theorem dX9_scanNumber_60 : decode cX9_scanNumber 60 = .ok (.getfield 116, 3) := by decide +kernel
theorem dX9_scanNumber_63 : decode cX9_scanNumber 63 = .ok (.bipush 10, 2) := by decide +kernel
theorem dX9_scanNumber_65 : decode cX9_scanNumber 65 = .ok (.imul, 1) := by decide +kernel
theorem dX9_scanNumber_66 : decode cX9_scanNumber 66 = .ok (.aload_n 0, 1) := by decide +kernel
theorem dX9_scanNumber_67 : decode cX9_scanNumber 67 = .ok (.getfield 18, 3) := by decide +kernel
theorem dX9_scanNumber_70 : decode cX9_scanNumber 70 = .ok (.aload_n 0, 1) := by decide +kernel
theorem dX9_scanNumber_71 : decode cX9_scanNumber 71 = .ok (.getfield 69, 3) := by decide +kernel
theorem dX9_scanNumber_74 : decode cX9_scanNumber 74 = .ok (.baload, 1) := by decide +kernel
theorem dX9_scanNumber_75 : decode cX9_scanNumber 75 = .ok (.iadd, 1) := by decide +kernel
theorem dX9_scanNumber_76 : decode cX9_scanNumber 76 = .ok (.bipush 48, 2) := by decide +kernel
theorem dX9_scanNumber_78 : decode cX9_scanNumber 78 = .ok (.isub, 1) := by decide +kernel
theorem dX9_scanNumber_79 : decode cX9_scanNumber 79 = .ok (.goto 7, 3) := by decide +kernel
theorem dX9_scanNumber_82 : decode cX9_scanNumber 82 = .ok (.aload_n 0, 1) := by decide +kernel
theorem dX9_scanNumber_83 : decode cX9_scanNumber 83 = .ok (.getfield 116, 3) := by decide +kernel
theorem dX9_scanNumber_86 : decode cX9_scanNumber 86 = .ok (.putfield 116, 3) := by decide +kernel
theorem dX9_scanNumber_89 : decode cX9_scanNumber 89 = .ok (.aload_n 0, 1) := by decide +kernel
theorem dX9_scanNumber_90 : decode cX9_scanNumber 90 = .ok (.dup, 1) := by decide +kernel
theorem dX9_scanNumber_91 : decode cX9_scanNumber 91 = .ok (.getfield 69, 3) := by decide +kernel
theorem dX9_scanNumber_94 : decode cX9_scanNumber 94 = .ok (.iconst 1, 1) := by decide +kernel
theorem dX9_scanNumber_95 : decode cX9_scanNumber 95 = .ok (.iadd, 1) := by decide +kernel
theorem dX9_scanNumber_96 : decode cX9_scanNumber 96 = .ok (.putfield 69, 3) := by decide +kernel
theorem dX9_scanNumber_99 : decode cX9_scanNumber 99 = .ok (.goto (-94), 3) := by decide +kernel
theorem dX9_scanNumber_102 : decode cX9_scanNumber 102 = .ok (.aload_n 0, 1) := by decide +kernel
theorem dX9_scanNumber_103 : decode cX9_scanNumber 103 = .ok (.aload_n 0, 1) := by decide +kernel
theorem dX9_scanNumber_104 : decode cX9_scanNumber 104 = .ok (.getfield 69, 3) := by decide +kernel
theorem dX9_scanNumber_107 : decode cX9_scanNumber 107 = .ok (.aload_n 0, 1) := by decide +kernel
theorem dX9_scanNumber_108 : decode cX9_scanNumber 108 = .ok (.getfield 113, 3) := by decide +kernel
theorem dX9_scanNumber_111 : decode cX9_scanNumber 111 = .ok (.isub, 1) := by decide +kernel
theorem dX9_scanNumber_112 : decode cX9_scanNumber 112 = .ok (.bipush 6, 2) := by decide +kernel
theorem dX9_scanNumber_114 : decode cX9_scanNumber 114 = .ok (.if_icmp .le 7, 3) := by decide +kernel
theorem dX9_scanNumber_117 : decode cX9_scanNumber 117 = .ok (.iconst 1, 1) := by decide +kernel
theorem dX9_scanNumber_118 : decode cX9_scanNumber 118 = .ok (.goto 4, 3) := by decide +kernel
theorem dX9_scanNumber_121 : decode cX9_scanNumber 121 = .ok (.iconst 3, 1) := by decide +kernel
theorem dX9_scanNumber_122 : decode cX9_scanNumber 122 = .ok (.putfield 119, 3) := by decide +kernel
theorem dX9_scanNumber_125 : decode cX9_scanNumber 125 = .ok (.return_, 1) := by decide +kernel
def wb_X9_scanNumber_86 (B5 : q_S → Nat → Prop) (S : q_S) (a0 : Nat) (as0 : Nat) (xs1 : Int32) (Q : Option Value → q_S → Prop) : Prop := q_K S as0 = 10 ∧ (q_K (qs_I S 1809 as0 xs1) a0 = 10 ∧ (∀ S3_ : q_S, S3_ = (qs_I (qs_I S 1809 as0 xs1) 1807 a0 ((q_I (qs_I S 1809 as0 xs1) 1807 a0) + (1 : Int32))) → (B5 S3_ a0)))
set_option maxHeartbeats 4000000 in
set_option maxRecDepth 100000 in
theorem cb_X9_scanNumber_86 {p : Program} {l : Launch} {e : Env} {s : State} {m : MethodId} {args : Array Value} {below : List Frame} {meth : Method} {c : Code} {D : va_G} {cy : Nat → ClassId} {lo : Nat} {B5 : q_S → Nat → Prop} {S : q_S} {a0 : Nat} {as0 : Nat} {xs1 : Int32} {Q : Option Value → q_S → Prop} {H : Heap} {locs : List Loc} {ls : Array Slot} (X : q_X p s m args meth c RX9 cX9_scanNumber 1 none D cy lo) (hB5 : ∀ (S : q_S) (a0 : Nat) (H : Heap) (locs : List Loc) (ls : Array Slot), B5 S a0 → q_Y D cy lo s S H locs → lv_has ls 1 [(0, .ref a0)] → W p l e ({ frames := 0, cells := 0, slots := 0, locals := 0 } : Room) s m args below meth c H locs 0 0 (MQ below (q_Q D cy lo Q) args s 0 0 (fun q => lo ≤ q)) (F0 m 5 ls [])) (Y : q_Y D cy lo s S H locs) (hl : lv_has ls 1 [(0, .ref a0)]) (h : wb_X9_scanNumber_86 B5 S a0 as0 xs1 Q) : W p l e ({ frames := 0, cells := 0, slots := 0, locals := 0 } : Room) s m args below meth c H locs 0 0 (MQ below (q_Q D cy lo Q) args s 0 0 (fun q => lo ≤ q)) (F0 m 86 ls [.int xs1, .ref as0]) := by
  have hx := X.1
  have hb := X.2.1
  unfold wb_X9_scanNumber_86 at h
  obtain ⟨k1_, h⟩ := h
  refine q_putI X Y kX9 9 rfl fl_X9_116 k1_ .int rfl ⟨rfl, rfl⟩ rfl dX9_scanNumber_86 (fun H locs Y => ?_)
  refine lv_aload_n hx hb dX9_scanNumber_89 rfl (lv_at hl 0 rfl) ?_
  refine lv_dup hx hb dX9_scanNumber_90 rfl ?_
  obtain ⟨k2_, h⟩ := h
  refine q_getI X Y kX9 7 rfl fl_X9_69 k2_ dX9_scanNumber_91 ?_
  refine lv_iconst (v := 1) hx hb dX9_scanNumber_94 (by decide) ?_
  refine lv_iadd hx hb dX9_scanNumber_95 ?_
  refine q_putI X Y kX9 7 rfl fl_X9_69 k2_ .int rfl ⟨rfl, rfl⟩ rfl dX9_scanNumber_96 (fun H locs Y => ?_)
  obtain ⟨S3_, gS3_⟩ : ∃ z : q_S, z = (qs_I (qs_I S 1809 as0 xs1) 1807 a0 ((q_I (qs_I S 1809 as0 xs1) 1807 a0) + (1 : Int32))) := ⟨_, rfl⟩
  replace Y : q_Y D cy lo s S3_ H locs := by rw [gS3_]; exact Y
  replace h := h S3_ gS3_
  replace k1_ : q_K S3_ as0 = 10 := by rw [gS3_]; exact k1_
  replace k2_ : q_K S3_ a0 = 10 := by rw [gS3_]; exact k2_
  refine lv_goto (tgt := 5) hx hb dX9_scanNumber_99 (by decide) ?_
  exact hB5 _ _ _ _ _ h Y (lv_sub hl [0] rfl)
def wb_X9_scanNumber_122  (S : q_S) (as0 : Nat) (xs1 : Int32) (Q : Option Value → q_S → Prop) : Prop := q_K S as0 = 10 ∧ (Q none (qs_I S 1808 as0 xs1))
set_option maxHeartbeats 4000000 in
set_option maxRecDepth 100000 in
theorem cb_X9_scanNumber_122 {p : Program} {l : Launch} {e : Env} {s : State} {m : MethodId} {args : Array Value} {below : List Frame} {meth : Method} {c : Code} {D : va_G} {cy : Nat → ClassId} {lo : Nat}  {S : q_S} {as0 : Nat} {xs1 : Int32} {Q : Option Value → q_S → Prop} {H : Heap} {locs : List Loc} {ls : Array Slot} (X : q_X p s m args meth c RX9 cX9_scanNumber 1 none D cy lo)  (Y : q_Y D cy lo s S H locs) (hl : lv_has ls 1 []) (h : wb_X9_scanNumber_122 S as0 xs1 Q) : W p l e ({ frames := 0, cells := 0, slots := 0, locals := 0 } : Room) s m args below meth c H locs 0 0 (MQ below (q_Q D cy lo Q) args s 0 0 (fun q => lo ≤ q)) (F0 m 122 ls [.int xs1, .ref as0]) := by
  have hx := X.1
  have hb := X.2.1
  unfold wb_X9_scanNumber_122 at h
  obtain ⟨k4_, h⟩ := h
  refine q_putI X Y kX9 8 rfl fl_X9_119 k4_ .int rfl ⟨rfl, rfl⟩ rfl dX9_scanNumber_122 (fun H locs Y => ?_)
  exact q_vret X Y (Nat.le_refl _) (Nat.le_refl _) h dX9_scanNumber_125
def wb_X9_scanNumber_102  (S : q_S) (a0 : Nat) (Q : Option Value → q_S → Prop) : Prop := q_K S a0 = 10 ∧ (((((q_I S 1807 a0) - (q_I S 1811 a0)) ≤ (6 : Int32) → (wb_X9_scanNumber_122 S a0 (3 : Int32) Q)) ∧ (¬ ((q_I S 1807 a0) - (q_I S 1811 a0)) ≤ (6 : Int32) → (wb_X9_scanNumber_122 S a0 (1 : Int32) Q))))
set_option maxHeartbeats 4000000 in
set_option maxRecDepth 100000 in
theorem cb_X9_scanNumber_102 {p : Program} {l : Launch} {e : Env} {s : State} {m : MethodId} {args : Array Value} {below : List Frame} {meth : Method} {c : Code} {D : va_G} {cy : Nat → ClassId} {lo : Nat}  {S : q_S} {a0 : Nat} {Q : Option Value → q_S → Prop} {H : Heap} {locs : List Loc} {ls : Array Slot} (X : q_X p s m args meth c RX9 cX9_scanNumber 1 none D cy lo)  (Y : q_Y D cy lo s S H locs) (hl : lv_has ls 1 [(0, .ref a0)]) (h : wb_X9_scanNumber_102 S a0 Q) : W p l e ({ frames := 0, cells := 0, slots := 0, locals := 0 } : Room) s m args below meth c H locs 0 0 (MQ below (q_Q D cy lo Q) args s 0 0 (fun q => lo ≤ q)) (F0 m 102 ls []) := by
  have hx := X.1
  have hb := X.2.1
  unfold wb_X9_scanNumber_102 at h
  refine lv_aload_n hx hb dX9_scanNumber_102 rfl (lv_at hl 0 rfl) ?_
  refine lv_aload_n hx hb dX9_scanNumber_103 rfl (lv_at hl 0 rfl) ?_
  obtain ⟨k5_, h⟩ := h
  refine q_getI X Y kX9 7 rfl fl_X9_69 k5_ dX9_scanNumber_104 ?_
  refine lv_aload_n hx hb dX9_scanNumber_107 rfl (lv_at hl 0 rfl) ?_
  refine q_getI X Y kX9 11 rfl fl_X9_113 k5_ dX9_scanNumber_108 ?_
  refine lv_isub hx hb dX9_scanNumber_111 ?_
  refine lv_bipush (v := 6) hx hb dX9_scanNumber_112 (by decide) ?_
  refine lv_icmp_le (tgt := 121) hx hb dX9_scanNumber_114 (by decide) (fun c6_ => ?_) (fun c6_ => ?_)
  · replace h := h.1 c6_
    refine lv_iconst (v := 3) hx hb dX9_scanNumber_121 (by decide) ?_
    exact cb_X9_scanNumber_122 X Y (lv_sub hl [] rfl) h
  · replace h := h.2 c6_
    refine lv_iconst (v := 1) hx hb dX9_scanNumber_117 (by decide) ?_
    refine lv_goto (tgt := 122) hx hb dX9_scanNumber_118 (by decide) ?_
    exact cb_X9_scanNumber_122 X Y (lv_sub hl [] rfl) h
def wb_X9_scanNumber_5 (B5 : q_S → Nat → Prop) (S : q_S) (a0 : Nat) (Q : Option Value → q_S → Prop) : Prop := q_K S a0 = 10 ∧ ((((q_I S 1806 a0) ≤ (q_I S 1807 a0) → (wb_X9_scanNumber_102 S a0 Q)) ∧ (¬ (q_I S 1806 a0) ≤ (q_I S 1807 a0) → (∃ a9_ : Nat, (q_P S 1802 a0) = some a9_ ∧ (q_K S a9_ = 20 ∧ (vp_in (q_I S 1807 a0) (q_N S a9_) ∧ ((((q_A S a9_ (q_I S 1807 a0).toNatClampNeg) < (48 : Int32) → (wb_X9_scanNumber_102 S a0 Q)) ∧ (¬ (q_A S a9_ (q_I S 1807 a0).toNatClampNeg) < (48 : Int32) → (vp_in (q_I S 1807 a0) (q_N S a9_) ∧ ((((57 : Int32) < (q_A S a9_ (q_I S 1807 a0).toNatClampNeg) → (wb_X9_scanNumber_102 S a0 Q)) ∧ (¬ (57 : Int32) < (q_A S a9_ (q_I S 1807 a0).toNatClampNeg) → ((((6 : Int32) ≤ ((q_I S 1807 a0) - (q_I S 1811 a0)) → (wb_X9_scanNumber_86 B5 S a0 a0 (q_I S 1809 a0) Q)) ∧ (¬ (6 : Int32) ≤ ((q_I S 1807 a0) - (q_I S 1811 a0)) → (vp_in (q_I S 1807 a0) (q_N S a9_) ∧ (wb_X9_scanNumber_86 B5 S a0 a0 ((((q_I S 1809 a0) * (10 : Int32)) + (q_A S a9_ (q_I S 1807 a0).toNatClampNeg)) - (48 : Int32)) Q))))))))))))))))))
set_option maxHeartbeats 4000000 in
set_option maxRecDepth 100000 in
theorem cb_X9_scanNumber_5 {p : Program} {l : Launch} {e : Env} {s : State} {m : MethodId} {args : Array Value} {below : List Frame} {meth : Method} {c : Code} {D : va_G} {cy : Nat → ClassId} {lo : Nat} {B5 : q_S → Nat → Prop} {S : q_S} {a0 : Nat} {Q : Option Value → q_S → Prop} {H : Heap} {locs : List Loc} {ls : Array Slot} (X : q_X p s m args meth c RX9 cX9_scanNumber 1 none D cy lo) (hB5 : ∀ (S : q_S) (a0 : Nat) (H : Heap) (locs : List Loc) (ls : Array Slot), B5 S a0 → q_Y D cy lo s S H locs → lv_has ls 1 [(0, .ref a0)] → W p l e ({ frames := 0, cells := 0, slots := 0, locals := 0 } : Room) s m args below meth c H locs 0 0 (MQ below (q_Q D cy lo Q) args s 0 0 (fun q => lo ≤ q)) (F0 m 5 ls [])) (Y : q_Y D cy lo s S H locs) (hl : lv_has ls 1 [(0, .ref a0)]) (h : wb_X9_scanNumber_5 B5 S a0 Q) : W p l e ({ frames := 0, cells := 0, slots := 0, locals := 0 } : Room) s m args below meth c H locs 0 0 (MQ below (q_Q D cy lo Q) args s 0 0 (fun q => lo ≤ q)) (F0 m 5 ls []) := by
  have hx := X.1
  have hb := X.2.1
  unfold wb_X9_scanNumber_5 at h
  refine lv_aload_n hx hb dX9_scanNumber_5 rfl (lv_at hl 0 rfl) ?_
  obtain ⟨k7_, h⟩ := h
  refine q_getI X Y kX9 7 rfl fl_X9_69 k7_ dX9_scanNumber_6 ?_
  refine lv_aload_n hx hb dX9_scanNumber_9 rfl (lv_at hl 0 rfl) ?_
  refine q_getI X Y kX9 6 rfl fl_X9_66 k7_ dX9_scanNumber_10 ?_
  refine lv_icmp_ge (tgt := 102) hx hb dX9_scanNumber_13 (by decide) (fun c8_ => ?_) (fun c8_ => ?_)
  · replace h := h.1 c8_
    exact cb_X9_scanNumber_102 X Y (lv_sub hl [0] rfl) h
  · replace h := h.2 c8_
    refine lv_aload_n hx hb dX9_scanNumber_16 rfl (lv_at hl 0 rfl) ?_
    refine q_getP X Y kX9 2 rfl fl_X9_18 k7_ rfl dX9_scanNumber_17 ?_
    refine lv_aload_n hx hb dX9_scanNumber_20 rfl (lv_at hl 0 rfl) ?_
    refine q_getI X Y kX9 7 rfl fl_X9_69 k7_ dX9_scanNumber_21 ?_
    obtain ⟨a9_, e10_, h⟩ := h
    refine q_nn [.int (q_I S 1807 a0)] e10_ ?_
    obtain ⟨k11_, h⟩ := h
    obtain ⟨i12_, h⟩ := h
    refine q_bld X Y k11_ i12_ dX9_scanNumber_24 ?_
    refine lv_bipush (v := 48) hx hb dX9_scanNumber_25 (by decide) ?_
    refine lv_icmp_lt (tgt := 102) hx hb dX9_scanNumber_27 (by decide) (fun c13_ => ?_) (fun c13_ => ?_)
    · replace h := h.1 c13_
      exact cb_X9_scanNumber_102 X Y (lv_sub hl [0] rfl) h
    · replace h := h.2 c13_
      refine lv_aload_n hx hb dX9_scanNumber_30 rfl (lv_at hl 0 rfl) ?_
      refine q_getR X Y kX9 2 rfl fl_X9_18 k7_ e10_ dX9_scanNumber_31 ?_
      refine lv_aload_n hx hb dX9_scanNumber_34 rfl (lv_at hl 0 rfl) ?_
      refine q_getI X Y kX9 7 rfl fl_X9_69 k7_ dX9_scanNumber_35 ?_
      obtain ⟨i14_, h⟩ := h
      refine q_bld X Y k11_ i14_ dX9_scanNumber_38 ?_
      refine lv_bipush (v := 57) hx hb dX9_scanNumber_39 (by decide) ?_
      refine lv_icmp_gt (tgt := 102) hx hb dX9_scanNumber_41 (by decide) (fun c15_ => ?_) (fun c15_ => ?_)
      · replace h := h.1 c15_
        exact cb_X9_scanNumber_102 X Y (lv_sub hl [0] rfl) h
      · replace h := h.2 c15_
        refine lv_aload_n hx hb dX9_scanNumber_44 rfl (lv_at hl 0 rfl) ?_
        refine lv_aload_n hx hb dX9_scanNumber_45 rfl (lv_at hl 0 rfl) ?_
        refine q_getI X Y kX9 7 rfl fl_X9_69 k7_ dX9_scanNumber_46 ?_
        refine lv_aload_n hx hb dX9_scanNumber_49 rfl (lv_at hl 0 rfl) ?_
        refine q_getI X Y kX9 11 rfl fl_X9_113 k7_ dX9_scanNumber_50 ?_
        refine lv_isub hx hb dX9_scanNumber_53 ?_
        refine lv_bipush (v := 6) hx hb dX9_scanNumber_54 (by decide) ?_
        refine lv_icmp_ge (tgt := 82) hx hb dX9_scanNumber_56 (by decide) (fun c16_ => ?_) (fun c16_ => ?_)
        · replace h := h.1 c16_
          refine lv_aload_n hx hb dX9_scanNumber_82 rfl (lv_at hl 0 rfl) ?_
          refine q_getI X Y kX9 9 rfl fl_X9_116 k7_ dX9_scanNumber_83 ?_
          exact cb_X9_scanNumber_86 X hB5 Y (lv_sub hl [0] rfl) h
        · replace h := h.2 c16_
          refine lv_aload_n hx hb dX9_scanNumber_59 rfl (lv_at hl 0 rfl) ?_
          refine q_getI X Y kX9 9 rfl fl_X9_116 k7_ dX9_scanNumber_60 ?_
          refine lv_bipush (v := 10) hx hb dX9_scanNumber_63 (by decide) ?_
          refine lv_imul hx hb dX9_scanNumber_65 ?_
          refine lv_aload_n hx hb dX9_scanNumber_66 rfl (lv_at hl 0 rfl) ?_
          refine q_getR X Y kX9 2 rfl fl_X9_18 k7_ e10_ dX9_scanNumber_67 ?_
          refine lv_aload_n hx hb dX9_scanNumber_70 rfl (lv_at hl 0 rfl) ?_
          refine q_getI X Y kX9 7 rfl fl_X9_69 k7_ dX9_scanNumber_71 ?_
          obtain ⟨i17_, h⟩ := h
          refine q_bld X Y k11_ i17_ dX9_scanNumber_74 ?_
          refine lv_iadd hx hb dX9_scanNumber_75 ?_
          refine lv_bipush (v := 48) hx hb dX9_scanNumber_76 (by decide) ?_
          refine lv_isub hx hb dX9_scanNumber_78 ?_
          refine lv_goto (tgt := 86) hx hb dX9_scanNumber_79 (by decide) ?_
          exact cb_X9_scanNumber_86 X hB5 Y (lv_sub hl [0] rfl) h
def wl_X9_scanNumber_5  : Nat → q_S → Nat → (Option Value → q_S → Prop) → Prop
  | 0, _, _, _ => False
  | n + 1, S, a0, Q => wb_X9_scanNumber_5 (fun S a0 => wl_X9_scanNumber_5 n S a0 Q) S a0 Q
set_option maxHeartbeats 4000000 in
set_option maxRecDepth 100000 in
theorem cl_X9_scanNumber_5 {p : Program} {l : Launch} {e : Env} {s : State} {m : MethodId} {args : Array Value} {below : List Frame} {meth : Method} {c : Code} {D : va_G} {cy : Nat → ClassId} {lo : Nat}  {Q : Option Value → q_S → Prop} (X : q_X p s m args meth c RX9 cX9_scanNumber 1 none D cy lo)  : ∀ (n : Nat) (S : q_S) (a0 : Nat) (H : Heap) (locs : List Loc) (ls : Array Slot), wl_X9_scanNumber_5 n S a0 Q → q_Y D cy lo s S H locs → lv_has ls 1 [(0, .ref a0)] → W p l e ({ frames := 0, cells := 0, slots := 0, locals := 0 } : Room) s m args below meth c H locs 0 0 (MQ below (q_Q D cy lo Q) args s 0 0 (fun q => lo ≤ q)) (F0 m 5 ls []) := by
  intro n
  induction n with
  | zero => intro S a0 H locs ls h; exact absurd h id
  | succ n ih => intro S a0 H locs ls h Y hl; exact cb_X9_scanNumber_5 X ih Y hl h
def wm_X9_scanNumber (S : q_S) (a0 : Nat) (Q : Option Value → q_S → Prop) : Prop := q_K S a0 = 10 ∧ (∃ n19_ : Nat, wl_X9_scanNumber_5 n19_ (qs_I S 1809 a0 (0 : Int32)) a0 Q)
set_option maxHeartbeats 4000000 in
set_option maxRecDepth 100000 in
theorem cm_X9_scanNumber {l : Launch} {D : va_G} {cy : Nat → ClassId} {lo : Nat} {S : q_S} {a0 : Nat} {Q : Option Value → q_S → Prop} (h : wm_X9_scanNumber S a0 Q) : q_Met l D cy lo yX9_scanNumber cX9_scanNumber 1 none 0 0 0 0 [.ref a0] S Q := by
  refine q_body (by decide) (by first | exact Nat.le_of_ble_eq_true rfl | simp [lg_sl, q_cat, q_catI, q_catJ, q_catR]) ?_
  intro p e s m below meth c ls X hnm Y hl
  have hx := X.1
  have hb := X.2.1
  have hl : lv_has ls 1 [(0, .ref a0)] := by first | exact hl | simpa [lv_args, q_cat, q_catI, q_catJ, q_catR] using hl
  generalize hargs : ([.ref a0] : List Value).toArray = args at X ⊢
  unfold wm_X9_scanNumber at h
  refine lv_aload_n hx hb dX9_scanNumber_0 rfl (lv_at hl 0 rfl) ?_
  refine lv_iconst (v := 0) hx hb dX9_scanNumber_1 (by decide) ?_
  obtain ⟨k18_, h⟩ := h
  refine q_putI X Y kX9 9 rfl fl_X9_116 k18_ .int rfl ⟨rfl, rfl⟩ rfl dX9_scanNumber_2 (fun H locs Y => ?_)
  obtain ⟨n19_, h⟩ := h
  exact cl_X9_scanNumber_5 X n19_ _ _ _ _ _ h Y (lv_sub hl [0] rfl)
-- J1_canEncode_9a6ad
theorem dJ1_canEncode_9a6ad_0 : decode cJ1_canEncode_9a6ad 0 = .ok (.iload_n 0, 1) := by decide +kernel
theorem dJ1_canEncode_9a6ad_1 : decode cJ1_canEncode_9a6ad 1 = .ok (.ifCond .lt 14, 3) := by decide +kernel
theorem dJ1_canEncode_9a6ad_4 : decode cJ1_canEncode_9a6ad 4 = .ok (.iload_n 0, 1) := by decide +kernel
theorem dJ1_canEncode_9a6ad_5 : decode cJ1_canEncode_9a6ad 5 = .ok (.sipush 255, 3) := by decide +kernel
theorem dJ1_canEncode_9a6ad_8 : decode cJ1_canEncode_9a6ad 8 = .ok (.if_icmp .gt 7, 3) := by decide +kernel
theorem dJ1_canEncode_9a6ad_11 : decode cJ1_canEncode_9a6ad 11 = .ok (.iconst 1, 1) := by decide +kernel
theorem dJ1_canEncode_9a6ad_12 : decode cJ1_canEncode_9a6ad 12 = .ok (.goto 4, 3) := by decide +kernel
theorem dJ1_canEncode_9a6ad_15 : decode cJ1_canEncode_9a6ad 15 = .ok (.iconst 0, 1) := by decide +kernel
theorem dJ1_canEncode_9a6ad_16 : decode cJ1_canEncode_9a6ad 16 = .ok (.ireturn, 1) := by decide +kernel
def wb_J1_canEncode_9a6ad_16  (S : q_S) (xs0 : Int32) (Q : Option Value → q_S → Prop) : Prop := (narrow .boolean (.int xs0) = .int xs0 ∧ Q (some (.int xs0)) S)
set_option maxHeartbeats 4000000 in
set_option maxRecDepth 100000 in
theorem cb_J1_canEncode_9a6ad_16 {p : Program} {l : Launch} {e : Env} {s : State} {m : MethodId} {args : Array Value} {below : List Frame} {meth : Method} {c : Code} {D : va_G} {cy : Nat → ClassId} {lo : Nat}  {S : q_S} {xs0 : Int32} {Q : Option Value → q_S → Prop} {H : Heap} {locs : List Loc} {ls : Array Slot} (X : q_X p s m args meth c RJ1 cJ1_canEncode_9a6ad 1 (some .boolean) D cy lo)  (Y : q_Y D cy lo s S H locs) (hl : lv_has ls 1 []) (h : wb_J1_canEncode_9a6ad_16 S xs0 Q) : W p l e ({ frames := 0, cells := 0, slots := 0, locals := 0 } : Room) s m args below meth c H locs 0 0 (MQ below (q_Q D cy lo Q) args s 0 0 (fun q => lo ≤ q)) (F0 m 16 ls [.int xs0]) := by
  have hx := X.1
  have hb := X.2.1
  unfold wb_J1_canEncode_9a6ad_16 at h
  exact q_iret X Y h.1 (Nat.le_refl _) (Nat.le_refl _) h.2 dJ1_canEncode_9a6ad_16
def wb_J1_canEncode_9a6ad_15  (S : q_S) (Q : Option Value → q_S → Prop) : Prop := wb_J1_canEncode_9a6ad_16 S (0 : Int32) Q
set_option maxHeartbeats 4000000 in
set_option maxRecDepth 100000 in
theorem cb_J1_canEncode_9a6ad_15 {p : Program} {l : Launch} {e : Env} {s : State} {m : MethodId} {args : Array Value} {below : List Frame} {meth : Method} {c : Code} {D : va_G} {cy : Nat → ClassId} {lo : Nat}  {S : q_S} {Q : Option Value → q_S → Prop} {H : Heap} {locs : List Loc} {ls : Array Slot} (X : q_X p s m args meth c RJ1 cJ1_canEncode_9a6ad 1 (some .boolean) D cy lo)  (Y : q_Y D cy lo s S H locs) (hl : lv_has ls 1 []) (h : wb_J1_canEncode_9a6ad_15 S Q) : W p l e ({ frames := 0, cells := 0, slots := 0, locals := 0 } : Room) s m args below meth c H locs 0 0 (MQ below (q_Q D cy lo Q) args s 0 0 (fun q => lo ≤ q)) (F0 m 15 ls []) := by
  have hx := X.1
  have hb := X.2.1
  unfold wb_J1_canEncode_9a6ad_15 at h
  refine lv_iconst (v := 0) hx hb dJ1_canEncode_9a6ad_15 (by decide) ?_
  exact cb_J1_canEncode_9a6ad_16 X Y (lv_sub hl [] rfl) h
def wm_J1_canEncode_9a6ad (S : q_S) (x0 : Int32) (Q : Option Value → q_S → Prop) : Prop := ((x0 < 0 → (wb_J1_canEncode_9a6ad_15 S Q)) ∧ (¬ x0 < 0 → ((((255 : Int32) < x0 → (wb_J1_canEncode_9a6ad_15 S Q)) ∧ (¬ (255 : Int32) < x0 → (wb_J1_canEncode_9a6ad_16 S (1 : Int32) Q))))))
set_option maxHeartbeats 4000000 in
set_option maxRecDepth 100000 in
theorem cm_J1_canEncode_9a6ad {l : Launch} {D : va_G} {cy : Nat → ClassId} {lo : Nat} {S : q_S} {x0 : Int32} {Q : Option Value → q_S → Prop} (h : wm_J1_canEncode_9a6ad S x0 Q) : q_Met l D cy lo yJ1_canEncode_9a6ad cJ1_canEncode_9a6ad 1 (some .boolean) 0 0 0 0 [.int x0] S Q := by
  refine q_body (by decide) (by first | exact Nat.le_of_ble_eq_true rfl | simp [lg_sl, q_cat, q_catI, q_catJ, q_catR]) ?_
  intro p e s m below meth c ls X hnm Y hl
  have hx := X.1
  have hb := X.2.1
  have hl : lv_has ls 1 [(0, .int x0)] := by first | exact hl | simpa [lv_args, q_cat, q_catI, q_catJ, q_catR] using hl
  generalize hargs : ([.int x0] : List Value).toArray = args at X ⊢
  unfold wm_J1_canEncode_9a6ad at h
  refine lv_iload_n hx hb dJ1_canEncode_9a6ad_0 rfl (lv_at hl 0 rfl) ?_
  refine lv_if_lt (tgt := 15) hx hb dJ1_canEncode_9a6ad_1 (by decide) (fun c1_ => ?_) (fun c1_ => ?_)
  · replace h := h.1 c1_
    exact cb_J1_canEncode_9a6ad_15 X Y (lv_sub hl [] rfl) h
  · replace h := h.2 c1_
    refine lv_iload_n hx hb dJ1_canEncode_9a6ad_4 rfl (lv_at hl 0 rfl) ?_
    refine lv_sipush (v := 255) hx hb dJ1_canEncode_9a6ad_5 (by decide) ?_
    refine lv_icmp_gt (tgt := 15) hx hb dJ1_canEncode_9a6ad_8 (by decide) (fun c2_ => ?_) (fun c2_ => ?_)
    · replace h := h.1 c2_
      exact cb_J1_canEncode_9a6ad_15 X Y (lv_sub hl [] rfl) h
    · replace h := h.2 c2_
      refine lv_iconst (v := 1) hx hb dJ1_canEncode_9a6ad_11 (by decide) ?_
      refine lv_goto (tgt := 16) hx hb dJ1_canEncode_9a6ad_12 (by decide) ?_
      exact cb_J1_canEncode_9a6ad_16 X Y (lv_sub hl [] rfl) h
-- J1_indexOfChar_4cfef
theorem dJ1_indexOfChar_4cfef_0 : decode cJ1_indexOfChar_4cfef 0 = .ok (.iload_n 1, 1) := by decide +kernel
theorem dJ1_indexOfChar_4cfef_1 : decode cJ1_indexOfChar_4cfef 1 = .ok (.i2b, 1) := by decide +kernel
theorem dJ1_indexOfChar_4cfef_2 : decode cJ1_indexOfChar_4cfef 2 = .ok (.istore 4, 2) := by decide +kernel
theorem dJ1_indexOfChar_4cfef_4 : decode cJ1_indexOfChar_4cfef 4 = .ok (.iload_n 2, 1) := by decide +kernel
theorem dJ1_indexOfChar_4cfef_5 : decode cJ1_indexOfChar_4cfef 5 = .ok (.istore 5, 2) := by decide +kernel
theorem dJ1_indexOfChar_4cfef_7 : decode cJ1_indexOfChar_4cfef 7 = .ok (.iload 5, 2) := by decide +kernel
theorem dJ1_indexOfChar_4cfef_9 : decode cJ1_indexOfChar_4cfef 9 = .ok (.iload_n 3, 1) := by decide +kernel
theorem dJ1_indexOfChar_4cfef_10 : decode cJ1_indexOfChar_4cfef 10 = .ok (.if_icmp .ge 21, 3) := by decide +kernel
theorem dJ1_indexOfChar_4cfef_13 : decode cJ1_indexOfChar_4cfef 13 = .ok (.aload_n 0, 1) := by decide +kernel
theorem dJ1_indexOfChar_4cfef_14 : decode cJ1_indexOfChar_4cfef 14 = .ok (.iload 5, 2) := by decide +kernel
theorem dJ1_indexOfChar_4cfef_16 : decode cJ1_indexOfChar_4cfef 16 = .ok (.baload, 1) := by decide +kernel
theorem dJ1_indexOfChar_4cfef_17 : decode cJ1_indexOfChar_4cfef 17 = .ok (.iload 4, 2) := by decide +kernel
theorem dJ1_indexOfChar_4cfef_19 : decode cJ1_indexOfChar_4cfef 19 = .ok (.if_icmp .ne 6, 3) := by decide +kernel
theorem dJ1_indexOfChar_4cfef_22 : decode cJ1_indexOfChar_4cfef 22 = .ok (.iload 5, 2) := by decide +kernel
theorem dJ1_indexOfChar_4cfef_24 : decode cJ1_indexOfChar_4cfef 24 = .ok (.ireturn, 1) := by decide +kernel
theorem dJ1_indexOfChar_4cfef_25 : decode cJ1_indexOfChar_4cfef 25 = .ok (.iinc 5 1, 3) := by decide +kernel
theorem dJ1_indexOfChar_4cfef_28 : decode cJ1_indexOfChar_4cfef 28 = .ok (.goto (-21), 3) := by decide +kernel
theorem dJ1_indexOfChar_4cfef_31 : decode cJ1_indexOfChar_4cfef 31 = .ok (.iconst (-1), 1) := by decide +kernel
theorem dJ1_indexOfChar_4cfef_32 : decode cJ1_indexOfChar_4cfef 32 = .ok (.ireturn, 1) := by decide +kernel
def wb_J1_indexOfChar_4cfef_7 (B7 : q_S → Option Nat → Int32 → Int32 → Int32 → Prop) (S : q_S) (r0 : Option Nat) (x3 : Int32) (x4 : Int32) (x5 : Int32) (Q : Option Value → q_S → Prop) : Prop := ((x3 ≤ x5 → (Q (some (.int (-1 : Int32))) S)) ∧ (¬ x3 ≤ x5 → (∃ a2_ : Nat, r0 = some a2_ ∧ (q_K S a2_ = 31 ∧ (vp_in x5 (q_sl.getD (q_N S a2_) 0) ∧ (((¬ ((q_sb.getD (q_N S a2_) []).getD x5.toNatClampNeg 0) = x4 → (B7 S r0 x3 x4 (x5 + 1))) ∧ (((q_sb.getD (q_N S a2_) []).getD x5.toNatClampNeg 0) = x4 → (Q (some (.int x5)) S)))))))))
set_option maxHeartbeats 4000000 in
set_option maxRecDepth 100000 in
theorem cb_J1_indexOfChar_4cfef_7 {p : Program} {l : Launch} {e : Env} {s : State} {m : MethodId} {args : Array Value} {below : List Frame} {meth : Method} {c : Code} {D : va_G} {cy : Nat → ClassId} {lo : Nat} {B7 : q_S → Option Nat → Int32 → Int32 → Int32 → Prop} {S : q_S} {r0 : Option Nat} {x3 : Int32} {x4 : Int32} {x5 : Int32} {Q : Option Value → q_S → Prop} {H : Heap} {locs : List Loc} {ls : Array Slot} (X : q_X p s m args meth c RJ1 cJ1_indexOfChar_4cfef 6 (some .int) D cy lo) (hB7 : ∀ (S : q_S) (r0 : Option Nat) (x3 : Int32) (x4 : Int32) (x5 : Int32) (H : Heap) (locs : List Loc) (ls : Array Slot), B7 S r0 x3 x4 x5 → q_Y D cy lo s S H locs → lv_has ls 6 [(0, va_rf r0), (3, .int x3), (4, .int x4), (5, .int x5)] → W p l e ({ frames := 0, cells := 0, slots := 0, locals := 0 } : Room) s m args below meth c H locs 0 0 (MQ below (q_Q D cy lo Q) args s 0 0 (fun q => lo ≤ q)) (F0 m 7 ls [])) (Y : q_Y D cy lo s S H locs) (hl : lv_has ls 6 [(0, va_rf r0), (3, .int x3), (4, .int x4), (5, .int x5)]) (h : wb_J1_indexOfChar_4cfef_7 B7 S r0 x3 x4 x5 Q) : W p l e ({ frames := 0, cells := 0, slots := 0, locals := 0 } : Room) s m args below meth c H locs 0 0 (MQ below (q_Q D cy lo Q) args s 0 0 (fun q => lo ≤ q)) (F0 m 7 ls []) := by
  have hx := X.1
  have hb := X.2.1
  unfold wb_J1_indexOfChar_4cfef_7 at h
  refine lv_iload hx hb dJ1_indexOfChar_4cfef_7 (lv_at hl 3 rfl) ?_
  refine lv_iload_n hx hb dJ1_indexOfChar_4cfef_9 rfl (lv_at hl 1 rfl) ?_
  refine lv_icmp_ge (tgt := 31) hx hb dJ1_indexOfChar_4cfef_10 (by decide) (fun c1_ => ?_) (fun c1_ => ?_)
  · replace h := h.1 c1_
    refine lv_iconst (v := (-1)) hx hb dJ1_indexOfChar_4cfef_31 (by decide) ?_
    exact q_iret X Y rfl (Nat.le_refl _) (Nat.le_refl _) h dJ1_indexOfChar_4cfef_32
  · replace h := h.2 c1_
    refine q_aload_n hx hb dJ1_indexOfChar_4cfef_13 rfl (lv_at hl 0 rfl) ?_
    refine lv_iload hx hb dJ1_indexOfChar_4cfef_14 (lv_at hl 3 rfl) ?_
    obtain ⟨a2_, e3_, h⟩ := h
    refine q_nn [.int x5] e3_ ?_
    obtain ⟨k4_, h⟩ := h
    obtain ⟨i5_, h⟩ := h
    refine q_sbld X Y k4_ i5_ dJ1_indexOfChar_4cfef_16 ?_
    refine lv_iload hx hb dJ1_indexOfChar_4cfef_17 (lv_at hl 2 rfl) ?_
    refine lv_icmp_ne (tgt := 25) hx hb dJ1_indexOfChar_4cfef_19 (by decide) (fun c6_ => ?_) (fun c6_ => ?_)
    · replace h := h.1 c6_
      refine lv_iinc (v := (x5 + 1)) (lv' := [(5, .int (x5 + 1)), (0, va_rf r0), (3, .int x3), (4, .int x4)]) hx hb dJ1_indexOfChar_4cfef_25 hl (k := 3) rfl (by first | rfl | decide) (by decide) (by first | rfl | simp [q_cat, q_catI, q_catJ, q_catR]) (fun ls hl => ?_)
      refine lv_goto (tgt := 7) hx hb dJ1_indexOfChar_4cfef_28 (by decide) ?_
      exact hB7 _ _ _ _ _ _ _ _ h Y (lv_sub hl [1, 2, 3, 0] rfl)
    · replace h := h.2 c6_
      refine lv_iload hx hb dJ1_indexOfChar_4cfef_22 (lv_at hl 3 rfl) ?_
      exact q_iret X Y rfl (Nat.le_refl _) (Nat.le_refl _) h dJ1_indexOfChar_4cfef_24
def wl_J1_indexOfChar_4cfef_7  : Nat → q_S → Option Nat → Int32 → Int32 → Int32 → (Option Value → q_S → Prop) → Prop
  | 0, _, _, _, _, _, _ => False
  | n + 1, S, r0, x3, x4, x5, Q => wb_J1_indexOfChar_4cfef_7 (fun S r0 x3 x4 x5 => wl_J1_indexOfChar_4cfef_7 n S r0 x3 x4 x5 Q) S r0 x3 x4 x5 Q
set_option maxHeartbeats 4000000 in
set_option maxRecDepth 100000 in
theorem cl_J1_indexOfChar_4cfef_7 {p : Program} {l : Launch} {e : Env} {s : State} {m : MethodId} {args : Array Value} {below : List Frame} {meth : Method} {c : Code} {D : va_G} {cy : Nat → ClassId} {lo : Nat}  {Q : Option Value → q_S → Prop} (X : q_X p s m args meth c RJ1 cJ1_indexOfChar_4cfef 6 (some .int) D cy lo)  : ∀ (n : Nat) (S : q_S) (r0 : Option Nat) (x3 : Int32) (x4 : Int32) (x5 : Int32) (H : Heap) (locs : List Loc) (ls : Array Slot), wl_J1_indexOfChar_4cfef_7 n S r0 x3 x4 x5 Q → q_Y D cy lo s S H locs → lv_has ls 6 [(0, va_rf r0), (3, .int x3), (4, .int x4), (5, .int x5)] → W p l e ({ frames := 0, cells := 0, slots := 0, locals := 0 } : Room) s m args below meth c H locs 0 0 (MQ below (q_Q D cy lo Q) args s 0 0 (fun q => lo ≤ q)) (F0 m 7 ls []) := by
  intro n
  induction n with
  | zero => intro S r0 x3 x4 x5 H locs ls h; exact absurd h id
  | succ n ih => intro S r0 x3 x4 x5 H locs ls h Y hl; exact cb_J1_indexOfChar_4cfef_7 X ih Y hl h
def wm_J1_indexOfChar_4cfef (S : q_S) (r0 : Option Nat) (x1 : Int32) (x2 : Int32) (x3 : Int32) (Q : Option Value → q_S → Prop) : Prop := ∃ n7_ : Nat, wl_J1_indexOfChar_4cfef_7 n7_ S r0 x3 (x1.toInt8.toInt32) x2 Q
set_option maxHeartbeats 4000000 in
set_option maxRecDepth 100000 in
theorem cm_J1_indexOfChar_4cfef {l : Launch} {D : va_G} {cy : Nat → ClassId} {lo : Nat} {S : q_S} {r0 : Option Nat} {x1 : Int32} {x2 : Int32} {x3 : Int32} {Q : Option Value → q_S → Prop} (h : wm_J1_indexOfChar_4cfef S r0 x1 x2 x3 Q) : q_Met l D cy lo yJ1_indexOfChar_4cfef cJ1_indexOfChar_4cfef 6 (some .int) 0 0 0 0 [va_rf r0, .int x1, .int x2, .int x3] S Q := by
  refine q_body (by decide) (by first | exact Nat.le_of_ble_eq_true rfl | simp [lg_sl, q_cat, q_catI, q_catJ, q_catR]) ?_
  intro p e s m below meth c ls X hnm Y hl
  have hx := X.1
  have hb := X.2.1
  have hl : lv_has ls 6 [(0, va_rf r0), (1, .int x1), (2, .int x2), (3, .int x3)] := by first | exact hl | simpa [lv_args, q_cat, q_catI, q_catJ, q_catR] using hl
  generalize hargs : ([va_rf r0, .int x1, .int x2, .int x3] : List Value).toArray = args at X ⊢
  unfold wm_J1_indexOfChar_4cfef at h
  refine lv_iload_n hx hb dJ1_indexOfChar_4cfef_0 rfl (lv_at hl 1 rfl) ?_
  refine lv_i2b hx hb dJ1_indexOfChar_4cfef_1 rfl ?_
  refine lv_istore (i := 4) (lv' := [(4, .int (x1.toInt8.toInt32)), (0, va_rf r0), (1, .int x1), (2, .int x2), (3, .int x3)]) hx hb dJ1_indexOfChar_4cfef_2 hl (by decide) (by first | rfl | simp [q_cat, q_catI, q_catJ, q_catR]) (fun ls hl => ?_)
  refine lv_iload_n hx hb dJ1_indexOfChar_4cfef_4 rfl (lv_at hl 3 rfl) ?_
  refine lv_istore (i := 5) (lv' := [(5, .int x2), (4, .int (x1.toInt8.toInt32)), (0, va_rf r0), (1, .int x1), (2, .int x2), (3, .int x3)]) hx hb dJ1_indexOfChar_4cfef_5 hl (by decide) (by first | rfl | simp [q_cat, q_catI, q_catJ, q_catR]) (fun ls hl => ?_)
  obtain ⟨n7_, h⟩ := h
  exact cl_J1_indexOfChar_4cfef_7 X n7_ _ _ _ _ _ _ _ _ h Y (lv_sub hl [2, 5, 1, 0] rfl)
-- J1_indexOf_4cfef
theorem ml_J1_88 : Cond.methodLink RJ1 88 yJ1_canEncode_9a6ad ∈ q_G := q_tb (i := 507) (by decide +kernel) (by decide +kernel)
theorem mt_J1_canEncode_9a6ad : q_Mt yJ1_canEncode_9a6ad cJ1_canEncode_9a6ad 1 (some .boolean) 1 := ⟨q_tb (i := 509) (by decide +kernel) (by decide +kernel), q_tb (i := 6) (by decide +kernel) (by decide +kernel), by decide +kernel, by decide +kernel, by decide +kernel⟩
theorem ms_J1_canEncode_9a6ad : Cond.static yJ1_canEncode_9a6ad ∈ q_G := q_tb (i := 508) (by decide +kernel) (by decide +kernel)
theorem mx_J1_92 : Cond.methodLink RJ1 92 Lib.Math.max.name ∈ q_G := q_tb (i := 510) (by decide +kernel) (by decide +kernel)
theorem mx_J1_38 : Cond.methodLink RJ1 38 Lib.Math.min.name ∈ q_G := q_tb (i := 513) (by decide +kernel) (by decide +kernel)
theorem mxs_min : Cond.static Lib.Math.min.name ∈ q_G := q_tb (i := 514) (by decide +kernel) (by decide +kernel)
theorem mxc_min : Cond.code Lib.Math.min.name Lib.Math.min.code 2 (some .int) ∈ q_G := q_tb (i := 515) (by decide +kernel) (by decide +kernel)
theorem ml_J1_95 : Cond.methodLink RJ1 95 yJ1_indexOfChar_4cfef ∈ q_G := q_tb (i := 516) (by decide +kernel) (by decide +kernel)
theorem mt_J1_indexOfChar_4cfef : q_Mt yJ1_indexOfChar_4cfef cJ1_indexOfChar_4cfef 6 (some .int) 4 := ⟨q_tb (i := 518) (by decide +kernel) (by decide +kernel), q_tb (i := 6) (by decide +kernel) (by decide +kernel), by decide +kernel, by decide +kernel, by decide +kernel⟩
theorem ms_J1_indexOfChar_4cfef : Cond.static yJ1_indexOfChar_4cfef ∈ q_G := q_tb (i := 517) (by decide +kernel) (by decide +kernel)
theorem dJ1_indexOf_4cfef_0 : decode cJ1_indexOf_4cfef 0 = .ok (.iload_n 1, 1) := by decide +kernel
theorem dJ1_indexOf_4cfef_1 : decode cJ1_indexOf_4cfef 1 = .ok (.invokestatic 88, 3) := by decide +kernel
theorem dJ1_indexOf_4cfef_4 : decode cJ1_indexOf_4cfef 4 = .ok (.ifCond .ne 5, 3) := by decide +kernel
theorem dJ1_indexOf_4cfef_7 : decode cJ1_indexOf_4cfef 7 = .ok (.iconst (-1), 1) := by decide +kernel
theorem dJ1_indexOf_4cfef_8 : decode cJ1_indexOf_4cfef 8 = .ok (.ireturn, 1) := by decide +kernel
theorem dJ1_indexOf_4cfef_9 : decode cJ1_indexOf_4cfef 9 = .ok (.iload_n 2, 1) := by decide +kernel
theorem dJ1_indexOf_4cfef_10 : decode cJ1_indexOf_4cfef 10 = .ok (.iconst 0, 1) := by decide +kernel
theorem dJ1_indexOf_4cfef_11 : decode cJ1_indexOf_4cfef 11 = .ok (.invokestatic 92, 3) := by decide +kernel
theorem dJ1_indexOf_4cfef_14 : decode cJ1_indexOf_4cfef 14 = .ok (.istore_n 2, 1) := by decide +kernel
theorem dJ1_indexOf_4cfef_15 : decode cJ1_indexOf_4cfef 15 = .ok (.iload_n 3, 1) := by decide +kernel
theorem dJ1_indexOf_4cfef_16 : decode cJ1_indexOf_4cfef 16 = .ok (.aload_n 0, 1) := by decide +kernel
theorem dJ1_indexOf_4cfef_17 : decode cJ1_indexOf_4cfef 17 = .ok (.arraylength, 1) := by decide +kernel
theorem dJ1_indexOf_4cfef_18 : decode cJ1_indexOf_4cfef 18 = .ok (.invokestatic 38, 3) := by decide +kernel
theorem dJ1_indexOf_4cfef_21 : decode cJ1_indexOf_4cfef 21 = .ok (.istore_n 3, 1) := by decide +kernel
theorem dJ1_indexOf_4cfef_22 : decode cJ1_indexOf_4cfef 22 = .ok (.iload_n 2, 1) := by decide +kernel
theorem dJ1_indexOf_4cfef_23 : decode cJ1_indexOf_4cfef 23 = .ok (.iload_n 3, 1) := by decide +kernel
theorem dJ1_indexOf_4cfef_24 : decode cJ1_indexOf_4cfef 24 = .ok (.if_icmp .lt 5, 3) := by decide +kernel
theorem dJ1_indexOf_4cfef_27 : decode cJ1_indexOf_4cfef 27 = .ok (.iconst (-1), 1) := by decide +kernel
theorem dJ1_indexOf_4cfef_28 : decode cJ1_indexOf_4cfef 28 = .ok (.ireturn, 1) := by decide +kernel
theorem dJ1_indexOf_4cfef_29 : decode cJ1_indexOf_4cfef 29 = .ok (.aload_n 0, 1) := by decide +kernel
theorem dJ1_indexOf_4cfef_30 : decode cJ1_indexOf_4cfef 30 = .ok (.iload_n 1, 1) := by decide +kernel
theorem dJ1_indexOf_4cfef_31 : decode cJ1_indexOf_4cfef 31 = .ok (.iload_n 2, 1) := by decide +kernel
theorem dJ1_indexOf_4cfef_32 : decode cJ1_indexOf_4cfef 32 = .ok (.iload_n 3, 1) := by decide +kernel
theorem dJ1_indexOf_4cfef_33 : decode cJ1_indexOf_4cfef 33 = .ok (.invokestatic 95, 3) := by decide +kernel
theorem dJ1_indexOf_4cfef_36 : decode cJ1_indexOf_4cfef 36 = .ok (.ireturn, 1) := by decide +kernel
def wm_J1_indexOf_4cfef (S : q_S) (r0 : Option Nat) (x1 : Int32) (x2 : Int32) (x3 : Int32) (Q : Option Value → q_S → Prop) : Prop := wm_J1_canEncode_9a6ad S x1 (fun r1_ S2_ => ∃ x3_ : Int32, r1_ = some (.int x3_) ∧ (((¬ x3_ = 0 → (∃ a5_ : Nat, r0 = some a5_ ∧ (q_K S2_ a5_ = 31 ∧ ((((if x2 < (0 : Int32) then (0 : Int32) else x2) < (if (nI (q_sl.getD (q_N S2_ a5_) 0)) < x3 then (nI (q_sl.getD (q_N S2_ a5_) 0)) else x3) → (wm_J1_indexOfChar_4cfef S2_ r0 x1 (if x2 < (0 : Int32) then (0 : Int32) else x2) (if (nI (q_sl.getD (q_N S2_ a5_) 0)) < x3 then (nI (q_sl.getD (q_N S2_ a5_) 0)) else x3) (fun r9_ S10_ => ∃ x11_ : Int32, r9_ = some (.int x11_) ∧ (Q (some (.int x11_)) S10_)))) ∧ (¬ (if x2 < (0 : Int32) then (0 : Int32) else x2) < (if (nI (q_sl.getD (q_N S2_ a5_) 0)) < x3 then (nI (q_sl.getD (q_N S2_ a5_) 0)) else x3) → (Q (some (.int (-1 : Int32))) S2_))))))) ∧ (x3_ = 0 → (Q (some (.int (-1 : Int32))) S2_)))))
set_option maxHeartbeats 4000000 in
set_option maxRecDepth 100000 in
theorem cm_J1_indexOf_4cfef {l : Launch} {D : va_G} {cy : Nat → ClassId} {lo : Nat} {S : q_S} {r0 : Option Nat} {x1 : Int32} {x2 : Int32} {x3 : Int32} {Q : Option Value → q_S → Prop} (h : wm_J1_indexOf_4cfef S r0 x1 x2 x3 Q) : q_Met l D cy lo yJ1_indexOf_4cfef cJ1_indexOf_4cfef 4 (some .int) 1 30 0 0 [va_rf r0, .int x1, .int x2, .int x3] S Q := by
  refine q_body (by decide) (by first | exact Nat.le_of_ble_eq_true rfl | simp [lg_sl, q_cat, q_catI, q_catJ, q_catR]) ?_
  intro p e s m below meth c ls X hnm Y hl
  have hx := X.1
  have hb := X.2.1
  have hl : lv_has ls 4 [(0, va_rf r0), (1, .int x1), (2, .int x2), (3, .int x3)] := by first | exact hl | simpa [lv_args, q_cat, q_catI, q_catJ, q_catR] using hl
  generalize hargs : ([va_rf r0, .int x1, .int x2, .int x3] : List Value).toArray = args at X ⊢
  unfold wm_J1_indexOf_4cfef at h
  refine lv_iload_n hx hb dJ1_indexOf_4cfef_0 rfl (lv_at hl 1 rfl) ?_
  refine q_callS X Y hl (cm_J1_canEncode_9a6ad h) mt_J1_canEncode_9a6ad ms_J1_canEncode_9a6ad ml_J1_88 rfl rfl (by first | exact Nat.le_of_ble_eq_true rfl | simp [q_cat, q_catI, q_catJ, q_catR]) ⟨Nat.le_of_ble_eq_true rfl, Nat.le_of_ble_eq_true rfl⟩ ⟨Nat.le_of_ble_eq_true rfl, Nat.le_of_ble_eq_true rfl⟩ dJ1_indexOf_4cfef_1 (fun r1_ S2_ H locs hp Y => ?_)
  obtain ⟨x3_, rfl, h⟩ := hp
  refine W.eq (g2 := F0 m 4 ls [.int x3_]) rfl ?_
  refine lv_if_ne (tgt := 9) hx hb dJ1_indexOf_4cfef_4 (by decide) (fun c4_ => ?_) (fun c4_ => ?_)
  · replace h := h.1 c4_
    refine lv_iload_n hx hb dJ1_indexOf_4cfef_9 rfl (lv_at hl 2 rfl) ?_
    refine lv_iconst (v := 0) hx hb dJ1_indexOf_4cfef_10 (by decide) ?_
    refine va_mmax hx hb (X.2.2.1.trans hl.1.symm) X.2.2.2.1 (X.2.2.2.2.1 _ mx_J1_92) (X.2.2.2.2.1 _ mxs_max) (X.2.2.2.2.1 _ mxi_) (X.2.2.2.2.1 _ mxc_max) (Nat.le_of_ble_eq_true rfl) (by first | exact Nat.le_of_ble_eq_true rfl | simp [q_cat, q_catI, q_catJ, q_catR]) (Nat.le_refl _) (Nat.le_refl _) dJ1_indexOf_4cfef_11 ?_
    refine lv_istore_n (i := 2) (lv' := [(2, .int (if x2 < (0 : Int32) then (0 : Int32) else x2)), (0, va_rf r0), (1, .int x1), (3, .int x3)]) hx hb dJ1_indexOf_4cfef_14 rfl hl (by decide) (by first | rfl | simp [q_cat, q_catI, q_catJ, q_catR]) (fun ls hl => ?_)
    refine lv_iload_n hx hb dJ1_indexOf_4cfef_15 rfl (lv_at hl 3 rfl) ?_
    refine q_aload_n hx hb dJ1_indexOf_4cfef_16 rfl (lv_at hl 1 rfl) ?_
    obtain ⟨a5_, e6_, h⟩ := h
    refine q_nn [] e6_ ?_
    obtain ⟨k7_, h⟩ := h
    refine q_slen X Y k7_ dJ1_indexOf_4cfef_17 ?_
    refine va_mmin hx hb (X.2.2.1.trans hl.1.symm) X.2.2.2.1 (X.2.2.2.2.1 _ mx_J1_38) (X.2.2.2.2.1 _ mxs_min) (X.2.2.2.2.1 _ mxi_) (X.2.2.2.2.1 _ mxc_min) (Nat.le_of_ble_eq_true rfl) (by first | exact Nat.le_of_ble_eq_true rfl | simp [q_cat, q_catI, q_catJ, q_catR]) (Nat.le_refl _) (Nat.le_refl _) dJ1_indexOf_4cfef_18 ?_
    refine lv_istore_n (i := 3) (lv' := [(3, .int (if (nI (q_sl.getD (q_N S2_ a5_) 0)) < x3 then (nI (q_sl.getD (q_N S2_ a5_) 0)) else x3)), (2, .int (if x2 < (0 : Int32) then (0 : Int32) else x2)), (0, va_rf r0), (1, .int x1)]) hx hb dJ1_indexOf_4cfef_21 rfl hl (by decide) (by first | rfl | simp [q_cat, q_catI, q_catJ, q_catR]) (fun ls hl => ?_)
    refine lv_iload_n hx hb dJ1_indexOf_4cfef_22 rfl (lv_at hl 1 rfl) ?_
    refine lv_iload_n hx hb dJ1_indexOf_4cfef_23 rfl (lv_at hl 0 rfl) ?_
    refine lv_icmp_lt (tgt := 29) hx hb dJ1_indexOf_4cfef_24 (by decide) (fun c8_ => ?_) (fun c8_ => ?_)
    · replace h := h.1 c8_
      refine q_aload_n hx hb dJ1_indexOf_4cfef_29 rfl (lv_at hl 2 rfl) ?_
      refine lv_iload_n hx hb dJ1_indexOf_4cfef_30 rfl (lv_at hl 3 rfl) ?_
      refine lv_iload_n hx hb dJ1_indexOf_4cfef_31 rfl (lv_at hl 1 rfl) ?_
      refine lv_iload_n hx hb dJ1_indexOf_4cfef_32 rfl (lv_at hl 0 rfl) ?_
      refine q_callS X Y hl (cm_J1_indexOfChar_4cfef h) mt_J1_indexOfChar_4cfef ms_J1_indexOfChar_4cfef ml_J1_95 rfl rfl (by first | exact Nat.le_of_ble_eq_true rfl | simp [q_cat, q_catI, q_catJ, q_catR]) ⟨Nat.le_of_ble_eq_true rfl, Nat.le_of_ble_eq_true rfl⟩ ⟨Nat.le_of_ble_eq_true rfl, Nat.le_of_ble_eq_true rfl⟩ dJ1_indexOf_4cfef_33 (fun r9_ S10_ H locs hp Y => ?_)
      obtain ⟨x11_, rfl, h⟩ := hp
      refine W.eq (g2 := F0 m 36 ls [.int x11_]) rfl ?_
      exact q_iret X Y rfl (Nat.le_refl _) (Nat.le_refl _) h dJ1_indexOf_4cfef_36
    · replace h := h.2 c8_
      refine lv_iconst (v := (-1)) hx hb dJ1_indexOf_4cfef_27 (by decide) ?_
      exact q_iret X Y rfl (Nat.le_refl _) (Nat.le_refl _) h dJ1_indexOf_4cfef_28
  · replace h := h.2 c4_
    refine lv_iconst (v := (-1)) hx hb dJ1_indexOf_4cfef_7 (by decide) ?_
    exact q_iret X Y rfl (Nat.le_refl _) (Nat.le_refl _) h dJ1_indexOf_4cfef_8
-- J0_indexOf_7cf53
theorem ml_J0_505 : Cond.methodLink RJ0 505 yJ0_length_8abf5 ∈ q_G := q_tb (i := 503) (by decide +kernel) (by decide +kernel)
theorem ml_J0_637 : Cond.methodLink RJ0 637 yJ1_indexOf_4cfef ∈ q_G := q_tb (i := 504) (by decide +kernel) (by decide +kernel)
theorem mt_J1_indexOf_4cfef : q_Mt yJ1_indexOf_4cfef cJ1_indexOf_4cfef 4 (some .int) 4 := ⟨q_tb (i := 506) (by decide +kernel) (by decide +kernel), q_tb (i := 6) (by decide +kernel) (by decide +kernel), by decide +kernel, by decide +kernel, by decide +kernel⟩
theorem ms_J1_indexOf_4cfef : Cond.static yJ1_indexOf_4cfef ∈ q_G := q_tb (i := 505) (by decide +kernel) (by decide +kernel)
theorem dJ0_indexOf_7cf53_0 : decode cJ0_indexOf_7cf53 0 = .ok (.aload_n 0, 1) := by decide +kernel
theorem dJ0_indexOf_7cf53_1 : decode cJ0_indexOf_7cf53 1 = .ok (.invokevirtual 492, 3) := by decide +kernel
theorem dJ0_indexOf_7cf53_4 : decode cJ0_indexOf_7cf53 4 = .ok (.ifCond .eq 19, 3) := by decide +kernel
theorem dJ0_indexOf_7cf53_7 : decode cJ0_indexOf_7cf53 7 = .ok (.aload_n 0, 1) := by decide +kernel
theorem dJ0_indexOf_7cf53_8 : decode cJ0_indexOf_7cf53 8 = .ok (.getfield 9, 3) := by decide +kernel
theorem dJ0_indexOf_7cf53_11 : decode cJ0_indexOf_7cf53 11 = .ok (.iload_n 1, 1) := by decide +kernel
theorem dJ0_indexOf_7cf53_12 : decode cJ0_indexOf_7cf53 12 = .ok (.iload_n 2, 1) := by decide +kernel
theorem dJ0_indexOf_7cf53_13 : decode cJ0_indexOf_7cf53 13 = .ok (.aload_n 0, 1) := by decide +kernel
theorem dJ0_indexOf_7cf53_14 : decode cJ0_indexOf_7cf53 14 = .ok (.invokevirtual 505, 3) := by decide +kernel
theorem dJ0_indexOf_7cf53_17 : decode cJ0_indexOf_7cf53 17 = .ok (.invokestatic 637, 3) := by decide +kernel
theorem dJ0_indexOf_7cf53_20 : decode cJ0_indexOf_7cf53 20 = .ok (.goto 16, 3) := by decide +kernel
theorem dJ0_indexOf_7cf53_23 : decode cJ0_indexOf_7cf53 23 = .ok (.aload_n 0, 1) := by decide +kernel
theorem dJ0_indexOf_7cf53_24 : decode cJ0_indexOf_7cf53 24 = .ok (.getfield 9, 3) := by decide +kernel
theorem dJ0_indexOf_7cf53_27 : decode cJ0_indexOf_7cf53 27 = .ok (.iload_n 1, 1) := by decide +kernel
theorem dJ0_indexOf_7cf53_28 : decode cJ0_indexOf_7cf53 28 = .ok (.iload_n 2, 1) := by decide +kernel
theorem dJ0_indexOf_7cf53_29 : decode cJ0_indexOf_7cf53 29 = .ok (.aload_n 0, 1) := by decide +kernel
theorem dJ0_indexOf_7cf53_30 : decode cJ0_indexOf_7cf53 30 = .ok (.invokevirtual 505, 3) := by decide +kernel
theorem dJ0_indexOf_7cf53_36 : decode cJ0_indexOf_7cf53 36 = .ok (.ireturn, 1) := by decide +kernel
def wm_J0_indexOf_7cf53 (S : q_S) (a0 : Nat) (x1 : Int32) (x2 : Int32) (Q : Option Value → q_S → Prop) : Prop := q_K S a0 = 30 ∧ (wm_J0_isLatin1_aae02 S a0 (fun r2_ S3_ => ∃ x4_ : Int32, r2_ = some (.int x4_) ∧ (((x4_ = 0 → (q_K S3_ a0 = 30 ∧ (∀ b7_ : Nat, q_K S3_ b7_ = 31 → q_N S3_ b7_ = q_N S3_ a0 → (wm_J0_length_8abf5 S3_ a0 (fun r10_ S11_ => ∃ x12_ : Int32, r10_ = some (.int x12_) ∧ (False)))))) ∧ (¬ x4_ = 0 → (q_K S3_ a0 = 30 ∧ (∀ b14_ : Nat, q_K S3_ b14_ = 31 → q_N S3_ b14_ = q_N S3_ a0 → (wm_J0_length_8abf5 S3_ a0 (fun r17_ S18_ => ∃ x19_ : Int32, r17_ = some (.int x19_) ∧ (wm_J1_indexOf_4cfef S18_ (some b14_) x1 x2 x19_ (fun r20_ S21_ => ∃ x22_ : Int32, r20_ = some (.int x22_) ∧ (Q (some (.int x22_)) S21_))))))))))))
set_option maxHeartbeats 4000000 in
set_option maxRecDepth 100000 in
theorem cm_J0_indexOf_7cf53 {l : Launch} {D : va_G} {cy : Nat → ClassId} {lo : Nat} {S : q_S} {a0 : Nat} {x1 : Int32} {x2 : Int32} {Q : Option Value → q_S → Prop} (h : wm_J0_indexOf_7cf53 S a0 x1 x2 Q) : q_Met l D cy lo yJ0_indexOf_7cf53 cJ0_indexOf_7cf53 3 (some .int) 2 53 0 0 [.ref a0, .int x1, .int x2] S Q := by
  refine q_body (by decide) (by first | exact Nat.le_of_ble_eq_true rfl | simp [lg_sl, q_cat, q_catI, q_catJ, q_catR]) ?_
  intro p e s m below meth c ls X hnm Y hl
  have hx := X.1
  have hb := X.2.1
  have hl : lv_has ls 3 [(0, .ref a0), (1, .int x1), (2, .int x2)] := by first | exact hl | simpa [lv_args, q_cat, q_catI, q_catJ, q_catR] using hl
  generalize hargs : ([.ref a0, .int x1, .int x2] : List Value).toArray = args at X ⊢
  unfold wm_J0_indexOf_7cf53 at h
  refine lv_aload_n hx hb dJ0_indexOf_7cf53_0 rfl (lv_at hl 0 rfl) ?_
  obtain ⟨k1_, h⟩ := h
  refine q_callT X Y hl (cm_J0_isLatin1_aae02 h) mt_J0_isLatin1_aae02 mi_J0_isLatin1_aae02 ml_J0_492 rfl k1_ rfl rfl (by first | exact Nat.le_of_ble_eq_true rfl | simp [q_cat, q_catI, q_catJ, q_catR]) ⟨Nat.le_of_ble_eq_true rfl, Nat.le_of_ble_eq_true rfl⟩ ⟨Nat.le_of_ble_eq_true rfl, Nat.le_of_ble_eq_true rfl⟩ dJ0_indexOf_7cf53_1 (fun r2_ S3_ H locs hp Y => ?_)
  obtain ⟨x4_, rfl, h⟩ := hp
  refine W.eq (g2 := F0 m 4 ls [.int x4_]) rfl ?_
  refine lv_if_eq (tgt := 23) hx hb dJ0_indexOf_7cf53_4 (by decide) (fun c5_ => ?_) (fun c5_ => ?_)
  · replace h := h.1 c5_
    refine lv_aload_n hx hb dJ0_indexOf_7cf53_23 rfl (lv_at hl 0 rfl) ?_
    obtain ⟨k6_, h⟩ := h
    refine q_sval X Y fl_J0_9 k6_ dJ0_indexOf_7cf53_24 (fun b7_ k8_ k9_ => ?_)
    replace h := h b7_ k8_ k9_
    refine lv_iload_n hx hb dJ0_indexOf_7cf53_27 rfl (lv_at hl 1 rfl) ?_
    refine lv_iload_n hx hb dJ0_indexOf_7cf53_28 rfl (lv_at hl 2 rfl) ?_
    refine lv_aload_n hx hb dJ0_indexOf_7cf53_29 rfl (lv_at hl 0 rfl) ?_
    refine q_callT X Y hl (cm_J0_length_8abf5 h) mt_J0_length_8abf5 mi_J0_length_8abf5 ml_J0_505 rfl k6_ rfl rfl (by first | exact Nat.le_of_ble_eq_true rfl | simp [q_cat, q_catI, q_catJ, q_catR]) ⟨Nat.le_of_ble_eq_true rfl, Nat.le_of_ble_eq_true rfl⟩ ⟨Nat.le_of_ble_eq_true rfl, Nat.le_of_ble_eq_true rfl⟩ dJ0_indexOf_7cf53_30 (fun r10_ S11_ H locs hp Y => ?_)
    obtain ⟨x12_, rfl, h⟩ := hp
    refine W.eq (g2 := F0 m 33 ls [.int x12_, .int x2, .int x1, .ref b7_]) rfl ?_
    exact h.elim
  · replace h := h.2 c5_
    refine lv_aload_n hx hb dJ0_indexOf_7cf53_7 rfl (lv_at hl 0 rfl) ?_
    obtain ⟨k13_, h⟩ := h
    refine q_sval X Y fl_J0_9 k13_ dJ0_indexOf_7cf53_8 (fun b14_ k15_ k16_ => ?_)
    replace h := h b14_ k15_ k16_
    refine lv_iload_n hx hb dJ0_indexOf_7cf53_11 rfl (lv_at hl 1 rfl) ?_
    refine lv_iload_n hx hb dJ0_indexOf_7cf53_12 rfl (lv_at hl 2 rfl) ?_
    refine lv_aload_n hx hb dJ0_indexOf_7cf53_13 rfl (lv_at hl 0 rfl) ?_
    refine q_callT X Y hl (cm_J0_length_8abf5 h) mt_J0_length_8abf5 mi_J0_length_8abf5 ml_J0_505 rfl k13_ rfl rfl (by first | exact Nat.le_of_ble_eq_true rfl | simp [q_cat, q_catI, q_catJ, q_catR]) ⟨Nat.le_of_ble_eq_true rfl, Nat.le_of_ble_eq_true rfl⟩ ⟨Nat.le_of_ble_eq_true rfl, Nat.le_of_ble_eq_true rfl⟩ dJ0_indexOf_7cf53_14 (fun r17_ S18_ H locs hp Y => ?_)
    obtain ⟨x19_, rfl, h⟩ := hp
    refine W.eq (g2 := F0 m 17 ls [.int x19_, .int x2, .int x1, .ref b14_]) rfl ?_
    refine q_callS X Y hl (cm_J1_indexOf_4cfef h) mt_J1_indexOf_4cfef ms_J1_indexOf_4cfef ml_J0_637 rfl rfl (by first | exact Nat.le_of_ble_eq_true rfl | simp [q_cat, q_catI, q_catJ, q_catR]) ⟨Nat.le_of_ble_eq_true rfl, Nat.le_of_ble_eq_true rfl⟩ ⟨Nat.le_of_ble_eq_true rfl, Nat.le_of_ble_eq_true rfl⟩ dJ0_indexOf_7cf53_17 (fun r20_ S21_ H locs hp Y => ?_)
    obtain ⟨x22_, rfl, h⟩ := hp
    refine W.eq (g2 := F0 m 20 ls [.int x22_]) rfl ?_
    refine lv_goto (tgt := 36) hx hb dJ0_indexOf_7cf53_20 (by decide) ?_
    exact q_iret X Y rfl (Nat.le_refl _) (Nat.le_refl _) h dJ0_indexOf_7cf53_36
-- J0_indexOf_0f7a4
theorem ml_J0_633 : Cond.methodLink RJ0 633 yJ0_indexOf_7cf53 ∈ q_G := q_tb (i := 499) (by decide +kernel) (by decide +kernel)
theorem mt_J0_indexOf_7cf53 : q_Mt yJ0_indexOf_7cf53 cJ0_indexOf_7cf53 3 (some .int) 2 := ⟨q_tb (i := 502) (by decide +kernel) (by decide +kernel), q_tb (i := 5) (by decide +kernel) (by decide +kernel), by decide +kernel, by decide +kernel, by decide +kernel⟩
theorem mi_J0_indexOf_7cf53 : Cond.instanceMethod yJ0_indexOf_7cf53 ∈ q_G ∧ Cond.selects yJ0_indexOf_7cf53.cls yJ0_indexOf_7cf53 yJ0_indexOf_7cf53 ∈ q_G := ⟨q_tb (i := 500) (by decide +kernel) (by decide +kernel), q_tb (i := 501) (by decide +kernel) (by decide +kernel)⟩
theorem dJ0_indexOf_0f7a4_0 : decode cJ0_indexOf_0f7a4 0 = .ok (.aload_n 0, 1) := by decide +kernel
theorem dJ0_indexOf_0f7a4_1 : decode cJ0_indexOf_0f7a4 1 = .ok (.iload_n 1, 1) := by decide +kernel
theorem dJ0_indexOf_0f7a4_2 : decode cJ0_indexOf_0f7a4 2 = .ok (.iconst 0, 1) := by decide +kernel
theorem dJ0_indexOf_0f7a4_3 : decode cJ0_indexOf_0f7a4 3 = .ok (.invokevirtual 633, 3) := by decide +kernel
theorem dJ0_indexOf_0f7a4_6 : decode cJ0_indexOf_0f7a4 6 = .ok (.ireturn, 1) := by decide +kernel
def wm_J0_indexOf_0f7a4 (S : q_S) (a0 : Nat) (x1 : Int32) (Q : Option Value → q_S → Prop) : Prop := q_K S a0 = 30 ∧ (wm_J0_indexOf_7cf53 S a0 x1 (0 : Int32) (fun r2_ S3_ => ∃ x4_ : Int32, r2_ = some (.int x4_) ∧ (Q (some (.int x4_)) S3_)))
set_option maxHeartbeats 4000000 in
set_option maxRecDepth 100000 in
theorem cm_J0_indexOf_0f7a4 {l : Launch} {D : va_G} {cy : Nat → ClassId} {lo : Nat} {S : q_S} {a0 : Nat} {x1 : Int32} {Q : Option Value → q_S → Prop} (h : wm_J0_indexOf_0f7a4 S a0 x1 Q) : q_Met l D cy lo yJ0_indexOf_0f7a4 cJ0_indexOf_0f7a4 2 (some .int) 3 75 0 0 [.ref a0, .int x1] S Q := by
  refine q_body (by decide) (by first | exact Nat.le_of_ble_eq_true rfl | simp [lg_sl, q_cat, q_catI, q_catJ, q_catR]) ?_
  intro p e s m below meth c ls X hnm Y hl
  have hx := X.1
  have hb := X.2.1
  have hl : lv_has ls 2 [(0, .ref a0), (1, .int x1)] := by first | exact hl | simpa [lv_args, q_cat, q_catI, q_catJ, q_catR] using hl
  generalize hargs : ([.ref a0, .int x1] : List Value).toArray = args at X ⊢
  unfold wm_J0_indexOf_0f7a4 at h
  refine lv_aload_n hx hb dJ0_indexOf_0f7a4_0 rfl (lv_at hl 0 rfl) ?_
  refine lv_iload_n hx hb dJ0_indexOf_0f7a4_1 rfl (lv_at hl 1 rfl) ?_
  refine lv_iconst (v := 0) hx hb dJ0_indexOf_0f7a4_2 (by decide) ?_
  obtain ⟨k1_, h⟩ := h
  refine q_callT X Y hl (cm_J0_indexOf_7cf53 h) mt_J0_indexOf_7cf53 mi_J0_indexOf_7cf53 ml_J0_633 rfl k1_ rfl rfl (by first | exact Nat.le_of_ble_eq_true rfl | simp [q_cat, q_catI, q_catJ, q_catR]) ⟨Nat.le_of_ble_eq_true rfl, Nat.le_of_ble_eq_true rfl⟩ ⟨Nat.le_of_ble_eq_true rfl, Nat.le_of_ble_eq_true rfl⟩ dJ0_indexOf_0f7a4_3 (fun r2_ S3_ H locs hp Y => ?_)
  obtain ⟨x4_, rfl, h⟩ := hp
  refine W.eq (g2 := F0 m 6 ls [.int x4_]) rfl ?_
  exact q_iret X Y rfl (Nat.le_refl _) (Nat.le_refl _) h dJ0_indexOf_0f7a4_6
-- X9_sees
theorem dX9_sees_0 : decode cX9_sees 0 = .ok (.aload_n 0, 1) := by decide +kernel
theorem dX9_sees_1 : decode cX9_sees 1 = .ok (.getfield 119, 3) := by decide +kernel
theorem dX9_sees_4 : decode cX9_sees 4 = .ok (.iconst 5, 1) := by decide +kernel
theorem dX9_sees_5 : decode cX9_sees 5 = .ok (.if_icmp .ne 15, 3) := by decide +kernel
theorem dX9_sees_8 : decode cX9_sees 8 = .ok (.aload_n 0, 1) := by decide +kernel
theorem dX9_sees_9 : decode cX9_sees 9 = .ok (.getfield 116, 3) := by decide +kernel
theorem dX9_sees_12 : decode cX9_sees 12 = .ok (.iload_n 1, 1) := by decide +kernel
theorem dX9_sees_13 : decode cX9_sees 13 = .ok (.if_icmp .ne 7, 3) := by decide +kernel
theorem dX9_sees_16 : decode cX9_sees 16 = .ok (.iconst 1, 1) := by decide +kernel
theorem dX9_sees_17 : decode cX9_sees 17 = .ok (.goto 4, 3) := by decide +kernel
theorem dX9_sees_20 : decode cX9_sees 20 = .ok (.iconst 0, 1) := by decide +kernel
theorem dX9_sees_21 : decode cX9_sees 21 = .ok (.ireturn, 1) := by decide +kernel
def wb_X9_sees_21  (S : q_S) (xs0 : Int32) (Q : Option Value → q_S → Prop) : Prop := (narrow .boolean (.int xs0) = .int xs0 ∧ Q (some (.int xs0)) S)
set_option maxHeartbeats 4000000 in
set_option maxRecDepth 100000 in
theorem cb_X9_sees_21 {p : Program} {l : Launch} {e : Env} {s : State} {m : MethodId} {args : Array Value} {below : List Frame} {meth : Method} {c : Code} {D : va_G} {cy : Nat → ClassId} {lo : Nat}  {S : q_S} {xs0 : Int32} {Q : Option Value → q_S → Prop} {H : Heap} {locs : List Loc} {ls : Array Slot} (X : q_X p s m args meth c RX9 cX9_sees 2 (some .boolean) D cy lo)  (Y : q_Y D cy lo s S H locs) (hl : lv_has ls 2 []) (h : wb_X9_sees_21 S xs0 Q) : W p l e ({ frames := 0, cells := 0, slots := 0, locals := 0 } : Room) s m args below meth c H locs 0 0 (MQ below (q_Q D cy lo Q) args s 0 0 (fun q => lo ≤ q)) (F0 m 21 ls [.int xs0]) := by
  have hx := X.1
  have hb := X.2.1
  unfold wb_X9_sees_21 at h
  exact q_iret X Y h.1 (Nat.le_refl _) (Nat.le_refl _) h.2 dX9_sees_21
def wb_X9_sees_20  (S : q_S) (Q : Option Value → q_S → Prop) : Prop := wb_X9_sees_21 S (0 : Int32) Q
set_option maxHeartbeats 4000000 in
set_option maxRecDepth 100000 in
theorem cb_X9_sees_20 {p : Program} {l : Launch} {e : Env} {s : State} {m : MethodId} {args : Array Value} {below : List Frame} {meth : Method} {c : Code} {D : va_G} {cy : Nat → ClassId} {lo : Nat}  {S : q_S} {Q : Option Value → q_S → Prop} {H : Heap} {locs : List Loc} {ls : Array Slot} (X : q_X p s m args meth c RX9 cX9_sees 2 (some .boolean) D cy lo)  (Y : q_Y D cy lo s S H locs) (hl : lv_has ls 2 []) (h : wb_X9_sees_20 S Q) : W p l e ({ frames := 0, cells := 0, slots := 0, locals := 0 } : Room) s m args below meth c H locs 0 0 (MQ below (q_Q D cy lo Q) args s 0 0 (fun q => lo ≤ q)) (F0 m 20 ls []) := by
  have hx := X.1
  have hb := X.2.1
  unfold wb_X9_sees_20 at h
  refine lv_iconst (v := 0) hx hb dX9_sees_20 (by decide) ?_
  exact cb_X9_sees_21 X Y (lv_sub hl [] rfl) h
def wm_X9_sees (S : q_S) (a0 : Nat) (x1 : Int32) (Q : Option Value → q_S → Prop) : Prop := q_K S a0 = 10 ∧ (((¬ (q_I S 1808 a0) = (5 : Int32) → (wb_X9_sees_20 S Q)) ∧ ((q_I S 1808 a0) = (5 : Int32) → (((¬ (q_I S 1809 a0) = x1 → (wb_X9_sees_20 S Q)) ∧ ((q_I S 1809 a0) = x1 → (wb_X9_sees_21 S (1 : Int32) Q)))))))
set_option maxHeartbeats 4000000 in
set_option maxRecDepth 100000 in
theorem cm_X9_sees {l : Launch} {D : va_G} {cy : Nat → ClassId} {lo : Nat} {S : q_S} {a0 : Nat} {x1 : Int32} {Q : Option Value → q_S → Prop} (h : wm_X9_sees S a0 x1 Q) : q_Met l D cy lo yX9_sees cX9_sees 2 (some .boolean) 0 0 0 0 [.ref a0, .int x1] S Q := by
  refine q_body (by decide) (by first | exact Nat.le_of_ble_eq_true rfl | simp [lg_sl, q_cat, q_catI, q_catJ, q_catR]) ?_
  intro p e s m below meth c ls X hnm Y hl
  have hx := X.1
  have hb := X.2.1
  have hl : lv_has ls 2 [(0, .ref a0), (1, .int x1)] := by first | exact hl | simpa [lv_args, q_cat, q_catI, q_catJ, q_catR] using hl
  generalize hargs : ([.ref a0, .int x1] : List Value).toArray = args at X ⊢
  unfold wm_X9_sees at h
  refine lv_aload_n hx hb dX9_sees_0 rfl (lv_at hl 0 rfl) ?_
  obtain ⟨k1_, h⟩ := h
  refine q_getI X Y kX9 8 rfl fl_X9_119 k1_ dX9_sees_1 ?_
  refine lv_iconst (v := 5) hx hb dX9_sees_4 (by decide) ?_
  refine lv_icmp_ne (tgt := 20) hx hb dX9_sees_5 (by decide) (fun c2_ => ?_) (fun c2_ => ?_)
  · replace h := h.1 c2_
    exact cb_X9_sees_20 X Y (lv_sub hl [] rfl) h
  · replace h := h.2 c2_
    refine lv_aload_n hx hb dX9_sees_8 rfl (lv_at hl 0 rfl) ?_
    refine q_getI X Y kX9 9 rfl fl_X9_116 k1_ dX9_sees_9 ?_
    refine lv_iload_n hx hb dX9_sees_12 rfl (lv_at hl 1 rfl) ?_
    refine lv_icmp_ne (tgt := 20) hx hb dX9_sees_13 (by decide) (fun c3_ => ?_) (fun c3_ => ?_)
    · replace h := h.1 c3_
      exact cb_X9_sees_20 X Y (lv_sub hl [] rfl) h
    · replace h := h.2 c3_
      refine lv_iconst (v := 1) hx hb dX9_sees_16 (by decide) ?_
      refine lv_goto (tgt := 21) hx hb dX9_sees_17 (by decide) ?_
      exact cb_X9_sees_21 X Y (lv_sub hl [] rfl) h
-- X9_seesSign
theorem dX9_seesSign_0 : decode cX9_seesSign 0 = .ok (.aload_n 0, 1) := by decide +kernel
theorem dX9_seesSign_1 : decode cX9_seesSign 1 = .ok (.getfield 119, 3) := by decide +kernel
theorem dX9_seesSign_4 : decode cX9_seesSign 4 = .ok (.iconst 4, 1) := by decide +kernel
theorem dX9_seesSign_5 : decode cX9_seesSign 5 = .ok (.if_icmp .ne 15, 3) := by decide +kernel
theorem dX9_seesSign_8 : decode cX9_seesSign 8 = .ok (.aload_n 0, 1) := by decide +kernel
theorem dX9_seesSign_9 : decode cX9_seesSign 9 = .ok (.getfield 116, 3) := by decide +kernel
theorem dX9_seesSign_12 : decode cX9_seesSign 12 = .ok (.iload_n 1, 1) := by decide +kernel
theorem dX9_seesSign_13 : decode cX9_seesSign 13 = .ok (.if_icmp .ne 7, 3) := by decide +kernel
theorem dX9_seesSign_16 : decode cX9_seesSign 16 = .ok (.iconst 1, 1) := by decide +kernel
theorem dX9_seesSign_17 : decode cX9_seesSign 17 = .ok (.goto 4, 3) := by decide +kernel
theorem dX9_seesSign_20 : decode cX9_seesSign 20 = .ok (.iconst 0, 1) := by decide +kernel
theorem dX9_seesSign_21 : decode cX9_seesSign 21 = .ok (.ireturn, 1) := by decide +kernel
def wb_X9_seesSign_21  (S : q_S) (xs0 : Int32) (Q : Option Value → q_S → Prop) : Prop := (narrow .boolean (.int xs0) = .int xs0 ∧ Q (some (.int xs0)) S)
set_option maxHeartbeats 4000000 in
set_option maxRecDepth 100000 in
theorem cb_X9_seesSign_21 {p : Program} {l : Launch} {e : Env} {s : State} {m : MethodId} {args : Array Value} {below : List Frame} {meth : Method} {c : Code} {D : va_G} {cy : Nat → ClassId} {lo : Nat}  {S : q_S} {xs0 : Int32} {Q : Option Value → q_S → Prop} {H : Heap} {locs : List Loc} {ls : Array Slot} (X : q_X p s m args meth c RX9 cX9_seesSign 2 (some .boolean) D cy lo)  (Y : q_Y D cy lo s S H locs) (hl : lv_has ls 2 []) (h : wb_X9_seesSign_21 S xs0 Q) : W p l e ({ frames := 0, cells := 0, slots := 0, locals := 0 } : Room) s m args below meth c H locs 0 0 (MQ below (q_Q D cy lo Q) args s 0 0 (fun q => lo ≤ q)) (F0 m 21 ls [.int xs0]) := by
  have hx := X.1
  have hb := X.2.1
  unfold wb_X9_seesSign_21 at h
  exact q_iret X Y h.1 (Nat.le_refl _) (Nat.le_refl _) h.2 dX9_seesSign_21
def wb_X9_seesSign_20  (S : q_S) (Q : Option Value → q_S → Prop) : Prop := wb_X9_seesSign_21 S (0 : Int32) Q
set_option maxHeartbeats 4000000 in
set_option maxRecDepth 100000 in
theorem cb_X9_seesSign_20 {p : Program} {l : Launch} {e : Env} {s : State} {m : MethodId} {args : Array Value} {below : List Frame} {meth : Method} {c : Code} {D : va_G} {cy : Nat → ClassId} {lo : Nat}  {S : q_S} {Q : Option Value → q_S → Prop} {H : Heap} {locs : List Loc} {ls : Array Slot} (X : q_X p s m args meth c RX9 cX9_seesSign 2 (some .boolean) D cy lo)  (Y : q_Y D cy lo s S H locs) (hl : lv_has ls 2 []) (h : wb_X9_seesSign_20 S Q) : W p l e ({ frames := 0, cells := 0, slots := 0, locals := 0 } : Room) s m args below meth c H locs 0 0 (MQ below (q_Q D cy lo Q) args s 0 0 (fun q => lo ≤ q)) (F0 m 20 ls []) := by
  have hx := X.1
  have hb := X.2.1
  unfold wb_X9_seesSign_20 at h
  refine lv_iconst (v := 0) hx hb dX9_seesSign_20 (by decide) ?_
  exact cb_X9_seesSign_21 X Y (lv_sub hl [] rfl) h
def wm_X9_seesSign (S : q_S) (a0 : Nat) (x1 : Int32) (Q : Option Value → q_S → Prop) : Prop := q_K S a0 = 10 ∧ (((¬ (q_I S 1808 a0) = (4 : Int32) → (wb_X9_seesSign_20 S Q)) ∧ ((q_I S 1808 a0) = (4 : Int32) → (((¬ (q_I S 1809 a0) = x1 → (wb_X9_seesSign_20 S Q)) ∧ ((q_I S 1809 a0) = x1 → (wb_X9_seesSign_21 S (1 : Int32) Q)))))))
set_option maxHeartbeats 4000000 in
set_option maxRecDepth 100000 in
theorem cm_X9_seesSign {l : Launch} {D : va_G} {cy : Nat → ClassId} {lo : Nat} {S : q_S} {a0 : Nat} {x1 : Int32} {Q : Option Value → q_S → Prop} (h : wm_X9_seesSign S a0 x1 Q) : q_Met l D cy lo yX9_seesSign cX9_seesSign 2 (some .boolean) 0 0 0 0 [.ref a0, .int x1] S Q := by
  refine q_body (by decide) (by first | exact Nat.le_of_ble_eq_true rfl | simp [lg_sl, q_cat, q_catI, q_catJ, q_catR]) ?_
  intro p e s m below meth c ls X hnm Y hl
  have hx := X.1
  have hb := X.2.1
  have hl : lv_has ls 2 [(0, .ref a0), (1, .int x1)] := by first | exact hl | simpa [lv_args, q_cat, q_catI, q_catJ, q_catR] using hl
  generalize hargs : ([.ref a0, .int x1] : List Value).toArray = args at X ⊢
  unfold wm_X9_seesSign at h
  refine lv_aload_n hx hb dX9_seesSign_0 rfl (lv_at hl 0 rfl) ?_
  obtain ⟨k1_, h⟩ := h
  refine q_getI X Y kX9 8 rfl fl_X9_119 k1_ dX9_seesSign_1 ?_
  refine lv_iconst (v := 4) hx hb dX9_seesSign_4 (by decide) ?_
  refine lv_icmp_ne (tgt := 20) hx hb dX9_seesSign_5 (by decide) (fun c2_ => ?_) (fun c2_ => ?_)
  · replace h := h.1 c2_
    exact cb_X9_seesSign_20 X Y (lv_sub hl [] rfl) h
  · replace h := h.2 c2_
    refine lv_aload_n hx hb dX9_seesSign_8 rfl (lv_at hl 0 rfl) ?_
    refine q_getI X Y kX9 9 rfl fl_X9_116 k1_ dX9_seesSign_9 ?_
    refine lv_iload_n hx hb dX9_seesSign_12 rfl (lv_at hl 1 rfl) ?_
    refine lv_icmp_ne (tgt := 20) hx hb dX9_seesSign_13 (by decide) (fun c3_ => ?_) (fun c3_ => ?_)
    · replace h := h.1 c3_
      exact cb_X9_seesSign_20 X Y (lv_sub hl [] rfl) h
    · replace h := h.2 c3_
      refine lv_iconst (v := 1) hx hb dX9_seesSign_16 (by decide) ?_
      refine lv_goto (tgt := 21) hx hb dX9_seesSign_17 (by decide) ?_
      exact cb_X9_seesSign_21 X Y (lv_sub hl [] rfl) h
-- X9_errorKind
theorem ml_X9_81 : Cond.methodLink RX9 81 yX9_sees ∈ q_G := q_tb (i := 626) (by decide +kernel) (by decide +kernel)
theorem mt_X9_sees : q_Mt yX9_sees cX9_sees 2 (some .boolean) 1 := ⟨q_tb (i := 629) (by decide +kernel) (by decide +kernel), q_tb (i := 2) (by decide +kernel) (by decide +kernel), by decide +kernel, by decide +kernel, by decide +kernel⟩
theorem mi_X9_sees : Cond.instanceMethod yX9_sees ∈ q_G ∧ Cond.selects yX9_sees.cls yX9_sees yX9_sees ∈ q_G := ⟨q_tb (i := 628) (by decide +kernel) (by decide +kernel), q_tp (i := 9) (q := (yX9_sees, 14)) (by decide +kernel) (by decide +kernel)⟩
theorem dX9_errorKind_0 : decode cX9_errorKind 0 = .ok (.aload_n 0, 1) := by decide +kernel
theorem dX9_errorKind_1 : decode cX9_errorKind 1 = .ok (.iconst 1, 1) := by decide +kernel
theorem dX9_errorKind_2 : decode cX9_errorKind 2 = .ok (.invokevirtual 81, 3) := by decide +kernel
theorem dX9_errorKind_5 : decode cX9_errorKind 5 = .ok (.ifCond .eq 5, 3) := by decide +kernel
theorem dX9_errorKind_8 : decode cX9_errorKind 8 = .ok (.iconst 1, 1) := by decide +kernel
theorem dX9_errorKind_9 : decode cX9_errorKind 9 = .ok (.ireturn, 1) := by decide +kernel
theorem dX9_errorKind_10 : decode cX9_errorKind 10 = .ok (.aload_n 0, 1) := by decide +kernel
theorem dX9_errorKind_11 : decode cX9_errorKind 11 = .ok (.getfield 119, 3) := by decide +kernel
theorem dX9_errorKind_14 : decode cX9_errorKind 14 = .ok (.iconst 2, 1) := by decide +kernel
theorem dX9_errorKind_15 : decode cX9_errorKind 15 = .ok (.if_icmp .ne 10, 3) := by decide +kernel
theorem dX9_errorKind_18 : decode cX9_errorKind 18 = .ok (.aload_n 0, 1) := by decide +kernel
theorem dX9_errorKind_19 : decode cX9_errorKind 19 = .ok (.getfield 116, 3) := by decide +kernel
theorem dX9_errorKind_22 : decode cX9_errorKind 22 = .ok (.goto 4, 3) := by decide +kernel
theorem dX9_errorKind_25 : decode cX9_errorKind 25 = .ok (.iconst (-1), 1) := by decide +kernel
theorem dX9_errorKind_26 : decode cX9_errorKind 26 = .ok (.tableswitch 38 30 33 #[30, 32, 34, 36], 30) := by decide +kernel
theorem dX9_errorKind_56 : decode cX9_errorKind 56 = .ok (.iconst 0, 1) := by decide +kernel
theorem dX9_errorKind_57 : decode cX9_errorKind 57 = .ok (.ireturn, 1) := by decide +kernel
theorem dX9_errorKind_58 : decode cX9_errorKind 58 = .ok (.iconst 2, 1) := by decide +kernel
theorem dX9_errorKind_59 : decode cX9_errorKind 59 = .ok (.ireturn, 1) := by decide +kernel
theorem dX9_errorKind_60 : decode cX9_errorKind 60 = .ok (.iconst 3, 1) := by decide +kernel
theorem dX9_errorKind_61 : decode cX9_errorKind 61 = .ok (.ireturn, 1) := by decide +kernel
theorem dX9_errorKind_62 : decode cX9_errorKind 62 = .ok (.iconst 4, 1) := by decide +kernel
theorem dX9_errorKind_63 : decode cX9_errorKind 63 = .ok (.ireturn, 1) := by decide +kernel
theorem dX9_errorKind_64 : decode cX9_errorKind 64 = .ok (.iconst (-1), 1) := by decide +kernel
theorem dX9_errorKind_65 : decode cX9_errorKind 65 = .ok (.ireturn, 1) := by decide +kernel
def wb_X9_errorKind_26  (S : q_S) (xs0 : Int32) (Q : Option Value → q_S → Prop) : Prop := (((xs0.toInt < 30 ∨ 33 < xs0.toInt) → (Q (some (.int (-1 : Int32))) S)) ∧ ((xs0 = (30 : Int32)) → (Q (some (.int (0 : Int32))) S)) ∧ ((xs0 = (31 : Int32)) → (Q (some (.int (2 : Int32))) S)) ∧ ((xs0 = (32 : Int32)) → (Q (some (.int (3 : Int32))) S)) ∧ ((xs0 = (33 : Int32)) → (Q (some (.int (4 : Int32))) S)))
set_option maxHeartbeats 4000000 in
set_option maxRecDepth 100000 in
theorem cb_X9_errorKind_26 {p : Program} {l : Launch} {e : Env} {s : State} {m : MethodId} {args : Array Value} {below : List Frame} {meth : Method} {c : Code} {D : va_G} {cy : Nat → ClassId} {lo : Nat}  {S : q_S} {xs0 : Int32} {Q : Option Value → q_S → Prop} {H : Heap} {locs : List Loc} {ls : Array Slot} (X : q_X p s m args meth c RX9 cX9_errorKind 1 (some .int) D cy lo)  (Y : q_Y D cy lo s S H locs) (hl : lv_has ls 1 []) (h : wb_X9_errorKind_26 S xs0 Q) : W p l e ({ frames := 1, cells := 0, slots := 0, locals := 21 } : Room) s m args below meth c H locs 0 0 (MQ below (q_Q D cy lo Q) args s 0 0 (fun q => lo ≤ q)) (F0 m 26 ls [.int xs0]) := by
  have hx := X.1
  have hb := X.2.1
  unfold wb_X9_errorKind_26 at h
  refine q_tsw (tgt := 64) hx hb dX9_errorKind_26 (by decide) (by decide) (fun c1_ => ?_) (fun j2_ hj_ c1_ => ?_)
  · replace h := h.1 c1_
    refine lv_iconst (v := (-1)) hx hb dX9_errorKind_64 (by decide) ?_
    exact q_iret X Y rfl (Nat.le_refl _) (Nat.le_refl _) h dX9_errorKind_65
  · match j2_, hj_, c1_ with
    | 0, _, c1_ =>
      refine ⟨30, 56, rfl, by decide, ?_⟩
      replace h := h.2.1 (q_eqI c1_ (by decide))
      refine lv_iconst (v := 0) hx hb dX9_errorKind_56 (by decide) ?_
      exact q_iret X Y rfl (Nat.le_refl _) (Nat.le_refl _) h dX9_errorKind_57
    | 1, _, c1_ =>
      refine ⟨32, 58, rfl, by decide, ?_⟩
      replace h := h.2.2.1 (q_eqI c1_ (by decide))
      refine lv_iconst (v := 2) hx hb dX9_errorKind_58 (by decide) ?_
      exact q_iret X Y rfl (Nat.le_refl _) (Nat.le_refl _) h dX9_errorKind_59
    | 2, _, c1_ =>
      refine ⟨34, 60, rfl, by decide, ?_⟩
      replace h := h.2.2.2.1 (q_eqI c1_ (by decide))
      refine lv_iconst (v := 3) hx hb dX9_errorKind_60 (by decide) ?_
      exact q_iret X Y rfl (Nat.le_refl _) (Nat.le_refl _) h dX9_errorKind_61
    | 3, _, c1_ =>
      refine ⟨36, 62, rfl, by decide, ?_⟩
      replace h := h.2.2.2.2 (q_eqI c1_ (by decide))
      refine lv_iconst (v := 4) hx hb dX9_errorKind_62 (by decide) ?_
      exact q_iret X Y rfl (Nat.le_refl _) (Nat.le_refl _) h dX9_errorKind_63
    | z_ + 4, hj_, _ => exact absurd hj_ (by simp)
def wm_X9_errorKind (S : q_S) (a0 : Nat) (Q : Option Value → q_S → Prop) : Prop := q_K S a0 = 10 ∧ (wm_X9_sees S a0 (1 : Int32) (fun r4_ S5_ => ∃ x6_ : Int32, r4_ = some (.int x6_) ∧ (((x6_ = 0 → (q_K S5_ a0 = 10 ∧ (((¬ (q_I S5_ 1808 a0) = (2 : Int32) → (wb_X9_errorKind_26 S5_ (-1 : Int32) Q)) ∧ ((q_I S5_ 1808 a0) = (2 : Int32) → (wb_X9_errorKind_26 S5_ (q_I S5_ 1809 a0) Q)))))) ∧ (¬ x6_ = 0 → (Q (some (.int (1 : Int32))) S5_))))))
set_option maxHeartbeats 4000000 in
set_option maxRecDepth 100000 in
theorem cm_X9_errorKind {l : Launch} {D : va_G} {cy : Nat → ClassId} {lo : Nat} {S : q_S} {a0 : Nat} {Q : Option Value → q_S → Prop} (h : wm_X9_errorKind S a0 Q) : q_Met l D cy lo yX9_errorKind cX9_errorKind 1 (some .int) 1 21 0 0 [.ref a0] S Q := by
  refine q_body (by decide) (by first | exact Nat.le_of_ble_eq_true rfl | simp [lg_sl, q_cat, q_catI, q_catJ, q_catR]) ?_
  intro p e s m below meth c ls X hnm Y hl
  have hx := X.1
  have hb := X.2.1
  have hl : lv_has ls 1 [(0, .ref a0)] := by first | exact hl | simpa [lv_args, q_cat, q_catI, q_catJ, q_catR] using hl
  generalize hargs : ([.ref a0] : List Value).toArray = args at X ⊢
  unfold wm_X9_errorKind at h
  refine lv_aload_n hx hb dX9_errorKind_0 rfl (lv_at hl 0 rfl) ?_
  refine lv_iconst (v := 1) hx hb dX9_errorKind_1 (by decide) ?_
  obtain ⟨k3_, h⟩ := h
  refine q_callV X Y hl (cm_X9_sees h) mt_X9_sees mi_X9_sees ml_X9_81 (ci := 9) rfl k3_ (by decide) rfl rfl (by first | exact Nat.le_of_ble_eq_true rfl | simp [q_cat, q_catI, q_catJ, q_catR]) ⟨Nat.le_of_ble_eq_true rfl, Nat.le_of_ble_eq_true rfl⟩ ⟨Nat.le_of_ble_eq_true rfl, Nat.le_of_ble_eq_true rfl⟩ dX9_errorKind_2 (fun r4_ S5_ H locs hp Y => ?_)
  obtain ⟨x6_, rfl, h⟩ := hp
  refine W.eq (g2 := F0 m 5 ls [.int x6_]) rfl ?_
  refine lv_if_eq (tgt := 10) hx hb dX9_errorKind_5 (by decide) (fun c7_ => ?_) (fun c7_ => ?_)
  · replace h := h.1 c7_
    refine lv_aload_n hx hb dX9_errorKind_10 rfl (lv_at hl 0 rfl) ?_
    obtain ⟨k8_, h⟩ := h
    refine q_getI X Y kX9 8 rfl fl_X9_119 k8_ dX9_errorKind_11 ?_
    refine lv_iconst (v := 2) hx hb dX9_errorKind_14 (by decide) ?_
    refine lv_icmp_ne (tgt := 25) hx hb dX9_errorKind_15 (by decide) (fun c9_ => ?_) (fun c9_ => ?_)
    · replace h := h.1 c9_
      refine lv_iconst (v := (-1)) hx hb dX9_errorKind_25 (by decide) ?_
      exact cb_X9_errorKind_26 X Y (lv_sub hl [] rfl) h
    · replace h := h.2 c9_
      refine lv_aload_n hx hb dX9_errorKind_18 rfl (lv_at hl 0 rfl) ?_
      refine q_getI X Y kX9 9 rfl fl_X9_116 k8_ dX9_errorKind_19 ?_
      refine lv_goto (tgt := 26) hx hb dX9_errorKind_22 (by decide) ?_
      exact cb_X9_errorKind_26 X Y (lv_sub hl [] rfl) h
  · replace h := h.2 c7_
    refine lv_iconst (v := 1) hx hb dX9_errorKind_8 (by decide) ?_
    exact q_iret X Y rfl (Nat.le_refl _) (Nat.le_refl _) h dX9_errorKind_9
-- X11_init
theorem ml_X11_3 : Cond.methodLink RX11 3 Lib.objectInit ∈ q_G := q_tb (i := 34) (by decide +kernel) (by decide +kernel)
theorem cl_X11_9 : Cond.classLink RX11 9 RX9 ∈ q_G := q_tb (i := 37) (by decide +kernel) (by decide +kernel)
theorem ib_X9 : Cond.instantiable RX9 14 ∈ q_G := q_tb (i := 38) (by decide +kernel) (by decide +kernel)
theorem in_X9 : Cond.initialized RX9 ∈ q_G := q_tb (i := 2) (by decide +kernel) (by decide +kernel)
theorem dv_X9 : ∀ k, k < 14 → defaultValue (tyX9 k) = vp_V ((q_F 9).map (fun q => q_dv q.1)) k := by decide +kernel
theorem ml_X11_11 : Cond.methodLink RX11 11 yX9_init ∈ q_G := q_tb (i := 39) (by decide +kernel) (by decide +kernel)
theorem mt_X9_init : q_Mt yX9_init cX9_init 1 none 0 := ⟨q_tb (i := 41) (by decide +kernel) (by decide +kernel), q_tb (i := 2) (by decide +kernel) (by decide +kernel), by decide +kernel, by decide +kernel, by decide +kernel⟩
theorem mj_X9_init : Cond.instanceMethod yX9_init ∈ q_G := q_tb (i := 40) (by decide +kernel) (by decide +kernel)
theorem fl_X11_12 : Cond.fieldLink RX11 12 "PartitionWorks" "reader" "LPartitionWorks$Reader;" ∈ q_G := q_tb (i := 280) (by decide +kernel) (by decide +kernel)
theorem fl_X11_16 : Cond.fieldLink RX11 16 "PartitionWorks$Reader" "plan" "LPartitionWorks$Plan;" ∈ q_G := q_tb (i := 199) (by decide +kernel) (by decide +kernel)
theorem fl_X11_20 : Cond.fieldLink RX11 20 "PartitionWorks" "plan" "LPartitionWorks$Plan;" ∈ q_G := q_tb (i := 281) (by decide +kernel) (by decide +kernel)
theorem cl_X11_21 : Cond.classLink RX11 21 RX3 ∈ q_G := q_tb (i := 247) (by decide +kernel) (by decide +kernel)
theorem ib_X3 : Cond.instantiable RX3 1 ∈ q_G := q_tb (i := 248) (by decide +kernel) (by decide +kernel)
theorem in_X3 : Cond.initialized RX3 ∈ q_G := q_tb (i := 9) (by decide +kernel) (by decide +kernel)
theorem dv_X3 : ∀ k, k < 1 → defaultValue (tyX3 k) = vp_V ((q_F 3).map (fun q => q_dv q.1)) k := by decide +kernel
theorem mn_X11_23 : Cond.methodLinkNest RX11 23 yX3_init "PartitionWorks" ∈ q_Nw := List.mem_filter.mpr ⟨List.mem_of_getElem? (i := 249) (by decide +kernel), rfl⟩
theorem mt_X3_init : q_Mt yX3_init cX3_init 1 none 0 := ⟨q_tb (i := 251) (by decide +kernel) (by decide +kernel), q_tb (i := 9) (by decide +kernel) (by decide +kernel), by decide +kernel, by decide +kernel, by decide +kernel⟩
theorem mj_X3_init : Cond.instanceMethod yX3_init ∈ q_G := q_tb (i := 250) (by decide +kernel) (by decide +kernel)
theorem fl_X11_24 : Cond.fieldLink RX11 24 "PartitionWorks" "machine" "LPartitionWorks$Machine;" ∈ q_G := q_tb (i := 282) (by decide +kernel) (by decide +kernel)
theorem cl_X11_28 : Cond.classLink RX11 28 RX0 ∈ q_G := q_tb (i := 258) (by decide +kernel) (by decide +kernel)
theorem ib_X0 : Cond.instantiable RX0 5 ∈ q_G := q_tb (i := 259) (by decide +kernel) (by decide +kernel)
theorem in_X0 : Cond.initialized RX0 ∈ q_G := q_tb (i := 10) (by decide +kernel) (by decide +kernel)
theorem dv_X0 : ∀ k, k < 5 → defaultValue (tyX0 k) = vp_V ((q_F 0).map (fun q => q_dv q.1)) k := by decide +kernel
theorem mn_X11_30 : Cond.methodLinkNest RX11 30 yX0_init "PartitionWorks" ∈ q_Nw := List.mem_filter.mpr ⟨List.mem_of_getElem? (i := 260) (by decide +kernel), rfl⟩
theorem mt_X0_init : q_Mt yX0_init cX0_init 1 none 0 := ⟨q_tb (i := 262) (by decide +kernel) (by decide +kernel), q_tb (i := 10) (by decide +kernel) (by decide +kernel), by decide +kernel, by decide +kernel, by decide +kernel⟩
theorem mj_X0_init : Cond.instanceMethod yX0_init ∈ q_G := q_tb (i := 261) (by decide +kernel) (by decide +kernel)
theorem fl_X11_31 : Cond.fieldLink RX11 31 "PartitionWorks" "calls" "LPartitionWorks$Calls;" ∈ q_G := q_tb (i := 283) (by decide +kernel) (by decide +kernel)
theorem fl_X11_35 : Cond.fieldLink RX11 35 "PartitionWorks" "ready" "[B" ∈ q_G := q_tb (i := 284) (by decide +kernel) (by decide +kernel)
theorem dX11_init_0 : decode cX11_init 0 = .ok (.aload_n 0, 1) := by decide +kernel
theorem dX11_init_1 : decode cX11_init 1 = .ok (.invokespecial 3, 3) := by decide +kernel
theorem dX11_init_4 : decode cX11_init 4 = .ok (.aload_n 0, 1) := by decide +kernel
theorem dX11_init_5 : decode cX11_init 5 = .ok (.new 9, 3) := by decide +kernel
theorem dX11_init_8 : decode cX11_init 8 = .ok (.dup, 1) := by decide +kernel
theorem dX11_init_9 : decode cX11_init 9 = .ok (.invokespecial 11, 3) := by decide +kernel
theorem dX11_init_12 : decode cX11_init 12 = .ok (.putfield 12, 3) := by decide +kernel
theorem dX11_init_15 : decode cX11_init 15 = .ok (.aload_n 0, 1) := by decide +kernel
theorem dX11_init_16 : decode cX11_init 16 = .ok (.aload_n 0, 1) := by decide +kernel
theorem dX11_init_17 : decode cX11_init 17 = .ok (.getfield 12, 3) := by decide +kernel
theorem dX11_init_20 : decode cX11_init 20 = .ok (.getfield 16, 3) := by decide +kernel
theorem dX11_init_23 : decode cX11_init 23 = .ok (.putfield 20, 3) := by decide +kernel
theorem dX11_init_26 : decode cX11_init 26 = .ok (.aload_n 0, 1) := by decide +kernel
theorem dX11_init_27 : decode cX11_init 27 = .ok (.new 21, 3) := by decide +kernel
theorem dX11_init_30 : decode cX11_init 30 = .ok (.dup, 1) := by decide +kernel
theorem dX11_init_31 : decode cX11_init 31 = .ok (.invokespecial 23, 3) := by decide +kernel
theorem dX11_init_34 : decode cX11_init 34 = .ok (.putfield 24, 3) := by decide +kernel
theorem dX11_init_37 : decode cX11_init 37 = .ok (.aload_n 0, 1) := by decide +kernel
theorem dX11_init_38 : decode cX11_init 38 = .ok (.new 28, 3) := by decide +kernel
theorem dX11_init_41 : decode cX11_init 41 = .ok (.dup, 1) := by decide +kernel
theorem dX11_init_42 : decode cX11_init 42 = .ok (.invokespecial 30, 3) := by decide +kernel
theorem dX11_init_45 : decode cX11_init 45 = .ok (.putfield 31, 3) := by decide +kernel
theorem dX11_init_48 : decode cX11_init 48 = .ok (.aload_n 0, 1) := by decide +kernel
theorem dX11_init_49 : decode cX11_init 49 = .ok (.bipush 20, 2) := by decide +kernel
theorem dX11_init_51 : decode cX11_init 51 = .ok (.newarray .byte, 2) := by decide +kernel
theorem dX11_init_53 : decode cX11_init 53 = .ok (.putfield 35, 3) := by decide +kernel
theorem dX11_init_56 : decode cX11_init 56 = .ok (.return_, 1) := by decide +kernel
def wm_X11_init (bc bs : Nat) (S : q_S) (a0 : Nat) (Q : Option Value → q_S → Prop) : Prop := (0 + 1 ≤ bc ∧ 0 + 14 ≤ bs) ∧ (∀ b1_ : Nat, q_K S b1_ = 0 → (∃ m8_ m9_ : Nat, ((0 + 1) + m8_ ≤ bc ∧ (0 + 14) + m9_ ≤ bs) ∧ (wm_X9_init m8_ m9_ (qs_O S 9 b1_) b1_ (fun r6_ S7_ => r6_ = none ∧ (q_K S7_ a0 = 12 ∧ (∃ a12_ : Nat, (q_P (qs_P S7_ 2200 a0 (some b1_)) 2200 a0) = some a12_ ∧ (q_K (qs_P S7_ 2200 a0 (some b1_)) a12_ = 10 ∧ (∀ S15_ : q_S, S15_ = (qs_P (qs_P S7_ 2200 a0 (some b1_)) 2201 a0 (q_P (qs_P S7_ 2200 a0 (some b1_)) 1800 a12_)) → ((((0 + 1) + m8_) + 1 ≤ bc ∧ ((0 + 14) + m9_) + 1 ≤ bs) ∧ (∀ b16_ : Nat, q_K S15_ b16_ = 0 → (wm_X3_init (qs_O S15_ 3 b16_) b16_ (fun r21_ S22_ => r21_ = none ∧ (q_K S22_ a0 = 12 ∧ (((((0 + 1) + m8_) + 1) + 1 ≤ bc ∧ (((0 + 14) + m9_) + 1) + 5 ≤ bs) ∧ (∀ b24_ : Nat, q_K (qs_P S22_ 2202 a0 (some b16_)) b24_ = 0 → (wm_X0_init (qs_O (qs_P S22_ 2202 a0 (some b16_)) 0 b24_) b24_ (fun r29_ S30_ => r29_ = none ∧ (q_K S30_ a0 = 12 ∧ ((((((0 + 1) + m8_) + 1) + 1) + 1 ≤ bc ∧ ((((0 + 14) + m9_) + 1) + 5) + 20 ≤ bs) ∧ (∀ b32_ : Nat, q_K (qs_P S30_ 2203 a0 (some b24_)) b32_ = 0 → (∀ S37_ : q_S, S37_ = (qs_P (qs_R (qs_P S30_ 2203 a0 (some b24_)) 20 20 b32_) 2204 a0 (some b32_)) → (Q none S37_))))))))))))))))))))))
set_option maxHeartbeats 4000000 in
set_option maxRecDepth 100000 in
theorem cm_X11_init {l : Launch} {D : va_G} {cy : Nat → ClassId} {lo : Nat} {bc bs : Nat} {S : q_S} {a0 : Nat} {Q : Option Value → q_S → Prop} (h : wm_X11_init bc bs S a0 Q) : q_Met l D cy lo yX11_init cX11_init 1 none 7 150 bc bs [.ref a0] S Q := by
  refine q_body (by decide) (by first | exact Nat.le_of_ble_eq_true rfl | simp [lg_sl, q_cat, q_catI, q_catJ, q_catR]) ?_
  intro p e s m below meth c ls X hnm Y hl
  have hx := X.1
  have hb := X.2.1
  have hl : lv_has ls 1 [(0, .ref a0)] := by first | exact hl | simpa [lv_args, q_cat, q_catI, q_catJ, q_catR] using hl
  generalize hargs : ([.ref a0] : List Value).toArray = args at X ⊢
  have hu : 0 ≤ bc ∧ 0 ≤ bs := ⟨Nat.zero_le _, Nat.zero_le _⟩
  unfold wm_X11_init at h
  refine lv_aload_n hx hb dX11_init_0 rfl (lv_at hl 0 rfl) ?_
  refine q_obj X hl ml_X11_3 oi_ oc_ ⟨Nat.le_of_ble_eq_true rfl, (by first | exact Nat.le_of_ble_eq_true rfl | simp [q_cat, q_catI, q_catJ, q_catR])⟩ dX11_init_1 ?_
  refine lv_aload_n hx hb dX11_init_4 rfl (lv_at hl 0 rfl) ?_
  obtain ⟨w4_, h⟩ := h
  refine q_new X Y kX9 tyX9 tyX9_ok dv_X9 cl_X11_9 ib_X9 in_X9 w4_ dX11_init_5 (fun b1_ H h2_ h3_ Y => ?_)
  replace h := h b1_ h2_
  replace hu := w4_
  have k5_ : q_K (qs_O S 9 b1_) b1_ = 10 := qs_O_Ks
  refine lv_dup hx hb dX11_init_8 rfl ?_
  obtain ⟨m8_, m9_, w10_, h⟩ := h
  refine q_callI X Y hl (cm_X9_init h) mt_X9_init mj_X9_init rfl ml_X11_11 rfl rfl (by first | exact Nat.le_of_ble_eq_true rfl | simp [q_cat, q_catI, q_catJ, q_catR]) ⟨Nat.le_of_ble_eq_true rfl, Nat.le_of_ble_eq_true rfl⟩ w10_ dX11_init_9 (fun r6_ S7_ H locs hp Y => ?_)
  obtain ⟨rfl, h⟩ := hp
  replace hu := w10_
  refine W.eq (g2 := F0 m 12 ls [.ref b1_, .ref a0]) rfl ?_
  obtain ⟨k11_, h⟩ := h
  refine q_putP X Y (some b1_) rfl kX11 0 rfl fl_X11_12 k11_ _ rfl (Or.inl ⟨_, rfl⟩) (Or.inr ⟨rfl, hnm, rfl⟩) dX11_init_12 (fun H locs Y => ?_)
  refine lv_aload_n hx hb dX11_init_15 rfl (lv_at hl 0 rfl) ?_
  refine lv_aload_n hx hb dX11_init_16 rfl (lv_at hl 0 rfl) ?_
  refine q_getP X Y kX11 0 rfl fl_X11_12 k11_ rfl dX11_init_17 ?_
  obtain ⟨a12_, e13_, h⟩ := h
  refine q_nn [] e13_ ?_
  obtain ⟨k14_, h⟩ := h
  refine q_getP X Y kX9 0 rfl fl_X11_16 k14_ rfl dX11_init_20 ?_
  refine q_putP X Y (q_P (qs_P S7_ 2200 a0 (some b1_)) 1800 a12_) rfl kX11 1 rfl fl_X11_20 k11_ _ rfl (Or.inl ⟨_, rfl⟩) (Or.inr ⟨rfl, hnm, rfl⟩) dX11_init_23 (fun H locs Y => ?_)
  obtain ⟨S15_, gS15_⟩ : ∃ z : q_S, z = (qs_P (qs_P S7_ 2200 a0 (some b1_)) 2201 a0 (q_P (qs_P S7_ 2200 a0 (some b1_)) 1800 a12_)) := ⟨_, rfl⟩
  replace Y : q_Y D cy lo s S15_ H locs := by rw [gS15_]; exact Y
  replace h := h S15_ gS15_
  replace k11_ : q_K S15_ a0 = 12 := by rw [gS15_]; exact k11_
  replace k14_ : q_K S15_ a12_ = 10 := by rw [gS15_]; exact k14_
  refine lv_aload_n hx hb dX11_init_26 rfl (lv_at hl 0 rfl) ?_
  obtain ⟨w19_, h⟩ := h
  refine q_new X Y kX3 tyX3 tyX3_ok dv_X3 cl_X11_21 ib_X3 in_X3 w19_ dX11_init_27 (fun b16_ H h17_ h18_ Y => ?_)
  replace h := h b16_ h17_
  replace hu := w19_
  replace k11_ := qs_O_keep (ci := 3) h17_ k11_ (by decide)
  replace k14_ := qs_O_keep (ci := 3) h17_ k14_ (by decide)
  have k20_ : q_K (qs_O S15_ 3 b16_) b16_ = 4 := qs_O_Ks
  refine lv_dup hx hb dX11_init_30 rfl ?_
  refine q_callN X Y hl (cm_X3_init h) mt_X3_init mj_X3_init rfl mn_X11_23 rfl rfl (by first | exact Nat.le_of_ble_eq_true rfl | simp [q_cat, q_catI, q_catJ, q_catR]) ⟨Nat.le_of_ble_eq_true rfl, Nat.le_of_ble_eq_true rfl⟩ hu dX11_init_31 (fun r21_ S22_ H locs hp Y => ?_)
  obtain ⟨rfl, h⟩ := hp
  refine W.eq (g2 := F0 m 34 ls [.ref b16_, .ref a0]) rfl ?_
  obtain ⟨k23_, h⟩ := h
  refine q_putP X Y (some b16_) rfl kX11 2 rfl fl_X11_24 k23_ _ rfl (Or.inl ⟨_, rfl⟩) (Or.inr ⟨rfl, hnm, rfl⟩) dX11_init_34 (fun H locs Y => ?_)
  refine lv_aload_n hx hb dX11_init_37 rfl (lv_at hl 0 rfl) ?_
  obtain ⟨w27_, h⟩ := h
  refine q_new X Y kX0 tyX0 tyX0_ok dv_X0 cl_X11_28 ib_X0 in_X0 w27_ dX11_init_38 (fun b24_ H h25_ h26_ Y => ?_)
  replace h := h b24_ h25_
  replace hu := w27_
  replace k23_ := qs_O_keep (ci := 0) h25_ k23_ (by decide)
  have k28_ : q_K (qs_O (qs_P S22_ 2202 a0 (some b16_)) 0 b24_) b24_ = 1 := qs_O_Ks
  refine lv_dup hx hb dX11_init_41 rfl ?_
  refine q_callN X Y hl (cm_X0_init h) mt_X0_init mj_X0_init rfl mn_X11_30 rfl rfl (by first | exact Nat.le_of_ble_eq_true rfl | simp [q_cat, q_catI, q_catJ, q_catR]) ⟨Nat.le_of_ble_eq_true rfl, Nat.le_of_ble_eq_true rfl⟩ hu dX11_init_42 (fun r29_ S30_ H locs hp Y => ?_)
  obtain ⟨rfl, h⟩ := hp
  refine W.eq (g2 := F0 m 45 ls [.ref b24_, .ref a0]) rfl ?_
  obtain ⟨k31_, h⟩ := h
  refine q_putP X Y (some b24_) rfl kX11 3 rfl fl_X11_31 k31_ _ rfl (Or.inl ⟨_, rfl⟩) (Or.inr ⟨rfl, hnm, rfl⟩) dX11_init_45 (fun H locs Y => ?_)
  refine lv_aload_n hx hb dX11_init_48 rfl (lv_at hl 0 rfl) ?_
  refine lv_bipush (v := 20) hx hb dX11_init_49 (by decide) ?_
  obtain ⟨w35_, h⟩ := h
  refine q_newa X Y (k := 20) (t := 0) (n := 20) (ty := .byte) rfl (by decide) rfl (fun _ _ => rfl) (by first | exact rfl | decide | simp [defaultValue]) ar_byte (by decide) (by decide) (by decide) w35_ dX11_init_51 (fun b32_ H h33_ h34_ Y => ?_)
  replace h := h b32_ h33_
  replace hu := w35_
  replace k31_ := qs_R_keep (j := 20) (n := 20) h33_ k31_ (by decide)
  have k36_ : q_K (qs_R (qs_P S30_ 2203 a0 (some b24_)) 20 20 b32_) b32_ = 20 := qs_R_Ks
  refine q_putP X Y (some b32_) rfl kX11 4 rfl fl_X11_35 k31_ _ rfl (Or.inr ⟨_, rfl⟩) (Or.inr ⟨rfl, hnm, rfl⟩) dX11_init_53 (fun H locs Y => ?_)
  obtain ⟨S37_, gS37_⟩ : ∃ z : q_S, z = (qs_P (qs_R (qs_P S30_ 2203 a0 (some b24_)) 20 20 b32_) 2204 a0 (some b32_)) := ⟨_, rfl⟩
  replace Y : q_Y D cy lo s S37_ H locs := by rw [gS37_]; exact Y
  replace h := h S37_ gS37_
  replace k31_ : q_K S37_ a0 = 12 := by rw [gS37_]; exact k31_
  replace k36_ : q_K S37_ b32_ = 20 := by rw [gS37_]; exact k36_
  exact q_vret X Y hu.1 hu.2 h dX11_init_56
-- X11_putReady
theorem dX11_putReady_0 : decode cX11_putReady 0 = .ok (.iconst 0, 1) := by decide +kernel
theorem dX11_putReady_1 : decode cX11_putReady 1 = .ok (.istore_n 3, 1) := by decide +kernel
theorem dX11_putReady_2 : decode cX11_putReady 2 = .ok (.iload_n 3, 1) := by decide +kernel
theorem dX11_putReady_3 : decode cX11_putReady 3 = .ok (.iconst 4, 1) := by decide +kernel
theorem dX11_putReady_4 : decode cX11_putReady 4 = .ok (.if_icmp .ge 39, 3) := by decide +kernel
theorem dX11_putReady_7 : decode cX11_putReady 7 = .ok (.iload_n 1, 1) := by decide +kernel
theorem dX11_putReady_8 : decode cX11_putReady 8 = .ok (.ifCond .lt 29, 3) := by decide +kernel
theorem dX11_putReady_11 : decode cX11_putReady 11 = .ok (.iload_n 1, 1) := by decide +kernel
theorem dX11_putReady_12 : decode cX11_putReady 12 = .ok (.iload_n 3, 1) := by decide +kernel
theorem dX11_putReady_13 : decode cX11_putReady 13 = .ok (.iadd, 1) := by decide +kernel
theorem dX11_putReady_14 : decode cX11_putReady 14 = .ok (.bipush 20, 2) := by decide +kernel
theorem dX11_putReady_16 : decode cX11_putReady 16 = .ok (.if_icmp .ge 21, 3) := by decide +kernel
theorem dX11_putReady_19 : decode cX11_putReady 19 = .ok (.aload_n 0, 1) := by decide +kernel
theorem dX11_putReady_20 : decode cX11_putReady 20 = .ok (.getfield 35, 3) := by decide +kernel
theorem dX11_putReady_23 : decode cX11_putReady 23 = .ok (.iload_n 1, 1) := by decide +kernel
theorem dX11_putReady_24 : decode cX11_putReady 24 = .ok (.iload_n 3, 1) := by decide +kernel
theorem dX11_putReady_25 : decode cX11_putReady 25 = .ok (.iadd, 1) := by decide +kernel
theorem dX11_putReady_26 : decode cX11_putReady 26 = .ok (.iload_n 2, 1) := by decide +kernel
theorem dX11_putReady_27 : decode cX11_putReady 27 = .ok (.bipush 24, 2) := by decide +kernel
theorem dX11_putReady_29 : decode cX11_putReady 29 = .ok (.bipush 8, 2) := by decide +kernel
theorem dX11_putReady_31 : decode cX11_putReady 31 = .ok (.iload_n 3, 1) := by decide +kernel
theorem dX11_putReady_32 : decode cX11_putReady 32 = .ok (.imul, 1) := by decide +kernel
theorem dX11_putReady_33 : decode cX11_putReady 33 = .ok (.isub, 1) := by decide +kernel
theorem dX11_putReady_34 : decode cX11_putReady 34 = .ok (.ishr, 1) := by decide +kernel
theorem dX11_putReady_35 : decode cX11_putReady 35 = .ok (.i2b, 1) := by decide +kernel
theorem dX11_putReady_36 : decode cX11_putReady 36 = .ok (.bastore, 1) := by decide +kernel
theorem dX11_putReady_37 : decode cX11_putReady 37 = .ok (.iinc 3 1, 3) := by decide +kernel
theorem dX11_putReady_40 : decode cX11_putReady 40 = .ok (.goto (-38), 3) := by decide +kernel
theorem dX11_putReady_43 : decode cX11_putReady 43 = .ok (.return_, 1) := by decide +kernel
def wb_X11_putReady_37 (B2 : q_S → Nat → Int32 → Int32 → Int32 → Prop) (S : q_S) (a0 : Nat) (x1 : Int32) (x2 : Int32) (x3 : Int32) (Q : Option Value → q_S → Prop) : Prop := B2 S a0 x1 x2 (x3 + 1)
set_option maxHeartbeats 4000000 in
set_option maxRecDepth 100000 in
theorem cb_X11_putReady_37 {p : Program} {l : Launch} {e : Env} {s : State} {m : MethodId} {args : Array Value} {below : List Frame} {meth : Method} {c : Code} {D : va_G} {cy : Nat → ClassId} {lo : Nat} {B2 : q_S → Nat → Int32 → Int32 → Int32 → Prop} {S : q_S} {a0 : Nat} {x1 : Int32} {x2 : Int32} {x3 : Int32} {Q : Option Value → q_S → Prop} {H : Heap} {locs : List Loc} {ls : Array Slot} (X : q_X p s m args meth c RX11 cX11_putReady 4 none D cy lo) (hB2 : ∀ (S : q_S) (a0 : Nat) (x1 : Int32) (x2 : Int32) (x3 : Int32) (H : Heap) (locs : List Loc) (ls : Array Slot), B2 S a0 x1 x2 x3 → q_Y D cy lo s S H locs → lv_has ls 4 [(0, .ref a0), (1, .int x1), (2, .int x2), (3, .int x3)] → W p l e ({ frames := 0, cells := 0, slots := 0, locals := 0 } : Room) s m args below meth c H locs 0 0 (MQ below (q_Q D cy lo Q) args s 0 0 (fun q => lo ≤ q)) (F0 m 2 ls [])) (Y : q_Y D cy lo s S H locs) (hl : lv_has ls 4 [(0, .ref a0), (1, .int x1), (2, .int x2), (3, .int x3)]) (h : wb_X11_putReady_37 B2 S a0 x1 x2 x3 Q) : W p l e ({ frames := 0, cells := 0, slots := 0, locals := 0 } : Room) s m args below meth c H locs 0 0 (MQ below (q_Q D cy lo Q) args s 0 0 (fun q => lo ≤ q)) (F0 m 37 ls []) := by
  have hx := X.1
  have hb := X.2.1
  unfold wb_X11_putReady_37 at h
  refine lv_iinc (v := (x3 + 1)) (lv' := [(3, .int (x3 + 1)), (0, .ref a0), (1, .int x1), (2, .int x2)]) hx hb dX11_putReady_37 hl (k := 3) rfl (by first | rfl | decide) (by decide) (by first | rfl | simp [q_cat, q_catI, q_catJ, q_catR]) (fun ls hl => ?_)
  refine lv_goto (tgt := 2) hx hb dX11_putReady_40 (by decide) ?_
  exact hB2 _ _ _ _ _ _ _ _ h Y (lv_sub hl [1, 2, 3, 0] rfl)
def wb_X11_putReady_2 (B2 : q_S → Nat → Int32 → Int32 → Int32 → Prop) (S : q_S) (a0 : Nat) (x1 : Int32) (x2 : Int32) (x3 : Int32) (Q : Option Value → q_S → Prop) : Prop := (((4 : Int32) ≤ x3 → (Q none S)) ∧ (¬ (4 : Int32) ≤ x3 → (((x1 < 0 → (wb_X11_putReady_37 B2 S a0 x1 x2 x3 Q)) ∧ (¬ x1 < 0 → ((((20 : Int32) ≤ (x1 + x3) → (wb_X11_putReady_37 B2 S a0 x1 x2 x3 Q)) ∧ (¬ (20 : Int32) ≤ (x1 + x3) → (q_K S a0 = 12 ∧ (∃ a5_ : Nat, (q_P S 2204 a0) = some a5_ ∧ (q_K S a5_ = 20 ∧ (vp_in (x1 + x3) (q_N S a5_) ∧ (wb_X11_putReady_37 B2 (qs_A S a5_ (x1 + x3).toNatClampNeg (vp_nar .byte ((x2 >>> (((24 : Int32) - ((8 : Int32) * x3)) &&& 31)).toInt8.toInt32))) a0 x1 x2 x3 Q)))))))))))))
set_option maxHeartbeats 4000000 in
set_option maxRecDepth 100000 in
theorem cb_X11_putReady_2 {p : Program} {l : Launch} {e : Env} {s : State} {m : MethodId} {args : Array Value} {below : List Frame} {meth : Method} {c : Code} {D : va_G} {cy : Nat → ClassId} {lo : Nat} {B2 : q_S → Nat → Int32 → Int32 → Int32 → Prop} {S : q_S} {a0 : Nat} {x1 : Int32} {x2 : Int32} {x3 : Int32} {Q : Option Value → q_S → Prop} {H : Heap} {locs : List Loc} {ls : Array Slot} (X : q_X p s m args meth c RX11 cX11_putReady 4 none D cy lo) (hB2 : ∀ (S : q_S) (a0 : Nat) (x1 : Int32) (x2 : Int32) (x3 : Int32) (H : Heap) (locs : List Loc) (ls : Array Slot), B2 S a0 x1 x2 x3 → q_Y D cy lo s S H locs → lv_has ls 4 [(0, .ref a0), (1, .int x1), (2, .int x2), (3, .int x3)] → W p l e ({ frames := 0, cells := 0, slots := 0, locals := 0 } : Room) s m args below meth c H locs 0 0 (MQ below (q_Q D cy lo Q) args s 0 0 (fun q => lo ≤ q)) (F0 m 2 ls [])) (Y : q_Y D cy lo s S H locs) (hl : lv_has ls 4 [(0, .ref a0), (1, .int x1), (2, .int x2), (3, .int x3)]) (h : wb_X11_putReady_2 B2 S a0 x1 x2 x3 Q) : W p l e ({ frames := 0, cells := 0, slots := 0, locals := 0 } : Room) s m args below meth c H locs 0 0 (MQ below (q_Q D cy lo Q) args s 0 0 (fun q => lo ≤ q)) (F0 m 2 ls []) := by
  have hx := X.1
  have hb := X.2.1
  unfold wb_X11_putReady_2 at h
  refine lv_iload_n hx hb dX11_putReady_2 rfl (lv_at hl 3 rfl) ?_
  refine lv_iconst (v := 4) hx hb dX11_putReady_3 (by decide) ?_
  refine lv_icmp_ge (tgt := 43) hx hb dX11_putReady_4 (by decide) (fun c1_ => ?_) (fun c1_ => ?_)
  · replace h := h.1 c1_
    exact q_vret X Y (Nat.le_refl _) (Nat.le_refl _) h dX11_putReady_43
  · replace h := h.2 c1_
    refine lv_iload_n hx hb dX11_putReady_7 rfl (lv_at hl 1 rfl) ?_
    refine lv_if_lt (tgt := 37) hx hb dX11_putReady_8 (by decide) (fun c2_ => ?_) (fun c2_ => ?_)
    · replace h := h.1 c2_
      exact cb_X11_putReady_37 X hB2 Y (lv_sub hl [0, 1, 2, 3] rfl) h
    · replace h := h.2 c2_
      refine lv_iload_n hx hb dX11_putReady_11 rfl (lv_at hl 1 rfl) ?_
      refine lv_iload_n hx hb dX11_putReady_12 rfl (lv_at hl 3 rfl) ?_
      refine lv_iadd hx hb dX11_putReady_13 ?_
      refine lv_bipush (v := 20) hx hb dX11_putReady_14 (by decide) ?_
      refine lv_icmp_ge (tgt := 37) hx hb dX11_putReady_16 (by decide) (fun c3_ => ?_) (fun c3_ => ?_)
      · replace h := h.1 c3_
        exact cb_X11_putReady_37 X hB2 Y (lv_sub hl [0, 1, 2, 3] rfl) h
      · replace h := h.2 c3_
        refine lv_aload_n hx hb dX11_putReady_19 rfl (lv_at hl 0 rfl) ?_
        obtain ⟨k4_, h⟩ := h
        refine q_getP X Y kX11 4 rfl fl_X11_35 k4_ rfl dX11_putReady_20 ?_
        refine lv_iload_n hx hb dX11_putReady_23 rfl (lv_at hl 1 rfl) ?_
        refine lv_iload_n hx hb dX11_putReady_24 rfl (lv_at hl 3 rfl) ?_
        refine lv_iadd hx hb dX11_putReady_25 ?_
        refine lv_iload_n hx hb dX11_putReady_26 rfl (lv_at hl 2 rfl) ?_
        refine lv_bipush (v := 24) hx hb dX11_putReady_27 (by decide) ?_
        refine lv_bipush (v := 8) hx hb dX11_putReady_29 (by decide) ?_
        refine lv_iload_n hx hb dX11_putReady_31 rfl (lv_at hl 3 rfl) ?_
        refine lv_imul hx hb dX11_putReady_32 ?_
        refine lv_isub hx hb dX11_putReady_33 ?_
        refine lv_ishr hx hb dX11_putReady_34 ?_
        refine lv_i2b hx hb dX11_putReady_35 rfl ?_
        obtain ⟨a5_, e6_, h⟩ := h
        refine q_nn [.int ((x2 >>> (((24 : Int32) - ((8 : Int32) * x3)) &&& 31)).toInt8.toInt32), .int (x1 + x3)] e6_ ?_
        obtain ⟨k7_, h⟩ := h
        obtain ⟨i8_, h⟩ := h
        refine q_bst X Y k7_ i8_ dX11_putReady_36 (fun H locs Y => ?_)
        exact cb_X11_putReady_37 X hB2 Y (lv_sub hl [0, 1, 2, 3] rfl) h
def wl_X11_putReady_2  : Nat → q_S → Nat → Int32 → Int32 → Int32 → (Option Value → q_S → Prop) → Prop
  | 0, _, _, _, _, _, _ => False
  | n + 1, S, a0, x1, x2, x3, Q => wb_X11_putReady_2 (fun S a0 x1 x2 x3 => wl_X11_putReady_2 n S a0 x1 x2 x3 Q) S a0 x1 x2 x3 Q
set_option maxHeartbeats 4000000 in
set_option maxRecDepth 100000 in
theorem cl_X11_putReady_2 {p : Program} {l : Launch} {e : Env} {s : State} {m : MethodId} {args : Array Value} {below : List Frame} {meth : Method} {c : Code} {D : va_G} {cy : Nat → ClassId} {lo : Nat}  {Q : Option Value → q_S → Prop} (X : q_X p s m args meth c RX11 cX11_putReady 4 none D cy lo)  : ∀ (n : Nat) (S : q_S) (a0 : Nat) (x1 : Int32) (x2 : Int32) (x3 : Int32) (H : Heap) (locs : List Loc) (ls : Array Slot), wl_X11_putReady_2 n S a0 x1 x2 x3 Q → q_Y D cy lo s S H locs → lv_has ls 4 [(0, .ref a0), (1, .int x1), (2, .int x2), (3, .int x3)] → W p l e ({ frames := 0, cells := 0, slots := 0, locals := 0 } : Room) s m args below meth c H locs 0 0 (MQ below (q_Q D cy lo Q) args s 0 0 (fun q => lo ≤ q)) (F0 m 2 ls []) := by
  intro n
  induction n with
  | zero => intro S a0 x1 x2 x3 H locs ls h; exact absurd h id
  | succ n ih => intro S a0 x1 x2 x3 H locs ls h Y hl; exact cb_X11_putReady_2 X ih Y hl h
def wm_X11_putReady (S : q_S) (a0 : Nat) (x1 : Int32) (x2 : Int32) (Q : Option Value → q_S → Prop) : Prop := ∃ n9_ : Nat, wl_X11_putReady_2 n9_ S a0 x1 x2 (0 : Int32) Q
set_option maxHeartbeats 4000000 in
set_option maxRecDepth 100000 in
theorem cm_X11_putReady {l : Launch} {D : va_G} {cy : Nat → ClassId} {lo : Nat} {S : q_S} {a0 : Nat} {x1 : Int32} {x2 : Int32} {Q : Option Value → q_S → Prop} (h : wm_X11_putReady S a0 x1 x2 Q) : q_Met l D cy lo yX11_putReady cX11_putReady 4 none 0 0 0 0 [.ref a0, .int x1, .int x2] S Q := by
  refine q_body (by decide) (by first | exact Nat.le_of_ble_eq_true rfl | simp [lg_sl, q_cat, q_catI, q_catJ, q_catR]) ?_
  intro p e s m below meth c ls X hnm Y hl
  have hx := X.1
  have hb := X.2.1
  have hl : lv_has ls 4 [(0, .ref a0), (1, .int x1), (2, .int x2)] := by first | exact hl | simpa [lv_args, q_cat, q_catI, q_catJ, q_catR] using hl
  generalize hargs : ([.ref a0, .int x1, .int x2] : List Value).toArray = args at X ⊢
  unfold wm_X11_putReady at h
  refine lv_iconst (v := 0) hx hb dX11_putReady_0 (by decide) ?_
  refine lv_istore_n (i := 3) (lv' := [(3, .int (0 : Int32)), (0, .ref a0), (1, .int x1), (2, .int x2)]) hx hb dX11_putReady_1 rfl hl (by decide) (by first | rfl | simp [q_cat, q_catI, q_catJ, q_catR]) (fun ls hl => ?_)
  obtain ⟨n9_, h⟩ := h
  exact cl_X11_putReady_2 X n9_ _ _ _ _ _ _ _ _ h Y (lv_sub hl [1, 2, 3, 0] rfl)
-- X11_feed
theorem ml_X11_39 : Cond.methodLink RX11 39 yX11_putReady ∈ q_G := q_tb (i := 300) (by decide +kernel) (by decide +kernel)
theorem mt_X11_putReady : q_Mt yX11_putReady cX11_putReady 4 none 2 := ⟨q_tb (i := 303) (by decide +kernel) (by decide +kernel), q_tb (i := 1) (by decide +kernel) (by decide +kernel), by decide +kernel, by decide +kernel, by decide +kernel⟩
theorem mi_X11_putReady : Cond.instanceMethod yX11_putReady ∈ q_G ∧ Cond.selects yX11_putReady.cls yX11_putReady yX11_putReady ∈ q_G := ⟨q_tb (i := 302) (by decide +kernel) (by decide +kernel), q_tp (i := 0) (q := (yX11_putReady, 5)) (by decide +kernel) (by decide +kernel)⟩
theorem dX11_feed_0 : decode cX11_feed 0 = .ok (.aload_n 0, 1) := by decide +kernel
theorem dX11_feed_1 : decode cX11_feed 1 = .ok (.iconst 0, 1) := by decide +kernel
theorem dX11_feed_2 : decode cX11_feed 2 = .ok (.iload_n 1, 1) := by decide +kernel
theorem dX11_feed_3 : decode cX11_feed 3 = .ok (.invokevirtual 39, 3) := by decide +kernel
theorem dX11_feed_6 : decode cX11_feed 6 = .ok (.aload_n 0, 1) := by decide +kernel
theorem dX11_feed_7 : decode cX11_feed 7 = .ok (.iconst 4, 1) := by decide +kernel
theorem dX11_feed_8 : decode cX11_feed 8 = .ok (.iload_n 2, 1) := by decide +kernel
theorem dX11_feed_9 : decode cX11_feed 9 = .ok (.invokevirtual 39, 3) := by decide +kernel
theorem dX11_feed_12 : decode cX11_feed 12 = .ok (.aload_n 0, 1) := by decide +kernel
theorem dX11_feed_13 : decode cX11_feed 13 = .ok (.bipush 8, 2) := by decide +kernel
theorem dX11_feed_15 : decode cX11_feed 15 = .ok (.iload_n 3, 1) := by decide +kernel
theorem dX11_feed_16 : decode cX11_feed 16 = .ok (.invokevirtual 39, 3) := by decide +kernel
theorem dX11_feed_19 : decode cX11_feed 19 = .ok (.aload_n 0, 1) := by decide +kernel
theorem dX11_feed_20 : decode cX11_feed 20 = .ok (.bipush 12, 2) := by decide +kernel
theorem dX11_feed_22 : decode cX11_feed 22 = .ok (.iload 4, 2) := by decide +kernel
theorem dX11_feed_24 : decode cX11_feed 24 = .ok (.invokevirtual 39, 3) := by decide +kernel
theorem dX11_feed_27 : decode cX11_feed 27 = .ok (.aload_n 0, 1) := by decide +kernel
theorem dX11_feed_28 : decode cX11_feed 28 = .ok (.bipush 16, 2) := by decide +kernel
theorem dX11_feed_30 : decode cX11_feed 30 = .ok (.iload 5, 2) := by decide +kernel
theorem dX11_feed_32 : decode cX11_feed 32 = .ok (.invokevirtual 39, 3) := by decide +kernel
theorem dX11_feed_35 : decode cX11_feed 35 = .ok (.return_, 1) := by decide +kernel
def wm_X11_feed (S : q_S) (a0 : Nat) (x1 : Int32) (x2 : Int32) (x3 : Int32) (x4 : Int32) (x5 : Int32) (Q : Option Value → q_S → Prop) : Prop := q_K S a0 = 12 ∧ (wm_X11_putReady S a0 (0 : Int32) x1 (fun r2_ S3_ => r2_ = none ∧ (q_K S3_ a0 = 12 ∧ (wm_X11_putReady S3_ a0 (4 : Int32) x2 (fun r5_ S6_ => r5_ = none ∧ (q_K S6_ a0 = 12 ∧ (wm_X11_putReady S6_ a0 (8 : Int32) x3 (fun r8_ S9_ => r8_ = none ∧ (q_K S9_ a0 = 12 ∧ (wm_X11_putReady S9_ a0 (12 : Int32) x4 (fun r11_ S12_ => r11_ = none ∧ (q_K S12_ a0 = 12 ∧ (wm_X11_putReady S12_ a0 (16 : Int32) x5 (fun r14_ S15_ => r14_ = none ∧ (Q none S15_)))))))))))))))
set_option maxHeartbeats 4000000 in
set_option maxRecDepth 100000 in
theorem cm_X11_feed {l : Launch} {D : va_G} {cy : Nat → ClassId} {lo : Nat} {S : q_S} {a0 : Nat} {x1 : Int32} {x2 : Int32} {x3 : Int32} {x4 : Int32} {x5 : Int32} {Q : Option Value → q_S → Prop} (h : wm_X11_feed S a0 x1 x2 x3 x4 x5 Q) : q_Met l D cy lo yX11_feed cX11_feed 6 none 1 23 0 0 [.ref a0, .int x1, .int x2, .int x3, .int x4, .int x5] S Q := by
  refine q_body (by decide) (by first | exact Nat.le_of_ble_eq_true rfl | simp [lg_sl, q_cat, q_catI, q_catJ, q_catR]) ?_
  intro p e s m below meth c ls X hnm Y hl
  have hx := X.1
  have hb := X.2.1
  have hl : lv_has ls 6 [(0, .ref a0), (1, .int x1), (2, .int x2), (3, .int x3), (4, .int x4), (5, .int x5)] := by first | exact hl | simpa [lv_args, q_cat, q_catI, q_catJ, q_catR] using hl
  generalize hargs : ([.ref a0, .int x1, .int x2, .int x3, .int x4, .int x5] : List Value).toArray = args at X ⊢
  unfold wm_X11_feed at h
  refine lv_aload_n hx hb dX11_feed_0 rfl (lv_at hl 0 rfl) ?_
  refine lv_iconst (v := 0) hx hb dX11_feed_1 (by decide) ?_
  refine lv_iload_n hx hb dX11_feed_2 rfl (lv_at hl 1 rfl) ?_
  obtain ⟨k1_, h⟩ := h
  refine q_callV X Y hl (cm_X11_putReady h) mt_X11_putReady mi_X11_putReady ml_X11_39 (ci := 11) rfl k1_ (by decide) rfl rfl (by first | exact Nat.le_of_ble_eq_true rfl | simp [q_cat, q_catI, q_catJ, q_catR]) ⟨Nat.le_of_ble_eq_true rfl, Nat.le_of_ble_eq_true rfl⟩ ⟨Nat.le_of_ble_eq_true rfl, Nat.le_of_ble_eq_true rfl⟩ dX11_feed_3 (fun r2_ S3_ H locs hp Y => ?_)
  obtain ⟨rfl, h⟩ := hp
  refine W.eq (g2 := F0 m 6 ls []) rfl ?_
  refine lv_aload_n hx hb dX11_feed_6 rfl (lv_at hl 0 rfl) ?_
  refine lv_iconst (v := 4) hx hb dX11_feed_7 (by decide) ?_
  refine lv_iload_n hx hb dX11_feed_8 rfl (lv_at hl 2 rfl) ?_
  obtain ⟨k4_, h⟩ := h
  refine q_callV X Y hl (cm_X11_putReady h) mt_X11_putReady mi_X11_putReady ml_X11_39 (ci := 11) rfl k4_ (by decide) rfl rfl (by first | exact Nat.le_of_ble_eq_true rfl | simp [q_cat, q_catI, q_catJ, q_catR]) ⟨Nat.le_of_ble_eq_true rfl, Nat.le_of_ble_eq_true rfl⟩ ⟨Nat.le_of_ble_eq_true rfl, Nat.le_of_ble_eq_true rfl⟩ dX11_feed_9 (fun r5_ S6_ H locs hp Y => ?_)
  obtain ⟨rfl, h⟩ := hp
  refine W.eq (g2 := F0 m 12 ls []) rfl ?_
  refine lv_aload_n hx hb dX11_feed_12 rfl (lv_at hl 0 rfl) ?_
  refine lv_bipush (v := 8) hx hb dX11_feed_13 (by decide) ?_
  refine lv_iload_n hx hb dX11_feed_15 rfl (lv_at hl 3 rfl) ?_
  obtain ⟨k7_, h⟩ := h
  refine q_callV X Y hl (cm_X11_putReady h) mt_X11_putReady mi_X11_putReady ml_X11_39 (ci := 11) rfl k7_ (by decide) rfl rfl (by first | exact Nat.le_of_ble_eq_true rfl | simp [q_cat, q_catI, q_catJ, q_catR]) ⟨Nat.le_of_ble_eq_true rfl, Nat.le_of_ble_eq_true rfl⟩ ⟨Nat.le_of_ble_eq_true rfl, Nat.le_of_ble_eq_true rfl⟩ dX11_feed_16 (fun r8_ S9_ H locs hp Y => ?_)
  obtain ⟨rfl, h⟩ := hp
  refine W.eq (g2 := F0 m 19 ls []) rfl ?_
  refine lv_aload_n hx hb dX11_feed_19 rfl (lv_at hl 0 rfl) ?_
  refine lv_bipush (v := 12) hx hb dX11_feed_20 (by decide) ?_
  refine lv_iload hx hb dX11_feed_22 (lv_at hl 4 rfl) ?_
  obtain ⟨k10_, h⟩ := h
  refine q_callV X Y hl (cm_X11_putReady h) mt_X11_putReady mi_X11_putReady ml_X11_39 (ci := 11) rfl k10_ (by decide) rfl rfl (by first | exact Nat.le_of_ble_eq_true rfl | simp [q_cat, q_catI, q_catJ, q_catR]) ⟨Nat.le_of_ble_eq_true rfl, Nat.le_of_ble_eq_true rfl⟩ ⟨Nat.le_of_ble_eq_true rfl, Nat.le_of_ble_eq_true rfl⟩ dX11_feed_24 (fun r11_ S12_ H locs hp Y => ?_)
  obtain ⟨rfl, h⟩ := hp
  refine W.eq (g2 := F0 m 27 ls []) rfl ?_
  refine lv_aload_n hx hb dX11_feed_27 rfl (lv_at hl 0 rfl) ?_
  refine lv_bipush (v := 16) hx hb dX11_feed_28 (by decide) ?_
  refine lv_iload hx hb dX11_feed_30 (lv_at hl 5 rfl) ?_
  obtain ⟨k13_, h⟩ := h
  refine q_callV X Y hl (cm_X11_putReady h) mt_X11_putReady mi_X11_putReady ml_X11_39 (ci := 11) rfl k13_ (by decide) rfl rfl (by first | exact Nat.le_of_ble_eq_true rfl | simp [q_cat, q_catI, q_catJ, q_catR]) ⟨Nat.le_of_ble_eq_true rfl, Nat.le_of_ble_eq_true rfl⟩ ⟨Nat.le_of_ble_eq_true rfl, Nat.le_of_ble_eq_true rfl⟩ dX11_feed_32 (fun r14_ S15_ H locs hp Y => ?_)
  obtain ⟨rfl, h⟩ := hp
  refine W.eq (g2 := F0 m 35 ls []) rfl ?_
  exact q_vret X Y (Nat.le_refl _) (Nat.le_refl _) h dX11_feed_35
-- J7_fill_031fb
theorem dJ7_fill_031fb_0 : decode cJ7_fill_031fb 0 = .ok (.iconst 0, 1) := by decide +kernel
theorem dJ7_fill_031fb_1 : decode cJ7_fill_031fb 1 = .ok (.istore_n 2, 1) := by decide +kernel
theorem dJ7_fill_031fb_2 : decode cJ7_fill_031fb 2 = .ok (.aload_n 0, 1) := by decide +kernel
theorem dJ7_fill_031fb_3 : decode cJ7_fill_031fb 3 = .ok (.arraylength, 1) := by decide +kernel
theorem dJ7_fill_031fb_4 : decode cJ7_fill_031fb 4 = .ok (.istore_n 3, 1) := by decide +kernel
theorem dJ7_fill_031fb_5 : decode cJ7_fill_031fb 5 = .ok (.iload_n 2, 1) := by decide +kernel
theorem dJ7_fill_031fb_6 : decode cJ7_fill_031fb 6 = .ok (.iload_n 3, 1) := by decide +kernel
theorem dJ7_fill_031fb_7 : decode cJ7_fill_031fb 7 = .ok (.if_icmp .ge 13, 3) := by decide +kernel
theorem dJ7_fill_031fb_10 : decode cJ7_fill_031fb 10 = .ok (.aload_n 0, 1) := by decide +kernel
theorem dJ7_fill_031fb_11 : decode cJ7_fill_031fb 11 = .ok (.iload_n 2, 1) := by decide +kernel
theorem dJ7_fill_031fb_12 : decode cJ7_fill_031fb 12 = .ok (.iload_n 1, 1) := by decide +kernel
theorem dJ7_fill_031fb_13 : decode cJ7_fill_031fb 13 = .ok (.bastore, 1) := by decide +kernel
theorem dJ7_fill_031fb_14 : decode cJ7_fill_031fb 14 = .ok (.iinc 2 1, 3) := by decide +kernel
theorem dJ7_fill_031fb_17 : decode cJ7_fill_031fb 17 = .ok (.goto (-12), 3) := by decide +kernel
theorem dJ7_fill_031fb_20 : decode cJ7_fill_031fb 20 = .ok (.return_, 1) := by decide +kernel
def wb_J7_fill_031fb_5 (B5 : q_S → Option Nat → Int32 → Int32 → Int32 → Prop) (S : q_S) (r0 : Option Nat) (x1 : Int32) (x2 : Int32) (x3 : Int32) (Q : Option Value → q_S → Prop) : Prop := ((x3 ≤ x2 → (Q none S)) ∧ (¬ x3 ≤ x2 → (∃ a2_ : Nat, r0 = some a2_ ∧ (q_K S a2_ = 20 ∧ (vp_in x2 (q_N S a2_) ∧ (B5 (qs_A S a2_ x2.toNatClampNeg (vp_nar .byte x1)) r0 x1 (x2 + 1) x3))))))
set_option maxHeartbeats 4000000 in
set_option maxRecDepth 100000 in
theorem cb_J7_fill_031fb_5 {p : Program} {l : Launch} {e : Env} {s : State} {m : MethodId} {args : Array Value} {below : List Frame} {meth : Method} {c : Code} {D : va_G} {cy : Nat → ClassId} {lo : Nat} {B5 : q_S → Option Nat → Int32 → Int32 → Int32 → Prop} {S : q_S} {r0 : Option Nat} {x1 : Int32} {x2 : Int32} {x3 : Int32} {Q : Option Value → q_S → Prop} {H : Heap} {locs : List Loc} {ls : Array Slot} (X : q_X p s m args meth c RJ7 cJ7_fill_031fb 4 none D cy lo) (hB5 : ∀ (S : q_S) (r0 : Option Nat) (x1 : Int32) (x2 : Int32) (x3 : Int32) (H : Heap) (locs : List Loc) (ls : Array Slot), B5 S r0 x1 x2 x3 → q_Y D cy lo s S H locs → lv_has ls 4 [(0, va_rf r0), (1, .int x1), (2, .int x2), (3, .int x3)] → W p l e ({ frames := 0, cells := 0, slots := 0, locals := 0 } : Room) s m args below meth c H locs 0 0 (MQ below (q_Q D cy lo Q) args s 0 0 (fun q => lo ≤ q)) (F0 m 5 ls [])) (Y : q_Y D cy lo s S H locs) (hl : lv_has ls 4 [(0, va_rf r0), (1, .int x1), (2, .int x2), (3, .int x3)]) (h : wb_J7_fill_031fb_5 B5 S r0 x1 x2 x3 Q) : W p l e ({ frames := 0, cells := 0, slots := 0, locals := 0 } : Room) s m args below meth c H locs 0 0 (MQ below (q_Q D cy lo Q) args s 0 0 (fun q => lo ≤ q)) (F0 m 5 ls []) := by
  have hx := X.1
  have hb := X.2.1
  unfold wb_J7_fill_031fb_5 at h
  refine lv_iload_n hx hb dJ7_fill_031fb_5 rfl (lv_at hl 2 rfl) ?_
  refine lv_iload_n hx hb dJ7_fill_031fb_6 rfl (lv_at hl 3 rfl) ?_
  refine lv_icmp_ge (tgt := 20) hx hb dJ7_fill_031fb_7 (by decide) (fun c1_ => ?_) (fun c1_ => ?_)
  · replace h := h.1 c1_
    exact q_vret X Y (Nat.le_refl _) (Nat.le_refl _) h dJ7_fill_031fb_20
  · replace h := h.2 c1_
    refine q_aload_n hx hb dJ7_fill_031fb_10 rfl (lv_at hl 0 rfl) ?_
    refine lv_iload_n hx hb dJ7_fill_031fb_11 rfl (lv_at hl 2 rfl) ?_
    refine lv_iload_n hx hb dJ7_fill_031fb_12 rfl (lv_at hl 1 rfl) ?_
    obtain ⟨a2_, e3_, h⟩ := h
    refine q_nn [.int x1, .int x2] e3_ ?_
    obtain ⟨k4_, h⟩ := h
    obtain ⟨i5_, h⟩ := h
    refine q_bst X Y k4_ i5_ dJ7_fill_031fb_13 (fun H locs Y => ?_)
    refine lv_iinc (v := (x2 + 1)) (lv' := [(2, .int (x2 + 1)), (0, va_rf r0), (1, .int x1), (3, .int x3)]) hx hb dJ7_fill_031fb_14 hl (k := 2) rfl (by first | rfl | decide) (by decide) (by first | rfl | simp [q_cat, q_catI, q_catJ, q_catR]) (fun ls hl => ?_)
    refine lv_goto (tgt := 5) hx hb dJ7_fill_031fb_17 (by decide) ?_
    exact hB5 _ _ _ _ _ _ _ _ h Y (lv_sub hl [1, 2, 0, 3] rfl)
def wl_J7_fill_031fb_5  : Nat → q_S → Option Nat → Int32 → Int32 → Int32 → (Option Value → q_S → Prop) → Prop
  | 0, _, _, _, _, _, _ => False
  | n + 1, S, r0, x1, x2, x3, Q => wb_J7_fill_031fb_5 (fun S r0 x1 x2 x3 => wl_J7_fill_031fb_5 n S r0 x1 x2 x3 Q) S r0 x1 x2 x3 Q
set_option maxHeartbeats 4000000 in
set_option maxRecDepth 100000 in
theorem cl_J7_fill_031fb_5 {p : Program} {l : Launch} {e : Env} {s : State} {m : MethodId} {args : Array Value} {below : List Frame} {meth : Method} {c : Code} {D : va_G} {cy : Nat → ClassId} {lo : Nat}  {Q : Option Value → q_S → Prop} (X : q_X p s m args meth c RJ7 cJ7_fill_031fb 4 none D cy lo)  : ∀ (n : Nat) (S : q_S) (r0 : Option Nat) (x1 : Int32) (x2 : Int32) (x3 : Int32) (H : Heap) (locs : List Loc) (ls : Array Slot), wl_J7_fill_031fb_5 n S r0 x1 x2 x3 Q → q_Y D cy lo s S H locs → lv_has ls 4 [(0, va_rf r0), (1, .int x1), (2, .int x2), (3, .int x3)] → W p l e ({ frames := 0, cells := 0, slots := 0, locals := 0 } : Room) s m args below meth c H locs 0 0 (MQ below (q_Q D cy lo Q) args s 0 0 (fun q => lo ≤ q)) (F0 m 5 ls []) := by
  intro n
  induction n with
  | zero => intro S r0 x1 x2 x3 H locs ls h; exact absurd h id
  | succ n ih => intro S r0 x1 x2 x3 H locs ls h Y hl; exact cb_J7_fill_031fb_5 X ih Y hl h
def wm_J7_fill_031fb (S : q_S) (r0 : Option Nat) (x1 : Int32) (Q : Option Value → q_S → Prop) : Prop := ∃ a6_ : Nat, r0 = some a6_ ∧ (q_K S a6_ = 20 ∧ (∃ n9_ : Nat, wl_J7_fill_031fb_5 n9_ S r0 x1 (0 : Int32) (nI (q_N S a6_)) Q))
set_option maxHeartbeats 4000000 in
set_option maxRecDepth 100000 in
theorem cm_J7_fill_031fb {l : Launch} {D : va_G} {cy : Nat → ClassId} {lo : Nat} {S : q_S} {r0 : Option Nat} {x1 : Int32} {Q : Option Value → q_S → Prop} (h : wm_J7_fill_031fb S r0 x1 Q) : q_Met l D cy lo yJ7_fill_031fb cJ7_fill_031fb 4 none 0 0 0 0 [va_rf r0, .int x1] S Q := by
  refine q_body (by decide) (by first | exact Nat.le_of_ble_eq_true rfl | simp [lg_sl, q_cat, q_catI, q_catJ, q_catR]) ?_
  intro p e s m below meth c ls X hnm Y hl
  have hx := X.1
  have hb := X.2.1
  have hl : lv_has ls 4 [(0, va_rf r0), (1, .int x1)] := by first | exact hl | simpa [lv_args, q_cat, q_catI, q_catJ, q_catR] using hl
  generalize hargs : ([va_rf r0, .int x1] : List Value).toArray = args at X ⊢
  unfold wm_J7_fill_031fb at h
  refine lv_iconst (v := 0) hx hb dJ7_fill_031fb_0 (by decide) ?_
  refine lv_istore_n (i := 2) (lv' := [(2, .int (0 : Int32)), (0, va_rf r0), (1, .int x1)]) hx hb dJ7_fill_031fb_1 rfl hl (by decide) (by first | rfl | simp [q_cat, q_catI, q_catJ, q_catR]) (fun ls hl => ?_)
  refine q_aload_n hx hb dJ7_fill_031fb_2 rfl (lv_at hl 1 rfl) ?_
  obtain ⟨a6_, e7_, h⟩ := h
  refine q_nn [] e7_ ?_
  obtain ⟨k8_, h⟩ := h
  refine q_alen X Y k8_ (by decide) (t := 0) rfl dJ7_fill_031fb_3 ?_
  refine lv_istore_n (i := 3) (lv' := [(3, .int (nI (q_N S a6_))), (2, .int (0 : Int32)), (0, va_rf r0), (1, .int x1)]) hx hb dJ7_fill_031fb_4 rfl hl (by decide) (by first | rfl | simp [q_cat, q_catI, q_catJ, q_catR]) (fun ls hl => ?_)
  obtain ⟨n9_, h⟩ := h
  exact cl_J7_fill_031fb_5 X n9_ _ _ _ _ _ _ _ _ h Y (lv_sub hl [2, 3, 1, 0] rfl)
-- X11_end
theorem ml_X11_43 : Cond.methodLink RX11 43 yX9_takeIn ∈ q_G := q_tb (i := 308) (by decide +kernel) (by decide +kernel)
theorem mt_X9_takeIn : q_Mt yX9_takeIn cX9_takeIn 3 (some .boolean) 2 := ⟨q_tb (i := 311) (by decide +kernel) (by decide +kernel), q_tb (i := 2) (by decide +kernel) (by decide +kernel), by decide +kernel, by decide +kernel, by decide +kernel⟩
theorem mi_X9_takeIn : Cond.instanceMethod yX9_takeIn ∈ q_G ∧ Cond.selects yX9_takeIn.cls yX9_takeIn yX9_takeIn ∈ q_G := ⟨q_tb (i := 309) (by decide +kernel) (by decide +kernel), q_tb (i := 310) (by decide +kernel) (by decide +kernel)⟩
theorem ml_X11_47 : Cond.methodLink RX11 47 yJ7_fill_031fb ∈ q_G := q_tb (i := 315) (by decide +kernel) (by decide +kernel)
theorem mt_J7_fill_031fb : q_Mt yJ7_fill_031fb cJ7_fill_031fb 4 none 2 := ⟨q_tb (i := 317) (by decide +kernel) (by decide +kernel), q_tb (i := 13) (by decide +kernel) (by decide +kernel), by decide +kernel, by decide +kernel, by decide +kernel⟩
theorem ms_J7_fill_031fb : Cond.static yJ7_fill_031fb ∈ q_G := q_tb (i := 316) (by decide +kernel) (by decide +kernel)
theorem fl_X11_53 : Cond.fieldLink RX11 53 "PartitionWorks$Reader" "length" "I" ∈ q_G := q_tb (i := 203) (by decide +kernel) (by decide +kernel)
theorem dX11_end_0 : decode cX11_end 0 = .ok (.iload_n 1, 1) := by decide +kernel
theorem dX11_end_1 : decode cX11_end 1 = .ok (.ifCond .lt 24, 3) := by decide +kernel
theorem dX11_end_4 : decode cX11_end 4 = .ok (.iload_n 1, 1) := by decide +kernel
theorem dX11_end_5 : decode cX11_end 5 = .ok (.bipush 20, 2) := by decide +kernel
theorem dX11_end_7 : decode cX11_end 7 = .ok (.if_icmp .gt 18, 3) := by decide +kernel
theorem dX11_end_10 : decode cX11_end 10 = .ok (.aload_n 0, 1) := by decide +kernel
theorem dX11_end_11 : decode cX11_end 11 = .ok (.getfield 12, 3) := by decide +kernel
theorem dX11_end_14 : decode cX11_end 14 = .ok (.aload_n 0, 1) := by decide +kernel
theorem dX11_end_15 : decode cX11_end 15 = .ok (.getfield 35, 3) := by decide +kernel
theorem dX11_end_18 : decode cX11_end 18 = .ok (.iload_n 1, 1) := by decide +kernel
theorem dX11_end_19 : decode cX11_end 19 = .ok (.invokevirtual 43, 3) := by decide +kernel
theorem dX11_end_22 : decode cX11_end 22 = .ok (.ifCond .ne 5, 3) := by decide +kernel
theorem dX11_end_25 : decode cX11_end 25 = .ok (.iconst (-1), 1) := by decide +kernel
theorem dX11_end_26 : decode cX11_end 26 = .ok (.ireturn, 1) := by decide +kernel
theorem dX11_end_27 : decode cX11_end 27 = .ok (.aload_n 0, 1) := by decide +kernel
theorem dX11_end_28 : decode cX11_end 28 = .ok (.getfield 35, 3) := by decide +kernel
theorem dX11_end_31 : decode cX11_end 31 = .ok (.iconst 0, 1) := by decide +kernel
theorem dX11_end_32 : decode cX11_end 32 = .ok (.invokestatic 47, 3) := by decide +kernel
theorem dX11_end_35 : decode cX11_end 35 = .ok (.aload_n 0, 1) := by decide +kernel
theorem dX11_end_36 : decode cX11_end 36 = .ok (.getfield 12, 3) := by decide +kernel
theorem dX11_end_39 : decode cX11_end 39 = .ok (.getfield 53, 3) := by decide +kernel
theorem dX11_end_42 : decode cX11_end 42 = .ok (.ireturn, 1) := by decide +kernel
def wb_X11_end_25  (S : q_S) (Q : Option Value → q_S → Prop) : Prop := Q (some (.int (-1 : Int32))) S
set_option maxHeartbeats 4000000 in
set_option maxRecDepth 100000 in
theorem cb_X11_end_25 {p : Program} {l : Launch} {e : Env} {s : State} {m : MethodId} {args : Array Value} {below : List Frame} {meth : Method} {c : Code} {D : va_G} {cy : Nat → ClassId} {lo : Nat}  {S : q_S} {Q : Option Value → q_S → Prop} {H : Heap} {locs : List Loc} {ls : Array Slot} (X : q_X p s m args meth c RX11 cX11_end 2 (some .int) D cy lo)  (Y : q_Y D cy lo s S H locs) (hl : lv_has ls 2 []) (h : wb_X11_end_25 S Q) : W p l e ({ frames := 2, cells := 0, slots := 0, locals := 82 } : Room) s m args below meth c H locs 0 0 (MQ below (q_Q D cy lo Q) args s 0 0 (fun q => lo ≤ q)) (F0 m 25 ls []) := by
  have hx := X.1
  have hb := X.2.1
  unfold wb_X11_end_25 at h
  refine lv_iconst (v := (-1)) hx hb dX11_end_25 (by decide) ?_
  exact q_iret X Y rfl (Nat.le_refl _) (Nat.le_refl _) h dX11_end_26
def wm_X11_end (S : q_S) (a0 : Nat) (x1 : Int32) (Q : Option Value → q_S → Prop) : Prop := ((x1 < 0 → (wb_X11_end_25 S Q)) ∧ (¬ x1 < 0 → ((((20 : Int32) < x1 → (wb_X11_end_25 S Q)) ∧ (¬ (20 : Int32) < x1 → (q_K S a0 = 12 ∧ (∃ a4_ : Nat, (q_P S 2200 a0) = some a4_ ∧ (q_K S a4_ = 10 ∧ (wm_X9_takeIn S a4_ (q_P S 2204 a0) x1 (fun r7_ S8_ => ∃ x9_ : Int32, r7_ = some (.int x9_) ∧ (((¬ x9_ = 0 → (q_K S8_ a0 = 12 ∧ (wm_J7_fill_031fb S8_ (q_P S8_ 2204 a0) (0 : Int32) (fun r12_ S13_ => r12_ = none ∧ (q_K S13_ a0 = 12 ∧ (∃ a15_ : Nat, (q_P S13_ 2200 a0) = some a15_ ∧ (q_K S13_ a15_ = 10 ∧ (Q (some (.int (q_I S13_ 1803 a15_))) S13_)))))))) ∧ (x9_ = 0 → (wb_X11_end_25 S8_ Q))))))))))))))
set_option maxHeartbeats 4000000 in
set_option maxRecDepth 100000 in
theorem cm_X11_end {l : Launch} {D : va_G} {cy : Nat → ClassId} {lo : Nat} {S : q_S} {a0 : Nat} {x1 : Int32} {Q : Option Value → q_S → Prop} (h : wm_X11_end S a0 x1 Q) : q_Met l D cy lo yX11_end cX11_end 2 (some .int) 2 82 0 0 [.ref a0, .int x1] S Q := by
  refine q_body (by decide) (by first | exact Nat.le_of_ble_eq_true rfl | simp [lg_sl, q_cat, q_catI, q_catJ, q_catR]) ?_
  intro p e s m below meth c ls X hnm Y hl
  have hx := X.1
  have hb := X.2.1
  have hl : lv_has ls 2 [(0, .ref a0), (1, .int x1)] := by first | exact hl | simpa [lv_args, q_cat, q_catI, q_catJ, q_catR] using hl
  generalize hargs : ([.ref a0, .int x1] : List Value).toArray = args at X ⊢
  unfold wm_X11_end at h
  refine lv_iload_n hx hb dX11_end_0 rfl (lv_at hl 1 rfl) ?_
  refine lv_if_lt (tgt := 25) hx hb dX11_end_1 (by decide) (fun c1_ => ?_) (fun c1_ => ?_)
  · replace h := h.1 c1_
    exact cb_X11_end_25 X Y (lv_sub hl [] rfl) h
  · replace h := h.2 c1_
    refine lv_iload_n hx hb dX11_end_4 rfl (lv_at hl 1 rfl) ?_
    refine lv_bipush (v := 20) hx hb dX11_end_5 (by decide) ?_
    refine lv_icmp_gt (tgt := 25) hx hb dX11_end_7 (by decide) (fun c2_ => ?_) (fun c2_ => ?_)
    · replace h := h.1 c2_
      exact cb_X11_end_25 X Y (lv_sub hl [] rfl) h
    · replace h := h.2 c2_
      refine lv_aload_n hx hb dX11_end_10 rfl (lv_at hl 0 rfl) ?_
      obtain ⟨k3_, h⟩ := h
      refine q_getP X Y kX11 0 rfl fl_X11_12 k3_ rfl dX11_end_11 ?_
      refine lv_aload_n hx hb dX11_end_14 rfl (lv_at hl 0 rfl) ?_
      refine q_getP X Y kX11 4 rfl fl_X11_35 k3_ rfl dX11_end_15 ?_
      refine lv_iload_n hx hb dX11_end_18 rfl (lv_at hl 1 rfl) ?_
      obtain ⟨a4_, e5_, h⟩ := h
      refine q_nn [.int x1, va_rf (q_P S 2204 a0)] e5_ ?_
      obtain ⟨k6_, h⟩ := h
      refine q_callV X Y hl (cm_X9_takeIn h) mt_X9_takeIn mi_X9_takeIn ml_X11_43 (ci := 9) rfl k6_ (by decide) rfl rfl (by first | exact Nat.le_of_ble_eq_true rfl | simp [q_cat, q_catI, q_catJ, q_catR]) ⟨Nat.le_of_ble_eq_true rfl, Nat.le_of_ble_eq_true rfl⟩ ⟨Nat.le_of_ble_eq_true rfl, Nat.le_of_ble_eq_true rfl⟩ dX11_end_19 (fun r7_ S8_ H locs hp Y => ?_)
      obtain ⟨x9_, rfl, h⟩ := hp
      refine W.eq (g2 := F0 m 22 ls [.int x9_]) rfl ?_
      refine lv_if_ne (tgt := 27) hx hb dX11_end_22 (by decide) (fun c10_ => ?_) (fun c10_ => ?_)
      · replace h := h.1 c10_
        refine lv_aload_n hx hb dX11_end_27 rfl (lv_at hl 0 rfl) ?_
        obtain ⟨k11_, h⟩ := h
        refine q_getP X Y kX11 4 rfl fl_X11_35 k11_ rfl dX11_end_28 ?_
        refine lv_iconst (v := 0) hx hb dX11_end_31 (by decide) ?_
        refine q_callS X Y hl (cm_J7_fill_031fb h) mt_J7_fill_031fb ms_J7_fill_031fb ml_X11_47 rfl rfl (by first | exact Nat.le_of_ble_eq_true rfl | simp [q_cat, q_catI, q_catJ, q_catR]) ⟨Nat.le_of_ble_eq_true rfl, Nat.le_of_ble_eq_true rfl⟩ ⟨Nat.le_of_ble_eq_true rfl, Nat.le_of_ble_eq_true rfl⟩ dX11_end_32 (fun r12_ S13_ H locs hp Y => ?_)
        obtain ⟨rfl, h⟩ := hp
        refine W.eq (g2 := F0 m 35 ls []) rfl ?_
        refine lv_aload_n hx hb dX11_end_35 rfl (lv_at hl 0 rfl) ?_
        obtain ⟨k14_, h⟩ := h
        refine q_getP X Y kX11 0 rfl fl_X11_12 k14_ rfl dX11_end_36 ?_
        obtain ⟨a15_, e16_, h⟩ := h
        refine q_nn [] e16_ ?_
        obtain ⟨k17_, h⟩ := h
        refine q_getI X Y kX9 3 rfl fl_X11_53 k17_ dX11_end_39 ?_
        exact q_iret X Y rfl (Nat.le_refl _) (Nat.le_refl _) h dX11_end_42
      · replace h := h.2 c10_
        exact cb_X11_end_25 X Y (lv_sub hl [] rfl) h
-- X11_fault
theorem fl_X11_68 : Cond.fieldLink RX11 68 "PartitionWorks$Reader" "faultPlace" "I" ∈ q_G := q_tb (i := 207) (by decide +kernel) (by decide +kernel)
theorem fl_X11_65 : Cond.fieldLink RX11 65 "PartitionWorks$Reader" "fault" "I" ∈ q_G := q_tb (i := 205) (by decide +kernel) (by decide +kernel)
theorem dX11_fault_0 : decode cX11_fault 0 = .ok (.iload_n 1, 1) := by decide +kernel
theorem dX11_fault_1 : decode cX11_fault 1 = .ok (.ifCond .ne 11, 3) := by decide +kernel
theorem dX11_fault_4 : decode cX11_fault 4 = .ok (.aload_n 0, 1) := by decide +kernel
theorem dX11_fault_5 : decode cX11_fault 5 = .ok (.getfield 12, 3) := by decide +kernel
theorem dX11_fault_8 : decode cX11_fault 8 = .ok (.getfield 65, 3) := by decide +kernel
theorem dX11_fault_11 : decode cX11_fault 11 = .ok (.ireturn, 1) := by decide +kernel
theorem dX11_fault_12 : decode cX11_fault 12 = .ok (.iload_n 1, 1) := by decide +kernel
theorem dX11_fault_13 : decode cX11_fault 13 = .ok (.iconst 1, 1) := by decide +kernel
theorem dX11_fault_14 : decode cX11_fault 14 = .ok (.if_icmp .ne 13, 3) := by decide +kernel
theorem dX11_fault_17 : decode cX11_fault 17 = .ok (.aload_n 0, 1) := by decide +kernel
theorem dX11_fault_18 : decode cX11_fault 18 = .ok (.getfield 12, 3) := by decide +kernel
theorem dX11_fault_21 : decode cX11_fault 21 = .ok (.getfield 68, 3) := by decide +kernel
theorem dX11_fault_24 : decode cX11_fault 24 = .ok (.goto 4, 3) := by decide +kernel
theorem dX11_fault_27 : decode cX11_fault 27 = .ok (.iconst (-1), 1) := by decide +kernel
theorem dX11_fault_28 : decode cX11_fault 28 = .ok (.ireturn, 1) := by decide +kernel
def wb_X11_fault_28  (S : q_S) (xs0 : Int32) (Q : Option Value → q_S → Prop) : Prop := Q (some (.int xs0)) S
set_option maxHeartbeats 4000000 in
set_option maxRecDepth 100000 in
theorem cb_X11_fault_28 {p : Program} {l : Launch} {e : Env} {s : State} {m : MethodId} {args : Array Value} {below : List Frame} {meth : Method} {c : Code} {D : va_G} {cy : Nat → ClassId} {lo : Nat}  {S : q_S} {xs0 : Int32} {Q : Option Value → q_S → Prop} {H : Heap} {locs : List Loc} {ls : Array Slot} (X : q_X p s m args meth c RX11 cX11_fault 2 (some .int) D cy lo)  (Y : q_Y D cy lo s S H locs) (hl : lv_has ls 2 []) (h : wb_X11_fault_28 S xs0 Q) : W p l e ({ frames := 0, cells := 0, slots := 0, locals := 0 } : Room) s m args below meth c H locs 0 0 (MQ below (q_Q D cy lo Q) args s 0 0 (fun q => lo ≤ q)) (F0 m 28 ls [.int xs0]) := by
  have hx := X.1
  have hb := X.2.1
  unfold wb_X11_fault_28 at h
  exact q_iret X Y rfl (Nat.le_refl _) (Nat.le_refl _) h dX11_fault_28
def wm_X11_fault (S : q_S) (a0 : Nat) (x1 : Int32) (Q : Option Value → q_S → Prop) : Prop := ((¬ x1 = 0 → (((¬ x1 = (1 : Int32) → (wb_X11_fault_28 S (-1 : Int32) Q)) ∧ (x1 = (1 : Int32) → (q_K S a0 = 12 ∧ (∃ a4_ : Nat, (q_P S 2200 a0) = some a4_ ∧ (q_K S a4_ = 10 ∧ (wb_X11_fault_28 S (q_I S 1805 a4_) Q)))))))) ∧ (x1 = 0 → (q_K S a0 = 12 ∧ (∃ a8_ : Nat, (q_P S 2200 a0) = some a8_ ∧ (q_K S a8_ = 10 ∧ (Q (some (.int (q_I S 1804 a8_))) S))))))
set_option maxHeartbeats 4000000 in
set_option maxRecDepth 100000 in
theorem cm_X11_fault {l : Launch} {D : va_G} {cy : Nat → ClassId} {lo : Nat} {S : q_S} {a0 : Nat} {x1 : Int32} {Q : Option Value → q_S → Prop} (h : wm_X11_fault S a0 x1 Q) : q_Met l D cy lo yX11_fault cX11_fault 2 (some .int) 0 0 0 0 [.ref a0, .int x1] S Q := by
  refine q_body (by decide) (by first | exact Nat.le_of_ble_eq_true rfl | simp [lg_sl, q_cat, q_catI, q_catJ, q_catR]) ?_
  intro p e s m below meth c ls X hnm Y hl
  have hx := X.1
  have hb := X.2.1
  have hl : lv_has ls 2 [(0, .ref a0), (1, .int x1)] := by first | exact hl | simpa [lv_args, q_cat, q_catI, q_catJ, q_catR] using hl
  generalize hargs : ([.ref a0, .int x1] : List Value).toArray = args at X ⊢
  unfold wm_X11_fault at h
  refine lv_iload_n hx hb dX11_fault_0 rfl (lv_at hl 1 rfl) ?_
  refine lv_if_ne (tgt := 12) hx hb dX11_fault_1 (by decide) (fun c1_ => ?_) (fun c1_ => ?_)
  · replace h := h.1 c1_
    refine lv_iload_n hx hb dX11_fault_12 rfl (lv_at hl 1 rfl) ?_
    refine lv_iconst (v := 1) hx hb dX11_fault_13 (by decide) ?_
    refine lv_icmp_ne (tgt := 27) hx hb dX11_fault_14 (by decide) (fun c2_ => ?_) (fun c2_ => ?_)
    · replace h := h.1 c2_
      refine lv_iconst (v := (-1)) hx hb dX11_fault_27 (by decide) ?_
      exact cb_X11_fault_28 X Y (lv_sub hl [] rfl) h
    · replace h := h.2 c2_
      refine lv_aload_n hx hb dX11_fault_17 rfl (lv_at hl 0 rfl) ?_
      obtain ⟨k3_, h⟩ := h
      refine q_getP X Y kX11 0 rfl fl_X11_12 k3_ rfl dX11_fault_18 ?_
      obtain ⟨a4_, e5_, h⟩ := h
      refine q_nn [] e5_ ?_
      obtain ⟨k6_, h⟩ := h
      refine q_getI X Y kX9 5 rfl fl_X11_68 k6_ dX11_fault_21 ?_
      refine lv_goto (tgt := 28) hx hb dX11_fault_24 (by decide) ?_
      exact cb_X11_fault_28 X Y (lv_sub hl [] rfl) h
  · replace h := h.2 c1_
    refine lv_aload_n hx hb dX11_fault_4 rfl (lv_at hl 0 rfl) ?_
    obtain ⟨k7_, h⟩ := h
    refine q_getP X Y kX11 0 rfl fl_X11_12 k7_ rfl dX11_fault_5 ?_
    obtain ⟨a8_, e9_, h⟩ := h
    refine q_nn [] e9_ ?_
    obtain ⟨k10_, h⟩ := h
    refine q_getI X Y kX9 4 rfl fl_X11_65 k10_ dX11_fault_8 ?_
    exact q_iret X Y rfl (Nat.le_refl _) (Nat.le_refl _) h dX11_fault_11
-- X11_goWrong
theorem fl_X11_162 : Cond.fieldLink RX11 162 "PartitionWorks$Plan" "time" "I" ∈ q_G := q_tb (i := 99) (by decide +kernel) (by decide +kernel)
theorem ml_X11_141 : Cond.methodLink RX11 141 yX5_beginAnew ∈ q_G := q_tb (i := 1302) (by decide +kernel) (by decide +kernel)
theorem ml_X11_212 : Cond.methodLink RX11 212 yX5_actionFor ∈ q_G := q_tb (i := 1412) (by decide +kernel) (by decide +kernel)
theorem mt_X5_actionFor : q_Mt yX5_actionFor cX5_actionFor 5 (some .int) 2 := ⟨q_tb (i := 1415) (by decide +kernel) (by decide +kernel), q_tb (i := 20) (by decide +kernel) (by decide +kernel), by decide +kernel, by decide +kernel, by decide +kernel⟩
theorem mi_X5_actionFor : Cond.instanceMethod yX5_actionFor ∈ q_G ∧ Cond.selects yX5_actionFor.cls yX5_actionFor yX5_actionFor ∈ q_G := ⟨q_tb (i := 1413) (by decide +kernel) (by decide +kernel), q_tb (i := 1414) (by decide +kernel) (by decide +kernel)⟩
theorem fl_X11_216 : Cond.fieldLink RX11 216 "PartitionWorks$Plan" "journal" "LPartitionWorks$Journal;" ∈ q_G := q_tb (i := 96) (by decide +kernel) (by decide +kernel)
theorem fl_X11_220 : Cond.fieldLink RX11 220 "PartitionWorks$Partition" "number" "I" ∈ q_G := q_tb (i := 690) (by decide +kernel) (by decide +kernel)
theorem fl_X11_223 : Cond.fieldLink RX11 223 "PartitionWorks$Process" "number" "I" ∈ q_G := q_tb (i := 841) (by decide +kernel) (by decide +kernel)
theorem ml_X11_224 : Cond.methodLink RX11 224 yX2_note ∈ q_G := q_tb (i := 1416) (by decide +kernel) (by decide +kernel)
theorem mt_X2_note : q_Mt yX2_note cX2_note 8 none 6 := ⟨q_tb (i := 1419) (by decide +kernel) (by decide +kernel), q_tb (i := 4) (by decide +kernel) (by decide +kernel), by decide +kernel, by decide +kernel, by decide +kernel⟩
theorem mi_X2_note : Cond.instanceMethod yX2_note ∈ q_G ∧ Cond.selects yX2_note.cls yX2_note yX2_note ∈ q_G := ⟨q_tb (i := 1417) (by decide +kernel) (by decide +kernel), q_tb (i := 1418) (by decide +kernel) (by decide +kernel)⟩
theorem fl_X11_245 : Cond.fieldLink RX11 245 "PartitionWorks$Process" "pc" "I" ∈ q_G := q_tb (i := 877) (by decide +kernel) (by decide +kernel)
theorem ml_X11_230 : Cond.methodLink RX11 230 yX5_rest ∈ q_G := q_tb (i := 1420) (by decide +kernel) (by decide +kernel)
theorem ml_X11_234 : Cond.methodLink RX11 234 yX5_start ∈ q_G := q_tb (i := 1428) (by decide +kernel) (by decide +kernel)
theorem ml_X11_238 : Cond.methodLink RX11 238 yX5_goIdle ∈ q_G := q_tb (i := 1429) (by decide +kernel) (by decide +kernel)
theorem ml_X11_241 : Cond.methodLink RX11 241 yX5_handOver ∈ q_G := q_tb (i := 1433) (by decide +kernel) (by decide +kernel)
theorem mt_X5_handOver : q_Mt yX5_handOver cX5_handOver 6 none 4 := ⟨q_tb (i := 1436) (by decide +kernel) (by decide +kernel), q_tb (i := 20) (by decide +kernel) (by decide +kernel), by decide +kernel, by decide +kernel, by decide +kernel⟩
theorem mi_X5_handOver : Cond.instanceMethod yX5_handOver ∈ q_G ∧ Cond.selects yX5_handOver.cls yX5_handOver yX5_handOver ∈ q_G := ⟨q_tb (i := 1434) (by decide +kernel) (by decide +kernel), q_tb (i := 1435) (by decide +kernel) (by decide +kernel)⟩
theorem dX11_goWrong_0 : decode cX11_goWrong 0 = .ok (.aload_n 1, 1) := by decide +kernel
theorem dX11_goWrong_1 : decode cX11_goWrong 1 = .ok (.aload_n 2, 1) := by decide +kernel
theorem dX11_goWrong_2 : decode cX11_goWrong 2 = .ok (.iload_n 3, 1) := by decide +kernel
theorem dX11_goWrong_3 : decode cX11_goWrong 3 = .ok (.invokevirtual 212, 3) := by decide +kernel
theorem dX11_goWrong_6 : decode cX11_goWrong 6 = .ok (.istore 5, 2) := by decide +kernel
theorem dX11_goWrong_8 : decode cX11_goWrong 8 = .ok (.aload_n 0, 1) := by decide +kernel
theorem dX11_goWrong_9 : decode cX11_goWrong 9 = .ok (.getfield 20, 3) := by decide +kernel
theorem dX11_goWrong_12 : decode cX11_goWrong 12 = .ok (.getfield 216, 3) := by decide +kernel
theorem dX11_goWrong_15 : decode cX11_goWrong 15 = .ok (.aload_n 0, 1) := by decide +kernel
theorem dX11_goWrong_16 : decode cX11_goWrong 16 = .ok (.getfield 20, 3) := by decide +kernel
theorem dX11_goWrong_19 : decode cX11_goWrong 19 = .ok (.getfield 162, 3) := by decide +kernel
theorem dX11_goWrong_22 : decode cX11_goWrong 22 = .ok (.aload_n 1, 1) := by decide +kernel
theorem dX11_goWrong_23 : decode cX11_goWrong 23 = .ok (.getfield 220, 3) := by decide +kernel
theorem dX11_goWrong_26 : decode cX11_goWrong 26 = .ok (.aload_n 2, 1) := by decide +kernel
theorem dX11_goWrong_27 : decode cX11_goWrong 27 = .ok (.getfield 223, 3) := by decide +kernel
theorem dX11_goWrong_30 : decode cX11_goWrong 30 = .ok (.iload_n 3, 1) := by decide +kernel
theorem dX11_goWrong_31 : decode cX11_goWrong 31 = .ok (.iload 5, 2) := by decide +kernel
theorem dX11_goWrong_33 : decode cX11_goWrong 33 = .ok (.iload 4, 2) := by decide +kernel
theorem dX11_goWrong_35 : decode cX11_goWrong 35 = .ok (.invokevirtual 224, 3) := by decide +kernel
theorem dX11_goWrong_38 : decode cX11_goWrong 38 = .ok (.iload 5, 2) := by decide +kernel
theorem dX11_goWrong_40 : decode cX11_goWrong 40 = .ok (.tableswitch 121 1 6 #[40, 48, 70, 70, 96, 103], 40) := by decide +kernel
theorem dX11_goWrong_80 : decode cX11_goWrong 80 = .ok (.aload_n 1, 1) := by decide +kernel
theorem dX11_goWrong_81 : decode cX11_goWrong 81 = .ok (.aload_n 2, 1) := by decide +kernel
theorem dX11_goWrong_82 : decode cX11_goWrong 82 = .ok (.invokevirtual 230, 3) := by decide +kernel
theorem dX11_goWrong_85 : decode cX11_goWrong 85 = .ok (.goto 91, 3) := by decide +kernel
theorem dX11_goWrong_88 : decode cX11_goWrong 88 = .ok (.aload_n 1, 1) := by decide +kernel
theorem dX11_goWrong_89 : decode cX11_goWrong 89 = .ok (.aload_n 2, 1) := by decide +kernel
theorem dX11_goWrong_90 : decode cX11_goWrong 90 = .ok (.aload_n 0, 1) := by decide +kernel
theorem dX11_goWrong_91 : decode cX11_goWrong 91 = .ok (.getfield 20, 3) := by decide +kernel
theorem dX11_goWrong_94 : decode cX11_goWrong 94 = .ok (.getfield 162, 3) := by decide +kernel
theorem dX11_goWrong_97 : decode cX11_goWrong 97 = .ok (.aload_n 0, 1) := by decide +kernel
theorem dX11_goWrong_98 : decode cX11_goWrong 98 = .ok (.getfield 20, 3) := by decide +kernel
theorem dX11_goWrong_101 : decode cX11_goWrong 101 = .ok (.getfield 162, 3) := by decide +kernel
theorem dX11_goWrong_104 : decode cX11_goWrong 104 = .ok (.invokevirtual 234, 3) := by decide +kernel
theorem dX11_goWrong_107 : decode cX11_goWrong 107 = .ok (.goto 69, 3) := by decide +kernel
theorem dX11_goWrong_110 : decode cX11_goWrong 110 = .ok (.aload_n 1, 1) := by decide +kernel
theorem dX11_goWrong_111 : decode cX11_goWrong 111 = .ok (.iload 5, 2) := by decide +kernel
theorem dX11_goWrong_113 : decode cX11_goWrong 113 = .ok (.iconst 4, 1) := by decide +kernel
theorem dX11_goWrong_114 : decode cX11_goWrong 114 = .ok (.if_icmp .ne 7, 3) := by decide +kernel
theorem dX11_goWrong_117 : decode cX11_goWrong 117 = .ok (.iconst 1, 1) := by decide +kernel
theorem dX11_goWrong_118 : decode cX11_goWrong 118 = .ok (.goto 4, 3) := by decide +kernel
theorem dX11_goWrong_121 : decode cX11_goWrong 121 = .ok (.iconst 0, 1) := by decide +kernel
theorem dX11_goWrong_122 : decode cX11_goWrong 122 = .ok (.iconst 3, 1) := by decide +kernel
theorem dX11_goWrong_123 : decode cX11_goWrong 123 = .ok (.aload_n 0, 1) := by decide +kernel
theorem dX11_goWrong_124 : decode cX11_goWrong 124 = .ok (.getfield 20, 3) := by decide +kernel
theorem dX11_goWrong_127 : decode cX11_goWrong 127 = .ok (.getfield 162, 3) := by decide +kernel
theorem dX11_goWrong_130 : decode cX11_goWrong 130 = .ok (.invokevirtual 141, 3) := by decide +kernel
theorem dX11_goWrong_133 : decode cX11_goWrong 133 = .ok (.goto 43, 3) := by decide +kernel
theorem dX11_goWrong_136 : decode cX11_goWrong 136 = .ok (.aload_n 1, 1) := by decide +kernel
theorem dX11_goWrong_137 : decode cX11_goWrong 137 = .ok (.invokevirtual 238, 3) := by decide +kernel
theorem dX11_goWrong_140 : decode cX11_goWrong 140 = .ok (.goto 36, 3) := by decide +kernel
theorem dX11_goWrong_143 : decode cX11_goWrong 143 = .ok (.aload_n 1, 1) := by decide +kernel
theorem dX11_goWrong_144 : decode cX11_goWrong 144 = .ok (.aload_n 2, 1) := by decide +kernel
theorem dX11_goWrong_145 : decode cX11_goWrong 145 = .ok (.iload_n 3, 1) := by decide +kernel
theorem dX11_goWrong_146 : decode cX11_goWrong 146 = .ok (.iload 4, 2) := by decide +kernel
theorem dX11_goWrong_148 : decode cX11_goWrong 148 = .ok (.aload_n 0, 1) := by decide +kernel
theorem dX11_goWrong_149 : decode cX11_goWrong 149 = .ok (.getfield 20, 3) := by decide +kernel
theorem dX11_goWrong_152 : decode cX11_goWrong 152 = .ok (.getfield 162, 3) := by decide +kernel
theorem dX11_goWrong_155 : decode cX11_goWrong 155 = .ok (.invokevirtual 241, 3) := by decide +kernel
theorem dX11_goWrong_158 : decode cX11_goWrong 158 = .ok (.goto 18, 3) := by decide +kernel
theorem dX11_goWrong_161 : decode cX11_goWrong 161 = .ok (.iload_n 3, 1) := by decide +kernel
theorem dX11_goWrong_162 : decode cX11_goWrong 162 = .ok (.iconst 2, 1) := by decide +kernel
theorem dX11_goWrong_163 : decode cX11_goWrong 163 = .ok (.if_icmp .eq 13, 3) := by decide +kernel
theorem dX11_goWrong_166 : decode cX11_goWrong 166 = .ok (.aload_n 2, 1) := by decide +kernel
theorem dX11_goWrong_167 : decode cX11_goWrong 167 = .ok (.dup, 1) := by decide +kernel
theorem dX11_goWrong_168 : decode cX11_goWrong 168 = .ok (.getfield 245, 3) := by decide +kernel
theorem dX11_goWrong_171 : decode cX11_goWrong 171 = .ok (.iconst 4, 1) := by decide +kernel
theorem dX11_goWrong_172 : decode cX11_goWrong 172 = .ok (.iadd, 1) := by decide +kernel
theorem dX11_goWrong_173 : decode cX11_goWrong 173 = .ok (.putfield 245, 3) := by decide +kernel
theorem dX11_goWrong_176 : decode cX11_goWrong 176 = .ok (.iload 5, 2) := by decide +kernel
theorem dX11_goWrong_178 : decode cX11_goWrong 178 = .ok (.ireturn, 1) := by decide +kernel
def wb_X11_goWrong_176  (S : q_S) (x5 : Int32) (Q : Option Value → q_S → Prop) : Prop := Q (some (.int x5)) S
set_option maxHeartbeats 4000000 in
set_option maxRecDepth 100000 in
theorem cb_X11_goWrong_176 {p : Program} {l : Launch} {e : Env} {s : State} {m : MethodId} {args : Array Value} {below : List Frame} {meth : Method} {c : Code} {D : va_G} {cy : Nat → ClassId} {lo : Nat}  {S : q_S} {x5 : Int32} {Q : Option Value → q_S → Prop} {H : Heap} {locs : List Loc} {ls : Array Slot} (X : q_X p s m args meth c RX11 cX11_goWrong 6 (some .int) D cy lo)  (Y : q_Y D cy lo s S H locs) (hl : lv_has ls 6 [(5, .int x5)]) (h : wb_X11_goWrong_176 S x5 Q) : W p l e ({ frames := 4, cells := 0, slots := 0, locals := 105 } : Room) s m args below meth c H locs 0 0 (MQ below (q_Q D cy lo Q) args s 0 0 (fun q => lo ≤ q)) (F0 m 176 ls []) := by
  have hx := X.1
  have hb := X.2.1
  unfold wb_X11_goWrong_176 at h
  refine lv_iload hx hb dX11_goWrong_176 (lv_at hl 0 rfl) ?_
  exact q_iret X Y rfl (Nat.le_refl _) (Nat.le_refl _) h dX11_goWrong_178
def wb_X11_goWrong_122  (S : q_S) (a0 : Nat) (x5 : Int32) (rs0 : Option Nat) (xs1 : Int32) (Q : Option Value → q_S → Prop) : Prop := q_K S a0 = 12 ∧ (∃ a2_ : Nat, (q_P S 2201 a0) = some a2_ ∧ (q_K S a2_ = 7 ∧ (∃ a5_ : Nat, rs0 = some a5_ ∧ (q_K S a5_ = 6 ∧ (wm_X5_beginAnew S a5_ xs1 (3 : Int32) (q_I S 1211 a2_) (fun r8_ S9_ => r8_ = none ∧ (wb_X11_goWrong_176 S9_ x5 Q)))))))
set_option maxHeartbeats 4000000 in
set_option maxRecDepth 100000 in
theorem cb_X11_goWrong_122 {p : Program} {l : Launch} {e : Env} {s : State} {m : MethodId} {args : Array Value} {below : List Frame} {meth : Method} {c : Code} {D : va_G} {cy : Nat → ClassId} {lo : Nat}  {S : q_S} {a0 : Nat} {x5 : Int32} {rs0 : Option Nat} {xs1 : Int32} {Q : Option Value → q_S → Prop} {H : Heap} {locs : List Loc} {ls : Array Slot} (X : q_X p s m args meth c RX11 cX11_goWrong 6 (some .int) D cy lo)  (Y : q_Y D cy lo s S H locs) (hl : lv_has ls 6 [(0, .ref a0), (5, .int x5)]) (h : wb_X11_goWrong_122 S a0 x5 rs0 xs1 Q) : W p l e ({ frames := 4, cells := 0, slots := 0, locals := 105 } : Room) s m args below meth c H locs 0 0 (MQ below (q_Q D cy lo Q) args s 0 0 (fun q => lo ≤ q)) (F0 m 122 ls [.int xs1, va_rf rs0]) := by
  have hx := X.1
  have hb := X.2.1
  unfold wb_X11_goWrong_122 at h
  refine lv_iconst (v := 3) hx hb dX11_goWrong_122 (by decide) ?_
  refine lv_aload_n hx hb dX11_goWrong_123 rfl (lv_at hl 0 rfl) ?_
  obtain ⟨k1_, h⟩ := h
  refine q_getP X Y kX11 1 rfl fl_X11_20 k1_ rfl dX11_goWrong_124 ?_
  obtain ⟨a2_, e3_, h⟩ := h
  refine q_nn [] e3_ ?_
  obtain ⟨k4_, h⟩ := h
  refine q_getI X Y kX6 11 rfl fl_X11_162 k4_ dX11_goWrong_127 ?_
  obtain ⟨a5_, e6_, h⟩ := h
  refine q_nn [.int (q_I S 1211 a2_), .int (3 : Int32), .int xs1] e6_ ?_
  obtain ⟨k7_, h⟩ := h
  refine q_callV X Y hl (cm_X5_beginAnew h) mt_X5_beginAnew mi_X5_beginAnew ml_X11_141 (ci := 5) rfl k7_ (by decide) rfl rfl (by first | exact Nat.le_of_ble_eq_true rfl | simp [q_cat, q_catI, q_catJ, q_catR]) ⟨Nat.le_of_ble_eq_true rfl, Nat.le_of_ble_eq_true rfl⟩ ⟨Nat.le_of_ble_eq_true rfl, Nat.le_of_ble_eq_true rfl⟩ dX11_goWrong_130 (fun r8_ S9_ H locs hp Y => ?_)
  obtain ⟨rfl, h⟩ := hp
  refine W.eq (g2 := F0 m 133 ls []) rfl ?_
  refine lv_goto (tgt := 176) hx hb dX11_goWrong_133 (by decide) ?_
  exact cb_X11_goWrong_176 X Y (lv_sub hl [1] rfl) h
def wm_X11_goWrong (S : q_S) (a0 : Nat) (r1 : Option Nat) (r2 : Option Nat) (x3 : Int32) (x4 : Int32) (Q : Option Value → q_S → Prop) : Prop := ∃ a10_ : Nat, r1 = some a10_ ∧ (q_K S a10_ = 6 ∧ (wm_X5_actionFor S a10_ r2 x3 (fun r13_ S14_ => ∃ x15_ : Int32, r13_ = some (.int x15_) ∧ (q_K S14_ a0 = 12 ∧ (∃ a17_ : Nat, (q_P S14_ 2201 a0) = some a17_ ∧ (q_K S14_ a17_ = 7 ∧ (q_K S14_ a10_ = 6 ∧ (∃ a21_ : Nat, r2 = some a21_ ∧ (q_K S14_ a21_ = 8 ∧ (∃ a24_ : Nat, (q_P S14_ 1210 a17_) = some a24_ ∧ (q_K S14_ a24_ = 3 ∧ (wm_X2_note S14_ a24_ (q_I S14_ 1211 a17_) (q_I S14_ 1000 a10_) (q_I S14_ 1400 a21_) x3 x15_ x4 (fun r27_ S28_ => r27_ = none ∧ ((((x15_.toInt < 1 ∨ 6 < x15_.toInt) → (((x3 = (2 : Int32) → (wb_X11_goWrong_176 S28_ x15_ Q)) ∧ (¬ x3 = (2 : Int32) → (q_K S28_ a21_ = 8 ∧ (wb_X11_goWrong_176 (qs_I S28_ 1410 a21_ ((q_I S28_ 1410 a21_) + (4 : Int32))) x15_ Q)))))) ∧ ((x15_ = (1 : Int32)) → (q_K S28_ a10_ = 6 ∧ (wm_X5_rest S28_ a10_ r2 (fun r32_ S33_ => r32_ = none ∧ (wb_X11_goWrong_176 S33_ x15_ Q))))) ∧ ((x15_ = (2 : Int32)) → (q_K S28_ a0 = 12 ∧ (∃ a35_ : Nat, (q_P S28_ 2201 a0) = some a35_ ∧ (q_K S28_ a35_ = 7 ∧ (q_K S28_ a10_ = 6 ∧ (wm_X5_start S28_ a10_ r2 (q_I S28_ 1211 a35_) (q_I S28_ 1211 a35_) (fun r39_ S40_ => r39_ = none ∧ (wb_X11_goWrong_176 S40_ x15_ Q)))))))) ∧ ((x15_ = (3 : Int32) ∨ x15_ = (4 : Int32)) → (((¬ x15_ = (4 : Int32) → (wb_X11_goWrong_122 S28_ a0 x15_ r1 (0 : Int32) Q)) ∧ (x15_ = (4 : Int32) → (wb_X11_goWrong_122 S28_ a0 x15_ r1 (1 : Int32) Q))))) ∧ ((x15_ = (5 : Int32)) → (q_K S28_ a10_ = 6 ∧ (wm_X5_goIdle S28_ a10_ (fun r43_ S44_ => r43_ = none ∧ (wb_X11_goWrong_176 S44_ x15_ Q))))) ∧ ((x15_ = (6 : Int32)) → (q_K S28_ a0 = 12 ∧ (∃ a46_ : Nat, (q_P S28_ 2201 a0) = some a46_ ∧ (q_K S28_ a46_ = 7 ∧ (q_K S28_ a10_ = 6 ∧ (wm_X5_handOver S28_ a10_ r2 x3 x4 (q_I S28_ 1211 a46_) (fun r50_ S51_ => r50_ = none ∧ (wb_X11_goWrong_176 S51_ x15_ Q)))))))))))))))))))))))
set_option maxHeartbeats 4000000 in
set_option maxRecDepth 100000 in
theorem cm_X11_goWrong {l : Launch} {D : va_G} {cy : Nat → ClassId} {lo : Nat} {S : q_S} {a0 : Nat} {r1 : Option Nat} {r2 : Option Nat} {x3 : Int32} {x4 : Int32} {Q : Option Value → q_S → Prop} (h : wm_X11_goWrong S a0 r1 r2 x3 x4 Q) : q_Met l D cy lo yX11_goWrong cX11_goWrong 6 (some .int) 4 105 0 0 [.ref a0, va_rf r1, va_rf r2, .int x3, .int x4] S Q := by
  refine q_body (by decide) (by first | exact Nat.le_of_ble_eq_true rfl | simp [lg_sl, q_cat, q_catI, q_catJ, q_catR]) ?_
  intro p e s m below meth c ls X hnm Y hl
  have hx := X.1
  have hb := X.2.1
  have hl : lv_has ls 6 [(0, .ref a0), (1, va_rf r1), (2, va_rf r2), (3, .int x3), (4, .int x4)] := by first | exact hl | simpa [lv_args, q_cat, q_catI, q_catJ, q_catR] using hl
  generalize hargs : ([.ref a0, va_rf r1, va_rf r2, .int x3, .int x4] : List Value).toArray = args at X ⊢
  unfold wm_X11_goWrong at h
  refine q_aload_n hx hb dX11_goWrong_0 rfl (lv_at hl 1 rfl) ?_
  refine q_aload_n hx hb dX11_goWrong_1 rfl (lv_at hl 2 rfl) ?_
  refine lv_iload_n hx hb dX11_goWrong_2 rfl (lv_at hl 3 rfl) ?_
  obtain ⟨a10_, e11_, h⟩ := h
  refine q_nn [.int x3, va_rf r2] e11_ ?_
  obtain ⟨k12_, h⟩ := h
  refine q_callV X Y hl (cm_X5_actionFor h) mt_X5_actionFor mi_X5_actionFor ml_X11_212 (ci := 5) rfl k12_ (by decide) rfl rfl (by first | exact Nat.le_of_ble_eq_true rfl | simp [q_cat, q_catI, q_catJ, q_catR]) ⟨Nat.le_of_ble_eq_true rfl, Nat.le_of_ble_eq_true rfl⟩ ⟨Nat.le_of_ble_eq_true rfl, Nat.le_of_ble_eq_true rfl⟩ dX11_goWrong_3 (fun r13_ S14_ H locs hp Y => ?_)
  obtain ⟨x15_, rfl, h⟩ := hp
  refine W.eq (g2 := F0 m 6 ls [.int x15_]) rfl ?_
  refine lv_istore (i := 5) (lv' := [(5, .int x15_), (0, .ref a0), (1, va_rf r1), (2, va_rf r2), (3, .int x3), (4, .int x4)]) hx hb dX11_goWrong_6 hl (by decide) (by first | rfl | simp [q_cat, q_catI, q_catJ, q_catR]) (fun ls hl => ?_)
  refine lv_aload_n hx hb dX11_goWrong_8 rfl (lv_at hl 1 rfl) ?_
  obtain ⟨k16_, h⟩ := h
  refine q_getP X Y kX11 1 rfl fl_X11_20 k16_ rfl dX11_goWrong_9 ?_
  obtain ⟨a17_, e18_, h⟩ := h
  refine q_nn [] e18_ ?_
  obtain ⟨k19_, h⟩ := h
  refine q_getP X Y kX6 10 rfl fl_X11_216 k19_ rfl dX11_goWrong_12 ?_
  refine lv_aload_n hx hb dX11_goWrong_15 rfl (lv_at hl 1 rfl) ?_
  refine q_getR X Y kX11 1 rfl fl_X11_20 k16_ e18_ dX11_goWrong_16 ?_
  refine q_getI X Y kX6 11 rfl fl_X11_162 k19_ dX11_goWrong_19 ?_
  refine q_aload_n hx hb dX11_goWrong_22 rfl (lv_at hl 2 rfl) ?_
  refine q_nn [] e11_ ?_
  obtain ⟨k20_, h⟩ := h
  refine q_getI X Y kX5 0 rfl fl_X11_220 k20_ dX11_goWrong_23 ?_
  refine q_aload_n hx hb dX11_goWrong_26 rfl (lv_at hl 3 rfl) ?_
  obtain ⟨a21_, e22_, h⟩ := h
  refine q_nn [] e22_ ?_
  obtain ⟨k23_, h⟩ := h
  refine q_getI X Y kX7 0 rfl fl_X11_223 k23_ dX11_goWrong_27 ?_
  refine lv_iload_n hx hb dX11_goWrong_30 rfl (lv_at hl 4 rfl) ?_
  refine lv_iload hx hb dX11_goWrong_31 (lv_at hl 0 rfl) ?_
  refine lv_iload hx hb dX11_goWrong_33 (lv_at hl 5 rfl) ?_
  obtain ⟨a24_, e25_, h⟩ := h
  refine q_nn [.int x4, .int x15_, .int x3, .int (q_I S14_ 1400 a21_), .int (q_I S14_ 1000 a10_), .int (q_I S14_ 1211 a17_)] e25_ ?_
  obtain ⟨k26_, h⟩ := h
  refine q_callV X Y hl (cm_X2_note h) mt_X2_note mi_X2_note ml_X11_224 (ci := 2) rfl k26_ (by decide) rfl rfl (by first | exact Nat.le_of_ble_eq_true rfl | simp [q_cat, q_catI, q_catJ, q_catR]) ⟨Nat.le_of_ble_eq_true rfl, Nat.le_of_ble_eq_true rfl⟩ ⟨Nat.le_of_ble_eq_true rfl, Nat.le_of_ble_eq_true rfl⟩ dX11_goWrong_35 (fun r27_ S28_ H locs hp Y => ?_)
  obtain ⟨rfl, h⟩ := hp
  refine W.eq (g2 := F0 m 38 ls []) rfl ?_
  refine lv_iload hx hb dX11_goWrong_38 (lv_at hl 0 rfl) ?_
  refine q_tsw (tgt := 161) hx hb dX11_goWrong_40 (by decide) (by decide) (fun c52_ => ?_) (fun j53_ hj_ c52_ => ?_)
  · replace h := h.1 c52_
    refine lv_iload_n hx hb dX11_goWrong_161 rfl (lv_at hl 4 rfl) ?_
    refine lv_iconst (v := 2) hx hb dX11_goWrong_162 (by decide) ?_
    refine lv_icmp_eq (tgt := 176) hx hb dX11_goWrong_163 (by decide) (fun c29_ => ?_) (fun c29_ => ?_)
    · replace h := h.1 c29_
      exact cb_X11_goWrong_176 X Y (lv_sub hl [0] rfl) h
    · replace h := h.2 c29_
      refine q_aload_n hx hb dX11_goWrong_166 rfl (lv_at hl 3 rfl) ?_
      refine lv_dup hx hb dX11_goWrong_167 (q_cat _) ?_
      refine q_nn [] e22_ ?_
      obtain ⟨k30_, h⟩ := h
      refine q_getI X Y kX7 10 rfl fl_X11_245 k30_ dX11_goWrong_168 ?_
      refine lv_iconst (v := 4) hx hb dX11_goWrong_171 (by decide) ?_
      refine lv_iadd hx hb dX11_goWrong_172 ?_
      refine q_nn [.int ((q_I S28_ 1410 a21_) + (4 : Int32))] e22_ ?_
      refine q_putI X Y kX7 10 rfl fl_X11_245 k30_ .int rfl ⟨rfl, rfl⟩ rfl dX11_goWrong_173 (fun H locs Y => ?_)
      exact cb_X11_goWrong_176 X Y (lv_sub hl [0] rfl) h
  · match j53_, hj_, c52_ with
    | 0, _, c52_ =>
      refine ⟨40, 80, rfl, by decide, ?_⟩
      replace h := h.2.1 (q_eqI c52_ (by decide))
      refine q_aload_n hx hb dX11_goWrong_80 rfl (lv_at hl 2 rfl) ?_
      refine q_aload_n hx hb dX11_goWrong_81 rfl (lv_at hl 3 rfl) ?_
      refine q_nn [va_rf r2] e11_ ?_
      obtain ⟨k31_, h⟩ := h
      refine q_callV X Y hl (cm_X5_rest h) mt_X5_rest mi_X5_rest ml_X11_230 (ci := 5) rfl k31_ (by decide) rfl rfl (by first | exact Nat.le_of_ble_eq_true rfl | simp [q_cat, q_catI, q_catJ, q_catR]) ⟨Nat.le_of_ble_eq_true rfl, Nat.le_of_ble_eq_true rfl⟩ ⟨Nat.le_of_ble_eq_true rfl, Nat.le_of_ble_eq_true rfl⟩ dX11_goWrong_82 (fun r32_ S33_ H locs hp Y => ?_)
      obtain ⟨rfl, h⟩ := hp
      refine W.eq (g2 := F0 m 85 ls []) rfl ?_
      refine lv_goto (tgt := 176) hx hb dX11_goWrong_85 (by decide) ?_
      exact cb_X11_goWrong_176 X Y (lv_sub hl [0] rfl) h
    | 1, _, c52_ =>
      refine ⟨48, 88, rfl, by decide, ?_⟩
      replace h := h.2.2.1 (q_eqI c52_ (by decide))
      refine q_aload_n hx hb dX11_goWrong_88 rfl (lv_at hl 2 rfl) ?_
      refine q_aload_n hx hb dX11_goWrong_89 rfl (lv_at hl 3 rfl) ?_
      refine lv_aload_n hx hb dX11_goWrong_90 rfl (lv_at hl 1 rfl) ?_
      obtain ⟨k34_, h⟩ := h
      refine q_getP X Y kX11 1 rfl fl_X11_20 k34_ rfl dX11_goWrong_91 ?_
      obtain ⟨a35_, e36_, h⟩ := h
      refine q_nn [] e36_ ?_
      obtain ⟨k37_, h⟩ := h
      refine q_getI X Y kX6 11 rfl fl_X11_162 k37_ dX11_goWrong_94 ?_
      refine lv_aload_n hx hb dX11_goWrong_97 rfl (lv_at hl 1 rfl) ?_
      refine q_getR X Y kX11 1 rfl fl_X11_20 k34_ e36_ dX11_goWrong_98 ?_
      refine q_getI X Y kX6 11 rfl fl_X11_162 k37_ dX11_goWrong_101 ?_
      refine q_nn [.int (q_I S28_ 1211 a35_), .int (q_I S28_ 1211 a35_), va_rf r2] e11_ ?_
      obtain ⟨k38_, h⟩ := h
      refine q_callV X Y hl (cm_X5_start h) mt_X5_start mi_X5_start ml_X11_234 (ci := 5) rfl k38_ (by decide) rfl rfl (by first | exact Nat.le_of_ble_eq_true rfl | simp [q_cat, q_catI, q_catJ, q_catR]) ⟨Nat.le_of_ble_eq_true rfl, Nat.le_of_ble_eq_true rfl⟩ ⟨Nat.le_of_ble_eq_true rfl, Nat.le_of_ble_eq_true rfl⟩ dX11_goWrong_104 (fun r39_ S40_ H locs hp Y => ?_)
      obtain ⟨rfl, h⟩ := hp
      refine W.eq (g2 := F0 m 107 ls []) rfl ?_
      refine lv_goto (tgt := 176) hx hb dX11_goWrong_107 (by decide) ?_
      exact cb_X11_goWrong_176 X Y (lv_sub hl [0] rfl) h
    | 2, _, c52_ =>
      refine ⟨70, 110, rfl, by decide, ?_⟩
      replace h := h.2.2.2.1 (Or.inl (q_eqI c52_ (by decide)))
      refine q_aload_n hx hb dX11_goWrong_110 rfl (lv_at hl 2 rfl) ?_
      refine lv_iload hx hb dX11_goWrong_111 (lv_at hl 0 rfl) ?_
      refine lv_iconst (v := 4) hx hb dX11_goWrong_113 (by decide) ?_
      refine lv_icmp_ne (tgt := 121) hx hb dX11_goWrong_114 (by decide) (fun c41_ => ?_) (fun c41_ => ?_)
      · replace h := h.1 c41_
        refine lv_iconst (v := 0) hx hb dX11_goWrong_121 (by decide) ?_
        exact cb_X11_goWrong_122 X Y (lv_sub hl [1, 0] rfl) h
      · replace h := h.2 c41_
        refine lv_iconst (v := 1) hx hb dX11_goWrong_117 (by decide) ?_
        refine lv_goto (tgt := 122) hx hb dX11_goWrong_118 (by decide) ?_
        exact cb_X11_goWrong_122 X Y (lv_sub hl [1, 0] rfl) h
    | 3, _, c52_ =>
      refine ⟨70, 110, rfl, by decide, ?_⟩
      replace h := h.2.2.2.1 (Or.inr (q_eqI c52_ (by decide)))
      refine q_aload_n hx hb dX11_goWrong_110 rfl (lv_at hl 2 rfl) ?_
      refine lv_iload hx hb dX11_goWrong_111 (lv_at hl 0 rfl) ?_
      refine lv_iconst (v := 4) hx hb dX11_goWrong_113 (by decide) ?_
      refine lv_icmp_ne (tgt := 121) hx hb dX11_goWrong_114 (by decide) (fun c41_ => ?_) (fun c41_ => ?_)
      · replace h := h.1 c41_
        refine lv_iconst (v := 0) hx hb dX11_goWrong_121 (by decide) ?_
        exact cb_X11_goWrong_122 X Y (lv_sub hl [1, 0] rfl) h
      · replace h := h.2 c41_
        refine lv_iconst (v := 1) hx hb dX11_goWrong_117 (by decide) ?_
        refine lv_goto (tgt := 122) hx hb dX11_goWrong_118 (by decide) ?_
        exact cb_X11_goWrong_122 X Y (lv_sub hl [1, 0] rfl) h
    | 4, _, c52_ =>
      refine ⟨96, 136, rfl, by decide, ?_⟩
      replace h := h.2.2.2.2.1 (q_eqI c52_ (by decide))
      refine q_aload_n hx hb dX11_goWrong_136 rfl (lv_at hl 2 rfl) ?_
      refine q_nn [] e11_ ?_
      obtain ⟨k42_, h⟩ := h
      refine q_callV X Y hl (cm_X5_goIdle h) mt_X5_goIdle mi_X5_goIdle ml_X11_238 (ci := 5) rfl k42_ (by decide) rfl rfl (by first | exact Nat.le_of_ble_eq_true rfl | simp [q_cat, q_catI, q_catJ, q_catR]) ⟨Nat.le_of_ble_eq_true rfl, Nat.le_of_ble_eq_true rfl⟩ ⟨Nat.le_of_ble_eq_true rfl, Nat.le_of_ble_eq_true rfl⟩ dX11_goWrong_137 (fun r43_ S44_ H locs hp Y => ?_)
      obtain ⟨rfl, h⟩ := hp
      refine W.eq (g2 := F0 m 140 ls []) rfl ?_
      refine lv_goto (tgt := 176) hx hb dX11_goWrong_140 (by decide) ?_
      exact cb_X11_goWrong_176 X Y (lv_sub hl [0] rfl) h
    | 5, _, c52_ =>
      refine ⟨103, 143, rfl, by decide, ?_⟩
      replace h := h.2.2.2.2.2 (q_eqI c52_ (by decide))
      refine q_aload_n hx hb dX11_goWrong_143 rfl (lv_at hl 2 rfl) ?_
      refine q_aload_n hx hb dX11_goWrong_144 rfl (lv_at hl 3 rfl) ?_
      refine lv_iload_n hx hb dX11_goWrong_145 rfl (lv_at hl 4 rfl) ?_
      refine lv_iload hx hb dX11_goWrong_146 (lv_at hl 5 rfl) ?_
      refine lv_aload_n hx hb dX11_goWrong_148 rfl (lv_at hl 1 rfl) ?_
      obtain ⟨k45_, h⟩ := h
      refine q_getP X Y kX11 1 rfl fl_X11_20 k45_ rfl dX11_goWrong_149 ?_
      obtain ⟨a46_, e47_, h⟩ := h
      refine q_nn [] e47_ ?_
      obtain ⟨k48_, h⟩ := h
      refine q_getI X Y kX6 11 rfl fl_X11_162 k48_ dX11_goWrong_152 ?_
      refine q_nn [.int (q_I S28_ 1211 a46_), .int x4, .int x3, va_rf r2] e11_ ?_
      obtain ⟨k49_, h⟩ := h
      refine q_callV X Y hl (cm_X5_handOver h) mt_X5_handOver mi_X5_handOver ml_X11_241 (ci := 5) rfl k49_ (by decide) rfl rfl (by first | exact Nat.le_of_ble_eq_true rfl | simp [q_cat, q_catI, q_catJ, q_catR]) ⟨Nat.le_of_ble_eq_true rfl, Nat.le_of_ble_eq_true rfl⟩ ⟨Nat.le_of_ble_eq_true rfl, Nat.le_of_ble_eq_true rfl⟩ dX11_goWrong_155 (fun r50_ S51_ H locs hp Y => ?_)
      obtain ⟨rfl, h⟩ := hp
      refine W.eq (g2 := F0 m 158 ls []) rfl ?_
      refine lv_goto (tgt := 176) hx hb dX11_goWrong_158 (by decide) ?_
      exact cb_X11_goWrong_176 X Y (lv_sub hl [0] rfl) h
    | z_ + 6, hj_, _ => exact absurd hj_ (by simp)
-- X11_lateOnesDealtWith
theorem fl_X11_202 : Cond.fieldLink RX11 202 "PartitionWorks$Partition" "processCount" "I" ∈ q_G := q_tb (i := 702) (by decide +kernel) (by decide +kernel)
theorem fl_X11_205 : Cond.fieldLink RX11 205 "PartitionWorks$Partition" "processes" "[LPartitionWorks$Process;" ∈ q_G := q_tb (i := 700) (by decide +kernel) (by decide +kernel)
theorem fl_X11_209 : Cond.fieldLink RX11 209 "PartitionWorks$Process" "due" "I" ∈ q_G := q_tb (i := 884) (by decide +kernel) (by decide +kernel)
theorem ml_X11_198 : Cond.methodLink RX11 198 yX11_goWrong ∈ q_G := q_tb (i := 1408) (by decide +kernel) (by decide +kernel)
theorem mt_X11_goWrong : q_Mt yX11_goWrong cX11_goWrong 6 (some .int) 4 := ⟨q_tb (i := 1411) (by decide +kernel) (by decide +kernel), q_tb (i := 1) (by decide +kernel) (by decide +kernel), by decide +kernel, by decide +kernel, by decide +kernel⟩
theorem mi_X11_goWrong : Cond.instanceMethod yX11_goWrong ∈ q_G ∧ Cond.selects yX11_goWrong.cls yX11_goWrong yX11_goWrong ∈ q_G := ⟨q_tb (i := 1410) (by decide +kernel) (by decide +kernel), q_tp (i := 38) (q := (yX11_goWrong, 5)) (by decide +kernel) (by decide +kernel)⟩
theorem dX11_lateOnesDealtWith_0 : decode cX11_lateOnesDealtWith 0 = .ok (.iconst 0, 1) := by decide +kernel
theorem dX11_lateOnesDealtWith_1 : decode cX11_lateOnesDealtWith 1 = .ok (.istore_n 2, 1) := by decide +kernel
theorem dX11_lateOnesDealtWith_2 : decode cX11_lateOnesDealtWith 2 = .ok (.iload_n 2, 1) := by decide +kernel
theorem dX11_lateOnesDealtWith_3 : decode cX11_lateOnesDealtWith 3 = .ok (.aload_n 1, 1) := by decide +kernel
theorem dX11_lateOnesDealtWith_4 : decode cX11_lateOnesDealtWith 4 = .ok (.getfield 202, 3) := by decide +kernel
theorem dX11_lateOnesDealtWith_7 : decode cX11_lateOnesDealtWith 7 = .ok (.if_icmp .ge 74, 3) := by decide +kernel
theorem dX11_lateOnesDealtWith_10 : decode cX11_lateOnesDealtWith 10 = .ok (.aload_n 1, 1) := by decide +kernel
theorem dX11_lateOnesDealtWith_11 : decode cX11_lateOnesDealtWith 11 = .ok (.getfield 205, 3) := by decide +kernel
theorem dX11_lateOnesDealtWith_14 : decode cX11_lateOnesDealtWith 14 = .ok (.iload_n 2, 1) := by decide +kernel
theorem dX11_lateOnesDealtWith_15 : decode cX11_lateOnesDealtWith 15 = .ok (.aaload, 1) := by decide +kernel
theorem dX11_lateOnesDealtWith_16 : decode cX11_lateOnesDealtWith 16 = .ok (.astore_n 3, 1) := by decide +kernel
theorem dX11_lateOnesDealtWith_17 : decode cX11_lateOnesDealtWith 17 = .ok (.aload_n 3, 1) := by decide +kernel
theorem dX11_lateOnesDealtWith_18 : decode cX11_lateOnesDealtWith 18 = .ok (.getfield 209, 3) := by decide +kernel
theorem dX11_lateOnesDealtWith_21 : decode cX11_lateOnesDealtWith 21 = .ok (.iconst (-1), 1) := by decide +kernel
theorem dX11_lateOnesDealtWith_22 : decode cX11_lateOnesDealtWith 22 = .ok (.if_icmp .eq 53, 3) := by decide +kernel
theorem dX11_lateOnesDealtWith_25 : decode cX11_lateOnesDealtWith 25 = .ok (.aload_n 3, 1) := by decide +kernel
theorem dX11_lateOnesDealtWith_26 : decode cX11_lateOnesDealtWith 26 = .ok (.getfield 209, 3) := by decide +kernel
theorem dX11_lateOnesDealtWith_29 : decode cX11_lateOnesDealtWith 29 = .ok (.aload_n 0, 1) := by decide +kernel
theorem dX11_lateOnesDealtWith_30 : decode cX11_lateOnesDealtWith 30 = .ok (.getfield 20, 3) := by decide +kernel
theorem dX11_lateOnesDealtWith_33 : decode cX11_lateOnesDealtWith 33 = .ok (.getfield 162, 3) := by decide +kernel
theorem dX11_lateOnesDealtWith_36 : decode cX11_lateOnesDealtWith 36 = .ok (.if_icmp .ge 39, 3) := by decide +kernel
theorem dX11_lateOnesDealtWith_39 : decode cX11_lateOnesDealtWith 39 = .ok (.aload_n 3, 1) := by decide +kernel
theorem dX11_lateOnesDealtWith_40 : decode cX11_lateOnesDealtWith 40 = .ok (.getfield 209, 3) := by decide +kernel
theorem dX11_lateOnesDealtWith_43 : decode cX11_lateOnesDealtWith 43 = .ok (.istore 4, 2) := by decide +kernel
theorem dX11_lateOnesDealtWith_45 : decode cX11_lateOnesDealtWith 45 = .ok (.aload_n 3, 1) := by decide +kernel
theorem dX11_lateOnesDealtWith_46 : decode cX11_lateOnesDealtWith 46 = .ok (.iconst (-1), 1) := by decide +kernel
theorem dX11_lateOnesDealtWith_47 : decode cX11_lateOnesDealtWith 47 = .ok (.putfield 209, 3) := by decide +kernel
theorem dX11_lateOnesDealtWith_50 : decode cX11_lateOnesDealtWith 50 = .ok (.aload_n 0, 1) := by decide +kernel
theorem dX11_lateOnesDealtWith_51 : decode cX11_lateOnesDealtWith 51 = .ok (.aload_n 1, 1) := by decide +kernel
theorem dX11_lateOnesDealtWith_52 : decode cX11_lateOnesDealtWith 52 = .ok (.aload_n 3, 1) := by decide +kernel
theorem dX11_lateOnesDealtWith_53 : decode cX11_lateOnesDealtWith 53 = .ok (.iconst 2, 1) := by decide +kernel
theorem dX11_lateOnesDealtWith_54 : decode cX11_lateOnesDealtWith 54 = .ok (.iload 4, 2) := by decide +kernel
theorem dX11_lateOnesDealtWith_56 : decode cX11_lateOnesDealtWith 56 = .ok (.invokevirtual 198, 3) := by decide +kernel
theorem dX11_lateOnesDealtWith_59 : decode cX11_lateOnesDealtWith 59 = .ok (.istore 5, 2) := by decide +kernel
theorem dX11_lateOnesDealtWith_61 : decode cX11_lateOnesDealtWith 61 = .ok (.iload 5, 2) := by decide +kernel
theorem dX11_lateOnesDealtWith_63 : decode cX11_lateOnesDealtWith 63 = .ok (.iconst 3, 1) := by decide +kernel
theorem dX11_lateOnesDealtWith_64 : decode cX11_lateOnesDealtWith 64 = .ok (.if_icmp .lt 11, 3) := by decide +kernel
theorem dX11_lateOnesDealtWith_67 : decode cX11_lateOnesDealtWith 67 = .ok (.iload 5, 2) := by decide +kernel
theorem dX11_lateOnesDealtWith_69 : decode cX11_lateOnesDealtWith 69 = .ok (.iconst 5, 1) := by decide +kernel
theorem dX11_lateOnesDealtWith_70 : decode cX11_lateOnesDealtWith 70 = .ok (.if_icmp .gt 5, 3) := by decide +kernel
theorem dX11_lateOnesDealtWith_73 : decode cX11_lateOnesDealtWith 73 = .ok (.iconst 0, 1) := by decide +kernel
theorem dX11_lateOnesDealtWith_74 : decode cX11_lateOnesDealtWith 74 = .ok (.ireturn, 1) := by decide +kernel
theorem dX11_lateOnesDealtWith_75 : decode cX11_lateOnesDealtWith 75 = .ok (.iinc 2 1, 3) := by decide +kernel
theorem dX11_lateOnesDealtWith_78 : decode cX11_lateOnesDealtWith 78 = .ok (.goto (-76), 3) := by decide +kernel
theorem dX11_lateOnesDealtWith_81 : decode cX11_lateOnesDealtWith 81 = .ok (.iconst 1, 1) := by decide +kernel
theorem dX11_lateOnesDealtWith_82 : decode cX11_lateOnesDealtWith 82 = .ok (.ireturn, 1) := by decide +kernel
def wb_X11_lateOnesDealtWith_75 (B2 : q_S → Nat → Option Nat → Int32 → Prop) (S : q_S) (a0 : Nat) (r1 : Option Nat) (x2 : Int32) (Q : Option Value → q_S → Prop) : Prop := B2 S a0 r1 (x2 + 1)
set_option maxHeartbeats 4000000 in
set_option maxRecDepth 100000 in
theorem cb_X11_lateOnesDealtWith_75 {p : Program} {l : Launch} {e : Env} {s : State} {m : MethodId} {args : Array Value} {below : List Frame} {meth : Method} {c : Code} {D : va_G} {cy : Nat → ClassId} {lo : Nat} {B2 : q_S → Nat → Option Nat → Int32 → Prop} {S : q_S} {a0 : Nat} {r1 : Option Nat} {x2 : Int32} {Q : Option Value → q_S → Prop} {H : Heap} {locs : List Loc} {ls : Array Slot} (X : q_X p s m args meth c RX11 cX11_lateOnesDealtWith 6 (some .boolean) D cy lo) (hB2 : ∀ (S : q_S) (a0 : Nat) (r1 : Option Nat) (x2 : Int32) (H : Heap) (locs : List Loc) (ls : Array Slot), B2 S a0 r1 x2 → q_Y D cy lo s S H locs → lv_has ls 6 [(0, .ref a0), (1, va_rf r1), (2, .int x2)] → W p l e ({ frames := 5, cells := 0, slots := 0, locals := 130 } : Room) s m args below meth c H locs 0 0 (MQ below (q_Q D cy lo Q) args s 0 0 (fun q => lo ≤ q)) (F0 m 2 ls [])) (Y : q_Y D cy lo s S H locs) (hl : lv_has ls 6 [(0, .ref a0), (1, va_rf r1), (2, .int x2)]) (h : wb_X11_lateOnesDealtWith_75 B2 S a0 r1 x2 Q) : W p l e ({ frames := 5, cells := 0, slots := 0, locals := 130 } : Room) s m args below meth c H locs 0 0 (MQ below (q_Q D cy lo Q) args s 0 0 (fun q => lo ≤ q)) (F0 m 75 ls []) := by
  have hx := X.1
  have hb := X.2.1
  unfold wb_X11_lateOnesDealtWith_75 at h
  refine lv_iinc (v := (x2 + 1)) (lv' := [(2, .int (x2 + 1)), (0, .ref a0), (1, va_rf r1)]) hx hb dX11_lateOnesDealtWith_75 hl (k := 2) rfl (by first | rfl | decide) (by decide) (by first | rfl | simp [q_cat, q_catI, q_catJ, q_catR]) (fun ls hl => ?_)
  refine lv_goto (tgt := 2) hx hb dX11_lateOnesDealtWith_78 (by decide) ?_
  exact hB2 _ _ _ _ _ _ _ h Y (lv_sub hl [1, 2, 0] rfl)
def wb_X11_lateOnesDealtWith_2 (B2 : q_S → Nat → Option Nat → Int32 → Prop) (S : q_S) (a0 : Nat) (r1 : Option Nat) (x2 : Int32) (Q : Option Value → q_S → Prop) : Prop := ∃ a1_ : Nat, r1 = some a1_ ∧ (q_K S a1_ = 6 ∧ ((((q_I S 1004 a1_) ≤ x2 → (Q (some (.int (1 : Int32))) S)) ∧ (¬ (q_I S 1004 a1_) ≤ x2 → (∃ a5_ : Nat, (q_P S 1003 a1_) = some a5_ ∧ (q_K S a5_ = 26 ∧ (vp_in x2 (q_N S a5_) ∧ (∃ a9_ : Nat, (q_C S a5_ x2.toNatClampNeg) = some a9_ ∧ (q_K S a9_ = 8 ∧ ((((q_I S 1412 a9_) = (-1 : Int32) → (wb_X11_lateOnesDealtWith_75 B2 S a0 r1 x2 Q)) ∧ (¬ (q_I S 1412 a9_) = (-1 : Int32) → (q_K S a0 = 12 ∧ (∃ a14_ : Nat, (q_P S 2201 a0) = some a14_ ∧ (q_K S a14_ = 7 ∧ ((((q_I S 1211 a14_) ≤ (q_I S 1412 a9_) → (wb_X11_lateOnesDealtWith_75 B2 S a0 r1 x2 Q)) ∧ (¬ (q_I S 1211 a14_) ≤ (q_I S 1412 a9_) → (wm_X11_goWrong (qs_I S 1412 a9_ (-1 : Int32)) a0 r1 (q_C S a5_ x2.toNatClampNeg) (2 : Int32) (q_I S 1412 a9_) (fun r18_ S19_ => ∃ x20_ : Int32, r18_ = some (.int x20_) ∧ (((x20_ < (3 : Int32) → (wb_X11_lateOnesDealtWith_75 B2 S19_ a0 r1 x2 Q)) ∧ (¬ x20_ < (3 : Int32) → ((((5 : Int32) < x20_ → (wb_X11_lateOnesDealtWith_75 B2 S19_ a0 r1 x2 Q)) ∧ (¬ (5 : Int32) < x20_ → (Q (some (.int (0 : Int32))) S19_)))))))))))))))))))))))))))
set_option maxHeartbeats 4000000 in
set_option maxRecDepth 100000 in
theorem cb_X11_lateOnesDealtWith_2 {p : Program} {l : Launch} {e : Env} {s : State} {m : MethodId} {args : Array Value} {below : List Frame} {meth : Method} {c : Code} {D : va_G} {cy : Nat → ClassId} {lo : Nat} {B2 : q_S → Nat → Option Nat → Int32 → Prop} {S : q_S} {a0 : Nat} {r1 : Option Nat} {x2 : Int32} {Q : Option Value → q_S → Prop} {H : Heap} {locs : List Loc} {ls : Array Slot} (X : q_X p s m args meth c RX11 cX11_lateOnesDealtWith 6 (some .boolean) D cy lo) (hB2 : ∀ (S : q_S) (a0 : Nat) (r1 : Option Nat) (x2 : Int32) (H : Heap) (locs : List Loc) (ls : Array Slot), B2 S a0 r1 x2 → q_Y D cy lo s S H locs → lv_has ls 6 [(0, .ref a0), (1, va_rf r1), (2, .int x2)] → W p l e ({ frames := 5, cells := 0, slots := 0, locals := 130 } : Room) s m args below meth c H locs 0 0 (MQ below (q_Q D cy lo Q) args s 0 0 (fun q => lo ≤ q)) (F0 m 2 ls [])) (Y : q_Y D cy lo s S H locs) (hl : lv_has ls 6 [(0, .ref a0), (1, va_rf r1), (2, .int x2)]) (h : wb_X11_lateOnesDealtWith_2 B2 S a0 r1 x2 Q) : W p l e ({ frames := 5, cells := 0, slots := 0, locals := 130 } : Room) s m args below meth c H locs 0 0 (MQ below (q_Q D cy lo Q) args s 0 0 (fun q => lo ≤ q)) (F0 m 2 ls []) := by
  have hx := X.1
  have hb := X.2.1
  unfold wb_X11_lateOnesDealtWith_2 at h
  refine lv_iload_n hx hb dX11_lateOnesDealtWith_2 rfl (lv_at hl 2 rfl) ?_
  refine q_aload_n hx hb dX11_lateOnesDealtWith_3 rfl (lv_at hl 1 rfl) ?_
  obtain ⟨a1_, e2_, h⟩ := h
  refine q_nn [] e2_ ?_
  obtain ⟨k3_, h⟩ := h
  refine q_getI X Y kX5 4 rfl fl_X11_202 k3_ dX11_lateOnesDealtWith_4 ?_
  refine lv_icmp_ge (tgt := 81) hx hb dX11_lateOnesDealtWith_7 (by decide) (fun c4_ => ?_) (fun c4_ => ?_)
  · replace h := h.1 c4_
    refine lv_iconst (v := 1) hx hb dX11_lateOnesDealtWith_81 (by decide) ?_
    exact q_iret X Y rfl (Nat.le_refl _) (Nat.le_refl _) h dX11_lateOnesDealtWith_82
  · replace h := h.2 c4_
    refine q_aload_n hx hb dX11_lateOnesDealtWith_10 rfl (lv_at hl 1 rfl) ?_
    refine q_nn [] e2_ ?_
    refine q_getP X Y kX5 3 rfl fl_X11_205 k3_ rfl dX11_lateOnesDealtWith_11 ?_
    refine lv_iload_n hx hb dX11_lateOnesDealtWith_14 rfl (lv_at hl 2 rfl) ?_
    obtain ⟨a5_, e6_, h⟩ := h
    refine q_nn [.int x2] e6_ ?_
    obtain ⟨k7_, h⟩ := h
    obtain ⟨i8_, h⟩ := h
    refine q_cld X Y k7_ (by decide) (t := 6) rfl i8_ rfl dX11_lateOnesDealtWith_15 ?_
    refine q_astore_n (i := 3) (lv' := [(3, va_rf (q_C S a5_ x2.toNatClampNeg)), (0, .ref a0), (1, va_rf r1), (2, .int x2)]) hx hb dX11_lateOnesDealtWith_16 rfl hl (by decide) (by first | rfl | simp [q_cat, q_catI, q_catJ, q_catR]) (fun ls hl => ?_)
    refine q_aload_n hx hb dX11_lateOnesDealtWith_17 rfl (lv_at hl 0 rfl) ?_
    obtain ⟨a9_, e10_, h⟩ := h
    refine q_nn [] e10_ ?_
    obtain ⟨k11_, h⟩ := h
    refine q_getI X Y kX7 12 rfl fl_X11_209 k11_ dX11_lateOnesDealtWith_18 ?_
    refine lv_iconst (v := (-1)) hx hb dX11_lateOnesDealtWith_21 (by decide) ?_
    refine lv_icmp_eq (tgt := 75) hx hb dX11_lateOnesDealtWith_22 (by decide) (fun c12_ => ?_) (fun c12_ => ?_)
    · replace h := h.1 c12_
      exact cb_X11_lateOnesDealtWith_75 X hB2 Y (lv_sub hl [1, 2, 3] rfl) h
    · replace h := h.2 c12_
      refine q_aload_n hx hb dX11_lateOnesDealtWith_25 rfl (lv_at hl 0 rfl) ?_
      refine q_nn [] e10_ ?_
      refine q_getI X Y kX7 12 rfl fl_X11_209 k11_ dX11_lateOnesDealtWith_26 ?_
      refine lv_aload_n hx hb dX11_lateOnesDealtWith_29 rfl (lv_at hl 1 rfl) ?_
      obtain ⟨k13_, h⟩ := h
      refine q_getP X Y kX11 1 rfl fl_X11_20 k13_ rfl dX11_lateOnesDealtWith_30 ?_
      obtain ⟨a14_, e15_, h⟩ := h
      refine q_nn [] e15_ ?_
      obtain ⟨k16_, h⟩ := h
      refine q_getI X Y kX6 11 rfl fl_X11_162 k16_ dX11_lateOnesDealtWith_33 ?_
      refine lv_icmp_ge (tgt := 75) hx hb dX11_lateOnesDealtWith_36 (by decide) (fun c17_ => ?_) (fun c17_ => ?_)
      · replace h := h.1 c17_
        exact cb_X11_lateOnesDealtWith_75 X hB2 Y (lv_sub hl [1, 2, 3] rfl) h
      · replace h := h.2 c17_
        refine q_aload_n hx hb dX11_lateOnesDealtWith_39 rfl (lv_at hl 0 rfl) ?_
        refine q_nn [] e10_ ?_
        refine q_getI X Y kX7 12 rfl fl_X11_209 k11_ dX11_lateOnesDealtWith_40 ?_
        refine lv_istore (i := 4) (lv' := [(4, .int (q_I S 1412 a9_)), (3, va_rf (q_C S a5_ x2.toNatClampNeg)), (0, .ref a0), (1, va_rf r1), (2, .int x2)]) hx hb dX11_lateOnesDealtWith_43 hl (by decide) (by first | rfl | simp [q_cat, q_catI, q_catJ, q_catR]) (fun ls hl => ?_)
        refine q_aload_n hx hb dX11_lateOnesDealtWith_45 rfl (lv_at hl 1 rfl) ?_
        refine lv_iconst (v := (-1)) hx hb dX11_lateOnesDealtWith_46 (by decide) ?_
        refine q_nn [.int (-1 : Int32)] e10_ ?_
        refine q_putI X Y kX7 12 rfl fl_X11_209 k11_ .int rfl ⟨rfl, rfl⟩ rfl dX11_lateOnesDealtWith_47 (fun H locs Y => ?_)
        refine lv_aload_n hx hb dX11_lateOnesDealtWith_50 rfl (lv_at hl 2 rfl) ?_
        refine q_aload_n hx hb dX11_lateOnesDealtWith_51 rfl (lv_at hl 3 rfl) ?_
        refine q_aload_n hx hb dX11_lateOnesDealtWith_52 rfl (lv_at hl 1 rfl) ?_
        refine lv_iconst (v := 2) hx hb dX11_lateOnesDealtWith_53 (by decide) ?_
        refine lv_iload hx hb dX11_lateOnesDealtWith_54 (lv_at hl 0 rfl) ?_
        refine q_callV X Y hl (cm_X11_goWrong h) mt_X11_goWrong mi_X11_goWrong ml_X11_198 (ci := 11) rfl k13_ (by decide) rfl rfl (by first | exact Nat.le_of_ble_eq_true rfl | simp [q_cat, q_catI, q_catJ, q_catR]) ⟨Nat.le_of_ble_eq_true rfl, Nat.le_of_ble_eq_true rfl⟩ ⟨Nat.le_of_ble_eq_true rfl, Nat.le_of_ble_eq_true rfl⟩ dX11_lateOnesDealtWith_56 (fun r18_ S19_ H locs hp Y => ?_)
        obtain ⟨x20_, rfl, h⟩ := hp
        refine W.eq (g2 := F0 m 59 ls [.int x20_]) rfl ?_
        refine lv_istore (i := 5) (lv' := [(5, .int x20_), (4, .int (q_I S 1412 a9_)), (3, va_rf (q_C S a5_ x2.toNatClampNeg)), (0, .ref a0), (1, va_rf r1), (2, .int x2)]) hx hb dX11_lateOnesDealtWith_59 hl (by decide) (by first | rfl | simp [q_cat, q_catI, q_catJ, q_catR]) (fun ls hl => ?_)
        refine lv_iload hx hb dX11_lateOnesDealtWith_61 (lv_at hl 0 rfl) ?_
        refine lv_iconst (v := 3) hx hb dX11_lateOnesDealtWith_63 (by decide) ?_
        refine lv_icmp_lt (tgt := 75) hx hb dX11_lateOnesDealtWith_64 (by decide) (fun c21_ => ?_) (fun c21_ => ?_)
        · replace h := h.1 c21_
          exact cb_X11_lateOnesDealtWith_75 X hB2 Y (lv_sub hl [3, 4, 5] rfl) h
        · replace h := h.2 c21_
          refine lv_iload hx hb dX11_lateOnesDealtWith_67 (lv_at hl 0 rfl) ?_
          refine lv_iconst (v := 5) hx hb dX11_lateOnesDealtWith_69 (by decide) ?_
          refine lv_icmp_gt (tgt := 75) hx hb dX11_lateOnesDealtWith_70 (by decide) (fun c22_ => ?_) (fun c22_ => ?_)
          · replace h := h.1 c22_
            exact cb_X11_lateOnesDealtWith_75 X hB2 Y (lv_sub hl [3, 4, 5] rfl) h
          · replace h := h.2 c22_
            refine lv_iconst (v := 0) hx hb dX11_lateOnesDealtWith_73 (by decide) ?_
            exact q_iret X Y rfl (Nat.le_refl _) (Nat.le_refl _) h dX11_lateOnesDealtWith_74
def wl_X11_lateOnesDealtWith_2  : Nat → q_S → Nat → Option Nat → Int32 → (Option Value → q_S → Prop) → Prop
  | 0, _, _, _, _, _ => False
  | n + 1, S, a0, r1, x2, Q => wb_X11_lateOnesDealtWith_2 (fun S a0 r1 x2 => wl_X11_lateOnesDealtWith_2 n S a0 r1 x2 Q) S a0 r1 x2 Q
set_option maxHeartbeats 4000000 in
set_option maxRecDepth 100000 in
theorem cl_X11_lateOnesDealtWith_2 {p : Program} {l : Launch} {e : Env} {s : State} {m : MethodId} {args : Array Value} {below : List Frame} {meth : Method} {c : Code} {D : va_G} {cy : Nat → ClassId} {lo : Nat}  {Q : Option Value → q_S → Prop} (X : q_X p s m args meth c RX11 cX11_lateOnesDealtWith 6 (some .boolean) D cy lo)  : ∀ (n : Nat) (S : q_S) (a0 : Nat) (r1 : Option Nat) (x2 : Int32) (H : Heap) (locs : List Loc) (ls : Array Slot), wl_X11_lateOnesDealtWith_2 n S a0 r1 x2 Q → q_Y D cy lo s S H locs → lv_has ls 6 [(0, .ref a0), (1, va_rf r1), (2, .int x2)] → W p l e ({ frames := 5, cells := 0, slots := 0, locals := 130 } : Room) s m args below meth c H locs 0 0 (MQ below (q_Q D cy lo Q) args s 0 0 (fun q => lo ≤ q)) (F0 m 2 ls []) := by
  intro n
  induction n with
  | zero => intro S a0 r1 x2 H locs ls h; exact absurd h id
  | succ n ih => intro S a0 r1 x2 H locs ls h Y hl; exact cb_X11_lateOnesDealtWith_2 X ih Y hl h
def wm_X11_lateOnesDealtWith (S : q_S) (a0 : Nat) (r1 : Option Nat) (Q : Option Value → q_S → Prop) : Prop := ∃ n23_ : Nat, wl_X11_lateOnesDealtWith_2 n23_ S a0 r1 (0 : Int32) Q
set_option maxHeartbeats 4000000 in
set_option maxRecDepth 100000 in
theorem cm_X11_lateOnesDealtWith {l : Launch} {D : va_G} {cy : Nat → ClassId} {lo : Nat} {S : q_S} {a0 : Nat} {r1 : Option Nat} {Q : Option Value → q_S → Prop} (h : wm_X11_lateOnesDealtWith S a0 r1 Q) : q_Met l D cy lo yX11_lateOnesDealtWith cX11_lateOnesDealtWith 6 (some .boolean) 5 130 0 0 [.ref a0, va_rf r1] S Q := by
  refine q_body (by decide) (by first | exact Nat.le_of_ble_eq_true rfl | simp [lg_sl, q_cat, q_catI, q_catJ, q_catR]) ?_
  intro p e s m below meth c ls X hnm Y hl
  have hx := X.1
  have hb := X.2.1
  have hl : lv_has ls 6 [(0, .ref a0), (1, va_rf r1)] := by first | exact hl | simpa [lv_args, q_cat, q_catI, q_catJ, q_catR] using hl
  generalize hargs : ([.ref a0, va_rf r1] : List Value).toArray = args at X ⊢
  unfold wm_X11_lateOnesDealtWith at h
  refine lv_iconst (v := 0) hx hb dX11_lateOnesDealtWith_0 (by decide) ?_
  refine lv_istore_n (i := 2) (lv' := [(2, .int (0 : Int32)), (0, .ref a0), (1, va_rf r1)]) hx hb dX11_lateOnesDealtWith_1 rfl hl (by decide) (by first | rfl | simp [q_cat, q_catI, q_catJ, q_catR]) (fun ls hl => ?_)
  obtain ⟨n23_, h⟩ := h
  exact cl_X11_lateOnesDealtWith_2 X n23_ _ _ _ _ _ _ _ h Y (lv_sub hl [1, 2, 0] rfl)
-- X11_turn
theorem fl_X11_165 : Cond.fieldLink RX11 165 "PartitionWorks$Partition" "mode" "I" ∈ q_G := q_tb (i := 710) (by decide +kernel) (by decide +kernel)
theorem ml_X11_168 : Cond.methodLink RX11 168 yX5_wakeUntil ∈ q_G := q_tb (i := 1396) (by decide +kernel) (by decide +kernel)
theorem mt_X5_wakeUntil : q_Mt yX5_wakeUntil cX5_wakeUntil 4 none 1 := ⟨q_tb (i := 1399) (by decide +kernel) (by decide +kernel), q_tb (i := 20) (by decide +kernel) (by decide +kernel), by decide +kernel, by decide +kernel, by decide +kernel⟩
theorem mi_X5_wakeUntil : Cond.instanceMethod yX5_wakeUntil ∈ q_G ∧ Cond.selects yX5_wakeUntil.cls yX5_wakeUntil yX5_wakeUntil ∈ q_G := ⟨q_tb (i := 1397) (by decide +kernel) (by decide +kernel), q_tb (i := 1398) (by decide +kernel) (by decide +kernel)⟩
theorem ml_X11_172 : Cond.methodLink RX11 172 yX11_lateOnesDealtWith ∈ q_G := q_tb (i := 1404) (by decide +kernel) (by decide +kernel)
theorem mt_X11_lateOnesDealtWith : q_Mt yX11_lateOnesDealtWith cX11_lateOnesDealtWith 6 (some .boolean) 1 := ⟨q_tb (i := 1407) (by decide +kernel) (by decide +kernel), q_tb (i := 1) (by decide +kernel) (by decide +kernel), by decide +kernel, by decide +kernel, by decide +kernel⟩
theorem mi_X11_lateOnesDealtWith : Cond.instanceMethod yX11_lateOnesDealtWith ∈ q_G ∧ Cond.selects yX11_lateOnesDealtWith.cls yX11_lateOnesDealtWith yX11_lateOnesDealtWith ∈ q_G := ⟨q_tb (i := 1406) (by decide +kernel) (by decide +kernel), q_tp (i := 37) (q := (yX11_lateOnesDealtWith, 5)) (by decide +kernel) (by decide +kernel)⟩
theorem ml_X11_176 : Cond.methodLink RX11 176 yX5_chosen ∈ q_G := q_tb (i := 355) (by decide +kernel) (by decide +kernel)
theorem mt_X5_chosen : q_Mt yX5_chosen cX5_chosen 6 (some (.object "PartitionWorks$Process")) 0 := ⟨q_tb (i := 358) (by decide +kernel) (by decide +kernel), q_tb (i := 20) (by decide +kernel) (by decide +kernel), by decide +kernel, by decide +kernel, by decide +kernel⟩
theorem mi_X5_chosen : Cond.instanceMethod yX5_chosen ∈ q_G ∧ Cond.selects yX5_chosen.cls yX5_chosen yX5_chosen ∈ q_G := ⟨q_tb (i := 356) (by decide +kernel) (by decide +kernel), q_tb (i := 357) (by decide +kernel) (by decide +kernel)⟩
theorem fl_X11_180 : Cond.fieldLink RX11 180 "PartitionWorks$Process" "done" "I" ∈ q_G := q_tb (i := 890) (by decide +kernel) (by decide +kernel)
theorem fl_X11_183 : Cond.fieldLink RX11 183 "PartitionWorks$Partition" "done" "I" ∈ q_G := q_tb (i := 717) (by decide +kernel) (by decide +kernel)
theorem fl_X11_149 : Cond.fieldLink RX11 149 "PartitionWorks$Plan" "done" "I" ∈ q_G := q_tb (i := 101) (by decide +kernel) (by decide +kernel)
theorem fl_X11_89 : Cond.fieldLink RX11 89 "PartitionWorks$Partition" "memory" "LPartitionWorks$Memory;" ∈ q_G := q_tb (i := 696) (by decide +kernel) (by decide +kernel)
theorem ml_X11_184 : Cond.methodLink RX11 184 yX3_step ∈ q_G := q_tb (i := 1437) (by decide +kernel) (by decide +kernel)
theorem mt_X3_step : q_Mt yX3_step cX3_step 5 (some .int) 2 := ⟨q_tb (i := 1440) (by decide +kernel) (by decide +kernel), q_tb (i := 9) (by decide +kernel) (by decide +kernel), by decide +kernel, by decide +kernel, by decide +kernel⟩
theorem mi_X3_step : Cond.instanceMethod yX3_step ∈ q_G ∧ Cond.selects yX3_step.cls yX3_step yX3_step ∈ q_G := ⟨q_tb (i := 1438) (by decide +kernel) (by decide +kernel), q_tb (i := 1439) (by decide +kernel) (by decide +kernel)⟩
theorem fl_X11_188 : Cond.fieldLink RX11 188 "PartitionWorks$Machine" "code" "I" ∈ q_G := q_tb (i := 254) (by decide +kernel) (by decide +kernel)
theorem ml_X11_191 : Cond.methodLink RX11 191 yX0_answer ∈ q_G := q_tb (i := 1516) (by decide +kernel) (by decide +kernel)
theorem mt_X0_answer : q_Mt yX0_answer cX0_answer 6 (some .int) 3 := ⟨q_tb (i := 1519) (by decide +kernel) (by decide +kernel), q_tb (i := 10) (by decide +kernel) (by decide +kernel), by decide +kernel, by decide +kernel, by decide +kernel⟩
theorem mi_X0_answer : Cond.instanceMethod yX0_answer ∈ q_G ∧ Cond.selects yX0_answer.cls yX0_answer yX0_answer ∈ q_G := ⟨q_tb (i := 1517) (by decide +kernel) (by decide +kernel), q_tb (i := 1518) (by decide +kernel) (by decide +kernel)⟩
theorem fl_X11_195 : Cond.fieldLink RX11 195 "PartitionWorks$Process" "x" "[I" ∈ q_G := q_tb (i := 881) (by decide +kernel) (by decide +kernel)
theorem dX11_turn_0 : decode cX11_turn 0 = .ok (.aload_n 1, 1) := by decide +kernel
theorem dX11_turn_1 : decode cX11_turn 1 = .ok (.ifnull 10, 3) := by decide +kernel
theorem dX11_turn_4 : decode cX11_turn 4 = .ok (.aload_n 1, 1) := by decide +kernel
theorem dX11_turn_5 : decode cX11_turn 5 = .ok (.getfield 165, 3) := by decide +kernel
theorem dX11_turn_8 : decode cX11_turn 8 = .ok (.ifCond .eq 4, 3) := by decide +kernel
theorem dX11_turn_11 : decode cX11_turn 11 = .ok (.return_, 1) := by decide +kernel
theorem dX11_turn_12 : decode cX11_turn 12 = .ok (.aload_n 1, 1) := by decide +kernel
theorem dX11_turn_13 : decode cX11_turn 13 = .ok (.aload_n 0, 1) := by decide +kernel
theorem dX11_turn_14 : decode cX11_turn 14 = .ok (.getfield 20, 3) := by decide +kernel
theorem dX11_turn_17 : decode cX11_turn 17 = .ok (.getfield 162, 3) := by decide +kernel
theorem dX11_turn_20 : decode cX11_turn 20 = .ok (.invokevirtual 168, 3) := by decide +kernel
theorem dX11_turn_23 : decode cX11_turn 23 = .ok (.aload_n 0, 1) := by decide +kernel
theorem dX11_turn_24 : decode cX11_turn 24 = .ok (.aload_n 1, 1) := by decide +kernel
theorem dX11_turn_25 : decode cX11_turn 25 = .ok (.invokevirtual 172, 3) := by decide +kernel
theorem dX11_turn_28 : decode cX11_turn 28 = .ok (.ifCond .ne 4, 3) := by decide +kernel
theorem dX11_turn_31 : decode cX11_turn 31 = .ok (.return_, 1) := by decide +kernel
theorem dX11_turn_32 : decode cX11_turn 32 = .ok (.aload_n 1, 1) := by decide +kernel
theorem dX11_turn_33 : decode cX11_turn 33 = .ok (.invokevirtual 176, 3) := by decide +kernel
theorem dX11_turn_36 : decode cX11_turn 36 = .ok (.astore_n 2, 1) := by decide +kernel
theorem dX11_turn_37 : decode cX11_turn 37 = .ok (.aload_n 2, 1) := by decide +kernel
theorem dX11_turn_38 : decode cX11_turn 38 = .ok (.ifnonnull 4, 3) := by decide +kernel
theorem dX11_turn_41 : decode cX11_turn 41 = .ok (.return_, 1) := by decide +kernel
theorem dX11_turn_42 : decode cX11_turn 42 = .ok (.aload_n 2, 1) := by decide +kernel
theorem dX11_turn_43 : decode cX11_turn 43 = .ok (.dup, 1) := by decide +kernel
theorem dX11_turn_44 : decode cX11_turn 44 = .ok (.getfield 180, 3) := by decide +kernel
theorem dX11_turn_47 : decode cX11_turn 47 = .ok (.iconst 1, 1) := by decide +kernel
theorem dX11_turn_48 : decode cX11_turn 48 = .ok (.iadd, 1) := by decide +kernel
theorem dX11_turn_49 : decode cX11_turn 49 = .ok (.putfield 180, 3) := by decide +kernel
theorem dX11_turn_52 : decode cX11_turn 52 = .ok (.aload_n 1, 1) := by decide +kernel
theorem dX11_turn_53 : decode cX11_turn 53 = .ok (.dup, 1) := by decide +kernel
theorem dX11_turn_54 : decode cX11_turn 54 = .ok (.getfield 183, 3) := by decide +kernel
theorem dX11_turn_57 : decode cX11_turn 57 = .ok (.iconst 1, 1) := by decide +kernel
theorem dX11_turn_58 : decode cX11_turn 58 = .ok (.iadd, 1) := by decide +kernel
theorem dX11_turn_59 : decode cX11_turn 59 = .ok (.putfield 183, 3) := by decide +kernel
theorem dX11_turn_62 : decode cX11_turn 62 = .ok (.aload_n 0, 1) := by decide +kernel
theorem dX11_turn_63 : decode cX11_turn 63 = .ok (.getfield 20, 3) := by decide +kernel
theorem dX11_turn_66 : decode cX11_turn 66 = .ok (.dup, 1) := by decide +kernel
theorem dX11_turn_67 : decode cX11_turn 67 = .ok (.getfield 149, 3) := by decide +kernel
theorem dX11_turn_70 : decode cX11_turn 70 = .ok (.iconst 1, 1) := by decide +kernel
theorem dX11_turn_71 : decode cX11_turn 71 = .ok (.iadd, 1) := by decide +kernel
theorem dX11_turn_72 : decode cX11_turn 72 = .ok (.putfield 149, 3) := by decide +kernel
theorem dX11_turn_75 : decode cX11_turn 75 = .ok (.aload_n 0, 1) := by decide +kernel
theorem dX11_turn_76 : decode cX11_turn 76 = .ok (.getfield 24, 3) := by decide +kernel
theorem dX11_turn_79 : decode cX11_turn 79 = .ok (.aload_n 2, 1) := by decide +kernel
theorem dX11_turn_80 : decode cX11_turn 80 = .ok (.aload_n 1, 1) := by decide +kernel
theorem dX11_turn_81 : decode cX11_turn 81 = .ok (.getfield 89, 3) := by decide +kernel
theorem dX11_turn_84 : decode cX11_turn 84 = .ok (.invokevirtual 184, 3) := by decide +kernel
theorem dX11_turn_87 : decode cX11_turn 87 = .ok (.istore_n 3, 1) := by decide +kernel
theorem dX11_turn_88 : decode cX11_turn 88 = .ok (.aload_n 0, 1) := by decide +kernel
theorem dX11_turn_89 : decode cX11_turn 89 = .ok (.getfield 24, 3) := by decide +kernel
theorem dX11_turn_92 : decode cX11_turn 92 = .ok (.getfield 188, 3) := by decide +kernel
theorem dX11_turn_95 : decode cX11_turn 95 = .ok (.istore 4, 2) := by decide +kernel
theorem dX11_turn_97 : decode cX11_turn 97 = .ok (.iload_n 3, 1) := by decide +kernel
theorem dX11_turn_98 : decode cX11_turn 98 = .ok (.iconst 5, 1) := by decide +kernel
theorem dX11_turn_99 : decode cX11_turn 99 = .ok (.if_icmp .ne 36, 3) := by decide +kernel
theorem dX11_turn_102 : decode cX11_turn 102 = .ok (.aload_n 0, 1) := by decide +kernel
theorem dX11_turn_103 : decode cX11_turn 103 = .ok (.getfield 31, 3) := by decide +kernel
theorem dX11_turn_106 : decode cX11_turn 106 = .ok (.aload_n 0, 1) := by decide +kernel
theorem dX11_turn_107 : decode cX11_turn 107 = .ok (.getfield 20, 3) := by decide +kernel
theorem dX11_turn_110 : decode cX11_turn 110 = .ok (.aload_n 1, 1) := by decide +kernel
theorem dX11_turn_111 : decode cX11_turn 111 = .ok (.aload_n 2, 1) := by decide +kernel
theorem dX11_turn_112 : decode cX11_turn 112 = .ok (.invokevirtual 191, 3) := by decide +kernel
theorem dX11_turn_115 : decode cX11_turn 115 = .ok (.istore_n 3, 1) := by decide +kernel
theorem dX11_turn_116 : decode cX11_turn 116 = .ok (.iload_n 3, 1) := by decide +kernel
theorem dX11_turn_117 : decode cX11_turn 117 = .ok (.iconst 3, 1) := by decide +kernel
theorem dX11_turn_118 : decode cX11_turn 118 = .ok (.if_icmp .ne 13, 3) := by decide +kernel
theorem dX11_turn_121 : decode cX11_turn 121 = .ok (.aload_n 2, 1) := by decide +kernel
theorem dX11_turn_122 : decode cX11_turn 122 = .ok (.getfield 195, 3) := by decide +kernel
theorem dX11_turn_125 : decode cX11_turn 125 = .ok (.bipush 10, 2) := by decide +kernel
theorem dX11_turn_127 : decode cX11_turn 127 = .ok (.iaload, 1) := by decide +kernel
theorem dX11_turn_128 : decode cX11_turn 128 = .ok (.goto 5, 3) := by decide +kernel
theorem dX11_turn_131 : decode cX11_turn 131 = .ok (.bipush 115, 2) := by decide +kernel
theorem dX11_turn_133 : decode cX11_turn 133 = .ok (.istore 4, 2) := by decide +kernel
theorem dX11_turn_135 : decode cX11_turn 135 = .ok (.iload_n 3, 1) := by decide +kernel
theorem dX11_turn_136 : decode cX11_turn 136 = .ok (.iconst (-1), 1) := by decide +kernel
theorem dX11_turn_137 : decode cX11_turn 137 = .ok (.if_icmp .eq 13, 3) := by decide +kernel
theorem dX11_turn_140 : decode cX11_turn 140 = .ok (.aload_n 0, 1) := by decide +kernel
theorem dX11_turn_141 : decode cX11_turn 141 = .ok (.aload_n 1, 1) := by decide +kernel
theorem dX11_turn_142 : decode cX11_turn 142 = .ok (.aload_n 2, 1) := by decide +kernel
theorem dX11_turn_143 : decode cX11_turn 143 = .ok (.iload_n 3, 1) := by decide +kernel
theorem dX11_turn_144 : decode cX11_turn 144 = .ok (.iload 4, 2) := by decide +kernel
theorem dX11_turn_146 : decode cX11_turn 146 = .ok (.invokevirtual 198, 3) := by decide +kernel
theorem dX11_turn_149 : decode cX11_turn 149 = .ok (.pop, 1) := by decide +kernel
theorem dX11_turn_150 : decode cX11_turn 150 = .ok (.return_, 1) := by decide +kernel
def wb_X11_turn_11  (S : q_S) (Q : Option Value → q_S → Prop) : Prop := Q none S
set_option maxHeartbeats 4000000 in
set_option maxRecDepth 100000 in
theorem cb_X11_turn_11 {p : Program} {l : Launch} {e : Env} {s : State} {m : MethodId} {args : Array Value} {below : List Frame} {meth : Method} {c : Code} {D : va_G} {cy : Nat → ClassId} {lo : Nat}  {S : q_S} {Q : Option Value → q_S → Prop} {H : Heap} {locs : List Loc} {ls : Array Slot} (X : q_X p s m args meth c RX11 cX11_turn 5 none D cy lo)  (Y : q_Y D cy lo s S H locs) (hl : lv_has ls 5 []) (h : wb_X11_turn_11 S Q) : W p l e ({ frames := 7, cells := 0, slots := 0, locals := 173 } : Room) s m args below meth c H locs 0 0 (MQ below (q_Q D cy lo Q) args s 0 0 (fun q => lo ≤ q)) (F0 m 11 ls []) := by
  have hx := X.1
  have hb := X.2.1
  unfold wb_X11_turn_11 at h
  exact q_vret X Y (Nat.le_refl _) (Nat.le_refl _) h dX11_turn_11
def wb_X11_turn_150  (S : q_S) (Q : Option Value → q_S → Prop) : Prop := Q none S
set_option maxHeartbeats 4000000 in
set_option maxRecDepth 100000 in
theorem cb_X11_turn_150 {p : Program} {l : Launch} {e : Env} {s : State} {m : MethodId} {args : Array Value} {below : List Frame} {meth : Method} {c : Code} {D : va_G} {cy : Nat → ClassId} {lo : Nat}  {S : q_S} {Q : Option Value → q_S → Prop} {H : Heap} {locs : List Loc} {ls : Array Slot} (X : q_X p s m args meth c RX11 cX11_turn 5 none D cy lo)  (Y : q_Y D cy lo s S H locs) (hl : lv_has ls 5 []) (h : wb_X11_turn_150 S Q) : W p l e ({ frames := 7, cells := 0, slots := 0, locals := 173 } : Room) s m args below meth c H locs 0 0 (MQ below (q_Q D cy lo Q) args s 0 0 (fun q => lo ≤ q)) (F0 m 150 ls []) := by
  have hx := X.1
  have hb := X.2.1
  unfold wb_X11_turn_150 at h
  exact q_vret X Y (Nat.le_refl _) (Nat.le_refl _) h dX11_turn_150
def wb_X11_turn_135  (S : q_S) (a0 : Nat) (r1 : Option Nat) (r2 : Option Nat) (x3 : Int32) (x4 : Int32) (Q : Option Value → q_S → Prop) : Prop := ((x3 = (-1 : Int32) → (wb_X11_turn_150 S Q)) ∧ (¬ x3 = (-1 : Int32) → (q_K S a0 = 12 ∧ (wm_X11_goWrong S a0 r1 r2 x3 x4 (fun r3_ S4_ => ∃ x5_ : Int32, r3_ = some (.int x5_) ∧ (wb_X11_turn_150 S4_ Q))))))
set_option maxHeartbeats 4000000 in
set_option maxRecDepth 100000 in
theorem cb_X11_turn_135 {p : Program} {l : Launch} {e : Env} {s : State} {m : MethodId} {args : Array Value} {below : List Frame} {meth : Method} {c : Code} {D : va_G} {cy : Nat → ClassId} {lo : Nat}  {S : q_S} {a0 : Nat} {r1 : Option Nat} {r2 : Option Nat} {x3 : Int32} {x4 : Int32} {Q : Option Value → q_S → Prop} {H : Heap} {locs : List Loc} {ls : Array Slot} (X : q_X p s m args meth c RX11 cX11_turn 5 none D cy lo)  (Y : q_Y D cy lo s S H locs) (hl : lv_has ls 5 [(0, .ref a0), (1, va_rf r1), (2, va_rf r2), (3, .int x3), (4, .int x4)]) (h : wb_X11_turn_135 S a0 r1 r2 x3 x4 Q) : W p l e ({ frames := 7, cells := 0, slots := 0, locals := 173 } : Room) s m args below meth c H locs 0 0 (MQ below (q_Q D cy lo Q) args s 0 0 (fun q => lo ≤ q)) (F0 m 135 ls []) := by
  have hx := X.1
  have hb := X.2.1
  unfold wb_X11_turn_135 at h
  refine lv_iload_n hx hb dX11_turn_135 rfl (lv_at hl 3 rfl) ?_
  refine lv_iconst (v := (-1)) hx hb dX11_turn_136 (by decide) ?_
  refine lv_icmp_eq (tgt := 150) hx hb dX11_turn_137 (by decide) (fun c1_ => ?_) (fun c1_ => ?_)
  · replace h := h.1 c1_
    exact cb_X11_turn_150 X Y (lv_sub hl [] rfl) h
  · replace h := h.2 c1_
    refine lv_aload_n hx hb dX11_turn_140 rfl (lv_at hl 0 rfl) ?_
    refine q_aload_n hx hb dX11_turn_141 rfl (lv_at hl 1 rfl) ?_
    refine q_aload_n hx hb dX11_turn_142 rfl (lv_at hl 2 rfl) ?_
    refine lv_iload_n hx hb dX11_turn_143 rfl (lv_at hl 3 rfl) ?_
    refine lv_iload hx hb dX11_turn_144 (lv_at hl 4 rfl) ?_
    obtain ⟨k2_, h⟩ := h
    refine q_callV X Y hl (cm_X11_goWrong h) mt_X11_goWrong mi_X11_goWrong ml_X11_198 (ci := 11) rfl k2_ (by decide) rfl rfl (by first | exact Nat.le_of_ble_eq_true rfl | simp [q_cat, q_catI, q_catJ, q_catR]) ⟨Nat.le_of_ble_eq_true rfl, Nat.le_of_ble_eq_true rfl⟩ ⟨Nat.le_of_ble_eq_true rfl, Nat.le_of_ble_eq_true rfl⟩ dX11_turn_146 (fun r3_ S4_ H locs hp Y => ?_)
    obtain ⟨x5_, rfl, h⟩ := hp
    refine W.eq (g2 := F0 m 149 ls [.int x5_]) rfl ?_
    refine lv_pop hx hb dX11_turn_149 rfl ?_
    exact cb_X11_turn_150 X Y (lv_sub hl [] rfl) h
def wb_X11_turn_133  (S : q_S) (a0 : Nat) (r1 : Option Nat) (r2 : Option Nat) (x3 : Int32) (xs0 : Int32) (Q : Option Value → q_S → Prop) : Prop := wb_X11_turn_135 S a0 r1 r2 x3 xs0 Q
set_option maxHeartbeats 4000000 in
set_option maxRecDepth 100000 in
theorem cb_X11_turn_133 {p : Program} {l : Launch} {e : Env} {s : State} {m : MethodId} {args : Array Value} {below : List Frame} {meth : Method} {c : Code} {D : va_G} {cy : Nat → ClassId} {lo : Nat}  {S : q_S} {a0 : Nat} {r1 : Option Nat} {r2 : Option Nat} {x3 : Int32} {xs0 : Int32} {Q : Option Value → q_S → Prop} {H : Heap} {locs : List Loc} {ls : Array Slot} (X : q_X p s m args meth c RX11 cX11_turn 5 none D cy lo)  (Y : q_Y D cy lo s S H locs) (hl : lv_has ls 5 [(0, .ref a0), (1, va_rf r1), (2, va_rf r2), (3, .int x3)]) (h : wb_X11_turn_133 S a0 r1 r2 x3 xs0 Q) : W p l e ({ frames := 7, cells := 0, slots := 0, locals := 173 } : Room) s m args below meth c H locs 0 0 (MQ below (q_Q D cy lo Q) args s 0 0 (fun q => lo ≤ q)) (F0 m 133 ls [.int xs0]) := by
  have hx := X.1
  have hb := X.2.1
  unfold wb_X11_turn_133 at h
  refine lv_istore (i := 4) (lv' := [(4, .int xs0), (0, .ref a0), (1, va_rf r1), (2, va_rf r2), (3, .int x3)]) hx hb dX11_turn_133 hl (by decide) (by first | rfl | simp [q_cat, q_catI, q_catJ, q_catR]) (fun ls hl => ?_)
  exact cb_X11_turn_135 X Y (lv_sub hl [1, 2, 3, 4, 0] rfl) h
def wm_X11_turn (S : q_S) (a0 : Nat) (r1 : Option Nat) (Q : Option Value → q_S → Prop) : Prop := ((r1 = none → (wb_X11_turn_11 S Q)) ∧ (¬ r1 = none → (∃ a7_ : Nat, r1 = some a7_ ∧ (q_K S a7_ = 6 ∧ ((((q_I S 1009 a7_) = 0 → (q_K S a0 = 12 ∧ (∃ a12_ : Nat, (q_P S 2201 a0) = some a12_ ∧ (q_K S a12_ = 7 ∧ (wm_X5_wakeUntil S a7_ (q_I S 1211 a12_) (fun r15_ S16_ => r15_ = none ∧ (q_K S16_ a0 = 12 ∧ (wm_X11_lateOnesDealtWith S16_ a0 r1 (fun r18_ S19_ => ∃ x20_ : Int32, r18_ = some (.int x20_) ∧ (((¬ x20_ = 0 → (q_K S19_ a7_ = 6 ∧ (wm_X5_chosen S19_ a7_ (fun r23_ S24_ => ∃ r25_ : Option Nat, r23_ = some (va_rf r25_) ∧ (((¬ r25_ = none → (∃ a27_ : Nat, r25_ = some a27_ ∧ (q_K S24_ a27_ = 8 ∧ (q_K (qs_I S24_ 1414 a27_ ((q_I S24_ 1414 a27_) + (1 : Int32))) a7_ = 6 ∧ (∀ S31_ : q_S, S31_ = (qs_I (qs_I S24_ 1414 a27_ ((q_I S24_ 1414 a27_) + (1 : Int32))) 1012 a7_ ((q_I (qs_I S24_ 1414 a27_ ((q_I S24_ 1414 a27_) + (1 : Int32))) 1012 a7_) + (1 : Int32))) → (q_K S31_ a0 = 12 ∧ (∃ a33_ : Nat, (q_P S31_ 2201 a0) = some a33_ ∧ (q_K S31_ a33_ = 7 ∧ (∃ a36_ : Nat, (q_P (qs_I S31_ 1212 a33_ ((q_I S31_ 1212 a33_) + (1 : Int32))) 2202 a0) = some a36_ ∧ (q_K (qs_I S31_ 1212 a33_ ((q_I S31_ 1212 a33_) + (1 : Int32))) a36_ = 4 ∧ (wm_X3_step (qs_I S31_ 1212 a33_ ((q_I S31_ 1212 a33_) + (1 : Int32))) a36_ r25_ (q_P (qs_I S31_ 1212 a33_ ((q_I S31_ 1212 a33_) + (1 : Int32))) 1002 a7_) (fun r39_ S40_ => ∃ x41_ : Int32, r39_ = some (.int x41_) ∧ (q_K S40_ a0 = 12 ∧ (∃ a43_ : Nat, (q_P S40_ 2202 a0) = some a43_ ∧ (q_K S40_ a43_ = 4 ∧ (((¬ x41_ = (5 : Int32) → (wb_X11_turn_135 S40_ a0 r1 r25_ x41_ (q_I S40_ 600 a43_) Q)) ∧ (x41_ = (5 : Int32) → (∃ a47_ : Nat, (q_P S40_ 2203 a0) = some a47_ ∧ (q_K S40_ a47_ = 1 ∧ (wm_X0_answer S40_ a47_ (q_P S40_ 2201 a0) r1 r25_ (fun r50_ S51_ => ∃ x52_ : Int32, r50_ = some (.int x52_) ∧ (((¬ x52_ = (3 : Int32) → (wb_X11_turn_133 S51_ a0 r1 r25_ x52_ (115 : Int32) Q)) ∧ (x52_ = (3 : Int32) → (q_K S51_ a27_ = 8 ∧ (∃ a55_ : Nat, (q_P S51_ 1411 a27_) = some a55_ ∧ (q_K S51_ a55_ = 21 ∧ (vp_in (10 : Int32) (q_N S51_ a55_) ∧ (wb_X11_turn_133 S51_ a0 r1 r25_ x52_ (q_A S51_ a55_ (10 : Int32).toNatClampNeg) Q)))))))))))))))))))))))))))))) ∧ (r25_ = none → (Q none S24_)))))))) ∧ (x20_ = 0 → (Q none S19_))))))))))))) ∧ (¬ (q_I S 1009 a7_) = 0 → (wb_X11_turn_11 S Q))))))))
set_option maxHeartbeats 4000000 in
set_option maxRecDepth 100000 in
theorem cm_X11_turn {l : Launch} {D : va_G} {cy : Nat → ClassId} {lo : Nat} {S : q_S} {a0 : Nat} {r1 : Option Nat} {Q : Option Value → q_S → Prop} (h : wm_X11_turn S a0 r1 Q) : q_Met l D cy lo yX11_turn cX11_turn 5 none 7 173 0 0 [.ref a0, va_rf r1] S Q := by
  refine q_body (by decide) (by first | exact Nat.le_of_ble_eq_true rfl | simp [lg_sl, q_cat, q_catI, q_catJ, q_catR]) ?_
  intro p e s m below meth c ls X hnm Y hl
  have hx := X.1
  have hb := X.2.1
  have hl : lv_has ls 5 [(0, .ref a0), (1, va_rf r1)] := by first | exact hl | simpa [lv_args, q_cat, q_catI, q_catJ, q_catR] using hl
  generalize hargs : ([.ref a0, va_rf r1] : List Value).toArray = args at X ⊢
  unfold wm_X11_turn at h
  refine q_aload_n hx hb dX11_turn_0 rfl (lv_at hl 1 rfl) ?_
  refine q_ifnull (r := r1) (tgt := 11) hx hb dX11_turn_1 (by decide) (fun c6_ => ?_) (fun c6_ => ?_)
  · replace h := h.1 c6_
    exact cb_X11_turn_11 X Y (lv_sub hl [] rfl) h
  · replace h := h.2 c6_
    refine q_aload_n hx hb dX11_turn_4 rfl (lv_at hl 1 rfl) ?_
    obtain ⟨a7_, e8_, h⟩ := h
    refine q_nn [] e8_ ?_
    obtain ⟨k9_, h⟩ := h
    refine q_getI X Y kX5 9 rfl fl_X11_165 k9_ dX11_turn_5 ?_
    refine lv_if_eq (tgt := 12) hx hb dX11_turn_8 (by decide) (fun c10_ => ?_) (fun c10_ => ?_)
    · replace h := h.1 c10_
      refine q_aload_n hx hb dX11_turn_12 rfl (lv_at hl 1 rfl) ?_
      refine lv_aload_n hx hb dX11_turn_13 rfl (lv_at hl 0 rfl) ?_
      obtain ⟨k11_, h⟩ := h
      refine q_getP X Y kX11 1 rfl fl_X11_20 k11_ rfl dX11_turn_14 ?_
      obtain ⟨a12_, e13_, h⟩ := h
      refine q_nn [] e13_ ?_
      obtain ⟨k14_, h⟩ := h
      refine q_getI X Y kX6 11 rfl fl_X11_162 k14_ dX11_turn_17 ?_
      refine q_nn [.int (q_I S 1211 a12_)] e8_ ?_
      refine q_callV X Y hl (cm_X5_wakeUntil h) mt_X5_wakeUntil mi_X5_wakeUntil ml_X11_168 (ci := 5) rfl k9_ (by decide) rfl rfl (by first | exact Nat.le_of_ble_eq_true rfl | simp [q_cat, q_catI, q_catJ, q_catR]) ⟨Nat.le_of_ble_eq_true rfl, Nat.le_of_ble_eq_true rfl⟩ ⟨Nat.le_of_ble_eq_true rfl, Nat.le_of_ble_eq_true rfl⟩ dX11_turn_20 (fun r15_ S16_ H locs hp Y => ?_)
      obtain ⟨rfl, h⟩ := hp
      refine W.eq (g2 := F0 m 23 ls []) rfl ?_
      refine lv_aload_n hx hb dX11_turn_23 rfl (lv_at hl 0 rfl) ?_
      refine q_aload_n hx hb dX11_turn_24 rfl (lv_at hl 1 rfl) ?_
      obtain ⟨k17_, h⟩ := h
      refine q_callV X Y hl (cm_X11_lateOnesDealtWith h) mt_X11_lateOnesDealtWith mi_X11_lateOnesDealtWith ml_X11_172 (ci := 11) rfl k17_ (by decide) rfl rfl (by first | exact Nat.le_of_ble_eq_true rfl | simp [q_cat, q_catI, q_catJ, q_catR]) ⟨Nat.le_of_ble_eq_true rfl, Nat.le_of_ble_eq_true rfl⟩ ⟨Nat.le_of_ble_eq_true rfl, Nat.le_of_ble_eq_true rfl⟩ dX11_turn_25 (fun r18_ S19_ H locs hp Y => ?_)
      obtain ⟨x20_, rfl, h⟩ := hp
      refine W.eq (g2 := F0 m 28 ls [.int x20_]) rfl ?_
      refine lv_if_ne (tgt := 32) hx hb dX11_turn_28 (by decide) (fun c21_ => ?_) (fun c21_ => ?_)
      · replace h := h.1 c21_
        refine q_aload_n hx hb dX11_turn_32 rfl (lv_at hl 1 rfl) ?_
        refine q_nn [] e8_ ?_
        obtain ⟨k22_, h⟩ := h
        refine q_callV X Y hl (cm_X5_chosen h) mt_X5_chosen mi_X5_chosen ml_X11_176 (ci := 5) rfl k22_ (by decide) rfl rfl (by first | exact Nat.le_of_ble_eq_true rfl | simp [q_cat, q_catI, q_catJ, q_catR]) ⟨Nat.le_of_ble_eq_true rfl, Nat.le_of_ble_eq_true rfl⟩ ⟨Nat.le_of_ble_eq_true rfl, Nat.le_of_ble_eq_true rfl⟩ dX11_turn_33 (fun r23_ S24_ H locs hp Y => ?_)
        obtain ⟨r25_, rfl, h⟩ := hp
        refine W.eq (g2 := F0 m 36 ls [va_rf r25_]) rfl ?_
        refine q_astore_n (i := 2) (lv' := [(2, va_rf r25_), (0, .ref a0), (1, va_rf r1)]) hx hb dX11_turn_36 rfl hl (by decide) (by first | rfl | simp [q_cat, q_catI, q_catJ, q_catR]) (fun ls hl => ?_)
        refine q_aload_n hx hb dX11_turn_37 rfl (lv_at hl 0 rfl) ?_
        refine q_ifnonnull (r := r25_) (tgt := 42) hx hb dX11_turn_38 (by decide) (fun c26_ => ?_) (fun c26_ => ?_)
        · replace h := h.1 c26_
          refine q_aload_n hx hb dX11_turn_42 rfl (lv_at hl 0 rfl) ?_
          refine lv_dup hx hb dX11_turn_43 (q_cat _) ?_
          obtain ⟨a27_, e28_, h⟩ := h
          refine q_nn [] e28_ ?_
          obtain ⟨k29_, h⟩ := h
          refine q_getI X Y kX7 14 rfl fl_X11_180 k29_ dX11_turn_44 ?_
          refine lv_iconst (v := 1) hx hb dX11_turn_47 (by decide) ?_
          refine lv_iadd hx hb dX11_turn_48 ?_
          refine q_nn [.int ((q_I S24_ 1414 a27_) + (1 : Int32))] e28_ ?_
          refine q_putI X Y kX7 14 rfl fl_X11_180 k29_ .int rfl ⟨rfl, rfl⟩ rfl dX11_turn_49 (fun H locs Y => ?_)
          refine q_aload_n hx hb dX11_turn_52 rfl (lv_at hl 2 rfl) ?_
          refine lv_dup hx hb dX11_turn_53 (q_cat _) ?_
          refine q_nn [] e8_ ?_
          obtain ⟨k30_, h⟩ := h
          refine q_getI X Y kX5 12 rfl fl_X11_183 k30_ dX11_turn_54 ?_
          refine lv_iconst (v := 1) hx hb dX11_turn_57 (by decide) ?_
          refine lv_iadd hx hb dX11_turn_58 ?_
          refine q_nn [.int ((q_I (qs_I S24_ 1414 a27_ ((q_I S24_ 1414 a27_) + (1 : Int32))) 1012 a7_) + (1 : Int32))] e8_ ?_
          refine q_putI X Y kX5 12 rfl fl_X11_183 k30_ .int rfl ⟨rfl, rfl⟩ rfl dX11_turn_59 (fun H locs Y => ?_)
          obtain ⟨S31_, gS31_⟩ : ∃ z : q_S, z = (qs_I (qs_I S24_ 1414 a27_ ((q_I S24_ 1414 a27_) + (1 : Int32))) 1012 a7_ ((q_I (qs_I S24_ 1414 a27_ ((q_I S24_ 1414 a27_) + (1 : Int32))) 1012 a7_) + (1 : Int32))) := ⟨_, rfl⟩
          replace Y : q_Y D cy lo s S31_ H locs := by rw [gS31_]; exact Y
          replace h := h S31_ gS31_
          replace k29_ : q_K S31_ a27_ = 8 := by rw [gS31_]; exact k29_
          replace k30_ : q_K S31_ a7_ = 6 := by rw [gS31_]; exact k30_
          refine lv_aload_n hx hb dX11_turn_62 rfl (lv_at hl 1 rfl) ?_
          obtain ⟨k32_, h⟩ := h
          refine q_getP X Y kX11 1 rfl fl_X11_20 k32_ rfl dX11_turn_63 ?_
          refine lv_dup hx hb dX11_turn_66 (q_cat _) ?_
          obtain ⟨a33_, e34_, h⟩ := h
          refine q_nn [] e34_ ?_
          obtain ⟨k35_, h⟩ := h
          refine q_getI X Y kX6 12 rfl fl_X11_149 k35_ dX11_turn_67 ?_
          refine lv_iconst (v := 1) hx hb dX11_turn_70 (by decide) ?_
          refine lv_iadd hx hb dX11_turn_71 ?_
          refine q_nn [.int ((q_I S31_ 1212 a33_) + (1 : Int32))] e34_ ?_
          refine q_putI X Y kX6 12 rfl fl_X11_149 k35_ .int rfl ⟨rfl, rfl⟩ rfl dX11_turn_72 (fun H locs Y => ?_)
          refine lv_aload_n hx hb dX11_turn_75 rfl (lv_at hl 1 rfl) ?_
          refine q_getP X Y kX11 2 rfl fl_X11_24 k32_ rfl dX11_turn_76 ?_
          refine q_aload_n hx hb dX11_turn_79 rfl (lv_at hl 0 rfl) ?_
          refine q_aload_n hx hb dX11_turn_80 rfl (lv_at hl 2 rfl) ?_
          refine q_nn [] e8_ ?_
          refine q_getP X Y kX5 2 rfl fl_X11_89 k30_ rfl dX11_turn_81 ?_
          obtain ⟨a36_, e37_, h⟩ := h
          refine q_nn [va_rf (q_P (qs_I S31_ 1212 a33_ ((q_I S31_ 1212 a33_) + (1 : Int32))) 1002 a7_), va_rf r25_] e37_ ?_
          obtain ⟨k38_, h⟩ := h
          refine q_callV X Y hl (cm_X3_step h) mt_X3_step mi_X3_step ml_X11_184 (ci := 3) rfl k38_ (by decide) rfl rfl (by first | exact Nat.le_of_ble_eq_true rfl | simp [q_cat, q_catI, q_catJ, q_catR]) ⟨Nat.le_of_ble_eq_true rfl, Nat.le_of_ble_eq_true rfl⟩ ⟨Nat.le_of_ble_eq_true rfl, Nat.le_of_ble_eq_true rfl⟩ dX11_turn_84 (fun r39_ S40_ H locs hp Y => ?_)
          obtain ⟨x41_, rfl, h⟩ := hp
          refine W.eq (g2 := F0 m 87 ls [.int x41_]) rfl ?_
          refine lv_istore_n (i := 3) (lv' := [(3, .int x41_), (2, va_rf r25_), (0, .ref a0), (1, va_rf r1)]) hx hb dX11_turn_87 rfl hl (by decide) (by first | rfl | simp [q_cat, q_catI, q_catJ, q_catR]) (fun ls hl => ?_)
          refine lv_aload_n hx hb dX11_turn_88 rfl (lv_at hl 2 rfl) ?_
          obtain ⟨k42_, h⟩ := h
          refine q_getP X Y kX11 2 rfl fl_X11_24 k42_ rfl dX11_turn_89 ?_
          obtain ⟨a43_, e44_, h⟩ := h
          refine q_nn [] e44_ ?_
          obtain ⟨k45_, h⟩ := h
          refine q_getI X Y kX3 0 rfl fl_X11_188 k45_ dX11_turn_92 ?_
          refine lv_istore (i := 4) (lv' := [(4, .int (q_I S40_ 600 a43_)), (3, .int x41_), (2, va_rf r25_), (0, .ref a0), (1, va_rf r1)]) hx hb dX11_turn_95 hl (by decide) (by first | rfl | simp [q_cat, q_catI, q_catJ, q_catR]) (fun ls hl => ?_)
          refine lv_iload_n hx hb dX11_turn_97 rfl (lv_at hl 1 rfl) ?_
          refine lv_iconst (v := 5) hx hb dX11_turn_98 (by decide) ?_
          refine lv_icmp_ne (tgt := 135) hx hb dX11_turn_99 (by decide) (fun c46_ => ?_) (fun c46_ => ?_)
          · replace h := h.1 c46_
            exact cb_X11_turn_135 X Y (lv_sub hl [3, 4, 2, 1, 0] rfl) h
          · replace h := h.2 c46_
            refine lv_aload_n hx hb dX11_turn_102 rfl (lv_at hl 3 rfl) ?_
            refine q_getP X Y kX11 3 rfl fl_X11_31 k42_ rfl dX11_turn_103 ?_
            refine lv_aload_n hx hb dX11_turn_106 rfl (lv_at hl 3 rfl) ?_
            refine q_getP X Y kX11 1 rfl fl_X11_20 k42_ rfl dX11_turn_107 ?_
            refine q_aload_n hx hb dX11_turn_110 rfl (lv_at hl 4 rfl) ?_
            refine q_aload_n hx hb dX11_turn_111 rfl (lv_at hl 2 rfl) ?_
            obtain ⟨a47_, e48_, h⟩ := h
            refine q_nn [va_rf r25_, va_rf r1, va_rf (q_P S40_ 2201 a0)] e48_ ?_
            obtain ⟨k49_, h⟩ := h
            refine q_callV X Y hl (cm_X0_answer h) mt_X0_answer mi_X0_answer ml_X11_191 (ci := 0) rfl k49_ (by decide) rfl rfl (by first | exact Nat.le_of_ble_eq_true rfl | simp [q_cat, q_catI, q_catJ, q_catR]) ⟨Nat.le_of_ble_eq_true rfl, Nat.le_of_ble_eq_true rfl⟩ ⟨Nat.le_of_ble_eq_true rfl, Nat.le_of_ble_eq_true rfl⟩ dX11_turn_112 (fun r50_ S51_ H locs hp Y => ?_)
            obtain ⟨x52_, rfl, h⟩ := hp
            refine W.eq (g2 := F0 m 115 ls [.int x52_]) rfl ?_
            refine lv_istore_n (i := 3) (lv' := [(3, .int x52_), (4, .int (q_I S40_ 600 a43_)), (2, va_rf r25_), (0, .ref a0), (1, va_rf r1)]) hx hb dX11_turn_115 rfl hl (by decide) (by first | rfl | simp [q_cat, q_catI, q_catJ, q_catR]) (fun ls hl => ?_)
            refine lv_iload_n hx hb dX11_turn_116 rfl (lv_at hl 0 rfl) ?_
            refine lv_iconst (v := 3) hx hb dX11_turn_117 (by decide) ?_
            refine lv_icmp_ne (tgt := 131) hx hb dX11_turn_118 (by decide) (fun c53_ => ?_) (fun c53_ => ?_)
            · replace h := h.1 c53_
              refine lv_bipush (v := 115) hx hb dX11_turn_131 (by decide) ?_
              exact cb_X11_turn_133 X Y (lv_sub hl [3, 4, 2, 0] rfl) h
            · replace h := h.2 c53_
              refine q_aload_n hx hb dX11_turn_121 rfl (lv_at hl 2 rfl) ?_
              refine q_nn [] e28_ ?_
              obtain ⟨k54_, h⟩ := h
              refine q_getP X Y kX7 11 rfl fl_X11_195 k54_ rfl dX11_turn_122 ?_
              refine lv_bipush (v := 10) hx hb dX11_turn_125 (by decide) ?_
              obtain ⟨a55_, e56_, h⟩ := h
              refine q_nn [.int (10 : Int32)] e56_ ?_
              obtain ⟨k57_, h⟩ := h
              obtain ⟨i58_, h⟩ := h
              refine q_ild X Y k57_ i58_ dX11_turn_127 ?_
              refine lv_goto (tgt := 133) hx hb dX11_turn_128 (by decide) ?_
              exact cb_X11_turn_133 X Y (lv_sub hl [3, 4, 2, 0] rfl) h
        · replace h := h.2 c26_
          exact q_vret X Y (Nat.le_refl _) (Nat.le_refl _) h dX11_turn_41
      · replace h := h.2 c21_
        exact q_vret X Y (Nat.le_refl _) (Nat.le_refl _) h dX11_turn_31
    · replace h := h.2 c10_
      exact cb_X11_turn_11 X Y (lv_sub hl [] rfl) h
