-- X7_init
theorem ml_X7_3 : Cond.methodLink RX7 3 Lib.objectInit ∈ q_G := q_tb (i := 839) (by decide +kernel) (by decide +kernel)
theorem dX7_init_0 : decode cX7_init 0 = .ok (.aload_n 0, 1) := by decide +kernel
theorem dX7_init_1 : decode cX7_init 1 = .ok (.invokespecial 3, 3) := by decide +kernel
theorem dX7_init_4 : decode cX7_init 4 = .ok (.aload_n 0, 1) := by decide +kernel
theorem dX7_init_5 : decode cX7_init 5 = .ok (.bipush 32, 2) := by decide +kernel
theorem dX7_init_7 : decode cX7_init 7 = .ok (.newarray .int, 2) := by decide +kernel
theorem dX7_init_9 : decode cX7_init 9 = .ok (.putfield 9, 3) := by decide +kernel
theorem dX7_init_12 : decode cX7_init 12 = .ok (.return_, 1) := by decide +kernel
def wm_X7_init (bc bs : Nat) (S : q_S) (a0 : Nat) (Q : Option Value → q_S → Prop) : Prop := (0 + 1 ≤ bc ∧ 0 + 32 ≤ bs) ∧ (∀ b1_ : Nat, q_K S b1_ = 0 → (q_K (qs_R S 21 32 b1_) a0 = 8 ∧ (Q none (qs_P (qs_R S 21 32 b1_) 1411 a0 (some b1_)))))
set_option maxHeartbeats 4000000 in
set_option maxRecDepth 100000 in
theorem cm_X7_init {l : Launch} {D : va_G} {cy : Nat → ClassId} {lo : Nat} {bc bs : Nat} {S : q_S} {a0 : Nat} {Q : Option Value → q_S → Prop} (h : wm_X7_init bc bs S a0 Q) : q_Met l D cy lo yX7_init cX7_init 1 none 1 20 bc bs [.ref a0] S Q := by
  refine q_body (by decide) (by first | exact Nat.le_of_ble_eq_true rfl | simp [lg_sl, q_cat, q_catI, q_catJ, q_catR]) ?_
  intro p e s m below meth c ls X hnm Y hl
  have hx := X.1
  have hb := X.2.1
  have hl : lv_has ls 1 [(0, .ref a0)] := by first | exact hl | simpa [lv_args, q_cat, q_catI, q_catJ, q_catR] using hl
  generalize hargs : ([.ref a0] : List Value).toArray = args at X ⊢
  have hu : 0 ≤ bc ∧ 0 ≤ bs := ⟨Nat.zero_le _, Nat.zero_le _⟩
  unfold wm_X7_init at h
  refine lv_aload_n hx hb dX7_init_0 rfl (lv_at hl 0 rfl) ?_
  refine q_obj X hl ml_X7_3 oi_ oc_ ⟨Nat.le_of_ble_eq_true rfl, (by first | exact Nat.le_of_ble_eq_true rfl | simp [q_cat, q_catI, q_catJ, q_catR])⟩ dX7_init_1 ?_
  refine lv_aload_n hx hb dX7_init_4 rfl (lv_at hl 0 rfl) ?_
  refine lv_bipush (v := 32) hx hb dX7_init_5 (by decide) ?_
  obtain ⟨w4_, h⟩ := h
  refine q_newa X Y (k := 21) (t := 1) (n := 32) (ty := .int) rfl (by decide) rfl (fun _ _ => rfl) (by first | exact rfl | decide | simp [defaultValue]) ar_int (by decide) (by decide) (by decide) w4_ dX7_init_7 (fun b1_ H h2_ h3_ Y => ?_)
  replace h := h b1_ h2_
  replace hu := w4_
  have k5_ : q_K (qs_R S 21 32 b1_) b1_ = 21 := qs_R_Ks
  obtain ⟨k6_, h⟩ := h
  refine q_putP X Y (some b1_) rfl kX7 11 rfl fl_X7_9 k6_ _ rfl (Or.inr ⟨_, rfl⟩) (Or.inr ⟨rfl, hnm, rfl⟩) dX7_init_9 (fun H locs Y => ?_)
  exact q_vret X Y hu.1 hu.2 h dX7_init_12
-- X7_reset
theorem fl_X7_15 : Cond.fieldLink RX7 15 "PartitionWorks$Process" "number" "I" ∈ q_G := q_tb (i := 840) (by decide +kernel) (by decide +kernel)
theorem fl_X7_19 : Cond.fieldLink RX7 19 "PartitionWorks$Process" "name" "J" ∈ q_G := q_tb (i := 845) (by decide +kernel) (by decide +kernel)
theorem fl_X7_23 : Cond.fieldLink RX7 23 "PartitionWorks$Process" "period" "I" ∈ q_G := q_tb (i := 853) (by decide +kernel) (by decide +kernel)
theorem fl_X7_29 : Cond.fieldLink RX7 29 "PartitionWorks$Process" "delay" "I" ∈ q_G := q_tb (i := 859) (by decide +kernel) (by decide +kernel)
theorem fl_X7_32 : Cond.fieldLink RX7 32 "PartitionWorks$Process" "handler" "Z" ∈ q_G := q_tb (i := 862) (by decide +kernel) (by decide +kernel)
theorem fl_X7_36 : Cond.fieldLink RX7 36 "PartitionWorks$Process" "stopped" "Z" ∈ q_G := q_tb (i := 867) (by decide +kernel) (by decide +kernel)
theorem fl_X7_48 : Cond.fieldLink RX7 48 "PartitionWorks$Process" "done" "I" ∈ q_G := q_tb (i := 889) (by decide +kernel) (by decide +kernel)
theorem ml_X7_54 : Cond.methodLink RX7 54 yX7_leave ∈ q_G := q_tb (i := 951) (by decide +kernel) (by decide +kernel)
theorem dX7_reset_0 : decode cX7_reset 0 = .ok (.aload_n 0, 1) := by decide +kernel
theorem dX7_reset_1 : decode cX7_reset 1 = .ok (.iload_n 1, 1) := by decide +kernel
theorem dX7_reset_2 : decode cX7_reset 2 = .ok (.putfield 15, 3) := by decide +kernel
theorem dX7_reset_5 : decode cX7_reset 5 = .ok (.aload_n 0, 1) := by decide +kernel
theorem dX7_reset_6 : decode cX7_reset 6 = .ok (.lload_n 2, 1) := by decide +kernel
theorem dX7_reset_7 : decode cX7_reset 7 = .ok (.putfield 19, 3) := by decide +kernel
theorem dX7_reset_10 : decode cX7_reset 10 = .ok (.aload_n 0, 1) := by decide +kernel
theorem dX7_reset_11 : decode cX7_reset 11 = .ok (.iconst 0, 1) := by decide +kernel
theorem dX7_reset_12 : decode cX7_reset 12 = .ok (.putfield 23, 3) := by decide +kernel
theorem dX7_reset_15 : decode cX7_reset 15 = .ok (.aload_n 0, 1) := by decide +kernel
theorem dX7_reset_16 : decode cX7_reset 16 = .ok (.iconst 0, 1) := by decide +kernel
theorem dX7_reset_17 : decode cX7_reset 17 = .ok (.putfield 26, 3) := by decide +kernel
theorem dX7_reset_20 : decode cX7_reset 20 = .ok (.aload_n 0, 1) := by decide +kernel
theorem dX7_reset_21 : decode cX7_reset 21 = .ok (.iconst 0, 1) := by decide +kernel
theorem dX7_reset_22 : decode cX7_reset 22 = .ok (.putfield 29, 3) := by decide +kernel
theorem dX7_reset_25 : decode cX7_reset 25 = .ok (.aload_n 0, 1) := by decide +kernel
theorem dX7_reset_26 : decode cX7_reset 26 = .ok (.iconst 0, 1) := by decide +kernel
theorem dX7_reset_27 : decode cX7_reset 27 = .ok (.putfield 32, 3) := by decide +kernel
theorem dX7_reset_30 : decode cX7_reset 30 = .ok (.aload_n 0, 1) := by decide +kernel
theorem dX7_reset_31 : decode cX7_reset 31 = .ok (.iconst 0, 1) := by decide +kernel
theorem dX7_reset_32 : decode cX7_reset 32 = .ok (.putfield 36, 3) := by decide +kernel
theorem dX7_reset_35 : decode cX7_reset 35 = .ok (.aload_n 0, 1) := by decide +kernel
theorem dX7_reset_36 : decode cX7_reset 36 = .ok (.iconst 0, 1) := by decide +kernel
theorem dX7_reset_37 : decode cX7_reset 37 = .ok (.putfield 39, 3) := by decide +kernel
theorem dX7_reset_40 : decode cX7_reset 40 = .ok (.aload_n 0, 1) := by decide +kernel
theorem dX7_reset_41 : decode cX7_reset 41 = .ok (.getfield 9, 3) := by decide +kernel
theorem dX7_reset_44 : decode cX7_reset 44 = .ok (.iconst 0, 1) := by decide +kernel
theorem dX7_reset_45 : decode cX7_reset 45 = .ok (.invokestatic 42, 3) := by decide +kernel
theorem dX7_reset_48 : decode cX7_reset 48 = .ok (.aload_n 0, 1) := by decide +kernel
theorem dX7_reset_49 : decode cX7_reset 49 = .ok (.iconst 0, 1) := by decide +kernel
theorem dX7_reset_50 : decode cX7_reset 50 = .ok (.putfield 48, 3) := by decide +kernel
theorem dX7_reset_53 : decode cX7_reset 53 = .ok (.aload_n 0, 1) := by decide +kernel
theorem dX7_reset_54 : decode cX7_reset 54 = .ok (.iconst 0, 1) := by decide +kernel
theorem dX7_reset_55 : decode cX7_reset 55 = .ok (.putfield 51, 3) := by decide +kernel
theorem dX7_reset_58 : decode cX7_reset 58 = .ok (.aload_n 0, 1) := by decide +kernel
theorem dX7_reset_59 : decode cX7_reset 59 = .ok (.iconst 0, 1) := by decide +kernel
theorem dX7_reset_60 : decode cX7_reset 60 = .ok (.invokevirtual 54, 3) := by decide +kernel
theorem dX7_reset_63 : decode cX7_reset 63 = .ok (.return_, 1) := by decide +kernel
def wm_X7_reset (S : q_S) (a0 : Nat) (x1 : Int32) (z2 : Int64) (Q : Option Value → q_S → Prop) : Prop := q_K S a0 = 8 ∧ (∀ S2_ : q_S, S2_ = (qs_I (qs_J (qs_I S 1400 a0 x1) 1401 a0 z2) 1404 a0 (0 : Int32)) → (∀ S3_ : q_S, S3_ = (qs_I (qs_I (qs_I S2_ 1405 a0 (0 : Int32)) 1406 a0 (0 : Int32)) 1407 a0 (0 : Int32)) → (wm_J7_fill_53178 (qs_I (qs_I S3_ 1408 a0 (0 : Int32)) 1410 a0 (0 : Int32)) (q_P (qs_I (qs_I S3_ 1408 a0 (0 : Int32)) 1410 a0 (0 : Int32)) 1411 a0) (0 : Int32) (fun r4_ S5_ => r4_ = none ∧ (q_K S5_ a0 = 8 ∧ (wm_X7_leave (qs_I (qs_I S5_ 1414 a0 (0 : Int32)) 1415 a0 (0 : Int32)) a0 (0 : Int32) (fun r7_ S8_ => r7_ = none ∧ (Q none S8_))))))))
set_option maxHeartbeats 4000000 in
set_option maxRecDepth 100000 in
theorem cm_X7_reset {l : Launch} {D : va_G} {cy : Nat → ClassId} {lo : Nat} {S : q_S} {a0 : Nat} {x1 : Int32} {z2 : Int64} {Q : Option Value → q_S → Prop} (h : wm_X7_reset S a0 x1 z2 Q) : q_Met l D cy lo yX7_reset cX7_reset 4 none 1 23 0 0 [.ref a0, .int x1, .long z2] S Q := by
  refine q_body (by decide) (by first | exact Nat.le_of_ble_eq_true rfl | simp [lg_sl, q_cat, q_catI, q_catJ, q_catR]) ?_
  intro p e s m below meth c ls X hnm Y hl
  have hx := X.1
  have hb := X.2.1
  have hl : lv_has ls 4 [(0, .ref a0), (1, .int x1), (2, .long z2)] := by first | exact hl | simpa [lv_args, q_cat, q_catI, q_catJ, q_catR] using hl
  generalize hargs : ([.ref a0, .int x1, .long z2] : List Value).toArray = args at X ⊢
  unfold wm_X7_reset at h
  refine lv_aload_n hx hb dX7_reset_0 rfl (lv_at hl 0 rfl) ?_
  refine lv_iload_n hx hb dX7_reset_1 rfl (lv_at hl 1 rfl) ?_
  obtain ⟨k1_, h⟩ := h
  refine q_putI X Y kX7 0 rfl fl_X7_15 k1_ .int rfl ⟨rfl, rfl⟩ rfl dX7_reset_2 (fun H locs Y => ?_)
  refine lv_aload_n hx hb dX7_reset_5 rfl (lv_at hl 0 rfl) ?_
  refine lv_lload_n hx hb dX7_reset_6 rfl (lv_at hl 2 rfl) ?_
  refine q_putJ X Y kX7 1 rfl fl_X7_19 k1_ rfl rfl dX7_reset_7 (fun H locs Y => ?_)
  refine lv_aload_n hx hb dX7_reset_10 rfl (lv_at hl 0 rfl) ?_
  refine lv_iconst (v := 0) hx hb dX7_reset_11 (by decide) ?_
  refine q_putI X Y kX7 4 rfl fl_X7_23 k1_ .int rfl ⟨rfl, rfl⟩ rfl dX7_reset_12 (fun H locs Y => ?_)
  obtain ⟨S2_, gS2_⟩ : ∃ z : q_S, z = (qs_I (qs_J (qs_I S 1400 a0 x1) 1401 a0 z2) 1404 a0 (0 : Int32)) := ⟨_, rfl⟩
  replace Y : q_Y D cy lo s S2_ H locs := by rw [gS2_]; exact Y
  replace h := h S2_ gS2_
  replace k1_ : q_K S2_ a0 = 8 := by rw [gS2_]; exact k1_
  refine lv_aload_n hx hb dX7_reset_15 rfl (lv_at hl 0 rfl) ?_
  refine lv_iconst (v := 0) hx hb dX7_reset_16 (by decide) ?_
  refine q_putI X Y kX7 5 rfl fl_X7_26 k1_ .int rfl ⟨rfl, rfl⟩ rfl dX7_reset_17 (fun H locs Y => ?_)
  refine lv_aload_n hx hb dX7_reset_20 rfl (lv_at hl 0 rfl) ?_
  refine lv_iconst (v := 0) hx hb dX7_reset_21 (by decide) ?_
  refine q_putI X Y kX7 6 rfl fl_X7_29 k1_ .int rfl ⟨rfl, rfl⟩ rfl dX7_reset_22 (fun H locs Y => ?_)
  refine lv_aload_n hx hb dX7_reset_25 rfl (lv_at hl 0 rfl) ?_
  refine lv_iconst (v := 0) hx hb dX7_reset_26 (by decide) ?_
  refine q_putI X Y kX7 7 rfl fl_X7_32 k1_ .boolean rfl ⟨rfl, rfl⟩ rfl dX7_reset_27 (fun H locs Y => ?_)
  obtain ⟨S3_, gS3_⟩ : ∃ z : q_S, z = (qs_I (qs_I (qs_I S2_ 1405 a0 (0 : Int32)) 1406 a0 (0 : Int32)) 1407 a0 (0 : Int32)) := ⟨_, rfl⟩
  replace Y : q_Y D cy lo s S3_ H locs := by rw [gS3_]; exact Y
  replace h := h S3_ gS3_
  replace k1_ : q_K S3_ a0 = 8 := by rw [gS3_]; exact k1_
  refine lv_aload_n hx hb dX7_reset_30 rfl (lv_at hl 0 rfl) ?_
  refine lv_iconst (v := 0) hx hb dX7_reset_31 (by decide) ?_
  refine q_putI X Y kX7 8 rfl fl_X7_36 k1_ .boolean rfl ⟨rfl, rfl⟩ rfl dX7_reset_32 (fun H locs Y => ?_)
  refine lv_aload_n hx hb dX7_reset_35 rfl (lv_at hl 0 rfl) ?_
  refine lv_iconst (v := 0) hx hb dX7_reset_36 (by decide) ?_
  refine q_putI X Y kX7 10 rfl fl_X7_39 k1_ .int rfl ⟨rfl, rfl⟩ rfl dX7_reset_37 (fun H locs Y => ?_)
  refine lv_aload_n hx hb dX7_reset_40 rfl (lv_at hl 0 rfl) ?_
  refine q_getP X Y kX7 11 rfl fl_X7_9 k1_ rfl dX7_reset_41 ?_
  refine lv_iconst (v := 0) hx hb dX7_reset_44 (by decide) ?_
  refine q_callS X Y hl (cm_J7_fill_53178 h) mt_J7_fill_53178 ms_J7_fill_53178 ml_X7_42 rfl rfl (by first | exact Nat.le_of_ble_eq_true rfl | simp [q_cat, q_catI, q_catJ, q_catR]) ⟨Nat.le_of_ble_eq_true rfl, Nat.le_of_ble_eq_true rfl⟩ ⟨Nat.le_of_ble_eq_true rfl, Nat.le_of_ble_eq_true rfl⟩ dX7_reset_45 (fun r4_ S5_ H locs hp Y => ?_)
  obtain ⟨rfl, h⟩ := hp
  refine W.eq (g2 := F0 m 48 ls []) rfl ?_
  refine lv_aload_n hx hb dX7_reset_48 rfl (lv_at hl 0 rfl) ?_
  refine lv_iconst (v := 0) hx hb dX7_reset_49 (by decide) ?_
  obtain ⟨k6_, h⟩ := h
  refine q_putI X Y kX7 14 rfl fl_X7_48 k6_ .int rfl ⟨rfl, rfl⟩ rfl dX7_reset_50 (fun H locs Y => ?_)
  refine lv_aload_n hx hb dX7_reset_53 rfl (lv_at hl 0 rfl) ?_
  refine lv_iconst (v := 0) hx hb dX7_reset_54 (by decide) ?_
  refine q_putI X Y kX7 15 rfl fl_X7_51 k6_ .int rfl ⟨rfl, rfl⟩ rfl dX7_reset_55 (fun H locs Y => ?_)
  refine lv_aload_n hx hb dX7_reset_58 rfl (lv_at hl 0 rfl) ?_
  refine lv_iconst (v := 0) hx hb dX7_reset_59 (by decide) ?_
  refine q_callV X Y hl (cm_X7_leave h) mt_X7_leave mi_X7_leave ml_X7_54 (ci := 7) rfl k6_ (by decide) rfl rfl (by first | exact Nat.le_of_ble_eq_true rfl | simp [q_cat, q_catI, q_catJ, q_catR]) ⟨Nat.le_of_ble_eq_true rfl, Nat.le_of_ble_eq_true rfl⟩ ⟨Nat.le_of_ble_eq_true rfl, Nat.le_of_ble_eq_true rfl⟩ dX7_reset_60 (fun r7_ S8_ H locs hp Y => ?_)
  obtain ⟨rfl, h⟩ := hp
  refine W.eq (g2 := F0 m 63 ls []) rfl ?_
  exact q_vret X Y (Nat.le_refl _) (Nat.le_refl _) h dX7_reset_63
-- X5_addProcess
theorem ml_X5_82 : Cond.methodLink RX5 82 yX7_reset ∈ q_G := q_tb (i := 946) (by decide +kernel) (by decide +kernel)
theorem mt_X7_reset : q_Mt yX7_reset cX7_reset 4 none 2 := ⟨q_tb (i := 949) (by decide +kernel) (by decide +kernel), q_tb (i := 22) (by decide +kernel) (by decide +kernel), by decide +kernel, by decide +kernel, by decide +kernel⟩
theorem mi_X7_reset : Cond.instanceMethod yX7_reset ∈ q_G ∧ Cond.selects yX7_reset.cls yX7_reset yX7_reset ∈ q_G := ⟨q_tb (i := 947) (by decide +kernel) (by decide +kernel), q_tb (i := 948) (by decide +kernel) (by decide +kernel)⟩
theorem ib_X7 : Cond.instantiable RX7 20 ∈ q_G := q_tb (i := 835) (by decide +kernel) (by decide +kernel)
theorem in_X7 : Cond.initialized RX7 ∈ q_G := q_tb (i := 22) (by decide +kernel) (by decide +kernel)
theorem dv_X7 : ∀ k, k < 20 → defaultValue (tyX7 k) = vp_V ((q_F 7).map (fun q => q_dv q.1)) k := by decide +kernel
theorem mn_X5_81 : Cond.methodLinkNest RX5 81 yX7_init "PartitionWorks" ∈ q_Nw := List.mem_filter.mpr ⟨List.mem_of_getElem? (i := 836) (by decide +kernel), rfl⟩
theorem mt_X7_init : q_Mt yX7_init cX7_init 1 none 0 := ⟨q_tb (i := 838) (by decide +kernel) (by decide +kernel), q_tb (i := 22) (by decide +kernel) (by decide +kernel), by decide +kernel, by decide +kernel, by decide +kernel⟩
theorem mj_X7_init : Cond.instanceMethod yX7_init ∈ q_G := q_tb (i := 837) (by decide +kernel) (by decide +kernel)
theorem dX5_addProcess_0 : decode cX5_addProcess 0 = .ok (.aload_n 0, 1) := by decide +kernel
theorem dX5_addProcess_1 : decode cX5_addProcess 1 = .ok (.getfield 45, 3) := by decide +kernel
theorem dX5_addProcess_4 : decode cX5_addProcess 4 = .ok (.istore_n 3, 1) := by decide +kernel
theorem dX5_addProcess_5 : decode cX5_addProcess 5 = .ok (.aload_n 0, 1) := by decide +kernel
theorem dX5_addProcess_6 : decode cX5_addProcess 6 = .ok (.getfield 20, 3) := by decide +kernel
theorem dX5_addProcess_9 : decode cX5_addProcess 9 = .ok (.iload_n 3, 1) := by decide +kernel
theorem dX5_addProcess_10 : decode cX5_addProcess 10 = .ok (.aaload, 1) := by decide +kernel
theorem dX5_addProcess_11 : decode cX5_addProcess 11 = .ok (.astore 4, 2) := by decide +kernel
theorem dX5_addProcess_13 : decode cX5_addProcess 13 = .ok (.aload 4, 2) := by decide +kernel
theorem dX5_addProcess_15 : decode cX5_addProcess 15 = .ok (.ifnonnull 20, 3) := by decide +kernel
theorem dX5_addProcess_18 : decode cX5_addProcess 18 = .ok (.new 18, 3) := by decide +kernel
theorem dX5_addProcess_21 : decode cX5_addProcess 21 = .ok (.dup, 1) := by decide +kernel
theorem dX5_addProcess_22 : decode cX5_addProcess 22 = .ok (.invokespecial 81, 3) := by decide +kernel
theorem dX5_addProcess_25 : decode cX5_addProcess 25 = .ok (.astore 4, 2) := by decide +kernel
theorem dX5_addProcess_27 : decode cX5_addProcess 27 = .ok (.aload_n 0, 1) := by decide +kernel
theorem dX5_addProcess_28 : decode cX5_addProcess 28 = .ok (.getfield 20, 3) := by decide +kernel
theorem dX5_addProcess_31 : decode cX5_addProcess 31 = .ok (.iload_n 3, 1) := by decide +kernel
theorem dX5_addProcess_32 : decode cX5_addProcess 32 = .ok (.aload 4, 2) := by decide +kernel
theorem dX5_addProcess_34 : decode cX5_addProcess 34 = .ok (.aastore, 1) := by decide +kernel
theorem dX5_addProcess_35 : decode cX5_addProcess 35 = .ok (.aload 4, 2) := by decide +kernel
theorem dX5_addProcess_37 : decode cX5_addProcess 37 = .ok (.iload_n 3, 1) := by decide +kernel
theorem dX5_addProcess_38 : decode cX5_addProcess 38 = .ok (.lload_n 1, 1) := by decide +kernel
theorem dX5_addProcess_39 : decode cX5_addProcess 39 = .ok (.invokevirtual 82, 3) := by decide +kernel
theorem dX5_addProcess_42 : decode cX5_addProcess 42 = .ok (.aload_n 0, 1) := by decide +kernel
theorem dX5_addProcess_43 : decode cX5_addProcess 43 = .ok (.dup, 1) := by decide +kernel
theorem dX5_addProcess_44 : decode cX5_addProcess 44 = .ok (.getfield 45, 3) := by decide +kernel
theorem dX5_addProcess_47 : decode cX5_addProcess 47 = .ok (.iconst 1, 1) := by decide +kernel
theorem dX5_addProcess_48 : decode cX5_addProcess 48 = .ok (.iadd, 1) := by decide +kernel
theorem dX5_addProcess_49 : decode cX5_addProcess 49 = .ok (.putfield 45, 3) := by decide +kernel
theorem dX5_addProcess_52 : decode cX5_addProcess 52 = .ok (.aload 4, 2) := by decide +kernel
theorem dX5_addProcess_54 : decode cX5_addProcess 54 = .ok (.areturn, 1) := by decide +kernel
def wb_X5_addProcess_35 (bc bs : Nat)  (u v : Nat) (S : q_S) (a0 : Nat) (z1 : Int64) (x3 : Int32) (r4 : Option Nat) (Q : Option Value → q_S → Prop) : Prop := ∃ a1_ : Nat, r4 = some a1_ ∧ (q_K S a1_ = 8 ∧ (wm_X7_reset S a1_ x3 z1 (fun r4_ S5_ => r4_ = none ∧ (q_K S5_ a0 = 6 ∧ (Q (some (va_rf r4)) (qs_I S5_ 1004 a0 ((q_I S5_ 1004 a0) + (1 : Int32))))))))
set_option maxHeartbeats 4000000 in
set_option maxRecDepth 100000 in
theorem cb_X5_addProcess_35 {p : Program} {l : Launch} {e : Env} {s : State} {m : MethodId} {args : Array Value} {below : List Frame} {meth : Method} {c : Code} {D : va_G} {cy : Nat → ClassId} {lo : Nat} {bc bs : Nat}  {u v : Nat} {S : q_S} {a0 : Nat} {z1 : Int64} {x3 : Int32} {r4 : Option Nat} {Q : Option Value → q_S → Prop} {H : Heap} {locs : List Loc} {ls : Array Slot} (X : q_X p s m args meth c RX5 cX5_addProcess 5 (some (.object "PartitionWorks$Process")) D cy lo)  (hu : u ≤ bc ∧ v ≤ bs) (Y : q_Y D cy lo s S H locs) (hl : lv_has ls 5 [(0, .ref a0), (1, .long z1), (3, .int x3), (4, va_rf r4)]) (h : wb_X5_addProcess_35 bc bs u v S a0 z1 x3 r4 Q) : W p l e ({ frames := 2, cells := bc, slots := bs, locals := 46 } : Room) s m args below meth c H locs u v (MQ below (q_Q D cy lo Q) args s bc bs (fun q => lo ≤ q)) (F0 m 35 ls []) := by
  have hx := X.1
  have hb := X.2.1
  unfold wb_X5_addProcess_35 at h
  refine q_aload hx hb dX5_addProcess_35 (lv_at hl 3 rfl) ?_
  refine lv_iload_n hx hb dX5_addProcess_37 rfl (lv_at hl 2 rfl) ?_
  refine lv_lload_n hx hb dX5_addProcess_38 rfl (lv_at hl 1 rfl) ?_
  obtain ⟨a1_, e2_, h⟩ := h
  refine q_nn [.long z1, .int x3] e2_ ?_
  obtain ⟨k3_, h⟩ := h
  refine q_callV X Y hl (cm_X7_reset h) mt_X7_reset mi_X7_reset ml_X5_82 (ci := 7) rfl k3_ (by decide) rfl rfl (by first | exact Nat.le_of_ble_eq_true rfl | simp [q_cat, q_catI, q_catJ, q_catR]) ⟨Nat.le_of_ble_eq_true rfl, Nat.le_of_ble_eq_true rfl⟩ hu dX5_addProcess_39 (fun r4_ S5_ H locs hp Y => ?_)
  obtain ⟨rfl, h⟩ := hp
  refine W.eq (g2 := F0 m 42 ls []) rfl ?_
  refine lv_aload_n hx hb dX5_addProcess_42 rfl (lv_at hl 0 rfl) ?_
  refine lv_dup hx hb dX5_addProcess_43 rfl ?_
  obtain ⟨k6_, h⟩ := h
  refine q_getI X Y kX5 4 rfl fl_X5_45 k6_ dX5_addProcess_44 ?_
  refine lv_iconst (v := 1) hx hb dX5_addProcess_47 (by decide) ?_
  refine lv_iadd hx hb dX5_addProcess_48 ?_
  refine q_putI X Y kX5 4 rfl fl_X5_45 k6_ .int rfl ⟨rfl, rfl⟩ rfl dX5_addProcess_49 (fun H locs Y => ?_)
  refine q_aload hx hb dX5_addProcess_52 (lv_at hl 3 rfl) ?_
  exact q_aret X Y (Or.inl ⟨_, rfl⟩) (va_rf_or _) hu.1 hu.2 h dX5_addProcess_54
def wm_X5_addProcess (bc bs : Nat) (S : q_S) (a0 : Nat) (z1 : Int64) (Q : Option Value → q_S → Prop) : Prop := q_K S a0 = 6 ∧ (∃ a8_ : Nat, (q_P S 1003 a0) = some a8_ ∧ (q_K S a8_ = 26 ∧ (vp_in (q_I S 1004 a0) (q_N S a8_) ∧ (((¬ (q_C S a8_ (q_I S 1004 a0).toNatClampNeg) = none → (wb_X5_addProcess_35 bc bs 0 0 S a0 z1 (q_I S 1004 a0) (q_C S a8_ (q_I S 1004 a0).toNatClampNeg) Q)) ∧ ((q_C S a8_ (q_I S 1004 a0).toNatClampNeg) = none → ((0 + 1 ≤ bc ∧ 0 + 20 ≤ bs) ∧ (∀ b13_ : Nat, q_K S b13_ = 0 → (∃ m20_ m21_ : Nat, ((0 + 1) + m20_ ≤ bc ∧ (0 + 20) + m21_ ≤ bs) ∧ (wm_X7_init m20_ m21_ (qs_O S 7 b13_) b13_ (fun r18_ S19_ => r18_ = none ∧ (q_K S19_ a0 = 6 ∧ (∃ a24_ : Nat, (q_P S19_ 1003 a0) = some a24_ ∧ (q_K S19_ a24_ = 26 ∧ (q_K S19_ b13_ = 8 ∧ (vp_in (q_I S 1004 a0) (q_N S19_ a24_) ∧ (wb_X5_addProcess_35 bc bs ((0 + 1) + m20_) ((0 + 20) + m21_) (qs_C S19_ a24_ (q_I S 1004 a0).toNatClampNeg (some b13_)) a0 z1 (q_I S 1004 a0) (some b13_) Q)))))))))))))))))
set_option maxHeartbeats 4000000 in
set_option maxRecDepth 100000 in
theorem cm_X5_addProcess {l : Launch} {D : va_G} {cy : Nat → ClassId} {lo : Nat} {bc bs : Nat} {S : q_S} {a0 : Nat} {z1 : Int64} {Q : Option Value → q_S → Prop} (h : wm_X5_addProcess bc bs S a0 z1 Q) : q_Met l D cy lo yX5_addProcess cX5_addProcess 5 (some (.object "PartitionWorks$Process")) 2 46 bc bs [.ref a0, .long z1] S Q := by
  refine q_body (by decide) (by first | exact Nat.le_of_ble_eq_true rfl | simp [lg_sl, q_cat, q_catI, q_catJ, q_catR]) ?_
  intro p e s m below meth c ls X hnm Y hl
  have hx := X.1
  have hb := X.2.1
  have hl : lv_has ls 5 [(0, .ref a0), (1, .long z1)] := by first | exact hl | simpa [lv_args, q_cat, q_catI, q_catJ, q_catR] using hl
  generalize hargs : ([.ref a0, .long z1] : List Value).toArray = args at X ⊢
  have hu : 0 ≤ bc ∧ 0 ≤ bs := ⟨Nat.zero_le _, Nat.zero_le _⟩
  unfold wm_X5_addProcess at h
  refine lv_aload_n hx hb dX5_addProcess_0 rfl (lv_at hl 0 rfl) ?_
  obtain ⟨k7_, h⟩ := h
  refine q_getI X Y kX5 4 rfl fl_X5_45 k7_ dX5_addProcess_1 ?_
  refine lv_istore_n (i := 3) (lv' := [(3, .int (q_I S 1004 a0)), (0, .ref a0), (1, .long z1)]) hx hb dX5_addProcess_4 rfl hl (by decide) (by first | rfl | simp [q_cat, q_catI, q_catJ, q_catR]) (fun ls hl => ?_)
  refine lv_aload_n hx hb dX5_addProcess_5 rfl (lv_at hl 1 rfl) ?_
  refine q_getP X Y kX5 3 rfl fl_X5_20 k7_ rfl dX5_addProcess_6 ?_
  refine lv_iload_n hx hb dX5_addProcess_9 rfl (lv_at hl 0 rfl) ?_
  obtain ⟨a8_, e9_, h⟩ := h
  refine q_nn [.int (q_I S 1004 a0)] e9_ ?_
  obtain ⟨k10_, h⟩ := h
  obtain ⟨i11_, h⟩ := h
  refine q_cld X Y k10_ (by decide) (t := 6) rfl i11_ rfl dX5_addProcess_10 ?_
  refine q_astore (i := 4) (lv' := [(4, va_rf (q_C S a8_ (q_I S 1004 a0).toNatClampNeg)), (3, .int (q_I S 1004 a0)), (0, .ref a0), (1, .long z1)]) hx hb dX5_addProcess_11 hl (by decide) (by first | rfl | simp [q_cat, q_catI, q_catJ, q_catR]) (fun ls hl => ?_)
  refine q_aload hx hb dX5_addProcess_13 (lv_at hl 0 rfl) ?_
  refine q_ifnonnull (r := (q_C S a8_ (q_I S 1004 a0).toNatClampNeg)) (tgt := 35) hx hb dX5_addProcess_15 (by decide) (fun c12_ => ?_) (fun c12_ => ?_)
  · replace h := h.1 c12_
    exact cb_X5_addProcess_35 X hu Y (lv_sub hl [2, 3, 1, 0] rfl) h
  · replace h := h.2 c12_
    obtain ⟨w16_, h⟩ := h
    refine q_new X Y kX7 tyX7 tyX7_ok dv_X7 cl_X5_18 ib_X7 in_X7 w16_ dX5_addProcess_18 (fun b13_ H h14_ h15_ Y => ?_)
    replace h := h b13_ h14_
    replace hu := w16_
    replace k7_ := qs_O_keep (ci := 7) h14_ k7_ (by decide)
    replace k10_ := qs_O_keep (ci := 7) h14_ k10_ (by decide)
    have k17_ : q_K (qs_O S 7 b13_) b13_ = 8 := qs_O_Ks
    refine lv_dup hx hb dX5_addProcess_21 rfl ?_
    obtain ⟨m20_, m21_, w22_, h⟩ := h
    refine q_callN X Y hl (cm_X7_init h) mt_X7_init mj_X7_init rfl mn_X5_81 rfl rfl (by first | exact Nat.le_of_ble_eq_true rfl | simp [q_cat, q_catI, q_catJ, q_catR]) ⟨Nat.le_of_ble_eq_true rfl, Nat.le_of_ble_eq_true rfl⟩ w22_ dX5_addProcess_22 (fun r18_ S19_ H locs hp Y => ?_)
    obtain ⟨rfl, h⟩ := hp
    replace hu := w22_
    refine W.eq (g2 := F0 m 25 ls [.ref b13_]) rfl ?_
    refine lv_astore (i := 4) (lv' := [(4, .ref b13_), (3, .int (q_I S 1004 a0)), (0, .ref a0), (1, .long z1)]) hx hb dX5_addProcess_25 hl (by decide) (by first | rfl | simp [q_cat, q_catI, q_catJ, q_catR]) (fun ls hl => ?_)
    refine lv_aload_n hx hb dX5_addProcess_27 rfl (lv_at hl 2 rfl) ?_
    obtain ⟨k23_, h⟩ := h
    refine q_getP X Y kX5 3 rfl fl_X5_20 k23_ rfl dX5_addProcess_28 ?_
    refine lv_iload_n hx hb dX5_addProcess_31 rfl (lv_at hl 1 rfl) ?_
    refine lv_aload hx hb dX5_addProcess_32 (lv_at hl 0 rfl) ?_
    obtain ⟨a24_, e25_, h⟩ := h
    refine q_nn [.ref b13_, .int (q_I S 1004 a0)] e25_ ?_
    obtain ⟨k26_, h⟩ := h
    obtain ⟨k27_, h⟩ := h
    obtain ⟨i28_, h⟩ := h
    refine q_cst X Y k26_ (by decide) (t := 6) (r := (RX7, TX7, 20)) rfl i28_ k27_ (by decide) rfl dX5_addProcess_34 (fun H locs Y => ?_)
    exact cb_X5_addProcess_35 X hu Y (lv_sub hl [2, 3, 1, 0] rfl) h
-- X10_init
theorem ml_X10_3 : Cond.methodLink RX10 3 Lib.objectInit ∈ q_G := q_tb (i := 976) (by decide +kernel) (by decide +kernel)
theorem cl_X10_9 : Cond.classLink RX10 9 RX8 ∈ q_G := q_tb (i := 977) (by decide +kernel) (by decide +kernel)
theorem mn_X10_11 : Cond.methodLinkNest RX10 11 yX8_init "PartitionWorks" ∈ q_Nw := List.mem_filter.mpr ⟨List.mem_of_getElem? (i := 978) (by decide +kernel), rfl⟩
theorem dX10_init_0 : decode cX10_init 0 = .ok (.aload_n 0, 1) := by decide +kernel
theorem dX10_init_1 : decode cX10_init 1 = .ok (.invokespecial 3, 3) := by decide +kernel
theorem dX10_init_4 : decode cX10_init 4 = .ok (.aload_n 0, 1) := by decide +kernel
theorem dX10_init_5 : decode cX10_init 5 = .ok (.iload_n 1, 1) := by decide +kernel
theorem dX10_init_6 : decode cX10_init 6 = .ok (.ifCond .eq 13, 3) := by decide +kernel
theorem dX10_init_9 : decode cX10_init 9 = .ok (.new 9, 3) := by decide +kernel
theorem dX10_init_12 : decode cX10_init 12 = .ok (.dup, 1) := by decide +kernel
theorem dX10_init_13 : decode cX10_init 13 = .ok (.invokespecial 11, 3) := by decide +kernel
theorem dX10_init_16 : decode cX10_init 16 = .ok (.goto 4, 3) := by decide +kernel
theorem dX10_init_19 : decode cX10_init 19 = .ok (.aconst_null, 1) := by decide +kernel
theorem dX10_init_20 : decode cX10_init 20 = .ok (.putfield 12, 3) := by decide +kernel
theorem dX10_init_23 : decode cX10_init 23 = .ok (.return_, 1) := by decide +kernel
def wb_X10_init_20 (bc bs : Nat)  (u v : Nat) (S : q_S) (as0 : Nat) (rs1 : Option Nat) (Q : Option Value → q_S → Prop) : Prop := q_K S as0 = 11 ∧ (Q none (qs_P S 2009 as0 rs1))
set_option maxHeartbeats 4000000 in
set_option maxRecDepth 100000 in
theorem cb_X10_init_20 {p : Program} {l : Launch} {e : Env} {s : State} {m : MethodId} {args : Array Value} {below : List Frame} {meth : Method} {c : Code} {D : va_G} {cy : Nat → ClassId} {lo : Nat} {bc bs : Nat}  {u v : Nat} {S : q_S} {as0 : Nat} {rs1 : Option Nat} {Q : Option Value → q_S → Prop} {H : Heap} {locs : List Loc} {ls : Array Slot} (X : q_X p s m args meth c RX10 cX10_init 2 none D cy lo) (hnm : meth.name = "<init>")  (hu : u ≤ bc ∧ v ≤ bs) (Y : q_Y D cy lo s S H locs) (hl : lv_has ls 2 []) (h : wb_X10_init_20 bc bs u v S as0 rs1 Q) : W p l e ({ frames := 2, cells := bc, slots := bs, locals := 40 } : Room) s m args below meth c H locs u v (MQ below (q_Q D cy lo Q) args s bc bs (fun q => lo ≤ q)) (F0 m 20 ls [va_rf rs1, .ref as0]) := by
  have hx := X.1
  have hb := X.2.1
  unfold wb_X10_init_20 at h
  obtain ⟨k1_, h⟩ := h
  refine q_putP X Y rs1 rfl kX10 9 rfl fl_X10_12 k1_ _ rfl (Or.inl ⟨_, rfl⟩) (Or.inr ⟨rfl, hnm, rfl⟩) dX10_init_20 (fun H locs Y => ?_)
  exact q_vret X Y hu.1 hu.2 h dX10_init_23
def wm_X10_init (bc bs : Nat) (S : q_S) (a0 : Nat) (x1 : Int32) (Q : Option Value → q_S → Prop) : Prop := ((x1 = 0 → (wb_X10_init_20 bc bs 0 0 S a0 none Q)) ∧ (¬ x1 = 0 → ((0 + 1 ≤ bc ∧ 0 + 4 ≤ bs) ∧ (∀ b3_ : Nat, q_K S b3_ = 0 → (∃ m10_ m11_ : Nat, ((0 + 1) + m10_ ≤ bc ∧ (0 + 4) + m11_ ≤ bs) ∧ (wm_X8_init m10_ m11_ (qs_O S 8 b3_) b3_ (fun r8_ S9_ => r8_ = none ∧ (wb_X10_init_20 bc bs ((0 + 1) + m10_) ((0 + 4) + m11_) S9_ a0 (some b3_) Q))))))))
set_option maxHeartbeats 4000000 in
set_option maxRecDepth 100000 in
theorem cm_X10_init {l : Launch} {D : va_G} {cy : Nat → ClassId} {lo : Nat} {bc bs : Nat} {S : q_S} {a0 : Nat} {x1 : Int32} {Q : Option Value → q_S → Prop} (h : wm_X10_init bc bs S a0 x1 Q) : q_Met l D cy lo yX10_init cX10_init 2 none 2 40 bc bs [.ref a0, .int x1] S Q := by
  refine q_body (by decide) (by first | exact Nat.le_of_ble_eq_true rfl | simp [lg_sl, q_cat, q_catI, q_catJ, q_catR]) ?_
  intro p e s m below meth c ls X hnm Y hl
  have hx := X.1
  have hb := X.2.1
  have hl : lv_has ls 2 [(0, .ref a0), (1, .int x1)] := by first | exact hl | simpa [lv_args, q_cat, q_catI, q_catJ, q_catR] using hl
  generalize hargs : ([.ref a0, .int x1] : List Value).toArray = args at X ⊢
  have hu : 0 ≤ bc ∧ 0 ≤ bs := ⟨Nat.zero_le _, Nat.zero_le _⟩
  unfold wm_X10_init at h
  refine lv_aload_n hx hb dX10_init_0 rfl (lv_at hl 0 rfl) ?_
  refine q_obj X hl ml_X10_3 oi_ oc_ ⟨Nat.le_of_ble_eq_true rfl, (by first | exact Nat.le_of_ble_eq_true rfl | simp [q_cat, q_catI, q_catJ, q_catR])⟩ dX10_init_1 ?_
  refine lv_aload_n hx hb dX10_init_4 rfl (lv_at hl 0 rfl) ?_
  refine lv_iload_n hx hb dX10_init_5 rfl (lv_at hl 1 rfl) ?_
  refine lv_if_eq (tgt := 19) hx hb dX10_init_6 (by decide) (fun c2_ => ?_) (fun c2_ => ?_)
  · replace h := h.1 c2_
    refine lv_null hx hb dX10_init_19 ?_
    refine W.eq (g2 := F0 m 20 ls [va_rf none, .ref a0]) rfl ?_
    exact cb_X10_init_20 X hnm hu Y (lv_sub hl [] rfl) h
  · replace h := h.2 c2_
    obtain ⟨w6_, h⟩ := h
    refine q_new X Y kX8 tyX8 tyX8_ok dv_X8 cl_X10_9 ib_X8 in_X8 w6_ dX10_init_9 (fun b3_ H h4_ h5_ Y => ?_)
    replace h := h b3_ h4_
    replace hu := w6_
    have k7_ : q_K (qs_O S 8 b3_) b3_ = 9 := qs_O_Ks
    refine lv_dup hx hb dX10_init_12 rfl ?_
    obtain ⟨m10_, m11_, w12_, h⟩ := h
    refine q_callN X Y hl (cm_X8_init h) mt_X8_init mj_X8_init rfl mn_X10_11 rfl rfl (by first | exact Nat.le_of_ble_eq_true rfl | simp [q_cat, q_catI, q_catJ, q_catR]) ⟨Nat.le_of_ble_eq_true rfl, Nat.le_of_ble_eq_true rfl⟩ w12_ dX10_init_13 (fun r8_ S9_ H locs hp Y => ?_)
    obtain ⟨rfl, h⟩ := hp
    replace hu := w12_
    refine W.eq (g2 := F0 m 16 ls [.ref b3_, .ref a0]) rfl ?_
    refine lv_goto (tgt := 20) hx hb dX10_init_16 (by decide) ?_
    exact cb_X10_init_20 X hnm hu Y (lv_sub hl [] rfl) h
-- X10_reset
theorem fl_X10_18 : Cond.fieldLink RX10 18 "PartitionWorks$Thing" "name" "J" ∈ q_G := q_tb (i := 998) (by decide +kernel) (by decide +kernel)
theorem fl_X10_26 : Cond.fieldLink RX10 26 "PartitionWorks$Thing" "most" "I" ∈ q_G := q_tb (i := 1006) (by decide +kernel) (by decide +kernel)
theorem fl_X10_29 : Cond.fieldLink RX10 29 "PartitionWorks$Thing" "fifo" "Z" ∈ q_G := q_tb (i := 1009) (by decide +kernel) (by decide +kernel)
theorem fl_X10_33 : Cond.fieldLink RX10 33 "PartitionWorks$Thing" "out" "Z" ∈ q_G := q_tb (i := 1014) (by decide +kernel) (by decide +kernel)
theorem fl_X10_36 : Cond.fieldLink RX10 36 "PartitionWorks$Thing" "queuing" "Z" ∈ q_G := q_tb (i := 1017) (by decide +kernel) (by decide +kernel)
theorem fl_X10_39 : Cond.fieldLink RX10 39 "PartitionWorks$Thing" "channel" "I" ∈ q_G := q_tb (i := 1020) (by decide +kernel) (by decide +kernel)
theorem dX10_reset_0 : decode cX10_reset 0 = .ok (.aload_n 0, 1) := by decide +kernel
theorem dX10_reset_1 : decode cX10_reset 1 = .ok (.lload_n 1, 1) := by decide +kernel
theorem dX10_reset_2 : decode cX10_reset 2 = .ok (.putfield 18, 3) := by decide +kernel
theorem dX10_reset_5 : decode cX10_reset 5 = .ok (.aload_n 0, 1) := by decide +kernel
theorem dX10_reset_6 : decode cX10_reset 6 = .ok (.iconst 0, 1) := by decide +kernel
theorem dX10_reset_7 : decode cX10_reset 7 = .ok (.putfield 22, 3) := by decide +kernel
theorem dX10_reset_10 : decode cX10_reset 10 = .ok (.aload_n 0, 1) := by decide +kernel
theorem dX10_reset_11 : decode cX10_reset 11 = .ok (.iconst 0, 1) := by decide +kernel
theorem dX10_reset_12 : decode cX10_reset 12 = .ok (.putfield 26, 3) := by decide +kernel
theorem dX10_reset_15 : decode cX10_reset 15 = .ok (.aload_n 0, 1) := by decide +kernel
theorem dX10_reset_16 : decode cX10_reset 16 = .ok (.iconst 0, 1) := by decide +kernel
theorem dX10_reset_17 : decode cX10_reset 17 = .ok (.putfield 29, 3) := by decide +kernel
theorem dX10_reset_20 : decode cX10_reset 20 = .ok (.aload_n 0, 1) := by decide +kernel
theorem dX10_reset_21 : decode cX10_reset 21 = .ok (.iconst 0, 1) := by decide +kernel
theorem dX10_reset_22 : decode cX10_reset 22 = .ok (.putfield 33, 3) := by decide +kernel
theorem dX10_reset_25 : decode cX10_reset 25 = .ok (.aload_n 0, 1) := by decide +kernel
theorem dX10_reset_26 : decode cX10_reset 26 = .ok (.iconst 0, 1) := by decide +kernel
theorem dX10_reset_27 : decode cX10_reset 27 = .ok (.putfield 36, 3) := by decide +kernel
theorem dX10_reset_30 : decode cX10_reset 30 = .ok (.aload_n 0, 1) := by decide +kernel
theorem dX10_reset_31 : decode cX10_reset 31 = .ok (.iconst (-1), 1) := by decide +kernel
theorem dX10_reset_32 : decode cX10_reset 32 = .ok (.putfield 39, 3) := by decide +kernel
theorem dX10_reset_35 : decode cX10_reset 35 = .ok (.aload_n 0, 1) := by decide +kernel
theorem dX10_reset_36 : decode cX10_reset 36 = .ok (.iconst 0, 1) := by decide +kernel
theorem dX10_reset_37 : decode cX10_reset 37 = .ok (.putfield 42, 3) := by decide +kernel
theorem dX10_reset_40 : decode cX10_reset 40 = .ok (.return_, 1) := by decide +kernel
def wm_X10_reset (S : q_S) (a0 : Nat) (z1 : Int64) (Q : Option Value → q_S → Prop) : Prop := q_K S a0 = 11 ∧ (∀ S2_ : q_S, S2_ = (qs_I (qs_I (qs_J S 2000 a0 z1) 2002 a0 (0 : Int32)) 2003 a0 (0 : Int32)) → (∀ S3_ : q_S, S3_ = (qs_I (qs_I (qs_I S2_ 2004 a0 (0 : Int32)) 2006 a0 (0 : Int32)) 2007 a0 (0 : Int32)) → (Q none (qs_I (qs_I S3_ 2008 a0 (-1 : Int32)) 2001 a0 (0 : Int32)))))
set_option maxHeartbeats 4000000 in
set_option maxRecDepth 100000 in
theorem cm_X10_reset {l : Launch} {D : va_G} {cy : Nat → ClassId} {lo : Nat} {S : q_S} {a0 : Nat} {z1 : Int64} {Q : Option Value → q_S → Prop} (h : wm_X10_reset S a0 z1 Q) : q_Met l D cy lo yX10_reset cX10_reset 3 none 0 0 0 0 [.ref a0, .long z1] S Q := by
  refine q_body (by decide) (by first | exact Nat.le_of_ble_eq_true rfl | simp [lg_sl, q_cat, q_catI, q_catJ, q_catR]) ?_
  intro p e s m below meth c ls X hnm Y hl
  have hx := X.1
  have hb := X.2.1
  have hl : lv_has ls 3 [(0, .ref a0), (1, .long z1)] := by first | exact hl | simpa [lv_args, q_cat, q_catI, q_catJ, q_catR] using hl
  generalize hargs : ([.ref a0, .long z1] : List Value).toArray = args at X ⊢
  unfold wm_X10_reset at h
  refine lv_aload_n hx hb dX10_reset_0 rfl (lv_at hl 0 rfl) ?_
  refine lv_lload_n hx hb dX10_reset_1 rfl (lv_at hl 1 rfl) ?_
  obtain ⟨k1_, h⟩ := h
  refine q_putJ X Y kX10 0 rfl fl_X10_18 k1_ rfl rfl dX10_reset_2 (fun H locs Y => ?_)
  refine lv_aload_n hx hb dX10_reset_5 rfl (lv_at hl 0 rfl) ?_
  refine lv_iconst (v := 0) hx hb dX10_reset_6 (by decide) ?_
  refine q_putI X Y kX10 2 rfl fl_X10_22 k1_ .int rfl ⟨rfl, rfl⟩ rfl dX10_reset_7 (fun H locs Y => ?_)
  refine lv_aload_n hx hb dX10_reset_10 rfl (lv_at hl 0 rfl) ?_
  refine lv_iconst (v := 0) hx hb dX10_reset_11 (by decide) ?_
  refine q_putI X Y kX10 3 rfl fl_X10_26 k1_ .int rfl ⟨rfl, rfl⟩ rfl dX10_reset_12 (fun H locs Y => ?_)
  obtain ⟨S2_, gS2_⟩ : ∃ z : q_S, z = (qs_I (qs_I (qs_J S 2000 a0 z1) 2002 a0 (0 : Int32)) 2003 a0 (0 : Int32)) := ⟨_, rfl⟩
  replace Y : q_Y D cy lo s S2_ H locs := by rw [gS2_]; exact Y
  replace h := h S2_ gS2_
  replace k1_ : q_K S2_ a0 = 11 := by rw [gS2_]; exact k1_
  refine lv_aload_n hx hb dX10_reset_15 rfl (lv_at hl 0 rfl) ?_
  refine lv_iconst (v := 0) hx hb dX10_reset_16 (by decide) ?_
  refine q_putI X Y kX10 4 rfl fl_X10_29 k1_ .boolean rfl ⟨rfl, rfl⟩ rfl dX10_reset_17 (fun H locs Y => ?_)
  refine lv_aload_n hx hb dX10_reset_20 rfl (lv_at hl 0 rfl) ?_
  refine lv_iconst (v := 0) hx hb dX10_reset_21 (by decide) ?_
  refine q_putI X Y kX10 6 rfl fl_X10_33 k1_ .boolean rfl ⟨rfl, rfl⟩ rfl dX10_reset_22 (fun H locs Y => ?_)
  refine lv_aload_n hx hb dX10_reset_25 rfl (lv_at hl 0 rfl) ?_
  refine lv_iconst (v := 0) hx hb dX10_reset_26 (by decide) ?_
  refine q_putI X Y kX10 7 rfl fl_X10_36 k1_ .boolean rfl ⟨rfl, rfl⟩ rfl dX10_reset_27 (fun H locs Y => ?_)
  obtain ⟨S3_, gS3_⟩ : ∃ z : q_S, z = (qs_I (qs_I (qs_I S2_ 2004 a0 (0 : Int32)) 2006 a0 (0 : Int32)) 2007 a0 (0 : Int32)) := ⟨_, rfl⟩
  replace Y : q_Y D cy lo s S3_ H locs := by rw [gS3_]; exact Y
  replace h := h S3_ gS3_
  replace k1_ : q_K S3_ a0 = 11 := by rw [gS3_]; exact k1_
  refine lv_aload_n hx hb dX10_reset_30 rfl (lv_at hl 0 rfl) ?_
  refine lv_iconst (v := (-1)) hx hb dX10_reset_31 (by decide) ?_
  refine q_putI X Y kX10 8 rfl fl_X10_39 k1_ .int rfl ⟨rfl, rfl⟩ rfl dX10_reset_32 (fun H locs Y => ?_)
  refine lv_aload_n hx hb dX10_reset_35 rfl (lv_at hl 0 rfl) ?_
  refine lv_iconst (v := 0) hx hb dX10_reset_36 (by decide) ?_
  refine q_putI X Y kX10 1 rfl fl_X10_42 k1_ .int rfl ⟨rfl, rfl⟩ rfl dX10_reset_37 (fun H locs Y => ?_)
  exact q_vret X Y (Nat.le_refl _) (Nat.le_refl _) h dX10_reset_40
-- X5_addThing
theorem ml_X5_89 : Cond.methodLink RX5 89 yX10_reset ∈ q_G := q_tb (i := 1049) (by decide +kernel) (by decide +kernel)
theorem mt_X10_reset : q_Mt yX10_reset cX10_reset 3 none 1 := ⟨q_tb (i := 1052) (by decide +kernel) (by decide +kernel), q_tb (i := 23) (by decide +kernel) (by decide +kernel), by decide +kernel, by decide +kernel, by decide +kernel⟩
theorem mi_X10_reset : Cond.instanceMethod yX10_reset ∈ q_G ∧ Cond.selects yX10_reset.cls yX10_reset yX10_reset ∈ q_G := ⟨q_tb (i := 1050) (by decide +kernel) (by decide +kernel), q_tb (i := 1051) (by decide +kernel) (by decide +kernel)⟩
theorem ml_X5_86 : Cond.methodLink RX5 86 yX10_init ∈ q_G := q_tb (i := 973) (by decide +kernel) (by decide +kernel)
theorem mt_X10_init : q_Mt yX10_init cX10_init 2 none 1 := ⟨q_tb (i := 975) (by decide +kernel) (by decide +kernel), q_tb (i := 23) (by decide +kernel) (by decide +kernel), by decide +kernel, by decide +kernel, by decide +kernel⟩
theorem mj_X10_init : Cond.instanceMethod yX10_init ∈ q_G := q_tb (i := 974) (by decide +kernel) (by decide +kernel)
theorem ib_X10 : Cond.instantiable RX10 10 ∈ q_G := q_tb (i := 972) (by decide +kernel) (by decide +kernel)
theorem in_X10 : Cond.initialized RX10 ∈ q_G := q_tb (i := 23) (by decide +kernel) (by decide +kernel)
theorem dv_X10 : ∀ k, k < 10 → defaultValue (tyX10 k) = vp_V ((q_F 10).map (fun q => q_dv q.1)) k := by decide +kernel
theorem dX5_addThing_0 : decode cX5_addThing 0 = .ok (.iload_n 1, 1) := by decide +kernel
theorem dX5_addThing_1 : decode cX5_addThing 1 = .ok (.bipush 8, 2) := by decide +kernel
theorem dX5_addThing_3 : decode cX5_addThing 3 = .ok (.imul, 1) := by decide +kernel
theorem dX5_addThing_4 : decode cX5_addThing 4 = .ok (.aload_n 0, 1) := by decide +kernel
theorem dX5_addThing_5 : decode cX5_addThing 5 = .ok (.getfield 30, 3) := by decide +kernel
theorem dX5_addThing_8 : decode cX5_addThing 8 = .ok (.iload_n 1, 1) := by decide +kernel
theorem dX5_addThing_9 : decode cX5_addThing 9 = .ok (.iaload, 1) := by decide +kernel
theorem dX5_addThing_10 : decode cX5_addThing 10 = .ok (.iadd, 1) := by decide +kernel
theorem dX5_addThing_11 : decode cX5_addThing 11 = .ok (.istore 4, 2) := by decide +kernel
theorem dX5_addThing_13 : decode cX5_addThing 13 = .ok (.aload_n 0, 1) := by decide +kernel
theorem dX5_addThing_14 : decode cX5_addThing 14 = .ok (.getfield 26, 3) := by decide +kernel
theorem dX5_addThing_17 : decode cX5_addThing 17 = .ok (.iload 4, 2) := by decide +kernel
theorem dX5_addThing_19 : decode cX5_addThing 19 = .ok (.aaload, 1) := by decide +kernel
theorem dX5_addThing_20 : decode cX5_addThing 20 = .ok (.astore 5, 2) := by decide +kernel
theorem dX5_addThing_22 : decode cX5_addThing 22 = .ok (.aload 5, 2) := by decide +kernel
theorem dX5_addThing_24 : decode cX5_addThing 24 = .ok (.ifnonnull 31, 3) := by decide +kernel
theorem dX5_addThing_27 : decode cX5_addThing 27 = .ok (.new 24, 3) := by decide +kernel
theorem dX5_addThing_30 : decode cX5_addThing 30 = .ok (.dup, 1) := by decide +kernel
theorem dX5_addThing_31 : decode cX5_addThing 31 = .ok (.iload_n 1, 1) := by decide +kernel
theorem dX5_addThing_32 : decode cX5_addThing 32 = .ok (.iconst 2, 1) := by decide +kernel
theorem dX5_addThing_33 : decode cX5_addThing 33 = .ok (.if_icmp .ne 7, 3) := by decide +kernel
theorem dX5_addThing_36 : decode cX5_addThing 36 = .ok (.iconst 1, 1) := by decide +kernel
theorem dX5_addThing_37 : decode cX5_addThing 37 = .ok (.goto 4, 3) := by decide +kernel
theorem dX5_addThing_40 : decode cX5_addThing 40 = .ok (.iconst 0, 1) := by decide +kernel
theorem dX5_addThing_41 : decode cX5_addThing 41 = .ok (.invokespecial 86, 3) := by decide +kernel
theorem dX5_addThing_44 : decode cX5_addThing 44 = .ok (.astore 5, 2) := by decide +kernel
theorem dX5_addThing_46 : decode cX5_addThing 46 = .ok (.aload_n 0, 1) := by decide +kernel
theorem dX5_addThing_47 : decode cX5_addThing 47 = .ok (.getfield 26, 3) := by decide +kernel
theorem dX5_addThing_50 : decode cX5_addThing 50 = .ok (.iload 4, 2) := by decide +kernel
theorem dX5_addThing_52 : decode cX5_addThing 52 = .ok (.aload 5, 2) := by decide +kernel
theorem dX5_addThing_54 : decode cX5_addThing 54 = .ok (.aastore, 1) := by decide +kernel
theorem dX5_addThing_55 : decode cX5_addThing 55 = .ok (.aload 5, 2) := by decide +kernel
theorem dX5_addThing_57 : decode cX5_addThing 57 = .ok (.lload_n 2, 1) := by decide +kernel
theorem dX5_addThing_58 : decode cX5_addThing 58 = .ok (.invokevirtual 89, 3) := by decide +kernel
theorem dX5_addThing_61 : decode cX5_addThing 61 = .ok (.aload_n 0, 1) := by decide +kernel
theorem dX5_addThing_62 : decode cX5_addThing 62 = .ok (.getfield 30, 3) := by decide +kernel
theorem dX5_addThing_65 : decode cX5_addThing 65 = .ok (.iload_n 1, 1) := by decide +kernel
theorem dX5_addThing_66 : decode cX5_addThing 66 = .ok (.dup2, 1) := by decide +kernel
theorem dX5_addThing_67 : decode cX5_addThing 67 = .ok (.iaload, 1) := by decide +kernel
theorem dX5_addThing_68 : decode cX5_addThing 68 = .ok (.iconst 1, 1) := by decide +kernel
theorem dX5_addThing_69 : decode cX5_addThing 69 = .ok (.iadd, 1) := by decide +kernel
theorem dX5_addThing_70 : decode cX5_addThing 70 = .ok (.iastore, 1) := by decide +kernel
theorem dX5_addThing_71 : decode cX5_addThing 71 = .ok (.aload 5, 2) := by decide +kernel
theorem dX5_addThing_73 : decode cX5_addThing 73 = .ok (.areturn, 1) := by decide +kernel
def wb_X5_addThing_55 (bc bs : Nat)  (u v : Nat) (S : q_S) (a0 : Nat) (x1 : Int32) (z2 : Int64) (r5 : Option Nat) (Q : Option Value → q_S → Prop) : Prop := ∃ a1_ : Nat, r5 = some a1_ ∧ (q_K S a1_ = 11 ∧ (wm_X10_reset S a1_ z2 (fun r4_ S5_ => r4_ = none ∧ (q_K S5_ a0 = 6 ∧ (∃ a7_ : Nat, (q_P S5_ 1006 a0) = some a7_ ∧ (q_K S5_ a7_ = 21 ∧ (vp_in x1 (q_N S5_ a7_) ∧ (vp_in x1 (q_N S5_ a7_) ∧ (Q (some (va_rf r5)) (qs_A S5_ a7_ x1.toNatClampNeg ((q_A S5_ a7_ x1.toNatClampNeg) + (1 : Int32))))))))))))
set_option maxHeartbeats 4000000 in
set_option maxRecDepth 100000 in
theorem cb_X5_addThing_55 {p : Program} {l : Launch} {e : Env} {s : State} {m : MethodId} {args : Array Value} {below : List Frame} {meth : Method} {c : Code} {D : va_G} {cy : Nat → ClassId} {lo : Nat} {bc bs : Nat}  {u v : Nat} {S : q_S} {a0 : Nat} {x1 : Int32} {z2 : Int64} {r5 : Option Nat} {Q : Option Value → q_S → Prop} {H : Heap} {locs : List Loc} {ls : Array Slot} (X : q_X p s m args meth c RX5 cX5_addThing 6 (some (.object "PartitionWorks$Thing")) D cy lo)  (hu : u ≤ bc ∧ v ≤ bs) (Y : q_Y D cy lo s S H locs) (hl : lv_has ls 6 [(0, .ref a0), (1, .int x1), (2, .long z2), (5, va_rf r5)]) (h : wb_X5_addThing_55 bc bs u v S a0 x1 z2 r5 Q) : W p l e ({ frames := 3, cells := bc, slots := bs, locals := 61 } : Room) s m args below meth c H locs u v (MQ below (q_Q D cy lo Q) args s bc bs (fun q => lo ≤ q)) (F0 m 55 ls []) := by
  have hx := X.1
  have hb := X.2.1
  unfold wb_X5_addThing_55 at h
  refine q_aload hx hb dX5_addThing_55 (lv_at hl 3 rfl) ?_
  refine lv_lload_n hx hb dX5_addThing_57 rfl (lv_at hl 2 rfl) ?_
  obtain ⟨a1_, e2_, h⟩ := h
  refine q_nn [.long z2] e2_ ?_
  obtain ⟨k3_, h⟩ := h
  refine q_callV X Y hl (cm_X10_reset h) mt_X10_reset mi_X10_reset ml_X5_89 (ci := 10) rfl k3_ (by decide) rfl rfl (by first | exact Nat.le_of_ble_eq_true rfl | simp [q_cat, q_catI, q_catJ, q_catR]) ⟨Nat.le_of_ble_eq_true rfl, Nat.le_of_ble_eq_true rfl⟩ hu dX5_addThing_58 (fun r4_ S5_ H locs hp Y => ?_)
  obtain ⟨rfl, h⟩ := hp
  refine W.eq (g2 := F0 m 61 ls []) rfl ?_
  refine lv_aload_n hx hb dX5_addThing_61 rfl (lv_at hl 0 rfl) ?_
  obtain ⟨k6_, h⟩ := h
  refine q_getP X Y kX5 6 rfl fl_X5_30 k6_ rfl dX5_addThing_62 ?_
  refine lv_iload_n hx hb dX5_addThing_65 rfl (lv_at hl 1 rfl) ?_
  refine lv_dup2_11 hx hb dX5_addThing_66 rfl (q_cat _) ?_
  obtain ⟨a7_, e8_, h⟩ := h
  refine q_nn [.int x1] e8_ ?_
  obtain ⟨k9_, h⟩ := h
  obtain ⟨i10_, h⟩ := h
  refine q_ild X Y k9_ i10_ dX5_addThing_67 ?_
  refine lv_iconst (v := 1) hx hb dX5_addThing_68 (by decide) ?_
  refine lv_iadd hx hb dX5_addThing_69 ?_
  refine q_nn [.int ((q_A S5_ a7_ x1.toNatClampNeg) + (1 : Int32)), .int x1] e8_ ?_
  obtain ⟨i11_, h⟩ := h
  refine q_ist X Y k9_ i11_ dX5_addThing_70 (fun H locs Y => ?_)
  refine q_aload hx hb dX5_addThing_71 (lv_at hl 3 rfl) ?_
  exact q_aret X Y (Or.inl ⟨_, rfl⟩) (va_rf_or _) hu.1 hu.2 h dX5_addThing_73
def wb_X5_addThing_41 (bc bs : Nat)  (u v : Nat) (S : q_S) (a0 : Nat) (x1 : Int32) (z2 : Int64) (x4 : Int32) (rs0 : Option Nat) (rs1 : Option Nat) (xs2 : Int32) (Q : Option Value → q_S → Prop) : Prop := ∃ a12_ : Nat, rs1 = some a12_ ∧ (∃ m16_ m17_ : Nat, (u + m16_ ≤ bc ∧ v + m17_ ≤ bs) ∧ (wm_X10_init m16_ m17_ S a12_ xs2 (fun r14_ S15_ => r14_ = none ∧ (q_K S15_ a0 = 6 ∧ (∃ a20_ : Nat, (q_P S15_ 1005 a0) = some a20_ ∧ (q_K S15_ a20_ = 27 ∧ (∃ a23_ : Nat, rs0 = some a23_ ∧ (q_K S15_ a23_ = 11 ∧ (vp_in x4 (q_N S15_ a20_) ∧ (wb_X5_addThing_55 bc bs (u + m16_) (v + m17_) (qs_C S15_ a20_ x4.toNatClampNeg (some a23_)) a0 x1 z2 rs0 Q))))))))))
set_option maxHeartbeats 4000000 in
set_option maxRecDepth 100000 in
theorem cb_X5_addThing_41 {p : Program} {l : Launch} {e : Env} {s : State} {m : MethodId} {args : Array Value} {below : List Frame} {meth : Method} {c : Code} {D : va_G} {cy : Nat → ClassId} {lo : Nat} {bc bs : Nat}  {u v : Nat} {S : q_S} {a0 : Nat} {x1 : Int32} {z2 : Int64} {x4 : Int32} {rs0 : Option Nat} {rs1 : Option Nat} {xs2 : Int32} {Q : Option Value → q_S → Prop} {H : Heap} {locs : List Loc} {ls : Array Slot} (X : q_X p s m args meth c RX5 cX5_addThing 6 (some (.object "PartitionWorks$Thing")) D cy lo)  (hu : u ≤ bc ∧ v ≤ bs) (Y : q_Y D cy lo s S H locs) (hl : lv_has ls 6 [(0, .ref a0), (1, .int x1), (2, .long z2), (4, .int x4)]) (h : wb_X5_addThing_41 bc bs u v S a0 x1 z2 x4 rs0 rs1 xs2 Q) : W p l e ({ frames := 3, cells := bc, slots := bs, locals := 61 } : Room) s m args below meth c H locs u v (MQ below (q_Q D cy lo Q) args s bc bs (fun q => lo ≤ q)) (F0 m 41 ls [.int xs2, va_rf rs1, va_rf rs0]) := by
  have hx := X.1
  have hb := X.2.1
  unfold wb_X5_addThing_41 at h
  obtain ⟨a12_, e13_, h⟩ := h
  refine q_nn [.int xs2] e13_ ?_
  obtain ⟨m16_, m17_, w18_, h⟩ := h
  refine q_callI X Y hl (cm_X10_init h) mt_X10_init mj_X10_init rfl ml_X5_86 rfl rfl (by first | exact Nat.le_of_ble_eq_true rfl | simp [q_cat, q_catI, q_catJ, q_catR]) ⟨Nat.le_of_ble_eq_true rfl, Nat.le_of_ble_eq_true rfl⟩ w18_ dX5_addThing_41 (fun r14_ S15_ H locs hp Y => ?_)
  obtain ⟨rfl, h⟩ := hp
  replace hu := w18_
  refine W.eq (g2 := F0 m 44 ls [va_rf rs0]) rfl ?_
  refine q_astore (i := 5) (lv' := [(5, va_rf rs0), (0, .ref a0), (1, .int x1), (2, .long z2), (4, .int x4)]) hx hb dX5_addThing_44 hl (by decide) (by first | rfl | simp [q_cat, q_catI, q_catJ, q_catR]) (fun ls hl => ?_)
  refine lv_aload_n hx hb dX5_addThing_46 rfl (lv_at hl 1 rfl) ?_
  obtain ⟨k19_, h⟩ := h
  refine q_getP X Y kX5 5 rfl fl_X5_26 k19_ rfl dX5_addThing_47 ?_
  refine lv_iload hx hb dX5_addThing_50 (lv_at hl 4 rfl) ?_
  refine q_aload hx hb dX5_addThing_52 (lv_at hl 0 rfl) ?_
  obtain ⟨a20_, e21_, h⟩ := h
  refine q_nn [va_rf rs0, .int x4] e21_ ?_
  obtain ⟨k22_, h⟩ := h
  obtain ⟨a23_, e24_, h⟩ := h
  refine q_nn [] e24_ ?_
  obtain ⟨k25_, h⟩ := h
  obtain ⟨i26_, h⟩ := h
  refine q_cst X Y k22_ (by decide) (t := 7) (r := (RX10, TX10, 10)) rfl i26_ k25_ (by decide) rfl dX5_addThing_54 (fun H locs Y => ?_)
  exact cb_X5_addThing_55 X hu Y (lv_sub hl [1, 2, 3, 0] rfl) h
def wm_X5_addThing (bc bs : Nat) (S : q_S) (a0 : Nat) (x1 : Int32) (z2 : Int64) (Q : Option Value → q_S → Prop) : Prop := q_K S a0 = 6 ∧ (∃ a28_ : Nat, (q_P S 1006 a0) = some a28_ ∧ (q_K S a28_ = 21 ∧ (vp_in x1 (q_N S a28_) ∧ (∃ a32_ : Nat, (q_P S 1005 a0) = some a32_ ∧ (q_K S a32_ = 27 ∧ (vp_in ((x1 * (8 : Int32)) + (q_A S a28_ x1.toNatClampNeg)) (q_N S a32_) ∧ (((¬ (q_C S a32_ ((x1 * (8 : Int32)) + (q_A S a28_ x1.toNatClampNeg)).toNatClampNeg) = none → (wb_X5_addThing_55 bc bs 0 0 S a0 x1 z2 (q_C S a32_ ((x1 * (8 : Int32)) + (q_A S a28_ x1.toNatClampNeg)).toNatClampNeg) Q)) ∧ ((q_C S a32_ ((x1 * (8 : Int32)) + (q_A S a28_ x1.toNatClampNeg)).toNatClampNeg) = none → ((0 + 1 ≤ bc ∧ 0 + 10 ≤ bs) ∧ (∀ b37_ : Nat, q_K S b37_ = 0 → (((¬ x1 = (2 : Int32) → (wb_X5_addThing_41 bc bs (0 + 1) (0 + 10) (qs_O S 10 b37_) a0 x1 z2 ((x1 * (8 : Int32)) + (q_A S a28_ x1.toNatClampNeg)) (some b37_) (some b37_) (0 : Int32) Q)) ∧ (x1 = (2 : Int32) → (wb_X5_addThing_41 bc bs (0 + 1) (0 + 10) (qs_O S 10 b37_) a0 x1 z2 ((x1 * (8 : Int32)) + (q_A S a28_ x1.toNatClampNeg)) (some b37_) (some b37_) (1 : Int32) Q)))))))))))))))
set_option maxHeartbeats 4000000 in
set_option maxRecDepth 100000 in
theorem cm_X5_addThing {l : Launch} {D : va_G} {cy : Nat → ClassId} {lo : Nat} {bc bs : Nat} {S : q_S} {a0 : Nat} {x1 : Int32} {z2 : Int64} {Q : Option Value → q_S → Prop} (h : wm_X5_addThing bc bs S a0 x1 z2 Q) : q_Met l D cy lo yX5_addThing cX5_addThing 6 (some (.object "PartitionWorks$Thing")) 3 61 bc bs [.ref a0, .int x1, .long z2] S Q := by
  refine q_body (by decide) (by first | exact Nat.le_of_ble_eq_true rfl | simp [lg_sl, q_cat, q_catI, q_catJ, q_catR]) ?_
  intro p e s m below meth c ls X hnm Y hl
  have hx := X.1
  have hb := X.2.1
  have hl : lv_has ls 6 [(0, .ref a0), (1, .int x1), (2, .long z2)] := by first | exact hl | simpa [lv_args, q_cat, q_catI, q_catJ, q_catR] using hl
  generalize hargs : ([.ref a0, .int x1, .long z2] : List Value).toArray = args at X ⊢
  have hu : 0 ≤ bc ∧ 0 ≤ bs := ⟨Nat.zero_le _, Nat.zero_le _⟩
  unfold wm_X5_addThing at h
  refine lv_iload_n hx hb dX5_addThing_0 rfl (lv_at hl 1 rfl) ?_
  refine lv_bipush (v := 8) hx hb dX5_addThing_1 (by decide) ?_
  refine lv_imul hx hb dX5_addThing_3 ?_
  refine lv_aload_n hx hb dX5_addThing_4 rfl (lv_at hl 0 rfl) ?_
  obtain ⟨k27_, h⟩ := h
  refine q_getP X Y kX5 6 rfl fl_X5_30 k27_ rfl dX5_addThing_5 ?_
  refine lv_iload_n hx hb dX5_addThing_8 rfl (lv_at hl 1 rfl) ?_
  obtain ⟨a28_, e29_, h⟩ := h
  refine q_nn [.int x1] e29_ ?_
  obtain ⟨k30_, h⟩ := h
  obtain ⟨i31_, h⟩ := h
  refine q_ild X Y k30_ i31_ dX5_addThing_9 ?_
  refine lv_iadd hx hb dX5_addThing_10 ?_
  refine lv_istore (i := 4) (lv' := [(4, .int ((x1 * (8 : Int32)) + (q_A S a28_ x1.toNatClampNeg))), (0, .ref a0), (1, .int x1), (2, .long z2)]) hx hb dX5_addThing_11 hl (by decide) (by first | rfl | simp [q_cat, q_catI, q_catJ, q_catR]) (fun ls hl => ?_)
  refine lv_aload_n hx hb dX5_addThing_13 rfl (lv_at hl 1 rfl) ?_
  refine q_getP X Y kX5 5 rfl fl_X5_26 k27_ rfl dX5_addThing_14 ?_
  refine lv_iload hx hb dX5_addThing_17 (lv_at hl 0 rfl) ?_
  obtain ⟨a32_, e33_, h⟩ := h
  refine q_nn [.int ((x1 * (8 : Int32)) + (q_A S a28_ x1.toNatClampNeg))] e33_ ?_
  obtain ⟨k34_, h⟩ := h
  obtain ⟨i35_, h⟩ := h
  refine q_cld X Y k34_ (by decide) (t := 7) rfl i35_ rfl dX5_addThing_19 ?_
  refine q_astore (i := 5) (lv' := [(5, va_rf (q_C S a32_ ((x1 * (8 : Int32)) + (q_A S a28_ x1.toNatClampNeg)).toNatClampNeg)), (4, .int ((x1 * (8 : Int32)) + (q_A S a28_ x1.toNatClampNeg))), (0, .ref a0), (1, .int x1), (2, .long z2)]) hx hb dX5_addThing_20 hl (by decide) (by first | rfl | simp [q_cat, q_catI, q_catJ, q_catR]) (fun ls hl => ?_)
  refine q_aload hx hb dX5_addThing_22 (lv_at hl 0 rfl) ?_
  refine q_ifnonnull (r := (q_C S a32_ ((x1 * (8 : Int32)) + (q_A S a28_ x1.toNatClampNeg)).toNatClampNeg)) (tgt := 55) hx hb dX5_addThing_24 (by decide) (fun c36_ => ?_) (fun c36_ => ?_)
  · replace h := h.1 c36_
    exact cb_X5_addThing_55 X hu Y (lv_sub hl [2, 3, 4, 0] rfl) h
  · replace h := h.2 c36_
    obtain ⟨w40_, h⟩ := h
    refine q_new X Y kX10 tyX10 tyX10_ok dv_X10 cl_X5_24 ib_X10 in_X10 w40_ dX5_addThing_27 (fun b37_ H h38_ h39_ Y => ?_)
    replace h := h b37_ h38_
    replace hu := w40_
    replace k27_ := qs_O_keep (ci := 10) h38_ k27_ (by decide)
    replace k30_ := qs_O_keep (ci := 10) h38_ k30_ (by decide)
    replace k34_ := qs_O_keep (ci := 10) h38_ k34_ (by decide)
    have k41_ : q_K (qs_O S 10 b37_) b37_ = 11 := qs_O_Ks
    refine lv_dup hx hb dX5_addThing_30 rfl ?_
    refine lv_iload_n hx hb dX5_addThing_31 rfl (lv_at hl 3 rfl) ?_
    refine lv_iconst (v := 2) hx hb dX5_addThing_32 (by decide) ?_
    refine lv_icmp_ne (tgt := 40) hx hb dX5_addThing_33 (by decide) (fun c42_ => ?_) (fun c42_ => ?_)
    · replace h := h.1 c42_
      refine lv_iconst (v := 0) hx hb dX5_addThing_40 (by decide) ?_
      exact cb_X5_addThing_41 X hu Y (lv_sub hl [2, 3, 4, 1] rfl) h
    · replace h := h.2 c42_
      refine lv_iconst (v := 1) hx hb dX5_addThing_36 (by decide) ?_
      refine lv_goto (tgt := 41) hx hb dX5_addThing_37 (by decide) ?_
      exact cb_X5_addThing_41 X hu Y (lv_sub hl [2, 3, 4, 1] rfl) h
-- X5_knows
theorem ml_X5_92 : Cond.methodLink RX5 92 yX5_named ∈ q_G := q_tb (i := 827) (by decide +kernel) (by decide +kernel)
theorem dX5_knows_0 : decode cX5_knows 0 = .ok (.iconst 0, 1) := by decide +kernel
theorem dX5_knows_1 : decode cX5_knows 1 = .ok (.istore_n 3, 1) := by decide +kernel
theorem dX5_knows_2 : decode cX5_knows 2 = .ok (.iload_n 3, 1) := by decide +kernel
theorem dX5_knows_3 : decode cX5_knows 3 = .ok (.iconst 5, 1) := by decide +kernel
theorem dX5_knows_4 : decode cX5_knows 4 = .ok (.if_icmp .gt 21, 3) := by decide +kernel
theorem dX5_knows_7 : decode cX5_knows 7 = .ok (.aload_n 0, 1) := by decide +kernel
theorem dX5_knows_8 : decode cX5_knows 8 = .ok (.iload_n 3, 1) := by decide +kernel
theorem dX5_knows_9 : decode cX5_knows 9 = .ok (.lload_n 1, 1) := by decide +kernel
theorem dX5_knows_10 : decode cX5_knows 10 = .ok (.invokevirtual 92, 3) := by decide +kernel
theorem dX5_knows_13 : decode cX5_knows 13 = .ok (.iconst (-1), 1) := by decide +kernel
theorem dX5_knows_14 : decode cX5_knows 14 = .ok (.if_icmp .eq 5, 3) := by decide +kernel
theorem dX5_knows_17 : decode cX5_knows 17 = .ok (.iconst 1, 1) := by decide +kernel
theorem dX5_knows_18 : decode cX5_knows 18 = .ok (.ireturn, 1) := by decide +kernel
theorem dX5_knows_19 : decode cX5_knows 19 = .ok (.iinc 3 1, 3) := by decide +kernel
theorem dX5_knows_22 : decode cX5_knows 22 = .ok (.goto (-20), 3) := by decide +kernel
theorem dX5_knows_25 : decode cX5_knows 25 = .ok (.iconst 0, 1) := by decide +kernel
theorem dX5_knows_26 : decode cX5_knows 26 = .ok (.ireturn, 1) := by decide +kernel
def wb_X5_knows_2 (B2 : q_S → Nat → Int64 → Int32 → Prop) (S : q_S) (a0 : Nat) (z1 : Int64) (x3 : Int32) (Q : Option Value → q_S → Prop) : Prop := (((5 : Int32) < x3 → (Q (some (.int (0 : Int32))) S)) ∧ (¬ (5 : Int32) < x3 → (q_K S a0 = 6 ∧ (wm_X5_named S a0 x3 z1 (fun r3_ S4_ => ∃ x5_ : Int32, r3_ = some (.int x5_) ∧ (((x5_ = (-1 : Int32) → (B2 S4_ a0 z1 (x3 + 1))) ∧ (¬ x5_ = (-1 : Int32) → (Q (some (.int (1 : Int32))) S4_)))))))))
set_option maxHeartbeats 4000000 in
set_option maxRecDepth 100000 in
theorem cb_X5_knows_2 {p : Program} {l : Launch} {e : Env} {s : State} {m : MethodId} {args : Array Value} {below : List Frame} {meth : Method} {c : Code} {D : va_G} {cy : Nat → ClassId} {lo : Nat} {B2 : q_S → Nat → Int64 → Int32 → Prop} {S : q_S} {a0 : Nat} {z1 : Int64} {x3 : Int32} {Q : Option Value → q_S → Prop} {H : Heap} {locs : List Loc} {ls : Array Slot} (X : q_X p s m args meth c RX5 cX5_knows 4 (some .boolean) D cy lo) (hB2 : ∀ (S : q_S) (a0 : Nat) (z1 : Int64) (x3 : Int32) (H : Heap) (locs : List Loc) (ls : Array Slot), B2 S a0 z1 x3 → q_Y D cy lo s S H locs → lv_has ls 4 [(0, .ref a0), (1, .long z1), (3, .int x3)] → W p l e ({ frames := 1, cells := 0, slots := 0, locals := 27 } : Room) s m args below meth c H locs 0 0 (MQ below (q_Q D cy lo Q) args s 0 0 (fun q => lo ≤ q)) (F0 m 2 ls [])) (Y : q_Y D cy lo s S H locs) (hl : lv_has ls 4 [(0, .ref a0), (1, .long z1), (3, .int x3)]) (h : wb_X5_knows_2 B2 S a0 z1 x3 Q) : W p l e ({ frames := 1, cells := 0, slots := 0, locals := 27 } : Room) s m args below meth c H locs 0 0 (MQ below (q_Q D cy lo Q) args s 0 0 (fun q => lo ≤ q)) (F0 m 2 ls []) := by
  have hx := X.1
  have hb := X.2.1
  unfold wb_X5_knows_2 at h
  refine lv_iload_n hx hb dX5_knows_2 rfl (lv_at hl 2 rfl) ?_
  refine lv_iconst (v := 5) hx hb dX5_knows_3 (by decide) ?_
  refine lv_icmp_gt (tgt := 25) hx hb dX5_knows_4 (by decide) (fun c1_ => ?_) (fun c1_ => ?_)
  · replace h := h.1 c1_
    refine lv_iconst (v := 0) hx hb dX5_knows_25 (by decide) ?_
    exact q_iret X Y rfl (Nat.le_refl _) (Nat.le_refl _) h dX5_knows_26
  · replace h := h.2 c1_
    refine lv_aload_n hx hb dX5_knows_7 rfl (lv_at hl 0 rfl) ?_
    refine lv_iload_n hx hb dX5_knows_8 rfl (lv_at hl 2 rfl) ?_
    refine lv_lload_n hx hb dX5_knows_9 rfl (lv_at hl 1 rfl) ?_
    obtain ⟨k2_, h⟩ := h
    refine q_callV X Y hl (cm_X5_named h) mt_X5_named mi_X5_named ml_X5_92 (ci := 5) rfl k2_ (by decide) rfl rfl (by first | exact Nat.le_of_ble_eq_true rfl | simp [q_cat, q_catI, q_catJ, q_catR]) ⟨Nat.le_of_ble_eq_true rfl, Nat.le_of_ble_eq_true rfl⟩ ⟨Nat.le_of_ble_eq_true rfl, Nat.le_of_ble_eq_true rfl⟩ dX5_knows_10 (fun r3_ S4_ H locs hp Y => ?_)
    obtain ⟨x5_, rfl, h⟩ := hp
    refine W.eq (g2 := F0 m 13 ls [.int x5_]) rfl ?_
    refine lv_iconst (v := (-1)) hx hb dX5_knows_13 (by decide) ?_
    refine lv_icmp_eq (tgt := 19) hx hb dX5_knows_14 (by decide) (fun c6_ => ?_) (fun c6_ => ?_)
    · replace h := h.1 c6_
      refine lv_iinc (v := (x3 + 1)) (lv' := [(3, .int (x3 + 1)), (0, .ref a0), (1, .long z1)]) hx hb dX5_knows_19 hl (k := 2) rfl (by first | rfl | decide) (by decide) (by first | rfl | simp [q_cat, q_catI, q_catJ, q_catR]) (fun ls hl => ?_)
      refine lv_goto (tgt := 2) hx hb dX5_knows_22 (by decide) ?_
      exact hB2 _ _ _ _ _ _ _ h Y (lv_sub hl [1, 2, 0] rfl)
    · replace h := h.2 c6_
      refine lv_iconst (v := 1) hx hb dX5_knows_17 (by decide) ?_
      exact q_iret X Y rfl (Nat.le_refl _) (Nat.le_refl _) h dX5_knows_18
def wl_X5_knows_2  : Nat → q_S → Nat → Int64 → Int32 → (Option Value → q_S → Prop) → Prop
  | 0, _, _, _, _, _ => False
  | n + 1, S, a0, z1, x3, Q => wb_X5_knows_2 (fun S a0 z1 x3 => wl_X5_knows_2 n S a0 z1 x3 Q) S a0 z1 x3 Q
set_option maxHeartbeats 4000000 in
set_option maxRecDepth 100000 in
theorem cl_X5_knows_2 {p : Program} {l : Launch} {e : Env} {s : State} {m : MethodId} {args : Array Value} {below : List Frame} {meth : Method} {c : Code} {D : va_G} {cy : Nat → ClassId} {lo : Nat}  {Q : Option Value → q_S → Prop} (X : q_X p s m args meth c RX5 cX5_knows 4 (some .boolean) D cy lo)  : ∀ (n : Nat) (S : q_S) (a0 : Nat) (z1 : Int64) (x3 : Int32) (H : Heap) (locs : List Loc) (ls : Array Slot), wl_X5_knows_2 n S a0 z1 x3 Q → q_Y D cy lo s S H locs → lv_has ls 4 [(0, .ref a0), (1, .long z1), (3, .int x3)] → W p l e ({ frames := 1, cells := 0, slots := 0, locals := 27 } : Room) s m args below meth c H locs 0 0 (MQ below (q_Q D cy lo Q) args s 0 0 (fun q => lo ≤ q)) (F0 m 2 ls []) := by
  intro n
  induction n with
  | zero => intro S a0 z1 x3 H locs ls h; exact absurd h id
  | succ n ih => intro S a0 z1 x3 H locs ls h Y hl; exact cb_X5_knows_2 X ih Y hl h
def wm_X5_knows (S : q_S) (a0 : Nat) (z1 : Int64) (Q : Option Value → q_S → Prop) : Prop := ∃ n7_ : Nat, wl_X5_knows_2 n7_ S a0 z1 (0 : Int32) Q
set_option maxHeartbeats 4000000 in
set_option maxRecDepth 100000 in
theorem cm_X5_knows {l : Launch} {D : va_G} {cy : Nat → ClassId} {lo : Nat} {S : q_S} {a0 : Nat} {z1 : Int64} {Q : Option Value → q_S → Prop} (h : wm_X5_knows S a0 z1 Q) : q_Met l D cy lo yX5_knows cX5_knows 4 (some .boolean) 1 27 0 0 [.ref a0, .long z1] S Q := by
  refine q_body (by decide) (by first | exact Nat.le_of_ble_eq_true rfl | simp [lg_sl, q_cat, q_catI, q_catJ, q_catR]) ?_
  intro p e s m below meth c ls X hnm Y hl
  have hx := X.1
  have hb := X.2.1
  have hl : lv_has ls 4 [(0, .ref a0), (1, .long z1)] := by first | exact hl | simpa [lv_args, q_cat, q_catI, q_catJ, q_catR] using hl
  generalize hargs : ([.ref a0, .long z1] : List Value).toArray = args at X ⊢
  unfold wm_X5_knows at h
  refine lv_iconst (v := 0) hx hb dX5_knows_0 (by decide) ?_
  refine lv_istore_n (i := 3) (lv' := [(3, .int (0 : Int32)), (0, .ref a0), (1, .long z1)]) hx hb dX5_knows_1 rfl hl (by decide) (by first | rfl | simp [q_cat, q_catI, q_catJ, q_catR]) (fun ls hl => ?_)
  obtain ⟨n7_, h⟩ := h
  exact cl_X5_knows_2 X n7_ _ _ _ _ _ _ _ h Y (lv_sub hl [1, 2, 0] rfl)
-- X5_setAction
theorem dX5_setAction_0 : decode cX5_setAction 0 = .ok (.iload_n 1, 1) := by decide +kernel
theorem dX5_setAction_1 : decode cX5_setAction 1 = .ok (.ifCond .lt 15, 3) := by decide +kernel
theorem dX5_setAction_4 : decode cX5_setAction 4 = .ok (.iload_n 1, 1) := by decide +kernel
theorem dX5_setAction_5 : decode cX5_setAction 5 = .ok (.iconst 5, 1) := by decide +kernel
theorem dX5_setAction_6 : decode cX5_setAction 6 = .ok (.if_icmp .ge 10, 3) := by decide +kernel
theorem dX5_setAction_9 : decode cX5_setAction 9 = .ok (.aload_n 0, 1) := by decide +kernel
theorem dX5_setAction_10 : decode cX5_setAction 10 = .ok (.getfield 34, 3) := by decide +kernel
theorem dX5_setAction_13 : decode cX5_setAction 13 = .ok (.iload_n 1, 1) := by decide +kernel
theorem dX5_setAction_14 : decode cX5_setAction 14 = .ok (.iload_n 2, 1) := by decide +kernel
theorem dX5_setAction_15 : decode cX5_setAction 15 = .ok (.iastore, 1) := by decide +kernel
theorem dX5_setAction_16 : decode cX5_setAction 16 = .ok (.return_, 1) := by decide +kernel
def wb_X5_setAction_16  (S : q_S) (Q : Option Value → q_S → Prop) : Prop := Q none S
set_option maxHeartbeats 4000000 in
set_option maxRecDepth 100000 in
theorem cb_X5_setAction_16 {p : Program} {l : Launch} {e : Env} {s : State} {m : MethodId} {args : Array Value} {below : List Frame} {meth : Method} {c : Code} {D : va_G} {cy : Nat → ClassId} {lo : Nat}  {S : q_S} {Q : Option Value → q_S → Prop} {H : Heap} {locs : List Loc} {ls : Array Slot} (X : q_X p s m args meth c RX5 cX5_setAction 3 none D cy lo)  (Y : q_Y D cy lo s S H locs) (hl : lv_has ls 3 []) (h : wb_X5_setAction_16 S Q) : W p l e ({ frames := 0, cells := 0, slots := 0, locals := 0 } : Room) s m args below meth c H locs 0 0 (MQ below (q_Q D cy lo Q) args s 0 0 (fun q => lo ≤ q)) (F0 m 16 ls []) := by
  have hx := X.1
  have hb := X.2.1
  unfold wb_X5_setAction_16 at h
  exact q_vret X Y (Nat.le_refl _) (Nat.le_refl _) h dX5_setAction_16
def wm_X5_setAction (S : q_S) (a0 : Nat) (x1 : Int32) (x2 : Int32) (Q : Option Value → q_S → Prop) : Prop := ((x1 < 0 → (wb_X5_setAction_16 S Q)) ∧ (¬ x1 < 0 → ((((5 : Int32) ≤ x1 → (wb_X5_setAction_16 S Q)) ∧ (¬ (5 : Int32) ≤ x1 → (q_K S a0 = 6 ∧ (∃ a4_ : Nat, (q_P S 1007 a0) = some a4_ ∧ (q_K S a4_ = 21 ∧ (vp_in x1 (q_N S a4_) ∧ (wb_X5_setAction_16 (qs_A S a4_ x1.toNatClampNeg x2) Q))))))))))
set_option maxHeartbeats 4000000 in
set_option maxRecDepth 100000 in
theorem cm_X5_setAction {l : Launch} {D : va_G} {cy : Nat → ClassId} {lo : Nat} {S : q_S} {a0 : Nat} {x1 : Int32} {x2 : Int32} {Q : Option Value → q_S → Prop} (h : wm_X5_setAction S a0 x1 x2 Q) : q_Met l D cy lo yX5_setAction cX5_setAction 3 none 0 0 0 0 [.ref a0, .int x1, .int x2] S Q := by
  refine q_body (by decide) (by first | exact Nat.le_of_ble_eq_true rfl | simp [lg_sl, q_cat, q_catI, q_catJ, q_catR]) ?_
  intro p e s m below meth c ls X hnm Y hl
  have hx := X.1
  have hb := X.2.1
  have hl : lv_has ls 3 [(0, .ref a0), (1, .int x1), (2, .int x2)] := by first | exact hl | simpa [lv_args, q_cat, q_catI, q_catJ, q_catR] using hl
  generalize hargs : ([.ref a0, .int x1, .int x2] : List Value).toArray = args at X ⊢
  unfold wm_X5_setAction at h
  refine lv_iload_n hx hb dX5_setAction_0 rfl (lv_at hl 1 rfl) ?_
  refine lv_if_lt (tgt := 16) hx hb dX5_setAction_1 (by decide) (fun c1_ => ?_) (fun c1_ => ?_)
  · replace h := h.1 c1_
    exact cb_X5_setAction_16 X Y (lv_sub hl [] rfl) h
  · replace h := h.2 c1_
    refine lv_iload_n hx hb dX5_setAction_4 rfl (lv_at hl 1 rfl) ?_
    refine lv_iconst (v := 5) hx hb dX5_setAction_5 (by decide) ?_
    refine lv_icmp_ge (tgt := 16) hx hb dX5_setAction_6 (by decide) (fun c2_ => ?_) (fun c2_ => ?_)
    · replace h := h.1 c2_
      exact cb_X5_setAction_16 X Y (lv_sub hl [] rfl) h
    · replace h := h.2 c2_
      refine lv_aload_n hx hb dX5_setAction_9 rfl (lv_at hl 0 rfl) ?_
      obtain ⟨k3_, h⟩ := h
      refine q_getP X Y kX5 7 rfl fl_X5_34 k3_ rfl dX5_setAction_10 ?_
      refine lv_iload_n hx hb dX5_setAction_13 rfl (lv_at hl 1 rfl) ?_
      refine lv_iload_n hx hb dX5_setAction_14 rfl (lv_at hl 2 rfl) ?_
      obtain ⟨a4_, e5_, h⟩ := h
      refine q_nn [.int x2, .int x1] e5_ ?_
      obtain ⟨k6_, h⟩ := h
      obtain ⟨i7_, h⟩ := h
      refine q_ist X Y k6_ i7_ dX5_setAction_15 (fun H locs Y => ?_)
      exact cb_X5_setAction_16 X Y (lv_sub hl [] rfl) h
-- X5_actionFor
theorem dX5_actionFor_0 : decode cX5_actionFor 0 = .ok (.aload_n 1, 1) := by decide +kernel
theorem dX5_actionFor_1 : decode cX5_actionFor 1 = .ok (.getfield 98, 3) := by decide +kernel
theorem dX5_actionFor_4 : decode cX5_actionFor 4 = .ok (.ifCond .eq 5, 3) := by decide +kernel
theorem dX5_actionFor_7 : decode cX5_actionFor 7 = .ok (.iconst 3, 1) := by decide +kernel
theorem dX5_actionFor_8 : decode cX5_actionFor 8 = .ok (.ireturn, 1) := by decide +kernel
theorem dX5_actionFor_9 : decode cX5_actionFor 9 = .ok (.iload_n 2, 1) := by decide +kernel
theorem dX5_actionFor_10 : decode cX5_actionFor 10 = .ok (.ifCond .lt 8, 3) := by decide +kernel
theorem dX5_actionFor_13 : decode cX5_actionFor 13 = .ok (.iload_n 2, 1) := by decide +kernel
theorem dX5_actionFor_14 : decode cX5_actionFor 14 = .ok (.iconst 5, 1) := by decide +kernel
theorem dX5_actionFor_15 : decode cX5_actionFor 15 = .ok (.if_icmp .lt 7, 3) := by decide +kernel
theorem dX5_actionFor_18 : decode cX5_actionFor 18 = .ok (.iconst 0, 1) := by decide +kernel
theorem dX5_actionFor_19 : decode cX5_actionFor 19 = .ok (.goto 9, 3) := by decide +kernel
theorem dX5_actionFor_22 : decode cX5_actionFor 22 = .ok (.aload_n 0, 1) := by decide +kernel
theorem dX5_actionFor_23 : decode cX5_actionFor 23 = .ok (.getfield 34, 3) := by decide +kernel
theorem dX5_actionFor_26 : decode cX5_actionFor 26 = .ok (.iload_n 2, 1) := by decide +kernel
theorem dX5_actionFor_27 : decode cX5_actionFor 27 = .ok (.iaload, 1) := by decide +kernel
theorem dX5_actionFor_28 : decode cX5_actionFor 28 = .ok (.istore_n 3, 1) := by decide +kernel
theorem dX5_actionFor_29 : decode cX5_actionFor 29 = .ok (.aload_n 0, 1) := by decide +kernel
theorem dX5_actionFor_30 : decode cX5_actionFor 30 = .ok (.aload_n 0, 1) := by decide +kernel
theorem dX5_actionFor_31 : decode cX5_actionFor 31 = .ok (.getfield 54, 3) := by decide +kernel
theorem dX5_actionFor_34 : decode cX5_actionFor 34 = .ok (.invokevirtual 101, 3) := by decide +kernel
theorem dX5_actionFor_37 : decode cX5_actionFor 37 = .ok (.astore 4, 2) := by decide +kernel
theorem dX5_actionFor_39 : decode cX5_actionFor 39 = .ok (.iload_n 3, 1) := by decide +kernel
theorem dX5_actionFor_40 : decode cX5_actionFor 40 = .ok (.bipush 6, 2) := by decide +kernel
theorem dX5_actionFor_42 : decode cX5_actionFor 42 = .ok (.if_icmp .ne 20, 3) := by decide +kernel
theorem dX5_actionFor_45 : decode cX5_actionFor 45 = .ok (.aload 4, 2) := by decide +kernel
theorem dX5_actionFor_47 : decode cX5_actionFor 47 = .ok (.ifnull 11, 3) := by decide +kernel
theorem dX5_actionFor_50 : decode cX5_actionFor 50 = .ok (.aload 4, 2) := by decide +kernel
theorem dX5_actionFor_52 : decode cX5_actionFor 52 = .ok (.getfield 105, 3) := by decide +kernel
theorem dX5_actionFor_55 : decode cX5_actionFor 55 = .ok (.ifCond .eq 7, 3) := by decide +kernel
theorem dX5_actionFor_58 : decode cX5_actionFor 58 = .ok (.iconst 0, 1) := by decide +kernel
theorem dX5_actionFor_59 : decode cX5_actionFor 59 = .ok (.goto 4, 3) := by decide +kernel
theorem dX5_actionFor_62 : decode cX5_actionFor 62 = .ok (.iload_n 3, 1) := by decide +kernel
theorem dX5_actionFor_63 : decode cX5_actionFor 63 = .ok (.ireturn, 1) := by decide +kernel
def wb_X5_actionFor_63  (S : q_S) (xs0 : Int32) (Q : Option Value → q_S → Prop) : Prop := Q (some (.int xs0)) S
set_option maxHeartbeats 4000000 in
set_option maxRecDepth 100000 in
theorem cb_X5_actionFor_63 {p : Program} {l : Launch} {e : Env} {s : State} {m : MethodId} {args : Array Value} {below : List Frame} {meth : Method} {c : Code} {D : va_G} {cy : Nat → ClassId} {lo : Nat}  {S : q_S} {xs0 : Int32} {Q : Option Value → q_S → Prop} {H : Heap} {locs : List Loc} {ls : Array Slot} (X : q_X p s m args meth c RX5 cX5_actionFor 5 (some .int) D cy lo)  (Y : q_Y D cy lo s S H locs) (hl : lv_has ls 5 []) (h : wb_X5_actionFor_63 S xs0 Q) : W p l e ({ frames := 1, cells := 0, slots := 0, locals := 21 } : Room) s m args below meth c H locs 0 0 (MQ below (q_Q D cy lo Q) args s 0 0 (fun q => lo ≤ q)) (F0 m 63 ls [.int xs0]) := by
  have hx := X.1
  have hb := X.2.1
  unfold wb_X5_actionFor_63 at h
  exact q_iret X Y rfl (Nat.le_refl _) (Nat.le_refl _) h dX5_actionFor_63
def wb_X5_actionFor_58  (S : q_S) (Q : Option Value → q_S → Prop) : Prop := wb_X5_actionFor_63 S (0 : Int32) Q
set_option maxHeartbeats 4000000 in
set_option maxRecDepth 100000 in
theorem cb_X5_actionFor_58 {p : Program} {l : Launch} {e : Env} {s : State} {m : MethodId} {args : Array Value} {below : List Frame} {meth : Method} {c : Code} {D : va_G} {cy : Nat → ClassId} {lo : Nat}  {S : q_S} {Q : Option Value → q_S → Prop} {H : Heap} {locs : List Loc} {ls : Array Slot} (X : q_X p s m args meth c RX5 cX5_actionFor 5 (some .int) D cy lo)  (Y : q_Y D cy lo s S H locs) (hl : lv_has ls 5 []) (h : wb_X5_actionFor_58 S Q) : W p l e ({ frames := 1, cells := 0, slots := 0, locals := 21 } : Room) s m args below meth c H locs 0 0 (MQ below (q_Q D cy lo Q) args s 0 0 (fun q => lo ≤ q)) (F0 m 58 ls []) := by
  have hx := X.1
  have hb := X.2.1
  unfold wb_X5_actionFor_58 at h
  refine lv_iconst (v := 0) hx hb dX5_actionFor_58 (by decide) ?_
  refine lv_goto (tgt := 63) hx hb dX5_actionFor_59 (by decide) ?_
  exact cb_X5_actionFor_63 X Y (lv_sub hl [] rfl) h
def wb_X5_actionFor_62  (S : q_S) (x3 : Int32) (Q : Option Value → q_S → Prop) : Prop := wb_X5_actionFor_63 S x3 Q
set_option maxHeartbeats 4000000 in
set_option maxRecDepth 100000 in
theorem cb_X5_actionFor_62 {p : Program} {l : Launch} {e : Env} {s : State} {m : MethodId} {args : Array Value} {below : List Frame} {meth : Method} {c : Code} {D : va_G} {cy : Nat → ClassId} {lo : Nat}  {S : q_S} {x3 : Int32} {Q : Option Value → q_S → Prop} {H : Heap} {locs : List Loc} {ls : Array Slot} (X : q_X p s m args meth c RX5 cX5_actionFor 5 (some .int) D cy lo)  (Y : q_Y D cy lo s S H locs) (hl : lv_has ls 5 [(3, .int x3)]) (h : wb_X5_actionFor_62 S x3 Q) : W p l e ({ frames := 1, cells := 0, slots := 0, locals := 21 } : Room) s m args below meth c H locs 0 0 (MQ below (q_Q D cy lo Q) args s 0 0 (fun q => lo ≤ q)) (F0 m 62 ls []) := by
  have hx := X.1
  have hb := X.2.1
  unfold wb_X5_actionFor_62 at h
  refine lv_iload_n hx hb dX5_actionFor_62 rfl (lv_at hl 0 rfl) ?_
  exact cb_X5_actionFor_63 X Y (lv_sub hl [] rfl) h
def wb_X5_actionFor_28  (S : q_S) (a0 : Nat) (xs0 : Int32) (Q : Option Value → q_S → Prop) : Prop := q_K S a0 = 6 ∧ (wm_X5_processAt S a0 (q_I S 1008 a0) (fun r2_ S3_ => ∃ r4_ : Option Nat, r2_ = some (va_rf r4_) ∧ (((¬ xs0 = (6 : Int32) → (wb_X5_actionFor_62 S3_ xs0 Q)) ∧ (xs0 = (6 : Int32) → (((r4_ = none → (wb_X5_actionFor_58 S3_ Q)) ∧ (¬ r4_ = none → (∃ a7_ : Nat, r4_ = some a7_ ∧ (q_K S3_ a7_ = 8 ∧ ((((q_I S3_ 1409 a7_) = 0 → (wb_X5_actionFor_62 S3_ xs0 Q)) ∧ (¬ (q_I S3_ 1409 a7_) = 0 → (wb_X5_actionFor_58 S3_ Q))))))))))))))
set_option maxHeartbeats 4000000 in
set_option maxRecDepth 100000 in
theorem cb_X5_actionFor_28 {p : Program} {l : Launch} {e : Env} {s : State} {m : MethodId} {args : Array Value} {below : List Frame} {meth : Method} {c : Code} {D : va_G} {cy : Nat → ClassId} {lo : Nat}  {S : q_S} {a0 : Nat} {xs0 : Int32} {Q : Option Value → q_S → Prop} {H : Heap} {locs : List Loc} {ls : Array Slot} (X : q_X p s m args meth c RX5 cX5_actionFor 5 (some .int) D cy lo)  (Y : q_Y D cy lo s S H locs) (hl : lv_has ls 5 [(0, .ref a0)]) (h : wb_X5_actionFor_28 S a0 xs0 Q) : W p l e ({ frames := 1, cells := 0, slots := 0, locals := 21 } : Room) s m args below meth c H locs 0 0 (MQ below (q_Q D cy lo Q) args s 0 0 (fun q => lo ≤ q)) (F0 m 28 ls [.int xs0]) := by
  have hx := X.1
  have hb := X.2.1
  unfold wb_X5_actionFor_28 at h
  refine lv_istore_n (i := 3) (lv' := [(3, .int xs0), (0, .ref a0)]) hx hb dX5_actionFor_28 rfl hl (by decide) (by first | rfl | simp [q_cat, q_catI, q_catJ, q_catR]) (fun ls hl => ?_)
  refine lv_aload_n hx hb dX5_actionFor_29 rfl (lv_at hl 1 rfl) ?_
  refine lv_aload_n hx hb dX5_actionFor_30 rfl (lv_at hl 1 rfl) ?_
  obtain ⟨k1_, h⟩ := h
  refine q_getI X Y kX5 8 rfl fl_X5_54 k1_ dX5_actionFor_31 ?_
  refine q_callV X Y hl (cm_X5_processAt h) mt_X5_processAt mi_X5_processAt ml_X5_101 (ci := 5) rfl k1_ (by decide) rfl rfl (by first | exact Nat.le_of_ble_eq_true rfl | simp [q_cat, q_catI, q_catJ, q_catR]) ⟨Nat.le_of_ble_eq_true rfl, Nat.le_of_ble_eq_true rfl⟩ ⟨Nat.le_of_ble_eq_true rfl, Nat.le_of_ble_eq_true rfl⟩ dX5_actionFor_34 (fun r2_ S3_ H locs hp Y => ?_)
  obtain ⟨r4_, rfl, h⟩ := hp
  refine W.eq (g2 := F0 m 37 ls [va_rf r4_]) rfl ?_
  refine q_astore (i := 4) (lv' := [(4, va_rf r4_), (3, .int xs0), (0, .ref a0)]) hx hb dX5_actionFor_37 hl (by decide) (by first | rfl | simp [q_cat, q_catI, q_catJ, q_catR]) (fun ls hl => ?_)
  refine lv_iload_n hx hb dX5_actionFor_39 rfl (lv_at hl 1 rfl) ?_
  refine lv_bipush (v := 6) hx hb dX5_actionFor_40 (by decide) ?_
  refine lv_icmp_ne (tgt := 62) hx hb dX5_actionFor_42 (by decide) (fun c5_ => ?_) (fun c5_ => ?_)
  · replace h := h.1 c5_
    exact cb_X5_actionFor_62 X Y (lv_sub hl [1] rfl) h
  · replace h := h.2 c5_
    refine q_aload hx hb dX5_actionFor_45 (lv_at hl 0 rfl) ?_
    refine q_ifnull (r := r4_) (tgt := 58) hx hb dX5_actionFor_47 (by decide) (fun c6_ => ?_) (fun c6_ => ?_)
    · replace h := h.1 c6_
      exact cb_X5_actionFor_58 X Y (lv_sub hl [] rfl) h
    · replace h := h.2 c6_
      refine q_aload hx hb dX5_actionFor_50 (lv_at hl 0 rfl) ?_
      obtain ⟨a7_, e8_, h⟩ := h
      refine q_nn [] e8_ ?_
      obtain ⟨k9_, h⟩ := h
      refine q_getI X Y kX7 9 rfl fl_X5_105 k9_ dX5_actionFor_52 ?_
      refine lv_if_eq (tgt := 62) hx hb dX5_actionFor_55 (by decide) (fun c10_ => ?_) (fun c10_ => ?_)
      · replace h := h.1 c10_
        exact cb_X5_actionFor_62 X Y (lv_sub hl [1] rfl) h
      · replace h := h.2 c10_
        exact cb_X5_actionFor_58 X Y (lv_sub hl [] rfl) h
def wb_X5_actionFor_18  (S : q_S) (a0 : Nat) (Q : Option Value → q_S → Prop) : Prop := wb_X5_actionFor_28 S a0 (0 : Int32) Q
set_option maxHeartbeats 4000000 in
set_option maxRecDepth 100000 in
theorem cb_X5_actionFor_18 {p : Program} {l : Launch} {e : Env} {s : State} {m : MethodId} {args : Array Value} {below : List Frame} {meth : Method} {c : Code} {D : va_G} {cy : Nat → ClassId} {lo : Nat}  {S : q_S} {a0 : Nat} {Q : Option Value → q_S → Prop} {H : Heap} {locs : List Loc} {ls : Array Slot} (X : q_X p s m args meth c RX5 cX5_actionFor 5 (some .int) D cy lo)  (Y : q_Y D cy lo s S H locs) (hl : lv_has ls 5 [(0, .ref a0)]) (h : wb_X5_actionFor_18 S a0 Q) : W p l e ({ frames := 1, cells := 0, slots := 0, locals := 21 } : Room) s m args below meth c H locs 0 0 (MQ below (q_Q D cy lo Q) args s 0 0 (fun q => lo ≤ q)) (F0 m 18 ls []) := by
  have hx := X.1
  have hb := X.2.1
  unfold wb_X5_actionFor_18 at h
  refine lv_iconst (v := 0) hx hb dX5_actionFor_18 (by decide) ?_
  refine lv_goto (tgt := 28) hx hb dX5_actionFor_19 (by decide) ?_
  exact cb_X5_actionFor_28 X Y (lv_sub hl [0] rfl) h
def wm_X5_actionFor (S : q_S) (a0 : Nat) (r1 : Option Nat) (x2 : Int32) (Q : Option Value → q_S → Prop) : Prop := ∃ a11_ : Nat, r1 = some a11_ ∧ (q_K S a11_ = 8 ∧ ((((q_I S 1407 a11_) = 0 → (((x2 < 0 → (wb_X5_actionFor_18 S a0 Q)) ∧ (¬ x2 < 0 → (((x2 < (5 : Int32) → (q_K S a0 = 6 ∧ (∃ a18_ : Nat, (q_P S 1007 a0) = some a18_ ∧ (q_K S a18_ = 21 ∧ (vp_in x2 (q_N S a18_) ∧ (wb_X5_actionFor_28 S a0 (q_A S a18_ x2.toNatClampNeg) Q)))))) ∧ (¬ x2 < (5 : Int32) → (wb_X5_actionFor_18 S a0 Q)))))))) ∧ (¬ (q_I S 1407 a11_) = 0 → (Q (some (.int (3 : Int32))) S)))))
set_option maxHeartbeats 4000000 in
set_option maxRecDepth 100000 in
theorem cm_X5_actionFor {l : Launch} {D : va_G} {cy : Nat → ClassId} {lo : Nat} {S : q_S} {a0 : Nat} {r1 : Option Nat} {x2 : Int32} {Q : Option Value → q_S → Prop} (h : wm_X5_actionFor S a0 r1 x2 Q) : q_Met l D cy lo yX5_actionFor cX5_actionFor 5 (some .int) 1 21 0 0 [.ref a0, va_rf r1, .int x2] S Q := by
  refine q_body (by decide) (by first | exact Nat.le_of_ble_eq_true rfl | simp [lg_sl, q_cat, q_catI, q_catJ, q_catR]) ?_
  intro p e s m below meth c ls X hnm Y hl
  have hx := X.1
  have hb := X.2.1
  have hl : lv_has ls 5 [(0, .ref a0), (1, va_rf r1), (2, .int x2)] := by first | exact hl | simpa [lv_args, q_cat, q_catI, q_catJ, q_catR] using hl
  generalize hargs : ([.ref a0, va_rf r1, .int x2] : List Value).toArray = args at X ⊢
  unfold wm_X5_actionFor at h
  refine q_aload_n hx hb dX5_actionFor_0 rfl (lv_at hl 1 rfl) ?_
  obtain ⟨a11_, e12_, h⟩ := h
  refine q_nn [] e12_ ?_
  obtain ⟨k13_, h⟩ := h
  refine q_getI X Y kX7 7 rfl fl_X5_98 k13_ dX5_actionFor_1 ?_
  refine lv_if_eq (tgt := 9) hx hb dX5_actionFor_4 (by decide) (fun c14_ => ?_) (fun c14_ => ?_)
  · replace h := h.1 c14_
    refine lv_iload_n hx hb dX5_actionFor_9 rfl (lv_at hl 2 rfl) ?_
    refine lv_if_lt (tgt := 18) hx hb dX5_actionFor_10 (by decide) (fun c15_ => ?_) (fun c15_ => ?_)
    · replace h := h.1 c15_
      exact cb_X5_actionFor_18 X Y (lv_sub hl [0] rfl) h
    · replace h := h.2 c15_
      refine lv_iload_n hx hb dX5_actionFor_13 rfl (lv_at hl 2 rfl) ?_
      refine lv_iconst (v := 5) hx hb dX5_actionFor_14 (by decide) ?_
      refine lv_icmp_lt (tgt := 22) hx hb dX5_actionFor_15 (by decide) (fun c16_ => ?_) (fun c16_ => ?_)
      · replace h := h.1 c16_
        refine lv_aload_n hx hb dX5_actionFor_22 rfl (lv_at hl 0 rfl) ?_
        obtain ⟨k17_, h⟩ := h
        refine q_getP X Y kX5 7 rfl fl_X5_34 k17_ rfl dX5_actionFor_23 ?_
        refine lv_iload_n hx hb dX5_actionFor_26 rfl (lv_at hl 2 rfl) ?_
        obtain ⟨a18_, e19_, h⟩ := h
        refine q_nn [.int x2] e19_ ?_
        obtain ⟨k20_, h⟩ := h
        obtain ⟨i21_, h⟩ := h
        refine q_ild X Y k20_ i21_ dX5_actionFor_27 ?_
        exact cb_X5_actionFor_28 X Y (lv_sub hl [0] rfl) h
      · replace h := h.2 c16_
        exact cb_X5_actionFor_18 X Y (lv_sub hl [0] rfl) h
  · replace h := h.2 c14_
    refine lv_iconst (v := 3) hx hb dX5_actionFor_7 (by decide) ?_
    exact q_iret X Y rfl (Nat.le_refl _) (Nat.le_refl _) h dX5_actionFor_8
-- X5_handOver
theorem fl_X5_142 : Cond.fieldLink RX5 142 "PartitionWorks$Partition" "faultKind" "I" ∈ q_G := q_tb (i := 726) (by decide +kernel) (by decide +kernel)
theorem fl_X5_145 : Cond.fieldLink RX5 145 "PartitionWorks$Partition" "faultCode" "I" ∈ q_G := q_tb (i := 728) (by decide +kernel) (by decide +kernel)
theorem dX5_handOver_0 : decode cX5_handOver 0 = .ok (.aload_n 1, 1) := by decide +kernel
theorem dX5_handOver_1 : decode cX5_handOver 1 = .ok (.iconst 3, 1) := by decide +kernel
theorem dX5_handOver_2 : decode cX5_handOver 2 = .ok (.invokevirtual 136, 3) := by decide +kernel
theorem dX5_handOver_5 : decode cX5_handOver 5 = .ok (.aload_n 0, 1) := by decide +kernel
theorem dX5_handOver_6 : decode cX5_handOver 6 = .ok (.aload_n 1, 1) := by decide +kernel
theorem dX5_handOver_7 : decode cX5_handOver 7 = .ok (.invokevirtual 139, 3) := by decide +kernel
theorem dX5_handOver_10 : decode cX5_handOver 10 = .ok (.aload_n 0, 1) := by decide +kernel
theorem dX5_handOver_11 : decode cX5_handOver 11 = .ok (.aload_n 1, 1) := by decide +kernel
theorem dX5_handOver_12 : decode cX5_handOver 12 = .ok (.getfield 131, 3) := by decide +kernel
theorem dX5_handOver_15 : decode cX5_handOver 15 = .ok (.putfield 78, 3) := by decide +kernel
theorem dX5_handOver_18 : decode cX5_handOver 18 = .ok (.aload_n 0, 1) := by decide +kernel
theorem dX5_handOver_19 : decode cX5_handOver 19 = .ok (.iload_n 2, 1) := by decide +kernel
theorem dX5_handOver_20 : decode cX5_handOver 20 = .ok (.putfield 142, 3) := by decide +kernel
theorem dX5_handOver_23 : decode cX5_handOver 23 = .ok (.aload_n 0, 1) := by decide +kernel
theorem dX5_handOver_24 : decode cX5_handOver 24 = .ok (.iload_n 3, 1) := by decide +kernel
theorem dX5_handOver_25 : decode cX5_handOver 25 = .ok (.putfield 145, 3) := by decide +kernel
theorem dX5_handOver_28 : decode cX5_handOver 28 = .ok (.aload_n 0, 1) := by decide +kernel
theorem dX5_handOver_29 : decode cX5_handOver 29 = .ok (.aload_n 0, 1) := by decide +kernel
theorem dX5_handOver_30 : decode cX5_handOver 30 = .ok (.getfield 54, 3) := by decide +kernel
theorem dX5_handOver_33 : decode cX5_handOver 33 = .ok (.invokevirtual 101, 3) := by decide +kernel
theorem dX5_handOver_36 : decode cX5_handOver 36 = .ok (.astore 5, 2) := by decide +kernel
theorem dX5_handOver_38 : decode cX5_handOver 38 = .ok (.aload 5, 2) := by decide +kernel
theorem dX5_handOver_40 : decode cX5_handOver 40 = .ok (.ifnull 13, 3) := by decide +kernel
theorem dX5_handOver_43 : decode cX5_handOver 43 = .ok (.aload_n 0, 1) := by decide +kernel
theorem dX5_handOver_44 : decode cX5_handOver 44 = .ok (.aload 5, 2) := by decide +kernel
theorem dX5_handOver_46 : decode cX5_handOver 46 = .ok (.iload 4, 2) := by decide +kernel
theorem dX5_handOver_48 : decode cX5_handOver 48 = .ok (.iload 4, 2) := by decide +kernel
theorem dX5_handOver_50 : decode cX5_handOver 50 = .ok (.invokevirtual 148, 3) := by decide +kernel
theorem dX5_handOver_53 : decode cX5_handOver 53 = .ok (.return_, 1) := by decide +kernel
def wb_X5_handOver_53  (S : q_S) (Q : Option Value → q_S → Prop) : Prop := Q none S
set_option maxHeartbeats 4000000 in
set_option maxRecDepth 100000 in
theorem cb_X5_handOver_53 {p : Program} {l : Launch} {e : Env} {s : State} {m : MethodId} {args : Array Value} {below : List Frame} {meth : Method} {c : Code} {D : va_G} {cy : Nat → ClassId} {lo : Nat}  {S : q_S} {Q : Option Value → q_S → Prop} {H : Heap} {locs : List Loc} {ls : Array Slot} (X : q_X p s m args meth c RX5 cX5_handOver 6 none D cy lo)  (Y : q_Y D cy lo s S H locs) (hl : lv_has ls 6 []) (h : wb_X5_handOver_53 S Q) : W p l e ({ frames := 3, cells := 0, slots := 0, locals := 66 } : Room) s m args below meth c H locs 0 0 (MQ below (q_Q D cy lo Q) args s 0 0 (fun q => lo ≤ q)) (F0 m 53 ls []) := by
  have hx := X.1
  have hb := X.2.1
  unfold wb_X5_handOver_53 at h
  exact q_vret X Y (Nat.le_refl _) (Nat.le_refl _) h dX5_handOver_53
def wm_X5_handOver (S : q_S) (a0 : Nat) (r1 : Option Nat) (x2 : Int32) (x3 : Int32) (x4 : Int32) (Q : Option Value → q_S → Prop) : Prop := ∃ a1_ : Nat, r1 = some a1_ ∧ (q_K S a1_ = 8 ∧ (wm_X7_leave S a1_ (3 : Int32) (fun r4_ S5_ => r4_ = none ∧ (q_K S5_ a0 = 6 ∧ (wm_X5_unlockOf S5_ a0 r1 (fun r7_ S8_ => r7_ = none ∧ (q_K S8_ a1_ = 8 ∧ (q_K S8_ a0 = 6 ∧ (∀ S11_ : q_S, S11_ = (qs_I (qs_I (qs_I S8_ 1016 a0 (q_I S8_ 1400 a1_)) 1017 a0 x2) 1018 a0 x3) → (wm_X5_processAt S11_ a0 (q_I S11_ 1008 a0) (fun r12_ S13_ => ∃ r14_ : Option Nat, r12_ = some (va_rf r14_) ∧ (((r14_ = none → (wb_X5_handOver_53 S13_ Q)) ∧ (¬ r14_ = none → (q_K S13_ a0 = 6 ∧ (wm_X5_start S13_ a0 r14_ x4 x4 (fun r17_ S18_ => r17_ = none ∧ (wb_X5_handOver_53 S18_ Q))))))))))))))))))
set_option maxHeartbeats 4000000 in
set_option maxRecDepth 100000 in
theorem cm_X5_handOver {l : Launch} {D : va_G} {cy : Nat → ClassId} {lo : Nat} {S : q_S} {a0 : Nat} {r1 : Option Nat} {x2 : Int32} {x3 : Int32} {x4 : Int32} {Q : Option Value → q_S → Prop} (h : wm_X5_handOver S a0 r1 x2 x3 x4 Q) : q_Met l D cy lo yX5_handOver cX5_handOver 6 none 3 66 0 0 [.ref a0, va_rf r1, .int x2, .int x3, .int x4] S Q := by
  refine q_body (by decide) (by first | exact Nat.le_of_ble_eq_true rfl | simp [lg_sl, q_cat, q_catI, q_catJ, q_catR]) ?_
  intro p e s m below meth c ls X hnm Y hl
  have hx := X.1
  have hb := X.2.1
  have hl : lv_has ls 6 [(0, .ref a0), (1, va_rf r1), (2, .int x2), (3, .int x3), (4, .int x4)] := by first | exact hl | simpa [lv_args, q_cat, q_catI, q_catJ, q_catR] using hl
  generalize hargs : ([.ref a0, va_rf r1, .int x2, .int x3, .int x4] : List Value).toArray = args at X ⊢
  unfold wm_X5_handOver at h
  refine q_aload_n hx hb dX5_handOver_0 rfl (lv_at hl 1 rfl) ?_
  refine lv_iconst (v := 3) hx hb dX5_handOver_1 (by decide) ?_
  obtain ⟨a1_, e2_, h⟩ := h
  refine q_nn [.int (3 : Int32)] e2_ ?_
  obtain ⟨k3_, h⟩ := h
  refine q_callV X Y hl (cm_X7_leave h) mt_X7_leave mi_X7_leave ml_X5_136 (ci := 7) rfl k3_ (by decide) rfl rfl (by first | exact Nat.le_of_ble_eq_true rfl | simp [q_cat, q_catI, q_catJ, q_catR]) ⟨Nat.le_of_ble_eq_true rfl, Nat.le_of_ble_eq_true rfl⟩ ⟨Nat.le_of_ble_eq_true rfl, Nat.le_of_ble_eq_true rfl⟩ dX5_handOver_2 (fun r4_ S5_ H locs hp Y => ?_)
  obtain ⟨rfl, h⟩ := hp
  refine W.eq (g2 := F0 m 5 ls []) rfl ?_
  refine lv_aload_n hx hb dX5_handOver_5 rfl (lv_at hl 0 rfl) ?_
  refine q_aload_n hx hb dX5_handOver_6 rfl (lv_at hl 1 rfl) ?_
  obtain ⟨k6_, h⟩ := h
  refine q_callV X Y hl (cm_X5_unlockOf h) mt_X5_unlockOf mi_X5_unlockOf ml_X5_139 (ci := 5) rfl k6_ (by decide) rfl rfl (by first | exact Nat.le_of_ble_eq_true rfl | simp [q_cat, q_catI, q_catJ, q_catR]) ⟨Nat.le_of_ble_eq_true rfl, Nat.le_of_ble_eq_true rfl⟩ ⟨Nat.le_of_ble_eq_true rfl, Nat.le_of_ble_eq_true rfl⟩ dX5_handOver_7 (fun r7_ S8_ H locs hp Y => ?_)
  obtain ⟨rfl, h⟩ := hp
  refine W.eq (g2 := F0 m 10 ls []) rfl ?_
  refine lv_aload_n hx hb dX5_handOver_10 rfl (lv_at hl 0 rfl) ?_
  refine q_aload_n hx hb dX5_handOver_11 rfl (lv_at hl 1 rfl) ?_
  refine q_nn [] e2_ ?_
  obtain ⟨k9_, h⟩ := h
  refine q_getI X Y kX7 0 rfl fl_X5_131 k9_ dX5_handOver_12 ?_
  obtain ⟨k10_, h⟩ := h
  refine q_putI X Y kX5 16 rfl fl_X5_78 k10_ .int rfl ⟨rfl, rfl⟩ rfl dX5_handOver_15 (fun H locs Y => ?_)
  refine lv_aload_n hx hb dX5_handOver_18 rfl (lv_at hl 0 rfl) ?_
  refine lv_iload_n hx hb dX5_handOver_19 rfl (lv_at hl 2 rfl) ?_
  refine q_putI X Y kX5 17 rfl fl_X5_142 k10_ .int rfl ⟨rfl, rfl⟩ rfl dX5_handOver_20 (fun H locs Y => ?_)
  refine lv_aload_n hx hb dX5_handOver_23 rfl (lv_at hl 0 rfl) ?_
  refine lv_iload_n hx hb dX5_handOver_24 rfl (lv_at hl 3 rfl) ?_
  refine q_putI X Y kX5 18 rfl fl_X5_145 k10_ .int rfl ⟨rfl, rfl⟩ rfl dX5_handOver_25 (fun H locs Y => ?_)
  obtain ⟨S11_, gS11_⟩ : ∃ z : q_S, z = (qs_I (qs_I (qs_I S8_ 1016 a0 (q_I S8_ 1400 a1_)) 1017 a0 x2) 1018 a0 x3) := ⟨_, rfl⟩
  replace Y : q_Y D cy lo s S11_ H locs := by rw [gS11_]; exact Y
  replace h := h S11_ gS11_
  replace k9_ : q_K S11_ a1_ = 8 := by rw [gS11_]; exact k9_
  replace k10_ : q_K S11_ a0 = 6 := by rw [gS11_]; exact k10_
  refine lv_aload_n hx hb dX5_handOver_28 rfl (lv_at hl 0 rfl) ?_
  refine lv_aload_n hx hb dX5_handOver_29 rfl (lv_at hl 0 rfl) ?_
  refine q_getI X Y kX5 8 rfl fl_X5_54 k10_ dX5_handOver_30 ?_
  refine q_callV X Y hl (cm_X5_processAt h) mt_X5_processAt mi_X5_processAt ml_X5_101 (ci := 5) rfl k10_ (by decide) rfl rfl (by first | exact Nat.le_of_ble_eq_true rfl | simp [q_cat, q_catI, q_catJ, q_catR]) ⟨Nat.le_of_ble_eq_true rfl, Nat.le_of_ble_eq_true rfl⟩ ⟨Nat.le_of_ble_eq_true rfl, Nat.le_of_ble_eq_true rfl⟩ dX5_handOver_33 (fun r12_ S13_ H locs hp Y => ?_)
  obtain ⟨r14_, rfl, h⟩ := hp
  refine W.eq (g2 := F0 m 36 ls [va_rf r14_]) rfl ?_
  refine q_astore (i := 5) (lv' := [(5, va_rf r14_), (0, .ref a0), (1, va_rf r1), (2, .int x2), (3, .int x3), (4, .int x4)]) hx hb dX5_handOver_36 hl (by decide) (by first | rfl | simp [q_cat, q_catI, q_catJ, q_catR]) (fun ls hl => ?_)
  refine q_aload hx hb dX5_handOver_38 (lv_at hl 0 rfl) ?_
  refine q_ifnull (r := r14_) (tgt := 53) hx hb dX5_handOver_40 (by decide) (fun c15_ => ?_) (fun c15_ => ?_)
  · replace h := h.1 c15_
    exact cb_X5_handOver_53 X Y (lv_sub hl [] rfl) h
  · replace h := h.2 c15_
    refine lv_aload_n hx hb dX5_handOver_43 rfl (lv_at hl 1 rfl) ?_
    refine q_aload hx hb dX5_handOver_44 (lv_at hl 0 rfl) ?_
    refine lv_iload hx hb dX5_handOver_46 (lv_at hl 5 rfl) ?_
    refine lv_iload hx hb dX5_handOver_48 (lv_at hl 5 rfl) ?_
    obtain ⟨k16_, h⟩ := h
    refine q_callV X Y hl (cm_X5_start h) mt_X5_start mi_X5_start ml_X5_148 (ci := 5) rfl k16_ (by decide) rfl rfl (by first | exact Nat.le_of_ble_eq_true rfl | simp [q_cat, q_catI, q_catJ, q_catR]) ⟨Nat.le_of_ble_eq_true rfl, Nat.le_of_ble_eq_true rfl⟩ ⟨Nat.le_of_ble_eq_true rfl, Nat.le_of_ble_eq_true rfl⟩ dX5_handOver_50 (fun r17_ S18_ H locs hp Y => ?_)
    obtain ⟨rfl, h⟩ := hp
    refine W.eq (g2 := F0 m 53 ls []) rfl ?_
    exact cb_X5_handOver_53 X Y (lv_sub hl [] rfl) h
-- X5_firstToWake
theorem dX5_firstToWake_0 : decode cX5_firstToWake 0 = .ok (.aconst_null, 1) := by decide +kernel
theorem dX5_firstToWake_1 : decode cX5_firstToWake 1 = .ok (.astore_n 2, 1) := by decide +kernel
theorem dX5_firstToWake_2 : decode cX5_firstToWake 2 = .ok (.iconst 0, 1) := by decide +kernel
theorem dX5_firstToWake_3 : decode cX5_firstToWake 3 = .ok (.istore_n 3, 1) := by decide +kernel
theorem dX5_firstToWake_4 : decode cX5_firstToWake 4 = .ok (.iload_n 3, 1) := by decide +kernel
theorem dX5_firstToWake_5 : decode cX5_firstToWake 5 = .ok (.aload_n 0, 1) := by decide +kernel
theorem dX5_firstToWake_6 : decode cX5_firstToWake 6 = .ok (.getfield 45, 3) := by decide +kernel
theorem dX5_firstToWake_9 : decode cX5_firstToWake 9 = .ok (.if_icmp .ge 54, 3) := by decide +kernel
theorem dX5_firstToWake_12 : decode cX5_firstToWake 12 = .ok (.aload_n 0, 1) := by decide +kernel
theorem dX5_firstToWake_13 : decode cX5_firstToWake 13 = .ok (.getfield 20, 3) := by decide +kernel
theorem dX5_firstToWake_16 : decode cX5_firstToWake 16 = .ok (.iload_n 3, 1) := by decide +kernel
theorem dX5_firstToWake_17 : decode cX5_firstToWake 17 = .ok (.aaload, 1) := by decide +kernel
theorem dX5_firstToWake_18 : decode cX5_firstToWake 18 = .ok (.astore 4, 2) := by decide +kernel
theorem dX5_firstToWake_20 : decode cX5_firstToWake 20 = .ok (.aload 4, 2) := by decide +kernel
theorem dX5_firstToWake_22 : decode cX5_firstToWake 22 = .ok (.getfield 114, 3) := by decide +kernel
theorem dX5_firstToWake_25 : decode cX5_firstToWake 25 = .ok (.iconst (-1), 1) := by decide +kernel
theorem dX5_firstToWake_26 : decode cX5_firstToWake 26 = .ok (.if_icmp .eq 31, 3) := by decide +kernel
theorem dX5_firstToWake_29 : decode cX5_firstToWake 29 = .ok (.aload 4, 2) := by decide +kernel
theorem dX5_firstToWake_31 : decode cX5_firstToWake 31 = .ok (.getfield 114, 3) := by decide +kernel
theorem dX5_firstToWake_34 : decode cX5_firstToWake 34 = .ok (.iload_n 1, 1) := by decide +kernel
theorem dX5_firstToWake_35 : decode cX5_firstToWake 35 = .ok (.if_icmp .gt 22, 3) := by decide +kernel
theorem dX5_firstToWake_38 : decode cX5_firstToWake 38 = .ok (.aload_n 2, 1) := by decide +kernel
theorem dX5_firstToWake_39 : decode cX5_firstToWake 39 = .ok (.ifnull 15, 3) := by decide +kernel
theorem dX5_firstToWake_42 : decode cX5_firstToWake 42 = .ok (.aload 4, 2) := by decide +kernel
theorem dX5_firstToWake_44 : decode cX5_firstToWake 44 = .ok (.getfield 114, 3) := by decide +kernel
theorem dX5_firstToWake_47 : decode cX5_firstToWake 47 = .ok (.aload_n 2, 1) := by decide +kernel
theorem dX5_firstToWake_48 : decode cX5_firstToWake 48 = .ok (.getfield 114, 3) := by decide +kernel
theorem dX5_firstToWake_51 : decode cX5_firstToWake 51 = .ok (.if_icmp .ge 6, 3) := by decide +kernel
theorem dX5_firstToWake_54 : decode cX5_firstToWake 54 = .ok (.aload 4, 2) := by decide +kernel
theorem dX5_firstToWake_56 : decode cX5_firstToWake 56 = .ok (.astore_n 2, 1) := by decide +kernel
theorem dX5_firstToWake_57 : decode cX5_firstToWake 57 = .ok (.iinc 3 1, 3) := by decide +kernel
theorem dX5_firstToWake_60 : decode cX5_firstToWake 60 = .ok (.goto (-56), 3) := by decide +kernel
theorem dX5_firstToWake_63 : decode cX5_firstToWake 63 = .ok (.aload_n 2, 1) := by decide +kernel
theorem dX5_firstToWake_64 : decode cX5_firstToWake 64 = .ok (.areturn, 1) := by decide +kernel
def wb_X5_firstToWake_57 (B4 : q_S → Nat → Int32 → Option Nat → Int32 → Prop) (S : q_S) (a0 : Nat) (x1 : Int32) (r2 : Option Nat) (x3 : Int32) (Q : Option Value → q_S → Prop) : Prop := B4 S a0 x1 r2 (x3 + 1)
set_option maxHeartbeats 4000000 in
set_option maxRecDepth 100000 in
theorem cb_X5_firstToWake_57 {p : Program} {l : Launch} {e : Env} {s : State} {m : MethodId} {args : Array Value} {below : List Frame} {meth : Method} {c : Code} {D : va_G} {cy : Nat → ClassId} {lo : Nat} {B4 : q_S → Nat → Int32 → Option Nat → Int32 → Prop} {S : q_S} {a0 : Nat} {x1 : Int32} {r2 : Option Nat} {x3 : Int32} {Q : Option Value → q_S → Prop} {H : Heap} {locs : List Loc} {ls : Array Slot} (X : q_X p s m args meth c RX5 cX5_firstToWake 5 (some (.object "PartitionWorks$Process")) D cy lo) (hB4 : ∀ (S : q_S) (a0 : Nat) (x1 : Int32) (r2 : Option Nat) (x3 : Int32) (H : Heap) (locs : List Loc) (ls : Array Slot), B4 S a0 x1 r2 x3 → q_Y D cy lo s S H locs → lv_has ls 5 [(0, .ref a0), (1, .int x1), (2, va_rf r2), (3, .int x3)] → W p l e ({ frames := 0, cells := 0, slots := 0, locals := 0 } : Room) s m args below meth c H locs 0 0 (MQ below (q_Q D cy lo Q) args s 0 0 (fun q => lo ≤ q)) (F0 m 4 ls [])) (Y : q_Y D cy lo s S H locs) (hl : lv_has ls 5 [(0, .ref a0), (1, .int x1), (2, va_rf r2), (3, .int x3)]) (h : wb_X5_firstToWake_57 B4 S a0 x1 r2 x3 Q) : W p l e ({ frames := 0, cells := 0, slots := 0, locals := 0 } : Room) s m args below meth c H locs 0 0 (MQ below (q_Q D cy lo Q) args s 0 0 (fun q => lo ≤ q)) (F0 m 57 ls []) := by
  have hx := X.1
  have hb := X.2.1
  unfold wb_X5_firstToWake_57 at h
  refine lv_iinc (v := (x3 + 1)) (lv' := [(3, .int (x3 + 1)), (0, .ref a0), (1, .int x1), (2, va_rf r2)]) hx hb dX5_firstToWake_57 hl (k := 3) rfl (by first | rfl | decide) (by decide) (by first | rfl | simp [q_cat, q_catI, q_catJ, q_catR]) (fun ls hl => ?_)
  refine lv_goto (tgt := 4) hx hb dX5_firstToWake_60 (by decide) ?_
  exact hB4 _ _ _ _ _ _ _ _ h Y (lv_sub hl [1, 2, 3, 0] rfl)
def wb_X5_firstToWake_54 (B4 : q_S → Nat → Int32 → Option Nat → Int32 → Prop) (S : q_S) (a0 : Nat) (x1 : Int32) (x3 : Int32) (r4 : Option Nat) (Q : Option Value → q_S → Prop) : Prop := wb_X5_firstToWake_57 B4 S a0 x1 r4 x3 Q
set_option maxHeartbeats 4000000 in
set_option maxRecDepth 100000 in
theorem cb_X5_firstToWake_54 {p : Program} {l : Launch} {e : Env} {s : State} {m : MethodId} {args : Array Value} {below : List Frame} {meth : Method} {c : Code} {D : va_G} {cy : Nat → ClassId} {lo : Nat} {B4 : q_S → Nat → Int32 → Option Nat → Int32 → Prop} {S : q_S} {a0 : Nat} {x1 : Int32} {x3 : Int32} {r4 : Option Nat} {Q : Option Value → q_S → Prop} {H : Heap} {locs : List Loc} {ls : Array Slot} (X : q_X p s m args meth c RX5 cX5_firstToWake 5 (some (.object "PartitionWorks$Process")) D cy lo) (hB4 : ∀ (S : q_S) (a0 : Nat) (x1 : Int32) (r2 : Option Nat) (x3 : Int32) (H : Heap) (locs : List Loc) (ls : Array Slot), B4 S a0 x1 r2 x3 → q_Y D cy lo s S H locs → lv_has ls 5 [(0, .ref a0), (1, .int x1), (2, va_rf r2), (3, .int x3)] → W p l e ({ frames := 0, cells := 0, slots := 0, locals := 0 } : Room) s m args below meth c H locs 0 0 (MQ below (q_Q D cy lo Q) args s 0 0 (fun q => lo ≤ q)) (F0 m 4 ls [])) (Y : q_Y D cy lo s S H locs) (hl : lv_has ls 5 [(0, .ref a0), (1, .int x1), (3, .int x3), (4, va_rf r4)]) (h : wb_X5_firstToWake_54 B4 S a0 x1 x3 r4 Q) : W p l e ({ frames := 0, cells := 0, slots := 0, locals := 0 } : Room) s m args below meth c H locs 0 0 (MQ below (q_Q D cy lo Q) args s 0 0 (fun q => lo ≤ q)) (F0 m 54 ls []) := by
  have hx := X.1
  have hb := X.2.1
  unfold wb_X5_firstToWake_54 at h
  refine q_aload hx hb dX5_firstToWake_54 (lv_at hl 3 rfl) ?_
  refine q_astore_n (i := 2) (lv' := [(2, va_rf r4), (0, .ref a0), (1, .int x1), (3, .int x3), (4, va_rf r4)]) hx hb dX5_firstToWake_56 rfl hl (by decide) (by first | rfl | simp [q_cat, q_catI, q_catJ, q_catR]) (fun ls hl => ?_)
  exact cb_X5_firstToWake_57 X hB4 Y (lv_sub hl [1, 2, 0, 3] rfl) h
def wb_X5_firstToWake_4 (B4 : q_S → Nat → Int32 → Option Nat → Int32 → Prop) (S : q_S) (a0 : Nat) (x1 : Int32) (r2 : Option Nat) (x3 : Int32) (Q : Option Value → q_S → Prop) : Prop := q_K S a0 = 6 ∧ ((((q_I S 1004 a0) ≤ x3 → (Q (some (va_rf r2)) S)) ∧ (¬ (q_I S 1004 a0) ≤ x3 → (∃ a3_ : Nat, (q_P S 1003 a0) = some a3_ ∧ (q_K S a3_ = 26 ∧ (vp_in x3 (q_N S a3_) ∧ (∃ a7_ : Nat, (q_C S a3_ x3.toNatClampNeg) = some a7_ ∧ (q_K S a7_ = 8 ∧ ((((q_I S 1413 a7_) = (-1 : Int32) → (wb_X5_firstToWake_57 B4 S a0 x1 r2 x3 Q)) ∧ (¬ (q_I S 1413 a7_) = (-1 : Int32) → (((x1 < (q_I S 1413 a7_) → (wb_X5_firstToWake_57 B4 S a0 x1 r2 x3 Q)) ∧ (¬ x1 < (q_I S 1413 a7_) → (((r2 = none → (wb_X5_firstToWake_54 B4 S a0 x1 x3 (q_C S a3_ x3.toNatClampNeg) Q)) ∧ (¬ r2 = none → (∃ a13_ : Nat, r2 = some a13_ ∧ (q_K S a13_ = 8 ∧ ((((q_I S 1413 a13_) ≤ (q_I S 1413 a7_) → (wb_X5_firstToWake_57 B4 S a0 x1 r2 x3 Q)) ∧ (¬ (q_I S 1413 a13_) ≤ (q_I S 1413 a7_) → (wb_X5_firstToWake_54 B4 S a0 x1 x3 (q_C S a3_ x3.toNatClampNeg) Q)))))))))))))))))))))))
set_option maxHeartbeats 4000000 in
set_option maxRecDepth 100000 in
theorem cb_X5_firstToWake_4 {p : Program} {l : Launch} {e : Env} {s : State} {m : MethodId} {args : Array Value} {below : List Frame} {meth : Method} {c : Code} {D : va_G} {cy : Nat → ClassId} {lo : Nat} {B4 : q_S → Nat → Int32 → Option Nat → Int32 → Prop} {S : q_S} {a0 : Nat} {x1 : Int32} {r2 : Option Nat} {x3 : Int32} {Q : Option Value → q_S → Prop} {H : Heap} {locs : List Loc} {ls : Array Slot} (X : q_X p s m args meth c RX5 cX5_firstToWake 5 (some (.object "PartitionWorks$Process")) D cy lo) (hB4 : ∀ (S : q_S) (a0 : Nat) (x1 : Int32) (r2 : Option Nat) (x3 : Int32) (H : Heap) (locs : List Loc) (ls : Array Slot), B4 S a0 x1 r2 x3 → q_Y D cy lo s S H locs → lv_has ls 5 [(0, .ref a0), (1, .int x1), (2, va_rf r2), (3, .int x3)] → W p l e ({ frames := 0, cells := 0, slots := 0, locals := 0 } : Room) s m args below meth c H locs 0 0 (MQ below (q_Q D cy lo Q) args s 0 0 (fun q => lo ≤ q)) (F0 m 4 ls [])) (Y : q_Y D cy lo s S H locs) (hl : lv_has ls 5 [(0, .ref a0), (1, .int x1), (2, va_rf r2), (3, .int x3)]) (h : wb_X5_firstToWake_4 B4 S a0 x1 r2 x3 Q) : W p l e ({ frames := 0, cells := 0, slots := 0, locals := 0 } : Room) s m args below meth c H locs 0 0 (MQ below (q_Q D cy lo Q) args s 0 0 (fun q => lo ≤ q)) (F0 m 4 ls []) := by
  have hx := X.1
  have hb := X.2.1
  unfold wb_X5_firstToWake_4 at h
  refine lv_iload_n hx hb dX5_firstToWake_4 rfl (lv_at hl 3 rfl) ?_
  refine lv_aload_n hx hb dX5_firstToWake_5 rfl (lv_at hl 0 rfl) ?_
  obtain ⟨k1_, h⟩ := h
  refine q_getI X Y kX5 4 rfl fl_X5_45 k1_ dX5_firstToWake_6 ?_
  refine lv_icmp_ge (tgt := 63) hx hb dX5_firstToWake_9 (by decide) (fun c2_ => ?_) (fun c2_ => ?_)
  · replace h := h.1 c2_
    refine q_aload_n hx hb dX5_firstToWake_63 rfl (lv_at hl 2 rfl) ?_
    exact q_aret X Y (Or.inl ⟨_, rfl⟩) (va_rf_or _) (Nat.le_refl _) (Nat.le_refl _) h dX5_firstToWake_64
  · replace h := h.2 c2_
    refine lv_aload_n hx hb dX5_firstToWake_12 rfl (lv_at hl 0 rfl) ?_
    refine q_getP X Y kX5 3 rfl fl_X5_20 k1_ rfl dX5_firstToWake_13 ?_
    refine lv_iload_n hx hb dX5_firstToWake_16 rfl (lv_at hl 3 rfl) ?_
    obtain ⟨a3_, e4_, h⟩ := h
    refine q_nn [.int x3] e4_ ?_
    obtain ⟨k5_, h⟩ := h
    obtain ⟨i6_, h⟩ := h
    refine q_cld X Y k5_ (by decide) (t := 6) rfl i6_ rfl dX5_firstToWake_17 ?_
    refine q_astore (i := 4) (lv' := [(4, va_rf (q_C S a3_ x3.toNatClampNeg)), (0, .ref a0), (1, .int x1), (2, va_rf r2), (3, .int x3)]) hx hb dX5_firstToWake_18 hl (by decide) (by first | rfl | simp [q_cat, q_catI, q_catJ, q_catR]) (fun ls hl => ?_)
    refine q_aload hx hb dX5_firstToWake_20 (lv_at hl 0 rfl) ?_
    obtain ⟨a7_, e8_, h⟩ := h
    refine q_nn [] e8_ ?_
    obtain ⟨k9_, h⟩ := h
    refine q_getI X Y kX7 13 rfl fl_X5_114 k9_ dX5_firstToWake_22 ?_
    refine lv_iconst (v := (-1)) hx hb dX5_firstToWake_25 (by decide) ?_
    refine lv_icmp_eq (tgt := 57) hx hb dX5_firstToWake_26 (by decide) (fun c10_ => ?_) (fun c10_ => ?_)
    · replace h := h.1 c10_
      exact cb_X5_firstToWake_57 X hB4 Y (lv_sub hl [1, 2, 3, 4] rfl) h
    · replace h := h.2 c10_
      refine q_aload hx hb dX5_firstToWake_29 (lv_at hl 0 rfl) ?_
      refine q_nn [] e8_ ?_
      refine q_getI X Y kX7 13 rfl fl_X5_114 k9_ dX5_firstToWake_31 ?_
      refine lv_iload_n hx hb dX5_firstToWake_34 rfl (lv_at hl 2 rfl) ?_
      refine lv_icmp_gt (tgt := 57) hx hb dX5_firstToWake_35 (by decide) (fun c11_ => ?_) (fun c11_ => ?_)
      · replace h := h.1 c11_
        exact cb_X5_firstToWake_57 X hB4 Y (lv_sub hl [1, 2, 3, 4] rfl) h
      · replace h := h.2 c11_
        refine q_aload_n hx hb dX5_firstToWake_38 rfl (lv_at hl 3 rfl) ?_
        refine q_ifnull (r := r2) (tgt := 54) hx hb dX5_firstToWake_39 (by decide) (fun c12_ => ?_) (fun c12_ => ?_)
        · replace h := h.1 c12_
          exact cb_X5_firstToWake_54 X hB4 Y (lv_sub hl [1, 2, 4, 0] rfl) h
        · replace h := h.2 c12_
          refine q_aload hx hb dX5_firstToWake_42 (lv_at hl 0 rfl) ?_
          refine q_nn [] e8_ ?_
          refine q_getI X Y kX7 13 rfl fl_X5_114 k9_ dX5_firstToWake_44 ?_
          refine q_aload_n hx hb dX5_firstToWake_47 rfl (lv_at hl 3 rfl) ?_
          obtain ⟨a13_, e14_, h⟩ := h
          refine q_nn [] e14_ ?_
          obtain ⟨k15_, h⟩ := h
          refine q_getI X Y kX7 13 rfl fl_X5_114 k15_ dX5_firstToWake_48 ?_
          refine lv_icmp_ge (tgt := 57) hx hb dX5_firstToWake_51 (by decide) (fun c16_ => ?_) (fun c16_ => ?_)
          · replace h := h.1 c16_
            exact cb_X5_firstToWake_57 X hB4 Y (lv_sub hl [1, 2, 3, 4] rfl) h
          · replace h := h.2 c16_
            exact cb_X5_firstToWake_54 X hB4 Y (lv_sub hl [1, 2, 4, 0] rfl) h
def wl_X5_firstToWake_4  : Nat → q_S → Nat → Int32 → Option Nat → Int32 → (Option Value → q_S → Prop) → Prop
  | 0, _, _, _, _, _, _ => False
  | n + 1, S, a0, x1, r2, x3, Q => wb_X5_firstToWake_4 (fun S a0 x1 r2 x3 => wl_X5_firstToWake_4 n S a0 x1 r2 x3 Q) S a0 x1 r2 x3 Q
set_option maxHeartbeats 4000000 in
set_option maxRecDepth 100000 in
theorem cl_X5_firstToWake_4 {p : Program} {l : Launch} {e : Env} {s : State} {m : MethodId} {args : Array Value} {below : List Frame} {meth : Method} {c : Code} {D : va_G} {cy : Nat → ClassId} {lo : Nat}  {Q : Option Value → q_S → Prop} (X : q_X p s m args meth c RX5 cX5_firstToWake 5 (some (.object "PartitionWorks$Process")) D cy lo)  : ∀ (n : Nat) (S : q_S) (a0 : Nat) (x1 : Int32) (r2 : Option Nat) (x3 : Int32) (H : Heap) (locs : List Loc) (ls : Array Slot), wl_X5_firstToWake_4 n S a0 x1 r2 x3 Q → q_Y D cy lo s S H locs → lv_has ls 5 [(0, .ref a0), (1, .int x1), (2, va_rf r2), (3, .int x3)] → W p l e ({ frames := 0, cells := 0, slots := 0, locals := 0 } : Room) s m args below meth c H locs 0 0 (MQ below (q_Q D cy lo Q) args s 0 0 (fun q => lo ≤ q)) (F0 m 4 ls []) := by
  intro n
  induction n with
  | zero => intro S a0 x1 r2 x3 H locs ls h; exact absurd h id
  | succ n ih => intro S a0 x1 r2 x3 H locs ls h Y hl; exact cb_X5_firstToWake_4 X ih Y hl h
def wm_X5_firstToWake (S : q_S) (a0 : Nat) (x1 : Int32) (Q : Option Value → q_S → Prop) : Prop := ∃ n17_ : Nat, wl_X5_firstToWake_4 n17_ S a0 x1 none (0 : Int32) Q
set_option maxHeartbeats 4000000 in
set_option maxRecDepth 100000 in
theorem cm_X5_firstToWake {l : Launch} {D : va_G} {cy : Nat → ClassId} {lo : Nat} {S : q_S} {a0 : Nat} {x1 : Int32} {Q : Option Value → q_S → Prop} (h : wm_X5_firstToWake S a0 x1 Q) : q_Met l D cy lo yX5_firstToWake cX5_firstToWake 5 (some (.object "PartitionWorks$Process")) 0 0 0 0 [.ref a0, .int x1] S Q := by
  refine q_body (by decide) (by first | exact Nat.le_of_ble_eq_true rfl | simp [lg_sl, q_cat, q_catI, q_catJ, q_catR]) ?_
  intro p e s m below meth c ls X hnm Y hl
  have hx := X.1
  have hb := X.2.1
  have hl : lv_has ls 5 [(0, .ref a0), (1, .int x1)] := by first | exact hl | simpa [lv_args, q_cat, q_catI, q_catJ, q_catR] using hl
  generalize hargs : ([.ref a0, .int x1] : List Value).toArray = args at X ⊢
  unfold wm_X5_firstToWake at h
  refine lv_null hx hb dX5_firstToWake_0 ?_
  refine W.eq (g2 := F0 m 1 ls [va_rf none]) rfl ?_
  refine q_astore_n (i := 2) (lv' := [(2, va_rf none), (0, .ref a0), (1, .int x1)]) hx hb dX5_firstToWake_1 rfl hl (by decide) (by first | rfl | simp [q_cat, q_catI, q_catJ, q_catR]) (fun ls hl => ?_)
  refine lv_iconst (v := 0) hx hb dX5_firstToWake_2 (by decide) ?_
  refine lv_istore_n (i := 3) (lv' := [(3, .int (0 : Int32)), (2, va_rf none), (0, .ref a0), (1, .int x1)]) hx hb dX5_firstToWake_3 rfl hl (by decide) (by first | rfl | simp [q_cat, q_catI, q_catJ, q_catR]) (fun ls hl => ?_)
  obtain ⟨n17_, h⟩ := h
  exact cl_X5_firstToWake_4 X n17_ _ _ _ _ _ _ _ _ h Y (lv_sub hl [2, 3, 1, 0] rfl)
-- X5_wakeUntil
theorem ml_X5_166 : Cond.methodLink RX5 166 yX5_firstToWake ∈ q_G := q_tb (i := 1400) (by decide +kernel) (by decide +kernel)
theorem mt_X5_firstToWake : q_Mt yX5_firstToWake cX5_firstToWake 5 (some (.object "PartitionWorks$Process")) 1 := ⟨q_tb (i := 1403) (by decide +kernel) (by decide +kernel), q_tb (i := 20) (by decide +kernel) (by decide +kernel), by decide +kernel, by decide +kernel, by decide +kernel⟩
theorem mi_X5_firstToWake : Cond.instanceMethod yX5_firstToWake ∈ q_G ∧ Cond.selects yX5_firstToWake.cls yX5_firstToWake yX5_firstToWake ∈ q_G := ⟨q_tb (i := 1402) (by decide +kernel) (by decide +kernel), q_tp (i := 36) (q := (yX5_firstToWake, 19)) (by decide +kernel) (by decide +kernel)⟩
theorem dX5_wakeUntil_0 : decode cX5_wakeUntil 0 = .ok (.iconst 0, 1) := by decide +kernel
theorem dX5_wakeUntil_1 : decode cX5_wakeUntil 1 = .ok (.istore_n 2, 1) := by decide +kernel
theorem dX5_wakeUntil_2 : decode cX5_wakeUntil 2 = .ok (.iload_n 2, 1) := by decide +kernel
theorem dX5_wakeUntil_3 : decode cX5_wakeUntil 3 = .ok (.aload_n 0, 1) := by decide +kernel
theorem dX5_wakeUntil_4 : decode cX5_wakeUntil 4 = .ok (.getfield 45, 3) := by decide +kernel
theorem dX5_wakeUntil_7 : decode cX5_wakeUntil 7 = .ok (.if_icmp .ge 44, 3) := by decide +kernel
theorem dX5_wakeUntil_10 : decode cX5_wakeUntil 10 = .ok (.aload_n 0, 1) := by decide +kernel
theorem dX5_wakeUntil_11 : decode cX5_wakeUntil 11 = .ok (.iload_n 1, 1) := by decide +kernel
theorem dX5_wakeUntil_12 : decode cX5_wakeUntil 12 = .ok (.invokevirtual 166, 3) := by decide +kernel
theorem dX5_wakeUntil_15 : decode cX5_wakeUntil 15 = .ok (.astore_n 3, 1) := by decide +kernel
theorem dX5_wakeUntil_16 : decode cX5_wakeUntil 16 = .ok (.aload_n 3, 1) := by decide +kernel
theorem dX5_wakeUntil_17 : decode cX5_wakeUntil 17 = .ok (.ifnonnull 4, 3) := by decide +kernel
theorem dX5_wakeUntil_20 : decode cX5_wakeUntil 20 = .ok (.return_, 1) := by decide +kernel
theorem dX5_wakeUntil_21 : decode cX5_wakeUntil 21 = .ok (.aload_n 3, 1) := by decide +kernel
theorem dX5_wakeUntil_22 : decode cX5_wakeUntil 22 = .ok (.getfield 111, 3) := by decide +kernel
theorem dX5_wakeUntil_25 : decode cX5_wakeUntil 25 = .ok (.sipush 128, 3) := by decide +kernel
theorem dX5_wakeUntil_28 : decode cX5_wakeUntil 28 = .ok (.if_icmp .ne 11, 3) := by decide +kernel
theorem dX5_wakeUntil_31 : decode cX5_wakeUntil 31 = .ok (.aload_n 0, 1) := by decide +kernel
theorem dX5_wakeUntil_32 : decode cX5_wakeUntil 32 = .ok (.aload_n 3, 1) := by decide +kernel
theorem dX5_wakeUntil_33 : decode cX5_wakeUntil 33 = .ok (.invokevirtual 117, 3) := by decide +kernel
theorem dX5_wakeUntil_36 : decode cX5_wakeUntil 36 = .ok (.goto 9, 3) := by decide +kernel
theorem dX5_wakeUntil_39 : decode cX5_wakeUntil 39 = .ok (.aload_n 0, 1) := by decide +kernel
theorem dX5_wakeUntil_40 : decode cX5_wakeUntil 40 = .ok (.aload_n 3, 1) := by decide +kernel
theorem dX5_wakeUntil_41 : decode cX5_wakeUntil 41 = .ok (.iconst 4, 1) := by decide +kernel
theorem dX5_wakeUntil_42 : decode cX5_wakeUntil 42 = .ok (.invokevirtual 169, 3) := by decide +kernel
theorem dX5_wakeUntil_45 : decode cX5_wakeUntil 45 = .ok (.iinc 2 1, 3) := by decide +kernel
theorem dX5_wakeUntil_48 : decode cX5_wakeUntil 48 = .ok (.goto (-46), 3) := by decide +kernel
theorem dX5_wakeUntil_51 : decode cX5_wakeUntil 51 = .ok (.return_, 1) := by decide +kernel
def wb_X5_wakeUntil_45 (B2 : q_S → Nat → Int32 → Int32 → Prop) (S : q_S) (a0 : Nat) (x1 : Int32) (x2 : Int32) (Q : Option Value → q_S → Prop) : Prop := B2 S a0 x1 (x2 + 1)
set_option maxHeartbeats 4000000 in
set_option maxRecDepth 100000 in
theorem cb_X5_wakeUntil_45 {p : Program} {l : Launch} {e : Env} {s : State} {m : MethodId} {args : Array Value} {below : List Frame} {meth : Method} {c : Code} {D : va_G} {cy : Nat → ClassId} {lo : Nat} {B2 : q_S → Nat → Int32 → Int32 → Prop} {S : q_S} {a0 : Nat} {x1 : Int32} {x2 : Int32} {Q : Option Value → q_S → Prop} {H : Heap} {locs : List Loc} {ls : Array Slot} (X : q_X p s m args meth c RX5 cX5_wakeUntil 4 none D cy lo) (hB2 : ∀ (S : q_S) (a0 : Nat) (x1 : Int32) (x2 : Int32) (H : Heap) (locs : List Loc) (ls : Array Slot), B2 S a0 x1 x2 → q_Y D cy lo s S H locs → lv_has ls 4 [(0, .ref a0), (1, .int x1), (2, .int x2)] → W p l e ({ frames := 2, cells := 0, slots := 0, locals := 43 } : Room) s m args below meth c H locs 0 0 (MQ below (q_Q D cy lo Q) args s 0 0 (fun q => lo ≤ q)) (F0 m 2 ls [])) (Y : q_Y D cy lo s S H locs) (hl : lv_has ls 4 [(0, .ref a0), (1, .int x1), (2, .int x2)]) (h : wb_X5_wakeUntil_45 B2 S a0 x1 x2 Q) : W p l e ({ frames := 2, cells := 0, slots := 0, locals := 43 } : Room) s m args below meth c H locs 0 0 (MQ below (q_Q D cy lo Q) args s 0 0 (fun q => lo ≤ q)) (F0 m 45 ls []) := by
  have hx := X.1
  have hb := X.2.1
  unfold wb_X5_wakeUntil_45 at h
  refine lv_iinc (v := (x2 + 1)) (lv' := [(2, .int (x2 + 1)), (0, .ref a0), (1, .int x1)]) hx hb dX5_wakeUntil_45 hl (k := 2) rfl (by first | rfl | decide) (by decide) (by first | rfl | simp [q_cat, q_catI, q_catJ, q_catR]) (fun ls hl => ?_)
  refine lv_goto (tgt := 2) hx hb dX5_wakeUntil_48 (by decide) ?_
  exact hB2 _ _ _ _ _ _ _ h Y (lv_sub hl [1, 2, 0] rfl)
def wb_X5_wakeUntil_2 (B2 : q_S → Nat → Int32 → Int32 → Prop) (S : q_S) (a0 : Nat) (x1 : Int32) (x2 : Int32) (Q : Option Value → q_S → Prop) : Prop := q_K S a0 = 6 ∧ ((((q_I S 1004 a0) ≤ x2 → (Q none S)) ∧ (¬ (q_I S 1004 a0) ≤ x2 → (wm_X5_firstToWake S a0 x1 (fun r3_ S4_ => ∃ r5_ : Option Nat, r3_ = some (va_rf r5_) ∧ (((¬ r5_ = none → (∃ a7_ : Nat, r5_ = some a7_ ∧ (q_K S4_ a7_ = 8 ∧ (((¬ (q_I S4_ 1418 a7_) = (128 : Int32) → (q_K S4_ a0 = 6 ∧ (wm_X5_answerWaiter S4_ a0 r5_ (4 : Int32) (fun r12_ S13_ => r12_ = none ∧ (wb_X5_wakeUntil_45 B2 S13_ a0 x1 x2 Q))))) ∧ ((q_I S4_ 1418 a7_) = (128 : Int32) → (q_K S4_ a0 = 6 ∧ (wm_X5_makeReady S4_ a0 r5_ (fun r15_ S16_ => r15_ = none ∧ (wb_X5_wakeUntil_45 B2 S16_ a0 x1 x2 Q)))))))))) ∧ (r5_ = none → (Q none S4_)))))))))
set_option maxHeartbeats 4000000 in
set_option maxRecDepth 100000 in
theorem cb_X5_wakeUntil_2 {p : Program} {l : Launch} {e : Env} {s : State} {m : MethodId} {args : Array Value} {below : List Frame} {meth : Method} {c : Code} {D : va_G} {cy : Nat → ClassId} {lo : Nat} {B2 : q_S → Nat → Int32 → Int32 → Prop} {S : q_S} {a0 : Nat} {x1 : Int32} {x2 : Int32} {Q : Option Value → q_S → Prop} {H : Heap} {locs : List Loc} {ls : Array Slot} (X : q_X p s m args meth c RX5 cX5_wakeUntil 4 none D cy lo) (hB2 : ∀ (S : q_S) (a0 : Nat) (x1 : Int32) (x2 : Int32) (H : Heap) (locs : List Loc) (ls : Array Slot), B2 S a0 x1 x2 → q_Y D cy lo s S H locs → lv_has ls 4 [(0, .ref a0), (1, .int x1), (2, .int x2)] → W p l e ({ frames := 2, cells := 0, slots := 0, locals := 43 } : Room) s m args below meth c H locs 0 0 (MQ below (q_Q D cy lo Q) args s 0 0 (fun q => lo ≤ q)) (F0 m 2 ls [])) (Y : q_Y D cy lo s S H locs) (hl : lv_has ls 4 [(0, .ref a0), (1, .int x1), (2, .int x2)]) (h : wb_X5_wakeUntil_2 B2 S a0 x1 x2 Q) : W p l e ({ frames := 2, cells := 0, slots := 0, locals := 43 } : Room) s m args below meth c H locs 0 0 (MQ below (q_Q D cy lo Q) args s 0 0 (fun q => lo ≤ q)) (F0 m 2 ls []) := by
  have hx := X.1
  have hb := X.2.1
  unfold wb_X5_wakeUntil_2 at h
  refine lv_iload_n hx hb dX5_wakeUntil_2 rfl (lv_at hl 2 rfl) ?_
  refine lv_aload_n hx hb dX5_wakeUntil_3 rfl (lv_at hl 0 rfl) ?_
  obtain ⟨k1_, h⟩ := h
  refine q_getI X Y kX5 4 rfl fl_X5_45 k1_ dX5_wakeUntil_4 ?_
  refine lv_icmp_ge (tgt := 51) hx hb dX5_wakeUntil_7 (by decide) (fun c2_ => ?_) (fun c2_ => ?_)
  · replace h := h.1 c2_
    exact q_vret X Y (Nat.le_refl _) (Nat.le_refl _) h dX5_wakeUntil_51
  · replace h := h.2 c2_
    refine lv_aload_n hx hb dX5_wakeUntil_10 rfl (lv_at hl 0 rfl) ?_
    refine lv_iload_n hx hb dX5_wakeUntil_11 rfl (lv_at hl 1 rfl) ?_
    refine q_callV X Y hl (cm_X5_firstToWake h) mt_X5_firstToWake mi_X5_firstToWake ml_X5_166 (ci := 5) rfl k1_ (by decide) rfl rfl (by first | exact Nat.le_of_ble_eq_true rfl | simp [q_cat, q_catI, q_catJ, q_catR]) ⟨Nat.le_of_ble_eq_true rfl, Nat.le_of_ble_eq_true rfl⟩ ⟨Nat.le_of_ble_eq_true rfl, Nat.le_of_ble_eq_true rfl⟩ dX5_wakeUntil_12 (fun r3_ S4_ H locs hp Y => ?_)
    obtain ⟨r5_, rfl, h⟩ := hp
    refine W.eq (g2 := F0 m 15 ls [va_rf r5_]) rfl ?_
    refine q_astore_n (i := 3) (lv' := [(3, va_rf r5_), (0, .ref a0), (1, .int x1), (2, .int x2)]) hx hb dX5_wakeUntil_15 rfl hl (by decide) (by first | rfl | simp [q_cat, q_catI, q_catJ, q_catR]) (fun ls hl => ?_)
    refine q_aload_n hx hb dX5_wakeUntil_16 rfl (lv_at hl 0 rfl) ?_
    refine q_ifnonnull (r := r5_) (tgt := 21) hx hb dX5_wakeUntil_17 (by decide) (fun c6_ => ?_) (fun c6_ => ?_)
    · replace h := h.1 c6_
      refine q_aload_n hx hb dX5_wakeUntil_21 rfl (lv_at hl 0 rfl) ?_
      obtain ⟨a7_, e8_, h⟩ := h
      refine q_nn [] e8_ ?_
      obtain ⟨k9_, h⟩ := h
      refine q_getI X Y kX7 18 rfl fl_X5_111 k9_ dX5_wakeUntil_22 ?_
      refine lv_sipush (v := 128) hx hb dX5_wakeUntil_25 (by decide) ?_
      refine lv_icmp_ne (tgt := 39) hx hb dX5_wakeUntil_28 (by decide) (fun c10_ => ?_) (fun c10_ => ?_)
      · replace h := h.1 c10_
        refine lv_aload_n hx hb dX5_wakeUntil_39 rfl (lv_at hl 1 rfl) ?_
        refine q_aload_n hx hb dX5_wakeUntil_40 rfl (lv_at hl 0 rfl) ?_
        refine lv_iconst (v := 4) hx hb dX5_wakeUntil_41 (by decide) ?_
        obtain ⟨k11_, h⟩ := h
        refine q_callV X Y hl (cm_X5_answerWaiter h) mt_X5_answerWaiter mi_X5_answerWaiter ml_X5_169 (ci := 5) rfl k11_ (by decide) rfl rfl (by first | exact Nat.le_of_ble_eq_true rfl | simp [q_cat, q_catI, q_catJ, q_catR]) ⟨Nat.le_of_ble_eq_true rfl, Nat.le_of_ble_eq_true rfl⟩ ⟨Nat.le_of_ble_eq_true rfl, Nat.le_of_ble_eq_true rfl⟩ dX5_wakeUntil_42 (fun r12_ S13_ H locs hp Y => ?_)
        obtain ⟨rfl, h⟩ := hp
        refine W.eq (g2 := F0 m 45 ls []) rfl ?_
        exact cb_X5_wakeUntil_45 X hB2 Y (lv_sub hl [1, 2, 3] rfl) h
      · replace h := h.2 c10_
        refine lv_aload_n hx hb dX5_wakeUntil_31 rfl (lv_at hl 1 rfl) ?_
        refine q_aload_n hx hb dX5_wakeUntil_32 rfl (lv_at hl 0 rfl) ?_
        obtain ⟨k14_, h⟩ := h
        refine q_callV X Y hl (cm_X5_makeReady h) mt_X5_makeReady mi_X5_makeReady ml_X5_117 (ci := 5) rfl k14_ (by decide) rfl rfl (by first | exact Nat.le_of_ble_eq_true rfl | simp [q_cat, q_catI, q_catJ, q_catR]) ⟨Nat.le_of_ble_eq_true rfl, Nat.le_of_ble_eq_true rfl⟩ ⟨Nat.le_of_ble_eq_true rfl, Nat.le_of_ble_eq_true rfl⟩ dX5_wakeUntil_33 (fun r15_ S16_ H locs hp Y => ?_)
        obtain ⟨rfl, h⟩ := hp
        refine W.eq (g2 := F0 m 36 ls []) rfl ?_
        refine lv_goto (tgt := 45) hx hb dX5_wakeUntil_36 (by decide) ?_
        exact cb_X5_wakeUntil_45 X hB2 Y (lv_sub hl [1, 2, 3] rfl) h
    · replace h := h.2 c6_
      exact q_vret X Y (Nat.le_refl _) (Nat.le_refl _) h dX5_wakeUntil_20
def wl_X5_wakeUntil_2  : Nat → q_S → Nat → Int32 → Int32 → (Option Value → q_S → Prop) → Prop
  | 0, _, _, _, _, _ => False
  | n + 1, S, a0, x1, x2, Q => wb_X5_wakeUntil_2 (fun S a0 x1 x2 => wl_X5_wakeUntil_2 n S a0 x1 x2 Q) S a0 x1 x2 Q
set_option maxHeartbeats 4000000 in
set_option maxRecDepth 100000 in
theorem cl_X5_wakeUntil_2 {p : Program} {l : Launch} {e : Env} {s : State} {m : MethodId} {args : Array Value} {below : List Frame} {meth : Method} {c : Code} {D : va_G} {cy : Nat → ClassId} {lo : Nat}  {Q : Option Value → q_S → Prop} (X : q_X p s m args meth c RX5 cX5_wakeUntil 4 none D cy lo)  : ∀ (n : Nat) (S : q_S) (a0 : Nat) (x1 : Int32) (x2 : Int32) (H : Heap) (locs : List Loc) (ls : Array Slot), wl_X5_wakeUntil_2 n S a0 x1 x2 Q → q_Y D cy lo s S H locs → lv_has ls 4 [(0, .ref a0), (1, .int x1), (2, .int x2)] → W p l e ({ frames := 2, cells := 0, slots := 0, locals := 43 } : Room) s m args below meth c H locs 0 0 (MQ below (q_Q D cy lo Q) args s 0 0 (fun q => lo ≤ q)) (F0 m 2 ls []) := by
  intro n
  induction n with
  | zero => intro S a0 x1 x2 H locs ls h; exact absurd h id
  | succ n ih => intro S a0 x1 x2 H locs ls h Y hl; exact cb_X5_wakeUntil_2 X ih Y hl h
def wm_X5_wakeUntil (S : q_S) (a0 : Nat) (x1 : Int32) (Q : Option Value → q_S → Prop) : Prop := ∃ n17_ : Nat, wl_X5_wakeUntil_2 n17_ S a0 x1 (0 : Int32) Q
set_option maxHeartbeats 4000000 in
set_option maxRecDepth 100000 in
theorem cm_X5_wakeUntil {l : Launch} {D : va_G} {cy : Nat → ClassId} {lo : Nat} {S : q_S} {a0 : Nat} {x1 : Int32} {Q : Option Value → q_S → Prop} (h : wm_X5_wakeUntil S a0 x1 Q) : q_Met l D cy lo yX5_wakeUntil cX5_wakeUntil 4 none 2 43 0 0 [.ref a0, .int x1] S Q := by
  refine q_body (by decide) (by first | exact Nat.le_of_ble_eq_true rfl | simp [lg_sl, q_cat, q_catI, q_catJ, q_catR]) ?_
  intro p e s m below meth c ls X hnm Y hl
  have hx := X.1
  have hb := X.2.1
  have hl : lv_has ls 4 [(0, .ref a0), (1, .int x1)] := by first | exact hl | simpa [lv_args, q_cat, q_catI, q_catJ, q_catR] using hl
  generalize hargs : ([.ref a0, .int x1] : List Value).toArray = args at X ⊢
  unfold wm_X5_wakeUntil at h
  refine lv_iconst (v := 0) hx hb dX5_wakeUntil_0 (by decide) ?_
  refine lv_istore_n (i := 2) (lv' := [(2, .int (0 : Int32)), (0, .ref a0), (1, .int x1)]) hx hb dX5_wakeUntil_1 rfl hl (by decide) (by first | rfl | simp [q_cat, q_catI, q_catJ, q_catR]) (fun ls hl => ?_)
  obtain ⟨n17_, h⟩ := h
  exact cl_X5_wakeUntil_2 X n17_ _ _ _ _ _ _ _ h Y (lv_sub hl [1, 2, 0] rfl)
-- X5_chosen
theorem fl_X5_173 : Cond.fieldLink RX5 173 "PartitionWorks$Process" "held" "Z" ∈ q_G := q_tb (i := 896) (by decide +kernel) (by decide +kernel)
theorem dX5_chosen_0 : decode cX5_chosen 0 = .ok (.aload_n 0, 1) := by decide +kernel
theorem dX5_chosen_1 : decode cX5_chosen 1 = .ok (.aload_n 0, 1) := by decide +kernel
theorem dX5_chosen_2 : decode cX5_chosen 2 = .ok (.getfield 54, 3) := by decide +kernel
theorem dX5_chosen_5 : decode cX5_chosen 5 = .ok (.invokevirtual 101, 3) := by decide +kernel
theorem dX5_chosen_8 : decode cX5_chosen 8 = .ok (.astore_n 1, 1) := by decide +kernel
theorem dX5_chosen_9 : decode cX5_chosen 9 = .ok (.aload_n 1, 1) := by decide +kernel
theorem dX5_chosen_10 : decode cX5_chosen 10 = .ok (.ifnull 13, 3) := by decide +kernel
theorem dX5_chosen_13 : decode cX5_chosen 13 = .ok (.aload_n 1, 1) := by decide +kernel
theorem dX5_chosen_14 : decode cX5_chosen 14 = .ok (.getfield 105, 3) := by decide +kernel
theorem dX5_chosen_17 : decode cX5_chosen 17 = .ok (.iconst 1, 1) := by decide +kernel
theorem dX5_chosen_18 : decode cX5_chosen 18 = .ok (.if_icmp .ne 5, 3) := by decide +kernel
theorem dX5_chosen_21 : decode cX5_chosen 21 = .ok (.aload_n 1, 1) := by decide +kernel
theorem dX5_chosen_22 : decode cX5_chosen 22 = .ok (.areturn, 1) := by decide +kernel
theorem dX5_chosen_23 : decode cX5_chosen 23 = .ok (.aload_n 0, 1) := by decide +kernel
theorem dX5_chosen_24 : decode cX5_chosen 24 = .ok (.getfield 69, 3) := by decide +kernel
theorem dX5_chosen_27 : decode cX5_chosen 27 = .ok (.ifCond .le 14, 3) := by decide +kernel
theorem dX5_chosen_30 : decode cX5_chosen 30 = .ok (.aload_n 0, 1) := by decide +kernel
theorem dX5_chosen_31 : decode cX5_chosen 31 = .ok (.aload_n 0, 1) := by decide +kernel
theorem dX5_chosen_32 : decode cX5_chosen 32 = .ok (.getfield 72, 3) := by decide +kernel
theorem dX5_chosen_35 : decode cX5_chosen 35 = .ok (.invokevirtual 101, 3) := by decide +kernel
theorem dX5_chosen_38 : decode cX5_chosen 38 = .ok (.goto 4, 3) := by decide +kernel
theorem dX5_chosen_41 : decode cX5_chosen 41 = .ok (.aconst_null, 1) := by decide +kernel
theorem dX5_chosen_42 : decode cX5_chosen 42 = .ok (.astore_n 2, 1) := by decide +kernel
theorem dX5_chosen_43 : decode cX5_chosen 43 = .ok (.aload_n 2, 1) := by decide +kernel
theorem dX5_chosen_44 : decode cX5_chosen 44 = .ok (.ifnull 13, 3) := by decide +kernel
theorem dX5_chosen_47 : decode cX5_chosen 47 = .ok (.aload_n 2, 1) := by decide +kernel
theorem dX5_chosen_48 : decode cX5_chosen 48 = .ok (.getfield 105, 3) := by decide +kernel
theorem dX5_chosen_51 : decode cX5_chosen 51 = .ok (.iconst 1, 1) := by decide +kernel
theorem dX5_chosen_52 : decode cX5_chosen 52 = .ok (.if_icmp .ne 5, 3) := by decide +kernel
theorem dX5_chosen_55 : decode cX5_chosen 55 = .ok (.aload_n 2, 1) := by decide +kernel
theorem dX5_chosen_56 : decode cX5_chosen 56 = .ok (.areturn, 1) := by decide +kernel
theorem dX5_chosen_57 : decode cX5_chosen 57 = .ok (.aconst_null, 1) := by decide +kernel
theorem dX5_chosen_58 : decode cX5_chosen 58 = .ok (.astore_n 3, 1) := by decide +kernel
theorem dX5_chosen_59 : decode cX5_chosen 59 = .ok (.iconst 0, 1) := by decide +kernel
theorem dX5_chosen_60 : decode cX5_chosen 60 = .ok (.istore 4, 2) := by decide +kernel
theorem dX5_chosen_62 : decode cX5_chosen 62 = .ok (.iload 4, 2) := by decide +kernel
theorem dX5_chosen_64 : decode cX5_chosen 64 = .ok (.aload_n 0, 1) := by decide +kernel
theorem dX5_chosen_65 : decode cX5_chosen 65 = .ok (.getfield 45, 3) := by decide +kernel
theorem dX5_chosen_68 : decode cX5_chosen 68 = .ok (.if_icmp .ge 52, 3) := by decide +kernel
theorem dX5_chosen_71 : decode cX5_chosen 71 = .ok (.aload_n 0, 1) := by decide +kernel
theorem dX5_chosen_72 : decode cX5_chosen 72 = .ok (.getfield 20, 3) := by decide +kernel
theorem dX5_chosen_75 : decode cX5_chosen 75 = .ok (.iload 4, 2) := by decide +kernel
theorem dX5_chosen_77 : decode cX5_chosen 77 = .ok (.aaload, 1) := by decide +kernel
theorem dX5_chosen_78 : decode cX5_chosen 78 = .ok (.astore 5, 2) := by decide +kernel
theorem dX5_chosen_80 : decode cX5_chosen 80 = .ok (.aload 5, 2) := by decide +kernel
theorem dX5_chosen_82 : decode cX5_chosen 82 = .ok (.getfield 105, 3) := by decide +kernel
theorem dX5_chosen_85 : decode cX5_chosen 85 = .ok (.iconst 1, 1) := by decide +kernel
theorem dX5_chosen_86 : decode cX5_chosen 86 = .ok (.if_icmp .ne 28, 3) := by decide +kernel
theorem dX5_chosen_89 : decode cX5_chosen 89 = .ok (.aload 5, 2) := by decide +kernel
theorem dX5_chosen_91 : decode cX5_chosen 91 = .ok (.getfield 173, 3) := by decide +kernel
theorem dX5_chosen_94 : decode cX5_chosen 94 = .ok (.ifCond .ne 20, 3) := by decide +kernel
theorem dX5_chosen_97 : decode cX5_chosen 97 = .ok (.aload_n 3, 1) := by decide +kernel
theorem dX5_chosen_98 : decode cX5_chosen 98 = .ok (.ifnull 13, 3) := by decide +kernel
theorem dX5_chosen_101 : decode cX5_chosen 101 = .ok (.aload 5, 2) := by decide +kernel
theorem dX5_chosen_103 : decode cX5_chosen 103 = .ok (.aload_n 3, 1) := by decide +kernel
theorem dX5_chosen_104 : decode cX5_chosen 104 = .ok (.iconst 0, 1) := by decide +kernel
theorem dX5_chosen_105 : decode cX5_chosen 105 = .ok (.invokevirtual 176, 3) := by decide +kernel
theorem dX5_chosen_108 : decode cX5_chosen 108 = .ok (.ifCond .eq 6, 3) := by decide +kernel
theorem dX5_chosen_111 : decode cX5_chosen 111 = .ok (.aload 5, 2) := by decide +kernel
theorem dX5_chosen_113 : decode cX5_chosen 113 = .ok (.astore_n 3, 1) := by decide +kernel
theorem dX5_chosen_114 : decode cX5_chosen 114 = .ok (.iinc 4 1, 3) := by decide +kernel
theorem dX5_chosen_117 : decode cX5_chosen 117 = .ok (.goto (-55), 3) := by decide +kernel
theorem dX5_chosen_120 : decode cX5_chosen 120 = .ok (.aload_n 3, 1) := by decide +kernel
theorem dX5_chosen_121 : decode cX5_chosen 121 = .ok (.areturn, 1) := by decide +kernel
def wb_X5_chosen_114 (B62 : q_S → Nat → Option Nat → Int32 → Prop) (S : q_S) (a0 : Nat) (r3 : Option Nat) (x4 : Int32) (Q : Option Value → q_S → Prop) : Prop := B62 S a0 r3 (x4 + 1)
set_option maxHeartbeats 4000000 in
set_option maxRecDepth 100000 in
theorem cb_X5_chosen_114 {p : Program} {l : Launch} {e : Env} {s : State} {m : MethodId} {args : Array Value} {below : List Frame} {meth : Method} {c : Code} {D : va_G} {cy : Nat → ClassId} {lo : Nat} {B62 : q_S → Nat → Option Nat → Int32 → Prop} {S : q_S} {a0 : Nat} {r3 : Option Nat} {x4 : Int32} {Q : Option Value → q_S → Prop} {H : Heap} {locs : List Loc} {ls : Array Slot} (X : q_X p s m args meth c RX5 cX5_chosen 6 (some (.object "PartitionWorks$Process")) D cy lo) (hB62 : ∀ (S : q_S) (a0 : Nat) (r3 : Option Nat) (x4 : Int32) (H : Heap) (locs : List Loc) (ls : Array Slot), B62 S a0 r3 x4 → q_Y D cy lo s S H locs → lv_has ls 6 [(0, .ref a0), (3, va_rf r3), (4, .int x4)] → W p l e ({ frames := 1, cells := 0, slots := 0, locals := 22 } : Room) s m args below meth c H locs 0 0 (MQ below (q_Q D cy lo Q) args s 0 0 (fun q => lo ≤ q)) (F0 m 62 ls [])) (Y : q_Y D cy lo s S H locs) (hl : lv_has ls 6 [(0, .ref a0), (3, va_rf r3), (4, .int x4)]) (h : wb_X5_chosen_114 B62 S a0 r3 x4 Q) : W p l e ({ frames := 1, cells := 0, slots := 0, locals := 22 } : Room) s m args below meth c H locs 0 0 (MQ below (q_Q D cy lo Q) args s 0 0 (fun q => lo ≤ q)) (F0 m 114 ls []) := by
  have hx := X.1
  have hb := X.2.1
  unfold wb_X5_chosen_114 at h
  refine lv_iinc (v := (x4 + 1)) (lv' := [(4, .int (x4 + 1)), (0, .ref a0), (3, va_rf r3)]) hx hb dX5_chosen_114 hl (k := 2) rfl (by first | rfl | decide) (by decide) (by first | rfl | simp [q_cat, q_catI, q_catJ, q_catR]) (fun ls hl => ?_)
  refine lv_goto (tgt := 62) hx hb dX5_chosen_117 (by decide) ?_
  exact hB62 _ _ _ _ _ _ _ h Y (lv_sub hl [1, 2, 0] rfl)
def wb_X5_chosen_111 (B62 : q_S → Nat → Option Nat → Int32 → Prop) (S : q_S) (a0 : Nat) (x4 : Int32) (r5 : Option Nat) (Q : Option Value → q_S → Prop) : Prop := wb_X5_chosen_114 B62 S a0 r5 x4 Q
set_option maxHeartbeats 4000000 in
set_option maxRecDepth 100000 in
theorem cb_X5_chosen_111 {p : Program} {l : Launch} {e : Env} {s : State} {m : MethodId} {args : Array Value} {below : List Frame} {meth : Method} {c : Code} {D : va_G} {cy : Nat → ClassId} {lo : Nat} {B62 : q_S → Nat → Option Nat → Int32 → Prop} {S : q_S} {a0 : Nat} {x4 : Int32} {r5 : Option Nat} {Q : Option Value → q_S → Prop} {H : Heap} {locs : List Loc} {ls : Array Slot} (X : q_X p s m args meth c RX5 cX5_chosen 6 (some (.object "PartitionWorks$Process")) D cy lo) (hB62 : ∀ (S : q_S) (a0 : Nat) (r3 : Option Nat) (x4 : Int32) (H : Heap) (locs : List Loc) (ls : Array Slot), B62 S a0 r3 x4 → q_Y D cy lo s S H locs → lv_has ls 6 [(0, .ref a0), (3, va_rf r3), (4, .int x4)] → W p l e ({ frames := 1, cells := 0, slots := 0, locals := 22 } : Room) s m args below meth c H locs 0 0 (MQ below (q_Q D cy lo Q) args s 0 0 (fun q => lo ≤ q)) (F0 m 62 ls [])) (Y : q_Y D cy lo s S H locs) (hl : lv_has ls 6 [(0, .ref a0), (4, .int x4), (5, va_rf r5)]) (h : wb_X5_chosen_111 B62 S a0 x4 r5 Q) : W p l e ({ frames := 1, cells := 0, slots := 0, locals := 22 } : Room) s m args below meth c H locs 0 0 (MQ below (q_Q D cy lo Q) args s 0 0 (fun q => lo ≤ q)) (F0 m 111 ls []) := by
  have hx := X.1
  have hb := X.2.1
  unfold wb_X5_chosen_111 at h
  refine q_aload hx hb dX5_chosen_111 (lv_at hl 2 rfl) ?_
  refine q_astore_n (i := 3) (lv' := [(3, va_rf r5), (0, .ref a0), (4, .int x4), (5, va_rf r5)]) hx hb dX5_chosen_113 rfl hl (by decide) (by first | rfl | simp [q_cat, q_catI, q_catJ, q_catR]) (fun ls hl => ?_)
  exact cb_X5_chosen_114 X hB62 Y (lv_sub hl [1, 0, 2] rfl) h
def wb_X5_chosen_62 (B62 : q_S → Nat → Option Nat → Int32 → Prop) (S : q_S) (a0 : Nat) (r3 : Option Nat) (x4 : Int32) (Q : Option Value → q_S → Prop) : Prop := q_K S a0 = 6 ∧ ((((q_I S 1004 a0) ≤ x4 → (Q (some (va_rf r3)) S)) ∧ (¬ (q_I S 1004 a0) ≤ x4 → (∃ a3_ : Nat, (q_P S 1003 a0) = some a3_ ∧ (q_K S a3_ = 26 ∧ (vp_in x4 (q_N S a3_) ∧ (∃ a7_ : Nat, (q_C S a3_ x4.toNatClampNeg) = some a7_ ∧ (q_K S a7_ = 8 ∧ (((¬ (q_I S 1409 a7_) = (1 : Int32) → (wb_X5_chosen_114 B62 S a0 r3 x4 Q)) ∧ ((q_I S 1409 a7_) = (1 : Int32) → (((¬ (q_I S 1416 a7_) = 0 → (wb_X5_chosen_114 B62 S a0 r3 x4 Q)) ∧ ((q_I S 1416 a7_) = 0 → (((r3 = none → (wb_X5_chosen_111 B62 S a0 x4 (q_C S a3_ x4.toNatClampNeg) Q)) ∧ (¬ r3 = none → (wm_X7_isAheadOf S a7_ r3 (0 : Int32) (fun r13_ S14_ => ∃ x15_ : Int32, r13_ = some (.int x15_) ∧ (((x15_ = 0 → (wb_X5_chosen_114 B62 S14_ a0 r3 x4 Q)) ∧ (¬ x15_ = 0 → (wb_X5_chosen_111 B62 S14_ a0 x4 (q_C S a3_ x4.toNatClampNeg) Q)))))))))))))))))))))))
set_option maxHeartbeats 4000000 in
set_option maxRecDepth 100000 in
theorem cb_X5_chosen_62 {p : Program} {l : Launch} {e : Env} {s : State} {m : MethodId} {args : Array Value} {below : List Frame} {meth : Method} {c : Code} {D : va_G} {cy : Nat → ClassId} {lo : Nat} {B62 : q_S → Nat → Option Nat → Int32 → Prop} {S : q_S} {a0 : Nat} {r3 : Option Nat} {x4 : Int32} {Q : Option Value → q_S → Prop} {H : Heap} {locs : List Loc} {ls : Array Slot} (X : q_X p s m args meth c RX5 cX5_chosen 6 (some (.object "PartitionWorks$Process")) D cy lo) (hB62 : ∀ (S : q_S) (a0 : Nat) (r3 : Option Nat) (x4 : Int32) (H : Heap) (locs : List Loc) (ls : Array Slot), B62 S a0 r3 x4 → q_Y D cy lo s S H locs → lv_has ls 6 [(0, .ref a0), (3, va_rf r3), (4, .int x4)] → W p l e ({ frames := 1, cells := 0, slots := 0, locals := 22 } : Room) s m args below meth c H locs 0 0 (MQ below (q_Q D cy lo Q) args s 0 0 (fun q => lo ≤ q)) (F0 m 62 ls [])) (Y : q_Y D cy lo s S H locs) (hl : lv_has ls 6 [(0, .ref a0), (3, va_rf r3), (4, .int x4)]) (h : wb_X5_chosen_62 B62 S a0 r3 x4 Q) : W p l e ({ frames := 1, cells := 0, slots := 0, locals := 22 } : Room) s m args below meth c H locs 0 0 (MQ below (q_Q D cy lo Q) args s 0 0 (fun q => lo ≤ q)) (F0 m 62 ls []) := by
  have hx := X.1
  have hb := X.2.1
  unfold wb_X5_chosen_62 at h
  refine lv_iload hx hb dX5_chosen_62 (lv_at hl 2 rfl) ?_
  refine lv_aload_n hx hb dX5_chosen_64 rfl (lv_at hl 0 rfl) ?_
  obtain ⟨k1_, h⟩ := h
  refine q_getI X Y kX5 4 rfl fl_X5_45 k1_ dX5_chosen_65 ?_
  refine lv_icmp_ge (tgt := 120) hx hb dX5_chosen_68 (by decide) (fun c2_ => ?_) (fun c2_ => ?_)
  · replace h := h.1 c2_
    refine q_aload_n hx hb dX5_chosen_120 rfl (lv_at hl 1 rfl) ?_
    exact q_aret X Y (Or.inl ⟨_, rfl⟩) (va_rf_or _) (Nat.le_refl _) (Nat.le_refl _) h dX5_chosen_121
  · replace h := h.2 c2_
    refine lv_aload_n hx hb dX5_chosen_71 rfl (lv_at hl 0 rfl) ?_
    refine q_getP X Y kX5 3 rfl fl_X5_20 k1_ rfl dX5_chosen_72 ?_
    refine lv_iload hx hb dX5_chosen_75 (lv_at hl 2 rfl) ?_
    obtain ⟨a3_, e4_, h⟩ := h
    refine q_nn [.int x4] e4_ ?_
    obtain ⟨k5_, h⟩ := h
    obtain ⟨i6_, h⟩ := h
    refine q_cld X Y k5_ (by decide) (t := 6) rfl i6_ rfl dX5_chosen_77 ?_
    refine q_astore (i := 5) (lv' := [(5, va_rf (q_C S a3_ x4.toNatClampNeg)), (0, .ref a0), (3, va_rf r3), (4, .int x4)]) hx hb dX5_chosen_78 hl (by decide) (by first | rfl | simp [q_cat, q_catI, q_catJ, q_catR]) (fun ls hl => ?_)
    refine q_aload hx hb dX5_chosen_80 (lv_at hl 0 rfl) ?_
    obtain ⟨a7_, e8_, h⟩ := h
    refine q_nn [] e8_ ?_
    obtain ⟨k9_, h⟩ := h
    refine q_getI X Y kX7 9 rfl fl_X5_105 k9_ dX5_chosen_82 ?_
    refine lv_iconst (v := 1) hx hb dX5_chosen_85 (by decide) ?_
    refine lv_icmp_ne (tgt := 114) hx hb dX5_chosen_86 (by decide) (fun c10_ => ?_) (fun c10_ => ?_)
    · replace h := h.1 c10_
      exact cb_X5_chosen_114 X hB62 Y (lv_sub hl [1, 2, 3] rfl) h
    · replace h := h.2 c10_
      refine q_aload hx hb dX5_chosen_89 (lv_at hl 0 rfl) ?_
      refine q_nn [] e8_ ?_
      refine q_getI X Y kX7 16 rfl fl_X5_173 k9_ dX5_chosen_91 ?_
      refine lv_if_ne (tgt := 114) hx hb dX5_chosen_94 (by decide) (fun c11_ => ?_) (fun c11_ => ?_)
      · replace h := h.1 c11_
        exact cb_X5_chosen_114 X hB62 Y (lv_sub hl [1, 2, 3] rfl) h
      · replace h := h.2 c11_
        refine q_aload_n hx hb dX5_chosen_97 rfl (lv_at hl 2 rfl) ?_
        refine q_ifnull (r := r3) (tgt := 111) hx hb dX5_chosen_98 (by decide) (fun c12_ => ?_) (fun c12_ => ?_)
        · replace h := h.1 c12_
          exact cb_X5_chosen_111 X hB62 Y (lv_sub hl [1, 3, 0] rfl) h
        · replace h := h.2 c12_
          refine q_aload hx hb dX5_chosen_101 (lv_at hl 0 rfl) ?_
          refine q_aload_n hx hb dX5_chosen_103 rfl (lv_at hl 2 rfl) ?_
          refine lv_iconst (v := 0) hx hb dX5_chosen_104 (by decide) ?_
          refine q_nn [.int (0 : Int32), va_rf r3] e8_ ?_
          refine q_callV X Y hl (cm_X7_isAheadOf h) mt_X7_isAheadOf mi_X7_isAheadOf ml_X5_176 (ci := 7) rfl k9_ (by decide) rfl rfl (by first | exact Nat.le_of_ble_eq_true rfl | simp [q_cat, q_catI, q_catJ, q_catR]) ⟨Nat.le_of_ble_eq_true rfl, Nat.le_of_ble_eq_true rfl⟩ ⟨Nat.le_of_ble_eq_true rfl, Nat.le_of_ble_eq_true rfl⟩ dX5_chosen_105 (fun r13_ S14_ H locs hp Y => ?_)
          obtain ⟨x15_, rfl, h⟩ := hp
          refine W.eq (g2 := F0 m 108 ls [.int x15_]) rfl ?_
          refine lv_if_eq (tgt := 114) hx hb dX5_chosen_108 (by decide) (fun c16_ => ?_) (fun c16_ => ?_)
          · replace h := h.1 c16_
            exact cb_X5_chosen_114 X hB62 Y (lv_sub hl [1, 2, 3] rfl) h
          · replace h := h.2 c16_
            exact cb_X5_chosen_111 X hB62 Y (lv_sub hl [1, 3, 0] rfl) h
def wl_X5_chosen_62  : Nat → q_S → Nat → Option Nat → Int32 → (Option Value → q_S → Prop) → Prop
  | 0, _, _, _, _, _ => False
  | n + 1, S, a0, r3, x4, Q => wb_X5_chosen_62 (fun S a0 r3 x4 => wl_X5_chosen_62 n S a0 r3 x4 Q) S a0 r3 x4 Q
set_option maxHeartbeats 4000000 in
set_option maxRecDepth 100000 in
theorem cl_X5_chosen_62 {p : Program} {l : Launch} {e : Env} {s : State} {m : MethodId} {args : Array Value} {below : List Frame} {meth : Method} {c : Code} {D : va_G} {cy : Nat → ClassId} {lo : Nat}  {Q : Option Value → q_S → Prop} (X : q_X p s m args meth c RX5 cX5_chosen 6 (some (.object "PartitionWorks$Process")) D cy lo)  : ∀ (n : Nat) (S : q_S) (a0 : Nat) (r3 : Option Nat) (x4 : Int32) (H : Heap) (locs : List Loc) (ls : Array Slot), wl_X5_chosen_62 n S a0 r3 x4 Q → q_Y D cy lo s S H locs → lv_has ls 6 [(0, .ref a0), (3, va_rf r3), (4, .int x4)] → W p l e ({ frames := 1, cells := 0, slots := 0, locals := 22 } : Room) s m args below meth c H locs 0 0 (MQ below (q_Q D cy lo Q) args s 0 0 (fun q => lo ≤ q)) (F0 m 62 ls []) := by
  intro n
  induction n with
  | zero => intro S a0 r3 x4 H locs ls h; exact absurd h id
  | succ n ih => intro S a0 r3 x4 H locs ls h Y hl; exact cb_X5_chosen_62 X ih Y hl h
def wb_X5_chosen_57  (S : q_S) (a0 : Nat) (Q : Option Value → q_S → Prop) : Prop := ∃ n17_ : Nat, wl_X5_chosen_62 n17_ S a0 none (0 : Int32) Q
set_option maxHeartbeats 4000000 in
set_option maxRecDepth 100000 in
theorem cb_X5_chosen_57 {p : Program} {l : Launch} {e : Env} {s : State} {m : MethodId} {args : Array Value} {below : List Frame} {meth : Method} {c : Code} {D : va_G} {cy : Nat → ClassId} {lo : Nat}  {S : q_S} {a0 : Nat} {Q : Option Value → q_S → Prop} {H : Heap} {locs : List Loc} {ls : Array Slot} (X : q_X p s m args meth c RX5 cX5_chosen 6 (some (.object "PartitionWorks$Process")) D cy lo)  (Y : q_Y D cy lo s S H locs) (hl : lv_has ls 6 [(0, .ref a0)]) (h : wb_X5_chosen_57 S a0 Q) : W p l e ({ frames := 1, cells := 0, slots := 0, locals := 22 } : Room) s m args below meth c H locs 0 0 (MQ below (q_Q D cy lo Q) args s 0 0 (fun q => lo ≤ q)) (F0 m 57 ls []) := by
  have hx := X.1
  have hb := X.2.1
  unfold wb_X5_chosen_57 at h
  refine lv_null hx hb dX5_chosen_57 ?_
  refine W.eq (g2 := F0 m 58 ls [va_rf none]) rfl ?_
  refine q_astore_n (i := 3) (lv' := [(3, va_rf none), (0, .ref a0)]) hx hb dX5_chosen_58 rfl hl (by decide) (by first | rfl | simp [q_cat, q_catI, q_catJ, q_catR]) (fun ls hl => ?_)
  refine lv_iconst (v := 0) hx hb dX5_chosen_59 (by decide) ?_
  refine lv_istore (i := 4) (lv' := [(4, .int (0 : Int32)), (3, va_rf none), (0, .ref a0)]) hx hb dX5_chosen_60 hl (by decide) (by first | rfl | simp [q_cat, q_catI, q_catJ, q_catR]) (fun ls hl => ?_)
  obtain ⟨n17_, h⟩ := h
  exact cl_X5_chosen_62 X n17_ _ _ _ _ _ _ _ h Y (lv_sub hl [2, 1, 0] rfl)
def wb_X5_chosen_42  (S : q_S) (a0 : Nat) (rs0 : Option Nat) (Q : Option Value → q_S → Prop) : Prop := ((rs0 = none → (wb_X5_chosen_57 S a0 Q)) ∧ (¬ rs0 = none → (∃ a19_ : Nat, rs0 = some a19_ ∧ (q_K S a19_ = 8 ∧ (((¬ (q_I S 1409 a19_) = (1 : Int32) → (wb_X5_chosen_57 S a0 Q)) ∧ ((q_I S 1409 a19_) = (1 : Int32) → (Q (some (va_rf rs0)) S))))))))
set_option maxHeartbeats 4000000 in
set_option maxRecDepth 100000 in
theorem cb_X5_chosen_42 {p : Program} {l : Launch} {e : Env} {s : State} {m : MethodId} {args : Array Value} {below : List Frame} {meth : Method} {c : Code} {D : va_G} {cy : Nat → ClassId} {lo : Nat}  {S : q_S} {a0 : Nat} {rs0 : Option Nat} {Q : Option Value → q_S → Prop} {H : Heap} {locs : List Loc} {ls : Array Slot} (X : q_X p s m args meth c RX5 cX5_chosen 6 (some (.object "PartitionWorks$Process")) D cy lo)  (Y : q_Y D cy lo s S H locs) (hl : lv_has ls 6 [(0, .ref a0)]) (h : wb_X5_chosen_42 S a0 rs0 Q) : W p l e ({ frames := 1, cells := 0, slots := 0, locals := 22 } : Room) s m args below meth c H locs 0 0 (MQ below (q_Q D cy lo Q) args s 0 0 (fun q => lo ≤ q)) (F0 m 42 ls [va_rf rs0]) := by
  have hx := X.1
  have hb := X.2.1
  unfold wb_X5_chosen_42 at h
  refine q_astore_n (i := 2) (lv' := [(2, va_rf rs0), (0, .ref a0)]) hx hb dX5_chosen_42 rfl hl (by decide) (by first | rfl | simp [q_cat, q_catI, q_catJ, q_catR]) (fun ls hl => ?_)
  refine q_aload_n hx hb dX5_chosen_43 rfl (lv_at hl 0 rfl) ?_
  refine q_ifnull (r := rs0) (tgt := 57) hx hb dX5_chosen_44 (by decide) (fun c18_ => ?_) (fun c18_ => ?_)
  · replace h := h.1 c18_
    exact cb_X5_chosen_57 X Y (lv_sub hl [1] rfl) h
  · replace h := h.2 c18_
    refine q_aload_n hx hb dX5_chosen_47 rfl (lv_at hl 0 rfl) ?_
    obtain ⟨a19_, e20_, h⟩ := h
    refine q_nn [] e20_ ?_
    obtain ⟨k21_, h⟩ := h
    refine q_getI X Y kX7 9 rfl fl_X5_105 k21_ dX5_chosen_48 ?_
    refine lv_iconst (v := 1) hx hb dX5_chosen_51 (by decide) ?_
    refine lv_icmp_ne (tgt := 57) hx hb dX5_chosen_52 (by decide) (fun c22_ => ?_) (fun c22_ => ?_)
    · replace h := h.1 c22_
      exact cb_X5_chosen_57 X Y (lv_sub hl [1] rfl) h
    · replace h := h.2 c22_
      refine q_aload_n hx hb dX5_chosen_55 rfl (lv_at hl 0 rfl) ?_
      exact q_aret X Y (Or.inl ⟨_, rfl⟩) (va_rf_or _) (Nat.le_refl _) (Nat.le_refl _) h dX5_chosen_56
def wb_X5_chosen_23  (S : q_S) (a0 : Nat) (Q : Option Value → q_S → Prop) : Prop := q_K S a0 = 6 ∧ ((((q_I S 1013 a0) ≤ 0 → (wb_X5_chosen_42 S a0 none Q)) ∧ (¬ (q_I S 1013 a0) ≤ 0 → (wm_X5_processAt S a0 (q_I S 1014 a0) (fun r25_ S26_ => ∃ r27_ : Option Nat, r25_ = some (va_rf r27_) ∧ (wb_X5_chosen_42 S26_ a0 r27_ Q))))))
set_option maxHeartbeats 4000000 in
set_option maxRecDepth 100000 in
theorem cb_X5_chosen_23 {p : Program} {l : Launch} {e : Env} {s : State} {m : MethodId} {args : Array Value} {below : List Frame} {meth : Method} {c : Code} {D : va_G} {cy : Nat → ClassId} {lo : Nat}  {S : q_S} {a0 : Nat} {Q : Option Value → q_S → Prop} {H : Heap} {locs : List Loc} {ls : Array Slot} (X : q_X p s m args meth c RX5 cX5_chosen 6 (some (.object "PartitionWorks$Process")) D cy lo)  (Y : q_Y D cy lo s S H locs) (hl : lv_has ls 6 [(0, .ref a0)]) (h : wb_X5_chosen_23 S a0 Q) : W p l e ({ frames := 1, cells := 0, slots := 0, locals := 22 } : Room) s m args below meth c H locs 0 0 (MQ below (q_Q D cy lo Q) args s 0 0 (fun q => lo ≤ q)) (F0 m 23 ls []) := by
  have hx := X.1
  have hb := X.2.1
  unfold wb_X5_chosen_23 at h
  refine lv_aload_n hx hb dX5_chosen_23 rfl (lv_at hl 0 rfl) ?_
  obtain ⟨k23_, h⟩ := h
  refine q_getI X Y kX5 13 rfl fl_X5_69 k23_ dX5_chosen_24 ?_
  refine lv_if_le (tgt := 41) hx hb dX5_chosen_27 (by decide) (fun c24_ => ?_) (fun c24_ => ?_)
  · replace h := h.1 c24_
    refine lv_null hx hb dX5_chosen_41 ?_
    refine W.eq (g2 := F0 m 42 ls [va_rf none]) rfl ?_
    exact cb_X5_chosen_42 X Y (lv_sub hl [0] rfl) h
  · replace h := h.2 c24_
    refine lv_aload_n hx hb dX5_chosen_30 rfl (lv_at hl 0 rfl) ?_
    refine lv_aload_n hx hb dX5_chosen_31 rfl (lv_at hl 0 rfl) ?_
    refine q_getI X Y kX5 14 rfl fl_X5_72 k23_ dX5_chosen_32 ?_
    refine q_callV X Y hl (cm_X5_processAt h) mt_X5_processAt mi_X5_processAt ml_X5_101 (ci := 5) rfl k23_ (by decide) rfl rfl (by first | exact Nat.le_of_ble_eq_true rfl | simp [q_cat, q_catI, q_catJ, q_catR]) ⟨Nat.le_of_ble_eq_true rfl, Nat.le_of_ble_eq_true rfl⟩ ⟨Nat.le_of_ble_eq_true rfl, Nat.le_of_ble_eq_true rfl⟩ dX5_chosen_35 (fun r25_ S26_ H locs hp Y => ?_)
    obtain ⟨r27_, rfl, h⟩ := hp
    refine W.eq (g2 := F0 m 38 ls [va_rf r27_]) rfl ?_
    refine lv_goto (tgt := 42) hx hb dX5_chosen_38 (by decide) ?_
    exact cb_X5_chosen_42 X Y (lv_sub hl [0] rfl) h
def wm_X5_chosen (S : q_S) (a0 : Nat) (Q : Option Value → q_S → Prop) : Prop := q_K S a0 = 6 ∧ (wm_X5_processAt S a0 (q_I S 1008 a0) (fun r29_ S30_ => ∃ r31_ : Option Nat, r29_ = some (va_rf r31_) ∧ (((r31_ = none → (wb_X5_chosen_23 S30_ a0 Q)) ∧ (¬ r31_ = none → (∃ a33_ : Nat, r31_ = some a33_ ∧ (q_K S30_ a33_ = 8 ∧ (((¬ (q_I S30_ 1409 a33_) = (1 : Int32) → (wb_X5_chosen_23 S30_ a0 Q)) ∧ ((q_I S30_ 1409 a33_) = (1 : Int32) → (Q (some (va_rf r31_)) S30_)))))))))))
set_option maxHeartbeats 4000000 in
set_option maxRecDepth 100000 in
theorem cm_X5_chosen {l : Launch} {D : va_G} {cy : Nat → ClassId} {lo : Nat} {S : q_S} {a0 : Nat} {Q : Option Value → q_S → Prop} (h : wm_X5_chosen S a0 Q) : q_Met l D cy lo yX5_chosen cX5_chosen 6 (some (.object "PartitionWorks$Process")) 1 22 0 0 [.ref a0] S Q := by
  refine q_body (by decide) (by first | exact Nat.le_of_ble_eq_true rfl | simp [lg_sl, q_cat, q_catI, q_catJ, q_catR]) ?_
  intro p e s m below meth c ls X hnm Y hl
  have hx := X.1
  have hb := X.2.1
  have hl : lv_has ls 6 [(0, .ref a0)] := by first | exact hl | simpa [lv_args, q_cat, q_catI, q_catJ, q_catR] using hl
  generalize hargs : ([.ref a0] : List Value).toArray = args at X ⊢
  unfold wm_X5_chosen at h
  refine lv_aload_n hx hb dX5_chosen_0 rfl (lv_at hl 0 rfl) ?_
  refine lv_aload_n hx hb dX5_chosen_1 rfl (lv_at hl 0 rfl) ?_
  obtain ⟨k28_, h⟩ := h
  refine q_getI X Y kX5 8 rfl fl_X5_54 k28_ dX5_chosen_2 ?_
  refine q_callV X Y hl (cm_X5_processAt h) mt_X5_processAt mi_X5_processAt ml_X5_101 (ci := 5) rfl k28_ (by decide) rfl rfl (by first | exact Nat.le_of_ble_eq_true rfl | simp [q_cat, q_catI, q_catJ, q_catR]) ⟨Nat.le_of_ble_eq_true rfl, Nat.le_of_ble_eq_true rfl⟩ ⟨Nat.le_of_ble_eq_true rfl, Nat.le_of_ble_eq_true rfl⟩ dX5_chosen_5 (fun r29_ S30_ H locs hp Y => ?_)
  obtain ⟨r31_, rfl, h⟩ := hp
  refine W.eq (g2 := F0 m 8 ls [va_rf r31_]) rfl ?_
  refine q_astore_n (i := 1) (lv' := [(1, va_rf r31_), (0, .ref a0)]) hx hb dX5_chosen_8 rfl hl (by decide) (by first | rfl | simp [q_cat, q_catI, q_catJ, q_catR]) (fun ls hl => ?_)
  refine q_aload_n hx hb dX5_chosen_9 rfl (lv_at hl 0 rfl) ?_
  refine q_ifnull (r := r31_) (tgt := 23) hx hb dX5_chosen_10 (by decide) (fun c32_ => ?_) (fun c32_ => ?_)
  · replace h := h.1 c32_
    exact cb_X5_chosen_23 X Y (lv_sub hl [1] rfl) h
  · replace h := h.2 c32_
    refine q_aload_n hx hb dX5_chosen_13 rfl (lv_at hl 0 rfl) ?_
    obtain ⟨a33_, e34_, h⟩ := h
    refine q_nn [] e34_ ?_
    obtain ⟨k35_, h⟩ := h
    refine q_getI X Y kX7 9 rfl fl_X5_105 k35_ dX5_chosen_14 ?_
    refine lv_iconst (v := 1) hx hb dX5_chosen_17 (by decide) ?_
    refine lv_icmp_ne (tgt := 23) hx hb dX5_chosen_18 (by decide) (fun c36_ => ?_) (fun c36_ => ?_)
    · replace h := h.1 c36_
      exact cb_X5_chosen_23 X Y (lv_sub hl [1] rfl) h
    · replace h := h.2 c36_
      refine q_aload_n hx hb dX5_chosen_21 rfl (lv_at hl 0 rfl) ?_
      exact q_aret X Y (Or.inl ⟨_, rfl⟩) (va_rf_or _) (Nat.le_refl _) (Nat.le_refl _) h dX5_chosen_22
-- X6_init
theorem ml_X6_3 : Cond.methodLink RX6 3 Lib.objectInit ∈ q_G := q_tb (i := 48) (by decide +kernel) (by decide +kernel)
theorem cl_X6_9 : Cond.classLink RX6 9 RX5 ∈ q_G := q_tb (i := 49) (by decide +kernel) (by decide +kernel)
theorem fl_X6_11 : Cond.fieldLink RX6 11 "PartitionWorks$Plan" "partitions" "[LPartitionWorks$Partition;" ∈ q_G := q_tb (i := 75) (by decide +kernel) (by decide +kernel)
theorem cl_X6_17 : Cond.classLink RX6 17 RX1 ∈ q_G := q_tb (i := 51) (by decide +kernel) (by decide +kernel)
theorem fl_X6_23 : Cond.fieldLink RX6 23 "PartitionWorks$Plan" "inputs" "[I" ∈ q_G := q_tb (i := 85) (by decide +kernel) (by decide +kernel)
theorem cl_X6_33 : Cond.classLink RX6 33 RX2 ∈ q_G := q_tb (i := 53) (by decide +kernel) (by decide +kernel)
theorem ib_X2 : Cond.instantiable RX2 4 ∈ q_G := q_tb (i := 54) (by decide +kernel) (by decide +kernel)
theorem in_X2 : Cond.initialized RX2 ∈ q_G := q_tb (i := 4) (by decide +kernel) (by decide +kernel)
theorem dv_X2 : ∀ k, k < 4 → defaultValue (tyX2 k) = vp_V ((q_F 2).map (fun q => q_dv q.1)) k := by decide +kernel
theorem mn_X6_35 : Cond.methodLinkNest RX6 35 yX2_init "PartitionWorks" ∈ q_Nw := List.mem_filter.mpr ⟨List.mem_of_getElem? (i := 55) (by decide +kernel), rfl⟩
theorem mt_X2_init : q_Mt yX2_init cX2_init 1 none 0 := ⟨q_tb (i := 57) (by decide +kernel) (by decide +kernel), q_tb (i := 4) (by decide +kernel) (by decide +kernel), by decide +kernel, by decide +kernel, by decide +kernel⟩
theorem mj_X2_init : Cond.instanceMethod yX2_init ∈ q_G := q_tb (i := 56) (by decide +kernel) (by decide +kernel)
theorem dX6_init_0 : decode cX6_init 0 = .ok (.aload_n 0, 1) := by decide +kernel
theorem dX6_init_1 : decode cX6_init 1 = .ok (.invokespecial 3, 3) := by decide +kernel
theorem dX6_init_4 : decode cX6_init 4 = .ok (.aload_n 0, 1) := by decide +kernel
theorem dX6_init_5 : decode cX6_init 5 = .ok (.bipush 16, 2) := by decide +kernel
theorem dX6_init_7 : decode cX6_init 7 = .ok (.anewarray 9, 3) := by decide +kernel
theorem dX6_init_10 : decode cX6_init 10 = .ok (.putfield 11, 3) := by decide +kernel
theorem dX6_init_13 : decode cX6_init 13 = .ok (.aload_n 0, 1) := by decide +kernel
theorem dX6_init_14 : decode cX6_init 14 = .ok (.bipush 24, 2) := by decide +kernel
theorem dX6_init_16 : decode cX6_init 16 = .ok (.anewarray 17, 3) := by decide +kernel
theorem dX6_init_19 : decode cX6_init 19 = .ok (.putfield 19, 3) := by decide +kernel
theorem dX6_init_22 : decode cX6_init 22 = .ok (.aload_n 0, 1) := by decide +kernel
theorem dX6_init_23 : decode cX6_init 23 = .ok (.bipush 24, 2) := by decide +kernel
theorem dX6_init_25 : decode cX6_init 25 = .ok (.newarray .int, 2) := by decide +kernel
theorem dX6_init_27 : decode cX6_init 27 = .ok (.putfield 23, 3) := by decide +kernel
theorem dX6_init_30 : decode cX6_init 30 = .ok (.aload_n 0, 1) := by decide +kernel
theorem dX6_init_31 : decode cX6_init 31 = .ok (.bipush 24, 2) := by decide +kernel
theorem dX6_init_33 : decode cX6_init 33 = .ok (.newarray .int, 2) := by decide +kernel
theorem dX6_init_35 : decode cX6_init 35 = .ok (.putfield 27, 3) := by decide +kernel
theorem dX6_init_38 : decode cX6_init 38 = .ok (.aload_n 0, 1) := by decide +kernel
theorem dX6_init_39 : decode cX6_init 39 = .ok (.bipush 24, 2) := by decide +kernel
theorem dX6_init_41 : decode cX6_init 41 = .ok (.newarray .int, 2) := by decide +kernel
theorem dX6_init_43 : decode cX6_init 43 = .ok (.putfield 30, 3) := by decide +kernel
theorem dX6_init_46 : decode cX6_init 46 = .ok (.aload_n 0, 1) := by decide +kernel
theorem dX6_init_47 : decode cX6_init 47 = .ok (.new 33, 3) := by decide +kernel
theorem dX6_init_50 : decode cX6_init 50 = .ok (.dup, 1) := by decide +kernel
theorem dX6_init_51 : decode cX6_init 51 = .ok (.invokespecial 35, 3) := by decide +kernel
theorem dX6_init_54 : decode cX6_init 54 = .ok (.putfield 36, 3) := by decide +kernel
theorem dX6_init_57 : decode cX6_init 57 = .ok (.return_, 1) := by decide +kernel
def wm_X6_init (bc bs : Nat) (S : q_S) (a0 : Nat) (Q : Option Value → q_S → Prop) : Prop := (0 + 1 ≤ bc ∧ 0 + 16 ≤ bs) ∧ (∀ b1_ : Nat, q_K S b1_ = 0 → (q_K (qs_R S 25 16 b1_) a0 = 7 ∧ (((0 + 1) + 1 ≤ bc ∧ (0 + 16) + 24 ≤ bs) ∧ (∀ b7_ : Nat, q_K (qs_P (qs_R S 25 16 b1_) 1200 a0 (some b1_)) b7_ = 0 → (∀ S12_ : q_S, S12_ = (qs_R (qs_P (qs_R S 25 16 b1_) 1200 a0 (some b1_)) 24 24 b7_) → ((((0 + 1) + 1) + 1 ≤ bc ∧ ((0 + 16) + 24) + 24 ≤ bs) ∧ (∀ b13_ : Nat, q_K (qs_P S12_ 1202 a0 (some b7_)) b13_ = 0 → (∀ S18_ : q_S, S18_ = (qs_P (qs_R (qs_P S12_ 1202 a0 (some b7_)) 21 24 b13_) 1204 a0 (some b13_)) → (((((0 + 1) + 1) + 1) + 1 ≤ bc ∧ (((0 + 16) + 24) + 24) + 24 ≤ bs) ∧ (∀ b19_ : Nat, q_K S18_ b19_ = 0 → ((((((0 + 1) + 1) + 1) + 1) + 1 ≤ bc ∧ ((((0 + 16) + 24) + 24) + 24) + 24 ≤ bs) ∧ (∀ b24_ : Nat, q_K (qs_P (qs_R S18_ 21 24 b19_) 1207 a0 (some b19_)) b24_ = 0 → (∀ S29_ : q_S, S29_ = (qs_R (qs_P (qs_R S18_ 21 24 b19_) 1207 a0 (some b19_)) 21 24 b24_) → (((((((0 + 1) + 1) + 1) + 1) + 1) + 1 ≤ bc ∧ (((((0 + 16) + 24) + 24) + 24) + 24) + 4 ≤ bs) ∧ (∀ b30_ : Nat, q_K (qs_P S29_ 1208 a0 (some b24_)) b30_ = 0 → (∃ m37_ m38_ : Nat, (((((((0 + 1) + 1) + 1) + 1) + 1) + 1) + m37_ ≤ bc ∧ ((((((0 + 16) + 24) + 24) + 24) + 24) + 4) + m38_ ≤ bs) ∧ (wm_X2_init m37_ m38_ (qs_O (qs_P S29_ 1208 a0 (some b24_)) 2 b30_) b30_ (fun r35_ S36_ => r35_ = none ∧ (q_K S36_ a0 = 7 ∧ (Q none (qs_P S36_ 1210 a0 (some b30_))))))))))))))))))))))
set_option maxHeartbeats 4000000 in
set_option maxRecDepth 100000 in
theorem cm_X6_init {l : Launch} {D : va_G} {cy : Nat → ClassId} {lo : Nat} {bc bs : Nat} {S : q_S} {a0 : Nat} {Q : Option Value → q_S → Prop} (h : wm_X6_init bc bs S a0 Q) : q_Met l D cy lo yX6_init cX6_init 1 none 2 40 bc bs [.ref a0] S Q := by
  refine q_body (by decide) (by first | exact Nat.le_of_ble_eq_true rfl | simp [lg_sl, q_cat, q_catI, q_catJ, q_catR]) ?_
  intro p e s m below meth c ls X hnm Y hl
  have hx := X.1
  have hb := X.2.1
  have hl : lv_has ls 1 [(0, .ref a0)] := by first | exact hl | simpa [lv_args, q_cat, q_catI, q_catJ, q_catR] using hl
  generalize hargs : ([.ref a0] : List Value).toArray = args at X ⊢
  have hu : 0 ≤ bc ∧ 0 ≤ bs := ⟨Nat.zero_le _, Nat.zero_le _⟩
  unfold wm_X6_init at h
  refine lv_aload_n hx hb dX6_init_0 rfl (lv_at hl 0 rfl) ?_
  refine q_obj X hl ml_X6_3 oi_ oc_ ⟨Nat.le_of_ble_eq_true rfl, (by first | exact Nat.le_of_ble_eq_true rfl | simp [q_cat, q_catI, q_catJ, q_catR])⟩ dX6_init_1 ?_
  refine lv_aload_n hx hb dX6_init_4 rfl (lv_at hl 0 rfl) ?_
  refine lv_bipush (v := 16) hx hb dX6_init_5 (by decide) ?_
  obtain ⟨w4_, h⟩ := h
  refine q_newq X Y (k := 25) (t := 5) (n := 16) (by decide) rfl cl_X6_9 X.2.2.2.2.2.2.1.2.1.2.1 (by decide) (by decide) w4_ dX6_init_7 (fun b1_ H h2_ h3_ Y => ?_)
  replace h := h b1_ h2_
  replace hu := w4_
  have k5_ : q_K (qs_R S 25 16 b1_) b1_ = 25 := qs_R_Ks
  obtain ⟨k6_, h⟩ := h
  refine q_putP X Y (some b1_) rfl kX6 0 rfl fl_X6_11 k6_ _ rfl (Or.inr ⟨_, rfl⟩) (Or.inr ⟨rfl, hnm, rfl⟩) dX6_init_10 (fun H locs Y => ?_)
  refine lv_aload_n hx hb dX6_init_13 rfl (lv_at hl 0 rfl) ?_
  refine lv_bipush (v := 24) hx hb dX6_init_14 (by decide) ?_
  obtain ⟨w10_, h⟩ := h
  refine q_newq X Y (k := 24) (t := 4) (n := 24) (by decide) rfl cl_X6_17 X.2.2.2.2.2.2.1.2.1.1 (by decide) (by decide) w10_ dX6_init_16 (fun b7_ H h8_ h9_ Y => ?_)
  replace h := h b7_ h8_
  replace hu := w10_
  replace k5_ := qs_R_keep (j := 24) (n := 24) h8_ k5_ (by decide)
  replace k6_ := qs_R_keep (j := 24) (n := 24) h8_ k6_ (by decide)
  have k11_ : q_K (qs_R (qs_P (qs_R S 25 16 b1_) 1200 a0 (some b1_)) 24 24 b7_) b7_ = 24 := qs_R_Ks
  obtain ⟨S12_, gS12_⟩ : ∃ z : q_S, z = (qs_R (qs_P (qs_R S 25 16 b1_) 1200 a0 (some b1_)) 24 24 b7_) := ⟨_, rfl⟩
  replace Y : q_Y D cy lo s S12_ H locs := by rw [gS12_]; exact Y
  replace h := h S12_ gS12_
  replace k5_ : q_K S12_ b1_ = 25 := by rw [gS12_]; exact k5_
  replace k6_ : q_K S12_ a0 = 7 := by rw [gS12_]; exact k6_
  replace k11_ : q_K S12_ b7_ = 24 := by rw [gS12_]; exact k11_
  refine q_putP X Y (some b7_) rfl kX6 2 rfl fl_X6_19 k6_ _ rfl (Or.inr ⟨_, rfl⟩) (Or.inr ⟨rfl, hnm, rfl⟩) dX6_init_19 (fun H locs Y => ?_)
  refine lv_aload_n hx hb dX6_init_22 rfl (lv_at hl 0 rfl) ?_
  refine lv_bipush (v := 24) hx hb dX6_init_23 (by decide) ?_
  obtain ⟨w16_, h⟩ := h
  refine q_newa X Y (k := 21) (t := 1) (n := 24) (ty := .int) rfl (by decide) rfl (fun _ _ => rfl) (by first | exact rfl | decide | simp [defaultValue]) ar_int (by decide) (by decide) (by decide) w16_ dX6_init_25 (fun b13_ H h14_ h15_ Y => ?_)
  replace h := h b13_ h14_
  replace hu := w16_
  replace k5_ := qs_R_keep (j := 21) (n := 24) h14_ k5_ (by decide)
  replace k6_ := qs_R_keep (j := 21) (n := 24) h14_ k6_ (by decide)
  replace k11_ := qs_R_keep (j := 21) (n := 24) h14_ k11_ (by decide)
  have k17_ : q_K (qs_R (qs_P S12_ 1202 a0 (some b7_)) 21 24 b13_) b13_ = 21 := qs_R_Ks
  refine q_putP X Y (some b13_) rfl kX6 4 rfl fl_X6_23 k6_ _ rfl (Or.inr ⟨_, rfl⟩) (Or.inr ⟨rfl, hnm, rfl⟩) dX6_init_27 (fun H locs Y => ?_)
  obtain ⟨S18_, gS18_⟩ : ∃ z : q_S, z = (qs_P (qs_R (qs_P S12_ 1202 a0 (some b7_)) 21 24 b13_) 1204 a0 (some b13_)) := ⟨_, rfl⟩
  replace Y : q_Y D cy lo s S18_ H locs := by rw [gS18_]; exact Y
  replace h := h S18_ gS18_
  replace k5_ : q_K S18_ b1_ = 25 := by rw [gS18_]; exact k5_
  replace k6_ : q_K S18_ a0 = 7 := by rw [gS18_]; exact k6_
  replace k11_ : q_K S18_ b7_ = 24 := by rw [gS18_]; exact k11_
  replace k17_ : q_K S18_ b13_ = 21 := by rw [gS18_]; exact k17_
  refine lv_aload_n hx hb dX6_init_30 rfl (lv_at hl 0 rfl) ?_
  refine lv_bipush (v := 24) hx hb dX6_init_31 (by decide) ?_
  obtain ⟨w22_, h⟩ := h
  refine q_newa X Y (k := 21) (t := 1) (n := 24) (ty := .int) rfl (by decide) rfl (fun _ _ => rfl) (by first | exact rfl | decide | simp [defaultValue]) ar_int (by decide) (by decide) (by decide) w22_ dX6_init_33 (fun b19_ H h20_ h21_ Y => ?_)
  replace h := h b19_ h20_
  replace hu := w22_
  replace k5_ := qs_R_keep (j := 21) (n := 24) h20_ k5_ (by decide)
  replace k6_ := qs_R_keep (j := 21) (n := 24) h20_ k6_ (by decide)
  replace k11_ := qs_R_keep (j := 21) (n := 24) h20_ k11_ (by decide)
  replace k17_ := qs_R_keep (j := 21) (n := 24) h20_ k17_ (by decide)
  have k23_ : q_K (qs_R S18_ 21 24 b19_) b19_ = 21 := qs_R_Ks
  refine q_putP X Y (some b19_) rfl kX6 7 rfl fl_X6_27 k6_ _ rfl (Or.inr ⟨_, rfl⟩) (Or.inr ⟨rfl, hnm, rfl⟩) dX6_init_35 (fun H locs Y => ?_)
  refine lv_aload_n hx hb dX6_init_38 rfl (lv_at hl 0 rfl) ?_
  refine lv_bipush (v := 24) hx hb dX6_init_39 (by decide) ?_
  obtain ⟨w27_, h⟩ := h
  refine q_newa X Y (k := 21) (t := 1) (n := 24) (ty := .int) rfl (by decide) rfl (fun _ _ => rfl) (by first | exact rfl | decide | simp [defaultValue]) ar_int (by decide) (by decide) (by decide) w27_ dX6_init_41 (fun b24_ H h25_ h26_ Y => ?_)
  replace h := h b24_ h25_
  replace hu := w27_
  replace k5_ := qs_R_keep (j := 21) (n := 24) h25_ k5_ (by decide)
  replace k6_ := qs_R_keep (j := 21) (n := 24) h25_ k6_ (by decide)
  replace k11_ := qs_R_keep (j := 21) (n := 24) h25_ k11_ (by decide)
  replace k17_ := qs_R_keep (j := 21) (n := 24) h25_ k17_ (by decide)
  replace k23_ := qs_R_keep (j := 21) (n := 24) h25_ k23_ (by decide)
  have k28_ : q_K (qs_R (qs_P (qs_R S18_ 21 24 b19_) 1207 a0 (some b19_)) 21 24 b24_) b24_ = 21 := qs_R_Ks
  obtain ⟨S29_, gS29_⟩ : ∃ z : q_S, z = (qs_R (qs_P (qs_R S18_ 21 24 b19_) 1207 a0 (some b19_)) 21 24 b24_) := ⟨_, rfl⟩
  replace Y : q_Y D cy lo s S29_ H locs := by rw [gS29_]; exact Y
  replace h := h S29_ gS29_
  replace k5_ : q_K S29_ b1_ = 25 := by rw [gS29_]; exact k5_
  replace k6_ : q_K S29_ a0 = 7 := by rw [gS29_]; exact k6_
  replace k11_ : q_K S29_ b7_ = 24 := by rw [gS29_]; exact k11_
  replace k17_ : q_K S29_ b13_ = 21 := by rw [gS29_]; exact k17_
  replace k23_ : q_K S29_ b19_ = 21 := by rw [gS29_]; exact k23_
  replace k28_ : q_K S29_ b24_ = 21 := by rw [gS29_]; exact k28_
  refine q_putP X Y (some b24_) rfl kX6 8 rfl fl_X6_30 k6_ _ rfl (Or.inr ⟨_, rfl⟩) (Or.inr ⟨rfl, hnm, rfl⟩) dX6_init_43 (fun H locs Y => ?_)
  refine lv_aload_n hx hb dX6_init_46 rfl (lv_at hl 0 rfl) ?_
  obtain ⟨w33_, h⟩ := h
  refine q_new X Y kX2 tyX2 tyX2_ok dv_X2 cl_X6_33 ib_X2 in_X2 w33_ dX6_init_47 (fun b30_ H h31_ h32_ Y => ?_)
  replace h := h b30_ h31_
  replace hu := w33_
  replace k5_ := qs_O_keep (ci := 2) h31_ k5_ (by decide)
  replace k6_ := qs_O_keep (ci := 2) h31_ k6_ (by decide)
  replace k11_ := qs_O_keep (ci := 2) h31_ k11_ (by decide)
  replace k17_ := qs_O_keep (ci := 2) h31_ k17_ (by decide)
  replace k23_ := qs_O_keep (ci := 2) h31_ k23_ (by decide)
  replace k28_ := qs_O_keep (ci := 2) h31_ k28_ (by decide)
  have k34_ : q_K (qs_O (qs_P S29_ 1208 a0 (some b24_)) 2 b30_) b30_ = 3 := qs_O_Ks
  refine lv_dup hx hb dX6_init_50 rfl ?_
  obtain ⟨m37_, m38_, w39_, h⟩ := h
  refine q_callN X Y hl (cm_X2_init h) mt_X2_init mj_X2_init rfl mn_X6_35 rfl rfl (by first | exact Nat.le_of_ble_eq_true rfl | simp [q_cat, q_catI, q_catJ, q_catR]) ⟨Nat.le_of_ble_eq_true rfl, Nat.le_of_ble_eq_true rfl⟩ w39_ dX6_init_51 (fun r35_ S36_ H locs hp Y => ?_)
  obtain ⟨rfl, h⟩ := hp
  replace hu := w39_
  refine W.eq (g2 := F0 m 54 ls [.ref b30_, .ref a0]) rfl ?_
  obtain ⟨k40_, h⟩ := h
  refine q_putP X Y (some b30_) rfl kX6 10 rfl fl_X6_36 k40_ _ rfl (Or.inl ⟨_, rfl⟩) (Or.inr ⟨rfl, hnm, rfl⟩) dX6_init_54 (fun H locs Y => ?_)
  exact q_vret X Y hu.1 hu.2 h dX6_init_57
-- X6_forget
theorem fl_X6_57 : Cond.fieldLink RX6 57 "PartitionWorks$Plan" "partitionCount" "I" ∈ q_G := q_tb (i := 78) (by decide +kernel) (by decide +kernel)
theorem fl_X6_63 : Cond.fieldLink RX6 63 "PartitionWorks$Plan" "inputCount" "I" ∈ q_G := q_tb (i := 86) (by decide +kernel) (by decide +kernel)
theorem fl_X6_66 : Cond.fieldLink RX6 66 "PartitionWorks$Plan" "outputCount" "I" ∈ q_G := q_tb (i := 88) (by decide +kernel) (by decide +kernel)
theorem fl_X6_72 : Cond.fieldLink RX6 72 "PartitionWorks$Plan" "loaded" "Z" ∈ q_G := q_tb (i := 102) (by decide +kernel) (by decide +kernel)
theorem dX6_forget_0 : decode cX6_forget 0 = .ok (.aload_n 0, 1) := by decide +kernel
theorem dX6_forget_1 : decode cX6_forget 1 = .ok (.iconst 0, 1) := by decide +kernel
theorem dX6_forget_2 : decode cX6_forget 2 = .ok (.putfield 57, 3) := by decide +kernel
theorem dX6_forget_5 : decode cX6_forget 5 = .ok (.aload_n 0, 1) := by decide +kernel
theorem dX6_forget_6 : decode cX6_forget 6 = .ok (.iconst 0, 1) := by decide +kernel
theorem dX6_forget_7 : decode cX6_forget 7 = .ok (.putfield 60, 3) := by decide +kernel
theorem dX6_forget_10 : decode cX6_forget 10 = .ok (.aload_n 0, 1) := by decide +kernel
theorem dX6_forget_11 : decode cX6_forget 11 = .ok (.iconst 0, 1) := by decide +kernel
theorem dX6_forget_12 : decode cX6_forget 12 = .ok (.putfield 63, 3) := by decide +kernel
theorem dX6_forget_15 : decode cX6_forget 15 = .ok (.aload_n 0, 1) := by decide +kernel
theorem dX6_forget_16 : decode cX6_forget 16 = .ok (.iconst 0, 1) := by decide +kernel
theorem dX6_forget_17 : decode cX6_forget 17 = .ok (.putfield 66, 3) := by decide +kernel
theorem dX6_forget_20 : decode cX6_forget 20 = .ok (.aload_n 0, 1) := by decide +kernel
theorem dX6_forget_21 : decode cX6_forget 21 = .ok (.iconst 0, 1) := by decide +kernel
theorem dX6_forget_22 : decode cX6_forget 22 = .ok (.putfield 69, 3) := by decide +kernel
theorem dX6_forget_25 : decode cX6_forget 25 = .ok (.aload_n 0, 1) := by decide +kernel
theorem dX6_forget_26 : decode cX6_forget 26 = .ok (.iconst 0, 1) := by decide +kernel
theorem dX6_forget_27 : decode cX6_forget 27 = .ok (.putfield 72, 3) := by decide +kernel
theorem dX6_forget_30 : decode cX6_forget 30 = .ok (.return_, 1) := by decide +kernel
def wm_X6_forget (S : q_S) (a0 : Nat) (Q : Option Value → q_S → Prop) : Prop := q_K S a0 = 7 ∧ (∀ S2_ : q_S, S2_ = (qs_I (qs_I (qs_I S 1201 a0 (0 : Int32)) 1203 a0 (0 : Int32)) 1205 a0 (0 : Int32)) → (∀ S3_ : q_S, S3_ = (qs_I (qs_I (qs_I S2_ 1206 a0 (0 : Int32)) 1209 a0 (0 : Int32)) 1213 a0 (0 : Int32)) → (Q none S3_)))
set_option maxHeartbeats 4000000 in
set_option maxRecDepth 100000 in
theorem cm_X6_forget {l : Launch} {D : va_G} {cy : Nat → ClassId} {lo : Nat} {S : q_S} {a0 : Nat} {Q : Option Value → q_S → Prop} (h : wm_X6_forget S a0 Q) : q_Met l D cy lo yX6_forget cX6_forget 1 none 0 0 0 0 [.ref a0] S Q := by
  refine q_body (by decide) (by first | exact Nat.le_of_ble_eq_true rfl | simp [lg_sl, q_cat, q_catI, q_catJ, q_catR]) ?_
  intro p e s m below meth c ls X hnm Y hl
  have hx := X.1
  have hb := X.2.1
  have hl : lv_has ls 1 [(0, .ref a0)] := by first | exact hl | simpa [lv_args, q_cat, q_catI, q_catJ, q_catR] using hl
  generalize hargs : ([.ref a0] : List Value).toArray = args at X ⊢
  unfold wm_X6_forget at h
  refine lv_aload_n hx hb dX6_forget_0 rfl (lv_at hl 0 rfl) ?_
  refine lv_iconst (v := 0) hx hb dX6_forget_1 (by decide) ?_
  obtain ⟨k1_, h⟩ := h
  refine q_putI X Y kX6 1 rfl fl_X6_57 k1_ .int rfl ⟨rfl, rfl⟩ rfl dX6_forget_2 (fun H locs Y => ?_)
  refine lv_aload_n hx hb dX6_forget_5 rfl (lv_at hl 0 rfl) ?_
  refine lv_iconst (v := 0) hx hb dX6_forget_6 (by decide) ?_
  refine q_putI X Y kX6 3 rfl fl_X6_60 k1_ .int rfl ⟨rfl, rfl⟩ rfl dX6_forget_7 (fun H locs Y => ?_)
  refine lv_aload_n hx hb dX6_forget_10 rfl (lv_at hl 0 rfl) ?_
  refine lv_iconst (v := 0) hx hb dX6_forget_11 (by decide) ?_
  refine q_putI X Y kX6 5 rfl fl_X6_63 k1_ .int rfl ⟨rfl, rfl⟩ rfl dX6_forget_12 (fun H locs Y => ?_)
  obtain ⟨S2_, gS2_⟩ : ∃ z : q_S, z = (qs_I (qs_I (qs_I S 1201 a0 (0 : Int32)) 1203 a0 (0 : Int32)) 1205 a0 (0 : Int32)) := ⟨_, rfl⟩
  replace Y : q_Y D cy lo s S2_ H locs := by rw [gS2_]; exact Y
  replace h := h S2_ gS2_
  replace k1_ : q_K S2_ a0 = 7 := by rw [gS2_]; exact k1_
  refine lv_aload_n hx hb dX6_forget_15 rfl (lv_at hl 0 rfl) ?_
  refine lv_iconst (v := 0) hx hb dX6_forget_16 (by decide) ?_
  refine q_putI X Y kX6 6 rfl fl_X6_66 k1_ .int rfl ⟨rfl, rfl⟩ rfl dX6_forget_17 (fun H locs Y => ?_)
  refine lv_aload_n hx hb dX6_forget_20 rfl (lv_at hl 0 rfl) ?_
  refine lv_iconst (v := 0) hx hb dX6_forget_21 (by decide) ?_
  refine q_putI X Y kX6 9 rfl fl_X6_69 k1_ .int rfl ⟨rfl, rfl⟩ rfl dX6_forget_22 (fun H locs Y => ?_)
  refine lv_aload_n hx hb dX6_forget_25 rfl (lv_at hl 0 rfl) ?_
  refine lv_iconst (v := 0) hx hb dX6_forget_26 (by decide) ?_
  refine q_putI X Y kX6 13 rfl fl_X6_72 k1_ .boolean rfl ⟨rfl, rfl⟩ rfl dX6_forget_27 (fun H locs Y => ?_)
  obtain ⟨S3_, gS3_⟩ : ∃ z : q_S, z = (qs_I (qs_I (qs_I S2_ 1206 a0 (0 : Int32)) 1209 a0 (0 : Int32)) 1213 a0 (0 : Int32)) := ⟨_, rfl⟩
  replace Y : q_Y D cy lo s S3_ H locs := by rw [gS3_]; exact Y
  replace h := h S3_ gS3_
  replace k1_ : q_K S3_ a0 = 7 := by rw [gS3_]; exact k1_
  exact q_vret X Y (Nat.le_refl _) (Nat.le_refl _) h dX6_forget_30
-- X6_clear
theorem ml_X6_40 : Cond.methodLink RX6 40 yX6_forget ∈ q_G := q_tb (i := 474) (by decide +kernel) (by decide +kernel)
theorem mt_X6_forget : q_Mt yX6_forget cX6_forget 1 none 0 := ⟨q_tb (i := 477) (by decide +kernel) (by decide +kernel), q_tb (i := 3) (by decide +kernel) (by decide +kernel), by decide +kernel, by decide +kernel, by decide +kernel⟩
theorem mi_X6_forget : Cond.instanceMethod yX6_forget ∈ q_G ∧ Cond.selects yX6_forget.cls yX6_forget yX6_forget ∈ q_G := ⟨q_tb (i := 475) (by decide +kernel) (by decide +kernel), q_tb (i := 476) (by decide +kernel) (by decide +kernel)⟩
theorem fl_X6_47 : Cond.fieldLink RX6 47 "PartitionWorks$Plan" "done" "I" ∈ q_G := q_tb (i := 100) (by decide +kernel) (by decide +kernel)
theorem fl_X6_50 : Cond.fieldLink RX6 50 "PartitionWorks$Plan" "begun" "Z" ∈ q_G := q_tb (i := 105) (by decide +kernel) (by decide +kernel)
theorem ml_X6_54 : Cond.methodLink RX6 54 yX2_clear ∈ q_G := q_tb (i := 478) (by decide +kernel) (by decide +kernel)
theorem mt_X2_clear : q_Mt yX2_clear cX2_clear 1 none 0 := ⟨q_tb (i := 481) (by decide +kernel) (by decide +kernel), q_tb (i := 4) (by decide +kernel) (by decide +kernel), by decide +kernel, by decide +kernel, by decide +kernel⟩
theorem mi_X2_clear : Cond.instanceMethod yX2_clear ∈ q_G ∧ Cond.selects yX2_clear.cls yX2_clear yX2_clear ∈ q_G := ⟨q_tb (i := 479) (by decide +kernel) (by decide +kernel), q_tb (i := 480) (by decide +kernel) (by decide +kernel)⟩
theorem dX6_clear_0 : decode cX6_clear 0 = .ok (.aload_n 0, 1) := by decide +kernel
theorem dX6_clear_1 : decode cX6_clear 1 = .ok (.invokevirtual 40, 3) := by decide +kernel
theorem dX6_clear_4 : decode cX6_clear 4 = .ok (.aload_n 0, 1) := by decide +kernel
theorem dX6_clear_5 : decode cX6_clear 5 = .ok (.iconst 0, 1) := by decide +kernel
theorem dX6_clear_6 : decode cX6_clear 6 = .ok (.putfield 43, 3) := by decide +kernel
theorem dX6_clear_9 : decode cX6_clear 9 = .ok (.aload_n 0, 1) := by decide +kernel
theorem dX6_clear_10 : decode cX6_clear 10 = .ok (.iconst 0, 1) := by decide +kernel
theorem dX6_clear_11 : decode cX6_clear 11 = .ok (.putfield 47, 3) := by decide +kernel
theorem dX6_clear_14 : decode cX6_clear 14 = .ok (.aload_n 0, 1) := by decide +kernel
theorem dX6_clear_15 : decode cX6_clear 15 = .ok (.iconst 0, 1) := by decide +kernel
theorem dX6_clear_16 : decode cX6_clear 16 = .ok (.putfield 50, 3) := by decide +kernel
theorem dX6_clear_19 : decode cX6_clear 19 = .ok (.aload_n 0, 1) := by decide +kernel
theorem dX6_clear_20 : decode cX6_clear 20 = .ok (.getfield 36, 3) := by decide +kernel
theorem dX6_clear_23 : decode cX6_clear 23 = .ok (.invokevirtual 54, 3) := by decide +kernel
theorem dX6_clear_26 : decode cX6_clear 26 = .ok (.return_, 1) := by decide +kernel
def wm_X6_clear (S : q_S) (a0 : Nat) (Q : Option Value → q_S → Prop) : Prop := q_K S a0 = 7 ∧ (wm_X6_forget S a0 (fun r2_ S3_ => r2_ = none ∧ (q_K S3_ a0 = 7 ∧ (∀ S5_ : q_S, S5_ = (qs_I (qs_I (qs_I S3_ 1211 a0 (0 : Int32)) 1212 a0 (0 : Int32)) 1214 a0 (0 : Int32)) → (∃ a6_ : Nat, (q_P S5_ 1210 a0) = some a6_ ∧ (q_K S5_ a6_ = 3 ∧ (wm_X2_clear S5_ a6_ (fun r9_ S10_ => r9_ = none ∧ (Q none S10_)))))))))
set_option maxHeartbeats 4000000 in
set_option maxRecDepth 100000 in
theorem cm_X6_clear {l : Launch} {D : va_G} {cy : Nat → ClassId} {lo : Nat} {S : q_S} {a0 : Nat} {Q : Option Value → q_S → Prop} (h : wm_X6_clear S a0 Q) : q_Met l D cy lo yX6_clear cX6_clear 1 none 1 20 0 0 [.ref a0] S Q := by
  refine q_body (by decide) (by first | exact Nat.le_of_ble_eq_true rfl | simp [lg_sl, q_cat, q_catI, q_catJ, q_catR]) ?_
  intro p e s m below meth c ls X hnm Y hl
  have hx := X.1
  have hb := X.2.1
  have hl : lv_has ls 1 [(0, .ref a0)] := by first | exact hl | simpa [lv_args, q_cat, q_catI, q_catJ, q_catR] using hl
  generalize hargs : ([.ref a0] : List Value).toArray = args at X ⊢
  unfold wm_X6_clear at h
  refine lv_aload_n hx hb dX6_clear_0 rfl (lv_at hl 0 rfl) ?_
  obtain ⟨k1_, h⟩ := h
  refine q_callV X Y hl (cm_X6_forget h) mt_X6_forget mi_X6_forget ml_X6_40 (ci := 6) rfl k1_ (by decide) rfl rfl (by first | exact Nat.le_of_ble_eq_true rfl | simp [q_cat, q_catI, q_catJ, q_catR]) ⟨Nat.le_of_ble_eq_true rfl, Nat.le_of_ble_eq_true rfl⟩ ⟨Nat.le_of_ble_eq_true rfl, Nat.le_of_ble_eq_true rfl⟩ dX6_clear_1 (fun r2_ S3_ H locs hp Y => ?_)
  obtain ⟨rfl, h⟩ := hp
  refine W.eq (g2 := F0 m 4 ls []) rfl ?_
  refine lv_aload_n hx hb dX6_clear_4 rfl (lv_at hl 0 rfl) ?_
  refine lv_iconst (v := 0) hx hb dX6_clear_5 (by decide) ?_
  obtain ⟨k4_, h⟩ := h
  refine q_putI X Y kX6 11 rfl fl_X6_43 k4_ .int rfl ⟨rfl, rfl⟩ rfl dX6_clear_6 (fun H locs Y => ?_)
  refine lv_aload_n hx hb dX6_clear_9 rfl (lv_at hl 0 rfl) ?_
  refine lv_iconst (v := 0) hx hb dX6_clear_10 (by decide) ?_
  refine q_putI X Y kX6 12 rfl fl_X6_47 k4_ .int rfl ⟨rfl, rfl⟩ rfl dX6_clear_11 (fun H locs Y => ?_)
  refine lv_aload_n hx hb dX6_clear_14 rfl (lv_at hl 0 rfl) ?_
  refine lv_iconst (v := 0) hx hb dX6_clear_15 (by decide) ?_
  refine q_putI X Y kX6 14 rfl fl_X6_50 k4_ .boolean rfl ⟨rfl, rfl⟩ rfl dX6_clear_16 (fun H locs Y => ?_)
  obtain ⟨S5_, gS5_⟩ : ∃ z : q_S, z = (qs_I (qs_I (qs_I S3_ 1211 a0 (0 : Int32)) 1212 a0 (0 : Int32)) 1214 a0 (0 : Int32)) := ⟨_, rfl⟩
  replace Y : q_Y D cy lo s S5_ H locs := by rw [gS5_]; exact Y
  replace h := h S5_ gS5_
  replace k4_ : q_K S5_ a0 = 7 := by rw [gS5_]; exact k4_
  refine lv_aload_n hx hb dX6_clear_19 rfl (lv_at hl 0 rfl) ?_
  refine q_getP X Y kX6 10 rfl fl_X6_36 k4_ rfl dX6_clear_20 ?_
  obtain ⟨a6_, e7_, h⟩ := h
  refine q_nn [] e7_ ?_
  obtain ⟨k8_, h⟩ := h
  refine q_callV X Y hl (cm_X2_clear h) mt_X2_clear mi_X2_clear ml_X6_54 (ci := 2) rfl k8_ (by decide) rfl rfl (by first | exact Nat.le_of_ble_eq_true rfl | simp [q_cat, q_catI, q_catJ, q_catR]) ⟨Nat.le_of_ble_eq_true rfl, Nat.le_of_ble_eq_true rfl⟩ ⟨Nat.le_of_ble_eq_true rfl, Nat.le_of_ble_eq_true rfl⟩ dX6_clear_23 (fun r9_ S10_ H locs hp Y => ?_)
  obtain ⟨rfl, h⟩ := hp
  refine W.eq (g2 := F0 m 26 ls []) rfl ?_
  exact q_vret X Y (Nat.le_refl _) (Nat.le_refl _) h dX6_clear_26
-- X6_addPartition
theorem ml_X6_76 : Cond.methodLink RX6 76 yX5_reset ∈ q_G := q_tb (i := 769) (by decide +kernel) (by decide +kernel)
theorem mt_X5_reset : q_Mt yX5_reset cX5_reset 4 none 2 := ⟨q_tb (i := 772) (by decide +kernel) (by decide +kernel), q_tb (i := 20) (by decide +kernel) (by decide +kernel), by decide +kernel, by decide +kernel, by decide +kernel⟩
theorem mi_X5_reset : Cond.instanceMethod yX5_reset ∈ q_G ∧ Cond.selects yX5_reset.cls yX5_reset yX5_reset ∈ q_G := ⟨q_tb (i := 770) (by decide +kernel) (by decide +kernel), q_tb (i := 771) (by decide +kernel) (by decide +kernel)⟩
theorem ib_X5 : Cond.instantiable RX5 19 ∈ q_G := q_tb (i := 646) (by decide +kernel) (by decide +kernel)
theorem in_X5 : Cond.initialized RX5 ∈ q_G := q_tb (i := 20) (by decide +kernel) (by decide +kernel)
theorem dv_X5 : ∀ k, k < 19 → defaultValue (tyX5 k) = vp_V ((q_F 5).map (fun q => q_dv q.1)) k := by decide +kernel
theorem mn_X6_75 : Cond.methodLinkNest RX6 75 yX5_init "PartitionWorks" ∈ q_Nw := List.mem_filter.mpr ⟨List.mem_of_getElem? (i := 647) (by decide +kernel), rfl⟩
theorem mt_X5_init : q_Mt yX5_init cX5_init 1 none 0 := ⟨q_tb (i := 649) (by decide +kernel) (by decide +kernel), q_tb (i := 20) (by decide +kernel) (by decide +kernel), by decide +kernel, by decide +kernel, by decide +kernel⟩
theorem mj_X5_init : Cond.instanceMethod yX5_init ∈ q_G := q_tb (i := 648) (by decide +kernel) (by decide +kernel)
theorem dX6_addPartition_0 : decode cX6_addPartition 0 = .ok (.aload_n 0, 1) := by decide +kernel
theorem dX6_addPartition_1 : decode cX6_addPartition 1 = .ok (.getfield 57, 3) := by decide +kernel
theorem dX6_addPartition_4 : decode cX6_addPartition 4 = .ok (.istore_n 3, 1) := by decide +kernel
theorem dX6_addPartition_5 : decode cX6_addPartition 5 = .ok (.aload_n 0, 1) := by decide +kernel
theorem dX6_addPartition_6 : decode cX6_addPartition 6 = .ok (.getfield 11, 3) := by decide +kernel
theorem dX6_addPartition_9 : decode cX6_addPartition 9 = .ok (.iload_n 3, 1) := by decide +kernel
theorem dX6_addPartition_10 : decode cX6_addPartition 10 = .ok (.aaload, 1) := by decide +kernel
theorem dX6_addPartition_11 : decode cX6_addPartition 11 = .ok (.astore 4, 2) := by decide +kernel
theorem dX6_addPartition_13 : decode cX6_addPartition 13 = .ok (.aload 4, 2) := by decide +kernel
theorem dX6_addPartition_15 : decode cX6_addPartition 15 = .ok (.ifnonnull 20, 3) := by decide +kernel
theorem dX6_addPartition_18 : decode cX6_addPartition 18 = .ok (.new 9, 3) := by decide +kernel
theorem dX6_addPartition_21 : decode cX6_addPartition 21 = .ok (.dup, 1) := by decide +kernel
theorem dX6_addPartition_22 : decode cX6_addPartition 22 = .ok (.invokespecial 75, 3) := by decide +kernel
theorem dX6_addPartition_25 : decode cX6_addPartition 25 = .ok (.astore 4, 2) := by decide +kernel
theorem dX6_addPartition_27 : decode cX6_addPartition 27 = .ok (.aload_n 0, 1) := by decide +kernel
theorem dX6_addPartition_28 : decode cX6_addPartition 28 = .ok (.getfield 11, 3) := by decide +kernel
theorem dX6_addPartition_31 : decode cX6_addPartition 31 = .ok (.iload_n 3, 1) := by decide +kernel
theorem dX6_addPartition_32 : decode cX6_addPartition 32 = .ok (.aload 4, 2) := by decide +kernel
theorem dX6_addPartition_34 : decode cX6_addPartition 34 = .ok (.aastore, 1) := by decide +kernel
theorem dX6_addPartition_35 : decode cX6_addPartition 35 = .ok (.aload 4, 2) := by decide +kernel
theorem dX6_addPartition_37 : decode cX6_addPartition 37 = .ok (.iload_n 3, 1) := by decide +kernel
theorem dX6_addPartition_38 : decode cX6_addPartition 38 = .ok (.lload_n 1, 1) := by decide +kernel
theorem dX6_addPartition_39 : decode cX6_addPartition 39 = .ok (.invokevirtual 76, 3) := by decide +kernel
theorem dX6_addPartition_42 : decode cX6_addPartition 42 = .ok (.aload_n 0, 1) := by decide +kernel
theorem dX6_addPartition_43 : decode cX6_addPartition 43 = .ok (.dup, 1) := by decide +kernel
theorem dX6_addPartition_44 : decode cX6_addPartition 44 = .ok (.getfield 57, 3) := by decide +kernel
theorem dX6_addPartition_47 : decode cX6_addPartition 47 = .ok (.iconst 1, 1) := by decide +kernel
theorem dX6_addPartition_48 : decode cX6_addPartition 48 = .ok (.iadd, 1) := by decide +kernel
theorem dX6_addPartition_49 : decode cX6_addPartition 49 = .ok (.putfield 57, 3) := by decide +kernel
theorem dX6_addPartition_52 : decode cX6_addPartition 52 = .ok (.aload 4, 2) := by decide +kernel
theorem dX6_addPartition_54 : decode cX6_addPartition 54 = .ok (.areturn, 1) := by decide +kernel
def wb_X6_addPartition_35 (bc bs : Nat)  (u v : Nat) (S : q_S) (a0 : Nat) (z1 : Int64) (x3 : Int32) (r4 : Option Nat) (Q : Option Value → q_S → Prop) : Prop := ∃ a1_ : Nat, r4 = some a1_ ∧ (q_K S a1_ = 6 ∧ (wm_X5_reset S a1_ x3 z1 (fun r4_ S5_ => r4_ = none ∧ (q_K S5_ a0 = 7 ∧ (Q (some (va_rf r4)) (qs_I S5_ 1201 a0 ((q_I S5_ 1201 a0) + (1 : Int32))))))))
set_option maxHeartbeats 4000000 in
set_option maxRecDepth 100000 in
theorem cb_X6_addPartition_35 {p : Program} {l : Launch} {e : Env} {s : State} {m : MethodId} {args : Array Value} {below : List Frame} {meth : Method} {c : Code} {D : va_G} {cy : Nat → ClassId} {lo : Nat} {bc bs : Nat}  {u v : Nat} {S : q_S} {a0 : Nat} {z1 : Int64} {x3 : Int32} {r4 : Option Nat} {Q : Option Value → q_S → Prop} {H : Heap} {locs : List Loc} {ls : Array Slot} (X : q_X p s m args meth c RX6 cX6_addPartition 5 (some (.object "PartitionWorks$Partition")) D cy lo)  (hu : u ≤ bc ∧ v ≤ bs) (Y : q_Y D cy lo s S H locs) (hl : lv_has ls 5 [(0, .ref a0), (1, .long z1), (3, .int x3), (4, va_rf r4)]) (h : wb_X6_addPartition_35 bc bs u v S a0 z1 x3 r4 Q) : W p l e ({ frames := 3, cells := bc, slots := bs, locals := 60 } : Room) s m args below meth c H locs u v (MQ below (q_Q D cy lo Q) args s bc bs (fun q => lo ≤ q)) (F0 m 35 ls []) := by
  have hx := X.1
  have hb := X.2.1
  unfold wb_X6_addPartition_35 at h
  refine q_aload hx hb dX6_addPartition_35 (lv_at hl 3 rfl) ?_
  refine lv_iload_n hx hb dX6_addPartition_37 rfl (lv_at hl 2 rfl) ?_
  refine lv_lload_n hx hb dX6_addPartition_38 rfl (lv_at hl 1 rfl) ?_
  obtain ⟨a1_, e2_, h⟩ := h
  refine q_nn [.long z1, .int x3] e2_ ?_
  obtain ⟨k3_, h⟩ := h
  refine q_callV X Y hl (cm_X5_reset h) mt_X5_reset mi_X5_reset ml_X6_76 (ci := 5) rfl k3_ (by decide) rfl rfl (by first | exact Nat.le_of_ble_eq_true rfl | simp [q_cat, q_catI, q_catJ, q_catR]) ⟨Nat.le_of_ble_eq_true rfl, Nat.le_of_ble_eq_true rfl⟩ hu dX6_addPartition_39 (fun r4_ S5_ H locs hp Y => ?_)
  obtain ⟨rfl, h⟩ := hp
  refine W.eq (g2 := F0 m 42 ls []) rfl ?_
  refine lv_aload_n hx hb dX6_addPartition_42 rfl (lv_at hl 0 rfl) ?_
  refine lv_dup hx hb dX6_addPartition_43 rfl ?_
  obtain ⟨k6_, h⟩ := h
  refine q_getI X Y kX6 1 rfl fl_X6_57 k6_ dX6_addPartition_44 ?_
  refine lv_iconst (v := 1) hx hb dX6_addPartition_47 (by decide) ?_
  refine lv_iadd hx hb dX6_addPartition_48 ?_
  refine q_putI X Y kX6 1 rfl fl_X6_57 k6_ .int rfl ⟨rfl, rfl⟩ rfl dX6_addPartition_49 (fun H locs Y => ?_)
  refine q_aload hx hb dX6_addPartition_52 (lv_at hl 3 rfl) ?_
  exact q_aret X Y (Or.inl ⟨_, rfl⟩) (va_rf_or _) hu.1 hu.2 h dX6_addPartition_54
def wm_X6_addPartition (bc bs : Nat) (S : q_S) (a0 : Nat) (z1 : Int64) (Q : Option Value → q_S → Prop) : Prop := q_K S a0 = 7 ∧ (∃ a8_ : Nat, (q_P S 1200 a0) = some a8_ ∧ (q_K S a8_ = 25 ∧ (vp_in (q_I S 1201 a0) (q_N S a8_) ∧ (((¬ (q_C S a8_ (q_I S 1201 a0).toNatClampNeg) = none → (wb_X6_addPartition_35 bc bs 0 0 S a0 z1 (q_I S 1201 a0) (q_C S a8_ (q_I S 1201 a0).toNatClampNeg) Q)) ∧ ((q_C S a8_ (q_I S 1201 a0).toNatClampNeg) = none → ((0 + 1 ≤ bc ∧ 0 + 19 ≤ bs) ∧ (∀ b13_ : Nat, q_K S b13_ = 0 → (∃ m20_ m21_ : Nat, ((0 + 1) + m20_ ≤ bc ∧ (0 + 19) + m21_ ≤ bs) ∧ (wm_X5_init m20_ m21_ (qs_O S 5 b13_) b13_ (fun r18_ S19_ => r18_ = none ∧ (q_K S19_ a0 = 7 ∧ (∃ a24_ : Nat, (q_P S19_ 1200 a0) = some a24_ ∧ (q_K S19_ a24_ = 25 ∧ (q_K S19_ b13_ = 6 ∧ (vp_in (q_I S 1201 a0) (q_N S19_ a24_) ∧ (wb_X6_addPartition_35 bc bs ((0 + 1) + m20_) ((0 + 19) + m21_) (qs_C S19_ a24_ (q_I S 1201 a0).toNatClampNeg (some b13_)) a0 z1 (q_I S 1201 a0) (some b13_) Q)))))))))))))))))
set_option maxHeartbeats 4000000 in
set_option maxRecDepth 100000 in
theorem cm_X6_addPartition {l : Launch} {D : va_G} {cy : Nat → ClassId} {lo : Nat} {bc bs : Nat} {S : q_S} {a0 : Nat} {z1 : Int64} {Q : Option Value → q_S → Prop} (h : wm_X6_addPartition bc bs S a0 z1 Q) : q_Met l D cy lo yX6_addPartition cX6_addPartition 5 (some (.object "PartitionWorks$Partition")) 3 60 bc bs [.ref a0, .long z1] S Q := by
  refine q_body (by decide) (by first | exact Nat.le_of_ble_eq_true rfl | simp [lg_sl, q_cat, q_catI, q_catJ, q_catR]) ?_
  intro p e s m below meth c ls X hnm Y hl
  have hx := X.1
  have hb := X.2.1
  have hl : lv_has ls 5 [(0, .ref a0), (1, .long z1)] := by first | exact hl | simpa [lv_args, q_cat, q_catI, q_catJ, q_catR] using hl
  generalize hargs : ([.ref a0, .long z1] : List Value).toArray = args at X ⊢
  have hu : 0 ≤ bc ∧ 0 ≤ bs := ⟨Nat.zero_le _, Nat.zero_le _⟩
  unfold wm_X6_addPartition at h
  refine lv_aload_n hx hb dX6_addPartition_0 rfl (lv_at hl 0 rfl) ?_
  obtain ⟨k7_, h⟩ := h
  refine q_getI X Y kX6 1 rfl fl_X6_57 k7_ dX6_addPartition_1 ?_
  refine lv_istore_n (i := 3) (lv' := [(3, .int (q_I S 1201 a0)), (0, .ref a0), (1, .long z1)]) hx hb dX6_addPartition_4 rfl hl (by decide) (by first | rfl | simp [q_cat, q_catI, q_catJ, q_catR]) (fun ls hl => ?_)
  refine lv_aload_n hx hb dX6_addPartition_5 rfl (lv_at hl 1 rfl) ?_
  refine q_getP X Y kX6 0 rfl fl_X6_11 k7_ rfl dX6_addPartition_6 ?_
  refine lv_iload_n hx hb dX6_addPartition_9 rfl (lv_at hl 0 rfl) ?_
  obtain ⟨a8_, e9_, h⟩ := h
  refine q_nn [.int (q_I S 1201 a0)] e9_ ?_
  obtain ⟨k10_, h⟩ := h
  obtain ⟨i11_, h⟩ := h
  refine q_cld X Y k10_ (by decide) (t := 5) rfl i11_ rfl dX6_addPartition_10 ?_
  refine q_astore (i := 4) (lv' := [(4, va_rf (q_C S a8_ (q_I S 1201 a0).toNatClampNeg)), (3, .int (q_I S 1201 a0)), (0, .ref a0), (1, .long z1)]) hx hb dX6_addPartition_11 hl (by decide) (by first | rfl | simp [q_cat, q_catI, q_catJ, q_catR]) (fun ls hl => ?_)
  refine q_aload hx hb dX6_addPartition_13 (lv_at hl 0 rfl) ?_
  refine q_ifnonnull (r := (q_C S a8_ (q_I S 1201 a0).toNatClampNeg)) (tgt := 35) hx hb dX6_addPartition_15 (by decide) (fun c12_ => ?_) (fun c12_ => ?_)
  · replace h := h.1 c12_
    exact cb_X6_addPartition_35 X hu Y (lv_sub hl [2, 3, 1, 0] rfl) h
  · replace h := h.2 c12_
    obtain ⟨w16_, h⟩ := h
    refine q_new X Y kX5 tyX5 tyX5_ok dv_X5 cl_X6_9 ib_X5 in_X5 w16_ dX6_addPartition_18 (fun b13_ H h14_ h15_ Y => ?_)
    replace h := h b13_ h14_
    replace hu := w16_
    replace k7_ := qs_O_keep (ci := 5) h14_ k7_ (by decide)
    replace k10_ := qs_O_keep (ci := 5) h14_ k10_ (by decide)
    have k17_ : q_K (qs_O S 5 b13_) b13_ = 6 := qs_O_Ks
    refine lv_dup hx hb dX6_addPartition_21 rfl ?_
    obtain ⟨m20_, m21_, w22_, h⟩ := h
    refine q_callN X Y hl (cm_X5_init h) mt_X5_init mj_X5_init rfl mn_X6_75 rfl rfl (by first | exact Nat.le_of_ble_eq_true rfl | simp [q_cat, q_catI, q_catJ, q_catR]) ⟨Nat.le_of_ble_eq_true rfl, Nat.le_of_ble_eq_true rfl⟩ w22_ dX6_addPartition_22 (fun r18_ S19_ H locs hp Y => ?_)
    obtain ⟨rfl, h⟩ := hp
    replace hu := w22_
    refine W.eq (g2 := F0 m 25 ls [.ref b13_]) rfl ?_
    refine lv_astore (i := 4) (lv' := [(4, .ref b13_), (3, .int (q_I S 1201 a0)), (0, .ref a0), (1, .long z1)]) hx hb dX6_addPartition_25 hl (by decide) (by first | rfl | simp [q_cat, q_catI, q_catJ, q_catR]) (fun ls hl => ?_)
    refine lv_aload_n hx hb dX6_addPartition_27 rfl (lv_at hl 2 rfl) ?_
    obtain ⟨k23_, h⟩ := h
    refine q_getP X Y kX6 0 rfl fl_X6_11 k23_ rfl dX6_addPartition_28 ?_
    refine lv_iload_n hx hb dX6_addPartition_31 rfl (lv_at hl 1 rfl) ?_
    refine lv_aload hx hb dX6_addPartition_32 (lv_at hl 0 rfl) ?_
    obtain ⟨a24_, e25_, h⟩ := h
    refine q_nn [.ref b13_, .int (q_I S 1201 a0)] e25_ ?_
    obtain ⟨k26_, h⟩ := h
    obtain ⟨k27_, h⟩ := h
    obtain ⟨i28_, h⟩ := h
    refine q_cst X Y k26_ (by decide) (t := 5) (r := (RX5, TX5, 19)) rfl i28_ k27_ (by decide) rfl dX6_addPartition_34 (fun H locs Y => ?_)
    exact cb_X6_addPartition_35 X hu Y (lv_sub hl [2, 3, 1, 0] rfl) h
-- X6_addChannel
theorem ml_X6_81 : Cond.methodLink RX6 81 yX1_reset ∈ q_G := q_tb (i := 1185) (by decide +kernel) (by decide +kernel)
theorem mt_X1_reset : q_Mt yX1_reset cX1_reset 3 none 2 := ⟨q_tb (i := 1188) (by decide +kernel) (by decide +kernel), q_tb (i := 25) (by decide +kernel) (by decide +kernel), by decide +kernel, by decide +kernel, by decide +kernel⟩
theorem mi_X1_reset : Cond.instanceMethod yX1_reset ∈ q_G ∧ Cond.selects yX1_reset.cls yX1_reset yX1_reset ∈ q_G := ⟨q_tb (i := 1186) (by decide +kernel) (by decide +kernel), q_tb (i := 1187) (by decide +kernel) (by decide +kernel)⟩
theorem ib_X1 : Cond.instantiable RX1 17 ∈ q_G := q_tb (i := 1099) (by decide +kernel) (by decide +kernel)
theorem in_X1 : Cond.initialized RX1 ∈ q_G := q_tb (i := 25) (by decide +kernel) (by decide +kernel)
theorem dv_X1 : ∀ k, k < 17 → defaultValue (tyX1 k) = vp_V ((q_F 1).map (fun q => q_dv q.1)) k := by decide +kernel
theorem mn_X6_80 : Cond.methodLinkNest RX6 80 yX1_init "PartitionWorks" ∈ q_Nw := List.mem_filter.mpr ⟨List.mem_of_getElem? (i := 1100) (by decide +kernel), rfl⟩
theorem mt_X1_init : q_Mt yX1_init cX1_init 1 none 0 := ⟨q_tb (i := 1102) (by decide +kernel) (by decide +kernel), q_tb (i := 25) (by decide +kernel) (by decide +kernel), by decide +kernel, by decide +kernel, by decide +kernel⟩
theorem mj_X1_init : Cond.instanceMethod yX1_init ∈ q_G := q_tb (i := 1101) (by decide +kernel) (by decide +kernel)
theorem dX6_addChannel_0 : decode cX6_addChannel 0 = .ok (.aload_n 0, 1) := by decide +kernel
theorem dX6_addChannel_1 : decode cX6_addChannel 1 = .ok (.getfield 60, 3) := by decide +kernel
theorem dX6_addChannel_4 : decode cX6_addChannel 4 = .ok (.istore_n 2, 1) := by decide +kernel
theorem dX6_addChannel_5 : decode cX6_addChannel 5 = .ok (.aload_n 0, 1) := by decide +kernel
theorem dX6_addChannel_6 : decode cX6_addChannel 6 = .ok (.getfield 19, 3) := by decide +kernel
theorem dX6_addChannel_9 : decode cX6_addChannel 9 = .ok (.iload_n 2, 1) := by decide +kernel
theorem dX6_addChannel_10 : decode cX6_addChannel 10 = .ok (.aaload, 1) := by decide +kernel
theorem dX6_addChannel_11 : decode cX6_addChannel 11 = .ok (.astore_n 3, 1) := by decide +kernel
theorem dX6_addChannel_12 : decode cX6_addChannel 12 = .ok (.aload_n 3, 1) := by decide +kernel
theorem dX6_addChannel_13 : decode cX6_addChannel 13 = .ok (.ifnonnull 18, 3) := by decide +kernel
theorem dX6_addChannel_16 : decode cX6_addChannel 16 = .ok (.new 17, 3) := by decide +kernel
theorem dX6_addChannel_19 : decode cX6_addChannel 19 = .ok (.dup, 1) := by decide +kernel
theorem dX6_addChannel_20 : decode cX6_addChannel 20 = .ok (.invokespecial 80, 3) := by decide +kernel
theorem dX6_addChannel_23 : decode cX6_addChannel 23 = .ok (.astore_n 3, 1) := by decide +kernel
theorem dX6_addChannel_24 : decode cX6_addChannel 24 = .ok (.aload_n 0, 1) := by decide +kernel
theorem dX6_addChannel_25 : decode cX6_addChannel 25 = .ok (.getfield 19, 3) := by decide +kernel
theorem dX6_addChannel_28 : decode cX6_addChannel 28 = .ok (.iload_n 2, 1) := by decide +kernel
theorem dX6_addChannel_29 : decode cX6_addChannel 29 = .ok (.aload_n 3, 1) := by decide +kernel
theorem dX6_addChannel_30 : decode cX6_addChannel 30 = .ok (.aastore, 1) := by decide +kernel
theorem dX6_addChannel_31 : decode cX6_addChannel 31 = .ok (.aload_n 3, 1) := by decide +kernel
theorem dX6_addChannel_32 : decode cX6_addChannel 32 = .ok (.iload_n 2, 1) := by decide +kernel
theorem dX6_addChannel_33 : decode cX6_addChannel 33 = .ok (.iload_n 1, 1) := by decide +kernel
theorem dX6_addChannel_34 : decode cX6_addChannel 34 = .ok (.invokevirtual 81, 3) := by decide +kernel
theorem dX6_addChannel_37 : decode cX6_addChannel 37 = .ok (.aload_n 0, 1) := by decide +kernel
theorem dX6_addChannel_38 : decode cX6_addChannel 38 = .ok (.dup, 1) := by decide +kernel
theorem dX6_addChannel_39 : decode cX6_addChannel 39 = .ok (.getfield 60, 3) := by decide +kernel
theorem dX6_addChannel_42 : decode cX6_addChannel 42 = .ok (.iconst 1, 1) := by decide +kernel
theorem dX6_addChannel_43 : decode cX6_addChannel 43 = .ok (.iadd, 1) := by decide +kernel
theorem dX6_addChannel_44 : decode cX6_addChannel 44 = .ok (.putfield 60, 3) := by decide +kernel
theorem dX6_addChannel_47 : decode cX6_addChannel 47 = .ok (.aload_n 3, 1) := by decide +kernel
theorem dX6_addChannel_48 : decode cX6_addChannel 48 = .ok (.areturn, 1) := by decide +kernel
def wb_X6_addChannel_31 (bc bs : Nat)  (u v : Nat) (S : q_S) (a0 : Nat) (x1 : Int32) (x2 : Int32) (r3 : Option Nat) (Q : Option Value → q_S → Prop) : Prop := ∃ a1_ : Nat, r3 = some a1_ ∧ (q_K S a1_ = 2 ∧ (wm_X1_reset S a1_ x2 x1 (fun r4_ S5_ => r4_ = none ∧ (q_K S5_ a0 = 7 ∧ (Q (some (va_rf r3)) (qs_I S5_ 1203 a0 ((q_I S5_ 1203 a0) + (1 : Int32))))))))
set_option maxHeartbeats 4000000 in
set_option maxRecDepth 100000 in
theorem cb_X6_addChannel_31 {p : Program} {l : Launch} {e : Env} {s : State} {m : MethodId} {args : Array Value} {below : List Frame} {meth : Method} {c : Code} {D : va_G} {cy : Nat → ClassId} {lo : Nat} {bc bs : Nat}  {u v : Nat} {S : q_S} {a0 : Nat} {x1 : Int32} {x2 : Int32} {r3 : Option Nat} {Q : Option Value → q_S → Prop} {H : Heap} {locs : List Loc} {ls : Array Slot} (X : q_X p s m args meth c RX6 cX6_addChannel 4 (some (.object "PartitionWorks$Channel")) D cy lo)  (hu : u ≤ bc ∧ v ≤ bs) (Y : q_Y D cy lo s S H locs) (hl : lv_has ls 4 [(0, .ref a0), (1, .int x1), (2, .int x2), (3, va_rf r3)]) (h : wb_X6_addChannel_31 bc bs u v S a0 x1 x2 r3 Q) : W p l e ({ frames := 3, cells := bc, slots := bs, locals := 60 } : Room) s m args below meth c H locs u v (MQ below (q_Q D cy lo Q) args s bc bs (fun q => lo ≤ q)) (F0 m 31 ls []) := by
  have hx := X.1
  have hb := X.2.1
  unfold wb_X6_addChannel_31 at h
  refine q_aload_n hx hb dX6_addChannel_31 rfl (lv_at hl 3 rfl) ?_
  refine lv_iload_n hx hb dX6_addChannel_32 rfl (lv_at hl 2 rfl) ?_
  refine lv_iload_n hx hb dX6_addChannel_33 rfl (lv_at hl 1 rfl) ?_
  obtain ⟨a1_, e2_, h⟩ := h
  refine q_nn [.int x1, .int x2] e2_ ?_
  obtain ⟨k3_, h⟩ := h
  refine q_callV X Y hl (cm_X1_reset h) mt_X1_reset mi_X1_reset ml_X6_81 (ci := 1) rfl k3_ (by decide) rfl rfl (by first | exact Nat.le_of_ble_eq_true rfl | simp [q_cat, q_catI, q_catJ, q_catR]) ⟨Nat.le_of_ble_eq_true rfl, Nat.le_of_ble_eq_true rfl⟩ hu dX6_addChannel_34 (fun r4_ S5_ H locs hp Y => ?_)
  obtain ⟨rfl, h⟩ := hp
  refine W.eq (g2 := F0 m 37 ls []) rfl ?_
  refine lv_aload_n hx hb dX6_addChannel_37 rfl (lv_at hl 0 rfl) ?_
  refine lv_dup hx hb dX6_addChannel_38 rfl ?_
  obtain ⟨k6_, h⟩ := h
  refine q_getI X Y kX6 3 rfl fl_X6_60 k6_ dX6_addChannel_39 ?_
  refine lv_iconst (v := 1) hx hb dX6_addChannel_42 (by decide) ?_
  refine lv_iadd hx hb dX6_addChannel_43 ?_
  refine q_putI X Y kX6 3 rfl fl_X6_60 k6_ .int rfl ⟨rfl, rfl⟩ rfl dX6_addChannel_44 (fun H locs Y => ?_)
  refine q_aload_n hx hb dX6_addChannel_47 rfl (lv_at hl 3 rfl) ?_
  exact q_aret X Y (Or.inl ⟨_, rfl⟩) (va_rf_or _) hu.1 hu.2 h dX6_addChannel_48
def wm_X6_addChannel (bc bs : Nat) (S : q_S) (a0 : Nat) (x1 : Int32) (Q : Option Value → q_S → Prop) : Prop := q_K S a0 = 7 ∧ (∃ a8_ : Nat, (q_P S 1202 a0) = some a8_ ∧ (q_K S a8_ = 24 ∧ (vp_in (q_I S 1203 a0) (q_N S a8_) ∧ (((¬ (q_C S a8_ (q_I S 1203 a0).toNatClampNeg) = none → (wb_X6_addChannel_31 bc bs 0 0 S a0 x1 (q_I S 1203 a0) (q_C S a8_ (q_I S 1203 a0).toNatClampNeg) Q)) ∧ ((q_C S a8_ (q_I S 1203 a0).toNatClampNeg) = none → ((0 + 1 ≤ bc ∧ 0 + 17 ≤ bs) ∧ (∀ b13_ : Nat, q_K S b13_ = 0 → (∃ m20_ m21_ : Nat, ((0 + 1) + m20_ ≤ bc ∧ (0 + 17) + m21_ ≤ bs) ∧ (wm_X1_init m20_ m21_ (qs_O S 1 b13_) b13_ (fun r18_ S19_ => r18_ = none ∧ (q_K S19_ a0 = 7 ∧ (∃ a24_ : Nat, (q_P S19_ 1202 a0) = some a24_ ∧ (q_K S19_ a24_ = 24 ∧ (q_K S19_ b13_ = 2 ∧ (vp_in (q_I S 1203 a0) (q_N S19_ a24_) ∧ (wb_X6_addChannel_31 bc bs ((0 + 1) + m20_) ((0 + 17) + m21_) (qs_C S19_ a24_ (q_I S 1203 a0).toNatClampNeg (some b13_)) a0 x1 (q_I S 1203 a0) (some b13_) Q)))))))))))))))))
set_option maxHeartbeats 4000000 in
set_option maxRecDepth 100000 in
theorem cm_X6_addChannel {l : Launch} {D : va_G} {cy : Nat → ClassId} {lo : Nat} {bc bs : Nat} {S : q_S} {a0 : Nat} {x1 : Int32} {Q : Option Value → q_S → Prop} (h : wm_X6_addChannel bc bs S a0 x1 Q) : q_Met l D cy lo yX6_addChannel cX6_addChannel 4 (some (.object "PartitionWorks$Channel")) 3 60 bc bs [.ref a0, .int x1] S Q := by
  refine q_body (by decide) (by first | exact Nat.le_of_ble_eq_true rfl | simp [lg_sl, q_cat, q_catI, q_catJ, q_catR]) ?_
  intro p e s m below meth c ls X hnm Y hl
  have hx := X.1
  have hb := X.2.1
  have hl : lv_has ls 4 [(0, .ref a0), (1, .int x1)] := by first | exact hl | simpa [lv_args, q_cat, q_catI, q_catJ, q_catR] using hl
  generalize hargs : ([.ref a0, .int x1] : List Value).toArray = args at X ⊢
  have hu : 0 ≤ bc ∧ 0 ≤ bs := ⟨Nat.zero_le _, Nat.zero_le _⟩
  unfold wm_X6_addChannel at h
  refine lv_aload_n hx hb dX6_addChannel_0 rfl (lv_at hl 0 rfl) ?_
  obtain ⟨k7_, h⟩ := h
  refine q_getI X Y kX6 3 rfl fl_X6_60 k7_ dX6_addChannel_1 ?_
  refine lv_istore_n (i := 2) (lv' := [(2, .int (q_I S 1203 a0)), (0, .ref a0), (1, .int x1)]) hx hb dX6_addChannel_4 rfl hl (by decide) (by first | rfl | simp [q_cat, q_catI, q_catJ, q_catR]) (fun ls hl => ?_)
  refine lv_aload_n hx hb dX6_addChannel_5 rfl (lv_at hl 1 rfl) ?_
  refine q_getP X Y kX6 2 rfl fl_X6_19 k7_ rfl dX6_addChannel_6 ?_
  refine lv_iload_n hx hb dX6_addChannel_9 rfl (lv_at hl 0 rfl) ?_
  obtain ⟨a8_, e9_, h⟩ := h
  refine q_nn [.int (q_I S 1203 a0)] e9_ ?_
  obtain ⟨k10_, h⟩ := h
  obtain ⟨i11_, h⟩ := h
  refine q_cld X Y k10_ (by decide) (t := 4) rfl i11_ rfl dX6_addChannel_10 ?_
  refine q_astore_n (i := 3) (lv' := [(3, va_rf (q_C S a8_ (q_I S 1203 a0).toNatClampNeg)), (2, .int (q_I S 1203 a0)), (0, .ref a0), (1, .int x1)]) hx hb dX6_addChannel_11 rfl hl (by decide) (by first | rfl | simp [q_cat, q_catI, q_catJ, q_catR]) (fun ls hl => ?_)
  refine q_aload_n hx hb dX6_addChannel_12 rfl (lv_at hl 0 rfl) ?_
  refine q_ifnonnull (r := (q_C S a8_ (q_I S 1203 a0).toNatClampNeg)) (tgt := 31) hx hb dX6_addChannel_13 (by decide) (fun c12_ => ?_) (fun c12_ => ?_)
  · replace h := h.1 c12_
    exact cb_X6_addChannel_31 X hu Y (lv_sub hl [2, 3, 1, 0] rfl) h
  · replace h := h.2 c12_
    obtain ⟨w16_, h⟩ := h
    refine q_new X Y kX1 tyX1 tyX1_ok dv_X1 cl_X6_17 ib_X1 in_X1 w16_ dX6_addChannel_16 (fun b13_ H h14_ h15_ Y => ?_)
    replace h := h b13_ h14_
    replace hu := w16_
    replace k7_ := qs_O_keep (ci := 1) h14_ k7_ (by decide)
    replace k10_ := qs_O_keep (ci := 1) h14_ k10_ (by decide)
    have k17_ : q_K (qs_O S 1 b13_) b13_ = 2 := qs_O_Ks
    refine lv_dup hx hb dX6_addChannel_19 rfl ?_
    obtain ⟨m20_, m21_, w22_, h⟩ := h
    refine q_callN X Y hl (cm_X1_init h) mt_X1_init mj_X1_init rfl mn_X6_80 rfl rfl (by first | exact Nat.le_of_ble_eq_true rfl | simp [q_cat, q_catI, q_catJ, q_catR]) ⟨Nat.le_of_ble_eq_true rfl, Nat.le_of_ble_eq_true rfl⟩ w22_ dX6_addChannel_20 (fun r18_ S19_ H locs hp Y => ?_)
    obtain ⟨rfl, h⟩ := hp
    replace hu := w22_
    refine W.eq (g2 := F0 m 23 ls [.ref b13_]) rfl ?_
    refine lv_astore_n (i := 3) (lv' := [(3, .ref b13_), (2, .int (q_I S 1203 a0)), (0, .ref a0), (1, .int x1)]) hx hb dX6_addChannel_23 rfl hl (by decide) (by first | rfl | simp [q_cat, q_catI, q_catJ, q_catR]) (fun ls hl => ?_)
    refine lv_aload_n hx hb dX6_addChannel_24 rfl (lv_at hl 2 rfl) ?_
    obtain ⟨k23_, h⟩ := h
    refine q_getP X Y kX6 2 rfl fl_X6_19 k23_ rfl dX6_addChannel_25 ?_
    refine lv_iload_n hx hb dX6_addChannel_28 rfl (lv_at hl 1 rfl) ?_
    refine lv_aload_n hx hb dX6_addChannel_29 rfl (lv_at hl 0 rfl) ?_
    obtain ⟨a24_, e25_, h⟩ := h
    refine q_nn [.ref b13_, .int (q_I S 1203 a0)] e25_ ?_
    obtain ⟨k26_, h⟩ := h
    obtain ⟨k27_, h⟩ := h
    obtain ⟨i28_, h⟩ := h
    refine q_cst X Y k26_ (by decide) (t := 4) (r := (RX1, TX1, 17)) rfl i28_ k27_ (by decide) rfl dX6_addChannel_30 (fun H locs Y => ?_)
    exact cb_X6_addChannel_31 X hu Y (lv_sub hl [2, 3, 1, 0] rfl) h
-- X6_addInput
theorem dX6_addInput_0 : decode cX6_addInput 0 = .ok (.aload_n 0, 1) := by decide +kernel
theorem dX6_addInput_1 : decode cX6_addInput 1 = .ok (.getfield 63, 3) := by decide +kernel
theorem dX6_addInput_4 : decode cX6_addInput 4 = .ok (.bipush 24, 2) := by decide +kernel
theorem dX6_addInput_6 : decode cX6_addInput 6 = .ok (.if_icmp .ge 26, 3) := by decide +kernel
theorem dX6_addInput_9 : decode cX6_addInput 9 = .ok (.aload_n 0, 1) := by decide +kernel
theorem dX6_addInput_10 : decode cX6_addInput 10 = .ok (.getfield 23, 3) := by decide +kernel
theorem dX6_addInput_13 : decode cX6_addInput 13 = .ok (.aload_n 0, 1) := by decide +kernel
theorem dX6_addInput_14 : decode cX6_addInput 14 = .ok (.getfield 63, 3) := by decide +kernel
theorem dX6_addInput_17 : decode cX6_addInput 17 = .ok (.aload_n 1, 1) := by decide +kernel
theorem dX6_addInput_18 : decode cX6_addInput 18 = .ok (.getfield 84, 3) := by decide +kernel
theorem dX6_addInput_21 : decode cX6_addInput 21 = .ok (.iastore, 1) := by decide +kernel
theorem dX6_addInput_22 : decode cX6_addInput 22 = .ok (.aload_n 0, 1) := by decide +kernel
theorem dX6_addInput_23 : decode cX6_addInput 23 = .ok (.dup, 1) := by decide +kernel
theorem dX6_addInput_24 : decode cX6_addInput 24 = .ok (.getfield 63, 3) := by decide +kernel
theorem dX6_addInput_27 : decode cX6_addInput 27 = .ok (.iconst 1, 1) := by decide +kernel
theorem dX6_addInput_28 : decode cX6_addInput 28 = .ok (.iadd, 1) := by decide +kernel
theorem dX6_addInput_29 : decode cX6_addInput 29 = .ok (.putfield 63, 3) := by decide +kernel
theorem dX6_addInput_32 : decode cX6_addInput 32 = .ok (.return_, 1) := by decide +kernel
def wb_X6_addInput_32  (S : q_S) (Q : Option Value → q_S → Prop) : Prop := Q none S
set_option maxHeartbeats 4000000 in
set_option maxRecDepth 100000 in
theorem cb_X6_addInput_32 {p : Program} {l : Launch} {e : Env} {s : State} {m : MethodId} {args : Array Value} {below : List Frame} {meth : Method} {c : Code} {D : va_G} {cy : Nat → ClassId} {lo : Nat}  {S : q_S} {Q : Option Value → q_S → Prop} {H : Heap} {locs : List Loc} {ls : Array Slot} (X : q_X p s m args meth c RX6 cX6_addInput 2 none D cy lo)  (Y : q_Y D cy lo s S H locs) (hl : lv_has ls 2 []) (h : wb_X6_addInput_32 S Q) : W p l e ({ frames := 0, cells := 0, slots := 0, locals := 0 } : Room) s m args below meth c H locs 0 0 (MQ below (q_Q D cy lo Q) args s 0 0 (fun q => lo ≤ q)) (F0 m 32 ls []) := by
  have hx := X.1
  have hb := X.2.1
  unfold wb_X6_addInput_32 at h
  exact q_vret X Y (Nat.le_refl _) (Nat.le_refl _) h dX6_addInput_32
def wm_X6_addInput (S : q_S) (a0 : Nat) (r1 : Option Nat) (Q : Option Value → q_S → Prop) : Prop := q_K S a0 = 7 ∧ ((((24 : Int32) ≤ (q_I S 1205 a0) → (wb_X6_addInput_32 S Q)) ∧ (¬ (24 : Int32) ≤ (q_I S 1205 a0) → (∃ a3_ : Nat, r1 = some a3_ ∧ (q_K S a3_ = 2 ∧ (∃ a6_ : Nat, (q_P S 1204 a0) = some a6_ ∧ (q_K S a6_ = 21 ∧ (vp_in (q_I S 1205 a0) (q_N S a6_) ∧ (∀ S10_ : q_S, S10_ = (qs_I (qs_A S a6_ (q_I S 1205 a0).toNatClampNeg (q_I S 200 a3_)) 1205 a0 ((q_I (qs_A S a6_ (q_I S 1205 a0).toNatClampNeg (q_I S 200 a3_)) 1205 a0) + (1 : Int32))) → (wb_X6_addInput_32 S10_ Q))))))))))
set_option maxHeartbeats 4000000 in
set_option maxRecDepth 100000 in
theorem cm_X6_addInput {l : Launch} {D : va_G} {cy : Nat → ClassId} {lo : Nat} {S : q_S} {a0 : Nat} {r1 : Option Nat} {Q : Option Value → q_S → Prop} (h : wm_X6_addInput S a0 r1 Q) : q_Met l D cy lo yX6_addInput cX6_addInput 2 none 0 0 0 0 [.ref a0, va_rf r1] S Q := by
  refine q_body (by decide) (by first | exact Nat.le_of_ble_eq_true rfl | simp [lg_sl, q_cat, q_catI, q_catJ, q_catR]) ?_
  intro p e s m below meth c ls X hnm Y hl
  have hx := X.1
  have hb := X.2.1
  have hl : lv_has ls 2 [(0, .ref a0), (1, va_rf r1)] := by first | exact hl | simpa [lv_args, q_cat, q_catI, q_catJ, q_catR] using hl
  generalize hargs : ([.ref a0, va_rf r1] : List Value).toArray = args at X ⊢
  unfold wm_X6_addInput at h
  refine lv_aload_n hx hb dX6_addInput_0 rfl (lv_at hl 0 rfl) ?_
  obtain ⟨k1_, h⟩ := h
  refine q_getI X Y kX6 5 rfl fl_X6_63 k1_ dX6_addInput_1 ?_
  refine lv_bipush (v := 24) hx hb dX6_addInput_4 (by decide) ?_
  refine lv_icmp_ge (tgt := 32) hx hb dX6_addInput_6 (by decide) (fun c2_ => ?_) (fun c2_ => ?_)
  · replace h := h.1 c2_
    exact cb_X6_addInput_32 X Y (lv_sub hl [] rfl) h
  · replace h := h.2 c2_
    refine lv_aload_n hx hb dX6_addInput_9 rfl (lv_at hl 0 rfl) ?_
    refine q_getP X Y kX6 4 rfl fl_X6_23 k1_ rfl dX6_addInput_10 ?_
    refine lv_aload_n hx hb dX6_addInput_13 rfl (lv_at hl 0 rfl) ?_
    refine q_getI X Y kX6 5 rfl fl_X6_63 k1_ dX6_addInput_14 ?_
    refine q_aload_n hx hb dX6_addInput_17 rfl (lv_at hl 1 rfl) ?_
    obtain ⟨a3_, e4_, h⟩ := h
    refine q_nn [] e4_ ?_
    obtain ⟨k5_, h⟩ := h
    refine q_getI X Y kX1 0 rfl fl_X6_84 k5_ dX6_addInput_18 ?_
    obtain ⟨a6_, e7_, h⟩ := h
    refine q_nn [.int (q_I S 200 a3_), .int (q_I S 1205 a0)] e7_ ?_
    obtain ⟨k8_, h⟩ := h
    obtain ⟨i9_, h⟩ := h
    refine q_ist X Y k8_ i9_ dX6_addInput_21 (fun H locs Y => ?_)
    refine lv_aload_n hx hb dX6_addInput_22 rfl (lv_at hl 0 rfl) ?_
    refine lv_dup hx hb dX6_addInput_23 rfl ?_
    refine q_getI X Y kX6 5 rfl fl_X6_63 k1_ dX6_addInput_24 ?_
    refine lv_iconst (v := 1) hx hb dX6_addInput_27 (by decide) ?_
    refine lv_iadd hx hb dX6_addInput_28 ?_
    refine q_putI X Y kX6 5 rfl fl_X6_63 k1_ .int rfl ⟨rfl, rfl⟩ rfl dX6_addInput_29 (fun H locs Y => ?_)
    obtain ⟨S10_, gS10_⟩ : ∃ z : q_S, z = (qs_I (qs_A S a6_ (q_I S 1205 a0).toNatClampNeg (q_I S 200 a3_)) 1205 a0 ((q_I (qs_A S a6_ (q_I S 1205 a0).toNatClampNeg (q_I S 200 a3_)) 1205 a0) + (1 : Int32))) := ⟨_, rfl⟩
    replace Y : q_Y D cy lo s S10_ H locs := by rw [gS10_]; exact Y
    replace h := h S10_ gS10_
    replace k1_ : q_K S10_ a0 = 7 := by rw [gS10_]; exact k1_
    replace k5_ : q_K S10_ a3_ = 2 := by rw [gS10_]; exact k5_
    replace k8_ : q_K S10_ a6_ = 21 := by rw [gS10_]; exact k8_
    exact cb_X6_addInput_32 X Y (lv_sub hl [] rfl) h
-- X6_addOutput
theorem dX6_addOutput_0 : decode cX6_addOutput 0 = .ok (.aload_n 1, 1) := by decide +kernel
theorem dX6_addOutput_1 : decode cX6_addOutput 1 = .ok (.getfield 87, 3) := by decide +kernel
theorem dX6_addOutput_4 : decode cX6_addOutput 4 = .ok (.ifCond .ne 13, 3) := by decide +kernel
theorem dX6_addOutput_7 : decode cX6_addOutput 7 = .ok (.aload_n 0, 1) := by decide +kernel
theorem dX6_addOutput_8 : decode cX6_addOutput 8 = .ok (.dup, 1) := by decide +kernel
theorem dX6_addOutput_9 : decode cX6_addOutput 9 = .ok (.getfield 66, 3) := by decide +kernel
theorem dX6_addOutput_12 : decode cX6_addOutput 12 = .ok (.iconst 1, 1) := by decide +kernel
theorem dX6_addOutput_13 : decode cX6_addOutput 13 = .ok (.iadd, 1) := by decide +kernel
theorem dX6_addOutput_14 : decode cX6_addOutput 14 = .ok (.putfield 66, 3) := by decide +kernel
theorem dX6_addOutput_17 : decode cX6_addOutput 17 = .ok (.aload_n 1, 1) := by decide +kernel
theorem dX6_addOutput_18 : decode cX6_addOutput 18 = .ok (.dup, 1) := by decide +kernel
theorem dX6_addOutput_19 : decode cX6_addOutput 19 = .ok (.getfield 87, 3) := by decide +kernel
theorem dX6_addOutput_22 : decode cX6_addOutput 22 = .ok (.iconst 1, 1) := by decide +kernel
theorem dX6_addOutput_23 : decode cX6_addOutput 23 = .ok (.iadd, 1) := by decide +kernel
theorem dX6_addOutput_24 : decode cX6_addOutput 24 = .ok (.putfield 87, 3) := by decide +kernel
theorem dX6_addOutput_27 : decode cX6_addOutput 27 = .ok (.return_, 1) := by decide +kernel
def wb_X6_addOutput_17  (S : q_S) (r1 : Option Nat) (Q : Option Value → q_S → Prop) : Prop := ∃ a1_ : Nat, r1 = some a1_ ∧ (q_K S a1_ = 2 ∧ (Q none (qs_I S 208 a1_ ((q_I S 208 a1_) + (1 : Int32)))))
set_option maxHeartbeats 4000000 in
set_option maxRecDepth 100000 in
theorem cb_X6_addOutput_17 {p : Program} {l : Launch} {e : Env} {s : State} {m : MethodId} {args : Array Value} {below : List Frame} {meth : Method} {c : Code} {D : va_G} {cy : Nat → ClassId} {lo : Nat}  {S : q_S} {r1 : Option Nat} {Q : Option Value → q_S → Prop} {H : Heap} {locs : List Loc} {ls : Array Slot} (X : q_X p s m args meth c RX6 cX6_addOutput 2 none D cy lo)  (Y : q_Y D cy lo s S H locs) (hl : lv_has ls 2 [(1, va_rf r1)]) (h : wb_X6_addOutput_17 S r1 Q) : W p l e ({ frames := 0, cells := 0, slots := 0, locals := 0 } : Room) s m args below meth c H locs 0 0 (MQ below (q_Q D cy lo Q) args s 0 0 (fun q => lo ≤ q)) (F0 m 17 ls []) := by
  have hx := X.1
  have hb := X.2.1
  unfold wb_X6_addOutput_17 at h
  refine q_aload_n hx hb dX6_addOutput_17 rfl (lv_at hl 0 rfl) ?_
  refine lv_dup hx hb dX6_addOutput_18 (q_cat _) ?_
  obtain ⟨a1_, e2_, h⟩ := h
  refine q_nn [] e2_ ?_
  obtain ⟨k3_, h⟩ := h
  refine q_getI X Y kX1 8 rfl fl_X6_87 k3_ dX6_addOutput_19 ?_
  refine lv_iconst (v := 1) hx hb dX6_addOutput_22 (by decide) ?_
  refine lv_iadd hx hb dX6_addOutput_23 ?_
  refine q_nn [.int ((q_I S 208 a1_) + (1 : Int32))] e2_ ?_
  refine q_putI X Y kX1 8 rfl fl_X6_87 k3_ .int rfl ⟨rfl, rfl⟩ rfl dX6_addOutput_24 (fun H locs Y => ?_)
  exact q_vret X Y (Nat.le_refl _) (Nat.le_refl _) h dX6_addOutput_27
def wm_X6_addOutput (S : q_S) (a0 : Nat) (r1 : Option Nat) (Q : Option Value → q_S → Prop) : Prop := ∃ a4_ : Nat, r1 = some a4_ ∧ (q_K S a4_ = 2 ∧ (((¬ (q_I S 208 a4_) = 0 → (wb_X6_addOutput_17 S r1 Q)) ∧ ((q_I S 208 a4_) = 0 → (q_K S a0 = 7 ∧ (wb_X6_addOutput_17 (qs_I S 1206 a0 ((q_I S 1206 a0) + (1 : Int32))) r1 Q))))))
set_option maxHeartbeats 4000000 in
set_option maxRecDepth 100000 in
theorem cm_X6_addOutput {l : Launch} {D : va_G} {cy : Nat → ClassId} {lo : Nat} {S : q_S} {a0 : Nat} {r1 : Option Nat} {Q : Option Value → q_S → Prop} (h : wm_X6_addOutput S a0 r1 Q) : q_Met l D cy lo yX6_addOutput cX6_addOutput 2 none 0 0 0 0 [.ref a0, va_rf r1] S Q := by
  refine q_body (by decide) (by first | exact Nat.le_of_ble_eq_true rfl | simp [lg_sl, q_cat, q_catI, q_catJ, q_catR]) ?_
  intro p e s m below meth c ls X hnm Y hl
  have hx := X.1
  have hb := X.2.1
  have hl : lv_has ls 2 [(0, .ref a0), (1, va_rf r1)] := by first | exact hl | simpa [lv_args, q_cat, q_catI, q_catJ, q_catR] using hl
  generalize hargs : ([.ref a0, va_rf r1] : List Value).toArray = args at X ⊢
  unfold wm_X6_addOutput at h
  refine q_aload_n hx hb dX6_addOutput_0 rfl (lv_at hl 1 rfl) ?_
  obtain ⟨a4_, e5_, h⟩ := h
  refine q_nn [] e5_ ?_
  obtain ⟨k6_, h⟩ := h
  refine q_getI X Y kX1 8 rfl fl_X6_87 k6_ dX6_addOutput_1 ?_
  refine lv_if_ne (tgt := 17) hx hb dX6_addOutput_4 (by decide) (fun c7_ => ?_) (fun c7_ => ?_)
  · replace h := h.1 c7_
    exact cb_X6_addOutput_17 X Y (lv_sub hl [1] rfl) h
  · replace h := h.2 c7_
    refine lv_aload_n hx hb dX6_addOutput_7 rfl (lv_at hl 0 rfl) ?_
    refine lv_dup hx hb dX6_addOutput_8 rfl ?_
    obtain ⟨k8_, h⟩ := h
    refine q_getI X Y kX6 6 rfl fl_X6_66 k8_ dX6_addOutput_9 ?_
    refine lv_iconst (v := 1) hx hb dX6_addOutput_12 (by decide) ?_
    refine lv_iadd hx hb dX6_addOutput_13 ?_
    refine q_putI X Y kX6 6 rfl fl_X6_66 k8_ .int rfl ⟨rfl, rfl⟩ rfl dX6_addOutput_14 (fun H locs Y => ?_)
    exact cb_X6_addOutput_17 X Y (lv_sub hl [1] rfl) h
-- X6_addWindow
theorem dX6_addWindow_0 : decode cX6_addWindow 0 = .ok (.aload_n 0, 1) := by decide +kernel
theorem dX6_addWindow_1 : decode cX6_addWindow 1 = .ok (.getfield 69, 3) := by decide +kernel
theorem dX6_addWindow_4 : decode cX6_addWindow 4 = .ok (.bipush 24, 2) := by decide +kernel
theorem dX6_addWindow_6 : decode cX6_addWindow 6 = .ok (.if_icmp .ge 38, 3) := by decide +kernel
theorem dX6_addWindow_9 : decode cX6_addWindow 9 = .ok (.aload_n 0, 1) := by decide +kernel
theorem dX6_addWindow_10 : decode cX6_addWindow 10 = .ok (.getfield 27, 3) := by decide +kernel
theorem dX6_addWindow_13 : decode cX6_addWindow 13 = .ok (.aload_n 0, 1) := by decide +kernel
theorem dX6_addWindow_14 : decode cX6_addWindow 14 = .ok (.getfield 69, 3) := by decide +kernel
theorem dX6_addWindow_17 : decode cX6_addWindow 17 = .ok (.iload_n 1, 1) := by decide +kernel
theorem dX6_addWindow_18 : decode cX6_addWindow 18 = .ok (.iastore, 1) := by decide +kernel
theorem dX6_addWindow_19 : decode cX6_addWindow 19 = .ok (.aload_n 0, 1) := by decide +kernel
theorem dX6_addWindow_20 : decode cX6_addWindow 20 = .ok (.getfield 30, 3) := by decide +kernel
theorem dX6_addWindow_23 : decode cX6_addWindow 23 = .ok (.aload_n 0, 1) := by decide +kernel
theorem dX6_addWindow_24 : decode cX6_addWindow 24 = .ok (.getfield 69, 3) := by decide +kernel
theorem dX6_addWindow_27 : decode cX6_addWindow 27 = .ok (.aload_n 0, 1) := by decide +kernel
theorem dX6_addWindow_28 : decode cX6_addWindow 28 = .ok (.invokevirtual 90, 3) := by decide +kernel
theorem dX6_addWindow_31 : decode cX6_addWindow 31 = .ok (.iload_n 2, 1) := by decide +kernel
theorem dX6_addWindow_32 : decode cX6_addWindow 32 = .ok (.iadd, 1) := by decide +kernel
theorem dX6_addWindow_33 : decode cX6_addWindow 33 = .ok (.iastore, 1) := by decide +kernel
theorem dX6_addWindow_34 : decode cX6_addWindow 34 = .ok (.aload_n 0, 1) := by decide +kernel
theorem dX6_addWindow_35 : decode cX6_addWindow 35 = .ok (.dup, 1) := by decide +kernel
theorem dX6_addWindow_36 : decode cX6_addWindow 36 = .ok (.getfield 69, 3) := by decide +kernel
theorem dX6_addWindow_39 : decode cX6_addWindow 39 = .ok (.iconst 1, 1) := by decide +kernel
theorem dX6_addWindow_40 : decode cX6_addWindow 40 = .ok (.iadd, 1) := by decide +kernel
theorem dX6_addWindow_41 : decode cX6_addWindow 41 = .ok (.putfield 69, 3) := by decide +kernel
theorem dX6_addWindow_44 : decode cX6_addWindow 44 = .ok (.return_, 1) := by decide +kernel
def wb_X6_addWindow_44  (S : q_S) (Q : Option Value → q_S → Prop) : Prop := Q none S
set_option maxHeartbeats 4000000 in
set_option maxRecDepth 100000 in
theorem cb_X6_addWindow_44 {p : Program} {l : Launch} {e : Env} {s : State} {m : MethodId} {args : Array Value} {below : List Frame} {meth : Method} {c : Code} {D : va_G} {cy : Nat → ClassId} {lo : Nat}  {S : q_S} {Q : Option Value → q_S → Prop} {H : Heap} {locs : List Loc} {ls : Array Slot} (X : q_X p s m args meth c RX6 cX6_addWindow 3 none D cy lo)  (Y : q_Y D cy lo s S H locs) (hl : lv_has ls 3 []) (h : wb_X6_addWindow_44 S Q) : W p l e ({ frames := 1, cells := 0, slots := 0, locals := 20 } : Room) s m args below meth c H locs 0 0 (MQ below (q_Q D cy lo Q) args s 0 0 (fun q => lo ≤ q)) (F0 m 44 ls []) := by
  have hx := X.1
  have hb := X.2.1
  unfold wb_X6_addWindow_44 at h
  exact q_vret X Y (Nat.le_refl _) (Nat.le_refl _) h dX6_addWindow_44
def wm_X6_addWindow (S : q_S) (a0 : Nat) (x1 : Int32) (x2 : Int32) (Q : Option Value → q_S → Prop) : Prop := q_K S a0 = 7 ∧ ((((24 : Int32) ≤ (q_I S 1209 a0) → (wb_X6_addWindow_44 S Q)) ∧ (¬ (24 : Int32) ≤ (q_I S 1209 a0) → (∃ a3_ : Nat, (q_P S 1207 a0) = some a3_ ∧ (q_K S a3_ = 21 ∧ (vp_in (q_I S 1209 a0) (q_N S a3_) ∧ (wm_X6_frameTicks (qs_A S a3_ (q_I S 1209 a0).toNatClampNeg x1) a0 (fun r7_ S8_ => ∃ x9_ : Int32, r7_ = some (.int x9_) ∧ (∃ a10_ : Nat, (q_P (qs_A S a3_ (q_I S 1209 a0).toNatClampNeg x1) 1208 a0) = some a10_ ∧ (q_K S8_ a10_ = 21 ∧ (vp_in (q_I (qs_A S a3_ (q_I S 1209 a0).toNatClampNeg x1) 1209 a0) (q_N S8_ a10_) ∧ (q_K (qs_A S8_ a10_ (q_I (qs_A S a3_ (q_I S 1209 a0).toNatClampNeg x1) 1209 a0).toNatClampNeg (x9_ + x2)) a0 = 7 ∧ (∀ S15_ : q_S, S15_ = (qs_I (qs_A S8_ a10_ (q_I (qs_A S a3_ (q_I S 1209 a0).toNatClampNeg x1) 1209 a0).toNatClampNeg (x9_ + x2)) 1209 a0 ((q_I (qs_A S8_ a10_ (q_I (qs_A S a3_ (q_I S 1209 a0).toNatClampNeg x1) 1209 a0).toNatClampNeg (x9_ + x2)) 1209 a0) + (1 : Int32))) → (wb_X6_addWindow_44 S15_ Q))))))))))))))
set_option maxHeartbeats 4000000 in
set_option maxRecDepth 100000 in
theorem cm_X6_addWindow {l : Launch} {D : va_G} {cy : Nat → ClassId} {lo : Nat} {S : q_S} {a0 : Nat} {x1 : Int32} {x2 : Int32} {Q : Option Value → q_S → Prop} (h : wm_X6_addWindow S a0 x1 x2 Q) : q_Met l D cy lo yX6_addWindow cX6_addWindow 3 none 1 20 0 0 [.ref a0, .int x1, .int x2] S Q := by
  refine q_body (by decide) (by first | exact Nat.le_of_ble_eq_true rfl | simp [lg_sl, q_cat, q_catI, q_catJ, q_catR]) ?_
  intro p e s m below meth c ls X hnm Y hl
  have hx := X.1
  have hb := X.2.1
  have hl : lv_has ls 3 [(0, .ref a0), (1, .int x1), (2, .int x2)] := by first | exact hl | simpa [lv_args, q_cat, q_catI, q_catJ, q_catR] using hl
  generalize hargs : ([.ref a0, .int x1, .int x2] : List Value).toArray = args at X ⊢
  unfold wm_X6_addWindow at h
  refine lv_aload_n hx hb dX6_addWindow_0 rfl (lv_at hl 0 rfl) ?_
  obtain ⟨k1_, h⟩ := h
  refine q_getI X Y kX6 9 rfl fl_X6_69 k1_ dX6_addWindow_1 ?_
  refine lv_bipush (v := 24) hx hb dX6_addWindow_4 (by decide) ?_
  refine lv_icmp_ge (tgt := 44) hx hb dX6_addWindow_6 (by decide) (fun c2_ => ?_) (fun c2_ => ?_)
  · replace h := h.1 c2_
    exact cb_X6_addWindow_44 X Y (lv_sub hl [] rfl) h
  · replace h := h.2 c2_
    refine lv_aload_n hx hb dX6_addWindow_9 rfl (lv_at hl 0 rfl) ?_
    refine q_getP X Y kX6 7 rfl fl_X6_27 k1_ rfl dX6_addWindow_10 ?_
    refine lv_aload_n hx hb dX6_addWindow_13 rfl (lv_at hl 0 rfl) ?_
    refine q_getI X Y kX6 9 rfl fl_X6_69 k1_ dX6_addWindow_14 ?_
    refine lv_iload_n hx hb dX6_addWindow_17 rfl (lv_at hl 1 rfl) ?_
    obtain ⟨a3_, e4_, h⟩ := h
    refine q_nn [.int x1, .int (q_I S 1209 a0)] e4_ ?_
    obtain ⟨k5_, h⟩ := h
    obtain ⟨i6_, h⟩ := h
    refine q_ist X Y k5_ i6_ dX6_addWindow_18 (fun H locs Y => ?_)
    refine lv_aload_n hx hb dX6_addWindow_19 rfl (lv_at hl 0 rfl) ?_
    refine q_getP X Y kX6 8 rfl fl_X6_30 k1_ rfl dX6_addWindow_20 ?_
    refine lv_aload_n hx hb dX6_addWindow_23 rfl (lv_at hl 0 rfl) ?_
    refine q_getI X Y kX6 9 rfl fl_X6_69 k1_ dX6_addWindow_24 ?_
    refine lv_aload_n hx hb dX6_addWindow_27 rfl (lv_at hl 0 rfl) ?_
    refine q_callV X Y hl (cm_X6_frameTicks h) mt_X6_frameTicks mi_X6_frameTicks ml_X6_90 (ci := 6) rfl k1_ (by decide) rfl rfl (by first | exact Nat.le_of_ble_eq_true rfl | simp [q_cat, q_catI, q_catJ, q_catR]) ⟨Nat.le_of_ble_eq_true rfl, Nat.le_of_ble_eq_true rfl⟩ ⟨Nat.le_of_ble_eq_true rfl, Nat.le_of_ble_eq_true rfl⟩ dX6_addWindow_28 (fun r7_ S8_ H locs hp Y => ?_)
    obtain ⟨x9_, rfl, h⟩ := hp
    refine W.eq (g2 := F0 m 31 ls [.int x9_, .int (q_I (qs_A S a3_ (q_I S 1209 a0).toNatClampNeg x1) 1209 a0), va_rf (q_P (qs_A S a3_ (q_I S 1209 a0).toNatClampNeg x1) 1208 a0)]) rfl ?_
    refine lv_iload_n hx hb dX6_addWindow_31 rfl (lv_at hl 2 rfl) ?_
    refine lv_iadd hx hb dX6_addWindow_32 ?_
    obtain ⟨a10_, e11_, h⟩ := h
    refine q_nn [.int (x9_ + x2), .int (q_I (qs_A S a3_ (q_I S 1209 a0).toNatClampNeg x1) 1209 a0)] e11_ ?_
    obtain ⟨k12_, h⟩ := h
    obtain ⟨i13_, h⟩ := h
    refine q_ist X Y k12_ i13_ dX6_addWindow_33 (fun H locs Y => ?_)
    refine lv_aload_n hx hb dX6_addWindow_34 rfl (lv_at hl 0 rfl) ?_
    refine lv_dup hx hb dX6_addWindow_35 rfl ?_
    obtain ⟨k14_, h⟩ := h
    refine q_getI X Y kX6 9 rfl fl_X6_69 k14_ dX6_addWindow_36 ?_
    refine lv_iconst (v := 1) hx hb dX6_addWindow_39 (by decide) ?_
    refine lv_iadd hx hb dX6_addWindow_40 ?_
    refine q_putI X Y kX6 9 rfl fl_X6_69 k14_ .int rfl ⟨rfl, rfl⟩ rfl dX6_addWindow_41 (fun H locs Y => ?_)
    obtain ⟨S15_, gS15_⟩ : ∃ z : q_S, z = (qs_I (qs_A S8_ a10_ (q_I (qs_A S a3_ (q_I S 1209 a0).toNatClampNeg x1) 1209 a0).toNatClampNeg (x9_ + x2)) 1209 a0 ((q_I (qs_A S8_ a10_ (q_I (qs_A S a3_ (q_I S 1209 a0).toNatClampNeg x1) 1209 a0).toNatClampNeg (x9_ + x2)) 1209 a0) + (1 : Int32))) := ⟨_, rfl⟩
    replace Y : q_Y D cy lo s S15_ H locs := by rw [gS15_]; exact Y
    replace h := h S15_ gS15_
    replace k12_ : q_K S15_ a10_ = 21 := by rw [gS15_]; exact k12_
    replace k14_ : q_K S15_ a0 = 7 := by rw [gS15_]; exact k14_
    exact cb_X6_addWindow_44 X Y (lv_sub hl [] rfl) h
-- X6_partitionNamed
theorem fl_X6_94 : Cond.fieldLink RX6 94 "PartitionWorks$Partition" "name" "J" ∈ q_G := q_tb (i := 694) (by decide +kernel) (by decide +kernel)
theorem dX6_partitionNamed_0 : decode cX6_partitionNamed 0 = .ok (.iconst 0, 1) := by decide +kernel
theorem dX6_partitionNamed_1 : decode cX6_partitionNamed 1 = .ok (.istore_n 3, 1) := by decide +kernel
theorem dX6_partitionNamed_2 : decode cX6_partitionNamed 2 = .ok (.iload_n 3, 1) := by decide +kernel
theorem dX6_partitionNamed_3 : decode cX6_partitionNamed 3 = .ok (.aload_n 0, 1) := by decide +kernel
theorem dX6_partitionNamed_4 : decode cX6_partitionNamed 4 = .ok (.getfield 57, 3) := by decide +kernel
theorem dX6_partitionNamed_7 : decode cX6_partitionNamed 7 = .ok (.if_icmp .ge 25, 3) := by decide +kernel
theorem dX6_partitionNamed_10 : decode cX6_partitionNamed 10 = .ok (.aload_n 0, 1) := by decide +kernel
theorem dX6_partitionNamed_11 : decode cX6_partitionNamed 11 = .ok (.getfield 11, 3) := by decide +kernel
theorem dX6_partitionNamed_14 : decode cX6_partitionNamed 14 = .ok (.iload_n 3, 1) := by decide +kernel
theorem dX6_partitionNamed_15 : decode cX6_partitionNamed 15 = .ok (.aaload, 1) := by decide +kernel
theorem dX6_partitionNamed_16 : decode cX6_partitionNamed 16 = .ok (.getfield 94, 3) := by decide +kernel
theorem dX6_partitionNamed_19 : decode cX6_partitionNamed 19 = .ok (.lload_n 1, 1) := by decide +kernel
theorem dX6_partitionNamed_20 : decode cX6_partitionNamed 20 = .ok (.lcmp, 1) := by decide +kernel
theorem dX6_partitionNamed_21 : decode cX6_partitionNamed 21 = .ok (.ifCond .ne 5, 3) := by decide +kernel
theorem dX6_partitionNamed_24 : decode cX6_partitionNamed 24 = .ok (.iload_n 3, 1) := by decide +kernel
theorem dX6_partitionNamed_25 : decode cX6_partitionNamed 25 = .ok (.ireturn, 1) := by decide +kernel
theorem dX6_partitionNamed_26 : decode cX6_partitionNamed 26 = .ok (.iinc 3 1, 3) := by decide +kernel
theorem dX6_partitionNamed_29 : decode cX6_partitionNamed 29 = .ok (.goto (-27), 3) := by decide +kernel
theorem dX6_partitionNamed_32 : decode cX6_partitionNamed 32 = .ok (.iconst (-1), 1) := by decide +kernel
theorem dX6_partitionNamed_33 : decode cX6_partitionNamed 33 = .ok (.ireturn, 1) := by decide +kernel
def wb_X6_partitionNamed_2 (B2 : q_S → Nat → Int64 → Int32 → Prop) (S : q_S) (a0 : Nat) (z1 : Int64) (x3 : Int32) (Q : Option Value → q_S → Prop) : Prop := q_K S a0 = 7 ∧ ((((q_I S 1201 a0) ≤ x3 → (Q (some (.int (-1 : Int32))) S)) ∧ (¬ (q_I S 1201 a0) ≤ x3 → (∃ a3_ : Nat, (q_P S 1200 a0) = some a3_ ∧ (q_K S a3_ = 25 ∧ (vp_in x3 (q_N S a3_) ∧ (∃ a7_ : Nat, (q_C S a3_ x3.toNatClampNeg) = some a7_ ∧ (q_K S a7_ = 6 ∧ (((¬ (lg_cmp (q_J S 1001 a7_) z1) = 0 → (B2 S a0 z1 (x3 + 1))) ∧ ((lg_cmp (q_J S 1001 a7_) z1) = 0 → (Q (some (.int x3)) S))))))))))))
set_option maxHeartbeats 4000000 in
set_option maxRecDepth 100000 in
theorem cb_X6_partitionNamed_2 {p : Program} {l : Launch} {e : Env} {s : State} {m : MethodId} {args : Array Value} {below : List Frame} {meth : Method} {c : Code} {D : va_G} {cy : Nat → ClassId} {lo : Nat} {B2 : q_S → Nat → Int64 → Int32 → Prop} {S : q_S} {a0 : Nat} {z1 : Int64} {x3 : Int32} {Q : Option Value → q_S → Prop} {H : Heap} {locs : List Loc} {ls : Array Slot} (X : q_X p s m args meth c RX6 cX6_partitionNamed 4 (some .int) D cy lo) (hB2 : ∀ (S : q_S) (a0 : Nat) (z1 : Int64) (x3 : Int32) (H : Heap) (locs : List Loc) (ls : Array Slot), B2 S a0 z1 x3 → q_Y D cy lo s S H locs → lv_has ls 4 [(0, .ref a0), (1, .long z1), (3, .int x3)] → W p l e ({ frames := 0, cells := 0, slots := 0, locals := 0 } : Room) s m args below meth c H locs 0 0 (MQ below (q_Q D cy lo Q) args s 0 0 (fun q => lo ≤ q)) (F0 m 2 ls [])) (Y : q_Y D cy lo s S H locs) (hl : lv_has ls 4 [(0, .ref a0), (1, .long z1), (3, .int x3)]) (h : wb_X6_partitionNamed_2 B2 S a0 z1 x3 Q) : W p l e ({ frames := 0, cells := 0, slots := 0, locals := 0 } : Room) s m args below meth c H locs 0 0 (MQ below (q_Q D cy lo Q) args s 0 0 (fun q => lo ≤ q)) (F0 m 2 ls []) := by
  have hx := X.1
  have hb := X.2.1
  unfold wb_X6_partitionNamed_2 at h
  refine lv_iload_n hx hb dX6_partitionNamed_2 rfl (lv_at hl 2 rfl) ?_
  refine lv_aload_n hx hb dX6_partitionNamed_3 rfl (lv_at hl 0 rfl) ?_
  obtain ⟨k1_, h⟩ := h
  refine q_getI X Y kX6 1 rfl fl_X6_57 k1_ dX6_partitionNamed_4 ?_
  refine lv_icmp_ge (tgt := 32) hx hb dX6_partitionNamed_7 (by decide) (fun c2_ => ?_) (fun c2_ => ?_)
  · replace h := h.1 c2_
    refine lv_iconst (v := (-1)) hx hb dX6_partitionNamed_32 (by decide) ?_
    exact q_iret X Y rfl (Nat.le_refl _) (Nat.le_refl _) h dX6_partitionNamed_33
  · replace h := h.2 c2_
    refine lv_aload_n hx hb dX6_partitionNamed_10 rfl (lv_at hl 0 rfl) ?_
    refine q_getP X Y kX6 0 rfl fl_X6_11 k1_ rfl dX6_partitionNamed_11 ?_
    refine lv_iload_n hx hb dX6_partitionNamed_14 rfl (lv_at hl 2 rfl) ?_
    obtain ⟨a3_, e4_, h⟩ := h
    refine q_nn [.int x3] e4_ ?_
    obtain ⟨k5_, h⟩ := h
    obtain ⟨i6_, h⟩ := h
    refine q_cld X Y k5_ (by decide) (t := 5) rfl i6_ rfl dX6_partitionNamed_15 ?_
    obtain ⟨a7_, e8_, h⟩ := h
    refine q_nn [] e8_ ?_
    obtain ⟨k9_, h⟩ := h
    refine q_getJ X Y kX5 1 rfl fl_X6_94 k9_ dX6_partitionNamed_16 ?_
    refine lv_lload_n hx hb dX6_partitionNamed_19 rfl (lv_at hl 1 rfl) ?_
    refine W.lcmp hx hb dX6_partitionNamed_20 ?_
    refine lv_if_ne (tgt := 26) hx hb dX6_partitionNamed_21 (by decide) (fun c10_ => ?_) (fun c10_ => ?_)
    · replace h := h.1 c10_
      refine lv_iinc (v := (x3 + 1)) (lv' := [(3, .int (x3 + 1)), (0, .ref a0), (1, .long z1)]) hx hb dX6_partitionNamed_26 hl (k := 2) rfl (by first | rfl | decide) (by decide) (by first | rfl | simp [q_cat, q_catI, q_catJ, q_catR]) (fun ls hl => ?_)
      refine lv_goto (tgt := 2) hx hb dX6_partitionNamed_29 (by decide) ?_
      exact hB2 _ _ _ _ _ _ _ h Y (lv_sub hl [1, 2, 0] rfl)
    · replace h := h.2 c10_
      refine lv_iload_n hx hb dX6_partitionNamed_24 rfl (lv_at hl 2 rfl) ?_
      exact q_iret X Y rfl (Nat.le_refl _) (Nat.le_refl _) h dX6_partitionNamed_25
def wl_X6_partitionNamed_2  : Nat → q_S → Nat → Int64 → Int32 → (Option Value → q_S → Prop) → Prop
  | 0, _, _, _, _, _ => False
  | n + 1, S, a0, z1, x3, Q => wb_X6_partitionNamed_2 (fun S a0 z1 x3 => wl_X6_partitionNamed_2 n S a0 z1 x3 Q) S a0 z1 x3 Q
set_option maxHeartbeats 4000000 in
set_option maxRecDepth 100000 in
theorem cl_X6_partitionNamed_2 {p : Program} {l : Launch} {e : Env} {s : State} {m : MethodId} {args : Array Value} {below : List Frame} {meth : Method} {c : Code} {D : va_G} {cy : Nat → ClassId} {lo : Nat}  {Q : Option Value → q_S → Prop} (X : q_X p s m args meth c RX6 cX6_partitionNamed 4 (some .int) D cy lo)  : ∀ (n : Nat) (S : q_S) (a0 : Nat) (z1 : Int64) (x3 : Int32) (H : Heap) (locs : List Loc) (ls : Array Slot), wl_X6_partitionNamed_2 n S a0 z1 x3 Q → q_Y D cy lo s S H locs → lv_has ls 4 [(0, .ref a0), (1, .long z1), (3, .int x3)] → W p l e ({ frames := 0, cells := 0, slots := 0, locals := 0 } : Room) s m args below meth c H locs 0 0 (MQ below (q_Q D cy lo Q) args s 0 0 (fun q => lo ≤ q)) (F0 m 2 ls []) := by
  intro n
  induction n with
  | zero => intro S a0 z1 x3 H locs ls h; exact absurd h id
  | succ n ih => intro S a0 z1 x3 H locs ls h Y hl; exact cb_X6_partitionNamed_2 X ih Y hl h
def wm_X6_partitionNamed (S : q_S) (a0 : Nat) (z1 : Int64) (Q : Option Value → q_S → Prop) : Prop := ∃ n11_ : Nat, wl_X6_partitionNamed_2 n11_ S a0 z1 (0 : Int32) Q
set_option maxHeartbeats 4000000 in
set_option maxRecDepth 100000 in
theorem cm_X6_partitionNamed {l : Launch} {D : va_G} {cy : Nat → ClassId} {lo : Nat} {S : q_S} {a0 : Nat} {z1 : Int64} {Q : Option Value → q_S → Prop} (h : wm_X6_partitionNamed S a0 z1 Q) : q_Met l D cy lo yX6_partitionNamed cX6_partitionNamed 4 (some .int) 0 0 0 0 [.ref a0, .long z1] S Q := by
  refine q_body (by decide) (by first | exact Nat.le_of_ble_eq_true rfl | simp [lg_sl, q_cat, q_catI, q_catJ, q_catR]) ?_
  intro p e s m below meth c ls X hnm Y hl
  have hx := X.1
  have hb := X.2.1
  have hl : lv_has ls 4 [(0, .ref a0), (1, .long z1)] := by first | exact hl | simpa [lv_args, q_cat, q_catI, q_catJ, q_catR] using hl
  generalize hargs : ([.ref a0, .long z1] : List Value).toArray = args at X ⊢
  unfold wm_X6_partitionNamed at h
  refine lv_iconst (v := 0) hx hb dX6_partitionNamed_0 (by decide) ?_
  refine lv_istore_n (i := 3) (lv' := [(3, .int (0 : Int32)), (0, .ref a0), (1, .long z1)]) hx hb dX6_partitionNamed_1 rfl hl (by decide) (by first | rfl | simp [q_cat, q_catI, q_catJ, q_catR]) (fun ls hl => ?_)
  obtain ⟨n11_, h⟩ := h
  exact cl_X6_partitionNamed_2 X n11_ _ _ _ _ _ _ _ h Y (lv_sub hl [1, 2, 0] rfl)
-- X6_partitionAt
theorem dX6_partitionAt_0 : decode cX6_partitionAt 0 = .ok (.iload_n 1, 1) := by decide +kernel
theorem dX6_partitionAt_1 : decode cX6_partitionAt 1 = .ok (.ifCond .lt 11, 3) := by decide +kernel
theorem dX6_partitionAt_4 : decode cX6_partitionAt 4 = .ok (.iload_n 1, 1) := by decide +kernel
theorem dX6_partitionAt_5 : decode cX6_partitionAt 5 = .ok (.aload_n 0, 1) := by decide +kernel
theorem dX6_partitionAt_6 : decode cX6_partitionAt 6 = .ok (.getfield 57, 3) := by decide +kernel
theorem dX6_partitionAt_9 : decode cX6_partitionAt 9 = .ok (.if_icmp .lt 7, 3) := by decide +kernel
theorem dX6_partitionAt_12 : decode cX6_partitionAt 12 = .ok (.aconst_null, 1) := by decide +kernel
theorem dX6_partitionAt_13 : decode cX6_partitionAt 13 = .ok (.goto 9, 3) := by decide +kernel
theorem dX6_partitionAt_16 : decode cX6_partitionAt 16 = .ok (.aload_n 0, 1) := by decide +kernel
theorem dX6_partitionAt_17 : decode cX6_partitionAt 17 = .ok (.getfield 11, 3) := by decide +kernel
theorem dX6_partitionAt_20 : decode cX6_partitionAt 20 = .ok (.iload_n 1, 1) := by decide +kernel
theorem dX6_partitionAt_21 : decode cX6_partitionAt 21 = .ok (.aaload, 1) := by decide +kernel
theorem dX6_partitionAt_22 : decode cX6_partitionAt 22 = .ok (.areturn, 1) := by decide +kernel
def wb_X6_partitionAt_22  (S : q_S) (rs0 : Option Nat) (Q : Option Value → q_S → Prop) : Prop := Q (some (va_rf rs0)) S
set_option maxHeartbeats 4000000 in
set_option maxRecDepth 100000 in
theorem cb_X6_partitionAt_22 {p : Program} {l : Launch} {e : Env} {s : State} {m : MethodId} {args : Array Value} {below : List Frame} {meth : Method} {c : Code} {D : va_G} {cy : Nat → ClassId} {lo : Nat}  {S : q_S} {rs0 : Option Nat} {Q : Option Value → q_S → Prop} {H : Heap} {locs : List Loc} {ls : Array Slot} (X : q_X p s m args meth c RX6 cX6_partitionAt 2 (some (.object "PartitionWorks$Partition")) D cy lo)  (Y : q_Y D cy lo s S H locs) (hl : lv_has ls 2 []) (h : wb_X6_partitionAt_22 S rs0 Q) : W p l e ({ frames := 0, cells := 0, slots := 0, locals := 0 } : Room) s m args below meth c H locs 0 0 (MQ below (q_Q D cy lo Q) args s 0 0 (fun q => lo ≤ q)) (F0 m 22 ls [va_rf rs0]) := by
  have hx := X.1
  have hb := X.2.1
  unfold wb_X6_partitionAt_22 at h
  exact q_aret X Y (Or.inl ⟨_, rfl⟩) (va_rf_or _) (Nat.le_refl _) (Nat.le_refl _) h dX6_partitionAt_22
def wb_X6_partitionAt_12  (S : q_S) (Q : Option Value → q_S → Prop) : Prop := wb_X6_partitionAt_22 S none Q
set_option maxHeartbeats 4000000 in
set_option maxRecDepth 100000 in
theorem cb_X6_partitionAt_12 {p : Program} {l : Launch} {e : Env} {s : State} {m : MethodId} {args : Array Value} {below : List Frame} {meth : Method} {c : Code} {D : va_G} {cy : Nat → ClassId} {lo : Nat}  {S : q_S} {Q : Option Value → q_S → Prop} {H : Heap} {locs : List Loc} {ls : Array Slot} (X : q_X p s m args meth c RX6 cX6_partitionAt 2 (some (.object "PartitionWorks$Partition")) D cy lo)  (Y : q_Y D cy lo s S H locs) (hl : lv_has ls 2 []) (h : wb_X6_partitionAt_12 S Q) : W p l e ({ frames := 0, cells := 0, slots := 0, locals := 0 } : Room) s m args below meth c H locs 0 0 (MQ below (q_Q D cy lo Q) args s 0 0 (fun q => lo ≤ q)) (F0 m 12 ls []) := by
  have hx := X.1
  have hb := X.2.1
  unfold wb_X6_partitionAt_12 at h
  refine lv_null hx hb dX6_partitionAt_12 ?_
  refine W.eq (g2 := F0 m 13 ls [va_rf none]) rfl ?_
  refine lv_goto (tgt := 22) hx hb dX6_partitionAt_13 (by decide) ?_
  exact cb_X6_partitionAt_22 X Y (lv_sub hl [] rfl) h
def wm_X6_partitionAt (S : q_S) (a0 : Nat) (x1 : Int32) (Q : Option Value → q_S → Prop) : Prop := ((x1 < 0 → (wb_X6_partitionAt_12 S Q)) ∧ (¬ x1 < 0 → (q_K S a0 = 7 ∧ (((x1 < (q_I S 1201 a0) → (∃ a4_ : Nat, (q_P S 1200 a0) = some a4_ ∧ (q_K S a4_ = 25 ∧ (vp_in x1 (q_N S a4_) ∧ (wb_X6_partitionAt_22 S (q_C S a4_ x1.toNatClampNeg) Q))))) ∧ (¬ x1 < (q_I S 1201 a0) → (wb_X6_partitionAt_12 S Q)))))))
set_option maxHeartbeats 4000000 in
set_option maxRecDepth 100000 in
theorem cm_X6_partitionAt {l : Launch} {D : va_G} {cy : Nat → ClassId} {lo : Nat} {S : q_S} {a0 : Nat} {x1 : Int32} {Q : Option Value → q_S → Prop} (h : wm_X6_partitionAt S a0 x1 Q) : q_Met l D cy lo yX6_partitionAt cX6_partitionAt 2 (some (.object "PartitionWorks$Partition")) 0 0 0 0 [.ref a0, .int x1] S Q := by
  refine q_body (by decide) (by first | exact Nat.le_of_ble_eq_true rfl | simp [lg_sl, q_cat, q_catI, q_catJ, q_catR]) ?_
  intro p e s m below meth c ls X hnm Y hl
  have hx := X.1
  have hb := X.2.1
  have hl : lv_has ls 2 [(0, .ref a0), (1, .int x1)] := by first | exact hl | simpa [lv_args, q_cat, q_catI, q_catJ, q_catR] using hl
  generalize hargs : ([.ref a0, .int x1] : List Value).toArray = args at X ⊢
  unfold wm_X6_partitionAt at h
  refine lv_iload_n hx hb dX6_partitionAt_0 rfl (lv_at hl 1 rfl) ?_
  refine lv_if_lt (tgt := 12) hx hb dX6_partitionAt_1 (by decide) (fun c1_ => ?_) (fun c1_ => ?_)
  · replace h := h.1 c1_
    exact cb_X6_partitionAt_12 X Y (lv_sub hl [] rfl) h
  · replace h := h.2 c1_
    refine lv_iload_n hx hb dX6_partitionAt_4 rfl (lv_at hl 1 rfl) ?_
    refine lv_aload_n hx hb dX6_partitionAt_5 rfl (lv_at hl 0 rfl) ?_
    obtain ⟨k2_, h⟩ := h
    refine q_getI X Y kX6 1 rfl fl_X6_57 k2_ dX6_partitionAt_6 ?_
    refine lv_icmp_lt (tgt := 16) hx hb dX6_partitionAt_9 (by decide) (fun c3_ => ?_) (fun c3_ => ?_)
    · replace h := h.1 c3_
      refine lv_aload_n hx hb dX6_partitionAt_16 rfl (lv_at hl 0 rfl) ?_
      refine q_getP X Y kX6 0 rfl fl_X6_11 k2_ rfl dX6_partitionAt_17 ?_
      refine lv_iload_n hx hb dX6_partitionAt_20 rfl (lv_at hl 1 rfl) ?_
      obtain ⟨a4_, e5_, h⟩ := h
      refine q_nn [.int x1] e5_ ?_
      obtain ⟨k6_, h⟩ := h
      obtain ⟨i7_, h⟩ := h
      refine q_cld X Y k6_ (by decide) (t := 5) rfl i7_ rfl dX6_partitionAt_21 ?_
      exact cb_X6_partitionAt_22 X Y (lv_sub hl [] rfl) h
    · replace h := h.2 c3_
      exact cb_X6_partitionAt_12 X Y (lv_sub hl [] rfl) h
-- X6_processAt
theorem ml_X6_98 : Cond.methodLink RX6 98 yX6_partitionAt ∈ q_G := q_tb (i := 342) (by decide +kernel) (by decide +kernel)
theorem mt_X6_partitionAt : q_Mt yX6_partitionAt cX6_partitionAt 2 (some (.object "PartitionWorks$Partition")) 1 := ⟨q_tb (i := 329) (by decide +kernel) (by decide +kernel), q_tb (i := 3) (by decide +kernel) (by decide +kernel), by decide +kernel, by decide +kernel, by decide +kernel⟩
theorem mi_X6_partitionAt : Cond.instanceMethod yX6_partitionAt ∈ q_G ∧ Cond.selects yX6_partitionAt.cls yX6_partitionAt yX6_partitionAt ∈ q_G := ⟨q_tb (i := 327) (by decide +kernel) (by decide +kernel), q_tb (i := 328) (by decide +kernel) (by decide +kernel)⟩
theorem ml_X6_102 : Cond.methodLink RX6 102 yX5_processAt ∈ q_G := q_tb (i := 343) (by decide +kernel) (by decide +kernel)
theorem dX6_processAt_0 : decode cX6_processAt 0 = .ok (.aload_n 0, 1) := by decide +kernel
theorem dX6_processAt_1 : decode cX6_processAt 1 = .ok (.iload_n 1, 1) := by decide +kernel
theorem dX6_processAt_2 : decode cX6_processAt 2 = .ok (.invokevirtual 98, 3) := by decide +kernel
theorem dX6_processAt_5 : decode cX6_processAt 5 = .ok (.astore_n 3, 1) := by decide +kernel
theorem dX6_processAt_6 : decode cX6_processAt 6 = .ok (.aload_n 3, 1) := by decide +kernel
theorem dX6_processAt_7 : decode cX6_processAt 7 = .ok (.ifnonnull 7, 3) := by decide +kernel
theorem dX6_processAt_10 : decode cX6_processAt 10 = .ok (.aconst_null, 1) := by decide +kernel
theorem dX6_processAt_11 : decode cX6_processAt 11 = .ok (.goto 8, 3) := by decide +kernel
theorem dX6_processAt_14 : decode cX6_processAt 14 = .ok (.aload_n 3, 1) := by decide +kernel
theorem dX6_processAt_15 : decode cX6_processAt 15 = .ok (.iload_n 2, 1) := by decide +kernel
theorem dX6_processAt_16 : decode cX6_processAt 16 = .ok (.invokevirtual 102, 3) := by decide +kernel
theorem dX6_processAt_19 : decode cX6_processAt 19 = .ok (.areturn, 1) := by decide +kernel
def wb_X6_processAt_19  (S : q_S) (rs0 : Option Nat) (Q : Option Value → q_S → Prop) : Prop := Q (some (va_rf rs0)) S
set_option maxHeartbeats 4000000 in
set_option maxRecDepth 100000 in
theorem cb_X6_processAt_19 {p : Program} {l : Launch} {e : Env} {s : State} {m : MethodId} {args : Array Value} {below : List Frame} {meth : Method} {c : Code} {D : va_G} {cy : Nat → ClassId} {lo : Nat}  {S : q_S} {rs0 : Option Nat} {Q : Option Value → q_S → Prop} {H : Heap} {locs : List Loc} {ls : Array Slot} (X : q_X p s m args meth c RX6 cX6_processAt 4 (some (.object "PartitionWorks$Process")) D cy lo)  (Y : q_Y D cy lo s S H locs) (hl : lv_has ls 4 []) (h : wb_X6_processAt_19 S rs0 Q) : W p l e ({ frames := 1, cells := 0, slots := 0, locals := 21 } : Room) s m args below meth c H locs 0 0 (MQ below (q_Q D cy lo Q) args s 0 0 (fun q => lo ≤ q)) (F0 m 19 ls [va_rf rs0]) := by
  have hx := X.1
  have hb := X.2.1
  unfold wb_X6_processAt_19 at h
  exact q_aret X Y (Or.inl ⟨_, rfl⟩) (va_rf_or _) (Nat.le_refl _) (Nat.le_refl _) h dX6_processAt_19
def wm_X6_processAt (S : q_S) (a0 : Nat) (x1 : Int32) (x2 : Int32) (Q : Option Value → q_S → Prop) : Prop := q_K S a0 = 7 ∧ (wm_X6_partitionAt S a0 x1 (fun r2_ S3_ => ∃ r4_ : Option Nat, r2_ = some (va_rf r4_) ∧ (((¬ r4_ = none → (∃ a6_ : Nat, r4_ = some a6_ ∧ (q_K S3_ a6_ = 6 ∧ (wm_X5_processAt S3_ a6_ x2 (fun r9_ S10_ => ∃ r11_ : Option Nat, r9_ = some (va_rf r11_) ∧ (wb_X6_processAt_19 S10_ r11_ Q)))))) ∧ (r4_ = none → (wb_X6_processAt_19 S3_ none Q))))))
set_option maxHeartbeats 4000000 in
set_option maxRecDepth 100000 in
theorem cm_X6_processAt {l : Launch} {D : va_G} {cy : Nat → ClassId} {lo : Nat} {S : q_S} {a0 : Nat} {x1 : Int32} {x2 : Int32} {Q : Option Value → q_S → Prop} (h : wm_X6_processAt S a0 x1 x2 Q) : q_Met l D cy lo yX6_processAt cX6_processAt 4 (some (.object "PartitionWorks$Process")) 1 21 0 0 [.ref a0, .int x1, .int x2] S Q := by
  refine q_body (by decide) (by first | exact Nat.le_of_ble_eq_true rfl | simp [lg_sl, q_cat, q_catI, q_catJ, q_catR]) ?_
  intro p e s m below meth c ls X hnm Y hl
  have hx := X.1
  have hb := X.2.1
  have hl : lv_has ls 4 [(0, .ref a0), (1, .int x1), (2, .int x2)] := by first | exact hl | simpa [lv_args, q_cat, q_catI, q_catJ, q_catR] using hl
  generalize hargs : ([.ref a0, .int x1, .int x2] : List Value).toArray = args at X ⊢
  unfold wm_X6_processAt at h
  refine lv_aload_n hx hb dX6_processAt_0 rfl (lv_at hl 0 rfl) ?_
  refine lv_iload_n hx hb dX6_processAt_1 rfl (lv_at hl 1 rfl) ?_
  obtain ⟨k1_, h⟩ := h
  refine q_callV X Y hl (cm_X6_partitionAt h) mt_X6_partitionAt mi_X6_partitionAt ml_X6_98 (ci := 6) rfl k1_ (by decide) rfl rfl (by first | exact Nat.le_of_ble_eq_true rfl | simp [q_cat, q_catI, q_catJ, q_catR]) ⟨Nat.le_of_ble_eq_true rfl, Nat.le_of_ble_eq_true rfl⟩ ⟨Nat.le_of_ble_eq_true rfl, Nat.le_of_ble_eq_true rfl⟩ dX6_processAt_2 (fun r2_ S3_ H locs hp Y => ?_)
  obtain ⟨r4_, rfl, h⟩ := hp
  refine W.eq (g2 := F0 m 5 ls [va_rf r4_]) rfl ?_
  refine q_astore_n (i := 3) (lv' := [(3, va_rf r4_), (0, .ref a0), (1, .int x1), (2, .int x2)]) hx hb dX6_processAt_5 rfl hl (by decide) (by first | rfl | simp [q_cat, q_catI, q_catJ, q_catR]) (fun ls hl => ?_)
  refine q_aload_n hx hb dX6_processAt_6 rfl (lv_at hl 0 rfl) ?_
  refine q_ifnonnull (r := r4_) (tgt := 14) hx hb dX6_processAt_7 (by decide) (fun c5_ => ?_) (fun c5_ => ?_)
  · replace h := h.1 c5_
    refine q_aload_n hx hb dX6_processAt_14 rfl (lv_at hl 0 rfl) ?_
    refine lv_iload_n hx hb dX6_processAt_15 rfl (lv_at hl 3 rfl) ?_
    obtain ⟨a6_, e7_, h⟩ := h
    refine q_nn [.int x2] e7_ ?_
    obtain ⟨k8_, h⟩ := h
    refine q_callV X Y hl (cm_X5_processAt h) mt_X5_processAt mi_X5_processAt ml_X6_102 (ci := 5) rfl k8_ (by decide) rfl rfl (by first | exact Nat.le_of_ble_eq_true rfl | simp [q_cat, q_catI, q_catJ, q_catR]) ⟨Nat.le_of_ble_eq_true rfl, Nat.le_of_ble_eq_true rfl⟩ ⟨Nat.le_of_ble_eq_true rfl, Nat.le_of_ble_eq_true rfl⟩ dX6_processAt_16 (fun r9_ S10_ H locs hp Y => ?_)
    obtain ⟨r11_, rfl, h⟩ := hp
    refine W.eq (g2 := F0 m 19 ls [va_rf r11_]) rfl ?_
    exact cb_X6_processAt_19 X Y (lv_sub hl [] rfl) h
  · replace h := h.2 c5_
    refine lv_null hx hb dX6_processAt_10 ?_
    refine W.eq (g2 := F0 m 11 ls [va_rf none]) rfl ?_
    refine lv_goto (tgt := 19) hx hb dX6_processAt_11 (by decide) ?_
    exact cb_X6_processAt_19 X Y (lv_sub hl [] rfl) h
-- X6_thingAt
theorem ml_X6_106 : Cond.methodLink RX6 106 yX5_thingAt ∈ q_G := q_tb (i := 372) (by decide +kernel) (by decide +kernel)
theorem dX6_thingAt_0 : decode cX6_thingAt 0 = .ok (.aload_n 0, 1) := by decide +kernel
theorem dX6_thingAt_1 : decode cX6_thingAt 1 = .ok (.iload_n 1, 1) := by decide +kernel
theorem dX6_thingAt_2 : decode cX6_thingAt 2 = .ok (.invokevirtual 98, 3) := by decide +kernel
theorem dX6_thingAt_5 : decode cX6_thingAt 5 = .ok (.astore 4, 2) := by decide +kernel
theorem dX6_thingAt_7 : decode cX6_thingAt 7 = .ok (.aload 4, 2) := by decide +kernel
theorem dX6_thingAt_9 : decode cX6_thingAt 9 = .ok (.ifnonnull 7, 3) := by decide +kernel
theorem dX6_thingAt_12 : decode cX6_thingAt 12 = .ok (.aconst_null, 1) := by decide +kernel
theorem dX6_thingAt_13 : decode cX6_thingAt 13 = .ok (.goto 10, 3) := by decide +kernel
theorem dX6_thingAt_16 : decode cX6_thingAt 16 = .ok (.aload 4, 2) := by decide +kernel
theorem dX6_thingAt_18 : decode cX6_thingAt 18 = .ok (.iload_n 2, 1) := by decide +kernel
theorem dX6_thingAt_19 : decode cX6_thingAt 19 = .ok (.iload_n 3, 1) := by decide +kernel
theorem dX6_thingAt_20 : decode cX6_thingAt 20 = .ok (.invokevirtual 106, 3) := by decide +kernel
theorem dX6_thingAt_23 : decode cX6_thingAt 23 = .ok (.areturn, 1) := by decide +kernel
def wb_X6_thingAt_23  (S : q_S) (rs0 : Option Nat) (Q : Option Value → q_S → Prop) : Prop := Q (some (va_rf rs0)) S
set_option maxHeartbeats 4000000 in
set_option maxRecDepth 100000 in
theorem cb_X6_thingAt_23 {p : Program} {l : Launch} {e : Env} {s : State} {m : MethodId} {args : Array Value} {below : List Frame} {meth : Method} {c : Code} {D : va_G} {cy : Nat → ClassId} {lo : Nat}  {S : q_S} {rs0 : Option Nat} {Q : Option Value → q_S → Prop} {H : Heap} {locs : List Loc} {ls : Array Slot} (X : q_X p s m args meth c RX6 cX6_thingAt 5 (some (.object "PartitionWorks$Thing")) D cy lo)  (Y : q_Y D cy lo s S H locs) (hl : lv_has ls 5 []) (h : wb_X6_thingAt_23 S rs0 Q) : W p l e ({ frames := 1, cells := 0, slots := 0, locals := 22 } : Room) s m args below meth c H locs 0 0 (MQ below (q_Q D cy lo Q) args s 0 0 (fun q => lo ≤ q)) (F0 m 23 ls [va_rf rs0]) := by
  have hx := X.1
  have hb := X.2.1
  unfold wb_X6_thingAt_23 at h
  exact q_aret X Y (Or.inl ⟨_, rfl⟩) (va_rf_or _) (Nat.le_refl _) (Nat.le_refl _) h dX6_thingAt_23
def wm_X6_thingAt (S : q_S) (a0 : Nat) (x1 : Int32) (x2 : Int32) (x3 : Int32) (Q : Option Value → q_S → Prop) : Prop := q_K S a0 = 7 ∧ (wm_X6_partitionAt S a0 x1 (fun r2_ S3_ => ∃ r4_ : Option Nat, r2_ = some (va_rf r4_) ∧ (((¬ r4_ = none → (∃ a6_ : Nat, r4_ = some a6_ ∧ (q_K S3_ a6_ = 6 ∧ (wm_X5_thingAt S3_ a6_ x2 x3 (fun r9_ S10_ => ∃ r11_ : Option Nat, r9_ = some (va_rf r11_) ∧ (wb_X6_thingAt_23 S10_ r11_ Q)))))) ∧ (r4_ = none → (wb_X6_thingAt_23 S3_ none Q))))))
set_option maxHeartbeats 4000000 in
set_option maxRecDepth 100000 in
theorem cm_X6_thingAt {l : Launch} {D : va_G} {cy : Nat → ClassId} {lo : Nat} {S : q_S} {a0 : Nat} {x1 : Int32} {x2 : Int32} {x3 : Int32} {Q : Option Value → q_S → Prop} (h : wm_X6_thingAt S a0 x1 x2 x3 Q) : q_Met l D cy lo yX6_thingAt cX6_thingAt 5 (some (.object "PartitionWorks$Thing")) 1 22 0 0 [.ref a0, .int x1, .int x2, .int x3] S Q := by
  refine q_body (by decide) (by first | exact Nat.le_of_ble_eq_true rfl | simp [lg_sl, q_cat, q_catI, q_catJ, q_catR]) ?_
  intro p e s m below meth c ls X hnm Y hl
  have hx := X.1
  have hb := X.2.1
  have hl : lv_has ls 5 [(0, .ref a0), (1, .int x1), (2, .int x2), (3, .int x3)] := by first | exact hl | simpa [lv_args, q_cat, q_catI, q_catJ, q_catR] using hl
  generalize hargs : ([.ref a0, .int x1, .int x2, .int x3] : List Value).toArray = args at X ⊢
  unfold wm_X6_thingAt at h
  refine lv_aload_n hx hb dX6_thingAt_0 rfl (lv_at hl 0 rfl) ?_
  refine lv_iload_n hx hb dX6_thingAt_1 rfl (lv_at hl 1 rfl) ?_
  obtain ⟨k1_, h⟩ := h
  refine q_callV X Y hl (cm_X6_partitionAt h) mt_X6_partitionAt mi_X6_partitionAt ml_X6_98 (ci := 6) rfl k1_ (by decide) rfl rfl (by first | exact Nat.le_of_ble_eq_true rfl | simp [q_cat, q_catI, q_catJ, q_catR]) ⟨Nat.le_of_ble_eq_true rfl, Nat.le_of_ble_eq_true rfl⟩ ⟨Nat.le_of_ble_eq_true rfl, Nat.le_of_ble_eq_true rfl⟩ dX6_thingAt_2 (fun r2_ S3_ H locs hp Y => ?_)
  obtain ⟨r4_, rfl, h⟩ := hp
  refine W.eq (g2 := F0 m 5 ls [va_rf r4_]) rfl ?_
  refine q_astore (i := 4) (lv' := [(4, va_rf r4_), (0, .ref a0), (1, .int x1), (2, .int x2), (3, .int x3)]) hx hb dX6_thingAt_5 hl (by decide) (by first | rfl | simp [q_cat, q_catI, q_catJ, q_catR]) (fun ls hl => ?_)
  refine q_aload hx hb dX6_thingAt_7 (lv_at hl 0 rfl) ?_
  refine q_ifnonnull (r := r4_) (tgt := 16) hx hb dX6_thingAt_9 (by decide) (fun c5_ => ?_) (fun c5_ => ?_)
  · replace h := h.1 c5_
    refine q_aload hx hb dX6_thingAt_16 (lv_at hl 0 rfl) ?_
    refine lv_iload_n hx hb dX6_thingAt_18 rfl (lv_at hl 3 rfl) ?_
    refine lv_iload_n hx hb dX6_thingAt_19 rfl (lv_at hl 4 rfl) ?_
    obtain ⟨a6_, e7_, h⟩ := h
    refine q_nn [.int x3, .int x2] e7_ ?_
    obtain ⟨k8_, h⟩ := h
    refine q_callV X Y hl (cm_X5_thingAt h) mt_X5_thingAt mi_X5_thingAt ml_X6_106 (ci := 5) rfl k8_ (by decide) rfl rfl (by first | exact Nat.le_of_ble_eq_true rfl | simp [q_cat, q_catI, q_catJ, q_catR]) ⟨Nat.le_of_ble_eq_true rfl, Nat.le_of_ble_eq_true rfl⟩ ⟨Nat.le_of_ble_eq_true rfl, Nat.le_of_ble_eq_true rfl⟩ dX6_thingAt_20 (fun r9_ S10_ H locs hp Y => ?_)
    obtain ⟨r11_, rfl, h⟩ := hp
    refine W.eq (g2 := F0 m 23 ls [va_rf r11_]) rfl ?_
    exact cb_X6_thingAt_23 X Y (lv_sub hl [] rfl) h
  · replace h := h.2 c5_
    refine lv_null hx hb dX6_thingAt_12 ?_
    refine W.eq (g2 := F0 m 13 ls [va_rf none]) rfl ?_
    refine lv_goto (tgt := 23) hx hb dX6_thingAt_13 (by decide) ?_
    exact cb_X6_thingAt_23 X Y (lv_sub hl [] rfl) h
-- X6_inputAt
theorem ml_X6_110 : Cond.methodLink RX6 110 yX6_channelAt ∈ q_G := q_tb (i := 1280) (by decide +kernel) (by decide +kernel)
theorem dX6_inputAt_0 : decode cX6_inputAt 0 = .ok (.iload_n 1, 1) := by decide +kernel
theorem dX6_inputAt_1 : decode cX6_inputAt 1 = .ok (.ifCond .lt 11, 3) := by decide +kernel
theorem dX6_inputAt_4 : decode cX6_inputAt 4 = .ok (.iload_n 1, 1) := by decide +kernel
theorem dX6_inputAt_5 : decode cX6_inputAt 5 = .ok (.aload_n 0, 1) := by decide +kernel
theorem dX6_inputAt_6 : decode cX6_inputAt 6 = .ok (.getfield 63, 3) := by decide +kernel
theorem dX6_inputAt_9 : decode cX6_inputAt 9 = .ok (.if_icmp .lt 7, 3) := by decide +kernel
theorem dX6_inputAt_12 : decode cX6_inputAt 12 = .ok (.aconst_null, 1) := by decide +kernel
theorem dX6_inputAt_13 : decode cX6_inputAt 13 = .ok (.goto 13, 3) := by decide +kernel
theorem dX6_inputAt_16 : decode cX6_inputAt 16 = .ok (.aload_n 0, 1) := by decide +kernel
theorem dX6_inputAt_17 : decode cX6_inputAt 17 = .ok (.aload_n 0, 1) := by decide +kernel
theorem dX6_inputAt_18 : decode cX6_inputAt 18 = .ok (.getfield 23, 3) := by decide +kernel
theorem dX6_inputAt_21 : decode cX6_inputAt 21 = .ok (.iload_n 1, 1) := by decide +kernel
theorem dX6_inputAt_22 : decode cX6_inputAt 22 = .ok (.iaload, 1) := by decide +kernel
theorem dX6_inputAt_23 : decode cX6_inputAt 23 = .ok (.invokevirtual 110, 3) := by decide +kernel
theorem dX6_inputAt_26 : decode cX6_inputAt 26 = .ok (.areturn, 1) := by decide +kernel
def wb_X6_inputAt_26  (S : q_S) (rs0 : Option Nat) (Q : Option Value → q_S → Prop) : Prop := Q (some (va_rf rs0)) S
set_option maxHeartbeats 4000000 in
set_option maxRecDepth 100000 in
theorem cb_X6_inputAt_26 {p : Program} {l : Launch} {e : Env} {s : State} {m : MethodId} {args : Array Value} {below : List Frame} {meth : Method} {c : Code} {D : va_G} {cy : Nat → ClassId} {lo : Nat}  {S : q_S} {rs0 : Option Nat} {Q : Option Value → q_S → Prop} {H : Heap} {locs : List Loc} {ls : Array Slot} (X : q_X p s m args meth c RX6 cX6_inputAt 2 (some (.object "PartitionWorks$Channel")) D cy lo)  (Y : q_Y D cy lo s S H locs) (hl : lv_has ls 2 []) (h : wb_X6_inputAt_26 S rs0 Q) : W p l e ({ frames := 1, cells := 0, slots := 0, locals := 21 } : Room) s m args below meth c H locs 0 0 (MQ below (q_Q D cy lo Q) args s 0 0 (fun q => lo ≤ q)) (F0 m 26 ls [va_rf rs0]) := by
  have hx := X.1
  have hb := X.2.1
  unfold wb_X6_inputAt_26 at h
  exact q_aret X Y (Or.inl ⟨_, rfl⟩) (va_rf_or _) (Nat.le_refl _) (Nat.le_refl _) h dX6_inputAt_26
def wb_X6_inputAt_12  (S : q_S) (Q : Option Value → q_S → Prop) : Prop := wb_X6_inputAt_26 S none Q
set_option maxHeartbeats 4000000 in
set_option maxRecDepth 100000 in
theorem cb_X6_inputAt_12 {p : Program} {l : Launch} {e : Env} {s : State} {m : MethodId} {args : Array Value} {below : List Frame} {meth : Method} {c : Code} {D : va_G} {cy : Nat → ClassId} {lo : Nat}  {S : q_S} {Q : Option Value → q_S → Prop} {H : Heap} {locs : List Loc} {ls : Array Slot} (X : q_X p s m args meth c RX6 cX6_inputAt 2 (some (.object "PartitionWorks$Channel")) D cy lo)  (Y : q_Y D cy lo s S H locs) (hl : lv_has ls 2 []) (h : wb_X6_inputAt_12 S Q) : W p l e ({ frames := 1, cells := 0, slots := 0, locals := 21 } : Room) s m args below meth c H locs 0 0 (MQ below (q_Q D cy lo Q) args s 0 0 (fun q => lo ≤ q)) (F0 m 12 ls []) := by
  have hx := X.1
  have hb := X.2.1
  unfold wb_X6_inputAt_12 at h
  refine lv_null hx hb dX6_inputAt_12 ?_
  refine W.eq (g2 := F0 m 13 ls [va_rf none]) rfl ?_
  refine lv_goto (tgt := 26) hx hb dX6_inputAt_13 (by decide) ?_
  exact cb_X6_inputAt_26 X Y (lv_sub hl [] rfl) h
def wm_X6_inputAt (S : q_S) (a0 : Nat) (x1 : Int32) (Q : Option Value → q_S → Prop) : Prop := ((x1 < 0 → (wb_X6_inputAt_12 S Q)) ∧ (¬ x1 < 0 → (q_K S a0 = 7 ∧ (((x1 < (q_I S 1205 a0) → (∃ a4_ : Nat, (q_P S 1204 a0) = some a4_ ∧ (q_K S a4_ = 21 ∧ (vp_in x1 (q_N S a4_) ∧ (wm_X6_channelAt S a0 (q_A S a4_ x1.toNatClampNeg) (fun r8_ S9_ => ∃ r10_ : Option Nat, r8_ = some (va_rf r10_) ∧ (wb_X6_inputAt_26 S9_ r10_ Q))))))) ∧ (¬ x1 < (q_I S 1205 a0) → (wb_X6_inputAt_12 S Q)))))))
set_option maxHeartbeats 4000000 in
set_option maxRecDepth 100000 in
theorem cm_X6_inputAt {l : Launch} {D : va_G} {cy : Nat → ClassId} {lo : Nat} {S : q_S} {a0 : Nat} {x1 : Int32} {Q : Option Value → q_S → Prop} (h : wm_X6_inputAt S a0 x1 Q) : q_Met l D cy lo yX6_inputAt cX6_inputAt 2 (some (.object "PartitionWorks$Channel")) 1 21 0 0 [.ref a0, .int x1] S Q := by
  refine q_body (by decide) (by first | exact Nat.le_of_ble_eq_true rfl | simp [lg_sl, q_cat, q_catI, q_catJ, q_catR]) ?_
  intro p e s m below meth c ls X hnm Y hl
  have hx := X.1
  have hb := X.2.1
  have hl : lv_has ls 2 [(0, .ref a0), (1, .int x1)] := by first | exact hl | simpa [lv_args, q_cat, q_catI, q_catJ, q_catR] using hl
  generalize hargs : ([.ref a0, .int x1] : List Value).toArray = args at X ⊢
  unfold wm_X6_inputAt at h
  refine lv_iload_n hx hb dX6_inputAt_0 rfl (lv_at hl 1 rfl) ?_
  refine lv_if_lt (tgt := 12) hx hb dX6_inputAt_1 (by decide) (fun c1_ => ?_) (fun c1_ => ?_)
  · replace h := h.1 c1_
    exact cb_X6_inputAt_12 X Y (lv_sub hl [] rfl) h
  · replace h := h.2 c1_
    refine lv_iload_n hx hb dX6_inputAt_4 rfl (lv_at hl 1 rfl) ?_
    refine lv_aload_n hx hb dX6_inputAt_5 rfl (lv_at hl 0 rfl) ?_
    obtain ⟨k2_, h⟩ := h
    refine q_getI X Y kX6 5 rfl fl_X6_63 k2_ dX6_inputAt_6 ?_
    refine lv_icmp_lt (tgt := 16) hx hb dX6_inputAt_9 (by decide) (fun c3_ => ?_) (fun c3_ => ?_)
    · replace h := h.1 c3_
      refine lv_aload_n hx hb dX6_inputAt_16 rfl (lv_at hl 0 rfl) ?_
      refine lv_aload_n hx hb dX6_inputAt_17 rfl (lv_at hl 0 rfl) ?_
      refine q_getP X Y kX6 4 rfl fl_X6_23 k2_ rfl dX6_inputAt_18 ?_
      refine lv_iload_n hx hb dX6_inputAt_21 rfl (lv_at hl 1 rfl) ?_
      obtain ⟨a4_, e5_, h⟩ := h
      refine q_nn [.int x1] e5_ ?_
      obtain ⟨k6_, h⟩ := h
      obtain ⟨i7_, h⟩ := h
      refine q_ild X Y k6_ i7_ dX6_inputAt_22 ?_
      refine q_callV X Y hl (cm_X6_channelAt h) mt_X6_channelAt mi_X6_channelAt ml_X6_110 (ci := 6) rfl k2_ (by decide) rfl rfl (by first | exact Nat.le_of_ble_eq_true rfl | simp [q_cat, q_catI, q_catJ, q_catR]) ⟨Nat.le_of_ble_eq_true rfl, Nat.le_of_ble_eq_true rfl⟩ ⟨Nat.le_of_ble_eq_true rfl, Nat.le_of_ble_eq_true rfl⟩ dX6_inputAt_23 (fun r8_ S9_ H locs hp Y => ?_)
      obtain ⟨r10_, rfl, h⟩ := hp
      refine W.eq (g2 := F0 m 26 ls [va_rf r10_]) rfl ?_
      exact cb_X6_inputAt_26 X Y (lv_sub hl [] rfl) h
    · replace h := h.2 c3_
      exact cb_X6_inputAt_12 X Y (lv_sub hl [] rfl) h
-- X6_partitionNow
theorem dX6_partitionNow_0 : decode cX6_partitionNow 0 = .ok (.aload_n 0, 1) := by decide +kernel
theorem dX6_partitionNow_1 : decode cX6_partitionNow 1 = .ok (.invokevirtual 117, 3) := by decide +kernel
theorem dX6_partitionNow_4 : decode cX6_partitionNow 4 = .ok (.istore_n 1, 1) := by decide +kernel
theorem dX6_partitionNow_5 : decode cX6_partitionNow 5 = .ok (.iload_n 1, 1) := by decide +kernel
theorem dX6_partitionNow_6 : decode cX6_partitionNow 6 = .ok (.iconst (-1), 1) := by decide +kernel
theorem dX6_partitionNow_7 : decode cX6_partitionNow 7 = .ok (.if_icmp .ne 7, 3) := by decide +kernel
theorem dX6_partitionNow_10 : decode cX6_partitionNow 10 = .ok (.iconst (-1), 1) := by decide +kernel
theorem dX6_partitionNow_11 : decode cX6_partitionNow 11 = .ok (.goto 9, 3) := by decide +kernel
theorem dX6_partitionNow_14 : decode cX6_partitionNow 14 = .ok (.aload_n 0, 1) := by decide +kernel
theorem dX6_partitionNow_15 : decode cX6_partitionNow 15 = .ok (.getfield 27, 3) := by decide +kernel
theorem dX6_partitionNow_18 : decode cX6_partitionNow 18 = .ok (.iload_n 1, 1) := by decide +kernel
theorem dX6_partitionNow_19 : decode cX6_partitionNow 19 = .ok (.iaload, 1) := by decide +kernel
theorem dX6_partitionNow_20 : decode cX6_partitionNow 20 = .ok (.ireturn, 1) := by decide +kernel
def wb_X6_partitionNow_20  (S : q_S) (xs0 : Int32) (Q : Option Value → q_S → Prop) : Prop := Q (some (.int xs0)) S
set_option maxHeartbeats 4000000 in
set_option maxRecDepth 100000 in
theorem cb_X6_partitionNow_20 {p : Program} {l : Launch} {e : Env} {s : State} {m : MethodId} {args : Array Value} {below : List Frame} {meth : Method} {c : Code} {D : va_G} {cy : Nat → ClassId} {lo : Nat}  {S : q_S} {xs0 : Int32} {Q : Option Value → q_S → Prop} {H : Heap} {locs : List Loc} {ls : Array Slot} (X : q_X p s m args meth c RX6 cX6_partitionNow 2 (some .int) D cy lo)  (Y : q_Y D cy lo s S H locs) (hl : lv_has ls 2 []) (h : wb_X6_partitionNow_20 S xs0 Q) : W p l e ({ frames := 3, cells := 0, slots := 0, locals := 63 } : Room) s m args below meth c H locs 0 0 (MQ below (q_Q D cy lo Q) args s 0 0 (fun q => lo ≤ q)) (F0 m 20 ls [.int xs0]) := by
  have hx := X.1
  have hb := X.2.1
  unfold wb_X6_partitionNow_20 at h
  exact q_iret X Y rfl (Nat.le_refl _) (Nat.le_refl _) h dX6_partitionNow_20
def wm_X6_partitionNow (S : q_S) (a0 : Nat) (Q : Option Value → q_S → Prop) : Prop := q_K S a0 = 7 ∧ (wm_X6_windowNow S a0 (fun r2_ S3_ => ∃ x4_ : Int32, r2_ = some (.int x4_) ∧ (((¬ x4_ = (-1 : Int32) → (q_K S3_ a0 = 7 ∧ (∃ a7_ : Nat, (q_P S3_ 1207 a0) = some a7_ ∧ (q_K S3_ a7_ = 21 ∧ (vp_in x4_ (q_N S3_ a7_) ∧ (wb_X6_partitionNow_20 S3_ (q_A S3_ a7_ x4_.toNatClampNeg) Q)))))) ∧ (x4_ = (-1 : Int32) → (wb_X6_partitionNow_20 S3_ (-1 : Int32) Q))))))
set_option maxHeartbeats 4000000 in
set_option maxRecDepth 100000 in
theorem cm_X6_partitionNow {l : Launch} {D : va_G} {cy : Nat → ClassId} {lo : Nat} {S : q_S} {a0 : Nat} {Q : Option Value → q_S → Prop} (h : wm_X6_partitionNow S a0 Q) : q_Met l D cy lo yX6_partitionNow cX6_partitionNow 2 (some .int) 3 63 0 0 [.ref a0] S Q := by
  refine q_body (by decide) (by first | exact Nat.le_of_ble_eq_true rfl | simp [lg_sl, q_cat, q_catI, q_catJ, q_catR]) ?_
  intro p e s m below meth c ls X hnm Y hl
  have hx := X.1
  have hb := X.2.1
  have hl : lv_has ls 2 [(0, .ref a0)] := by first | exact hl | simpa [lv_args, q_cat, q_catI, q_catJ, q_catR] using hl
  generalize hargs : ([.ref a0] : List Value).toArray = args at X ⊢
  unfold wm_X6_partitionNow at h
  refine lv_aload_n hx hb dX6_partitionNow_0 rfl (lv_at hl 0 rfl) ?_
  obtain ⟨k1_, h⟩ := h
  refine q_callV X Y hl (cm_X6_windowNow h) mt_X6_windowNow mi_X6_windowNow ml_X6_117 (ci := 6) rfl k1_ (by decide) rfl rfl (by first | exact Nat.le_of_ble_eq_true rfl | simp [q_cat, q_catI, q_catJ, q_catR]) ⟨Nat.le_of_ble_eq_true rfl, Nat.le_of_ble_eq_true rfl⟩ ⟨Nat.le_of_ble_eq_true rfl, Nat.le_of_ble_eq_true rfl⟩ dX6_partitionNow_1 (fun r2_ S3_ H locs hp Y => ?_)
  obtain ⟨x4_, rfl, h⟩ := hp
  refine W.eq (g2 := F0 m 4 ls [.int x4_]) rfl ?_
  refine lv_istore_n (i := 1) (lv' := [(1, .int x4_), (0, .ref a0)]) hx hb dX6_partitionNow_4 rfl hl (by decide) (by first | rfl | simp [q_cat, q_catI, q_catJ, q_catR]) (fun ls hl => ?_)
  refine lv_iload_n hx hb dX6_partitionNow_5 rfl (lv_at hl 0 rfl) ?_
  refine lv_iconst (v := (-1)) hx hb dX6_partitionNow_6 (by decide) ?_
  refine lv_icmp_ne (tgt := 14) hx hb dX6_partitionNow_7 (by decide) (fun c5_ => ?_) (fun c5_ => ?_)
  · replace h := h.1 c5_
    refine lv_aload_n hx hb dX6_partitionNow_14 rfl (lv_at hl 1 rfl) ?_
    obtain ⟨k6_, h⟩ := h
    refine q_getP X Y kX6 7 rfl fl_X6_27 k6_ rfl dX6_partitionNow_15 ?_
    refine lv_iload_n hx hb dX6_partitionNow_18 rfl (lv_at hl 0 rfl) ?_
    obtain ⟨a7_, e8_, h⟩ := h
    refine q_nn [.int x4_] e8_ ?_
    obtain ⟨k9_, h⟩ := h
    obtain ⟨i10_, h⟩ := h
    refine q_ild X Y k9_ i10_ dX6_partitionNow_19 ?_
    exact cb_X6_partitionNow_20 X Y (lv_sub hl [] rfl) h
  · replace h := h.2 c5_
    refine lv_iconst (v := (-1)) hx hb dX6_partitionNow_10 (by decide) ?_
    refine lv_goto (tgt := 20) hx hb dX6_partitionNow_11 (by decide) ?_
    exact cb_X6_partitionNow_20 X Y (lv_sub hl [] rfl) h
-- X6_takeInputs
theorem ml_X6_120 : Cond.methodLink RX6 120 yX1_hasInputAt ∈ q_G := q_tb (i := 1354) (by decide +kernel) (by decide +kernel)
theorem mt_X1_hasInputAt : q_Mt yX1_hasInputAt cX1_hasInputAt 2 (some .boolean) 1 := ⟨q_tb (i := 1357) (by decide +kernel) (by decide +kernel), q_tb (i := 25) (by decide +kernel) (by decide +kernel), by decide +kernel, by decide +kernel, by decide +kernel⟩
theorem mi_X1_hasInputAt : Cond.instanceMethod yX1_hasInputAt ∈ q_G ∧ Cond.selects yX1_hasInputAt.cls yX1_hasInputAt yX1_hasInputAt ∈ q_G := ⟨q_tb (i := 1355) (by decide +kernel) (by decide +kernel), q_tb (i := 1356) (by decide +kernel) (by decide +kernel)⟩
theorem ml_X6_124 : Cond.methodLink RX6 124 yX1_nextInput ∈ q_G := q_tb (i := 1358) (by decide +kernel) (by decide +kernel)
theorem mt_X1_nextInput : q_Mt yX1_nextInput cX1_nextInput 1 (some .int) 0 := ⟨q_tb (i := 1361) (by decide +kernel) (by decide +kernel), q_tb (i := 25) (by decide +kernel) (by decide +kernel), by decide +kernel, by decide +kernel, by decide +kernel⟩
theorem mi_X1_nextInput : Cond.instanceMethod yX1_nextInput ∈ q_G ∧ Cond.selects yX1_nextInput.cls yX1_nextInput yX1_nextInput ∈ q_G := ⟨q_tb (i := 1359) (by decide +kernel) (by decide +kernel), q_tb (i := 1360) (by decide +kernel) (by decide +kernel)⟩
theorem ml_X6_127 : Cond.methodLink RX6 127 yX6_carry ∈ q_G := q_tb (i := 1362) (by decide +kernel) (by decide +kernel)
theorem fl_X6_131 : Cond.fieldLink RX6 131 "PartitionWorks$Channel" "lost" "I" ∈ q_G := q_tb (i := 1128) (by decide +kernel) (by decide +kernel)
theorem dX6_takeInputs_0 : decode cX6_takeInputs 0 = .ok (.iconst 0, 1) := by decide +kernel
theorem dX6_takeInputs_1 : decode cX6_takeInputs 1 = .ok (.istore_n 1, 1) := by decide +kernel
theorem dX6_takeInputs_2 : decode cX6_takeInputs 2 = .ok (.iload_n 1, 1) := by decide +kernel
theorem dX6_takeInputs_3 : decode cX6_takeInputs 3 = .ok (.aload_n 0, 1) := by decide +kernel
theorem dX6_takeInputs_4 : decode cX6_takeInputs 4 = .ok (.getfield 63, 3) := by decide +kernel
theorem dX6_takeInputs_7 : decode cX6_takeInputs 7 = .ok (.if_icmp .ge 57, 3) := by decide +kernel
theorem dX6_takeInputs_10 : decode cX6_takeInputs 10 = .ok (.aload_n 0, 1) := by decide +kernel
theorem dX6_takeInputs_11 : decode cX6_takeInputs 11 = .ok (.aload_n 0, 1) := by decide +kernel
theorem dX6_takeInputs_12 : decode cX6_takeInputs 12 = .ok (.getfield 23, 3) := by decide +kernel
theorem dX6_takeInputs_15 : decode cX6_takeInputs 15 = .ok (.iload_n 1, 1) := by decide +kernel
theorem dX6_takeInputs_16 : decode cX6_takeInputs 16 = .ok (.iaload, 1) := by decide +kernel
theorem dX6_takeInputs_17 : decode cX6_takeInputs 17 = .ok (.invokevirtual 110, 3) := by decide +kernel
theorem dX6_takeInputs_20 : decode cX6_takeInputs 20 = .ok (.astore_n 2, 1) := by decide +kernel
theorem dX6_takeInputs_21 : decode cX6_takeInputs 21 = .ok (.aload_n 2, 1) := by decide +kernel
theorem dX6_takeInputs_22 : decode cX6_takeInputs 22 = .ok (.ifnull 36, 3) := by decide +kernel
theorem dX6_takeInputs_25 : decode cX6_takeInputs 25 = .ok (.aload_n 2, 1) := by decide +kernel
theorem dX6_takeInputs_26 : decode cX6_takeInputs 26 = .ok (.aload_n 0, 1) := by decide +kernel
theorem dX6_takeInputs_27 : decode cX6_takeInputs 27 = .ok (.getfield 43, 3) := by decide +kernel
theorem dX6_takeInputs_30 : decode cX6_takeInputs 30 = .ok (.invokevirtual 120, 3) := by decide +kernel
theorem dX6_takeInputs_33 : decode cX6_takeInputs 33 = .ok (.ifCond .eq 25, 3) := by decide +kernel
theorem dX6_takeInputs_36 : decode cX6_takeInputs 36 = .ok (.aload_n 0, 1) := by decide +kernel
theorem dX6_takeInputs_37 : decode cX6_takeInputs 37 = .ok (.aload_n 2, 1) := by decide +kernel
theorem dX6_takeInputs_38 : decode cX6_takeInputs 38 = .ok (.aload_n 2, 1) := by decide +kernel
theorem dX6_takeInputs_39 : decode cX6_takeInputs 39 = .ok (.invokevirtual 124, 3) := by decide +kernel
theorem dX6_takeInputs_42 : decode cX6_takeInputs 42 = .ok (.invokevirtual 127, 3) := by decide +kernel
theorem dX6_takeInputs_45 : decode cX6_takeInputs 45 = .ok (.ifCond .ne 13, 3) := by decide +kernel
theorem dX6_takeInputs_48 : decode cX6_takeInputs 48 = .ok (.aload_n 2, 1) := by decide +kernel
theorem dX6_takeInputs_49 : decode cX6_takeInputs 49 = .ok (.dup, 1) := by decide +kernel
theorem dX6_takeInputs_50 : decode cX6_takeInputs 50 = .ok (.getfield 131, 3) := by decide +kernel
theorem dX6_takeInputs_53 : decode cX6_takeInputs 53 = .ok (.iconst 1, 1) := by decide +kernel
theorem dX6_takeInputs_54 : decode cX6_takeInputs 54 = .ok (.iadd, 1) := by decide +kernel
theorem dX6_takeInputs_55 : decode cX6_takeInputs 55 = .ok (.putfield 131, 3) := by decide +kernel
theorem dX6_takeInputs_58 : decode cX6_takeInputs 58 = .ok (.iinc 1 1, 3) := by decide +kernel
theorem dX6_takeInputs_61 : decode cX6_takeInputs 61 = .ok (.goto (-59), 3) := by decide +kernel
theorem dX6_takeInputs_64 : decode cX6_takeInputs 64 = .ok (.return_, 1) := by decide +kernel
def wb_X6_takeInputs_58 (B2 : q_S → Nat → Int32 → Prop) (S : q_S) (a0 : Nat) (x1 : Int32) (Q : Option Value → q_S → Prop) : Prop := B2 S a0 (x1 + 1)
set_option maxHeartbeats 4000000 in
set_option maxRecDepth 100000 in
theorem cb_X6_takeInputs_58 {p : Program} {l : Launch} {e : Env} {s : State} {m : MethodId} {args : Array Value} {below : List Frame} {meth : Method} {c : Code} {D : va_G} {cy : Nat → ClassId} {lo : Nat} {B2 : q_S → Nat → Int32 → Prop} {S : q_S} {a0 : Nat} {x1 : Int32} {Q : Option Value → q_S → Prop} {H : Heap} {locs : List Loc} {ls : Array Slot} (X : q_X p s m args meth c RX6 cX6_takeInputs 3 none D cy lo) (hB2 : ∀ (S : q_S) (a0 : Nat) (x1 : Int32) (H : Heap) (locs : List Loc) (ls : Array Slot), B2 S a0 x1 → q_Y D cy lo s S H locs → lv_has ls 3 [(0, .ref a0), (1, .int x1)] → W p l e ({ frames := 4, cells := 0, slots := 0, locals := 94 } : Room) s m args below meth c H locs 0 0 (MQ below (q_Q D cy lo Q) args s 0 0 (fun q => lo ≤ q)) (F0 m 2 ls [])) (Y : q_Y D cy lo s S H locs) (hl : lv_has ls 3 [(0, .ref a0), (1, .int x1)]) (h : wb_X6_takeInputs_58 B2 S a0 x1 Q) : W p l e ({ frames := 4, cells := 0, slots := 0, locals := 94 } : Room) s m args below meth c H locs 0 0 (MQ below (q_Q D cy lo Q) args s 0 0 (fun q => lo ≤ q)) (F0 m 58 ls []) := by
  have hx := X.1
  have hb := X.2.1
  unfold wb_X6_takeInputs_58 at h
  refine lv_iinc (v := (x1 + 1)) (lv' := [(1, .int (x1 + 1)), (0, .ref a0)]) hx hb dX6_takeInputs_58 hl (k := 1) rfl (by first | rfl | decide) (by decide) (by first | rfl | simp [q_cat, q_catI, q_catJ, q_catR]) (fun ls hl => ?_)
  refine lv_goto (tgt := 2) hx hb dX6_takeInputs_61 (by decide) ?_
  exact hB2 _ _ _ _ _ _ h Y (lv_sub hl [1, 0] rfl)
def wb_X6_takeInputs_2 (B2 : q_S → Nat → Int32 → Prop) (S : q_S) (a0 : Nat) (x1 : Int32) (Q : Option Value → q_S → Prop) : Prop := q_K S a0 = 7 ∧ ((((q_I S 1205 a0) ≤ x1 → (Q none S)) ∧ (¬ (q_I S 1205 a0) ≤ x1 → (∃ a3_ : Nat, (q_P S 1204 a0) = some a3_ ∧ (q_K S a3_ = 21 ∧ (vp_in x1 (q_N S a3_) ∧ (wm_X6_channelAt S a0 (q_A S a3_ x1.toNatClampNeg) (fun r7_ S8_ => ∃ r9_ : Option Nat, r7_ = some (va_rf r9_) ∧ (((r9_ = none → (wb_X6_takeInputs_58 B2 S8_ a0 x1 Q)) ∧ (¬ r9_ = none → (q_K S8_ a0 = 7 ∧ (∃ a12_ : Nat, r9_ = some a12_ ∧ (q_K S8_ a12_ = 2 ∧ (wm_X1_hasInputAt S8_ a12_ (q_I S8_ 1211 a0) (fun r15_ S16_ => ∃ x17_ : Int32, r15_ = some (.int x17_) ∧ (((x17_ = 0 → (wb_X6_takeInputs_58 B2 S16_ a0 x1 Q)) ∧ (¬ x17_ = 0 → (q_K S16_ a12_ = 2 ∧ (wm_X1_nextInput S16_ a12_ (fun r20_ S21_ => ∃ x22_ : Int32, r20_ = some (.int x22_) ∧ (q_K S21_ a0 = 7 ∧ (wm_X6_carry S21_ a0 r9_ x22_ (fun r24_ S25_ => ∃ x26_ : Int32, r24_ = some (.int x26_) ∧ (((¬ x26_ = 0 → (wb_X6_takeInputs_58 B2 S25_ a0 x1 Q)) ∧ (x26_ = 0 → (q_K S25_ a12_ = 2 ∧ (wb_X6_takeInputs_58 B2 (qs_I S25_ 206 a12_ ((q_I S25_ 206 a12_) + (1 : Int32))) a0 x1 Q))))))))))))))))))))))))))))))
set_option maxHeartbeats 4000000 in
set_option maxRecDepth 100000 in
theorem cb_X6_takeInputs_2 {p : Program} {l : Launch} {e : Env} {s : State} {m : MethodId} {args : Array Value} {below : List Frame} {meth : Method} {c : Code} {D : va_G} {cy : Nat → ClassId} {lo : Nat} {B2 : q_S → Nat → Int32 → Prop} {S : q_S} {a0 : Nat} {x1 : Int32} {Q : Option Value → q_S → Prop} {H : Heap} {locs : List Loc} {ls : Array Slot} (X : q_X p s m args meth c RX6 cX6_takeInputs 3 none D cy lo) (hB2 : ∀ (S : q_S) (a0 : Nat) (x1 : Int32) (H : Heap) (locs : List Loc) (ls : Array Slot), B2 S a0 x1 → q_Y D cy lo s S H locs → lv_has ls 3 [(0, .ref a0), (1, .int x1)] → W p l e ({ frames := 4, cells := 0, slots := 0, locals := 94 } : Room) s m args below meth c H locs 0 0 (MQ below (q_Q D cy lo Q) args s 0 0 (fun q => lo ≤ q)) (F0 m 2 ls [])) (Y : q_Y D cy lo s S H locs) (hl : lv_has ls 3 [(0, .ref a0), (1, .int x1)]) (h : wb_X6_takeInputs_2 B2 S a0 x1 Q) : W p l e ({ frames := 4, cells := 0, slots := 0, locals := 94 } : Room) s m args below meth c H locs 0 0 (MQ below (q_Q D cy lo Q) args s 0 0 (fun q => lo ≤ q)) (F0 m 2 ls []) := by
  have hx := X.1
  have hb := X.2.1
  unfold wb_X6_takeInputs_2 at h
  refine lv_iload_n hx hb dX6_takeInputs_2 rfl (lv_at hl 1 rfl) ?_
  refine lv_aload_n hx hb dX6_takeInputs_3 rfl (lv_at hl 0 rfl) ?_
  obtain ⟨k1_, h⟩ := h
  refine q_getI X Y kX6 5 rfl fl_X6_63 k1_ dX6_takeInputs_4 ?_
  refine lv_icmp_ge (tgt := 64) hx hb dX6_takeInputs_7 (by decide) (fun c2_ => ?_) (fun c2_ => ?_)
  · replace h := h.1 c2_
    exact q_vret X Y (Nat.le_refl _) (Nat.le_refl _) h dX6_takeInputs_64
  · replace h := h.2 c2_
    refine lv_aload_n hx hb dX6_takeInputs_10 rfl (lv_at hl 0 rfl) ?_
    refine lv_aload_n hx hb dX6_takeInputs_11 rfl (lv_at hl 0 rfl) ?_
    refine q_getP X Y kX6 4 rfl fl_X6_23 k1_ rfl dX6_takeInputs_12 ?_
    refine lv_iload_n hx hb dX6_takeInputs_15 rfl (lv_at hl 1 rfl) ?_
    obtain ⟨a3_, e4_, h⟩ := h
    refine q_nn [.int x1] e4_ ?_
    obtain ⟨k5_, h⟩ := h
    obtain ⟨i6_, h⟩ := h
    refine q_ild X Y k5_ i6_ dX6_takeInputs_16 ?_
    refine q_callV X Y hl (cm_X6_channelAt h) mt_X6_channelAt mi_X6_channelAt ml_X6_110 (ci := 6) rfl k1_ (by decide) rfl rfl (by first | exact Nat.le_of_ble_eq_true rfl | simp [q_cat, q_catI, q_catJ, q_catR]) ⟨Nat.le_of_ble_eq_true rfl, Nat.le_of_ble_eq_true rfl⟩ ⟨Nat.le_of_ble_eq_true rfl, Nat.le_of_ble_eq_true rfl⟩ dX6_takeInputs_17 (fun r7_ S8_ H locs hp Y => ?_)
    obtain ⟨r9_, rfl, h⟩ := hp
    refine W.eq (g2 := F0 m 20 ls [va_rf r9_]) rfl ?_
    refine q_astore_n (i := 2) (lv' := [(2, va_rf r9_), (0, .ref a0), (1, .int x1)]) hx hb dX6_takeInputs_20 rfl hl (by decide) (by first | rfl | simp [q_cat, q_catI, q_catJ, q_catR]) (fun ls hl => ?_)
    refine q_aload_n hx hb dX6_takeInputs_21 rfl (lv_at hl 0 rfl) ?_
    refine q_ifnull (r := r9_) (tgt := 58) hx hb dX6_takeInputs_22 (by decide) (fun c10_ => ?_) (fun c10_ => ?_)
    · replace h := h.1 c10_
      exact cb_X6_takeInputs_58 X hB2 Y (lv_sub hl [1, 2] rfl) h
    · replace h := h.2 c10_
      refine q_aload_n hx hb dX6_takeInputs_25 rfl (lv_at hl 0 rfl) ?_
      refine lv_aload_n hx hb dX6_takeInputs_26 rfl (lv_at hl 1 rfl) ?_
      obtain ⟨k11_, h⟩ := h
      refine q_getI X Y kX6 11 rfl fl_X6_43 k11_ dX6_takeInputs_27 ?_
      obtain ⟨a12_, e13_, h⟩ := h
      refine q_nn [.int (q_I S8_ 1211 a0)] e13_ ?_
      obtain ⟨k14_, h⟩ := h
      refine q_callV X Y hl (cm_X1_hasInputAt h) mt_X1_hasInputAt mi_X1_hasInputAt ml_X6_120 (ci := 1) rfl k14_ (by decide) rfl rfl (by first | exact Nat.le_of_ble_eq_true rfl | simp [q_cat, q_catI, q_catJ, q_catR]) ⟨Nat.le_of_ble_eq_true rfl, Nat.le_of_ble_eq_true rfl⟩ ⟨Nat.le_of_ble_eq_true rfl, Nat.le_of_ble_eq_true rfl⟩ dX6_takeInputs_30 (fun r15_ S16_ H locs hp Y => ?_)
      obtain ⟨x17_, rfl, h⟩ := hp
      refine W.eq (g2 := F0 m 33 ls [.int x17_]) rfl ?_
      refine lv_if_eq (tgt := 58) hx hb dX6_takeInputs_33 (by decide) (fun c18_ => ?_) (fun c18_ => ?_)
      · replace h := h.1 c18_
        exact cb_X6_takeInputs_58 X hB2 Y (lv_sub hl [1, 2] rfl) h
      · replace h := h.2 c18_
        refine lv_aload_n hx hb dX6_takeInputs_36 rfl (lv_at hl 1 rfl) ?_
        refine q_aload_n hx hb dX6_takeInputs_37 rfl (lv_at hl 0 rfl) ?_
        refine q_aload_n hx hb dX6_takeInputs_38 rfl (lv_at hl 0 rfl) ?_
        refine q_nn [] e13_ ?_
        obtain ⟨k19_, h⟩ := h
        refine q_callV X Y hl (cm_X1_nextInput h) mt_X1_nextInput mi_X1_nextInput ml_X6_124 (ci := 1) rfl k19_ (by decide) rfl rfl (by first | exact Nat.le_of_ble_eq_true rfl | simp [q_cat, q_catI, q_catJ, q_catR]) ⟨Nat.le_of_ble_eq_true rfl, Nat.le_of_ble_eq_true rfl⟩ ⟨Nat.le_of_ble_eq_true rfl, Nat.le_of_ble_eq_true rfl⟩ dX6_takeInputs_39 (fun r20_ S21_ H locs hp Y => ?_)
        obtain ⟨x22_, rfl, h⟩ := hp
        refine W.eq (g2 := F0 m 42 ls [.int x22_, va_rf r9_, .ref a0]) rfl ?_
        obtain ⟨k23_, h⟩ := h
        refine q_callV X Y hl (cm_X6_carry h) mt_X6_carry mi_X6_carry ml_X6_127 (ci := 6) rfl k23_ (by decide) rfl rfl (by first | exact Nat.le_of_ble_eq_true rfl | simp [q_cat, q_catI, q_catJ, q_catR]) ⟨Nat.le_of_ble_eq_true rfl, Nat.le_of_ble_eq_true rfl⟩ ⟨Nat.le_of_ble_eq_true rfl, Nat.le_of_ble_eq_true rfl⟩ dX6_takeInputs_42 (fun r24_ S25_ H locs hp Y => ?_)
        obtain ⟨x26_, rfl, h⟩ := hp
        refine W.eq (g2 := F0 m 45 ls [.int x26_]) rfl ?_
        refine lv_if_ne (tgt := 58) hx hb dX6_takeInputs_45 (by decide) (fun c27_ => ?_) (fun c27_ => ?_)
        · replace h := h.1 c27_
          exact cb_X6_takeInputs_58 X hB2 Y (lv_sub hl [1, 2] rfl) h
        · replace h := h.2 c27_
          refine q_aload_n hx hb dX6_takeInputs_48 rfl (lv_at hl 0 rfl) ?_
          refine lv_dup hx hb dX6_takeInputs_49 (q_cat _) ?_
          refine q_nn [] e13_ ?_
          obtain ⟨k28_, h⟩ := h
          refine q_getI X Y kX1 6 rfl fl_X6_131 k28_ dX6_takeInputs_50 ?_
          refine lv_iconst (v := 1) hx hb dX6_takeInputs_53 (by decide) ?_
          refine lv_iadd hx hb dX6_takeInputs_54 ?_
          refine q_nn [.int ((q_I S25_ 206 a12_) + (1 : Int32))] e13_ ?_
          refine q_putI X Y kX1 6 rfl fl_X6_131 k28_ .int rfl ⟨rfl, rfl⟩ rfl dX6_takeInputs_55 (fun H locs Y => ?_)
          exact cb_X6_takeInputs_58 X hB2 Y (lv_sub hl [1, 2] rfl) h
def wl_X6_takeInputs_2  : Nat → q_S → Nat → Int32 → (Option Value → q_S → Prop) → Prop
  | 0, _, _, _, _ => False
  | n + 1, S, a0, x1, Q => wb_X6_takeInputs_2 (fun S a0 x1 => wl_X6_takeInputs_2 n S a0 x1 Q) S a0 x1 Q
set_option maxHeartbeats 4000000 in
set_option maxRecDepth 100000 in
theorem cl_X6_takeInputs_2 {p : Program} {l : Launch} {e : Env} {s : State} {m : MethodId} {args : Array Value} {below : List Frame} {meth : Method} {c : Code} {D : va_G} {cy : Nat → ClassId} {lo : Nat}  {Q : Option Value → q_S → Prop} (X : q_X p s m args meth c RX6 cX6_takeInputs 3 none D cy lo)  : ∀ (n : Nat) (S : q_S) (a0 : Nat) (x1 : Int32) (H : Heap) (locs : List Loc) (ls : Array Slot), wl_X6_takeInputs_2 n S a0 x1 Q → q_Y D cy lo s S H locs → lv_has ls 3 [(0, .ref a0), (1, .int x1)] → W p l e ({ frames := 4, cells := 0, slots := 0, locals := 94 } : Room) s m args below meth c H locs 0 0 (MQ below (q_Q D cy lo Q) args s 0 0 (fun q => lo ≤ q)) (F0 m 2 ls []) := by
  intro n
  induction n with
  | zero => intro S a0 x1 H locs ls h; exact absurd h id
  | succ n ih => intro S a0 x1 H locs ls h Y hl; exact cb_X6_takeInputs_2 X ih Y hl h
def wm_X6_takeInputs (S : q_S) (a0 : Nat) (Q : Option Value → q_S → Prop) : Prop := ∃ n29_ : Nat, wl_X6_takeInputs_2 n29_ S a0 (0 : Int32) Q
set_option maxHeartbeats 4000000 in
set_option maxRecDepth 100000 in
theorem cm_X6_takeInputs {l : Launch} {D : va_G} {cy : Nat → ClassId} {lo : Nat} {S : q_S} {a0 : Nat} {Q : Option Value → q_S → Prop} (h : wm_X6_takeInputs S a0 Q) : q_Met l D cy lo yX6_takeInputs cX6_takeInputs 3 none 4 94 0 0 [.ref a0] S Q := by
  refine q_body (by decide) (by first | exact Nat.le_of_ble_eq_true rfl | simp [lg_sl, q_cat, q_catI, q_catJ, q_catR]) ?_
  intro p e s m below meth c ls X hnm Y hl
  have hx := X.1
  have hb := X.2.1
  have hl : lv_has ls 3 [(0, .ref a0)] := by first | exact hl | simpa [lv_args, q_cat, q_catI, q_catJ, q_catR] using hl
  generalize hargs : ([.ref a0] : List Value).toArray = args at X ⊢
  unfold wm_X6_takeInputs at h
  refine lv_iconst (v := 0) hx hb dX6_takeInputs_0 (by decide) ?_
  refine lv_istore_n (i := 1) (lv' := [(1, .int (0 : Int32)), (0, .ref a0)]) hx hb dX6_takeInputs_1 rfl hl (by decide) (by first | rfl | simp [q_cat, q_catI, q_catJ, q_catR]) (fun ls hl => ?_)
  obtain ⟨n29_, h⟩ := h
  exact cl_X6_takeInputs_2 X n29_ _ _ _ _ _ _ h Y (lv_sub hl [1, 0] rfl)
-- J0_coder_7d493
theorem fl_J0_38 : Cond.fieldLink RJ0 38 "java/lang/String" "COMPACT_STRINGS" "Z" ∈ q_G := q_tb (i := 153) (by decide +kernel) (by decide +kernel)
theorem fl_J0_15 : Cond.fieldLink RJ0 15 "java/lang/String" "coder" "B" ∈ q_G := q_tb (i := 2543) (by decide +kernel) (by decide +kernel)
theorem dJ0_coder_7d493_0 : decode cJ0_coder_7d493 0 = .ok (.getstatic 38, 3) := by decide +kernel
theorem dJ0_coder_7d493_3 : decode cJ0_coder_7d493 3 = .ok (.ifCond .eq 10, 3) := by decide +kernel
theorem dJ0_coder_7d493_6 : decode cJ0_coder_7d493 6 = .ok (.aload_n 0, 1) := by decide +kernel
theorem dJ0_coder_7d493_7 : decode cJ0_coder_7d493 7 = .ok (.getfield 15, 3) := by decide +kernel
theorem dJ0_coder_7d493_10 : decode cJ0_coder_7d493 10 = .ok (.goto 4, 3) := by decide +kernel
theorem dJ0_coder_7d493_13 : decode cJ0_coder_7d493 13 = .ok (.iconst 1, 1) := by decide +kernel
theorem dJ0_coder_7d493_14 : decode cJ0_coder_7d493 14 = .ok (.ireturn, 1) := by decide +kernel
def wb_J0_coder_7d493_14  (S : q_S) (xs0 : Int32) (Q : Option Value → q_S → Prop) : Prop := (narrow .byte (.int xs0) = .int xs0 ∧ Q (some (.int xs0)) S)
set_option maxHeartbeats 4000000 in
set_option maxRecDepth 100000 in
theorem cb_J0_coder_7d493_14 {p : Program} {l : Launch} {e : Env} {s : State} {m : MethodId} {args : Array Value} {below : List Frame} {meth : Method} {c : Code} {D : va_G} {cy : Nat → ClassId} {lo : Nat}  {S : q_S} {xs0 : Int32} {Q : Option Value → q_S → Prop} {H : Heap} {locs : List Loc} {ls : Array Slot} (X : q_X p s m args meth c RJ0 cJ0_coder_7d493 1 (some .byte) D cy lo)  (Y : q_Y D cy lo s S H locs) (hl : lv_has ls 1 []) (h : wb_J0_coder_7d493_14 S xs0 Q) : W p l e ({ frames := 0, cells := 0, slots := 0, locals := 0 } : Room) s m args below meth c H locs 0 0 (MQ below (q_Q D cy lo Q) args s 0 0 (fun q => lo ≤ q)) (F0 m 14 ls [.int xs0]) := by
  have hx := X.1
  have hb := X.2.1
  unfold wb_J0_coder_7d493_14 at h
  exact q_iret X Y h.1 (Nat.le_refl _) (Nat.le_refl _) h.2 dJ0_coder_7d493_14
def wm_J0_coder_7d493 (S : q_S) (a0 : Nat) (Q : Option Value → q_S → Prop) : Prop := (((1 : Int32) = 0 → (wb_J0_coder_7d493_14 S (1 : Int32) Q)) ∧ (¬ (1 : Int32) = 0 → (q_K S a0 = 30 ∧ (wb_J0_coder_7d493_14 S (0 : Int32) Q))))
set_option maxHeartbeats 4000000 in
set_option maxRecDepth 100000 in
theorem cm_J0_coder_7d493 {l : Launch} {D : va_G} {cy : Nat → ClassId} {lo : Nat} {S : q_S} {a0 : Nat} {Q : Option Value → q_S → Prop} (h : wm_J0_coder_7d493 S a0 Q) : q_Met l D cy lo yJ0_coder_7d493 cJ0_coder_7d493 1 (some .byte) 0 0 0 0 [.ref a0] S Q := by
  refine q_body (by decide) (by first | exact Nat.le_of_ble_eq_true rfl | simp [lg_sl, q_cat, q_catI, q_catJ, q_catR]) ?_
  intro p e s m below meth c ls X hnm Y hl
  have hx := X.1
  have hb := X.2.1
  have hl : lv_has ls 1 [(0, .ref a0)] := by first | exact hl | simpa [lv_args, q_cat, q_catI, q_catJ, q_catR] using hl
  generalize hargs : ([.ref a0] : List Value).toArray = args at X ⊢
  unfold wm_J0_coder_7d493 at h
  refine q_scmp X Y fl_J0_38 dJ0_coder_7d493_0 ?_
  refine lv_if_eq (tgt := 13) hx hb dJ0_coder_7d493_3 (by decide) (fun c1_ => ?_) (fun c1_ => ?_)
  · replace h := h.1 c1_
    refine lv_iconst (v := 1) hx hb dJ0_coder_7d493_13 (by decide) ?_
    exact cb_J0_coder_7d493_14 X Y (lv_sub hl [] rfl) h
  · replace h := h.2 c1_
    refine lv_aload_n hx hb dJ0_coder_7d493_6 rfl (lv_at hl 0 rfl) ?_
    obtain ⟨k2_, h⟩ := h
    refine q_scod X Y fl_J0_15 k2_ dJ0_coder_7d493_7 ?_
    refine lv_goto (tgt := 14) hx hb dJ0_coder_7d493_10 (by decide) ?_
    exact cb_J0_coder_7d493_14 X Y (lv_sub hl [] rfl) h
-- J0_length_8abf5
theorem fl_J0_9 : Cond.fieldLink RJ0 9 "java/lang/String" "value" "[B" ∈ q_G := q_tb (i := 2542) (by decide +kernel) (by decide +kernel)
theorem ml_J0_335 : Cond.methodLink RJ0 335 yJ0_coder_7d493 ∈ q_G := q_tb (i := 149) (by decide +kernel) (by decide +kernel)
theorem mt_J0_coder_7d493 : q_Mt yJ0_coder_7d493 cJ0_coder_7d493 1 (some .byte) 0 := ⟨q_tb (i := 152) (by decide +kernel) (by decide +kernel), q_tb (i := 5) (by decide +kernel) (by decide +kernel), by decide +kernel, by decide +kernel, by decide +kernel⟩
theorem mi_J0_coder_7d493 : Cond.instanceMethod yJ0_coder_7d493 ∈ q_G ∧ Cond.selects yJ0_coder_7d493.cls yJ0_coder_7d493 yJ0_coder_7d493 ∈ q_G := ⟨q_tb (i := 150) (by decide +kernel) (by decide +kernel), q_tb (i := 151) (by decide +kernel) (by decide +kernel)⟩
theorem dJ0_length_8abf5_0 : decode cJ0_length_8abf5 0 = .ok (.aload_n 0, 1) := by decide +kernel
theorem dJ0_length_8abf5_1 : decode cJ0_length_8abf5 1 = .ok (.getfield 9, 3) := by decide +kernel
theorem dJ0_length_8abf5_4 : decode cJ0_length_8abf5 4 = .ok (.arraylength, 1) := by decide +kernel
theorem dJ0_length_8abf5_5 : decode cJ0_length_8abf5 5 = .ok (.aload_n 0, 1) := by decide +kernel
theorem dJ0_length_8abf5_6 : decode cJ0_length_8abf5 6 = .ok (.invokevirtual 335, 3) := by decide +kernel
theorem dJ0_length_8abf5_9 : decode cJ0_length_8abf5 9 = .ok (.ishr, 1) := by decide +kernel
theorem dJ0_length_8abf5_10 : decode cJ0_length_8abf5 10 = .ok (.ireturn, 1) := by decide +kernel
def wm_J0_length_8abf5 (S : q_S) (a0 : Nat) (Q : Option Value → q_S → Prop) : Prop := q_K S a0 = 30 ∧ (∀ b2_ : Nat, q_K S b2_ = 31 → q_N S b2_ = q_N S a0 → (wm_J0_coder_7d493 S a0 (fun r5_ S6_ => ∃ x7_ : Int32, r5_ = some (.int x7_) ∧ (Q (some (.int ((nI (q_sl.getD (q_N S b2_) 0)) >>> (x7_ &&& 31)))) S6_))))
set_option maxHeartbeats 4000000 in
set_option maxRecDepth 100000 in
theorem cm_J0_length_8abf5 {l : Launch} {D : va_G} {cy : Nat → ClassId} {lo : Nat} {S : q_S} {a0 : Nat} {Q : Option Value → q_S → Prop} (h : wm_J0_length_8abf5 S a0 Q) : q_Met l D cy lo yJ0_length_8abf5 cJ0_length_8abf5 1 (some .int) 1 20 0 0 [.ref a0] S Q := by
  refine q_body (by decide) (by first | exact Nat.le_of_ble_eq_true rfl | simp [lg_sl, q_cat, q_catI, q_catJ, q_catR]) ?_
  intro p e s m below meth c ls X hnm Y hl
  have hx := X.1
  have hb := X.2.1
  have hl : lv_has ls 1 [(0, .ref a0)] := by first | exact hl | simpa [lv_args, q_cat, q_catI, q_catJ, q_catR] using hl
  generalize hargs : ([.ref a0] : List Value).toArray = args at X ⊢
  unfold wm_J0_length_8abf5 at h
  refine lv_aload_n hx hb dJ0_length_8abf5_0 rfl (lv_at hl 0 rfl) ?_
  obtain ⟨k1_, h⟩ := h
  refine q_sval X Y fl_J0_9 k1_ dJ0_length_8abf5_1 (fun b2_ k3_ k4_ => ?_)
  replace h := h b2_ k3_ k4_
  refine q_slen X Y k3_ dJ0_length_8abf5_4 ?_
  refine lv_aload_n hx hb dJ0_length_8abf5_5 rfl (lv_at hl 0 rfl) ?_
  refine q_callT X Y hl (cm_J0_coder_7d493 h) mt_J0_coder_7d493 mi_J0_coder_7d493 ml_J0_335 rfl k1_ rfl rfl (by first | exact Nat.le_of_ble_eq_true rfl | simp [q_cat, q_catI, q_catJ, q_catR]) ⟨Nat.le_of_ble_eq_true rfl, Nat.le_of_ble_eq_true rfl⟩ ⟨Nat.le_of_ble_eq_true rfl, Nat.le_of_ble_eq_true rfl⟩ dJ0_length_8abf5_6 (fun r5_ S6_ H locs hp Y => ?_)
  obtain ⟨x7_, rfl, h⟩ := hp
  refine W.eq (g2 := F0 m 9 ls [.int x7_, .int (nI (q_sl.getD (q_N S b2_) 0))]) rfl ?_
  refine lv_ishr hx hb dJ0_length_8abf5_9 ?_
  exact q_iret X Y rfl (Nat.le_refl _) (Nat.le_refl _) h dJ0_length_8abf5_10
-- J0_isLatin1_aae02
theorem dJ0_isLatin1_aae02_0 : decode cJ0_isLatin1_aae02 0 = .ok (.getstatic 38, 3) := by decide +kernel
theorem dJ0_isLatin1_aae02_3 : decode cJ0_isLatin1_aae02 3 = .ok (.ifCond .eq 14, 3) := by decide +kernel
theorem dJ0_isLatin1_aae02_6 : decode cJ0_isLatin1_aae02 6 = .ok (.aload_n 0, 1) := by decide +kernel
theorem dJ0_isLatin1_aae02_7 : decode cJ0_isLatin1_aae02 7 = .ok (.getfield 15, 3) := by decide +kernel
theorem dJ0_isLatin1_aae02_10 : decode cJ0_isLatin1_aae02 10 = .ok (.ifCond .ne 7, 3) := by decide +kernel
theorem dJ0_isLatin1_aae02_13 : decode cJ0_isLatin1_aae02 13 = .ok (.iconst 1, 1) := by decide +kernel
theorem dJ0_isLatin1_aae02_14 : decode cJ0_isLatin1_aae02 14 = .ok (.goto 4, 3) := by decide +kernel
theorem dJ0_isLatin1_aae02_17 : decode cJ0_isLatin1_aae02 17 = .ok (.iconst 0, 1) := by decide +kernel
theorem dJ0_isLatin1_aae02_18 : decode cJ0_isLatin1_aae02 18 = .ok (.ireturn, 1) := by decide +kernel
def wb_J0_isLatin1_aae02_18  (S : q_S) (xs0 : Int32) (Q : Option Value → q_S → Prop) : Prop := (narrow .boolean (.int xs0) = .int xs0 ∧ Q (some (.int xs0)) S)
set_option maxHeartbeats 4000000 in
set_option maxRecDepth 100000 in
theorem cb_J0_isLatin1_aae02_18 {p : Program} {l : Launch} {e : Env} {s : State} {m : MethodId} {args : Array Value} {below : List Frame} {meth : Method} {c : Code} {D : va_G} {cy : Nat → ClassId} {lo : Nat}  {S : q_S} {xs0 : Int32} {Q : Option Value → q_S → Prop} {H : Heap} {locs : List Loc} {ls : Array Slot} (X : q_X p s m args meth c RJ0 cJ0_isLatin1_aae02 1 (some .boolean) D cy lo)  (Y : q_Y D cy lo s S H locs) (hl : lv_has ls 1 []) (h : wb_J0_isLatin1_aae02_18 S xs0 Q) : W p l e ({ frames := 0, cells := 0, slots := 0, locals := 0 } : Room) s m args below meth c H locs 0 0 (MQ below (q_Q D cy lo Q) args s 0 0 (fun q => lo ≤ q)) (F0 m 18 ls [.int xs0]) := by
  have hx := X.1
  have hb := X.2.1
  unfold wb_J0_isLatin1_aae02_18 at h
  exact q_iret X Y h.1 (Nat.le_refl _) (Nat.le_refl _) h.2 dJ0_isLatin1_aae02_18
def wb_J0_isLatin1_aae02_17  (S : q_S) (Q : Option Value → q_S → Prop) : Prop := wb_J0_isLatin1_aae02_18 S (0 : Int32) Q
set_option maxHeartbeats 4000000 in
set_option maxRecDepth 100000 in
theorem cb_J0_isLatin1_aae02_17 {p : Program} {l : Launch} {e : Env} {s : State} {m : MethodId} {args : Array Value} {below : List Frame} {meth : Method} {c : Code} {D : va_G} {cy : Nat → ClassId} {lo : Nat}  {S : q_S} {Q : Option Value → q_S → Prop} {H : Heap} {locs : List Loc} {ls : Array Slot} (X : q_X p s m args meth c RJ0 cJ0_isLatin1_aae02 1 (some .boolean) D cy lo)  (Y : q_Y D cy lo s S H locs) (hl : lv_has ls 1 []) (h : wb_J0_isLatin1_aae02_17 S Q) : W p l e ({ frames := 0, cells := 0, slots := 0, locals := 0 } : Room) s m args below meth c H locs 0 0 (MQ below (q_Q D cy lo Q) args s 0 0 (fun q => lo ≤ q)) (F0 m 17 ls []) := by
  have hx := X.1
  have hb := X.2.1
  unfold wb_J0_isLatin1_aae02_17 at h
  refine lv_iconst (v := 0) hx hb dJ0_isLatin1_aae02_17 (by decide) ?_
  exact cb_J0_isLatin1_aae02_18 X Y (lv_sub hl [] rfl) h
def wm_J0_isLatin1_aae02 (S : q_S) (a0 : Nat) (Q : Option Value → q_S → Prop) : Prop := (((1 : Int32) = 0 → (wb_J0_isLatin1_aae02_17 S Q)) ∧ (¬ (1 : Int32) = 0 → (q_K S a0 = 30 ∧ (((¬ (0 : Int32) = 0 → (wb_J0_isLatin1_aae02_17 S Q)) ∧ ((0 : Int32) = 0 → (wb_J0_isLatin1_aae02_18 S (1 : Int32) Q)))))))
set_option maxHeartbeats 4000000 in
set_option maxRecDepth 100000 in
theorem cm_J0_isLatin1_aae02 {l : Launch} {D : va_G} {cy : Nat → ClassId} {lo : Nat} {S : q_S} {a0 : Nat} {Q : Option Value → q_S → Prop} (h : wm_J0_isLatin1_aae02 S a0 Q) : q_Met l D cy lo yJ0_isLatin1_aae02 cJ0_isLatin1_aae02 1 (some .boolean) 0 0 0 0 [.ref a0] S Q := by
  refine q_body (by decide) (by first | exact Nat.le_of_ble_eq_true rfl | simp [lg_sl, q_cat, q_catI, q_catJ, q_catR]) ?_
  intro p e s m below meth c ls X hnm Y hl
  have hx := X.1
  have hb := X.2.1
  have hl : lv_has ls 1 [(0, .ref a0)] := by first | exact hl | simpa [lv_args, q_cat, q_catI, q_catJ, q_catR] using hl
  generalize hargs : ([.ref a0] : List Value).toArray = args at X ⊢
  unfold wm_J0_isLatin1_aae02 at h
  refine q_scmp X Y fl_J0_38 dJ0_isLatin1_aae02_0 ?_
  refine lv_if_eq (tgt := 17) hx hb dJ0_isLatin1_aae02_3 (by decide) (fun c1_ => ?_) (fun c1_ => ?_)
  · replace h := h.1 c1_
    exact cb_J0_isLatin1_aae02_17 X Y (lv_sub hl [] rfl) h
  · replace h := h.2 c1_
    refine lv_aload_n hx hb dJ0_isLatin1_aae02_6 rfl (lv_at hl 0 rfl) ?_
    obtain ⟨k2_, h⟩ := h
    refine q_scod X Y fl_J0_15 k2_ dJ0_isLatin1_aae02_7 ?_
    refine lv_if_ne (tgt := 17) hx hb dJ0_isLatin1_aae02_10 (by decide) (fun c3_ => ?_) (fun c3_ => ?_)
    · replace h := h.1 c3_
      exact cb_J0_isLatin1_aae02_17 X Y (lv_sub hl [] rfl) h
    · replace h := h.2 c3_
      refine lv_iconst (v := 1) hx hb dJ0_isLatin1_aae02_13 (by decide) ?_
      refine lv_goto (tgt := 18) hx hb dJ0_isLatin1_aae02_14 (by decide) ?_
      exact cb_J0_isLatin1_aae02_18 X Y (lv_sub hl [] rfl) h
