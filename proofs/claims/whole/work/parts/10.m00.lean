-- X0_init
theorem ml_X0_3 : Cond.methodLink RX0 3 Lib.objectInit ∈ q_G := q_tb (i := 263) (by decide +kernel) (by decide +kernel)
theorem oi_ : Cond.instanceMethod Lib.objectInit ∈ q_G := q_tb (i := 35) (by decide +kernel) (by decide +kernel)
theorem oc_ : Cond.code Lib.objectInit ⟨#[0xb1]⟩ 1 none ∈ q_G := q_tb (i := 36) (by decide +kernel) (by decide +kernel)
theorem dX0_init_0 : decode cX0_init 0 = .ok (.aload_n 0, 1) := by decide +kernel
theorem dX0_init_1 : decode cX0_init 1 = .ok (.invokespecial 3, 3) := by decide +kernel
theorem dX0_init_4 : decode cX0_init 4 = .ok (.return_, 1) := by decide +kernel
def wm_X0_init (S : q_S) (a0 : Nat) (Q : Option Value → q_S → Prop) : Prop := Q none S
set_option maxHeartbeats 4000000 in
set_option maxRecDepth 100000 in
theorem cm_X0_init {l : Launch} {D : va_G} {cy : Nat → ClassId} {lo : Nat} {S : q_S} {a0 : Nat} {Q : Option Value → q_S → Prop} (h : wm_X0_init S a0 Q) : q_Met l D cy lo yX0_init cX0_init 1 none 1 20 0 0 [.ref a0] S Q := by
  refine q_body (by decide) (by first | exact Nat.le_of_ble_eq_true rfl | simp [lg_sl, q_cat, q_catI, q_catJ, q_catR]) ?_
  intro p e s m below meth c ls X hnm Y hl
  have hx := X.1
  have hb := X.2.1
  have hl : lv_has ls 1 [(0, .ref a0)] := by first | exact hl | simpa [lv_args, q_cat, q_catI, q_catJ, q_catR] using hl
  generalize hargs : ([.ref a0] : List Value).toArray = args at X ⊢
  unfold wm_X0_init at h
  refine lv_aload_n hx hb dX0_init_0 rfl (lv_at hl 0 rfl) ?_
  refine q_obj X hl ml_X0_3 oi_ oc_ ⟨Nat.le_of_ble_eq_true rfl, (by first | exact Nat.le_of_ble_eq_true rfl | simp [q_cat, q_catI, q_catJ, q_catR])⟩ dX0_init_1 ?_
  exact q_vret X Y (Nat.le_refl _) (Nat.le_refl _) h dX0_init_4
-- X7_leave
theorem fl_X7_61 : Cond.fieldLink RX7 61 "PartitionWorks$Process" "due" "I" ∈ q_G := q_tb (i := 883) (by decide +kernel) (by decide +kernel)
theorem fl_X7_64 : Cond.fieldLink RX7 64 "PartitionWorks$Process" "until" "I" ∈ q_G := q_tb (i := 886) (by decide +kernel) (by decide +kernel)
theorem fl_X7_67 : Cond.fieldLink RX7 67 "PartitionWorks$Process" "waits" "I" ∈ q_G := q_tb (i := 900) (by decide +kernel) (by decide +kernel)
theorem fl_X7_70 : Cond.fieldLink RX7 70 "PartitionWorks$Process" "held" "Z" ∈ q_G := q_tb (i := 894) (by decide +kernel) (by decide +kernel)
theorem fl_X7_58 : Cond.fieldLink RX7 58 "PartitionWorks$Process" "state" "I" ∈ q_G := q_tb (i := 870) (by decide +kernel) (by decide +kernel)
theorem dX7_leave_0 : decode cX7_leave 0 = .ok (.aload_n 0, 1) := by decide +kernel
theorem dX7_leave_1 : decode cX7_leave 1 = .ok (.iload_n 1, 1) := by decide +kernel
theorem dX7_leave_2 : decode cX7_leave 2 = .ok (.putfield 58, 3) := by decide +kernel
theorem dX7_leave_5 : decode cX7_leave 5 = .ok (.aload_n 0, 1) := by decide +kernel
theorem dX7_leave_6 : decode cX7_leave 6 = .ok (.iload_n 1, 1) := by decide +kernel
theorem dX7_leave_7 : decode cX7_leave 7 = .ok (.ifCond .ne 7, 3) := by decide +kernel
theorem dX7_leave_10 : decode cX7_leave 10 = .ok (.iconst (-1), 1) := by decide +kernel
theorem dX7_leave_11 : decode cX7_leave 11 = .ok (.goto 7, 3) := by decide +kernel
theorem dX7_leave_14 : decode cX7_leave 14 = .ok (.aload_n 0, 1) := by decide +kernel
theorem dX7_leave_15 : decode cX7_leave 15 = .ok (.getfield 61, 3) := by decide +kernel
theorem dX7_leave_18 : decode cX7_leave 18 = .ok (.putfield 61, 3) := by decide +kernel
theorem dX7_leave_21 : decode cX7_leave 21 = .ok (.aload_n 0, 1) := by decide +kernel
theorem dX7_leave_22 : decode cX7_leave 22 = .ok (.iconst (-1), 1) := by decide +kernel
theorem dX7_leave_23 : decode cX7_leave 23 = .ok (.putfield 64, 3) := by decide +kernel
theorem dX7_leave_26 : decode cX7_leave 26 = .ok (.aload_n 0, 1) := by decide +kernel
theorem dX7_leave_27 : decode cX7_leave 27 = .ok (.iconst (-1), 1) := by decide +kernel
theorem dX7_leave_28 : decode cX7_leave 28 = .ok (.putfield 67, 3) := by decide +kernel
theorem dX7_leave_31 : decode cX7_leave 31 = .ok (.aload_n 0, 1) := by decide +kernel
theorem dX7_leave_32 : decode cX7_leave 32 = .ok (.iconst 0, 1) := by decide +kernel
theorem dX7_leave_33 : decode cX7_leave 33 = .ok (.putfield 70, 3) := by decide +kernel
theorem dX7_leave_36 : decode cX7_leave 36 = .ok (.return_, 1) := by decide +kernel
def wb_X7_leave_18  (S : q_S) (a0 : Nat) (as0 : Nat) (xs1 : Int32) (Q : Option Value → q_S → Prop) : Prop := q_K S as0 = 8 ∧ (q_K (qs_I S 1412 as0 xs1) a0 = 8 ∧ (∀ S3_ : q_S, S3_ = (qs_I (qs_I (qs_I S 1412 as0 xs1) 1413 a0 (-1 : Int32)) 1418 a0 (-1 : Int32)) → (Q none (qs_I S3_ 1416 a0 (0 : Int32)))))
set_option maxHeartbeats 4000000 in
set_option maxRecDepth 100000 in
theorem cb_X7_leave_18 {p : Program} {l : Launch} {e : Env} {s : State} {m : MethodId} {args : Array Value} {below : List Frame} {meth : Method} {c : Code} {D : va_G} {cy : Nat → ClassId} {lo : Nat}  {S : q_S} {a0 : Nat} {as0 : Nat} {xs1 : Int32} {Q : Option Value → q_S → Prop} {H : Heap} {locs : List Loc} {ls : Array Slot} (X : q_X p s m args meth c RX7 cX7_leave 2 none D cy lo)  (Y : q_Y D cy lo s S H locs) (hl : lv_has ls 2 [(0, .ref a0)]) (h : wb_X7_leave_18 S a0 as0 xs1 Q) : W p l e ({ frames := 0, cells := 0, slots := 0, locals := 0 } : Room) s m args below meth c H locs 0 0 (MQ below (q_Q D cy lo Q) args s 0 0 (fun q => lo ≤ q)) (F0 m 18 ls [.int xs1, .ref as0]) := by
  have hx := X.1
  have hb := X.2.1
  unfold wb_X7_leave_18 at h
  obtain ⟨k1_, h⟩ := h
  refine q_putI X Y kX7 12 rfl fl_X7_61 k1_ .int rfl ⟨rfl, rfl⟩ rfl dX7_leave_18 (fun H locs Y => ?_)
  refine lv_aload_n hx hb dX7_leave_21 rfl (lv_at hl 0 rfl) ?_
  refine lv_iconst (v := (-1)) hx hb dX7_leave_22 (by decide) ?_
  obtain ⟨k2_, h⟩ := h
  refine q_putI X Y kX7 13 rfl fl_X7_64 k2_ .int rfl ⟨rfl, rfl⟩ rfl dX7_leave_23 (fun H locs Y => ?_)
  refine lv_aload_n hx hb dX7_leave_26 rfl (lv_at hl 0 rfl) ?_
  refine lv_iconst (v := (-1)) hx hb dX7_leave_27 (by decide) ?_
  refine q_putI X Y kX7 18 rfl fl_X7_67 k2_ .int rfl ⟨rfl, rfl⟩ rfl dX7_leave_28 (fun H locs Y => ?_)
  obtain ⟨S3_, gS3_⟩ : ∃ z : q_S, z = (qs_I (qs_I (qs_I S 1412 as0 xs1) 1413 a0 (-1 : Int32)) 1418 a0 (-1 : Int32)) := ⟨_, rfl⟩
  replace Y : q_Y D cy lo s S3_ H locs := by rw [gS3_]; exact Y
  replace h := h S3_ gS3_
  replace k1_ : q_K S3_ as0 = 8 := by rw [gS3_]; exact k1_
  replace k2_ : q_K S3_ a0 = 8 := by rw [gS3_]; exact k2_
  refine lv_aload_n hx hb dX7_leave_31 rfl (lv_at hl 0 rfl) ?_
  refine lv_iconst (v := 0) hx hb dX7_leave_32 (by decide) ?_
  refine q_putI X Y kX7 16 rfl fl_X7_70 k2_ .boolean rfl ⟨rfl, rfl⟩ rfl dX7_leave_33 (fun H locs Y => ?_)
  exact q_vret X Y (Nat.le_refl _) (Nat.le_refl _) h dX7_leave_36
def wm_X7_leave (S : q_S) (a0 : Nat) (x1 : Int32) (Q : Option Value → q_S → Prop) : Prop := q_K S a0 = 8 ∧ (((¬ x1 = 0 → (wb_X7_leave_18 (qs_I S 1409 a0 x1) a0 a0 (q_I (qs_I S 1409 a0 x1) 1412 a0) Q)) ∧ (x1 = 0 → (wb_X7_leave_18 (qs_I S 1409 a0 x1) a0 a0 (-1 : Int32) Q))))
set_option maxHeartbeats 4000000 in
set_option maxRecDepth 100000 in
theorem cm_X7_leave {l : Launch} {D : va_G} {cy : Nat → ClassId} {lo : Nat} {S : q_S} {a0 : Nat} {x1 : Int32} {Q : Option Value → q_S → Prop} (h : wm_X7_leave S a0 x1 Q) : q_Met l D cy lo yX7_leave cX7_leave 2 none 0 0 0 0 [.ref a0, .int x1] S Q := by
  refine q_body (by decide) (by first | exact Nat.le_of_ble_eq_true rfl | simp [lg_sl, q_cat, q_catI, q_catJ, q_catR]) ?_
  intro p e s m below meth c ls X hnm Y hl
  have hx := X.1
  have hb := X.2.1
  have hl : lv_has ls 2 [(0, .ref a0), (1, .int x1)] := by first | exact hl | simpa [lv_args, q_cat, q_catI, q_catJ, q_catR] using hl
  generalize hargs : ([.ref a0, .int x1] : List Value).toArray = args at X ⊢
  unfold wm_X7_leave at h
  refine lv_aload_n hx hb dX7_leave_0 rfl (lv_at hl 0 rfl) ?_
  refine lv_iload_n hx hb dX7_leave_1 rfl (lv_at hl 1 rfl) ?_
  obtain ⟨k4_, h⟩ := h
  refine q_putI X Y kX7 9 rfl fl_X7_58 k4_ .int rfl ⟨rfl, rfl⟩ rfl dX7_leave_2 (fun H locs Y => ?_)
  refine lv_aload_n hx hb dX7_leave_5 rfl (lv_at hl 0 rfl) ?_
  refine lv_iload_n hx hb dX7_leave_6 rfl (lv_at hl 1 rfl) ?_
  refine lv_if_ne (tgt := 14) hx hb dX7_leave_7 (by decide) (fun c5_ => ?_) (fun c5_ => ?_)
  · replace h := h.1 c5_
    refine lv_aload_n hx hb dX7_leave_14 rfl (lv_at hl 0 rfl) ?_
    refine q_getI X Y kX7 12 rfl fl_X7_61 k4_ dX7_leave_15 ?_
    exact cb_X7_leave_18 X Y (lv_sub hl [0] rfl) h
  · replace h := h.2 c5_
    refine lv_iconst (v := (-1)) hx hb dX7_leave_10 (by decide) ?_
    refine lv_goto (tgt := 18) hx hb dX7_leave_11 (by decide) ?_
    exact cb_X7_leave_18 X Y (lv_sub hl [0] rfl) h
-- X5_unlockOf
theorem fl_X5_72 : Cond.fieldLink RX5 72 "PartitionWorks$Partition" "locker" "I" ∈ q_G := q_tb (i := 721) (by decide +kernel) (by decide +kernel)
theorem fl_X5_131 : Cond.fieldLink RX5 131 "PartitionWorks$Process" "number" "I" ∈ q_G := q_tb (i := 842) (by decide +kernel) (by decide +kernel)
theorem fl_X5_69 : Cond.fieldLink RX5 69 "PartitionWorks$Partition" "locks" "I" ∈ q_G := q_tb (i := 718) (by decide +kernel) (by decide +kernel)
theorem dX5_unlockOf_0 : decode cX5_unlockOf 0 = .ok (.aload_n 0, 1) := by decide +kernel
theorem dX5_unlockOf_1 : decode cX5_unlockOf 1 = .ok (.getfield 72, 3) := by decide +kernel
theorem dX5_unlockOf_4 : decode cX5_unlockOf 4 = .ok (.aload_n 1, 1) := by decide +kernel
theorem dX5_unlockOf_5 : decode cX5_unlockOf 5 = .ok (.getfield 131, 3) := by decide +kernel
theorem dX5_unlockOf_8 : decode cX5_unlockOf 8 = .ok (.if_icmp .ne 13, 3) := by decide +kernel
theorem dX5_unlockOf_11 : decode cX5_unlockOf 11 = .ok (.aload_n 0, 1) := by decide +kernel
theorem dX5_unlockOf_12 : decode cX5_unlockOf 12 = .ok (.iconst 0, 1) := by decide +kernel
theorem dX5_unlockOf_13 : decode cX5_unlockOf 13 = .ok (.putfield 69, 3) := by decide +kernel
theorem dX5_unlockOf_16 : decode cX5_unlockOf 16 = .ok (.aload_n 0, 1) := by decide +kernel
theorem dX5_unlockOf_17 : decode cX5_unlockOf 17 = .ok (.iconst (-1), 1) := by decide +kernel
theorem dX5_unlockOf_18 : decode cX5_unlockOf 18 = .ok (.putfield 72, 3) := by decide +kernel
theorem dX5_unlockOf_21 : decode cX5_unlockOf 21 = .ok (.return_, 1) := by decide +kernel
def wb_X5_unlockOf_21  (S : q_S) (Q : Option Value → q_S → Prop) : Prop := Q none S
set_option maxHeartbeats 4000000 in
set_option maxRecDepth 100000 in
theorem cb_X5_unlockOf_21 {p : Program} {l : Launch} {e : Env} {s : State} {m : MethodId} {args : Array Value} {below : List Frame} {meth : Method} {c : Code} {D : va_G} {cy : Nat → ClassId} {lo : Nat}  {S : q_S} {Q : Option Value → q_S → Prop} {H : Heap} {locs : List Loc} {ls : Array Slot} (X : q_X p s m args meth c RX5 cX5_unlockOf 2 none D cy lo)  (Y : q_Y D cy lo s S H locs) (hl : lv_has ls 2 []) (h : wb_X5_unlockOf_21 S Q) : W p l e ({ frames := 0, cells := 0, slots := 0, locals := 0 } : Room) s m args below meth c H locs 0 0 (MQ below (q_Q D cy lo Q) args s 0 0 (fun q => lo ≤ q)) (F0 m 21 ls []) := by
  have hx := X.1
  have hb := X.2.1
  unfold wb_X5_unlockOf_21 at h
  exact q_vret X Y (Nat.le_refl _) (Nat.le_refl _) h dX5_unlockOf_21
def wm_X5_unlockOf (S : q_S) (a0 : Nat) (r1 : Option Nat) (Q : Option Value → q_S → Prop) : Prop := q_K S a0 = 6 ∧ (∃ a2_ : Nat, r1 = some a2_ ∧ (q_K S a2_ = 8 ∧ (((¬ (q_I S 1014 a0) = (q_I S 1400 a2_) → (wb_X5_unlockOf_21 S Q)) ∧ ((q_I S 1014 a0) = (q_I S 1400 a2_) → (wb_X5_unlockOf_21 (qs_I (qs_I S 1013 a0 (0 : Int32)) 1014 a0 (-1 : Int32)) Q))))))
set_option maxHeartbeats 4000000 in
set_option maxRecDepth 100000 in
theorem cm_X5_unlockOf {l : Launch} {D : va_G} {cy : Nat → ClassId} {lo : Nat} {S : q_S} {a0 : Nat} {r1 : Option Nat} {Q : Option Value → q_S → Prop} (h : wm_X5_unlockOf S a0 r1 Q) : q_Met l D cy lo yX5_unlockOf cX5_unlockOf 2 none 0 0 0 0 [.ref a0, va_rf r1] S Q := by
  refine q_body (by decide) (by first | exact Nat.le_of_ble_eq_true rfl | simp [lg_sl, q_cat, q_catI, q_catJ, q_catR]) ?_
  intro p e s m below meth c ls X hnm Y hl
  have hx := X.1
  have hb := X.2.1
  have hl : lv_has ls 2 [(0, .ref a0), (1, va_rf r1)] := by first | exact hl | simpa [lv_args, q_cat, q_catI, q_catJ, q_catR] using hl
  generalize hargs : ([.ref a0, va_rf r1] : List Value).toArray = args at X ⊢
  unfold wm_X5_unlockOf at h
  refine lv_aload_n hx hb dX5_unlockOf_0 rfl (lv_at hl 0 rfl) ?_
  obtain ⟨k1_, h⟩ := h
  refine q_getI X Y kX5 14 rfl fl_X5_72 k1_ dX5_unlockOf_1 ?_
  refine q_aload_n hx hb dX5_unlockOf_4 rfl (lv_at hl 1 rfl) ?_
  obtain ⟨a2_, e3_, h⟩ := h
  refine q_nn [] e3_ ?_
  obtain ⟨k4_, h⟩ := h
  refine q_getI X Y kX7 0 rfl fl_X5_131 k4_ dX5_unlockOf_5 ?_
  refine lv_icmp_ne (tgt := 21) hx hb dX5_unlockOf_8 (by decide) (fun c5_ => ?_) (fun c5_ => ?_)
  · replace h := h.1 c5_
    exact cb_X5_unlockOf_21 X Y (lv_sub hl [] rfl) h
  · replace h := h.2 c5_
    refine lv_aload_n hx hb dX5_unlockOf_11 rfl (lv_at hl 0 rfl) ?_
    refine lv_iconst (v := 0) hx hb dX5_unlockOf_12 (by decide) ?_
    refine q_putI X Y kX5 13 rfl fl_X5_69 k1_ .int rfl ⟨rfl, rfl⟩ rfl dX5_unlockOf_13 (fun H locs Y => ?_)
    refine lv_aload_n hx hb dX5_unlockOf_16 rfl (lv_at hl 0 rfl) ?_
    refine lv_iconst (v := (-1)) hx hb dX5_unlockOf_17 (by decide) ?_
    refine q_putI X Y kX5 14 rfl fl_X5_72 k1_ .int rfl ⟨rfl, rfl⟩ rfl dX5_unlockOf_18 (fun H locs Y => ?_)
    exact cb_X5_unlockOf_21 X Y (lv_sub hl [] rfl) h
-- X5_processAt
theorem fl_X5_45 : Cond.fieldLink RX5 45 "PartitionWorks$Partition" "processCount" "I" ∈ q_G := q_tb (i := 701) (by decide +kernel) (by decide +kernel)
theorem fl_X5_20 : Cond.fieldLink RX5 20 "PartitionWorks$Partition" "processes" "[LPartitionWorks$Process;" ∈ q_G := q_tb (i := 699) (by decide +kernel) (by decide +kernel)
theorem dX5_processAt_0 : decode cX5_processAt 0 = .ok (.iload_n 1, 1) := by decide +kernel
theorem dX5_processAt_1 : decode cX5_processAt 1 = .ok (.ifCond .lt 11, 3) := by decide +kernel
theorem dX5_processAt_4 : decode cX5_processAt 4 = .ok (.iload_n 1, 1) := by decide +kernel
theorem dX5_processAt_5 : decode cX5_processAt 5 = .ok (.aload_n 0, 1) := by decide +kernel
theorem dX5_processAt_6 : decode cX5_processAt 6 = .ok (.getfield 45, 3) := by decide +kernel
theorem dX5_processAt_9 : decode cX5_processAt 9 = .ok (.if_icmp .lt 7, 3) := by decide +kernel
theorem dX5_processAt_12 : decode cX5_processAt 12 = .ok (.aconst_null, 1) := by decide +kernel
theorem dX5_processAt_13 : decode cX5_processAt 13 = .ok (.goto 9, 3) := by decide +kernel
theorem dX5_processAt_16 : decode cX5_processAt 16 = .ok (.aload_n 0, 1) := by decide +kernel
theorem dX5_processAt_17 : decode cX5_processAt 17 = .ok (.getfield 20, 3) := by decide +kernel
theorem dX5_processAt_20 : decode cX5_processAt 20 = .ok (.iload_n 1, 1) := by decide +kernel
theorem dX5_processAt_21 : decode cX5_processAt 21 = .ok (.aaload, 1) := by decide +kernel
theorem dX5_processAt_22 : decode cX5_processAt 22 = .ok (.areturn, 1) := by decide +kernel
def wb_X5_processAt_22  (S : q_S) (rs0 : Option Nat) (Q : Option Value → q_S → Prop) : Prop := Q (some (va_rf rs0)) S
set_option maxHeartbeats 4000000 in
set_option maxRecDepth 100000 in
theorem cb_X5_processAt_22 {p : Program} {l : Launch} {e : Env} {s : State} {m : MethodId} {args : Array Value} {below : List Frame} {meth : Method} {c : Code} {D : va_G} {cy : Nat → ClassId} {lo : Nat}  {S : q_S} {rs0 : Option Nat} {Q : Option Value → q_S → Prop} {H : Heap} {locs : List Loc} {ls : Array Slot} (X : q_X p s m args meth c RX5 cX5_processAt 2 (some (.object "PartitionWorks$Process")) D cy lo)  (Y : q_Y D cy lo s S H locs) (hl : lv_has ls 2 []) (h : wb_X5_processAt_22 S rs0 Q) : W p l e ({ frames := 0, cells := 0, slots := 0, locals := 0 } : Room) s m args below meth c H locs 0 0 (MQ below (q_Q D cy lo Q) args s 0 0 (fun q => lo ≤ q)) (F0 m 22 ls [va_rf rs0]) := by
  have hx := X.1
  have hb := X.2.1
  unfold wb_X5_processAt_22 at h
  exact q_aret X Y (Or.inl ⟨_, rfl⟩) (va_rf_or _) (Nat.le_refl _) (Nat.le_refl _) h dX5_processAt_22
def wb_X5_processAt_12  (S : q_S) (Q : Option Value → q_S → Prop) : Prop := wb_X5_processAt_22 S none Q
set_option maxHeartbeats 4000000 in
set_option maxRecDepth 100000 in
theorem cb_X5_processAt_12 {p : Program} {l : Launch} {e : Env} {s : State} {m : MethodId} {args : Array Value} {below : List Frame} {meth : Method} {c : Code} {D : va_G} {cy : Nat → ClassId} {lo : Nat}  {S : q_S} {Q : Option Value → q_S → Prop} {H : Heap} {locs : List Loc} {ls : Array Slot} (X : q_X p s m args meth c RX5 cX5_processAt 2 (some (.object "PartitionWorks$Process")) D cy lo)  (Y : q_Y D cy lo s S H locs) (hl : lv_has ls 2 []) (h : wb_X5_processAt_12 S Q) : W p l e ({ frames := 0, cells := 0, slots := 0, locals := 0 } : Room) s m args below meth c H locs 0 0 (MQ below (q_Q D cy lo Q) args s 0 0 (fun q => lo ≤ q)) (F0 m 12 ls []) := by
  have hx := X.1
  have hb := X.2.1
  unfold wb_X5_processAt_12 at h
  refine lv_null hx hb dX5_processAt_12 ?_
  refine W.eq (g2 := F0 m 13 ls [va_rf none]) rfl ?_
  refine lv_goto (tgt := 22) hx hb dX5_processAt_13 (by decide) ?_
  exact cb_X5_processAt_22 X Y (lv_sub hl [] rfl) h
def wm_X5_processAt (S : q_S) (a0 : Nat) (x1 : Int32) (Q : Option Value → q_S → Prop) : Prop := ((x1 < 0 → (wb_X5_processAt_12 S Q)) ∧ (¬ x1 < 0 → (q_K S a0 = 6 ∧ (((x1 < (q_I S 1004 a0) → (∃ a4_ : Nat, (q_P S 1003 a0) = some a4_ ∧ (q_K S a4_ = 26 ∧ (vp_in x1 (q_N S a4_) ∧ (wb_X5_processAt_22 S (q_C S a4_ x1.toNatClampNeg) Q))))) ∧ (¬ x1 < (q_I S 1004 a0) → (wb_X5_processAt_12 S Q)))))))
set_option maxHeartbeats 4000000 in
set_option maxRecDepth 100000 in
theorem cm_X5_processAt {l : Launch} {D : va_G} {cy : Nat → ClassId} {lo : Nat} {S : q_S} {a0 : Nat} {x1 : Int32} {Q : Option Value → q_S → Prop} (h : wm_X5_processAt S a0 x1 Q) : q_Met l D cy lo yX5_processAt cX5_processAt 2 (some (.object "PartitionWorks$Process")) 0 0 0 0 [.ref a0, .int x1] S Q := by
  refine q_body (by decide) (by first | exact Nat.le_of_ble_eq_true rfl | simp [lg_sl, q_cat, q_catI, q_catJ, q_catR]) ?_
  intro p e s m below meth c ls X hnm Y hl
  have hx := X.1
  have hb := X.2.1
  have hl : lv_has ls 2 [(0, .ref a0), (1, .int x1)] := by first | exact hl | simpa [lv_args, q_cat, q_catI, q_catJ, q_catR] using hl
  generalize hargs : ([.ref a0, .int x1] : List Value).toArray = args at X ⊢
  unfold wm_X5_processAt at h
  refine lv_iload_n hx hb dX5_processAt_0 rfl (lv_at hl 1 rfl) ?_
  refine lv_if_lt (tgt := 12) hx hb dX5_processAt_1 (by decide) (fun c1_ => ?_) (fun c1_ => ?_)
  · replace h := h.1 c1_
    exact cb_X5_processAt_12 X Y (lv_sub hl [] rfl) h
  · replace h := h.2 c1_
    refine lv_iload_n hx hb dX5_processAt_4 rfl (lv_at hl 1 rfl) ?_
    refine lv_aload_n hx hb dX5_processAt_5 rfl (lv_at hl 0 rfl) ?_
    obtain ⟨k2_, h⟩ := h
    refine q_getI X Y kX5 4 rfl fl_X5_45 k2_ dX5_processAt_6 ?_
    refine lv_icmp_lt (tgt := 16) hx hb dX5_processAt_9 (by decide) (fun c3_ => ?_) (fun c3_ => ?_)
    · replace h := h.1 c3_
      refine lv_aload_n hx hb dX5_processAt_16 rfl (lv_at hl 0 rfl) ?_
      refine q_getP X Y kX5 3 rfl fl_X5_20 k2_ rfl dX5_processAt_17 ?_
      refine lv_iload_n hx hb dX5_processAt_20 rfl (lv_at hl 1 rfl) ?_
      obtain ⟨a4_, e5_, h⟩ := h
      refine q_nn [.int x1] e5_ ?_
      obtain ⟨k6_, h⟩ := h
      obtain ⟨i7_, h⟩ := h
      refine q_cld X Y k6_ (by decide) (t := 6) rfl i7_ rfl dX5_processAt_21 ?_
      exact cb_X5_processAt_22 X Y (lv_sub hl [] rfl) h
    · replace h := h.2 c3_
      exact cb_X5_processAt_12 X Y (lv_sub hl [] rfl) h
-- X5_rest
theorem fl_X5_78 : Cond.fieldLink RX5 78 "PartitionWorks$Partition" "faulted" "I" ∈ q_G := q_tb (i := 724) (by decide +kernel) (by decide +kernel)
theorem ml_X5_101 : Cond.methodLink RX5 101 yX5_processAt ∈ q_G := q_tb (i := 359) (by decide +kernel) (by decide +kernel)
theorem mt_X5_processAt : q_Mt yX5_processAt cX5_processAt 2 (some (.object "PartitionWorks$Process")) 1 := ⟨q_tb (i := 346) (by decide +kernel) (by decide +kernel), q_tb (i := 20) (by decide +kernel) (by decide +kernel), by decide +kernel, by decide +kernel, by decide +kernel⟩
theorem mi_X5_processAt : Cond.instanceMethod yX5_processAt ∈ q_G ∧ Cond.selects yX5_processAt.cls yX5_processAt yX5_processAt ∈ q_G := ⟨q_tb (i := 344) (by decide +kernel) (by decide +kernel), q_tb (i := 345) (by decide +kernel) (by decide +kernel)⟩
theorem fl_X5_98 : Cond.fieldLink RX5 98 "PartitionWorks$Process" "handler" "Z" ∈ q_G := q_tb (i := 864) (by decide +kernel) (by decide +kernel)
theorem ml_X5_136 : Cond.methodLink RX5 136 yX7_leave ∈ q_G := q_tb (i := 1310) (by decide +kernel) (by decide +kernel)
theorem mt_X7_leave : q_Mt yX7_leave cX7_leave 2 none 1 := ⟨q_tb (i := 954) (by decide +kernel) (by decide +kernel), q_tb (i := 22) (by decide +kernel) (by decide +kernel), by decide +kernel, by decide +kernel, by decide +kernel⟩
theorem mi_X7_leave : Cond.instanceMethod yX7_leave ∈ q_G ∧ Cond.selects yX7_leave.cls yX7_leave yX7_leave ∈ q_G := ⟨q_tb (i := 952) (by decide +kernel) (by decide +kernel), q_tb (i := 953) (by decide +kernel) (by decide +kernel)⟩
theorem ml_X5_139 : Cond.methodLink RX5 139 yX5_unlockOf ∈ q_G := q_tb (i := 1424) (by decide +kernel) (by decide +kernel)
theorem mt_X5_unlockOf : q_Mt yX5_unlockOf cX5_unlockOf 2 none 1 := ⟨q_tb (i := 1427) (by decide +kernel) (by decide +kernel), q_tb (i := 20) (by decide +kernel) (by decide +kernel), by decide +kernel, by decide +kernel, by decide +kernel⟩
theorem mi_X5_unlockOf : Cond.instanceMethod yX5_unlockOf ∈ q_G ∧ Cond.selects yX5_unlockOf.cls yX5_unlockOf yX5_unlockOf ∈ q_G := ⟨q_tb (i := 1426) (by decide +kernel) (by decide +kernel), q_tp (i := 39) (q := (yX5_unlockOf, 19)) (by decide +kernel) (by decide +kernel)⟩
theorem dX5_rest_0 : decode cX5_rest 0 = .ok (.aload_n 1, 1) := by decide +kernel
theorem dX5_rest_1 : decode cX5_rest 1 = .ok (.iconst 0, 1) := by decide +kernel
theorem dX5_rest_2 : decode cX5_rest 2 = .ok (.invokevirtual 136, 3) := by decide +kernel
theorem dX5_rest_5 : decode cX5_rest 5 = .ok (.aload_n 0, 1) := by decide +kernel
theorem dX5_rest_6 : decode cX5_rest 6 = .ok (.aload_n 1, 1) := by decide +kernel
theorem dX5_rest_7 : decode cX5_rest 7 = .ok (.invokevirtual 139, 3) := by decide +kernel
theorem dX5_rest_10 : decode cX5_rest 10 = .ok (.aload_n 1, 1) := by decide +kernel
theorem dX5_rest_11 : decode cX5_rest 11 = .ok (.getfield 131, 3) := by decide +kernel
theorem dX5_rest_14 : decode cX5_rest 14 = .ok (.aload_n 0, 1) := by decide +kernel
theorem dX5_rest_15 : decode cX5_rest 15 = .ok (.getfield 78, 3) := by decide +kernel
theorem dX5_rest_18 : decode cX5_rest 18 = .ok (.if_icmp .ne 8, 3) := by decide +kernel
theorem dX5_rest_21 : decode cX5_rest 21 = .ok (.aload_n 0, 1) := by decide +kernel
theorem dX5_rest_22 : decode cX5_rest 22 = .ok (.iconst (-1), 1) := by decide +kernel
theorem dX5_rest_23 : decode cX5_rest 23 = .ok (.putfield 78, 3) := by decide +kernel
theorem dX5_rest_26 : decode cX5_rest 26 = .ok (.aload_n 0, 1) := by decide +kernel
theorem dX5_rest_27 : decode cX5_rest 27 = .ok (.aload_n 0, 1) := by decide +kernel
theorem dX5_rest_28 : decode cX5_rest 28 = .ok (.getfield 78, 3) := by decide +kernel
theorem dX5_rest_31 : decode cX5_rest 31 = .ok (.invokevirtual 101, 3) := by decide +kernel
theorem dX5_rest_34 : decode cX5_rest 34 = .ok (.astore_n 2, 1) := by decide +kernel
theorem dX5_rest_35 : decode cX5_rest 35 = .ok (.aload_n 1, 1) := by decide +kernel
theorem dX5_rest_36 : decode cX5_rest 36 = .ok (.getfield 98, 3) := by decide +kernel
theorem dX5_rest_39 : decode cX5_rest 39 = .ok (.ifCond .eq 17, 3) := by decide +kernel
theorem dX5_rest_42 : decode cX5_rest 42 = .ok (.aload_n 2, 1) := by decide +kernel
theorem dX5_rest_43 : decode cX5_rest 43 = .ok (.ifnull 13, 3) := by decide +kernel
theorem dX5_rest_46 : decode cX5_rest 46 = .ok (.aload_n 2, 1) := by decide +kernel
theorem dX5_rest_47 : decode cX5_rest 47 = .ok (.iconst 0, 1) := by decide +kernel
theorem dX5_rest_48 : decode cX5_rest 48 = .ok (.invokevirtual 136, 3) := by decide +kernel
theorem dX5_rest_51 : decode cX5_rest 51 = .ok (.aload_n 0, 1) := by decide +kernel
theorem dX5_rest_52 : decode cX5_rest 52 = .ok (.iconst (-1), 1) := by decide +kernel
theorem dX5_rest_53 : decode cX5_rest 53 = .ok (.putfield 78, 3) := by decide +kernel
theorem dX5_rest_56 : decode cX5_rest 56 = .ok (.return_, 1) := by decide +kernel
def wb_X5_rest_56  (S : q_S) (Q : Option Value → q_S → Prop) : Prop := Q none S
set_option maxHeartbeats 4000000 in
set_option maxRecDepth 100000 in
theorem cb_X5_rest_56 {p : Program} {l : Launch} {e : Env} {s : State} {m : MethodId} {args : Array Value} {below : List Frame} {meth : Method} {c : Code} {D : va_G} {cy : Nat → ClassId} {lo : Nat}  {S : q_S} {Q : Option Value → q_S → Prop} {H : Heap} {locs : List Loc} {ls : Array Slot} (X : q_X p s m args meth c RX5 cX5_rest 3 none D cy lo)  (Y : q_Y D cy lo s S H locs) (hl : lv_has ls 3 []) (h : wb_X5_rest_56 S Q) : W p l e ({ frames := 1, cells := 0, slots := 0, locals := 21 } : Room) s m args below meth c H locs 0 0 (MQ below (q_Q D cy lo Q) args s 0 0 (fun q => lo ≤ q)) (F0 m 56 ls []) := by
  have hx := X.1
  have hb := X.2.1
  unfold wb_X5_rest_56 at h
  exact q_vret X Y (Nat.le_refl _) (Nat.le_refl _) h dX5_rest_56
def wb_X5_rest_26  (S : q_S) (a0 : Nat) (r1 : Option Nat) (Q : Option Value → q_S → Prop) : Prop := q_K S a0 = 6 ∧ (wm_X5_processAt S a0 (q_I S 1016 a0) (fun r2_ S3_ => ∃ r4_ : Option Nat, r2_ = some (va_rf r4_) ∧ (∃ a5_ : Nat, r1 = some a5_ ∧ (q_K S3_ a5_ = 8 ∧ ((((q_I S3_ 1407 a5_) = 0 → (wb_X5_rest_56 S3_ Q)) ∧ (¬ (q_I S3_ 1407 a5_) = 0 → (((r4_ = none → (wb_X5_rest_56 S3_ Q)) ∧ (¬ r4_ = none → (∃ a10_ : Nat, r4_ = some a10_ ∧ (q_K S3_ a10_ = 8 ∧ (wm_X7_leave S3_ a10_ (0 : Int32) (fun r13_ S14_ => r13_ = none ∧ (q_K S14_ a0 = 6 ∧ (wb_X5_rest_56 (qs_I S14_ 1016 a0 (-1 : Int32)) Q))))))))))))))))
set_option maxHeartbeats 4000000 in
set_option maxRecDepth 100000 in
theorem cb_X5_rest_26 {p : Program} {l : Launch} {e : Env} {s : State} {m : MethodId} {args : Array Value} {below : List Frame} {meth : Method} {c : Code} {D : va_G} {cy : Nat → ClassId} {lo : Nat}  {S : q_S} {a0 : Nat} {r1 : Option Nat} {Q : Option Value → q_S → Prop} {H : Heap} {locs : List Loc} {ls : Array Slot} (X : q_X p s m args meth c RX5 cX5_rest 3 none D cy lo)  (Y : q_Y D cy lo s S H locs) (hl : lv_has ls 3 [(0, .ref a0), (1, va_rf r1)]) (h : wb_X5_rest_26 S a0 r1 Q) : W p l e ({ frames := 1, cells := 0, slots := 0, locals := 21 } : Room) s m args below meth c H locs 0 0 (MQ below (q_Q D cy lo Q) args s 0 0 (fun q => lo ≤ q)) (F0 m 26 ls []) := by
  have hx := X.1
  have hb := X.2.1
  unfold wb_X5_rest_26 at h
  refine lv_aload_n hx hb dX5_rest_26 rfl (lv_at hl 0 rfl) ?_
  refine lv_aload_n hx hb dX5_rest_27 rfl (lv_at hl 0 rfl) ?_
  obtain ⟨k1_, h⟩ := h
  refine q_getI X Y kX5 16 rfl fl_X5_78 k1_ dX5_rest_28 ?_
  refine q_callV X Y hl (cm_X5_processAt h) mt_X5_processAt mi_X5_processAt ml_X5_101 (ci := 5) rfl k1_ (by decide) rfl rfl (by first | exact Nat.le_of_ble_eq_true rfl | simp [q_cat, q_catI, q_catJ, q_catR]) ⟨Nat.le_of_ble_eq_true rfl, Nat.le_of_ble_eq_true rfl⟩ ⟨Nat.le_of_ble_eq_true rfl, Nat.le_of_ble_eq_true rfl⟩ dX5_rest_31 (fun r2_ S3_ H locs hp Y => ?_)
  obtain ⟨r4_, rfl, h⟩ := hp
  refine W.eq (g2 := F0 m 34 ls [va_rf r4_]) rfl ?_
  refine q_astore_n (i := 2) (lv' := [(2, va_rf r4_), (0, .ref a0), (1, va_rf r1)]) hx hb dX5_rest_34 rfl hl (by decide) (by first | rfl | simp [q_cat, q_catI, q_catJ, q_catR]) (fun ls hl => ?_)
  refine q_aload_n hx hb dX5_rest_35 rfl (lv_at hl 2 rfl) ?_
  obtain ⟨a5_, e6_, h⟩ := h
  refine q_nn [] e6_ ?_
  obtain ⟨k7_, h⟩ := h
  refine q_getI X Y kX7 7 rfl fl_X5_98 k7_ dX5_rest_36 ?_
  refine lv_if_eq (tgt := 56) hx hb dX5_rest_39 (by decide) (fun c8_ => ?_) (fun c8_ => ?_)
  · replace h := h.1 c8_
    exact cb_X5_rest_56 X Y (lv_sub hl [] rfl) h
  · replace h := h.2 c8_
    refine q_aload_n hx hb dX5_rest_42 rfl (lv_at hl 0 rfl) ?_
    refine q_ifnull (r := r4_) (tgt := 56) hx hb dX5_rest_43 (by decide) (fun c9_ => ?_) (fun c9_ => ?_)
    · replace h := h.1 c9_
      exact cb_X5_rest_56 X Y (lv_sub hl [] rfl) h
    · replace h := h.2 c9_
      refine q_aload_n hx hb dX5_rest_46 rfl (lv_at hl 0 rfl) ?_
      refine lv_iconst (v := 0) hx hb dX5_rest_47 (by decide) ?_
      obtain ⟨a10_, e11_, h⟩ := h
      refine q_nn [.int (0 : Int32)] e11_ ?_
      obtain ⟨k12_, h⟩ := h
      refine q_callV X Y hl (cm_X7_leave h) mt_X7_leave mi_X7_leave ml_X5_136 (ci := 7) rfl k12_ (by decide) rfl rfl (by first | exact Nat.le_of_ble_eq_true rfl | simp [q_cat, q_catI, q_catJ, q_catR]) ⟨Nat.le_of_ble_eq_true rfl, Nat.le_of_ble_eq_true rfl⟩ ⟨Nat.le_of_ble_eq_true rfl, Nat.le_of_ble_eq_true rfl⟩ dX5_rest_48 (fun r13_ S14_ H locs hp Y => ?_)
      obtain ⟨rfl, h⟩ := hp
      refine W.eq (g2 := F0 m 51 ls []) rfl ?_
      refine lv_aload_n hx hb dX5_rest_51 rfl (lv_at hl 1 rfl) ?_
      refine lv_iconst (v := (-1)) hx hb dX5_rest_52 (by decide) ?_
      obtain ⟨k15_, h⟩ := h
      refine q_putI X Y kX5 16 rfl fl_X5_78 k15_ .int rfl ⟨rfl, rfl⟩ rfl dX5_rest_53 (fun H locs Y => ?_)
      exact cb_X5_rest_56 X Y (lv_sub hl [] rfl) h
def wm_X5_rest (S : q_S) (a0 : Nat) (r1 : Option Nat) (Q : Option Value → q_S → Prop) : Prop := ∃ a16_ : Nat, r1 = some a16_ ∧ (q_K S a16_ = 8 ∧ (wm_X7_leave S a16_ (0 : Int32) (fun r19_ S20_ => r19_ = none ∧ (q_K S20_ a0 = 6 ∧ (wm_X5_unlockOf S20_ a0 r1 (fun r22_ S23_ => r22_ = none ∧ (q_K S23_ a16_ = 8 ∧ (q_K S23_ a0 = 6 ∧ (((¬ (q_I S23_ 1400 a16_) = (q_I S23_ 1016 a0) → (wb_X5_rest_26 S23_ a0 r1 Q)) ∧ ((q_I S23_ 1400 a16_) = (q_I S23_ 1016 a0) → (wb_X5_rest_26 (qs_I S23_ 1016 a0 (-1 : Int32)) a0 r1 Q))))))))))))
set_option maxHeartbeats 4000000 in
set_option maxRecDepth 100000 in
theorem cm_X5_rest {l : Launch} {D : va_G} {cy : Nat → ClassId} {lo : Nat} {S : q_S} {a0 : Nat} {r1 : Option Nat} {Q : Option Value → q_S → Prop} (h : wm_X5_rest S a0 r1 Q) : q_Met l D cy lo yX5_rest cX5_rest 3 none 1 21 0 0 [.ref a0, va_rf r1] S Q := by
  refine q_body (by decide) (by first | exact Nat.le_of_ble_eq_true rfl | simp [lg_sl, q_cat, q_catI, q_catJ, q_catR]) ?_
  intro p e s m below meth c ls X hnm Y hl
  have hx := X.1
  have hb := X.2.1
  have hl : lv_has ls 3 [(0, .ref a0), (1, va_rf r1)] := by first | exact hl | simpa [lv_args, q_cat, q_catI, q_catJ, q_catR] using hl
  generalize hargs : ([.ref a0, va_rf r1] : List Value).toArray = args at X ⊢
  unfold wm_X5_rest at h
  refine q_aload_n hx hb dX5_rest_0 rfl (lv_at hl 1 rfl) ?_
  refine lv_iconst (v := 0) hx hb dX5_rest_1 (by decide) ?_
  obtain ⟨a16_, e17_, h⟩ := h
  refine q_nn [.int (0 : Int32)] e17_ ?_
  obtain ⟨k18_, h⟩ := h
  refine q_callV X Y hl (cm_X7_leave h) mt_X7_leave mi_X7_leave ml_X5_136 (ci := 7) rfl k18_ (by decide) rfl rfl (by first | exact Nat.le_of_ble_eq_true rfl | simp [q_cat, q_catI, q_catJ, q_catR]) ⟨Nat.le_of_ble_eq_true rfl, Nat.le_of_ble_eq_true rfl⟩ ⟨Nat.le_of_ble_eq_true rfl, Nat.le_of_ble_eq_true rfl⟩ dX5_rest_2 (fun r19_ S20_ H locs hp Y => ?_)
  obtain ⟨rfl, h⟩ := hp
  refine W.eq (g2 := F0 m 5 ls []) rfl ?_
  refine lv_aload_n hx hb dX5_rest_5 rfl (lv_at hl 0 rfl) ?_
  refine q_aload_n hx hb dX5_rest_6 rfl (lv_at hl 1 rfl) ?_
  obtain ⟨k21_, h⟩ := h
  refine q_callV X Y hl (cm_X5_unlockOf h) mt_X5_unlockOf mi_X5_unlockOf ml_X5_139 (ci := 5) rfl k21_ (by decide) rfl rfl (by first | exact Nat.le_of_ble_eq_true rfl | simp [q_cat, q_catI, q_catJ, q_catR]) ⟨Nat.le_of_ble_eq_true rfl, Nat.le_of_ble_eq_true rfl⟩ ⟨Nat.le_of_ble_eq_true rfl, Nat.le_of_ble_eq_true rfl⟩ dX5_rest_7 (fun r22_ S23_ H locs hp Y => ?_)
  obtain ⟨rfl, h⟩ := hp
  refine W.eq (g2 := F0 m 10 ls []) rfl ?_
  refine q_aload_n hx hb dX5_rest_10 rfl (lv_at hl 1 rfl) ?_
  refine q_nn [] e17_ ?_
  obtain ⟨k24_, h⟩ := h
  refine q_getI X Y kX7 0 rfl fl_X5_131 k24_ dX5_rest_11 ?_
  refine lv_aload_n hx hb dX5_rest_14 rfl (lv_at hl 0 rfl) ?_
  obtain ⟨k25_, h⟩ := h
  refine q_getI X Y kX5 16 rfl fl_X5_78 k25_ dX5_rest_15 ?_
  refine lv_icmp_ne (tgt := 26) hx hb dX5_rest_18 (by decide) (fun c26_ => ?_) (fun c26_ => ?_)
  · replace h := h.1 c26_
    exact cb_X5_rest_26 X Y (lv_sub hl [0, 1] rfl) h
  · replace h := h.2 c26_
    refine lv_aload_n hx hb dX5_rest_21 rfl (lv_at hl 0 rfl) ?_
    refine lv_iconst (v := (-1)) hx hb dX5_rest_22 (by decide) ?_
    refine q_putI X Y kX5 16 rfl fl_X5_78 k25_ .int rfl ⟨rfl, rfl⟩ rfl dX5_rest_23 (fun H locs Y => ?_)
    exact cb_X5_rest_26 X Y (lv_sub hl [0, 1] rfl) h
-- X0_mayNotWait
theorem fl_X0_15 : Cond.fieldLink RX0 15 "PartitionWorks$Calls" "home" "LPartitionWorks$Partition;" ∈ q_G := q_tb (i := 265) (by decide +kernel) (by decide +kernel)
theorem fl_X0_70 : Cond.fieldLink RX0 70 "PartitionWorks$Partition" "locks" "I" ∈ q_G := q_tb (i := 719) (by decide +kernel) (by decide +kernel)
theorem fl_X0_19 : Cond.fieldLink RX0 19 "PartitionWorks$Calls" "who" "LPartitionWorks$Process;" ∈ q_G := q_tb (i := 266) (by decide +kernel) (by decide +kernel)
theorem fl_X0_75 : Cond.fieldLink RX0 75 "PartitionWorks$Process" "handler" "Z" ∈ q_G := q_tb (i := 863) (by decide +kernel) (by decide +kernel)
theorem dX0_mayNotWait_0 : decode cX0_mayNotWait 0 = .ok (.aload_n 0, 1) := by decide +kernel
theorem dX0_mayNotWait_1 : decode cX0_mayNotWait 1 = .ok (.getfield 15, 3) := by decide +kernel
theorem dX0_mayNotWait_4 : decode cX0_mayNotWait 4 = .ok (.getfield 70, 3) := by decide +kernel
theorem dX0_mayNotWait_7 : decode cX0_mayNotWait 7 = .ok (.ifCond .gt 13, 3) := by decide +kernel
theorem dX0_mayNotWait_10 : decode cX0_mayNotWait 10 = .ok (.aload_n 0, 1) := by decide +kernel
theorem dX0_mayNotWait_11 : decode cX0_mayNotWait 11 = .ok (.getfield 19, 3) := by decide +kernel
theorem dX0_mayNotWait_14 : decode cX0_mayNotWait 14 = .ok (.getfield 75, 3) := by decide +kernel
theorem dX0_mayNotWait_17 : decode cX0_mayNotWait 17 = .ok (.ifCond .eq 7, 3) := by decide +kernel
theorem dX0_mayNotWait_20 : decode cX0_mayNotWait 20 = .ok (.iconst 1, 1) := by decide +kernel
theorem dX0_mayNotWait_21 : decode cX0_mayNotWait 21 = .ok (.goto 4, 3) := by decide +kernel
theorem dX0_mayNotWait_24 : decode cX0_mayNotWait 24 = .ok (.iconst 0, 1) := by decide +kernel
theorem dX0_mayNotWait_25 : decode cX0_mayNotWait 25 = .ok (.ireturn, 1) := by decide +kernel
def wb_X0_mayNotWait_25  (S : q_S) (xs0 : Int32) (Q : Option Value → q_S → Prop) : Prop := (narrow .boolean (.int xs0) = .int xs0 ∧ Q (some (.int xs0)) S)
set_option maxHeartbeats 4000000 in
set_option maxRecDepth 100000 in
theorem cb_X0_mayNotWait_25 {p : Program} {l : Launch} {e : Env} {s : State} {m : MethodId} {args : Array Value} {below : List Frame} {meth : Method} {c : Code} {D : va_G} {cy : Nat → ClassId} {lo : Nat}  {S : q_S} {xs0 : Int32} {Q : Option Value → q_S → Prop} {H : Heap} {locs : List Loc} {ls : Array Slot} (X : q_X p s m args meth c RX0 cX0_mayNotWait 1 (some .boolean) D cy lo)  (Y : q_Y D cy lo s S H locs) (hl : lv_has ls 1 []) (h : wb_X0_mayNotWait_25 S xs0 Q) : W p l e ({ frames := 0, cells := 0, slots := 0, locals := 0 } : Room) s m args below meth c H locs 0 0 (MQ below (q_Q D cy lo Q) args s 0 0 (fun q => lo ≤ q)) (F0 m 25 ls [.int xs0]) := by
  have hx := X.1
  have hb := X.2.1
  unfold wb_X0_mayNotWait_25 at h
  exact q_iret X Y h.1 (Nat.le_refl _) (Nat.le_refl _) h.2 dX0_mayNotWait_25
def wb_X0_mayNotWait_20  (S : q_S) (Q : Option Value → q_S → Prop) : Prop := wb_X0_mayNotWait_25 S (1 : Int32) Q
set_option maxHeartbeats 4000000 in
set_option maxRecDepth 100000 in
theorem cb_X0_mayNotWait_20 {p : Program} {l : Launch} {e : Env} {s : State} {m : MethodId} {args : Array Value} {below : List Frame} {meth : Method} {c : Code} {D : va_G} {cy : Nat → ClassId} {lo : Nat}  {S : q_S} {Q : Option Value → q_S → Prop} {H : Heap} {locs : List Loc} {ls : Array Slot} (X : q_X p s m args meth c RX0 cX0_mayNotWait 1 (some .boolean) D cy lo)  (Y : q_Y D cy lo s S H locs) (hl : lv_has ls 1 []) (h : wb_X0_mayNotWait_20 S Q) : W p l e ({ frames := 0, cells := 0, slots := 0, locals := 0 } : Room) s m args below meth c H locs 0 0 (MQ below (q_Q D cy lo Q) args s 0 0 (fun q => lo ≤ q)) (F0 m 20 ls []) := by
  have hx := X.1
  have hb := X.2.1
  unfold wb_X0_mayNotWait_20 at h
  refine lv_iconst (v := 1) hx hb dX0_mayNotWait_20 (by decide) ?_
  refine lv_goto (tgt := 25) hx hb dX0_mayNotWait_21 (by decide) ?_
  exact cb_X0_mayNotWait_25 X Y (lv_sub hl [] rfl) h
def wm_X0_mayNotWait (S : q_S) (a0 : Nat) (Q : Option Value → q_S → Prop) : Prop := q_K S a0 = 1 ∧ (∃ a2_ : Nat, (q_P S 1 a0) = some a2_ ∧ (q_K S a2_ = 6 ∧ (((0 < (q_I S 1013 a2_) → (wb_X0_mayNotWait_20 S Q)) ∧ (¬ 0 < (q_I S 1013 a2_) → (∃ a6_ : Nat, (q_P S 2 a0) = some a6_ ∧ (q_K S a6_ = 8 ∧ ((((q_I S 1407 a6_) = 0 → (wb_X0_mayNotWait_25 S (0 : Int32) Q)) ∧ (¬ (q_I S 1407 a6_) = 0 → (wb_X0_mayNotWait_20 S Q)))))))))))
set_option maxHeartbeats 4000000 in
set_option maxRecDepth 100000 in
theorem cm_X0_mayNotWait {l : Launch} {D : va_G} {cy : Nat → ClassId} {lo : Nat} {S : q_S} {a0 : Nat} {Q : Option Value → q_S → Prop} (h : wm_X0_mayNotWait S a0 Q) : q_Met l D cy lo yX0_mayNotWait cX0_mayNotWait 1 (some .boolean) 0 0 0 0 [.ref a0] S Q := by
  refine q_body (by decide) (by first | exact Nat.le_of_ble_eq_true rfl | simp [lg_sl, q_cat, q_catI, q_catJ, q_catR]) ?_
  intro p e s m below meth c ls X hnm Y hl
  have hx := X.1
  have hb := X.2.1
  have hl : lv_has ls 1 [(0, .ref a0)] := by first | exact hl | simpa [lv_args, q_cat, q_catI, q_catJ, q_catR] using hl
  generalize hargs : ([.ref a0] : List Value).toArray = args at X ⊢
  unfold wm_X0_mayNotWait at h
  refine lv_aload_n hx hb dX0_mayNotWait_0 rfl (lv_at hl 0 rfl) ?_
  obtain ⟨k1_, h⟩ := h
  refine q_getP X Y kX0 1 rfl fl_X0_15 k1_ rfl dX0_mayNotWait_1 ?_
  obtain ⟨a2_, e3_, h⟩ := h
  refine q_nn [] e3_ ?_
  obtain ⟨k4_, h⟩ := h
  refine q_getI X Y kX5 13 rfl fl_X0_70 k4_ dX0_mayNotWait_4 ?_
  refine lv_if_gt (tgt := 20) hx hb dX0_mayNotWait_7 (by decide) (fun c5_ => ?_) (fun c5_ => ?_)
  · replace h := h.1 c5_
    exact cb_X0_mayNotWait_20 X Y (lv_sub hl [] rfl) h
  · replace h := h.2 c5_
    refine lv_aload_n hx hb dX0_mayNotWait_10 rfl (lv_at hl 0 rfl) ?_
    refine q_getP X Y kX0 2 rfl fl_X0_19 k1_ rfl dX0_mayNotWait_11 ?_
    obtain ⟨a6_, e7_, h⟩ := h
    refine q_nn [] e7_ ?_
    obtain ⟨k8_, h⟩ := h
    refine q_getI X Y kX7 7 rfl fl_X0_75 k8_ dX0_mayNotWait_14 ?_
    refine lv_if_eq (tgt := 24) hx hb dX0_mayNotWait_17 (by decide) (fun c9_ => ?_) (fun c9_ => ?_)
    · replace h := h.1 c9_
      refine lv_iconst (v := 0) hx hb dX0_mayNotWait_24 (by decide) ?_
      exact cb_X0_mayNotWait_25 X Y (lv_sub hl [] rfl) h
    · replace h := h.2 c9_
      exact cb_X0_mayNotWait_20 X Y (lv_sub hl [] rfl) h
-- X7_setRelease
theorem fl_X7_51 : Cond.fieldLink RX7 51 "PartitionWorks$Process" "release" "I" ∈ q_G := q_tb (i := 891) (by decide +kernel) (by decide +kernel)
theorem fl_X7_26 : Cond.fieldLink RX7 26 "PartitionWorks$Process" "deadline" "I" ∈ q_G := q_tb (i := 856) (by decide +kernel) (by decide +kernel)
theorem dX7_setRelease_0 : decode cX7_setRelease 0 = .ok (.aload_n 0, 1) := by decide +kernel
theorem dX7_setRelease_1 : decode cX7_setRelease 1 = .ok (.iload_n 1, 1) := by decide +kernel
theorem dX7_setRelease_2 : decode cX7_setRelease 2 = .ok (.putfield 51, 3) := by decide +kernel
theorem dX7_setRelease_5 : decode cX7_setRelease 5 = .ok (.aload_n 0, 1) := by decide +kernel
theorem dX7_setRelease_6 : decode cX7_setRelease 6 = .ok (.aload_n 0, 1) := by decide +kernel
theorem dX7_setRelease_7 : decode cX7_setRelease 7 = .ok (.getfield 26, 3) := by decide +kernel
theorem dX7_setRelease_10 : decode cX7_setRelease 10 = .ok (.ifCond .le 15, 3) := by decide +kernel
theorem dX7_setRelease_13 : decode cX7_setRelease 13 = .ok (.aload_n 0, 1) := by decide +kernel
theorem dX7_setRelease_14 : decode cX7_setRelease 14 = .ok (.getfield 51, 3) := by decide +kernel
theorem dX7_setRelease_17 : decode cX7_setRelease 17 = .ok (.aload_n 0, 1) := by decide +kernel
theorem dX7_setRelease_18 : decode cX7_setRelease 18 = .ok (.getfield 26, 3) := by decide +kernel
theorem dX7_setRelease_21 : decode cX7_setRelease 21 = .ok (.iadd, 1) := by decide +kernel
theorem dX7_setRelease_22 : decode cX7_setRelease 22 = .ok (.goto 4, 3) := by decide +kernel
theorem dX7_setRelease_25 : decode cX7_setRelease 25 = .ok (.iconst (-1), 1) := by decide +kernel
theorem dX7_setRelease_26 : decode cX7_setRelease 26 = .ok (.putfield 61, 3) := by decide +kernel
theorem dX7_setRelease_29 : decode cX7_setRelease 29 = .ok (.return_, 1) := by decide +kernel
def wb_X7_setRelease_26  (S : q_S) (as0 : Nat) (xs1 : Int32) (Q : Option Value → q_S → Prop) : Prop := q_K S as0 = 8 ∧ (Q none (qs_I S 1412 as0 xs1))
set_option maxHeartbeats 4000000 in
set_option maxRecDepth 100000 in
theorem cb_X7_setRelease_26 {p : Program} {l : Launch} {e : Env} {s : State} {m : MethodId} {args : Array Value} {below : List Frame} {meth : Method} {c : Code} {D : va_G} {cy : Nat → ClassId} {lo : Nat}  {S : q_S} {as0 : Nat} {xs1 : Int32} {Q : Option Value → q_S → Prop} {H : Heap} {locs : List Loc} {ls : Array Slot} (X : q_X p s m args meth c RX7 cX7_setRelease 2 none D cy lo)  (Y : q_Y D cy lo s S H locs) (hl : lv_has ls 2 []) (h : wb_X7_setRelease_26 S as0 xs1 Q) : W p l e ({ frames := 0, cells := 0, slots := 0, locals := 0 } : Room) s m args below meth c H locs 0 0 (MQ below (q_Q D cy lo Q) args s 0 0 (fun q => lo ≤ q)) (F0 m 26 ls [.int xs1, .ref as0]) := by
  have hx := X.1
  have hb := X.2.1
  unfold wb_X7_setRelease_26 at h
  obtain ⟨k1_, h⟩ := h
  refine q_putI X Y kX7 12 rfl fl_X7_61 k1_ .int rfl ⟨rfl, rfl⟩ rfl dX7_setRelease_26 (fun H locs Y => ?_)
  exact q_vret X Y (Nat.le_refl _) (Nat.le_refl _) h dX7_setRelease_29
def wm_X7_setRelease (S : q_S) (a0 : Nat) (x1 : Int32) (Q : Option Value → q_S → Prop) : Prop := q_K S a0 = 8 ∧ ((((q_I (qs_I S 1415 a0 x1) 1405 a0) ≤ 0 → (wb_X7_setRelease_26 (qs_I S 1415 a0 x1) a0 (-1 : Int32) Q)) ∧ (¬ (q_I (qs_I S 1415 a0 x1) 1405 a0) ≤ 0 → (wb_X7_setRelease_26 (qs_I S 1415 a0 x1) a0 ((q_I (qs_I S 1415 a0 x1) 1415 a0) + (q_I (qs_I S 1415 a0 x1) 1405 a0)) Q))))
set_option maxHeartbeats 4000000 in
set_option maxRecDepth 100000 in
theorem cm_X7_setRelease {l : Launch} {D : va_G} {cy : Nat → ClassId} {lo : Nat} {S : q_S} {a0 : Nat} {x1 : Int32} {Q : Option Value → q_S → Prop} (h : wm_X7_setRelease S a0 x1 Q) : q_Met l D cy lo yX7_setRelease cX7_setRelease 2 none 0 0 0 0 [.ref a0, .int x1] S Q := by
  refine q_body (by decide) (by first | exact Nat.le_of_ble_eq_true rfl | simp [lg_sl, q_cat, q_catI, q_catJ, q_catR]) ?_
  intro p e s m below meth c ls X hnm Y hl
  have hx := X.1
  have hb := X.2.1
  have hl : lv_has ls 2 [(0, .ref a0), (1, .int x1)] := by first | exact hl | simpa [lv_args, q_cat, q_catI, q_catJ, q_catR] using hl
  generalize hargs : ([.ref a0, .int x1] : List Value).toArray = args at X ⊢
  unfold wm_X7_setRelease at h
  refine lv_aload_n hx hb dX7_setRelease_0 rfl (lv_at hl 0 rfl) ?_
  refine lv_iload_n hx hb dX7_setRelease_1 rfl (lv_at hl 1 rfl) ?_
  obtain ⟨k2_, h⟩ := h
  refine q_putI X Y kX7 15 rfl fl_X7_51 k2_ .int rfl ⟨rfl, rfl⟩ rfl dX7_setRelease_2 (fun H locs Y => ?_)
  refine lv_aload_n hx hb dX7_setRelease_5 rfl (lv_at hl 0 rfl) ?_
  refine lv_aload_n hx hb dX7_setRelease_6 rfl (lv_at hl 0 rfl) ?_
  refine q_getI X Y kX7 5 rfl fl_X7_26 k2_ dX7_setRelease_7 ?_
  refine lv_if_le (tgt := 25) hx hb dX7_setRelease_10 (by decide) (fun c3_ => ?_) (fun c3_ => ?_)
  · replace h := h.1 c3_
    refine lv_iconst (v := (-1)) hx hb dX7_setRelease_25 (by decide) ?_
    exact cb_X7_setRelease_26 X Y (lv_sub hl [] rfl) h
  · replace h := h.2 c3_
    refine lv_aload_n hx hb dX7_setRelease_13 rfl (lv_at hl 0 rfl) ?_
    refine q_getI X Y kX7 15 rfl fl_X7_51 k2_ dX7_setRelease_14 ?_
    refine lv_aload_n hx hb dX7_setRelease_17 rfl (lv_at hl 0 rfl) ?_
    refine q_getI X Y kX7 5 rfl fl_X7_26 k2_ dX7_setRelease_18 ?_
    refine lv_iadd hx hb dX7_setRelease_21 ?_
    refine lv_goto (tgt := 26) hx hb dX7_setRelease_22 (by decide) ?_
    exact cb_X7_setRelease_26 X Y (lv_sub hl [] rfl) h
-- X5_makeWait
theorem fl_X5_105 : Cond.fieldLink RX5 105 "PartitionWorks$Process" "state" "I" ∈ q_G := q_tb (i := 872) (by decide +kernel) (by decide +kernel)
theorem fl_X5_111 : Cond.fieldLink RX5 111 "PartitionWorks$Process" "waits" "I" ∈ q_G := q_tb (i := 901) (by decide +kernel) (by decide +kernel)
theorem fl_X5_114 : Cond.fieldLink RX5 114 "PartitionWorks$Process" "until" "I" ∈ q_G := q_tb (i := 887) (by decide +kernel) (by decide +kernel)
theorem fl_X5_75 : Cond.fieldLink RX5 75 "PartitionWorks$Partition" "lastOrder" "I" ∈ q_G := q_tb (i := 723) (by decide +kernel) (by decide +kernel)
theorem fl_X5_108 : Cond.fieldLink RX5 108 "PartitionWorks$Process" "order" "I" ∈ q_G := q_tb (i := 899) (by decide +kernel) (by decide +kernel)
theorem dX5_makeWait_0 : decode cX5_makeWait 0 = .ok (.aload_n 1, 1) := by decide +kernel
theorem dX5_makeWait_1 : decode cX5_makeWait 1 = .ok (.iconst 2, 1) := by decide +kernel
theorem dX5_makeWait_2 : decode cX5_makeWait 2 = .ok (.putfield 105, 3) := by decide +kernel
theorem dX5_makeWait_5 : decode cX5_makeWait 5 = .ok (.aload_n 1, 1) := by decide +kernel
theorem dX5_makeWait_6 : decode cX5_makeWait 6 = .ok (.iload_n 2, 1) := by decide +kernel
theorem dX5_makeWait_7 : decode cX5_makeWait 7 = .ok (.putfield 111, 3) := by decide +kernel
theorem dX5_makeWait_10 : decode cX5_makeWait 10 = .ok (.aload_n 1, 1) := by decide +kernel
theorem dX5_makeWait_11 : decode cX5_makeWait 11 = .ok (.iload_n 3, 1) := by decide +kernel
theorem dX5_makeWait_12 : decode cX5_makeWait 12 = .ok (.putfield 114, 3) := by decide +kernel
theorem dX5_makeWait_15 : decode cX5_makeWait 15 = .ok (.aload_n 0, 1) := by decide +kernel
theorem dX5_makeWait_16 : decode cX5_makeWait 16 = .ok (.dup, 1) := by decide +kernel
theorem dX5_makeWait_17 : decode cX5_makeWait 17 = .ok (.getfield 75, 3) := by decide +kernel
theorem dX5_makeWait_20 : decode cX5_makeWait 20 = .ok (.iconst 1, 1) := by decide +kernel
theorem dX5_makeWait_21 : decode cX5_makeWait 21 = .ok (.iadd, 1) := by decide +kernel
theorem dX5_makeWait_22 : decode cX5_makeWait 22 = .ok (.putfield 75, 3) := by decide +kernel
theorem dX5_makeWait_25 : decode cX5_makeWait 25 = .ok (.aload_n 1, 1) := by decide +kernel
theorem dX5_makeWait_26 : decode cX5_makeWait 26 = .ok (.aload_n 0, 1) := by decide +kernel
theorem dX5_makeWait_27 : decode cX5_makeWait 27 = .ok (.getfield 75, 3) := by decide +kernel
theorem dX5_makeWait_30 : decode cX5_makeWait 30 = .ok (.putfield 108, 3) := by decide +kernel
theorem dX5_makeWait_33 : decode cX5_makeWait 33 = .ok (.return_, 1) := by decide +kernel
def wm_X5_makeWait (S : q_S) (a0 : Nat) (r1 : Option Nat) (x2 : Int32) (x3 : Int32) (Q : Option Value → q_S → Prop) : Prop := ∃ a1_ : Nat, r1 = some a1_ ∧ (q_K S a1_ = 8 ∧ (∀ S4_ : q_S, S4_ = (qs_I (qs_I (qs_I S 1409 a1_ (2 : Int32)) 1418 a1_ x2) 1413 a1_ x3) → (q_K S4_ a0 = 6 ∧ (∀ S6_ : q_S, S6_ = (qs_I (qs_I S4_ 1015 a0 ((q_I S4_ 1015 a0) + (1 : Int32))) 1417 a1_ (q_I (qs_I S4_ 1015 a0 ((q_I S4_ 1015 a0) + (1 : Int32))) 1015 a0)) → (Q none S6_)))))
set_option maxHeartbeats 4000000 in
set_option maxRecDepth 100000 in
theorem cm_X5_makeWait {l : Launch} {D : va_G} {cy : Nat → ClassId} {lo : Nat} {S : q_S} {a0 : Nat} {r1 : Option Nat} {x2 : Int32} {x3 : Int32} {Q : Option Value → q_S → Prop} (h : wm_X5_makeWait S a0 r1 x2 x3 Q) : q_Met l D cy lo yX5_makeWait cX5_makeWait 4 none 0 0 0 0 [.ref a0, va_rf r1, .int x2, .int x3] S Q := by
  refine q_body (by decide) (by first | exact Nat.le_of_ble_eq_true rfl | simp [lg_sl, q_cat, q_catI, q_catJ, q_catR]) ?_
  intro p e s m below meth c ls X hnm Y hl
  have hx := X.1
  have hb := X.2.1
  have hl : lv_has ls 4 [(0, .ref a0), (1, va_rf r1), (2, .int x2), (3, .int x3)] := by first | exact hl | simpa [lv_args, q_cat, q_catI, q_catJ, q_catR] using hl
  generalize hargs : ([.ref a0, va_rf r1, .int x2, .int x3] : List Value).toArray = args at X ⊢
  unfold wm_X5_makeWait at h
  refine q_aload_n hx hb dX5_makeWait_0 rfl (lv_at hl 1 rfl) ?_
  refine lv_iconst (v := 2) hx hb dX5_makeWait_1 (by decide) ?_
  obtain ⟨a1_, e2_, h⟩ := h
  refine q_nn [.int (2 : Int32)] e2_ ?_
  obtain ⟨k3_, h⟩ := h
  refine q_putI X Y kX7 9 rfl fl_X5_105 k3_ .int rfl ⟨rfl, rfl⟩ rfl dX5_makeWait_2 (fun H locs Y => ?_)
  refine q_aload_n hx hb dX5_makeWait_5 rfl (lv_at hl 1 rfl) ?_
  refine lv_iload_n hx hb dX5_makeWait_6 rfl (lv_at hl 2 rfl) ?_
  refine q_nn [.int x2] e2_ ?_
  refine q_putI X Y kX7 18 rfl fl_X5_111 k3_ .int rfl ⟨rfl, rfl⟩ rfl dX5_makeWait_7 (fun H locs Y => ?_)
  refine q_aload_n hx hb dX5_makeWait_10 rfl (lv_at hl 1 rfl) ?_
  refine lv_iload_n hx hb dX5_makeWait_11 rfl (lv_at hl 3 rfl) ?_
  refine q_nn [.int x3] e2_ ?_
  refine q_putI X Y kX7 13 rfl fl_X5_114 k3_ .int rfl ⟨rfl, rfl⟩ rfl dX5_makeWait_12 (fun H locs Y => ?_)
  obtain ⟨S4_, gS4_⟩ : ∃ z : q_S, z = (qs_I (qs_I (qs_I S 1409 a1_ (2 : Int32)) 1418 a1_ x2) 1413 a1_ x3) := ⟨_, rfl⟩
  replace Y : q_Y D cy lo s S4_ H locs := by rw [gS4_]; exact Y
  replace h := h S4_ gS4_
  replace k3_ : q_K S4_ a1_ = 8 := by rw [gS4_]; exact k3_
  refine lv_aload_n hx hb dX5_makeWait_15 rfl (lv_at hl 0 rfl) ?_
  refine lv_dup hx hb dX5_makeWait_16 rfl ?_
  obtain ⟨k5_, h⟩ := h
  refine q_getI X Y kX5 15 rfl fl_X5_75 k5_ dX5_makeWait_17 ?_
  refine lv_iconst (v := 1) hx hb dX5_makeWait_20 (by decide) ?_
  refine lv_iadd hx hb dX5_makeWait_21 ?_
  refine q_putI X Y kX5 15 rfl fl_X5_75 k5_ .int rfl ⟨rfl, rfl⟩ rfl dX5_makeWait_22 (fun H locs Y => ?_)
  refine q_aload_n hx hb dX5_makeWait_25 rfl (lv_at hl 1 rfl) ?_
  refine lv_aload_n hx hb dX5_makeWait_26 rfl (lv_at hl 0 rfl) ?_
  refine q_getI X Y kX5 15 rfl fl_X5_75 k5_ dX5_makeWait_27 ?_
  refine q_nn [.int (q_I (qs_I S4_ 1015 a0 ((q_I S4_ 1015 a0) + (1 : Int32))) 1015 a0)] e2_ ?_
  refine q_putI X Y kX7 17 rfl fl_X5_108 k3_ .int rfl ⟨rfl, rfl⟩ rfl dX5_makeWait_30 (fun H locs Y => ?_)
  obtain ⟨S6_, gS6_⟩ : ∃ z : q_S, z = (qs_I (qs_I S4_ 1015 a0 ((q_I S4_ 1015 a0) + (1 : Int32))) 1417 a1_ (q_I (qs_I S4_ 1015 a0 ((q_I S4_ 1015 a0) + (1 : Int32))) 1015 a0)) := ⟨_, rfl⟩
  replace Y : q_Y D cy lo s S6_ H locs := by rw [gS6_]; exact Y
  replace h := h S6_ gS6_
  replace k3_ : q_K S6_ a1_ = 8 := by rw [gS6_]; exact k3_
  replace k5_ : q_K S6_ a0 = 6 := by rw [gS6_]; exact k5_
  exact q_vret X Y (Nat.le_refl _) (Nat.le_refl _) h dX5_makeWait_33
-- X0_waitUntil
theorem ml_X0_79 : Cond.methodLink RX0 79 yX0_mayNotWait ∈ q_G := q_tb (i := 1529) (by decide +kernel) (by decide +kernel)
theorem mt_X0_mayNotWait : q_Mt yX0_mayNotWait cX0_mayNotWait 1 (some .boolean) 0 := ⟨q_tb (i := 1532) (by decide +kernel) (by decide +kernel), q_tb (i := 10) (by decide +kernel) (by decide +kernel), by decide +kernel, by decide +kernel, by decide +kernel⟩
theorem mi_X0_mayNotWait : Cond.instanceMethod yX0_mayNotWait ∈ q_G ∧ Cond.selects yX0_mayNotWait.cls yX0_mayNotWait yX0_mayNotWait ∈ q_G := ⟨q_tb (i := 1531) (by decide +kernel) (by decide +kernel), q_tp (i := 53) (q := (yX0_mayNotWait, 5)) (by decide +kernel) (by decide +kernel)⟩
theorem ml_X0_83 : Cond.methodLink RX0 83 yX5_makeWait ∈ q_G := q_tb (i := 1538) (by decide +kernel) (by decide +kernel)
theorem mt_X5_makeWait : q_Mt yX5_makeWait cX5_makeWait 4 none 3 := ⟨q_tb (i := 1336) (by decide +kernel) (by decide +kernel), q_tb (i := 20) (by decide +kernel) (by decide +kernel), by decide +kernel, by decide +kernel, by decide +kernel⟩
theorem mi_X5_makeWait : Cond.instanceMethod yX5_makeWait ∈ q_G ∧ Cond.selects yX5_makeWait.cls yX5_makeWait yX5_makeWait ∈ q_G := ⟨q_tb (i := 1334) (by decide +kernel) (by decide +kernel), q_tb (i := 1335) (by decide +kernel) (by decide +kernel)⟩
theorem dX0_waitUntil_0 : decode cX0_waitUntil 0 = .ok (.aload_n 0, 1) := by decide +kernel
theorem dX0_waitUntil_1 : decode cX0_waitUntil 1 = .ok (.invokevirtual 79, 3) := by decide +kernel
theorem dX0_waitUntil_4 : decode cX0_waitUntil 4 = .ok (.ifCond .eq 5, 3) := by decide +kernel
theorem dX0_waitUntil_7 : decode cX0_waitUntil 7 = .ok (.iconst 3, 1) := by decide +kernel
theorem dX0_waitUntil_8 : decode cX0_waitUntil 8 = .ok (.ireturn, 1) := by decide +kernel
theorem dX0_waitUntil_9 : decode cX0_waitUntil 9 = .ok (.aload_n 0, 1) := by decide +kernel
theorem dX0_waitUntil_10 : decode cX0_waitUntil 10 = .ok (.getfield 15, 3) := by decide +kernel
theorem dX0_waitUntil_13 : decode cX0_waitUntil 13 = .ok (.aload_n 0, 1) := by decide +kernel
theorem dX0_waitUntil_14 : decode cX0_waitUntil 14 = .ok (.getfield 19, 3) := by decide +kernel
theorem dX0_waitUntil_17 : decode cX0_waitUntil 17 = .ok (.sipush 128, 3) := by decide +kernel
theorem dX0_waitUntil_20 : decode cX0_waitUntil 20 = .ok (.iload_n 1, 1) := by decide +kernel
theorem dX0_waitUntil_21 : decode cX0_waitUntil 21 = .ok (.invokevirtual 83, 3) := by decide +kernel
theorem dX0_waitUntil_24 : decode cX0_waitUntil 24 = .ok (.iconst 0, 1) := by decide +kernel
theorem dX0_waitUntil_25 : decode cX0_waitUntil 25 = .ok (.ireturn, 1) := by decide +kernel
def wm_X0_waitUntil (S : q_S) (a0 : Nat) (x1 : Int32) (Q : Option Value → q_S → Prop) : Prop := q_K S a0 = 1 ∧ (wm_X0_mayNotWait S a0 (fun r2_ S3_ => ∃ x4_ : Int32, r2_ = some (.int x4_) ∧ (((x4_ = 0 → (q_K S3_ a0 = 1 ∧ (∃ a7_ : Nat, (q_P S3_ 1 a0) = some a7_ ∧ (q_K S3_ a7_ = 6 ∧ (wm_X5_makeWait S3_ a7_ (q_P S3_ 2 a0) (128 : Int32) x1 (fun r10_ S11_ => r10_ = none ∧ (Q (some (.int (0 : Int32))) S11_))))))) ∧ (¬ x4_ = 0 → (Q (some (.int (3 : Int32))) S3_))))))
set_option maxHeartbeats 4000000 in
set_option maxRecDepth 100000 in
theorem cm_X0_waitUntil {l : Launch} {D : va_G} {cy : Nat → ClassId} {lo : Nat} {S : q_S} {a0 : Nat} {x1 : Int32} {Q : Option Value → q_S → Prop} (h : wm_X0_waitUntil S a0 x1 Q) : q_Met l D cy lo yX0_waitUntil cX0_waitUntil 2 (some .int) 1 23 0 0 [.ref a0, .int x1] S Q := by
  refine q_body (by decide) (by first | exact Nat.le_of_ble_eq_true rfl | simp [lg_sl, q_cat, q_catI, q_catJ, q_catR]) ?_
  intro p e s m below meth c ls X hnm Y hl
  have hx := X.1
  have hb := X.2.1
  have hl : lv_has ls 2 [(0, .ref a0), (1, .int x1)] := by first | exact hl | simpa [lv_args, q_cat, q_catI, q_catJ, q_catR] using hl
  generalize hargs : ([.ref a0, .int x1] : List Value).toArray = args at X ⊢
  unfold wm_X0_waitUntil at h
  refine lv_aload_n hx hb dX0_waitUntil_0 rfl (lv_at hl 0 rfl) ?_
  obtain ⟨k1_, h⟩ := h
  refine q_callV X Y hl (cm_X0_mayNotWait h) mt_X0_mayNotWait mi_X0_mayNotWait ml_X0_79 (ci := 0) rfl k1_ (by decide) rfl rfl (by first | exact Nat.le_of_ble_eq_true rfl | simp [q_cat, q_catI, q_catJ, q_catR]) ⟨Nat.le_of_ble_eq_true rfl, Nat.le_of_ble_eq_true rfl⟩ ⟨Nat.le_of_ble_eq_true rfl, Nat.le_of_ble_eq_true rfl⟩ dX0_waitUntil_1 (fun r2_ S3_ H locs hp Y => ?_)
  obtain ⟨x4_, rfl, h⟩ := hp
  refine W.eq (g2 := F0 m 4 ls [.int x4_]) rfl ?_
  refine lv_if_eq (tgt := 9) hx hb dX0_waitUntil_4 (by decide) (fun c5_ => ?_) (fun c5_ => ?_)
  · replace h := h.1 c5_
    refine lv_aload_n hx hb dX0_waitUntil_9 rfl (lv_at hl 0 rfl) ?_
    obtain ⟨k6_, h⟩ := h
    refine q_getP X Y kX0 1 rfl fl_X0_15 k6_ rfl dX0_waitUntil_10 ?_
    refine lv_aload_n hx hb dX0_waitUntil_13 rfl (lv_at hl 0 rfl) ?_
    refine q_getP X Y kX0 2 rfl fl_X0_19 k6_ rfl dX0_waitUntil_14 ?_
    refine lv_sipush (v := 128) hx hb dX0_waitUntil_17 (by decide) ?_
    refine lv_iload_n hx hb dX0_waitUntil_20 rfl (lv_at hl 1 rfl) ?_
    obtain ⟨a7_, e8_, h⟩ := h
    refine q_nn [.int x1, .int (128 : Int32), va_rf (q_P S3_ 2 a0)] e8_ ?_
    obtain ⟨k9_, h⟩ := h
    refine q_callV X Y hl (cm_X5_makeWait h) mt_X5_makeWait mi_X5_makeWait ml_X0_83 (ci := 5) rfl k9_ (by decide) rfl rfl (by first | exact Nat.le_of_ble_eq_true rfl | simp [q_cat, q_catI, q_catJ, q_catR]) ⟨Nat.le_of_ble_eq_true rfl, Nat.le_of_ble_eq_true rfl⟩ ⟨Nat.le_of_ble_eq_true rfl, Nat.le_of_ble_eq_true rfl⟩ dX0_waitUntil_21 (fun r10_ S11_ H locs hp Y => ?_)
    obtain ⟨rfl, h⟩ := hp
    refine W.eq (g2 := F0 m 24 ls []) rfl ?_
    refine lv_iconst (v := 0) hx hb dX0_waitUntil_24 (by decide) ?_
    exact q_iret X Y rfl (Nat.le_refl _) (Nat.le_refl _) h dX0_waitUntil_25
  · replace h := h.2 c5_
    refine lv_iconst (v := 3) hx hb dX0_waitUntil_7 (by decide) ?_
    exact q_iret X Y rfl (Nat.le_refl _) (Nat.le_refl _) h dX0_waitUntil_8
-- X0_waitForPeriod
theorem fl_X0_121 : Cond.fieldLink RX0 121 "PartitionWorks$Process" "period" "I" ∈ q_G := q_tb (i := 854) (by decide +kernel) (by decide +kernel)
theorem fl_X0_124 : Cond.fieldLink RX0 124 "PartitionWorks$Process" "release" "I" ∈ q_G := q_tb (i := 892) (by decide +kernel) (by decide +kernel)
theorem ml_X0_127 : Cond.methodLink RX0 127 yX7_setRelease ∈ q_G := q_tb (i := 1533) (by decide +kernel) (by decide +kernel)
theorem mt_X7_setRelease : q_Mt yX7_setRelease cX7_setRelease 2 none 1 := ⟨q_tb (i := 1332) (by decide +kernel) (by decide +kernel), q_tb (i := 22) (by decide +kernel) (by decide +kernel), by decide +kernel, by decide +kernel, by decide +kernel⟩
theorem mi_X7_setRelease : Cond.instanceMethod yX7_setRelease ∈ q_G ∧ Cond.selects yX7_setRelease.cls yX7_setRelease yX7_setRelease ∈ q_G := ⟨q_tb (i := 1330) (by decide +kernel) (by decide +kernel), q_tb (i := 1331) (by decide +kernel) (by decide +kernel)⟩
theorem ml_X0_105 : Cond.methodLink RX0 105 yX0_waitUntil ∈ q_G := q_tb (i := 1534) (by decide +kernel) (by decide +kernel)
theorem mt_X0_waitUntil : q_Mt yX0_waitUntil cX0_waitUntil 2 (some .int) 1 := ⟨q_tb (i := 1537) (by decide +kernel) (by decide +kernel), q_tb (i := 10) (by decide +kernel) (by decide +kernel), by decide +kernel, by decide +kernel, by decide +kernel⟩
theorem mi_X0_waitUntil : Cond.instanceMethod yX0_waitUntil ∈ q_G ∧ Cond.selects yX0_waitUntil.cls yX0_waitUntil yX0_waitUntil ∈ q_G := ⟨q_tb (i := 1536) (by decide +kernel) (by decide +kernel), q_tp (i := 54) (q := (yX0_waitUntil, 5)) (by decide +kernel) (by decide +kernel)⟩
theorem dX0_waitForPeriod_0 : decode cX0_waitForPeriod 0 = .ok (.aload_n 0, 1) := by decide +kernel
theorem dX0_waitForPeriod_1 : decode cX0_waitForPeriod 1 = .ok (.getfield 19, 3) := by decide +kernel
theorem dX0_waitForPeriod_4 : decode cX0_waitForPeriod 4 = .ok (.getfield 121, 3) := by decide +kernel
theorem dX0_waitForPeriod_7 : decode cX0_waitForPeriod 7 = .ok (.ifCond .eq 10, 3) := by decide +kernel
theorem dX0_waitForPeriod_10 : decode cX0_waitForPeriod 10 = .ok (.aload_n 0, 1) := by decide +kernel
theorem dX0_waitForPeriod_11 : decode cX0_waitForPeriod 11 = .ok (.invokevirtual 79, 3) := by decide +kernel
theorem dX0_waitForPeriod_14 : decode cX0_waitForPeriod 14 = .ok (.ifCond .eq 5, 3) := by decide +kernel
theorem dX0_waitForPeriod_17 : decode cX0_waitForPeriod 17 = .ok (.iconst 3, 1) := by decide +kernel
theorem dX0_waitForPeriod_18 : decode cX0_waitForPeriod 18 = .ok (.ireturn, 1) := by decide +kernel
theorem dX0_waitForPeriod_19 : decode cX0_waitForPeriod 19 = .ok (.aload_n 0, 1) := by decide +kernel
theorem dX0_waitForPeriod_20 : decode cX0_waitForPeriod 20 = .ok (.getfield 19, 3) := by decide +kernel
theorem dX0_waitForPeriod_23 : decode cX0_waitForPeriod 23 = .ok (.aload_n 0, 1) := by decide +kernel
theorem dX0_waitForPeriod_24 : decode cX0_waitForPeriod 24 = .ok (.getfield 19, 3) := by decide +kernel
theorem dX0_waitForPeriod_27 : decode cX0_waitForPeriod 27 = .ok (.getfield 124, 3) := by decide +kernel
theorem dX0_waitForPeriod_30 : decode cX0_waitForPeriod 30 = .ok (.aload_n 0, 1) := by decide +kernel
theorem dX0_waitForPeriod_31 : decode cX0_waitForPeriod 31 = .ok (.getfield 19, 3) := by decide +kernel
theorem dX0_waitForPeriod_34 : decode cX0_waitForPeriod 34 = .ok (.getfield 121, 3) := by decide +kernel
theorem dX0_waitForPeriod_37 : decode cX0_waitForPeriod 37 = .ok (.iadd, 1) := by decide +kernel
theorem dX0_waitForPeriod_38 : decode cX0_waitForPeriod 38 = .ok (.invokevirtual 127, 3) := by decide +kernel
theorem dX0_waitForPeriod_41 : decode cX0_waitForPeriod 41 = .ok (.aload_n 0, 1) := by decide +kernel
theorem dX0_waitForPeriod_42 : decode cX0_waitForPeriod 42 = .ok (.aload_n 0, 1) := by decide +kernel
theorem dX0_waitForPeriod_43 : decode cX0_waitForPeriod 43 = .ok (.getfield 19, 3) := by decide +kernel
theorem dX0_waitForPeriod_46 : decode cX0_waitForPeriod 46 = .ok (.getfield 124, 3) := by decide +kernel
theorem dX0_waitForPeriod_49 : decode cX0_waitForPeriod 49 = .ok (.invokevirtual 105, 3) := by decide +kernel
theorem dX0_waitForPeriod_52 : decode cX0_waitForPeriod 52 = .ok (.ireturn, 1) := by decide +kernel
def wb_X0_waitForPeriod_17  (S : q_S) (Q : Option Value → q_S → Prop) : Prop := Q (some (.int (3 : Int32))) S
set_option maxHeartbeats 4000000 in
set_option maxRecDepth 100000 in
theorem cb_X0_waitForPeriod_17 {p : Program} {l : Launch} {e : Env} {s : State} {m : MethodId} {args : Array Value} {below : List Frame} {meth : Method} {c : Code} {D : va_G} {cy : Nat → ClassId} {lo : Nat}  {S : q_S} {Q : Option Value → q_S → Prop} {H : Heap} {locs : List Loc} {ls : Array Slot} (X : q_X p s m args meth c RX0 cX0_waitForPeriod 1 (some .int) D cy lo)  (Y : q_Y D cy lo s S H locs) (hl : lv_has ls 1 []) (h : wb_X0_waitForPeriod_17 S Q) : W p l e ({ frames := 2, cells := 0, slots := 0, locals := 44 } : Room) s m args below meth c H locs 0 0 (MQ below (q_Q D cy lo Q) args s 0 0 (fun q => lo ≤ q)) (F0 m 17 ls []) := by
  have hx := X.1
  have hb := X.2.1
  unfold wb_X0_waitForPeriod_17 at h
  refine lv_iconst (v := 3) hx hb dX0_waitForPeriod_17 (by decide) ?_
  exact q_iret X Y rfl (Nat.le_refl _) (Nat.le_refl _) h dX0_waitForPeriod_18
def wm_X0_waitForPeriod (S : q_S) (a0 : Nat) (Q : Option Value → q_S → Prop) : Prop := q_K S a0 = 1 ∧ (∃ a2_ : Nat, (q_P S 2 a0) = some a2_ ∧ (q_K S a2_ = 8 ∧ ((((q_I S 1404 a2_) = 0 → (wb_X0_waitForPeriod_17 S Q)) ∧ (¬ (q_I S 1404 a2_) = 0 → (wm_X0_mayNotWait S a0 (fun r6_ S7_ => ∃ x8_ : Int32, r6_ = some (.int x8_) ∧ (((x8_ = 0 → (q_K S7_ a0 = 1 ∧ (∃ a11_ : Nat, (q_P S7_ 2 a0) = some a11_ ∧ (q_K S7_ a11_ = 8 ∧ (wm_X7_setRelease S7_ a11_ ((q_I S7_ 1415 a11_) + (q_I S7_ 1404 a11_)) (fun r14_ S15_ => r14_ = none ∧ (q_K S15_ a0 = 1 ∧ (∃ a17_ : Nat, (q_P S15_ 2 a0) = some a17_ ∧ (q_K S15_ a17_ = 8 ∧ (wm_X0_waitUntil S15_ a0 (q_I S15_ 1415 a17_) (fun r20_ S21_ => ∃ x22_ : Int32, r20_ = some (.int x22_) ∧ (Q (some (.int x22_)) S21_)))))))))))) ∧ (¬ x8_ = 0 → (wb_X0_waitForPeriod_17 S7_ Q)))))))))))
set_option maxHeartbeats 4000000 in
set_option maxRecDepth 100000 in
theorem cm_X0_waitForPeriod {l : Launch} {D : va_G} {cy : Nat → ClassId} {lo : Nat} {S : q_S} {a0 : Nat} {Q : Option Value → q_S → Prop} (h : wm_X0_waitForPeriod S a0 Q) : q_Met l D cy lo yX0_waitForPeriod cX0_waitForPeriod 1 (some .int) 2 44 0 0 [.ref a0] S Q := by
  refine q_body (by decide) (by first | exact Nat.le_of_ble_eq_true rfl | simp [lg_sl, q_cat, q_catI, q_catJ, q_catR]) ?_
  intro p e s m below meth c ls X hnm Y hl
  have hx := X.1
  have hb := X.2.1
  have hl : lv_has ls 1 [(0, .ref a0)] := by first | exact hl | simpa [lv_args, q_cat, q_catI, q_catJ, q_catR] using hl
  generalize hargs : ([.ref a0] : List Value).toArray = args at X ⊢
  unfold wm_X0_waitForPeriod at h
  refine lv_aload_n hx hb dX0_waitForPeriod_0 rfl (lv_at hl 0 rfl) ?_
  obtain ⟨k1_, h⟩ := h
  refine q_getP X Y kX0 2 rfl fl_X0_19 k1_ rfl dX0_waitForPeriod_1 ?_
  obtain ⟨a2_, e3_, h⟩ := h
  refine q_nn [] e3_ ?_
  obtain ⟨k4_, h⟩ := h
  refine q_getI X Y kX7 4 rfl fl_X0_121 k4_ dX0_waitForPeriod_4 ?_
  refine lv_if_eq (tgt := 17) hx hb dX0_waitForPeriod_7 (by decide) (fun c5_ => ?_) (fun c5_ => ?_)
  · replace h := h.1 c5_
    exact cb_X0_waitForPeriod_17 X Y (lv_sub hl [] rfl) h
  · replace h := h.2 c5_
    refine lv_aload_n hx hb dX0_waitForPeriod_10 rfl (lv_at hl 0 rfl) ?_
    refine q_callV X Y hl (cm_X0_mayNotWait h) mt_X0_mayNotWait mi_X0_mayNotWait ml_X0_79 (ci := 0) rfl k1_ (by decide) rfl rfl (by first | exact Nat.le_of_ble_eq_true rfl | simp [q_cat, q_catI, q_catJ, q_catR]) ⟨Nat.le_of_ble_eq_true rfl, Nat.le_of_ble_eq_true rfl⟩ ⟨Nat.le_of_ble_eq_true rfl, Nat.le_of_ble_eq_true rfl⟩ dX0_waitForPeriod_11 (fun r6_ S7_ H locs hp Y => ?_)
    obtain ⟨x8_, rfl, h⟩ := hp
    refine W.eq (g2 := F0 m 14 ls [.int x8_]) rfl ?_
    refine lv_if_eq (tgt := 19) hx hb dX0_waitForPeriod_14 (by decide) (fun c9_ => ?_) (fun c9_ => ?_)
    · replace h := h.1 c9_
      refine lv_aload_n hx hb dX0_waitForPeriod_19 rfl (lv_at hl 0 rfl) ?_
      obtain ⟨k10_, h⟩ := h
      refine q_getP X Y kX0 2 rfl fl_X0_19 k10_ rfl dX0_waitForPeriod_20 ?_
      refine lv_aload_n hx hb dX0_waitForPeriod_23 rfl (lv_at hl 0 rfl) ?_
      refine q_getP X Y kX0 2 rfl fl_X0_19 k10_ rfl dX0_waitForPeriod_24 ?_
      obtain ⟨a11_, e12_, h⟩ := h
      refine q_nn [] e12_ ?_
      obtain ⟨k13_, h⟩ := h
      refine q_getI X Y kX7 15 rfl fl_X0_124 k13_ dX0_waitForPeriod_27 ?_
      refine lv_aload_n hx hb dX0_waitForPeriod_30 rfl (lv_at hl 0 rfl) ?_
      refine q_getR X Y kX0 2 rfl fl_X0_19 k10_ e12_ dX0_waitForPeriod_31 ?_
      refine q_getI X Y kX7 4 rfl fl_X0_121 k13_ dX0_waitForPeriod_34 ?_
      refine lv_iadd hx hb dX0_waitForPeriod_37 ?_
      refine q_nn [.int ((q_I S7_ 1415 a11_) + (q_I S7_ 1404 a11_))] e12_ ?_
      refine q_callV X Y hl (cm_X7_setRelease h) mt_X7_setRelease mi_X7_setRelease ml_X0_127 (ci := 7) rfl k13_ (by decide) rfl rfl (by first | exact Nat.le_of_ble_eq_true rfl | simp [q_cat, q_catI, q_catJ, q_catR]) ⟨Nat.le_of_ble_eq_true rfl, Nat.le_of_ble_eq_true rfl⟩ ⟨Nat.le_of_ble_eq_true rfl, Nat.le_of_ble_eq_true rfl⟩ dX0_waitForPeriod_38 (fun r14_ S15_ H locs hp Y => ?_)
      obtain ⟨rfl, h⟩ := hp
      refine W.eq (g2 := F0 m 41 ls []) rfl ?_
      refine lv_aload_n hx hb dX0_waitForPeriod_41 rfl (lv_at hl 0 rfl) ?_
      refine lv_aload_n hx hb dX0_waitForPeriod_42 rfl (lv_at hl 0 rfl) ?_
      obtain ⟨k16_, h⟩ := h
      refine q_getP X Y kX0 2 rfl fl_X0_19 k16_ rfl dX0_waitForPeriod_43 ?_
      obtain ⟨a17_, e18_, h⟩ := h
      refine q_nn [] e18_ ?_
      obtain ⟨k19_, h⟩ := h
      refine q_getI X Y kX7 15 rfl fl_X0_124 k19_ dX0_waitForPeriod_46 ?_
      refine q_callV X Y hl (cm_X0_waitUntil h) mt_X0_waitUntil mi_X0_waitUntil ml_X0_105 (ci := 0) rfl k16_ (by decide) rfl rfl (by first | exact Nat.le_of_ble_eq_true rfl | simp [q_cat, q_catI, q_catJ, q_catR]) ⟨Nat.le_of_ble_eq_true rfl, Nat.le_of_ble_eq_true rfl⟩ ⟨Nat.le_of_ble_eq_true rfl, Nat.le_of_ble_eq_true rfl⟩ dX0_waitForPeriod_49 (fun r20_ S21_ H locs hp Y => ?_)
      obtain ⟨x22_, rfl, h⟩ := hp
      refine W.eq (g2 := F0 m 52 ls [.int x22_]) rfl ?_
      exact q_iret X Y rfl (Nat.le_refl _) (Nat.le_refl _) h dX0_waitForPeriod_52
    · replace h := h.2 c9_
      exact cb_X0_waitForPeriod_17 X Y (lv_sub hl [] rfl) h
-- X0_isNoDelay
theorem co_X0_69 : Cond.constant RX0 69 (100000) ∈ q_G := q_tb (i := 1543) (by decide +kernel) (by decide +kernel)
theorem dX0_isNoDelay_0 : decode cX0_isNoDelay 0 = .ok (.iload_n 1, 1) := by decide +kernel
theorem dX0_isNoDelay_1 : decode cX0_isNoDelay 1 = .ok (.iconst 1, 1) := by decide +kernel
theorem dX0_isNoDelay_2 : decode cX0_isNoDelay 2 = .ok (.if_icmp .lt 9, 3) := by decide +kernel
theorem dX0_isNoDelay_5 : decode cX0_isNoDelay 5 = .ok (.iload_n 1, 1) := by decide +kernel
theorem dX0_isNoDelay_6 : decode cX0_isNoDelay 6 = .ok (.ldc 69, 2) := by decide +kernel
theorem dX0_isNoDelay_8 : decode cX0_isNoDelay 8 = .ok (.if_icmp .le 7, 3) := by decide +kernel
theorem dX0_isNoDelay_11 : decode cX0_isNoDelay 11 = .ok (.iconst 1, 1) := by decide +kernel
theorem dX0_isNoDelay_12 : decode cX0_isNoDelay 12 = .ok (.goto 4, 3) := by decide +kernel
theorem dX0_isNoDelay_15 : decode cX0_isNoDelay 15 = .ok (.iconst 0, 1) := by decide +kernel
theorem dX0_isNoDelay_16 : decode cX0_isNoDelay 16 = .ok (.ireturn, 1) := by decide +kernel
def wb_X0_isNoDelay_16  (S : q_S) (xs0 : Int32) (Q : Option Value → q_S → Prop) : Prop := (narrow .boolean (.int xs0) = .int xs0 ∧ Q (some (.int xs0)) S)
set_option maxHeartbeats 4000000 in
set_option maxRecDepth 100000 in
theorem cb_X0_isNoDelay_16 {p : Program} {l : Launch} {e : Env} {s : State} {m : MethodId} {args : Array Value} {below : List Frame} {meth : Method} {c : Code} {D : va_G} {cy : Nat → ClassId} {lo : Nat}  {S : q_S} {xs0 : Int32} {Q : Option Value → q_S → Prop} {H : Heap} {locs : List Loc} {ls : Array Slot} (X : q_X p s m args meth c RX0 cX0_isNoDelay 2 (some .boolean) D cy lo)  (Y : q_Y D cy lo s S H locs) (hl : lv_has ls 2 []) (h : wb_X0_isNoDelay_16 S xs0 Q) : W p l e ({ frames := 0, cells := 0, slots := 0, locals := 0 } : Room) s m args below meth c H locs 0 0 (MQ below (q_Q D cy lo Q) args s 0 0 (fun q => lo ≤ q)) (F0 m 16 ls [.int xs0]) := by
  have hx := X.1
  have hb := X.2.1
  unfold wb_X0_isNoDelay_16 at h
  exact q_iret X Y h.1 (Nat.le_refl _) (Nat.le_refl _) h.2 dX0_isNoDelay_16
def wb_X0_isNoDelay_11  (S : q_S) (Q : Option Value → q_S → Prop) : Prop := wb_X0_isNoDelay_16 S (1 : Int32) Q
set_option maxHeartbeats 4000000 in
set_option maxRecDepth 100000 in
theorem cb_X0_isNoDelay_11 {p : Program} {l : Launch} {e : Env} {s : State} {m : MethodId} {args : Array Value} {below : List Frame} {meth : Method} {c : Code} {D : va_G} {cy : Nat → ClassId} {lo : Nat}  {S : q_S} {Q : Option Value → q_S → Prop} {H : Heap} {locs : List Loc} {ls : Array Slot} (X : q_X p s m args meth c RX0 cX0_isNoDelay 2 (some .boolean) D cy lo)  (Y : q_Y D cy lo s S H locs) (hl : lv_has ls 2 []) (h : wb_X0_isNoDelay_11 S Q) : W p l e ({ frames := 0, cells := 0, slots := 0, locals := 0 } : Room) s m args below meth c H locs 0 0 (MQ below (q_Q D cy lo Q) args s 0 0 (fun q => lo ≤ q)) (F0 m 11 ls []) := by
  have hx := X.1
  have hb := X.2.1
  unfold wb_X0_isNoDelay_11 at h
  refine lv_iconst (v := 1) hx hb dX0_isNoDelay_11 (by decide) ?_
  refine lv_goto (tgt := 16) hx hb dX0_isNoDelay_12 (by decide) ?_
  exact cb_X0_isNoDelay_16 X Y (lv_sub hl [] rfl) h
def wm_X0_isNoDelay (S : q_S) (a0 : Nat) (x1 : Int32) (Q : Option Value → q_S → Prop) : Prop := ((x1 < (1 : Int32) → (wb_X0_isNoDelay_11 S Q)) ∧ (¬ x1 < (1 : Int32) → (((x1 ≤ (100000 : Int32) → (wb_X0_isNoDelay_16 S (0 : Int32) Q)) ∧ (¬ x1 ≤ (100000 : Int32) → (wb_X0_isNoDelay_11 S Q))))))
set_option maxHeartbeats 4000000 in
set_option maxRecDepth 100000 in
theorem cm_X0_isNoDelay {l : Launch} {D : va_G} {cy : Nat → ClassId} {lo : Nat} {S : q_S} {a0 : Nat} {x1 : Int32} {Q : Option Value → q_S → Prop} (h : wm_X0_isNoDelay S a0 x1 Q) : q_Met l D cy lo yX0_isNoDelay cX0_isNoDelay 2 (some .boolean) 0 0 0 0 [.ref a0, .int x1] S Q := by
  refine q_body (by decide) (by first | exact Nat.le_of_ble_eq_true rfl | simp [lg_sl, q_cat, q_catI, q_catJ, q_catR]) ?_
  intro p e s m below meth c ls X hnm Y hl
  have hx := X.1
  have hb := X.2.1
  have hl : lv_has ls 2 [(0, .ref a0), (1, .int x1)] := by first | exact hl | simpa [lv_args, q_cat, q_catI, q_catJ, q_catR] using hl
  generalize hargs : ([.ref a0, .int x1] : List Value).toArray = args at X ⊢
  unfold wm_X0_isNoDelay at h
  refine lv_iload_n hx hb dX0_isNoDelay_0 rfl (lv_at hl 1 rfl) ?_
  refine lv_iconst (v := 1) hx hb dX0_isNoDelay_1 (by decide) ?_
  refine lv_icmp_lt (tgt := 11) hx hb dX0_isNoDelay_2 (by decide) (fun c1_ => ?_) (fun c1_ => ?_)
  · replace h := h.1 c1_
    exact cb_X0_isNoDelay_11 X Y (lv_sub hl [] rfl) h
  · replace h := h.2 c1_
    refine lv_iload_n hx hb dX0_isNoDelay_5 rfl (lv_at hl 1 rfl) ?_
    refine lv_ldc (v := 100000) hx hb X.2.2.2.1 (X.2.2.2.2.1 _ co_X0_69) dX0_isNoDelay_6 ?_
    refine lv_icmp_le (tgt := 15) hx hb dX0_isNoDelay_8 (by decide) (fun c2_ => ?_) (fun c2_ => ?_)
    · replace h := h.1 c2_
      refine lv_iconst (v := 0) hx hb dX0_isNoDelay_15 (by decide) ?_
      exact cb_X0_isNoDelay_16 X Y (lv_sub hl [] rfl) h
    · replace h := h.2 c2_
      exact cb_X0_isNoDelay_11 X Y (lv_sub hl [] rfl) h
-- J7_fill_53178
theorem dJ7_fill_53178_0 : decode cJ7_fill_53178 0 = .ok (.iconst 0, 1) := by decide +kernel
theorem dJ7_fill_53178_1 : decode cJ7_fill_53178 1 = .ok (.istore_n 2, 1) := by decide +kernel
theorem dJ7_fill_53178_2 : decode cJ7_fill_53178 2 = .ok (.aload_n 0, 1) := by decide +kernel
theorem dJ7_fill_53178_3 : decode cJ7_fill_53178 3 = .ok (.arraylength, 1) := by decide +kernel
theorem dJ7_fill_53178_4 : decode cJ7_fill_53178 4 = .ok (.istore_n 3, 1) := by decide +kernel
theorem dJ7_fill_53178_5 : decode cJ7_fill_53178 5 = .ok (.iload_n 2, 1) := by decide +kernel
theorem dJ7_fill_53178_6 : decode cJ7_fill_53178 6 = .ok (.iload_n 3, 1) := by decide +kernel
theorem dJ7_fill_53178_7 : decode cJ7_fill_53178 7 = .ok (.if_icmp .ge 13, 3) := by decide +kernel
theorem dJ7_fill_53178_10 : decode cJ7_fill_53178 10 = .ok (.aload_n 0, 1) := by decide +kernel
theorem dJ7_fill_53178_11 : decode cJ7_fill_53178 11 = .ok (.iload_n 2, 1) := by decide +kernel
theorem dJ7_fill_53178_12 : decode cJ7_fill_53178 12 = .ok (.iload_n 1, 1) := by decide +kernel
theorem dJ7_fill_53178_13 : decode cJ7_fill_53178 13 = .ok (.iastore, 1) := by decide +kernel
theorem dJ7_fill_53178_14 : decode cJ7_fill_53178 14 = .ok (.iinc 2 1, 3) := by decide +kernel
theorem dJ7_fill_53178_17 : decode cJ7_fill_53178 17 = .ok (.goto (-12), 3) := by decide +kernel
theorem dJ7_fill_53178_20 : decode cJ7_fill_53178 20 = .ok (.return_, 1) := by decide +kernel
def wb_J7_fill_53178_5 (B5 : q_S → Option Nat → Int32 → Int32 → Int32 → Prop) (S : q_S) (r0 : Option Nat) (x1 : Int32) (x2 : Int32) (x3 : Int32) (Q : Option Value → q_S → Prop) : Prop := ((x3 ≤ x2 → (Q none S)) ∧ (¬ x3 ≤ x2 → (∃ a2_ : Nat, r0 = some a2_ ∧ (q_K S a2_ = 21 ∧ (vp_in x2 (q_N S a2_) ∧ (B5 (qs_A S a2_ x2.toNatClampNeg x1) r0 x1 (x2 + 1) x3))))))
set_option maxHeartbeats 4000000 in
set_option maxRecDepth 100000 in
theorem cb_J7_fill_53178_5 {p : Program} {l : Launch} {e : Env} {s : State} {m : MethodId} {args : Array Value} {below : List Frame} {meth : Method} {c : Code} {D : va_G} {cy : Nat → ClassId} {lo : Nat} {B5 : q_S → Option Nat → Int32 → Int32 → Int32 → Prop} {S : q_S} {r0 : Option Nat} {x1 : Int32} {x2 : Int32} {x3 : Int32} {Q : Option Value → q_S → Prop} {H : Heap} {locs : List Loc} {ls : Array Slot} (X : q_X p s m args meth c RJ7 cJ7_fill_53178 4 none D cy lo) (hB5 : ∀ (S : q_S) (r0 : Option Nat) (x1 : Int32) (x2 : Int32) (x3 : Int32) (H : Heap) (locs : List Loc) (ls : Array Slot), B5 S r0 x1 x2 x3 → q_Y D cy lo s S H locs → lv_has ls 4 [(0, va_rf r0), (1, .int x1), (2, .int x2), (3, .int x3)] → W p l e ({ frames := 0, cells := 0, slots := 0, locals := 0 } : Room) s m args below meth c H locs 0 0 (MQ below (q_Q D cy lo Q) args s 0 0 (fun q => lo ≤ q)) (F0 m 5 ls [])) (Y : q_Y D cy lo s S H locs) (hl : lv_has ls 4 [(0, va_rf r0), (1, .int x1), (2, .int x2), (3, .int x3)]) (h : wb_J7_fill_53178_5 B5 S r0 x1 x2 x3 Q) : W p l e ({ frames := 0, cells := 0, slots := 0, locals := 0 } : Room) s m args below meth c H locs 0 0 (MQ below (q_Q D cy lo Q) args s 0 0 (fun q => lo ≤ q)) (F0 m 5 ls []) := by
  have hx := X.1
  have hb := X.2.1
  unfold wb_J7_fill_53178_5 at h
  refine lv_iload_n hx hb dJ7_fill_53178_5 rfl (lv_at hl 2 rfl) ?_
  refine lv_iload_n hx hb dJ7_fill_53178_6 rfl (lv_at hl 3 rfl) ?_
  refine lv_icmp_ge (tgt := 20) hx hb dJ7_fill_53178_7 (by decide) (fun c1_ => ?_) (fun c1_ => ?_)
  · replace h := h.1 c1_
    exact q_vret X Y (Nat.le_refl _) (Nat.le_refl _) h dJ7_fill_53178_20
  · replace h := h.2 c1_
    refine q_aload_n hx hb dJ7_fill_53178_10 rfl (lv_at hl 0 rfl) ?_
    refine lv_iload_n hx hb dJ7_fill_53178_11 rfl (lv_at hl 2 rfl) ?_
    refine lv_iload_n hx hb dJ7_fill_53178_12 rfl (lv_at hl 1 rfl) ?_
    obtain ⟨a2_, e3_, h⟩ := h
    refine q_nn [.int x1, .int x2] e3_ ?_
    obtain ⟨k4_, h⟩ := h
    obtain ⟨i5_, h⟩ := h
    refine q_ist X Y k4_ i5_ dJ7_fill_53178_13 (fun H locs Y => ?_)
    refine lv_iinc (v := (x2 + 1)) (lv' := [(2, .int (x2 + 1)), (0, va_rf r0), (1, .int x1), (3, .int x3)]) hx hb dJ7_fill_53178_14 hl (k := 2) rfl (by first | rfl | decide) (by decide) (by first | rfl | simp [q_cat, q_catI, q_catJ, q_catR]) (fun ls hl => ?_)
    refine lv_goto (tgt := 5) hx hb dJ7_fill_53178_17 (by decide) ?_
    exact hB5 _ _ _ _ _ _ _ _ h Y (lv_sub hl [1, 2, 0, 3] rfl)
def wl_J7_fill_53178_5  : Nat → q_S → Option Nat → Int32 → Int32 → Int32 → (Option Value → q_S → Prop) → Prop
  | 0, _, _, _, _, _, _ => False
  | n + 1, S, r0, x1, x2, x3, Q => wb_J7_fill_53178_5 (fun S r0 x1 x2 x3 => wl_J7_fill_53178_5 n S r0 x1 x2 x3 Q) S r0 x1 x2 x3 Q
set_option maxHeartbeats 4000000 in
set_option maxRecDepth 100000 in
theorem cl_J7_fill_53178_5 {p : Program} {l : Launch} {e : Env} {s : State} {m : MethodId} {args : Array Value} {below : List Frame} {meth : Method} {c : Code} {D : va_G} {cy : Nat → ClassId} {lo : Nat}  {Q : Option Value → q_S → Prop} (X : q_X p s m args meth c RJ7 cJ7_fill_53178 4 none D cy lo)  : ∀ (n : Nat) (S : q_S) (r0 : Option Nat) (x1 : Int32) (x2 : Int32) (x3 : Int32) (H : Heap) (locs : List Loc) (ls : Array Slot), wl_J7_fill_53178_5 n S r0 x1 x2 x3 Q → q_Y D cy lo s S H locs → lv_has ls 4 [(0, va_rf r0), (1, .int x1), (2, .int x2), (3, .int x3)] → W p l e ({ frames := 0, cells := 0, slots := 0, locals := 0 } : Room) s m args below meth c H locs 0 0 (MQ below (q_Q D cy lo Q) args s 0 0 (fun q => lo ≤ q)) (F0 m 5 ls []) := by
  intro n
  induction n with
  | zero => intro S r0 x1 x2 x3 H locs ls h; exact absurd h id
  | succ n ih => intro S r0 x1 x2 x3 H locs ls h Y hl; exact cb_J7_fill_53178_5 X ih Y hl h
def wm_J7_fill_53178 (S : q_S) (r0 : Option Nat) (x1 : Int32) (Q : Option Value → q_S → Prop) : Prop := ∃ a6_ : Nat, r0 = some a6_ ∧ (q_K S a6_ = 21 ∧ (∃ n9_ : Nat, wl_J7_fill_53178_5 n9_ S r0 x1 (0 : Int32) (nI (q_N S a6_)) Q))
set_option maxHeartbeats 4000000 in
set_option maxRecDepth 100000 in
theorem cm_J7_fill_53178 {l : Launch} {D : va_G} {cy : Nat → ClassId} {lo : Nat} {S : q_S} {r0 : Option Nat} {x1 : Int32} {Q : Option Value → q_S → Prop} (h : wm_J7_fill_53178 S r0 x1 Q) : q_Met l D cy lo yJ7_fill_53178 cJ7_fill_53178 4 none 0 0 0 0 [va_rf r0, .int x1] S Q := by
  refine q_body (by decide) (by first | exact Nat.le_of_ble_eq_true rfl | simp [lg_sl, q_cat, q_catI, q_catJ, q_catR]) ?_
  intro p e s m below meth c ls X hnm Y hl
  have hx := X.1
  have hb := X.2.1
  have hl : lv_has ls 4 [(0, va_rf r0), (1, .int x1)] := by first | exact hl | simpa [lv_args, q_cat, q_catI, q_catJ, q_catR] using hl
  generalize hargs : ([va_rf r0, .int x1] : List Value).toArray = args at X ⊢
  unfold wm_J7_fill_53178 at h
  refine lv_iconst (v := 0) hx hb dJ7_fill_53178_0 (by decide) ?_
  refine lv_istore_n (i := 2) (lv' := [(2, .int (0 : Int32)), (0, va_rf r0), (1, .int x1)]) hx hb dJ7_fill_53178_1 rfl hl (by decide) (by first | rfl | simp [q_cat, q_catI, q_catJ, q_catR]) (fun ls hl => ?_)
  refine q_aload_n hx hb dJ7_fill_53178_2 rfl (lv_at hl 1 rfl) ?_
  obtain ⟨a6_, e7_, h⟩ := h
  refine q_nn [] e7_ ?_
  obtain ⟨k8_, h⟩ := h
  refine q_alen X Y k8_ (by decide) (t := 1) rfl dJ7_fill_53178_3 ?_
  refine lv_istore_n (i := 3) (lv' := [(3, .int (nI (q_N S a6_))), (2, .int (0 : Int32)), (0, va_rf r0), (1, .int x1)]) hx hb dJ7_fill_53178_4 rfl hl (by decide) (by first | rfl | simp [q_cat, q_catI, q_catJ, q_catR]) (fun ls hl => ?_)
  obtain ⟨n9_, h⟩ := h
  exact cl_J7_fill_53178_5 X n9_ _ _ _ _ _ _ _ _ h Y (lv_sub hl [2, 3, 1, 0] rfl)
-- X7_restart
theorem fl_X7_9 : Cond.fieldLink RX7 9 "PartitionWorks$Process" "x" "[I" ∈ q_G := q_tb (i := 878) (by decide +kernel) (by decide +kernel)
theorem ml_X7_42 : Cond.methodLink RX7 42 yJ7_fill_53178 ∈ q_G := q_tb (i := 950) (by decide +kernel) (by decide +kernel)
theorem mt_J7_fill_53178 : q_Mt yJ7_fill_53178 cJ7_fill_53178 4 none 2 := ⟨q_tb (i := 775) (by decide +kernel) (by decide +kernel), q_tb (i := 13) (by decide +kernel) (by decide +kernel), by decide +kernel, by decide +kernel, by decide +kernel⟩
theorem ms_J7_fill_53178 : Cond.static yJ7_fill_53178 ∈ q_G := q_tb (i := 774) (by decide +kernel) (by decide +kernel)
theorem fl_X7_73 : Cond.fieldLink RX7 73 "PartitionWorks$Process" "entry" "I" ∈ q_G := q_tb (i := 847) (by decide +kernel) (by decide +kernel)
theorem fl_X7_39 : Cond.fieldLink RX7 39 "PartitionWorks$Process" "pc" "I" ∈ q_G := q_tb (i := 875) (by decide +kernel) (by decide +kernel)
theorem dX7_restart_0 : decode cX7_restart 0 = .ok (.aload_n 0, 1) := by decide +kernel
theorem dX7_restart_1 : decode cX7_restart 1 = .ok (.getfield 9, 3) := by decide +kernel
theorem dX7_restart_4 : decode cX7_restart 4 = .ok (.iconst 0, 1) := by decide +kernel
theorem dX7_restart_5 : decode cX7_restart 5 = .ok (.invokestatic 42, 3) := by decide +kernel
theorem dX7_restart_8 : decode cX7_restart 8 = .ok (.aload_n 0, 1) := by decide +kernel
theorem dX7_restart_9 : decode cX7_restart 9 = .ok (.aload_n 0, 1) := by decide +kernel
theorem dX7_restart_10 : decode cX7_restart 10 = .ok (.getfield 73, 3) := by decide +kernel
theorem dX7_restart_13 : decode cX7_restart 13 = .ok (.putfield 39, 3) := by decide +kernel
theorem dX7_restart_16 : decode cX7_restart 16 = .ok (.aload_n 0, 1) := by decide +kernel
theorem dX7_restart_17 : decode cX7_restart 17 = .ok (.iconst 0, 1) := by decide +kernel
theorem dX7_restart_18 : decode cX7_restart 18 = .ok (.putfield 70, 3) := by decide +kernel
theorem dX7_restart_21 : decode cX7_restart 21 = .ok (.return_, 1) := by decide +kernel
def wm_X7_restart (S : q_S) (a0 : Nat) (Q : Option Value → q_S → Prop) : Prop := q_K S a0 = 8 ∧ (wm_J7_fill_53178 S (q_P S 1411 a0) (0 : Int32) (fun r2_ S3_ => r2_ = none ∧ (q_K S3_ a0 = 8 ∧ (Q none (qs_I (qs_I S3_ 1410 a0 (q_I S3_ 1402 a0)) 1416 a0 (0 : Int32))))))
set_option maxHeartbeats 4000000 in
set_option maxRecDepth 100000 in
theorem cm_X7_restart {l : Launch} {D : va_G} {cy : Nat → ClassId} {lo : Nat} {S : q_S} {a0 : Nat} {Q : Option Value → q_S → Prop} (h : wm_X7_restart S a0 Q) : q_Met l D cy lo yX7_restart cX7_restart 1 none 1 23 0 0 [.ref a0] S Q := by
  refine q_body (by decide) (by first | exact Nat.le_of_ble_eq_true rfl | simp [lg_sl, q_cat, q_catI, q_catJ, q_catR]) ?_
  intro p e s m below meth c ls X hnm Y hl
  have hx := X.1
  have hb := X.2.1
  have hl : lv_has ls 1 [(0, .ref a0)] := by first | exact hl | simpa [lv_args, q_cat, q_catI, q_catJ, q_catR] using hl
  generalize hargs : ([.ref a0] : List Value).toArray = args at X ⊢
  unfold wm_X7_restart at h
  refine lv_aload_n hx hb dX7_restart_0 rfl (lv_at hl 0 rfl) ?_
  obtain ⟨k1_, h⟩ := h
  refine q_getP X Y kX7 11 rfl fl_X7_9 k1_ rfl dX7_restart_1 ?_
  refine lv_iconst (v := 0) hx hb dX7_restart_4 (by decide) ?_
  refine q_callS X Y hl (cm_J7_fill_53178 h) mt_J7_fill_53178 ms_J7_fill_53178 ml_X7_42 rfl rfl (by first | exact Nat.le_of_ble_eq_true rfl | simp [q_cat, q_catI, q_catJ, q_catR]) ⟨Nat.le_of_ble_eq_true rfl, Nat.le_of_ble_eq_true rfl⟩ ⟨Nat.le_of_ble_eq_true rfl, Nat.le_of_ble_eq_true rfl⟩ dX7_restart_5 (fun r2_ S3_ H locs hp Y => ?_)
  obtain ⟨rfl, h⟩ := hp
  refine W.eq (g2 := F0 m 8 ls []) rfl ?_
  refine lv_aload_n hx hb dX7_restart_8 rfl (lv_at hl 0 rfl) ?_
  refine lv_aload_n hx hb dX7_restart_9 rfl (lv_at hl 0 rfl) ?_
  obtain ⟨k4_, h⟩ := h
  refine q_getI X Y kX7 2 rfl fl_X7_73 k4_ dX7_restart_10 ?_
  refine q_putI X Y kX7 10 rfl fl_X7_39 k4_ .int rfl ⟨rfl, rfl⟩ rfl dX7_restart_13 (fun H locs Y => ?_)
  refine lv_aload_n hx hb dX7_restart_16 rfl (lv_at hl 0 rfl) ?_
  refine lv_iconst (v := 0) hx hb dX7_restart_17 (by decide) ?_
  refine q_putI X Y kX7 16 rfl fl_X7_70 k4_ .boolean rfl ⟨rfl, rfl⟩ rfl dX7_restart_18 (fun H locs Y => ?_)
  exact q_vret X Y (Nat.le_refl _) (Nat.le_refl _) h dX7_restart_21
-- X5_makeReady
theorem dX5_makeReady_0 : decode cX5_makeReady 0 = .ok (.aload_n 1, 1) := by decide +kernel
theorem dX5_makeReady_1 : decode cX5_makeReady 1 = .ok (.iconst 1, 1) := by decide +kernel
theorem dX5_makeReady_2 : decode cX5_makeReady 2 = .ok (.putfield 105, 3) := by decide +kernel
theorem dX5_makeReady_5 : decode cX5_makeReady 5 = .ok (.aload_n 1, 1) := by decide +kernel
theorem dX5_makeReady_6 : decode cX5_makeReady 6 = .ok (.iconst (-1), 1) := by decide +kernel
theorem dX5_makeReady_7 : decode cX5_makeReady 7 = .ok (.putfield 111, 3) := by decide +kernel
theorem dX5_makeReady_10 : decode cX5_makeReady 10 = .ok (.aload_n 1, 1) := by decide +kernel
theorem dX5_makeReady_11 : decode cX5_makeReady 11 = .ok (.iconst (-1), 1) := by decide +kernel
theorem dX5_makeReady_12 : decode cX5_makeReady 12 = .ok (.putfield 114, 3) := by decide +kernel
theorem dX5_makeReady_15 : decode cX5_makeReady 15 = .ok (.aload_n 0, 1) := by decide +kernel
theorem dX5_makeReady_16 : decode cX5_makeReady 16 = .ok (.dup, 1) := by decide +kernel
theorem dX5_makeReady_17 : decode cX5_makeReady 17 = .ok (.getfield 75, 3) := by decide +kernel
theorem dX5_makeReady_20 : decode cX5_makeReady 20 = .ok (.iconst 1, 1) := by decide +kernel
theorem dX5_makeReady_21 : decode cX5_makeReady 21 = .ok (.iadd, 1) := by decide +kernel
theorem dX5_makeReady_22 : decode cX5_makeReady 22 = .ok (.putfield 75, 3) := by decide +kernel
theorem dX5_makeReady_25 : decode cX5_makeReady 25 = .ok (.aload_n 1, 1) := by decide +kernel
theorem dX5_makeReady_26 : decode cX5_makeReady 26 = .ok (.aload_n 0, 1) := by decide +kernel
theorem dX5_makeReady_27 : decode cX5_makeReady 27 = .ok (.getfield 75, 3) := by decide +kernel
theorem dX5_makeReady_30 : decode cX5_makeReady 30 = .ok (.putfield 108, 3) := by decide +kernel
theorem dX5_makeReady_33 : decode cX5_makeReady 33 = .ok (.return_, 1) := by decide +kernel
def wm_X5_makeReady (S : q_S) (a0 : Nat) (r1 : Option Nat) (Q : Option Value → q_S → Prop) : Prop := ∃ a1_ : Nat, r1 = some a1_ ∧ (q_K S a1_ = 8 ∧ (∀ S4_ : q_S, S4_ = (qs_I (qs_I (qs_I S 1409 a1_ (1 : Int32)) 1418 a1_ (-1 : Int32)) 1413 a1_ (-1 : Int32)) → (q_K S4_ a0 = 6 ∧ (∀ S6_ : q_S, S6_ = (qs_I (qs_I S4_ 1015 a0 ((q_I S4_ 1015 a0) + (1 : Int32))) 1417 a1_ (q_I (qs_I S4_ 1015 a0 ((q_I S4_ 1015 a0) + (1 : Int32))) 1015 a0)) → (Q none S6_)))))
set_option maxHeartbeats 4000000 in
set_option maxRecDepth 100000 in
theorem cm_X5_makeReady {l : Launch} {D : va_G} {cy : Nat → ClassId} {lo : Nat} {S : q_S} {a0 : Nat} {r1 : Option Nat} {Q : Option Value → q_S → Prop} (h : wm_X5_makeReady S a0 r1 Q) : q_Met l D cy lo yX5_makeReady cX5_makeReady 2 none 0 0 0 0 [.ref a0, va_rf r1] S Q := by
  refine q_body (by decide) (by first | exact Nat.le_of_ble_eq_true rfl | simp [lg_sl, q_cat, q_catI, q_catJ, q_catR]) ?_
  intro p e s m below meth c ls X hnm Y hl
  have hx := X.1
  have hb := X.2.1
  have hl : lv_has ls 2 [(0, .ref a0), (1, va_rf r1)] := by first | exact hl | simpa [lv_args, q_cat, q_catI, q_catJ, q_catR] using hl
  generalize hargs : ([.ref a0, va_rf r1] : List Value).toArray = args at X ⊢
  unfold wm_X5_makeReady at h
  refine q_aload_n hx hb dX5_makeReady_0 rfl (lv_at hl 1 rfl) ?_
  refine lv_iconst (v := 1) hx hb dX5_makeReady_1 (by decide) ?_
  obtain ⟨a1_, e2_, h⟩ := h
  refine q_nn [.int (1 : Int32)] e2_ ?_
  obtain ⟨k3_, h⟩ := h
  refine q_putI X Y kX7 9 rfl fl_X5_105 k3_ .int rfl ⟨rfl, rfl⟩ rfl dX5_makeReady_2 (fun H locs Y => ?_)
  refine q_aload_n hx hb dX5_makeReady_5 rfl (lv_at hl 1 rfl) ?_
  refine lv_iconst (v := (-1)) hx hb dX5_makeReady_6 (by decide) ?_
  refine q_nn [.int (-1 : Int32)] e2_ ?_
  refine q_putI X Y kX7 18 rfl fl_X5_111 k3_ .int rfl ⟨rfl, rfl⟩ rfl dX5_makeReady_7 (fun H locs Y => ?_)
  refine q_aload_n hx hb dX5_makeReady_10 rfl (lv_at hl 1 rfl) ?_
  refine lv_iconst (v := (-1)) hx hb dX5_makeReady_11 (by decide) ?_
  refine q_nn [.int (-1 : Int32)] e2_ ?_
  refine q_putI X Y kX7 13 rfl fl_X5_114 k3_ .int rfl ⟨rfl, rfl⟩ rfl dX5_makeReady_12 (fun H locs Y => ?_)
  obtain ⟨S4_, gS4_⟩ : ∃ z : q_S, z = (qs_I (qs_I (qs_I S 1409 a1_ (1 : Int32)) 1418 a1_ (-1 : Int32)) 1413 a1_ (-1 : Int32)) := ⟨_, rfl⟩
  replace Y : q_Y D cy lo s S4_ H locs := by rw [gS4_]; exact Y
  replace h := h S4_ gS4_
  replace k3_ : q_K S4_ a1_ = 8 := by rw [gS4_]; exact k3_
  refine lv_aload_n hx hb dX5_makeReady_15 rfl (lv_at hl 0 rfl) ?_
  refine lv_dup hx hb dX5_makeReady_16 rfl ?_
  obtain ⟨k5_, h⟩ := h
  refine q_getI X Y kX5 15 rfl fl_X5_75 k5_ dX5_makeReady_17 ?_
  refine lv_iconst (v := 1) hx hb dX5_makeReady_20 (by decide) ?_
  refine lv_iadd hx hb dX5_makeReady_21 ?_
  refine q_putI X Y kX5 15 rfl fl_X5_75 k5_ .int rfl ⟨rfl, rfl⟩ rfl dX5_makeReady_22 (fun H locs Y => ?_)
  refine q_aload_n hx hb dX5_makeReady_25 rfl (lv_at hl 1 rfl) ?_
  refine lv_aload_n hx hb dX5_makeReady_26 rfl (lv_at hl 0 rfl) ?_
  refine q_getI X Y kX5 15 rfl fl_X5_75 k5_ dX5_makeReady_27 ?_
  refine q_nn [.int (q_I (qs_I S4_ 1015 a0 ((q_I S4_ 1015 a0) + (1 : Int32))) 1015 a0)] e2_ ?_
  refine q_putI X Y kX7 17 rfl fl_X5_108 k3_ .int rfl ⟨rfl, rfl⟩ rfl dX5_makeReady_30 (fun H locs Y => ?_)
  obtain ⟨S6_, gS6_⟩ : ∃ z : q_S, z = (qs_I (qs_I S4_ 1015 a0 ((q_I S4_ 1015 a0) + (1 : Int32))) 1417 a1_ (q_I (qs_I S4_ 1015 a0 ((q_I S4_ 1015 a0) + (1 : Int32))) 1015 a0)) := ⟨_, rfl⟩
  replace Y : q_Y D cy lo s S6_ H locs := by rw [gS6_]; exact Y
  replace h := h S6_ gS6_
  replace k3_ : q_K S6_ a1_ = 8 := by rw [gS6_]; exact k3_
  replace k5_ : q_K S6_ a0 = 6 := by rw [gS6_]; exact k5_
  exact q_vret X Y (Nat.le_refl _) (Nat.le_refl _) h dX5_makeReady_33
-- X5_start
theorem ml_X5_117 : Cond.methodLink RX5 117 yX5_makeReady ∈ q_G := q_tb (i := 1337) (by decide +kernel) (by decide +kernel)
theorem mt_X5_makeReady : q_Mt yX5_makeReady cX5_makeReady 2 none 1 := ⟨q_tb (i := 1340) (by decide +kernel) (by decide +kernel), q_tb (i := 20) (by decide +kernel) (by decide +kernel), by decide +kernel, by decide +kernel, by decide +kernel⟩
theorem mi_X5_makeReady : Cond.instanceMethod yX5_makeReady ∈ q_G ∧ Cond.selects yX5_makeReady.cls yX5_makeReady yX5_makeReady ∈ q_G := ⟨q_tb (i := 1338) (by decide +kernel) (by decide +kernel), q_tb (i := 1339) (by decide +kernel) (by decide +kernel)⟩
theorem ml_X5_132 : Cond.methodLink RX5 132 yX5_makeWait ∈ q_G := q_tb (i := 1333) (by decide +kernel) (by decide +kernel)
theorem ml_X5_124 : Cond.methodLink RX5 124 yX7_restart ∈ q_G := q_tb (i := 1325) (by decide +kernel) (by decide +kernel)
theorem mt_X7_restart : q_Mt yX7_restart cX7_restart 1 none 0 := ⟨q_tb (i := 1328) (by decide +kernel) (by decide +kernel), q_tb (i := 22) (by decide +kernel) (by decide +kernel), by decide +kernel, by decide +kernel, by decide +kernel⟩
theorem mi_X7_restart : Cond.instanceMethod yX7_restart ∈ q_G ∧ Cond.selects yX7_restart.cls yX7_restart yX7_restart ∈ q_G := ⟨q_tb (i := 1326) (by decide +kernel) (by decide +kernel), q_tb (i := 1327) (by decide +kernel) (by decide +kernel)⟩
theorem ml_X5_127 : Cond.methodLink RX5 127 yX7_setRelease ∈ q_G := q_tb (i := 1329) (by decide +kernel) (by decide +kernel)
theorem dX5_start_0 : decode cX5_start 0 = .ok (.aload_n 1, 1) := by decide +kernel
theorem dX5_start_1 : decode cX5_start 1 = .ok (.invokevirtual 124, 3) := by decide +kernel
theorem dX5_start_4 : decode cX5_start 4 = .ok (.aload_n 1, 1) := by decide +kernel
theorem dX5_start_5 : decode cX5_start 5 = .ok (.iload_n 2, 1) := by decide +kernel
theorem dX5_start_6 : decode cX5_start 6 = .ok (.invokevirtual 127, 3) := by decide +kernel
theorem dX5_start_9 : decode cX5_start 9 = .ok (.aload_n 1, 1) := by decide +kernel
theorem dX5_start_10 : decode cX5_start 10 = .ok (.getfield 131, 3) := by decide +kernel
theorem dX5_start_13 : decode cX5_start 13 = .ok (.aload_n 0, 1) := by decide +kernel
theorem dX5_start_14 : decode cX5_start 14 = .ok (.getfield 78, 3) := by decide +kernel
theorem dX5_start_17 : decode cX5_start 17 = .ok (.if_icmp .ne 8, 3) := by decide +kernel
theorem dX5_start_20 : decode cX5_start 20 = .ok (.aload_n 0, 1) := by decide +kernel
theorem dX5_start_21 : decode cX5_start 21 = .ok (.iconst (-1), 1) := by decide +kernel
theorem dX5_start_22 : decode cX5_start 22 = .ok (.putfield 78, 3) := by decide +kernel
theorem dX5_start_25 : decode cX5_start 25 = .ok (.iload_n 2, 1) := by decide +kernel
theorem dX5_start_26 : decode cX5_start 26 = .ok (.iload_n 3, 1) := by decide +kernel
theorem dX5_start_27 : decode cX5_start 27 = .ok (.if_icmp .le 15, 3) := by decide +kernel
theorem dX5_start_30 : decode cX5_start 30 = .ok (.aload_n 0, 1) := by decide +kernel
theorem dX5_start_31 : decode cX5_start 31 = .ok (.aload_n 1, 1) := by decide +kernel
theorem dX5_start_32 : decode cX5_start 32 = .ok (.sipush 128, 3) := by decide +kernel
theorem dX5_start_35 : decode cX5_start 35 = .ok (.iload_n 2, 1) := by decide +kernel
theorem dX5_start_36 : decode cX5_start 36 = .ok (.invokevirtual 132, 3) := by decide +kernel
theorem dX5_start_39 : decode cX5_start 39 = .ok (.goto 8, 3) := by decide +kernel
theorem dX5_start_42 : decode cX5_start 42 = .ok (.aload_n 0, 1) := by decide +kernel
theorem dX5_start_43 : decode cX5_start 43 = .ok (.aload_n 1, 1) := by decide +kernel
theorem dX5_start_44 : decode cX5_start 44 = .ok (.invokevirtual 117, 3) := by decide +kernel
theorem dX5_start_47 : decode cX5_start 47 = .ok (.return_, 1) := by decide +kernel
def wb_X5_start_47  (S : q_S) (Q : Option Value → q_S → Prop) : Prop := Q none S
set_option maxHeartbeats 4000000 in
set_option maxRecDepth 100000 in
theorem cb_X5_start_47 {p : Program} {l : Launch} {e : Env} {s : State} {m : MethodId} {args : Array Value} {below : List Frame} {meth : Method} {c : Code} {D : va_G} {cy : Nat → ClassId} {lo : Nat}  {S : q_S} {Q : Option Value → q_S → Prop} {H : Heap} {locs : List Loc} {ls : Array Slot} (X : q_X p s m args meth c RX5 cX5_start 4 none D cy lo)  (Y : q_Y D cy lo s S H locs) (hl : lv_has ls 4 []) (h : wb_X5_start_47 S Q) : W p l e ({ frames := 2, cells := 0, slots := 0, locals := 43 } : Room) s m args below meth c H locs 0 0 (MQ below (q_Q D cy lo Q) args s 0 0 (fun q => lo ≤ q)) (F0 m 47 ls []) := by
  have hx := X.1
  have hb := X.2.1
  unfold wb_X5_start_47 at h
  exact q_vret X Y (Nat.le_refl _) (Nat.le_refl _) h dX5_start_47
def wb_X5_start_25  (S : q_S) (a0 : Nat) (r1 : Option Nat) (x2 : Int32) (x3 : Int32) (Q : Option Value → q_S → Prop) : Prop := ((x2 ≤ x3 → (q_K S a0 = 6 ∧ (wm_X5_makeReady S a0 r1 (fun r3_ S4_ => r3_ = none ∧ (wb_X5_start_47 S4_ Q))))) ∧ (¬ x2 ≤ x3 → (q_K S a0 = 6 ∧ (wm_X5_makeWait S a0 r1 (128 : Int32) x2 (fun r6_ S7_ => r6_ = none ∧ (wb_X5_start_47 S7_ Q))))))
set_option maxHeartbeats 4000000 in
set_option maxRecDepth 100000 in
theorem cb_X5_start_25 {p : Program} {l : Launch} {e : Env} {s : State} {m : MethodId} {args : Array Value} {below : List Frame} {meth : Method} {c : Code} {D : va_G} {cy : Nat → ClassId} {lo : Nat}  {S : q_S} {a0 : Nat} {r1 : Option Nat} {x2 : Int32} {x3 : Int32} {Q : Option Value → q_S → Prop} {H : Heap} {locs : List Loc} {ls : Array Slot} (X : q_X p s m args meth c RX5 cX5_start 4 none D cy lo)  (Y : q_Y D cy lo s S H locs) (hl : lv_has ls 4 [(0, .ref a0), (1, va_rf r1), (2, .int x2), (3, .int x3)]) (h : wb_X5_start_25 S a0 r1 x2 x3 Q) : W p l e ({ frames := 2, cells := 0, slots := 0, locals := 43 } : Room) s m args below meth c H locs 0 0 (MQ below (q_Q D cy lo Q) args s 0 0 (fun q => lo ≤ q)) (F0 m 25 ls []) := by
  have hx := X.1
  have hb := X.2.1
  unfold wb_X5_start_25 at h
  refine lv_iload_n hx hb dX5_start_25 rfl (lv_at hl 2 rfl) ?_
  refine lv_iload_n hx hb dX5_start_26 rfl (lv_at hl 3 rfl) ?_
  refine lv_icmp_le (tgt := 42) hx hb dX5_start_27 (by decide) (fun c1_ => ?_) (fun c1_ => ?_)
  · replace h := h.1 c1_
    refine lv_aload_n hx hb dX5_start_42 rfl (lv_at hl 0 rfl) ?_
    refine q_aload_n hx hb dX5_start_43 rfl (lv_at hl 1 rfl) ?_
    obtain ⟨k2_, h⟩ := h
    refine q_callV X Y hl (cm_X5_makeReady h) mt_X5_makeReady mi_X5_makeReady ml_X5_117 (ci := 5) rfl k2_ (by decide) rfl rfl (by first | exact Nat.le_of_ble_eq_true rfl | simp [q_cat, q_catI, q_catJ, q_catR]) ⟨Nat.le_of_ble_eq_true rfl, Nat.le_of_ble_eq_true rfl⟩ ⟨Nat.le_of_ble_eq_true rfl, Nat.le_of_ble_eq_true rfl⟩ dX5_start_44 (fun r3_ S4_ H locs hp Y => ?_)
    obtain ⟨rfl, h⟩ := hp
    refine W.eq (g2 := F0 m 47 ls []) rfl ?_
    exact cb_X5_start_47 X Y (lv_sub hl [] rfl) h
  · replace h := h.2 c1_
    refine lv_aload_n hx hb dX5_start_30 rfl (lv_at hl 0 rfl) ?_
    refine q_aload_n hx hb dX5_start_31 rfl (lv_at hl 1 rfl) ?_
    refine lv_sipush (v := 128) hx hb dX5_start_32 (by decide) ?_
    refine lv_iload_n hx hb dX5_start_35 rfl (lv_at hl 2 rfl) ?_
    obtain ⟨k5_, h⟩ := h
    refine q_callV X Y hl (cm_X5_makeWait h) mt_X5_makeWait mi_X5_makeWait ml_X5_132 (ci := 5) rfl k5_ (by decide) rfl rfl (by first | exact Nat.le_of_ble_eq_true rfl | simp [q_cat, q_catI, q_catJ, q_catR]) ⟨Nat.le_of_ble_eq_true rfl, Nat.le_of_ble_eq_true rfl⟩ ⟨Nat.le_of_ble_eq_true rfl, Nat.le_of_ble_eq_true rfl⟩ dX5_start_36 (fun r6_ S7_ H locs hp Y => ?_)
    obtain ⟨rfl, h⟩ := hp
    refine W.eq (g2 := F0 m 39 ls []) rfl ?_
    refine lv_goto (tgt := 47) hx hb dX5_start_39 (by decide) ?_
    exact cb_X5_start_47 X Y (lv_sub hl [] rfl) h
def wm_X5_start (S : q_S) (a0 : Nat) (r1 : Option Nat) (x2 : Int32) (x3 : Int32) (Q : Option Value → q_S → Prop) : Prop := ∃ a8_ : Nat, r1 = some a8_ ∧ (q_K S a8_ = 8 ∧ (wm_X7_restart S a8_ (fun r11_ S12_ => r11_ = none ∧ (q_K S12_ a8_ = 8 ∧ (wm_X7_setRelease S12_ a8_ x2 (fun r14_ S15_ => r14_ = none ∧ (q_K S15_ a8_ = 8 ∧ (q_K S15_ a0 = 6 ∧ (((¬ (q_I S15_ 1400 a8_) = (q_I S15_ 1016 a0) → (wb_X5_start_25 S15_ a0 r1 x2 x3 Q)) ∧ ((q_I S15_ 1400 a8_) = (q_I S15_ 1016 a0) → (wb_X5_start_25 (qs_I S15_ 1016 a0 (-1 : Int32)) a0 r1 x2 x3 Q))))))))))))
set_option maxHeartbeats 4000000 in
set_option maxRecDepth 100000 in
theorem cm_X5_start {l : Launch} {D : va_G} {cy : Nat → ClassId} {lo : Nat} {S : q_S} {a0 : Nat} {r1 : Option Nat} {x2 : Int32} {x3 : Int32} {Q : Option Value → q_S → Prop} (h : wm_X5_start S a0 r1 x2 x3 Q) : q_Met l D cy lo yX5_start cX5_start 4 none 2 43 0 0 [.ref a0, va_rf r1, .int x2, .int x3] S Q := by
  refine q_body (by decide) (by first | exact Nat.le_of_ble_eq_true rfl | simp [lg_sl, q_cat, q_catI, q_catJ, q_catR]) ?_
  intro p e s m below meth c ls X hnm Y hl
  have hx := X.1
  have hb := X.2.1
  have hl : lv_has ls 4 [(0, .ref a0), (1, va_rf r1), (2, .int x2), (3, .int x3)] := by first | exact hl | simpa [lv_args, q_cat, q_catI, q_catJ, q_catR] using hl
  generalize hargs : ([.ref a0, va_rf r1, .int x2, .int x3] : List Value).toArray = args at X ⊢
  unfold wm_X5_start at h
  refine q_aload_n hx hb dX5_start_0 rfl (lv_at hl 1 rfl) ?_
  obtain ⟨a8_, e9_, h⟩ := h
  refine q_nn [] e9_ ?_
  obtain ⟨k10_, h⟩ := h
  refine q_callV X Y hl (cm_X7_restart h) mt_X7_restart mi_X7_restart ml_X5_124 (ci := 7) rfl k10_ (by decide) rfl rfl (by first | exact Nat.le_of_ble_eq_true rfl | simp [q_cat, q_catI, q_catJ, q_catR]) ⟨Nat.le_of_ble_eq_true rfl, Nat.le_of_ble_eq_true rfl⟩ ⟨Nat.le_of_ble_eq_true rfl, Nat.le_of_ble_eq_true rfl⟩ dX5_start_1 (fun r11_ S12_ H locs hp Y => ?_)
  obtain ⟨rfl, h⟩ := hp
  refine W.eq (g2 := F0 m 4 ls []) rfl ?_
  refine q_aload_n hx hb dX5_start_4 rfl (lv_at hl 1 rfl) ?_
  refine lv_iload_n hx hb dX5_start_5 rfl (lv_at hl 2 rfl) ?_
  refine q_nn [.int x2] e9_ ?_
  obtain ⟨k13_, h⟩ := h
  refine q_callV X Y hl (cm_X7_setRelease h) mt_X7_setRelease mi_X7_setRelease ml_X5_127 (ci := 7) rfl k13_ (by decide) rfl rfl (by first | exact Nat.le_of_ble_eq_true rfl | simp [q_cat, q_catI, q_catJ, q_catR]) ⟨Nat.le_of_ble_eq_true rfl, Nat.le_of_ble_eq_true rfl⟩ ⟨Nat.le_of_ble_eq_true rfl, Nat.le_of_ble_eq_true rfl⟩ dX5_start_6 (fun r14_ S15_ H locs hp Y => ?_)
  obtain ⟨rfl, h⟩ := hp
  refine W.eq (g2 := F0 m 9 ls []) rfl ?_
  refine q_aload_n hx hb dX5_start_9 rfl (lv_at hl 1 rfl) ?_
  refine q_nn [] e9_ ?_
  obtain ⟨k16_, h⟩ := h
  refine q_getI X Y kX7 0 rfl fl_X5_131 k16_ dX5_start_10 ?_
  refine lv_aload_n hx hb dX5_start_13 rfl (lv_at hl 0 rfl) ?_
  obtain ⟨k17_, h⟩ := h
  refine q_getI X Y kX5 16 rfl fl_X5_78 k17_ dX5_start_14 ?_
  refine lv_icmp_ne (tgt := 25) hx hb dX5_start_17 (by decide) (fun c18_ => ?_) (fun c18_ => ?_)
  · replace h := h.1 c18_
    exact cb_X5_start_25 X Y (lv_sub hl [0, 1, 2, 3] rfl) h
  · replace h := h.2 c18_
    refine lv_aload_n hx hb dX5_start_20 rfl (lv_at hl 0 rfl) ?_
    refine lv_iconst (v := (-1)) hx hb dX5_start_21 (by decide) ?_
    refine q_putI X Y kX5 16 rfl fl_X5_78 k17_ .int rfl ⟨rfl, rfl⟩ rfl dX5_start_22 (fun H locs Y => ?_)
    exact cb_X5_start_25 X Y (lv_sub hl [0, 1, 2, 3] rfl) h
-- X0_startOther
theorem ml_X0_131 : Cond.methodLink RX0 131 yX5_processAt ∈ q_G := q_tb (i := 1548) (by decide +kernel) (by decide +kernel)
theorem fl_X0_135 : Cond.fieldLink RX0 135 "PartitionWorks$Process" "state" "I" ∈ q_G := q_tb (i := 871) (by decide +kernel) (by decide +kernel)
theorem fl_X0_36 : Cond.fieldLink RX0 36 "PartitionWorks$Calls" "now" "I" ∈ q_G := q_tb (i := 268) (by decide +kernel) (by decide +kernel)
theorem ml_X0_138 : Cond.methodLink RX0 138 yX5_start ∈ q_G := q_tb (i := 1549) (by decide +kernel) (by decide +kernel)
theorem mt_X5_start : q_Mt yX5_start cX5_start 4 none 3 := ⟨q_tb (i := 1324) (by decide +kernel) (by decide +kernel), q_tb (i := 20) (by decide +kernel) (by decide +kernel), by decide +kernel, by decide +kernel, by decide +kernel⟩
theorem mi_X5_start : Cond.instanceMethod yX5_start ∈ q_G ∧ Cond.selects yX5_start.cls yX5_start yX5_start ∈ q_G := ⟨q_tb (i := 1322) (by decide +kernel) (by decide +kernel), q_tb (i := 1323) (by decide +kernel) (by decide +kernel)⟩
theorem dX0_startOther_0 : decode cX0_startOther 0 = .ok (.aload_n 0, 1) := by decide +kernel
theorem dX0_startOther_1 : decode cX0_startOther 1 = .ok (.getfield 15, 3) := by decide +kernel
theorem dX0_startOther_4 : decode cX0_startOther 4 = .ok (.iload_n 1, 1) := by decide +kernel
theorem dX0_startOther_5 : decode cX0_startOther 5 = .ok (.invokevirtual 131, 3) := by decide +kernel
theorem dX0_startOther_8 : decode cX0_startOther 8 = .ok (.astore_n 3, 1) := by decide +kernel
theorem dX0_startOther_9 : decode cX0_startOther 9 = .ok (.aload_n 3, 1) := by decide +kernel
theorem dX0_startOther_10 : decode cX0_startOther 10 = .ok (.ifnonnull 5, 3) := by decide +kernel
theorem dX0_startOther_13 : decode cX0_startOther 13 = .ok (.iconst 1, 1) := by decide +kernel
theorem dX0_startOther_14 : decode cX0_startOther 14 = .ok (.ireturn, 1) := by decide +kernel
theorem dX0_startOther_15 : decode cX0_startOther 15 = .ok (.aload_n 3, 1) := by decide +kernel
theorem dX0_startOther_16 : decode cX0_startOther 16 = .ok (.getfield 135, 3) := by decide +kernel
theorem dX0_startOther_19 : decode cX0_startOther 19 = .ok (.ifCond .eq 5, 3) := by decide +kernel
theorem dX0_startOther_22 : decode cX0_startOther 22 = .ok (.iconst 2, 1) := by decide +kernel
theorem dX0_startOther_23 : decode cX0_startOther 23 = .ok (.ireturn, 1) := by decide +kernel
theorem dX0_startOther_24 : decode cX0_startOther 24 = .ok (.aload_n 3, 1) := by decide +kernel
theorem dX0_startOther_25 : decode cX0_startOther 25 = .ok (.getfield 75, 3) := by decide +kernel
theorem dX0_startOther_28 : decode cX0_startOther 28 = .ok (.ifCond .eq 5, 3) := by decide +kernel
theorem dX0_startOther_31 : decode cX0_startOther 31 = .ok (.iconst 1, 1) := by decide +kernel
theorem dX0_startOther_32 : decode cX0_startOther 32 = .ok (.ireturn, 1) := by decide +kernel
theorem dX0_startOther_33 : decode cX0_startOther 33 = .ok (.aload_n 0, 1) := by decide +kernel
theorem dX0_startOther_34 : decode cX0_startOther 34 = .ok (.getfield 15, 3) := by decide +kernel
theorem dX0_startOther_37 : decode cX0_startOther 37 = .ok (.aload_n 3, 1) := by decide +kernel
theorem dX0_startOther_38 : decode cX0_startOther 38 = .ok (.aload_n 0, 1) := by decide +kernel
theorem dX0_startOther_39 : decode cX0_startOther 39 = .ok (.getfield 36, 3) := by decide +kernel
theorem dX0_startOther_42 : decode cX0_startOther 42 = .ok (.iload_n 2, 1) := by decide +kernel
theorem dX0_startOther_43 : decode cX0_startOther 43 = .ok (.iadd, 1) := by decide +kernel
theorem dX0_startOther_44 : decode cX0_startOther 44 = .ok (.aload_n 0, 1) := by decide +kernel
theorem dX0_startOther_45 : decode cX0_startOther 45 = .ok (.getfield 36, 3) := by decide +kernel
theorem dX0_startOther_48 : decode cX0_startOther 48 = .ok (.invokevirtual 138, 3) := by decide +kernel
theorem dX0_startOther_51 : decode cX0_startOther 51 = .ok (.iconst 0, 1) := by decide +kernel
theorem dX0_startOther_52 : decode cX0_startOther 52 = .ok (.ireturn, 1) := by decide +kernel
def wm_X0_startOther (S : q_S) (a0 : Nat) (x1 : Int32) (x2 : Int32) (Q : Option Value → q_S → Prop) : Prop := q_K S a0 = 1 ∧ (∃ a2_ : Nat, (q_P S 1 a0) = some a2_ ∧ (q_K S a2_ = 6 ∧ (wm_X5_processAt S a2_ x1 (fun r5_ S6_ => ∃ r7_ : Option Nat, r5_ = some (va_rf r7_) ∧ (((¬ r7_ = none → (∃ a9_ : Nat, r7_ = some a9_ ∧ (q_K S6_ a9_ = 8 ∧ ((((q_I S6_ 1409 a9_) = 0 → ((((q_I S6_ 1407 a9_) = 0 → (q_K S6_ a0 = 1 ∧ (∃ a15_ : Nat, (q_P S6_ 1 a0) = some a15_ ∧ (q_K S6_ a15_ = 6 ∧ (wm_X5_start S6_ a15_ r7_ ((q_I S6_ 4 a0) + x2) (q_I S6_ 4 a0) (fun r18_ S19_ => r18_ = none ∧ (Q (some (.int (0 : Int32))) S19_))))))) ∧ (¬ (q_I S6_ 1407 a9_) = 0 → (Q (some (.int (1 : Int32))) S6_))))) ∧ (¬ (q_I S6_ 1409 a9_) = 0 → (Q (some (.int (2 : Int32))) S6_))))))) ∧ (r7_ = none → (Q (some (.int (1 : Int32))) S6_))))))))
set_option maxHeartbeats 4000000 in
set_option maxRecDepth 100000 in
theorem cm_X0_startOther {l : Launch} {D : va_G} {cy : Nat → ClassId} {lo : Nat} {S : q_S} {a0 : Nat} {x1 : Int32} {x2 : Int32} {Q : Option Value → q_S → Prop} (h : wm_X0_startOther S a0 x1 x2 Q) : q_Met l D cy lo yX0_startOther cX0_startOther 4 (some .int) 3 66 0 0 [.ref a0, .int x1, .int x2] S Q := by
  refine q_body (by decide) (by first | exact Nat.le_of_ble_eq_true rfl | simp [lg_sl, q_cat, q_catI, q_catJ, q_catR]) ?_
  intro p e s m below meth c ls X hnm Y hl
  have hx := X.1
  have hb := X.2.1
  have hl : lv_has ls 4 [(0, .ref a0), (1, .int x1), (2, .int x2)] := by first | exact hl | simpa [lv_args, q_cat, q_catI, q_catJ, q_catR] using hl
  generalize hargs : ([.ref a0, .int x1, .int x2] : List Value).toArray = args at X ⊢
  unfold wm_X0_startOther at h
  refine lv_aload_n hx hb dX0_startOther_0 rfl (lv_at hl 0 rfl) ?_
  obtain ⟨k1_, h⟩ := h
  refine q_getP X Y kX0 1 rfl fl_X0_15 k1_ rfl dX0_startOther_1 ?_
  refine lv_iload_n hx hb dX0_startOther_4 rfl (lv_at hl 1 rfl) ?_
  obtain ⟨a2_, e3_, h⟩ := h
  refine q_nn [.int x1] e3_ ?_
  obtain ⟨k4_, h⟩ := h
  refine q_callV X Y hl (cm_X5_processAt h) mt_X5_processAt mi_X5_processAt ml_X0_131 (ci := 5) rfl k4_ (by decide) rfl rfl (by first | exact Nat.le_of_ble_eq_true rfl | simp [q_cat, q_catI, q_catJ, q_catR]) ⟨Nat.le_of_ble_eq_true rfl, Nat.le_of_ble_eq_true rfl⟩ ⟨Nat.le_of_ble_eq_true rfl, Nat.le_of_ble_eq_true rfl⟩ dX0_startOther_5 (fun r5_ S6_ H locs hp Y => ?_)
  obtain ⟨r7_, rfl, h⟩ := hp
  refine W.eq (g2 := F0 m 8 ls [va_rf r7_]) rfl ?_
  refine q_astore_n (i := 3) (lv' := [(3, va_rf r7_), (0, .ref a0), (1, .int x1), (2, .int x2)]) hx hb dX0_startOther_8 rfl hl (by decide) (by first | rfl | simp [q_cat, q_catI, q_catJ, q_catR]) (fun ls hl => ?_)
  refine q_aload_n hx hb dX0_startOther_9 rfl (lv_at hl 0 rfl) ?_
  refine q_ifnonnull (r := r7_) (tgt := 15) hx hb dX0_startOther_10 (by decide) (fun c8_ => ?_) (fun c8_ => ?_)
  · replace h := h.1 c8_
    refine q_aload_n hx hb dX0_startOther_15 rfl (lv_at hl 0 rfl) ?_
    obtain ⟨a9_, e10_, h⟩ := h
    refine q_nn [] e10_ ?_
    obtain ⟨k11_, h⟩ := h
    refine q_getI X Y kX7 9 rfl fl_X0_135 k11_ dX0_startOther_16 ?_
    refine lv_if_eq (tgt := 24) hx hb dX0_startOther_19 (by decide) (fun c12_ => ?_) (fun c12_ => ?_)
    · replace h := h.1 c12_
      refine q_aload_n hx hb dX0_startOther_24 rfl (lv_at hl 0 rfl) ?_
      refine q_nn [] e10_ ?_
      refine q_getI X Y kX7 7 rfl fl_X0_75 k11_ dX0_startOther_25 ?_
      refine lv_if_eq (tgt := 33) hx hb dX0_startOther_28 (by decide) (fun c13_ => ?_) (fun c13_ => ?_)
      · replace h := h.1 c13_
        refine lv_aload_n hx hb dX0_startOther_33 rfl (lv_at hl 1 rfl) ?_
        obtain ⟨k14_, h⟩ := h
        refine q_getP X Y kX0 1 rfl fl_X0_15 k14_ rfl dX0_startOther_34 ?_
        refine q_aload_n hx hb dX0_startOther_37 rfl (lv_at hl 0 rfl) ?_
        refine lv_aload_n hx hb dX0_startOther_38 rfl (lv_at hl 1 rfl) ?_
        refine q_getI X Y kX0 4 rfl fl_X0_36 k14_ dX0_startOther_39 ?_
        refine lv_iload_n hx hb dX0_startOther_42 rfl (lv_at hl 3 rfl) ?_
        refine lv_iadd hx hb dX0_startOther_43 ?_
        refine lv_aload_n hx hb dX0_startOther_44 rfl (lv_at hl 1 rfl) ?_
        refine q_getI X Y kX0 4 rfl fl_X0_36 k14_ dX0_startOther_45 ?_
        obtain ⟨a15_, e16_, h⟩ := h
        refine q_nn [.int (q_I S6_ 4 a0), .int ((q_I S6_ 4 a0) + x2), va_rf r7_] e16_ ?_
        obtain ⟨k17_, h⟩ := h
        refine q_callV X Y hl (cm_X5_start h) mt_X5_start mi_X5_start ml_X0_138 (ci := 5) rfl k17_ (by decide) rfl rfl (by first | exact Nat.le_of_ble_eq_true rfl | simp [q_cat, q_catI, q_catJ, q_catR]) ⟨Nat.le_of_ble_eq_true rfl, Nat.le_of_ble_eq_true rfl⟩ ⟨Nat.le_of_ble_eq_true rfl, Nat.le_of_ble_eq_true rfl⟩ dX0_startOther_48 (fun r18_ S19_ H locs hp Y => ?_)
        obtain ⟨rfl, h⟩ := hp
        refine W.eq (g2 := F0 m 51 ls []) rfl ?_
        refine lv_iconst (v := 0) hx hb dX0_startOther_51 (by decide) ?_
        exact q_iret X Y rfl (Nat.le_refl _) (Nat.le_refl _) h dX0_startOther_52
      · replace h := h.2 c13_
        refine lv_iconst (v := 1) hx hb dX0_startOther_31 (by decide) ?_
        exact q_iret X Y rfl (Nat.le_refl _) (Nat.le_refl _) h dX0_startOther_32
    · replace h := h.2 c12_
      refine lv_iconst (v := 2) hx hb dX0_startOther_22 (by decide) ?_
      exact q_iret X Y rfl (Nat.le_refl _) (Nat.le_refl _) h dX0_startOther_23
  · replace h := h.2 c8_
    refine lv_iconst (v := 1) hx hb dX0_startOther_13 (by decide) ?_
    exact q_iret X Y rfl (Nat.le_refl _) (Nat.le_refl _) h dX0_startOther_14
-- X0_stopOther
theorem ml_X0_93 : Cond.methodLink RX0 93 yX5_rest ∈ q_G := q_tb (i := 1524) (by decide +kernel) (by decide +kernel)
theorem mt_X5_rest : q_Mt yX5_rest cX5_rest 3 none 1 := ⟨q_tb (i := 1423) (by decide +kernel) (by decide +kernel), q_tb (i := 20) (by decide +kernel) (by decide +kernel), by decide +kernel, by decide +kernel, by decide +kernel⟩
theorem mi_X5_rest : Cond.instanceMethod yX5_rest ∈ q_G ∧ Cond.selects yX5_rest.cls yX5_rest yX5_rest ∈ q_G := ⟨q_tb (i := 1421) (by decide +kernel) (by decide +kernel), q_tb (i := 1422) (by decide +kernel) (by decide +kernel)⟩
theorem dX0_stopOther_0 : decode cX0_stopOther 0 = .ok (.aload_n 0, 1) := by decide +kernel
theorem dX0_stopOther_1 : decode cX0_stopOther 1 = .ok (.getfield 15, 3) := by decide +kernel
theorem dX0_stopOther_4 : decode cX0_stopOther 4 = .ok (.iload_n 1, 1) := by decide +kernel
theorem dX0_stopOther_5 : decode cX0_stopOther 5 = .ok (.invokevirtual 131, 3) := by decide +kernel
theorem dX0_stopOther_8 : decode cX0_stopOther 8 = .ok (.astore_n 2, 1) := by decide +kernel
theorem dX0_stopOther_9 : decode cX0_stopOther 9 = .ok (.aload_n 2, 1) := by decide +kernel
theorem dX0_stopOther_10 : decode cX0_stopOther 10 = .ok (.ifnull 10, 3) := by decide +kernel
theorem dX0_stopOther_13 : decode cX0_stopOther 13 = .ok (.aload_n 2, 1) := by decide +kernel
theorem dX0_stopOther_14 : decode cX0_stopOther 14 = .ok (.getfield 75, 3) := by decide +kernel
theorem dX0_stopOther_17 : decode cX0_stopOther 17 = .ok (.ifCond .eq 5, 3) := by decide +kernel
theorem dX0_stopOther_20 : decode cX0_stopOther 20 = .ok (.iconst 1, 1) := by decide +kernel
theorem dX0_stopOther_21 : decode cX0_stopOther 21 = .ok (.ireturn, 1) := by decide +kernel
theorem dX0_stopOther_22 : decode cX0_stopOther 22 = .ok (.aload_n 2, 1) := by decide +kernel
theorem dX0_stopOther_23 : decode cX0_stopOther 23 = .ok (.getfield 135, 3) := by decide +kernel
theorem dX0_stopOther_26 : decode cX0_stopOther 26 = .ok (.ifCond .ne 5, 3) := by decide +kernel
theorem dX0_stopOther_29 : decode cX0_stopOther 29 = .ok (.iconst 2, 1) := by decide +kernel
theorem dX0_stopOther_30 : decode cX0_stopOther 30 = .ok (.ireturn, 1) := by decide +kernel
theorem dX0_stopOther_31 : decode cX0_stopOther 31 = .ok (.aload_n 0, 1) := by decide +kernel
theorem dX0_stopOther_32 : decode cX0_stopOther 32 = .ok (.getfield 15, 3) := by decide +kernel
theorem dX0_stopOther_35 : decode cX0_stopOther 35 = .ok (.aload_n 2, 1) := by decide +kernel
theorem dX0_stopOther_36 : decode cX0_stopOther 36 = .ok (.invokevirtual 93, 3) := by decide +kernel
theorem dX0_stopOther_39 : decode cX0_stopOther 39 = .ok (.aload_n 2, 1) := by decide +kernel
theorem dX0_stopOther_40 : decode cX0_stopOther 40 = .ok (.aload_n 0, 1) := by decide +kernel
theorem dX0_stopOther_41 : decode cX0_stopOther 41 = .ok (.getfield 19, 3) := by decide +kernel
theorem dX0_stopOther_44 : decode cX0_stopOther 44 = .ok (.if_acmp .ne 7, 3) := by decide +kernel
theorem dX0_stopOther_47 : decode cX0_stopOther 47 = .ok (.iconst (-1), 1) := by decide +kernel
theorem dX0_stopOther_48 : decode cX0_stopOther 48 = .ok (.goto 4, 3) := by decide +kernel
theorem dX0_stopOther_51 : decode cX0_stopOther 51 = .ok (.iconst 0, 1) := by decide +kernel
theorem dX0_stopOther_52 : decode cX0_stopOther 52 = .ok (.ireturn, 1) := by decide +kernel
def wb_X0_stopOther_20  (S : q_S) (Q : Option Value → q_S → Prop) : Prop := Q (some (.int (1 : Int32))) S
set_option maxHeartbeats 4000000 in
set_option maxRecDepth 100000 in
theorem cb_X0_stopOther_20 {p : Program} {l : Launch} {e : Env} {s : State} {m : MethodId} {args : Array Value} {below : List Frame} {meth : Method} {c : Code} {D : va_G} {cy : Nat → ClassId} {lo : Nat}  {S : q_S} {Q : Option Value → q_S → Prop} {H : Heap} {locs : List Loc} {ls : Array Slot} (X : q_X p s m args meth c RX0 cX0_stopOther 3 (some .int) D cy lo)  (Y : q_Y D cy lo s S H locs) (hl : lv_has ls 3 []) (h : wb_X0_stopOther_20 S Q) : W p l e ({ frames := 2, cells := 0, slots := 0, locals := 43 } : Room) s m args below meth c H locs 0 0 (MQ below (q_Q D cy lo Q) args s 0 0 (fun q => lo ≤ q)) (F0 m 20 ls []) := by
  have hx := X.1
  have hb := X.2.1
  unfold wb_X0_stopOther_20 at h
  refine lv_iconst (v := 1) hx hb dX0_stopOther_20 (by decide) ?_
  exact q_iret X Y rfl (Nat.le_refl _) (Nat.le_refl _) h dX0_stopOther_21
def wb_X0_stopOther_52  (S : q_S) (xs0 : Int32) (Q : Option Value → q_S → Prop) : Prop := Q (some (.int xs0)) S
set_option maxHeartbeats 4000000 in
set_option maxRecDepth 100000 in
theorem cb_X0_stopOther_52 {p : Program} {l : Launch} {e : Env} {s : State} {m : MethodId} {args : Array Value} {below : List Frame} {meth : Method} {c : Code} {D : va_G} {cy : Nat → ClassId} {lo : Nat}  {S : q_S} {xs0 : Int32} {Q : Option Value → q_S → Prop} {H : Heap} {locs : List Loc} {ls : Array Slot} (X : q_X p s m args meth c RX0 cX0_stopOther 3 (some .int) D cy lo)  (Y : q_Y D cy lo s S H locs) (hl : lv_has ls 3 []) (h : wb_X0_stopOther_52 S xs0 Q) : W p l e ({ frames := 2, cells := 0, slots := 0, locals := 43 } : Room) s m args below meth c H locs 0 0 (MQ below (q_Q D cy lo Q) args s 0 0 (fun q => lo ≤ q)) (F0 m 52 ls [.int xs0]) := by
  have hx := X.1
  have hb := X.2.1
  unfold wb_X0_stopOther_52 at h
  exact q_iret X Y rfl (Nat.le_refl _) (Nat.le_refl _) h dX0_stopOther_52
def wm_X0_stopOther (S : q_S) (a0 : Nat) (x1 : Int32) (Q : Option Value → q_S → Prop) : Prop := q_K S a0 = 1 ∧ (∃ a2_ : Nat, (q_P S 1 a0) = some a2_ ∧ (q_K S a2_ = 6 ∧ (wm_X5_processAt S a2_ x1 (fun r5_ S6_ => ∃ r7_ : Option Nat, r5_ = some (va_rf r7_) ∧ (((r7_ = none → (wb_X0_stopOther_20 S6_ Q)) ∧ (¬ r7_ = none → (∃ a9_ : Nat, r7_ = some a9_ ∧ (q_K S6_ a9_ = 8 ∧ ((((q_I S6_ 1407 a9_) = 0 → (((¬ (q_I S6_ 1409 a9_) = 0 → (q_K S6_ a0 = 1 ∧ (∃ a15_ : Nat, (q_P S6_ 1 a0) = some a15_ ∧ (q_K S6_ a15_ = 6 ∧ (wm_X5_rest S6_ a15_ r7_ (fun r18_ S19_ => r18_ = none ∧ (q_K S19_ a0 = 1 ∧ (((¬ r7_ = (q_P S19_ 2 a0) → (wb_X0_stopOther_52 S19_ (0 : Int32) Q)) ∧ (r7_ = (q_P S19_ 2 a0) → (wb_X0_stopOther_52 S19_ (-1 : Int32) Q))))))))))) ∧ ((q_I S6_ 1409 a9_) = 0 → (Q (some (.int (2 : Int32))) S6_))))) ∧ (¬ (q_I S6_ 1407 a9_) = 0 → (wb_X0_stopOther_20 S6_ Q)))))))))))))
set_option maxHeartbeats 4000000 in
set_option maxRecDepth 100000 in
theorem cm_X0_stopOther {l : Launch} {D : va_G} {cy : Nat → ClassId} {lo : Nat} {S : q_S} {a0 : Nat} {x1 : Int32} {Q : Option Value → q_S → Prop} (h : wm_X0_stopOther S a0 x1 Q) : q_Met l D cy lo yX0_stopOther cX0_stopOther 3 (some .int) 2 43 0 0 [.ref a0, .int x1] S Q := by
  refine q_body (by decide) (by first | exact Nat.le_of_ble_eq_true rfl | simp [lg_sl, q_cat, q_catI, q_catJ, q_catR]) ?_
  intro p e s m below meth c ls X hnm Y hl
  have hx := X.1
  have hb := X.2.1
  have hl : lv_has ls 3 [(0, .ref a0), (1, .int x1)] := by first | exact hl | simpa [lv_args, q_cat, q_catI, q_catJ, q_catR] using hl
  generalize hargs : ([.ref a0, .int x1] : List Value).toArray = args at X ⊢
  unfold wm_X0_stopOther at h
  refine lv_aload_n hx hb dX0_stopOther_0 rfl (lv_at hl 0 rfl) ?_
  obtain ⟨k1_, h⟩ := h
  refine q_getP X Y kX0 1 rfl fl_X0_15 k1_ rfl dX0_stopOther_1 ?_
  refine lv_iload_n hx hb dX0_stopOther_4 rfl (lv_at hl 1 rfl) ?_
  obtain ⟨a2_, e3_, h⟩ := h
  refine q_nn [.int x1] e3_ ?_
  obtain ⟨k4_, h⟩ := h
  refine q_callV X Y hl (cm_X5_processAt h) mt_X5_processAt mi_X5_processAt ml_X0_131 (ci := 5) rfl k4_ (by decide) rfl rfl (by first | exact Nat.le_of_ble_eq_true rfl | simp [q_cat, q_catI, q_catJ, q_catR]) ⟨Nat.le_of_ble_eq_true rfl, Nat.le_of_ble_eq_true rfl⟩ ⟨Nat.le_of_ble_eq_true rfl, Nat.le_of_ble_eq_true rfl⟩ dX0_stopOther_5 (fun r5_ S6_ H locs hp Y => ?_)
  obtain ⟨r7_, rfl, h⟩ := hp
  refine W.eq (g2 := F0 m 8 ls [va_rf r7_]) rfl ?_
  refine q_astore_n (i := 2) (lv' := [(2, va_rf r7_), (0, .ref a0), (1, .int x1)]) hx hb dX0_stopOther_8 rfl hl (by decide) (by first | rfl | simp [q_cat, q_catI, q_catJ, q_catR]) (fun ls hl => ?_)
  refine q_aload_n hx hb dX0_stopOther_9 rfl (lv_at hl 0 rfl) ?_
  refine q_ifnull (r := r7_) (tgt := 20) hx hb dX0_stopOther_10 (by decide) (fun c8_ => ?_) (fun c8_ => ?_)
  · replace h := h.1 c8_
    exact cb_X0_stopOther_20 X Y (lv_sub hl [] rfl) h
  · replace h := h.2 c8_
    refine q_aload_n hx hb dX0_stopOther_13 rfl (lv_at hl 0 rfl) ?_
    obtain ⟨a9_, e10_, h⟩ := h
    refine q_nn [] e10_ ?_
    obtain ⟨k11_, h⟩ := h
    refine q_getI X Y kX7 7 rfl fl_X0_75 k11_ dX0_stopOther_14 ?_
    refine lv_if_eq (tgt := 22) hx hb dX0_stopOther_17 (by decide) (fun c12_ => ?_) (fun c12_ => ?_)
    · replace h := h.1 c12_
      refine q_aload_n hx hb dX0_stopOther_22 rfl (lv_at hl 0 rfl) ?_
      refine q_nn [] e10_ ?_
      refine q_getI X Y kX7 9 rfl fl_X0_135 k11_ dX0_stopOther_23 ?_
      refine lv_if_ne (tgt := 31) hx hb dX0_stopOther_26 (by decide) (fun c13_ => ?_) (fun c13_ => ?_)
      · replace h := h.1 c13_
        refine lv_aload_n hx hb dX0_stopOther_31 rfl (lv_at hl 1 rfl) ?_
        obtain ⟨k14_, h⟩ := h
        refine q_getP X Y kX0 1 rfl fl_X0_15 k14_ rfl dX0_stopOther_32 ?_
        refine q_aload_n hx hb dX0_stopOther_35 rfl (lv_at hl 0 rfl) ?_
        obtain ⟨a15_, e16_, h⟩ := h
        refine q_nn [va_rf r7_] e16_ ?_
        obtain ⟨k17_, h⟩ := h
        refine q_callV X Y hl (cm_X5_rest h) mt_X5_rest mi_X5_rest ml_X0_93 (ci := 5) rfl k17_ (by decide) rfl rfl (by first | exact Nat.le_of_ble_eq_true rfl | simp [q_cat, q_catI, q_catJ, q_catR]) ⟨Nat.le_of_ble_eq_true rfl, Nat.le_of_ble_eq_true rfl⟩ ⟨Nat.le_of_ble_eq_true rfl, Nat.le_of_ble_eq_true rfl⟩ dX0_stopOther_36 (fun r18_ S19_ H locs hp Y => ?_)
        obtain ⟨rfl, h⟩ := hp
        refine W.eq (g2 := F0 m 39 ls []) rfl ?_
        refine q_aload_n hx hb dX0_stopOther_39 rfl (lv_at hl 0 rfl) ?_
        refine lv_aload_n hx hb dX0_stopOther_40 rfl (lv_at hl 1 rfl) ?_
        obtain ⟨k20_, h⟩ := h
        refine q_getP X Y kX0 2 rfl fl_X0_19 k20_ rfl dX0_stopOther_41 ?_
        refine lv_acmp_ne (rx := r7_) (ry := (q_P S19_ 2 a0)) (tgt := 51) hx hb dX0_stopOther_44 (by decide) (fun c21_ => ?_) (fun c21_ => ?_)
        · replace h := h.1 c21_
          refine lv_iconst (v := 0) hx hb dX0_stopOther_51 (by decide) ?_
          exact cb_X0_stopOther_52 X Y (lv_sub hl [] rfl) h
        · replace h := h.2 c21_
          refine lv_iconst (v := (-1)) hx hb dX0_stopOther_47 (by decide) ?_
          refine lv_goto (tgt := 52) hx hb dX0_stopOther_48 (by decide) ?_
          exact cb_X0_stopOther_52 X Y (lv_sub hl [] rfl) h
      · replace h := h.2 c13_
        refine lv_iconst (v := 2) hx hb dX0_stopOther_29 (by decide) ?_
        exact q_iret X Y rfl (Nat.le_refl _) (Nat.le_refl _) h dX0_stopOther_30
    · replace h := h.2 c12_
      exact cb_X0_stopOther_20 X Y (lv_sub hl [] rfl) h
-- X0_setPriority
theorem fl_X0_141 : Cond.fieldLink RX0 141 "PartitionWorks$Process" "priority" "I" ∈ q_G := q_tb (i := 850) (by decide +kernel) (by decide +kernel)
theorem dX0_setPriority_0 : decode cX0_setPriority 0 = .ok (.aload_n 0, 1) := by decide +kernel
theorem dX0_setPriority_1 : decode cX0_setPriority 1 = .ok (.getfield 15, 3) := by decide +kernel
theorem dX0_setPriority_4 : decode cX0_setPriority 4 = .ok (.iload_n 1, 1) := by decide +kernel
theorem dX0_setPriority_5 : decode cX0_setPriority 5 = .ok (.invokevirtual 131, 3) := by decide +kernel
theorem dX0_setPriority_8 : decode cX0_setPriority 8 = .ok (.astore_n 3, 1) := by decide +kernel
theorem dX0_setPriority_9 : decode cX0_setPriority 9 = .ok (.aload_n 3, 1) := by decide +kernel
theorem dX0_setPriority_10 : decode cX0_setPriority 10 = .ok (.ifnull 13, 3) := by decide +kernel
theorem dX0_setPriority_13 : decode cX0_setPriority 13 = .ok (.iload_n 2, 1) := by decide +kernel
theorem dX0_setPriority_14 : decode cX0_setPriority 14 = .ok (.ifCond .lt 9, 3) := by decide +kernel
theorem dX0_setPriority_17 : decode cX0_setPriority 17 = .ok (.iload_n 2, 1) := by decide +kernel
theorem dX0_setPriority_18 : decode cX0_setPriority 18 = .ok (.bipush 15, 2) := by decide +kernel
theorem dX0_setPriority_20 : decode cX0_setPriority 20 = .ok (.if_icmp .le 5, 3) := by decide +kernel
theorem dX0_setPriority_23 : decode cX0_setPriority 23 = .ok (.iconst 1, 1) := by decide +kernel
theorem dX0_setPriority_24 : decode cX0_setPriority 24 = .ok (.ireturn, 1) := by decide +kernel
theorem dX0_setPriority_25 : decode cX0_setPriority 25 = .ok (.aload_n 3, 1) := by decide +kernel
theorem dX0_setPriority_26 : decode cX0_setPriority 26 = .ok (.iload_n 2, 1) := by decide +kernel
theorem dX0_setPriority_27 : decode cX0_setPriority 27 = .ok (.putfield 141, 3) := by decide +kernel
theorem dX0_setPriority_30 : decode cX0_setPriority 30 = .ok (.iconst 0, 1) := by decide +kernel
theorem dX0_setPriority_31 : decode cX0_setPriority 31 = .ok (.ireturn, 1) := by decide +kernel
def wb_X0_setPriority_23  (S : q_S) (Q : Option Value → q_S → Prop) : Prop := Q (some (.int (1 : Int32))) S
set_option maxHeartbeats 4000000 in
set_option maxRecDepth 100000 in
theorem cb_X0_setPriority_23 {p : Program} {l : Launch} {e : Env} {s : State} {m : MethodId} {args : Array Value} {below : List Frame} {meth : Method} {c : Code} {D : va_G} {cy : Nat → ClassId} {lo : Nat}  {S : q_S} {Q : Option Value → q_S → Prop} {H : Heap} {locs : List Loc} {ls : Array Slot} (X : q_X p s m args meth c RX0 cX0_setPriority 4 (some .int) D cy lo)  (Y : q_Y D cy lo s S H locs) (hl : lv_has ls 4 []) (h : wb_X0_setPriority_23 S Q) : W p l e ({ frames := 1, cells := 0, slots := 0, locals := 21 } : Room) s m args below meth c H locs 0 0 (MQ below (q_Q D cy lo Q) args s 0 0 (fun q => lo ≤ q)) (F0 m 23 ls []) := by
  have hx := X.1
  have hb := X.2.1
  unfold wb_X0_setPriority_23 at h
  refine lv_iconst (v := 1) hx hb dX0_setPriority_23 (by decide) ?_
  exact q_iret X Y rfl (Nat.le_refl _) (Nat.le_refl _) h dX0_setPriority_24
def wm_X0_setPriority (S : q_S) (a0 : Nat) (x1 : Int32) (x2 : Int32) (Q : Option Value → q_S → Prop) : Prop := q_K S a0 = 1 ∧ (∃ a2_ : Nat, (q_P S 1 a0) = some a2_ ∧ (q_K S a2_ = 6 ∧ (wm_X5_processAt S a2_ x1 (fun r5_ S6_ => ∃ r7_ : Option Nat, r5_ = some (va_rf r7_) ∧ (((r7_ = none → (wb_X0_setPriority_23 S6_ Q)) ∧ (¬ r7_ = none → (((x2 < 0 → (wb_X0_setPriority_23 S6_ Q)) ∧ (¬ x2 < 0 → (((x2 ≤ (15 : Int32) → (∃ a11_ : Nat, r7_ = some a11_ ∧ (q_K S6_ a11_ = 8 ∧ (Q (some (.int (0 : Int32))) (qs_I S6_ 1403 a11_ x2))))) ∧ (¬ x2 ≤ (15 : Int32) → (wb_X0_setPriority_23 S6_ Q))))))))))))))
set_option maxHeartbeats 4000000 in
set_option maxRecDepth 100000 in
theorem cm_X0_setPriority {l : Launch} {D : va_G} {cy : Nat → ClassId} {lo : Nat} {S : q_S} {a0 : Nat} {x1 : Int32} {x2 : Int32} {Q : Option Value → q_S → Prop} (h : wm_X0_setPriority S a0 x1 x2 Q) : q_Met l D cy lo yX0_setPriority cX0_setPriority 4 (some .int) 1 21 0 0 [.ref a0, .int x1, .int x2] S Q := by
  refine q_body (by decide) (by first | exact Nat.le_of_ble_eq_true rfl | simp [lg_sl, q_cat, q_catI, q_catJ, q_catR]) ?_
  intro p e s m below meth c ls X hnm Y hl
  have hx := X.1
  have hb := X.2.1
  have hl : lv_has ls 4 [(0, .ref a0), (1, .int x1), (2, .int x2)] := by first | exact hl | simpa [lv_args, q_cat, q_catI, q_catJ, q_catR] using hl
  generalize hargs : ([.ref a0, .int x1, .int x2] : List Value).toArray = args at X ⊢
  unfold wm_X0_setPriority at h
  refine lv_aload_n hx hb dX0_setPriority_0 rfl (lv_at hl 0 rfl) ?_
  obtain ⟨k1_, h⟩ := h
  refine q_getP X Y kX0 1 rfl fl_X0_15 k1_ rfl dX0_setPriority_1 ?_
  refine lv_iload_n hx hb dX0_setPriority_4 rfl (lv_at hl 1 rfl) ?_
  obtain ⟨a2_, e3_, h⟩ := h
  refine q_nn [.int x1] e3_ ?_
  obtain ⟨k4_, h⟩ := h
  refine q_callV X Y hl (cm_X5_processAt h) mt_X5_processAt mi_X5_processAt ml_X0_131 (ci := 5) rfl k4_ (by decide) rfl rfl (by first | exact Nat.le_of_ble_eq_true rfl | simp [q_cat, q_catI, q_catJ, q_catR]) ⟨Nat.le_of_ble_eq_true rfl, Nat.le_of_ble_eq_true rfl⟩ ⟨Nat.le_of_ble_eq_true rfl, Nat.le_of_ble_eq_true rfl⟩ dX0_setPriority_5 (fun r5_ S6_ H locs hp Y => ?_)
  obtain ⟨r7_, rfl, h⟩ := hp
  refine W.eq (g2 := F0 m 8 ls [va_rf r7_]) rfl ?_
  refine q_astore_n (i := 3) (lv' := [(3, va_rf r7_), (0, .ref a0), (1, .int x1), (2, .int x2)]) hx hb dX0_setPriority_8 rfl hl (by decide) (by first | rfl | simp [q_cat, q_catI, q_catJ, q_catR]) (fun ls hl => ?_)
  refine q_aload_n hx hb dX0_setPriority_9 rfl (lv_at hl 0 rfl) ?_
  refine q_ifnull (r := r7_) (tgt := 23) hx hb dX0_setPriority_10 (by decide) (fun c8_ => ?_) (fun c8_ => ?_)
  · replace h := h.1 c8_
    exact cb_X0_setPriority_23 X Y (lv_sub hl [] rfl) h
  · replace h := h.2 c8_
    refine lv_iload_n hx hb dX0_setPriority_13 rfl (lv_at hl 3 rfl) ?_
    refine lv_if_lt (tgt := 23) hx hb dX0_setPriority_14 (by decide) (fun c9_ => ?_) (fun c9_ => ?_)
    · replace h := h.1 c9_
      exact cb_X0_setPriority_23 X Y (lv_sub hl [] rfl) h
    · replace h := h.2 c9_
      refine lv_iload_n hx hb dX0_setPriority_17 rfl (lv_at hl 3 rfl) ?_
      refine lv_bipush (v := 15) hx hb dX0_setPriority_18 (by decide) ?_
      refine lv_icmp_le (tgt := 25) hx hb dX0_setPriority_20 (by decide) (fun c10_ => ?_) (fun c10_ => ?_)
      · replace h := h.1 c10_
        refine q_aload_n hx hb dX0_setPriority_25 rfl (lv_at hl 0 rfl) ?_
        refine lv_iload_n hx hb dX0_setPriority_26 rfl (lv_at hl 3 rfl) ?_
        obtain ⟨a11_, e12_, h⟩ := h
        refine q_nn [.int x2] e12_ ?_
        obtain ⟨k13_, h⟩ := h
        refine q_putI X Y kX7 3 rfl fl_X0_141 k13_ .int rfl ⟨rfl, rfl⟩ rfl dX0_setPriority_27 (fun H locs Y => ?_)
        refine lv_iconst (v := 0) hx hb dX0_setPriority_30 (by decide) ?_
        exact q_iret X Y rfl (Nat.le_refl _) (Nat.le_refl _) h dX0_setPriority_31
      · replace h := h.2 c10_
        exact cb_X0_setPriority_23 X Y (lv_sub hl [] rfl) h
-- X5_toTheBack
theorem dX5_toTheBack_0 : decode cX5_toTheBack 0 = .ok (.aload_n 0, 1) := by decide +kernel
theorem dX5_toTheBack_1 : decode cX5_toTheBack 1 = .ok (.dup, 1) := by decide +kernel
theorem dX5_toTheBack_2 : decode cX5_toTheBack 2 = .ok (.getfield 75, 3) := by decide +kernel
theorem dX5_toTheBack_5 : decode cX5_toTheBack 5 = .ok (.iconst 1, 1) := by decide +kernel
theorem dX5_toTheBack_6 : decode cX5_toTheBack 6 = .ok (.iadd, 1) := by decide +kernel
theorem dX5_toTheBack_7 : decode cX5_toTheBack 7 = .ok (.putfield 75, 3) := by decide +kernel
theorem dX5_toTheBack_10 : decode cX5_toTheBack 10 = .ok (.aload_n 1, 1) := by decide +kernel
theorem dX5_toTheBack_11 : decode cX5_toTheBack 11 = .ok (.aload_n 0, 1) := by decide +kernel
theorem dX5_toTheBack_12 : decode cX5_toTheBack 12 = .ok (.getfield 75, 3) := by decide +kernel
theorem dX5_toTheBack_15 : decode cX5_toTheBack 15 = .ok (.putfield 108, 3) := by decide +kernel
theorem dX5_toTheBack_18 : decode cX5_toTheBack 18 = .ok (.return_, 1) := by decide +kernel
def wm_X5_toTheBack (S : q_S) (a0 : Nat) (r1 : Option Nat) (Q : Option Value → q_S → Prop) : Prop := q_K S a0 = 6 ∧ (∃ a2_ : Nat, r1 = some a2_ ∧ (q_K (qs_I S 1015 a0 ((q_I S 1015 a0) + (1 : Int32))) a2_ = 8 ∧ (∀ S5_ : q_S, S5_ = (qs_I (qs_I S 1015 a0 ((q_I S 1015 a0) + (1 : Int32))) 1417 a2_ (q_I (qs_I S 1015 a0 ((q_I S 1015 a0) + (1 : Int32))) 1015 a0)) → (Q none S5_))))
set_option maxHeartbeats 4000000 in
set_option maxRecDepth 100000 in
theorem cm_X5_toTheBack {l : Launch} {D : va_G} {cy : Nat → ClassId} {lo : Nat} {S : q_S} {a0 : Nat} {r1 : Option Nat} {Q : Option Value → q_S → Prop} (h : wm_X5_toTheBack S a0 r1 Q) : q_Met l D cy lo yX5_toTheBack cX5_toTheBack 2 none 0 0 0 0 [.ref a0, va_rf r1] S Q := by
  refine q_body (by decide) (by first | exact Nat.le_of_ble_eq_true rfl | simp [lg_sl, q_cat, q_catI, q_catJ, q_catR]) ?_
  intro p e s m below meth c ls X hnm Y hl
  have hx := X.1
  have hb := X.2.1
  have hl : lv_has ls 2 [(0, .ref a0), (1, va_rf r1)] := by first | exact hl | simpa [lv_args, q_cat, q_catI, q_catJ, q_catR] using hl
  generalize hargs : ([.ref a0, va_rf r1] : List Value).toArray = args at X ⊢
  unfold wm_X5_toTheBack at h
  refine lv_aload_n hx hb dX5_toTheBack_0 rfl (lv_at hl 0 rfl) ?_
  refine lv_dup hx hb dX5_toTheBack_1 rfl ?_
  obtain ⟨k1_, h⟩ := h
  refine q_getI X Y kX5 15 rfl fl_X5_75 k1_ dX5_toTheBack_2 ?_
  refine lv_iconst (v := 1) hx hb dX5_toTheBack_5 (by decide) ?_
  refine lv_iadd hx hb dX5_toTheBack_6 ?_
  refine q_putI X Y kX5 15 rfl fl_X5_75 k1_ .int rfl ⟨rfl, rfl⟩ rfl dX5_toTheBack_7 (fun H locs Y => ?_)
  refine q_aload_n hx hb dX5_toTheBack_10 rfl (lv_at hl 1 rfl) ?_
  refine lv_aload_n hx hb dX5_toTheBack_11 rfl (lv_at hl 0 rfl) ?_
  refine q_getI X Y kX5 15 rfl fl_X5_75 k1_ dX5_toTheBack_12 ?_
  obtain ⟨a2_, e3_, h⟩ := h
  refine q_nn [.int (q_I (qs_I S 1015 a0 ((q_I S 1015 a0) + (1 : Int32))) 1015 a0)] e3_ ?_
  obtain ⟨k4_, h⟩ := h
  refine q_putI X Y kX7 17 rfl fl_X5_108 k4_ .int rfl ⟨rfl, rfl⟩ rfl dX5_toTheBack_15 (fun H locs Y => ?_)
  obtain ⟨S5_, gS5_⟩ : ∃ z : q_S, z = (qs_I (qs_I S 1015 a0 ((q_I S 1015 a0) + (1 : Int32))) 1417 a2_ (q_I (qs_I S 1015 a0 ((q_I S 1015 a0) + (1 : Int32))) 1015 a0)) := ⟨_, rfl⟩
  replace Y : q_Y D cy lo s S5_ H locs := by rw [gS5_]; exact Y
  replace h := h S5_ gS5_
  replace k1_ : q_K S5_ a0 = 6 := by rw [gS5_]; exact k1_
  replace k4_ : q_K S5_ a2_ = 8 := by rw [gS5_]; exact k4_
  exact q_vret X Y (Nat.le_refl _) (Nat.le_refl _) h dX5_toTheBack_18
-- X0_ofProcesses
theorem ml_X0_118 : Cond.methodLink RX0 118 yX5_toTheBack ∈ q_G := q_tb (i := 1558) (by decide +kernel) (by decide +kernel)
theorem mt_X5_toTheBack : q_Mt yX5_toTheBack cX5_toTheBack 2 none 1 := ⟨q_tb (i := 1561) (by decide +kernel) (by decide +kernel), q_tb (i := 20) (by decide +kernel) (by decide +kernel), by decide +kernel, by decide +kernel, by decide +kernel⟩
theorem mi_X5_toTheBack : Cond.instanceMethod yX5_toTheBack ∈ q_G ∧ Cond.selects yX5_toTheBack.cls yX5_toTheBack yX5_toTheBack ∈ q_G := ⟨q_tb (i := 1559) (by decide +kernel) (by decide +kernel), q_tb (i := 1560) (by decide +kernel) (by decide +kernel)⟩
theorem ml_X0_97 : Cond.methodLink RX0 97 yX0_waitForPeriod ∈ q_G := q_tb (i := 1525) (by decide +kernel) (by decide +kernel)
theorem mt_X0_waitForPeriod : q_Mt yX0_waitForPeriod cX0_waitForPeriod 1 (some .int) 0 := ⟨q_tb (i := 1528) (by decide +kernel) (by decide +kernel), q_tb (i := 10) (by decide +kernel) (by decide +kernel), by decide +kernel, by decide +kernel, by decide +kernel⟩
theorem mi_X0_waitForPeriod : Cond.instanceMethod yX0_waitForPeriod ∈ q_G ∧ Cond.selects yX0_waitForPeriod.cls yX0_waitForPeriod yX0_waitForPeriod ∈ q_G := ⟨q_tb (i := 1527) (by decide +kernel) (by decide +kernel), q_tp (i := 52) (q := (yX0_waitForPeriod, 5)) (by decide +kernel) (by decide +kernel)⟩
theorem ml_X0_101 : Cond.methodLink RX0 101 yX0_isNoDelay ∈ q_G := q_tb (i := 1539) (by decide +kernel) (by decide +kernel)
theorem mt_X0_isNoDelay : q_Mt yX0_isNoDelay cX0_isNoDelay 2 (some .boolean) 1 := ⟨q_tb (i := 1542) (by decide +kernel) (by decide +kernel), q_tb (i := 10) (by decide +kernel) (by decide +kernel), by decide +kernel, by decide +kernel, by decide +kernel⟩
theorem mi_X0_isNoDelay : Cond.instanceMethod yX0_isNoDelay ∈ q_G ∧ Cond.selects yX0_isNoDelay.cls yX0_isNoDelay yX0_isNoDelay ∈ q_G := ⟨q_tb (i := 1541) (by decide +kernel) (by decide +kernel), q_tp (i := 55) (q := (yX0_isNoDelay, 5)) (by decide +kernel) (by decide +kernel)⟩
theorem ml_X0_109 : Cond.methodLink RX0 109 yX0_startOther ∈ q_G := q_tb (i := 1544) (by decide +kernel) (by decide +kernel)
theorem mt_X0_startOther : q_Mt yX0_startOther cX0_startOther 4 (some .int) 2 := ⟨q_tb (i := 1547) (by decide +kernel) (by decide +kernel), q_tb (i := 10) (by decide +kernel) (by decide +kernel), by decide +kernel, by decide +kernel, by decide +kernel⟩
theorem mi_X0_startOther : Cond.instanceMethod yX0_startOther ∈ q_G ∧ Cond.selects yX0_startOther.cls yX0_startOther yX0_startOther ∈ q_G := ⟨q_tb (i := 1546) (by decide +kernel) (by decide +kernel), q_tp (i := 56) (q := (yX0_startOther, 5)) (by decide +kernel) (by decide +kernel)⟩
theorem ml_X0_112 : Cond.methodLink RX0 112 yX0_stopOther ∈ q_G := q_tb (i := 1550) (by decide +kernel) (by decide +kernel)
theorem mt_X0_stopOther : q_Mt yX0_stopOther cX0_stopOther 3 (some .int) 1 := ⟨q_tb (i := 1553) (by decide +kernel) (by decide +kernel), q_tb (i := 10) (by decide +kernel) (by decide +kernel), by decide +kernel, by decide +kernel, by decide +kernel⟩
theorem mi_X0_stopOther : Cond.instanceMethod yX0_stopOther ∈ q_G ∧ Cond.selects yX0_stopOther.cls yX0_stopOther yX0_stopOther ∈ q_G := ⟨q_tb (i := 1552) (by decide +kernel) (by decide +kernel), q_tp (i := 57) (q := (yX0_stopOther, 5)) (by decide +kernel) (by decide +kernel)⟩
theorem ml_X0_115 : Cond.methodLink RX0 115 yX0_setPriority ∈ q_G := q_tb (i := 1554) (by decide +kernel) (by decide +kernel)
theorem mt_X0_setPriority : q_Mt yX0_setPriority cX0_setPriority 4 (some .int) 2 := ⟨q_tb (i := 1557) (by decide +kernel) (by decide +kernel), q_tb (i := 10) (by decide +kernel) (by decide +kernel), by decide +kernel, by decide +kernel, by decide +kernel⟩
theorem mi_X0_setPriority : Cond.instanceMethod yX0_setPriority ∈ q_G ∧ Cond.selects yX0_setPriority.cls yX0_setPriority yX0_setPriority ∈ q_G := ⟨q_tb (i := 1556) (by decide +kernel) (by decide +kernel), q_tp (i := 58) (q := (yX0_setPriority, 5)) (by decide +kernel) (by decide +kernel)⟩
theorem dX0_ofProcesses_0 : decode cX0_ofProcesses 0 = .ok (.iload_n 1, 1) := by decide +kernel
theorem dX0_ofProcesses_1 : decode cX0_ofProcesses 1 = .ok (.tableswitch 109 0 6 #[43, 56, 61, 84, 91, 97, 104], 43) := by decide +kernel
theorem dX0_ofProcesses_44 : decode cX0_ofProcesses 44 = .ok (.aload_n 0, 1) := by decide +kernel
theorem dX0_ofProcesses_45 : decode cX0_ofProcesses 45 = .ok (.getfield 15, 3) := by decide +kernel
theorem dX0_ofProcesses_48 : decode cX0_ofProcesses 48 = .ok (.aload_n 0, 1) := by decide +kernel
theorem dX0_ofProcesses_49 : decode cX0_ofProcesses 49 = .ok (.getfield 19, 3) := by decide +kernel
theorem dX0_ofProcesses_52 : decode cX0_ofProcesses 52 = .ok (.invokevirtual 93, 3) := by decide +kernel
theorem dX0_ofProcesses_55 : decode cX0_ofProcesses 55 = .ok (.iconst (-1), 1) := by decide +kernel
theorem dX0_ofProcesses_56 : decode cX0_ofProcesses 56 = .ok (.ireturn, 1) := by decide +kernel
theorem dX0_ofProcesses_57 : decode cX0_ofProcesses 57 = .ok (.aload_n 0, 1) := by decide +kernel
theorem dX0_ofProcesses_58 : decode cX0_ofProcesses 58 = .ok (.invokevirtual 97, 3) := by decide +kernel
theorem dX0_ofProcesses_61 : decode cX0_ofProcesses 61 = .ok (.ireturn, 1) := by decide +kernel
theorem dX0_ofProcesses_62 : decode cX0_ofProcesses 62 = .ok (.aload_n 0, 1) := by decide +kernel
theorem dX0_ofProcesses_63 : decode cX0_ofProcesses 63 = .ok (.iload_n 2, 1) := by decide +kernel
theorem dX0_ofProcesses_64 : decode cX0_ofProcesses 64 = .ok (.invokevirtual 101, 3) := by decide +kernel
theorem dX0_ofProcesses_67 : decode cX0_ofProcesses 67 = .ok (.ifCond .eq 7, 3) := by decide +kernel
theorem dX0_ofProcesses_70 : decode cX0_ofProcesses 70 = .ok (.iconst 1, 1) := by decide +kernel
theorem dX0_ofProcesses_71 : decode cX0_ofProcesses 71 = .ok (.goto 13, 3) := by decide +kernel
theorem dX0_ofProcesses_74 : decode cX0_ofProcesses 74 = .ok (.aload_n 0, 1) := by decide +kernel
theorem dX0_ofProcesses_75 : decode cX0_ofProcesses 75 = .ok (.aload_n 0, 1) := by decide +kernel
theorem dX0_ofProcesses_76 : decode cX0_ofProcesses 76 = .ok (.getfield 36, 3) := by decide +kernel
theorem dX0_ofProcesses_79 : decode cX0_ofProcesses 79 = .ok (.iload_n 2, 1) := by decide +kernel
theorem dX0_ofProcesses_80 : decode cX0_ofProcesses 80 = .ok (.iadd, 1) := by decide +kernel
theorem dX0_ofProcesses_81 : decode cX0_ofProcesses 81 = .ok (.invokevirtual 105, 3) := by decide +kernel
theorem dX0_ofProcesses_84 : decode cX0_ofProcesses 84 = .ok (.ireturn, 1) := by decide +kernel
theorem dX0_ofProcesses_85 : decode cX0_ofProcesses 85 = .ok (.aload_n 0, 1) := by decide +kernel
theorem dX0_ofProcesses_86 : decode cX0_ofProcesses 86 = .ok (.iload_n 2, 1) := by decide +kernel
theorem dX0_ofProcesses_87 : decode cX0_ofProcesses 87 = .ok (.iconst 0, 1) := by decide +kernel
theorem dX0_ofProcesses_88 : decode cX0_ofProcesses 88 = .ok (.invokevirtual 109, 3) := by decide +kernel
theorem dX0_ofProcesses_91 : decode cX0_ofProcesses 91 = .ok (.ireturn, 1) := by decide +kernel
theorem dX0_ofProcesses_92 : decode cX0_ofProcesses 92 = .ok (.aload_n 0, 1) := by decide +kernel
theorem dX0_ofProcesses_93 : decode cX0_ofProcesses 93 = .ok (.iload_n 2, 1) := by decide +kernel
theorem dX0_ofProcesses_94 : decode cX0_ofProcesses 94 = .ok (.invokevirtual 112, 3) := by decide +kernel
theorem dX0_ofProcesses_97 : decode cX0_ofProcesses 97 = .ok (.ireturn, 1) := by decide +kernel
theorem dX0_ofProcesses_98 : decode cX0_ofProcesses 98 = .ok (.aload_n 0, 1) := by decide +kernel
theorem dX0_ofProcesses_99 : decode cX0_ofProcesses 99 = .ok (.iload_n 2, 1) := by decide +kernel
theorem dX0_ofProcesses_100 : decode cX0_ofProcesses 100 = .ok (.iload_n 3, 1) := by decide +kernel
theorem dX0_ofProcesses_101 : decode cX0_ofProcesses 101 = .ok (.invokevirtual 115, 3) := by decide +kernel
theorem dX0_ofProcesses_104 : decode cX0_ofProcesses 104 = .ok (.ireturn, 1) := by decide +kernel
theorem dX0_ofProcesses_105 : decode cX0_ofProcesses 105 = .ok (.aload_n 0, 1) := by decide +kernel
theorem dX0_ofProcesses_106 : decode cX0_ofProcesses 106 = .ok (.getfield 36, 3) := by decide +kernel
theorem dX0_ofProcesses_109 : decode cX0_ofProcesses 109 = .ok (.ireturn, 1) := by decide +kernel
theorem dX0_ofProcesses_110 : decode cX0_ofProcesses 110 = .ok (.aload_n 0, 1) := by decide +kernel
theorem dX0_ofProcesses_111 : decode cX0_ofProcesses 111 = .ok (.getfield 15, 3) := by decide +kernel
theorem dX0_ofProcesses_114 : decode cX0_ofProcesses 114 = .ok (.aload_n 0, 1) := by decide +kernel
theorem dX0_ofProcesses_115 : decode cX0_ofProcesses 115 = .ok (.getfield 19, 3) := by decide +kernel
theorem dX0_ofProcesses_118 : decode cX0_ofProcesses 118 = .ok (.invokevirtual 118, 3) := by decide +kernel
theorem dX0_ofProcesses_121 : decode cX0_ofProcesses 121 = .ok (.iconst 0, 1) := by decide +kernel
theorem dX0_ofProcesses_122 : decode cX0_ofProcesses 122 = .ok (.ireturn, 1) := by decide +kernel
def wb_X0_ofProcesses_84  (S : q_S) (xs0 : Int32) (Q : Option Value → q_S → Prop) : Prop := Q (some (.int xs0)) S
set_option maxHeartbeats 4000000 in
set_option maxRecDepth 100000 in
theorem cb_X0_ofProcesses_84 {p : Program} {l : Launch} {e : Env} {s : State} {m : MethodId} {args : Array Value} {below : List Frame} {meth : Method} {c : Code} {D : va_G} {cy : Nat → ClassId} {lo : Nat}  {S : q_S} {xs0 : Int32} {Q : Option Value → q_S → Prop} {H : Heap} {locs : List Loc} {ls : Array Slot} (X : q_X p s m args meth c RX0 cX0_ofProcesses 4 (some .int) D cy lo)  (Y : q_Y D cy lo s S H locs) (hl : lv_has ls 4 []) (h : wb_X0_ofProcesses_84 S xs0 Q) : W p l e ({ frames := 4, cells := 0, slots := 0, locals := 89 } : Room) s m args below meth c H locs 0 0 (MQ below (q_Q D cy lo Q) args s 0 0 (fun q => lo ≤ q)) (F0 m 84 ls [.int xs0]) := by
  have hx := X.1
  have hb := X.2.1
  unfold wb_X0_ofProcesses_84 at h
  exact q_iret X Y rfl (Nat.le_refl _) (Nat.le_refl _) h dX0_ofProcesses_84
def wm_X0_ofProcesses (S : q_S) (a0 : Nat) (x1 : Int32) (x2 : Int32) (x3 : Int32) (Q : Option Value → q_S → Prop) : Prop := (((x1.toInt < 0 ∨ 6 < x1.toInt) → (q_K S a0 = 1 ∧ (∃ a2_ : Nat, (q_P S 1 a0) = some a2_ ∧ (q_K S a2_ = 6 ∧ (wm_X5_toTheBack S a2_ (q_P S 2 a0) (fun r5_ S6_ => r5_ = none ∧ (Q (some (.int (0 : Int32))) S6_))))))) ∧ ((x1 = (0 : Int32)) → (q_K S a0 = 1 ∧ (∃ a8_ : Nat, (q_P S 1 a0) = some a8_ ∧ (q_K S a8_ = 6 ∧ (wm_X5_rest S a8_ (q_P S 2 a0) (fun r11_ S12_ => r11_ = none ∧ (Q (some (.int (-1 : Int32))) S12_))))))) ∧ ((x1 = (1 : Int32)) → (q_K S a0 = 1 ∧ (wm_X0_waitForPeriod S a0 (fun r14_ S15_ => ∃ x16_ : Int32, r14_ = some (.int x16_) ∧ (Q (some (.int x16_)) S15_))))) ∧ ((x1 = (2 : Int32)) → (q_K S a0 = 1 ∧ (wm_X0_isNoDelay S a0 x2 (fun r18_ S19_ => ∃ x20_ : Int32, r18_ = some (.int x20_) ∧ (((x20_ = 0 → (q_K S19_ a0 = 1 ∧ (wm_X0_waitUntil S19_ a0 ((q_I S19_ 4 a0) + x2) (fun r23_ S24_ => ∃ x25_ : Int32, r23_ = some (.int x25_) ∧ (wb_X0_ofProcesses_84 S24_ x25_ Q))))) ∧ (¬ x20_ = 0 → (wb_X0_ofProcesses_84 S19_ (1 : Int32) Q)))))))) ∧ ((x1 = (3 : Int32)) → (q_K S a0 = 1 ∧ (wm_X0_startOther S a0 x2 (0 : Int32) (fun r27_ S28_ => ∃ x29_ : Int32, r27_ = some (.int x29_) ∧ (Q (some (.int x29_)) S28_))))) ∧ ((x1 = (4 : Int32)) → (q_K S a0 = 1 ∧ (wm_X0_stopOther S a0 x2 (fun r31_ S32_ => ∃ x33_ : Int32, r31_ = some (.int x33_) ∧ (Q (some (.int x33_)) S32_))))) ∧ ((x1 = (5 : Int32)) → (q_K S a0 = 1 ∧ (wm_X0_setPriority S a0 x2 x3 (fun r35_ S36_ => ∃ x37_ : Int32, r35_ = some (.int x37_) ∧ (Q (some (.int x37_)) S36_))))) ∧ ((x1 = (6 : Int32)) → (q_K S a0 = 1 ∧ (Q (some (.int (q_I S 4 a0))) S))))
set_option maxHeartbeats 4000000 in
set_option maxRecDepth 100000 in
theorem cm_X0_ofProcesses {l : Launch} {D : va_G} {cy : Nat → ClassId} {lo : Nat} {S : q_S} {a0 : Nat} {x1 : Int32} {x2 : Int32} {x3 : Int32} {Q : Option Value → q_S → Prop} (h : wm_X0_ofProcesses S a0 x1 x2 x3 Q) : q_Met l D cy lo yX0_ofProcesses cX0_ofProcesses 4 (some .int) 4 89 0 0 [.ref a0, .int x1, .int x2, .int x3] S Q := by
  refine q_body (by decide) (by first | exact Nat.le_of_ble_eq_true rfl | simp [lg_sl, q_cat, q_catI, q_catJ, q_catR]) ?_
  intro p e s m below meth c ls X hnm Y hl
  have hx := X.1
  have hb := X.2.1
  have hl : lv_has ls 4 [(0, .ref a0), (1, .int x1), (2, .int x2), (3, .int x3)] := by first | exact hl | simpa [lv_args, q_cat, q_catI, q_catJ, q_catR] using hl
  generalize hargs : ([.ref a0, .int x1, .int x2, .int x3] : List Value).toArray = args at X ⊢
  unfold wm_X0_ofProcesses at h
  refine lv_iload_n hx hb dX0_ofProcesses_0 rfl (lv_at hl 1 rfl) ?_
  refine q_tsw (tgt := 110) hx hb dX0_ofProcesses_1 (by decide) (by decide) (fun c39_ => ?_) (fun j40_ hj_ c39_ => ?_)
  · replace h := h.1 c39_
    refine lv_aload_n hx hb dX0_ofProcesses_110 rfl (lv_at hl 0 rfl) ?_
    obtain ⟨k1_, h⟩ := h
    refine q_getP X Y kX0 1 rfl fl_X0_15 k1_ rfl dX0_ofProcesses_111 ?_
    refine lv_aload_n hx hb dX0_ofProcesses_114 rfl (lv_at hl 0 rfl) ?_
    refine q_getP X Y kX0 2 rfl fl_X0_19 k1_ rfl dX0_ofProcesses_115 ?_
    obtain ⟨a2_, e3_, h⟩ := h
    refine q_nn [va_rf (q_P S 2 a0)] e3_ ?_
    obtain ⟨k4_, h⟩ := h
    refine q_callV X Y hl (cm_X5_toTheBack h) mt_X5_toTheBack mi_X5_toTheBack ml_X0_118 (ci := 5) rfl k4_ (by decide) rfl rfl (by first | exact Nat.le_of_ble_eq_true rfl | simp [q_cat, q_catI, q_catJ, q_catR]) ⟨Nat.le_of_ble_eq_true rfl, Nat.le_of_ble_eq_true rfl⟩ ⟨Nat.le_of_ble_eq_true rfl, Nat.le_of_ble_eq_true rfl⟩ dX0_ofProcesses_118 (fun r5_ S6_ H locs hp Y => ?_)
    obtain ⟨rfl, h⟩ := hp
    refine W.eq (g2 := F0 m 121 ls []) rfl ?_
    refine lv_iconst (v := 0) hx hb dX0_ofProcesses_121 (by decide) ?_
    exact q_iret X Y rfl (Nat.le_refl _) (Nat.le_refl _) h dX0_ofProcesses_122
  · match j40_, hj_, c39_ with
    | 0, _, c39_ =>
      refine ⟨43, 44, rfl, by decide, ?_⟩
      replace h := h.2.1 (q_eqI c39_ (by decide))
      refine lv_aload_n hx hb dX0_ofProcesses_44 rfl (lv_at hl 0 rfl) ?_
      obtain ⟨k7_, h⟩ := h
      refine q_getP X Y kX0 1 rfl fl_X0_15 k7_ rfl dX0_ofProcesses_45 ?_
      refine lv_aload_n hx hb dX0_ofProcesses_48 rfl (lv_at hl 0 rfl) ?_
      refine q_getP X Y kX0 2 rfl fl_X0_19 k7_ rfl dX0_ofProcesses_49 ?_
      obtain ⟨a8_, e9_, h⟩ := h
      refine q_nn [va_rf (q_P S 2 a0)] e9_ ?_
      obtain ⟨k10_, h⟩ := h
      refine q_callV X Y hl (cm_X5_rest h) mt_X5_rest mi_X5_rest ml_X0_93 (ci := 5) rfl k10_ (by decide) rfl rfl (by first | exact Nat.le_of_ble_eq_true rfl | simp [q_cat, q_catI, q_catJ, q_catR]) ⟨Nat.le_of_ble_eq_true rfl, Nat.le_of_ble_eq_true rfl⟩ ⟨Nat.le_of_ble_eq_true rfl, Nat.le_of_ble_eq_true rfl⟩ dX0_ofProcesses_52 (fun r11_ S12_ H locs hp Y => ?_)
      obtain ⟨rfl, h⟩ := hp
      refine W.eq (g2 := F0 m 55 ls []) rfl ?_
      refine lv_iconst (v := (-1)) hx hb dX0_ofProcesses_55 (by decide) ?_
      exact q_iret X Y rfl (Nat.le_refl _) (Nat.le_refl _) h dX0_ofProcesses_56
    | 1, _, c39_ =>
      refine ⟨56, 57, rfl, by decide, ?_⟩
      replace h := h.2.2.1 (q_eqI c39_ (by decide))
      refine lv_aload_n hx hb dX0_ofProcesses_57 rfl (lv_at hl 0 rfl) ?_
      obtain ⟨k13_, h⟩ := h
      refine q_callV X Y hl (cm_X0_waitForPeriod h) mt_X0_waitForPeriod mi_X0_waitForPeriod ml_X0_97 (ci := 0) rfl k13_ (by decide) rfl rfl (by first | exact Nat.le_of_ble_eq_true rfl | simp [q_cat, q_catI, q_catJ, q_catR]) ⟨Nat.le_of_ble_eq_true rfl, Nat.le_of_ble_eq_true rfl⟩ ⟨Nat.le_of_ble_eq_true rfl, Nat.le_of_ble_eq_true rfl⟩ dX0_ofProcesses_58 (fun r14_ S15_ H locs hp Y => ?_)
      obtain ⟨x16_, rfl, h⟩ := hp
      refine W.eq (g2 := F0 m 61 ls [.int x16_]) rfl ?_
      exact q_iret X Y rfl (Nat.le_refl _) (Nat.le_refl _) h dX0_ofProcesses_61
    | 2, _, c39_ =>
      refine ⟨61, 62, rfl, by decide, ?_⟩
      replace h := h.2.2.2.1 (q_eqI c39_ (by decide))
      refine lv_aload_n hx hb dX0_ofProcesses_62 rfl (lv_at hl 0 rfl) ?_
      refine lv_iload_n hx hb dX0_ofProcesses_63 rfl (lv_at hl 2 rfl) ?_
      obtain ⟨k17_, h⟩ := h
      refine q_callV X Y hl (cm_X0_isNoDelay h) mt_X0_isNoDelay mi_X0_isNoDelay ml_X0_101 (ci := 0) rfl k17_ (by decide) rfl rfl (by first | exact Nat.le_of_ble_eq_true rfl | simp [q_cat, q_catI, q_catJ, q_catR]) ⟨Nat.le_of_ble_eq_true rfl, Nat.le_of_ble_eq_true rfl⟩ ⟨Nat.le_of_ble_eq_true rfl, Nat.le_of_ble_eq_true rfl⟩ dX0_ofProcesses_64 (fun r18_ S19_ H locs hp Y => ?_)
      obtain ⟨x20_, rfl, h⟩ := hp
      refine W.eq (g2 := F0 m 67 ls [.int x20_]) rfl ?_
      refine lv_if_eq (tgt := 74) hx hb dX0_ofProcesses_67 (by decide) (fun c21_ => ?_) (fun c21_ => ?_)
      · replace h := h.1 c21_
        refine lv_aload_n hx hb dX0_ofProcesses_74 rfl (lv_at hl 0 rfl) ?_
        refine lv_aload_n hx hb dX0_ofProcesses_75 rfl (lv_at hl 0 rfl) ?_
        obtain ⟨k22_, h⟩ := h
        refine q_getI X Y kX0 4 rfl fl_X0_36 k22_ dX0_ofProcesses_76 ?_
        refine lv_iload_n hx hb dX0_ofProcesses_79 rfl (lv_at hl 2 rfl) ?_
        refine lv_iadd hx hb dX0_ofProcesses_80 ?_
        refine q_callV X Y hl (cm_X0_waitUntil h) mt_X0_waitUntil mi_X0_waitUntil ml_X0_105 (ci := 0) rfl k22_ (by decide) rfl rfl (by first | exact Nat.le_of_ble_eq_true rfl | simp [q_cat, q_catI, q_catJ, q_catR]) ⟨Nat.le_of_ble_eq_true rfl, Nat.le_of_ble_eq_true rfl⟩ ⟨Nat.le_of_ble_eq_true rfl, Nat.le_of_ble_eq_true rfl⟩ dX0_ofProcesses_81 (fun r23_ S24_ H locs hp Y => ?_)
        obtain ⟨x25_, rfl, h⟩ := hp
        refine W.eq (g2 := F0 m 84 ls [.int x25_]) rfl ?_
        exact cb_X0_ofProcesses_84 X Y (lv_sub hl [] rfl) h
      · replace h := h.2 c21_
        refine lv_iconst (v := 1) hx hb dX0_ofProcesses_70 (by decide) ?_
        refine lv_goto (tgt := 84) hx hb dX0_ofProcesses_71 (by decide) ?_
        exact cb_X0_ofProcesses_84 X Y (lv_sub hl [] rfl) h
    | 3, _, c39_ =>
      refine ⟨84, 85, rfl, by decide, ?_⟩
      replace h := h.2.2.2.2.1 (q_eqI c39_ (by decide))
      refine lv_aload_n hx hb dX0_ofProcesses_85 rfl (lv_at hl 0 rfl) ?_
      refine lv_iload_n hx hb dX0_ofProcesses_86 rfl (lv_at hl 2 rfl) ?_
      refine lv_iconst (v := 0) hx hb dX0_ofProcesses_87 (by decide) ?_
      obtain ⟨k26_, h⟩ := h
      refine q_callV X Y hl (cm_X0_startOther h) mt_X0_startOther mi_X0_startOther ml_X0_109 (ci := 0) rfl k26_ (by decide) rfl rfl (by first | exact Nat.le_of_ble_eq_true rfl | simp [q_cat, q_catI, q_catJ, q_catR]) ⟨Nat.le_of_ble_eq_true rfl, Nat.le_of_ble_eq_true rfl⟩ ⟨Nat.le_of_ble_eq_true rfl, Nat.le_of_ble_eq_true rfl⟩ dX0_ofProcesses_88 (fun r27_ S28_ H locs hp Y => ?_)
      obtain ⟨x29_, rfl, h⟩ := hp
      refine W.eq (g2 := F0 m 91 ls [.int x29_]) rfl ?_
      exact q_iret X Y rfl (Nat.le_refl _) (Nat.le_refl _) h dX0_ofProcesses_91
    | 4, _, c39_ =>
      refine ⟨91, 92, rfl, by decide, ?_⟩
      replace h := h.2.2.2.2.2.1 (q_eqI c39_ (by decide))
      refine lv_aload_n hx hb dX0_ofProcesses_92 rfl (lv_at hl 0 rfl) ?_
      refine lv_iload_n hx hb dX0_ofProcesses_93 rfl (lv_at hl 2 rfl) ?_
      obtain ⟨k30_, h⟩ := h
      refine q_callV X Y hl (cm_X0_stopOther h) mt_X0_stopOther mi_X0_stopOther ml_X0_112 (ci := 0) rfl k30_ (by decide) rfl rfl (by first | exact Nat.le_of_ble_eq_true rfl | simp [q_cat, q_catI, q_catJ, q_catR]) ⟨Nat.le_of_ble_eq_true rfl, Nat.le_of_ble_eq_true rfl⟩ ⟨Nat.le_of_ble_eq_true rfl, Nat.le_of_ble_eq_true rfl⟩ dX0_ofProcesses_94 (fun r31_ S32_ H locs hp Y => ?_)
      obtain ⟨x33_, rfl, h⟩ := hp
      refine W.eq (g2 := F0 m 97 ls [.int x33_]) rfl ?_
      exact q_iret X Y rfl (Nat.le_refl _) (Nat.le_refl _) h dX0_ofProcesses_97
    | 5, _, c39_ =>
      refine ⟨97, 98, rfl, by decide, ?_⟩
      replace h := h.2.2.2.2.2.2.1 (q_eqI c39_ (by decide))
      refine lv_aload_n hx hb dX0_ofProcesses_98 rfl (lv_at hl 0 rfl) ?_
      refine lv_iload_n hx hb dX0_ofProcesses_99 rfl (lv_at hl 2 rfl) ?_
      refine lv_iload_n hx hb dX0_ofProcesses_100 rfl (lv_at hl 3 rfl) ?_
      obtain ⟨k34_, h⟩ := h
      refine q_callV X Y hl (cm_X0_setPriority h) mt_X0_setPriority mi_X0_setPriority ml_X0_115 (ci := 0) rfl k34_ (by decide) rfl rfl (by first | exact Nat.le_of_ble_eq_true rfl | simp [q_cat, q_catI, q_catJ, q_catR]) ⟨Nat.le_of_ble_eq_true rfl, Nat.le_of_ble_eq_true rfl⟩ ⟨Nat.le_of_ble_eq_true rfl, Nat.le_of_ble_eq_true rfl⟩ dX0_ofProcesses_101 (fun r35_ S36_ H locs hp Y => ?_)
      obtain ⟨x37_, rfl, h⟩ := hp
      refine W.eq (g2 := F0 m 104 ls [.int x37_]) rfl ?_
      exact q_iret X Y rfl (Nat.le_refl _) (Nat.le_refl _) h dX0_ofProcesses_104
    | 6, _, c39_ =>
      refine ⟨104, 105, rfl, by decide, ?_⟩
      replace h := h.2.2.2.2.2.2.2 (q_eqI c39_ (by decide))
      refine lv_aload_n hx hb dX0_ofProcesses_105 rfl (lv_at hl 0 rfl) ?_
      obtain ⟨k38_, h⟩ := h
      refine q_getI X Y kX0 4 rfl fl_X0_36 k38_ dX0_ofProcesses_106 ?_
      exact q_iret X Y rfl (Nat.le_refl _) (Nat.le_refl _) h dX0_ofProcesses_109
    | z_ + 7, hj_, _ => exact absurd hj_ (by simp)
-- X5_thingAt
theorem fl_X5_30 : Cond.fieldLink RX5 30 "PartitionWorks$Partition" "counts" "[I" ∈ q_G := q_tb (i := 704) (by decide +kernel) (by decide +kernel)
theorem fl_X5_26 : Cond.fieldLink RX5 26 "PartitionWorks$Partition" "things" "[LPartitionWorks$Thing;" ∈ q_G := q_tb (i := 703) (by decide +kernel) (by decide +kernel)
theorem dX5_thingAt_0 : decode cX5_thingAt 0 = .ok (.iload_n 1, 1) := by decide +kernel
theorem dX5_thingAt_1 : decode cX5_thingAt 1 = .ok (.ifCond .lt 22, 3) := by decide +kernel
theorem dX5_thingAt_4 : decode cX5_thingAt 4 = .ok (.iload_n 1, 1) := by decide +kernel
theorem dX5_thingAt_5 : decode cX5_thingAt 5 = .ok (.iconst 5, 1) := by decide +kernel
theorem dX5_thingAt_6 : decode cX5_thingAt 6 = .ok (.if_icmp .ge 17, 3) := by decide +kernel
theorem dX5_thingAt_9 : decode cX5_thingAt 9 = .ok (.iload_n 2, 1) := by decide +kernel
theorem dX5_thingAt_10 : decode cX5_thingAt 10 = .ok (.ifCond .lt 13, 3) := by decide +kernel
theorem dX5_thingAt_13 : decode cX5_thingAt 13 = .ok (.iload_n 2, 1) := by decide +kernel
theorem dX5_thingAt_14 : decode cX5_thingAt 14 = .ok (.aload_n 0, 1) := by decide +kernel
theorem dX5_thingAt_15 : decode cX5_thingAt 15 = .ok (.getfield 30, 3) := by decide +kernel
theorem dX5_thingAt_18 : decode cX5_thingAt 18 = .ok (.iload_n 1, 1) := by decide +kernel
theorem dX5_thingAt_19 : decode cX5_thingAt 19 = .ok (.iaload, 1) := by decide +kernel
theorem dX5_thingAt_20 : decode cX5_thingAt 20 = .ok (.if_icmp .lt 5, 3) := by decide +kernel
theorem dX5_thingAt_23 : decode cX5_thingAt 23 = .ok (.aconst_null, 1) := by decide +kernel
theorem dX5_thingAt_24 : decode cX5_thingAt 24 = .ok (.areturn, 1) := by decide +kernel
theorem dX5_thingAt_25 : decode cX5_thingAt 25 = .ok (.aload_n 0, 1) := by decide +kernel
theorem dX5_thingAt_26 : decode cX5_thingAt 26 = .ok (.getfield 26, 3) := by decide +kernel
theorem dX5_thingAt_29 : decode cX5_thingAt 29 = .ok (.iload_n 1, 1) := by decide +kernel
theorem dX5_thingAt_30 : decode cX5_thingAt 30 = .ok (.bipush 8, 2) := by decide +kernel
theorem dX5_thingAt_32 : decode cX5_thingAt 32 = .ok (.imul, 1) := by decide +kernel
theorem dX5_thingAt_33 : decode cX5_thingAt 33 = .ok (.iload_n 2, 1) := by decide +kernel
theorem dX5_thingAt_34 : decode cX5_thingAt 34 = .ok (.iadd, 1) := by decide +kernel
theorem dX5_thingAt_35 : decode cX5_thingAt 35 = .ok (.aaload, 1) := by decide +kernel
theorem dX5_thingAt_36 : decode cX5_thingAt 36 = .ok (.areturn, 1) := by decide +kernel
def wb_X5_thingAt_23  (S : q_S) (Q : Option Value → q_S → Prop) : Prop := Q (some (va_rf none)) S
set_option maxHeartbeats 4000000 in
set_option maxRecDepth 100000 in
theorem cb_X5_thingAt_23 {p : Program} {l : Launch} {e : Env} {s : State} {m : MethodId} {args : Array Value} {below : List Frame} {meth : Method} {c : Code} {D : va_G} {cy : Nat → ClassId} {lo : Nat}  {S : q_S} {Q : Option Value → q_S → Prop} {H : Heap} {locs : List Loc} {ls : Array Slot} (X : q_X p s m args meth c RX5 cX5_thingAt 3 (some (.object "PartitionWorks$Thing")) D cy lo)  (Y : q_Y D cy lo s S H locs) (hl : lv_has ls 3 []) (h : wb_X5_thingAt_23 S Q) : W p l e ({ frames := 0, cells := 0, slots := 0, locals := 0 } : Room) s m args below meth c H locs 0 0 (MQ below (q_Q D cy lo Q) args s 0 0 (fun q => lo ≤ q)) (F0 m 23 ls []) := by
  have hx := X.1
  have hb := X.2.1
  unfold wb_X5_thingAt_23 at h
  refine lv_null hx hb dX5_thingAt_23 ?_
  refine W.eq (g2 := F0 m 24 ls [va_rf none]) rfl ?_
  exact q_aret X Y (Or.inl ⟨_, rfl⟩) (va_rf_or _) (Nat.le_refl _) (Nat.le_refl _) h dX5_thingAt_24
def wm_X5_thingAt (S : q_S) (a0 : Nat) (x1 : Int32) (x2 : Int32) (Q : Option Value → q_S → Prop) : Prop := ((x1 < 0 → (wb_X5_thingAt_23 S Q)) ∧ (¬ x1 < 0 → ((((5 : Int32) ≤ x1 → (wb_X5_thingAt_23 S Q)) ∧ (¬ (5 : Int32) ≤ x1 → (((x2 < 0 → (wb_X5_thingAt_23 S Q)) ∧ (¬ x2 < 0 → (q_K S a0 = 6 ∧ (∃ a5_ : Nat, (q_P S 1006 a0) = some a5_ ∧ (q_K S a5_ = 21 ∧ (vp_in x1 (q_N S a5_) ∧ (((x2 < (q_A S a5_ x1.toNatClampNeg) → (∃ a10_ : Nat, (q_P S 1005 a0) = some a10_ ∧ (q_K S a10_ = 27 ∧ (vp_in ((x1 * (8 : Int32)) + x2) (q_N S a10_) ∧ (Q (some (va_rf (q_C S a10_ ((x1 * (8 : Int32)) + x2).toNatClampNeg))) S))))) ∧ (¬ x2 < (q_A S a5_ x1.toNatClampNeg) → (wb_X5_thingAt_23 S Q))))))))))))))))
set_option maxHeartbeats 4000000 in
set_option maxRecDepth 100000 in
theorem cm_X5_thingAt {l : Launch} {D : va_G} {cy : Nat → ClassId} {lo : Nat} {S : q_S} {a0 : Nat} {x1 : Int32} {x2 : Int32} {Q : Option Value → q_S → Prop} (h : wm_X5_thingAt S a0 x1 x2 Q) : q_Met l D cy lo yX5_thingAt cX5_thingAt 3 (some (.object "PartitionWorks$Thing")) 0 0 0 0 [.ref a0, .int x1, .int x2] S Q := by
  refine q_body (by decide) (by first | exact Nat.le_of_ble_eq_true rfl | simp [lg_sl, q_cat, q_catI, q_catJ, q_catR]) ?_
  intro p e s m below meth c ls X hnm Y hl
  have hx := X.1
  have hb := X.2.1
  have hl : lv_has ls 3 [(0, .ref a0), (1, .int x1), (2, .int x2)] := by first | exact hl | simpa [lv_args, q_cat, q_catI, q_catJ, q_catR] using hl
  generalize hargs : ([.ref a0, .int x1, .int x2] : List Value).toArray = args at X ⊢
  unfold wm_X5_thingAt at h
  refine lv_iload_n hx hb dX5_thingAt_0 rfl (lv_at hl 1 rfl) ?_
  refine lv_if_lt (tgt := 23) hx hb dX5_thingAt_1 (by decide) (fun c1_ => ?_) (fun c1_ => ?_)
  · replace h := h.1 c1_
    exact cb_X5_thingAt_23 X Y (lv_sub hl [] rfl) h
  · replace h := h.2 c1_
    refine lv_iload_n hx hb dX5_thingAt_4 rfl (lv_at hl 1 rfl) ?_
    refine lv_iconst (v := 5) hx hb dX5_thingAt_5 (by decide) ?_
    refine lv_icmp_ge (tgt := 23) hx hb dX5_thingAt_6 (by decide) (fun c2_ => ?_) (fun c2_ => ?_)
    · replace h := h.1 c2_
      exact cb_X5_thingAt_23 X Y (lv_sub hl [] rfl) h
    · replace h := h.2 c2_
      refine lv_iload_n hx hb dX5_thingAt_9 rfl (lv_at hl 2 rfl) ?_
      refine lv_if_lt (tgt := 23) hx hb dX5_thingAt_10 (by decide) (fun c3_ => ?_) (fun c3_ => ?_)
      · replace h := h.1 c3_
        exact cb_X5_thingAt_23 X Y (lv_sub hl [] rfl) h
      · replace h := h.2 c3_
        refine lv_iload_n hx hb dX5_thingAt_13 rfl (lv_at hl 2 rfl) ?_
        refine lv_aload_n hx hb dX5_thingAt_14 rfl (lv_at hl 0 rfl) ?_
        obtain ⟨k4_, h⟩ := h
        refine q_getP X Y kX5 6 rfl fl_X5_30 k4_ rfl dX5_thingAt_15 ?_
        refine lv_iload_n hx hb dX5_thingAt_18 rfl (lv_at hl 1 rfl) ?_
        obtain ⟨a5_, e6_, h⟩ := h
        refine q_nn [.int x1] e6_ ?_
        obtain ⟨k7_, h⟩ := h
        obtain ⟨i8_, h⟩ := h
        refine q_ild X Y k7_ i8_ dX5_thingAt_19 ?_
        refine lv_icmp_lt (tgt := 25) hx hb dX5_thingAt_20 (by decide) (fun c9_ => ?_) (fun c9_ => ?_)
        · replace h := h.1 c9_
          refine lv_aload_n hx hb dX5_thingAt_25 rfl (lv_at hl 0 rfl) ?_
          refine q_getP X Y kX5 5 rfl fl_X5_26 k4_ rfl dX5_thingAt_26 ?_
          refine lv_iload_n hx hb dX5_thingAt_29 rfl (lv_at hl 1 rfl) ?_
          refine lv_bipush (v := 8) hx hb dX5_thingAt_30 (by decide) ?_
          refine lv_imul hx hb dX5_thingAt_32 ?_
          refine lv_iload_n hx hb dX5_thingAt_33 rfl (lv_at hl 2 rfl) ?_
          refine lv_iadd hx hb dX5_thingAt_34 ?_
          obtain ⟨a10_, e11_, h⟩ := h
          refine q_nn [.int ((x1 * (8 : Int32)) + x2)] e11_ ?_
          obtain ⟨k12_, h⟩ := h
          obtain ⟨i13_, h⟩ := h
          refine q_cld X Y k12_ (by decide) (t := 7) rfl i13_ rfl dX5_thingAt_35 ?_
          exact q_aret X Y (Or.inl ⟨_, rfl⟩) (va_rf_or _) (Nat.le_refl _) (Nat.le_refl _) h dX5_thingAt_36
        · replace h := h.2 c9_
          exact cb_X5_thingAt_23 X Y (lv_sub hl [] rfl) h
-- X0_isNoTime
theorem dX0_isNoTime_0 : decode cX0_isNoTime 0 = .ok (.iload_n 1, 1) := by decide +kernel
theorem dX0_isNoTime_1 : decode cX0_isNoTime 1 = .ok (.iconst (-1), 1) := by decide +kernel
theorem dX0_isNoTime_2 : decode cX0_isNoTime 2 = .ok (.if_icmp .lt 9, 3) := by decide +kernel
theorem dX0_isNoTime_5 : decode cX0_isNoTime 5 = .ok (.iload_n 1, 1) := by decide +kernel
theorem dX0_isNoTime_6 : decode cX0_isNoTime 6 = .ok (.ldc 69, 2) := by decide +kernel
theorem dX0_isNoTime_8 : decode cX0_isNoTime 8 = .ok (.if_icmp .le 7, 3) := by decide +kernel
theorem dX0_isNoTime_11 : decode cX0_isNoTime 11 = .ok (.iconst 1, 1) := by decide +kernel
theorem dX0_isNoTime_12 : decode cX0_isNoTime 12 = .ok (.goto 4, 3) := by decide +kernel
theorem dX0_isNoTime_15 : decode cX0_isNoTime 15 = .ok (.iconst 0, 1) := by decide +kernel
theorem dX0_isNoTime_16 : decode cX0_isNoTime 16 = .ok (.ireturn, 1) := by decide +kernel
def wb_X0_isNoTime_16  (S : q_S) (xs0 : Int32) (Q : Option Value → q_S → Prop) : Prop := (narrow .boolean (.int xs0) = .int xs0 ∧ Q (some (.int xs0)) S)
set_option maxHeartbeats 4000000 in
set_option maxRecDepth 100000 in
theorem cb_X0_isNoTime_16 {p : Program} {l : Launch} {e : Env} {s : State} {m : MethodId} {args : Array Value} {below : List Frame} {meth : Method} {c : Code} {D : va_G} {cy : Nat → ClassId} {lo : Nat}  {S : q_S} {xs0 : Int32} {Q : Option Value → q_S → Prop} {H : Heap} {locs : List Loc} {ls : Array Slot} (X : q_X p s m args meth c RX0 cX0_isNoTime 2 (some .boolean) D cy lo)  (Y : q_Y D cy lo s S H locs) (hl : lv_has ls 2 []) (h : wb_X0_isNoTime_16 S xs0 Q) : W p l e ({ frames := 0, cells := 0, slots := 0, locals := 0 } : Room) s m args below meth c H locs 0 0 (MQ below (q_Q D cy lo Q) args s 0 0 (fun q => lo ≤ q)) (F0 m 16 ls [.int xs0]) := by
  have hx := X.1
  have hb := X.2.1
  unfold wb_X0_isNoTime_16 at h
  exact q_iret X Y h.1 (Nat.le_refl _) (Nat.le_refl _) h.2 dX0_isNoTime_16
def wb_X0_isNoTime_11  (S : q_S) (Q : Option Value → q_S → Prop) : Prop := wb_X0_isNoTime_16 S (1 : Int32) Q
set_option maxHeartbeats 4000000 in
set_option maxRecDepth 100000 in
theorem cb_X0_isNoTime_11 {p : Program} {l : Launch} {e : Env} {s : State} {m : MethodId} {args : Array Value} {below : List Frame} {meth : Method} {c : Code} {D : va_G} {cy : Nat → ClassId} {lo : Nat}  {S : q_S} {Q : Option Value → q_S → Prop} {H : Heap} {locs : List Loc} {ls : Array Slot} (X : q_X p s m args meth c RX0 cX0_isNoTime 2 (some .boolean) D cy lo)  (Y : q_Y D cy lo s S H locs) (hl : lv_has ls 2 []) (h : wb_X0_isNoTime_11 S Q) : W p l e ({ frames := 0, cells := 0, slots := 0, locals := 0 } : Room) s m args below meth c H locs 0 0 (MQ below (q_Q D cy lo Q) args s 0 0 (fun q => lo ≤ q)) (F0 m 11 ls []) := by
  have hx := X.1
  have hb := X.2.1
  unfold wb_X0_isNoTime_11 at h
  refine lv_iconst (v := 1) hx hb dX0_isNoTime_11 (by decide) ?_
  refine lv_goto (tgt := 16) hx hb dX0_isNoTime_12 (by decide) ?_
  exact cb_X0_isNoTime_16 X Y (lv_sub hl [] rfl) h
def wm_X0_isNoTime (S : q_S) (a0 : Nat) (x1 : Int32) (Q : Option Value → q_S → Prop) : Prop := ((x1 < (-1 : Int32) → (wb_X0_isNoTime_11 S Q)) ∧ (¬ x1 < (-1 : Int32) → (((x1 ≤ (100000 : Int32) → (wb_X0_isNoTime_16 S (0 : Int32) Q)) ∧ (¬ x1 ≤ (100000 : Int32) → (wb_X0_isNoTime_11 S Q))))))
set_option maxHeartbeats 4000000 in
set_option maxRecDepth 100000 in
theorem cm_X0_isNoTime {l : Launch} {D : va_G} {cy : Nat → ClassId} {lo : Nat} {S : q_S} {a0 : Nat} {x1 : Int32} {Q : Option Value → q_S → Prop} (h : wm_X0_isNoTime S a0 x1 Q) : q_Met l D cy lo yX0_isNoTime cX0_isNoTime 2 (some .boolean) 0 0 0 0 [.ref a0, .int x1] S Q := by
  refine q_body (by decide) (by first | exact Nat.le_of_ble_eq_true rfl | simp [lg_sl, q_cat, q_catI, q_catJ, q_catR]) ?_
  intro p e s m below meth c ls X hnm Y hl
  have hx := X.1
  have hb := X.2.1
  have hl : lv_has ls 2 [(0, .ref a0), (1, .int x1)] := by first | exact hl | simpa [lv_args, q_cat, q_catI, q_catJ, q_catR] using hl
  generalize hargs : ([.ref a0, .int x1] : List Value).toArray = args at X ⊢
  unfold wm_X0_isNoTime at h
  refine lv_iload_n hx hb dX0_isNoTime_0 rfl (lv_at hl 1 rfl) ?_
  refine lv_iconst (v := (-1)) hx hb dX0_isNoTime_1 (by decide) ?_
  refine lv_icmp_lt (tgt := 11) hx hb dX0_isNoTime_2 (by decide) (fun c1_ => ?_) (fun c1_ => ?_)
  · replace h := h.1 c1_
    exact cb_X0_isNoTime_11 X Y (lv_sub hl [] rfl) h
  · replace h := h.2 c1_
    refine lv_iload_n hx hb dX0_isNoTime_5 rfl (lv_at hl 1 rfl) ?_
    refine lv_ldc (v := 100000) hx hb X.2.2.2.1 (X.2.2.2.2.1 _ co_X0_69) dX0_isNoTime_6 ?_
    refine lv_icmp_le (tgt := 15) hx hb dX0_isNoTime_8 (by decide) (fun c2_ => ?_) (fun c2_ => ?_)
    · replace h := h.1 c2_
      refine lv_iconst (v := 0) hx hb dX0_isNoTime_15 (by decide) ?_
      exact cb_X0_isNoTime_16 X Y (lv_sub hl [] rfl) h
    · replace h := h.2 c2_
      exact cb_X0_isNoTime_11 X Y (lv_sub hl [] rfl) h
-- X0_waitFor
theorem dX0_waitFor_0 : decode cX0_waitFor 0 = .ok (.iload_n 2, 1) := by decide +kernel
theorem dX0_waitFor_1 : decode cX0_waitFor 1 = .ok (.ifCond .ne 5, 3) := by decide +kernel
theorem dX0_waitFor_4 : decode cX0_waitFor 4 = .ok (.iconst 2, 1) := by decide +kernel
theorem dX0_waitFor_5 : decode cX0_waitFor 5 = .ok (.ireturn, 1) := by decide +kernel
theorem dX0_waitFor_6 : decode cX0_waitFor 6 = .ok (.aload_n 0, 1) := by decide +kernel
theorem dX0_waitFor_7 : decode cX0_waitFor 7 = .ok (.invokevirtual 79, 3) := by decide +kernel
theorem dX0_waitFor_10 : decode cX0_waitFor 10 = .ok (.ifCond .eq 5, 3) := by decide +kernel
theorem dX0_waitFor_13 : decode cX0_waitFor 13 = .ok (.iconst 3, 1) := by decide +kernel
theorem dX0_waitFor_14 : decode cX0_waitFor 14 = .ok (.ireturn, 1) := by decide +kernel
theorem dX0_waitFor_15 : decode cX0_waitFor 15 = .ok (.aload_n 0, 1) := by decide +kernel
theorem dX0_waitFor_16 : decode cX0_waitFor 16 = .ok (.getfield 15, 3) := by decide +kernel
theorem dX0_waitFor_19 : decode cX0_waitFor 19 = .ok (.aload_n 0, 1) := by decide +kernel
theorem dX0_waitFor_20 : decode cX0_waitFor 20 = .ok (.getfield 19, 3) := by decide +kernel
theorem dX0_waitFor_23 : decode cX0_waitFor 23 = .ok (.iload_n 1, 1) := by decide +kernel
theorem dX0_waitFor_24 : decode cX0_waitFor 24 = .ok (.iload_n 2, 1) := by decide +kernel
theorem dX0_waitFor_25 : decode cX0_waitFor 25 = .ok (.ifCond .ge 7, 3) := by decide +kernel
theorem dX0_waitFor_28 : decode cX0_waitFor 28 = .ok (.iconst (-1), 1) := by decide +kernel
theorem dX0_waitFor_29 : decode cX0_waitFor 29 = .ok (.goto 9, 3) := by decide +kernel
theorem dX0_waitFor_32 : decode cX0_waitFor 32 = .ok (.aload_n 0, 1) := by decide +kernel
theorem dX0_waitFor_33 : decode cX0_waitFor 33 = .ok (.getfield 36, 3) := by decide +kernel
theorem dX0_waitFor_36 : decode cX0_waitFor 36 = .ok (.iload_n 2, 1) := by decide +kernel
theorem dX0_waitFor_37 : decode cX0_waitFor 37 = .ok (.iadd, 1) := by decide +kernel
theorem dX0_waitFor_38 : decode cX0_waitFor 38 = .ok (.invokevirtual 83, 3) := by decide +kernel
theorem dX0_waitFor_41 : decode cX0_waitFor 41 = .ok (.iconst (-1), 1) := by decide +kernel
theorem dX0_waitFor_42 : decode cX0_waitFor 42 = .ok (.ireturn, 1) := by decide +kernel
def wb_X0_waitFor_38  (S : q_S) (rs0 : Option Nat) (rs1 : Option Nat) (xs2 : Int32) (xs3 : Int32) (Q : Option Value → q_S → Prop) : Prop := ∃ a1_ : Nat, rs0 = some a1_ ∧ (q_K S a1_ = 6 ∧ (wm_X5_makeWait S a1_ rs1 xs2 xs3 (fun r4_ S5_ => r4_ = none ∧ (Q (some (.int (-1 : Int32))) S5_))))
set_option maxHeartbeats 4000000 in
set_option maxRecDepth 100000 in
theorem cb_X0_waitFor_38 {p : Program} {l : Launch} {e : Env} {s : State} {m : MethodId} {args : Array Value} {below : List Frame} {meth : Method} {c : Code} {D : va_G} {cy : Nat → ClassId} {lo : Nat}  {S : q_S} {rs0 : Option Nat} {rs1 : Option Nat} {xs2 : Int32} {xs3 : Int32} {Q : Option Value → q_S → Prop} {H : Heap} {locs : List Loc} {ls : Array Slot} (X : q_X p s m args meth c RX0 cX0_waitFor 3 (some .int) D cy lo)  (Y : q_Y D cy lo s S H locs) (hl : lv_has ls 3 []) (h : wb_X0_waitFor_38 S rs0 rs1 xs2 xs3 Q) : W p l e ({ frames := 1, cells := 0, slots := 0, locals := 23 } : Room) s m args below meth c H locs 0 0 (MQ below (q_Q D cy lo Q) args s 0 0 (fun q => lo ≤ q)) (F0 m 38 ls [.int xs3, .int xs2, va_rf rs1, va_rf rs0]) := by
  have hx := X.1
  have hb := X.2.1
  unfold wb_X0_waitFor_38 at h
  obtain ⟨a1_, e2_, h⟩ := h
  refine q_nn [.int xs3, .int xs2, va_rf rs1] e2_ ?_
  obtain ⟨k3_, h⟩ := h
  refine q_callV X Y hl (cm_X5_makeWait h) mt_X5_makeWait mi_X5_makeWait ml_X0_83 (ci := 5) rfl k3_ (by decide) rfl rfl (by first | exact Nat.le_of_ble_eq_true rfl | simp [q_cat, q_catI, q_catJ, q_catR]) ⟨Nat.le_of_ble_eq_true rfl, Nat.le_of_ble_eq_true rfl⟩ ⟨Nat.le_of_ble_eq_true rfl, Nat.le_of_ble_eq_true rfl⟩ dX0_waitFor_38 (fun r4_ S5_ H locs hp Y => ?_)
  obtain ⟨rfl, h⟩ := hp
  refine W.eq (g2 := F0 m 41 ls []) rfl ?_
  refine lv_iconst (v := (-1)) hx hb dX0_waitFor_41 (by decide) ?_
  exact q_iret X Y rfl (Nat.le_refl _) (Nat.le_refl _) h dX0_waitFor_42
def wm_X0_waitFor (S : q_S) (a0 : Nat) (x1 : Int32) (x2 : Int32) (Q : Option Value → q_S → Prop) : Prop := ((¬ x2 = 0 → (q_K S a0 = 1 ∧ (wm_X0_mayNotWait S a0 (fun r8_ S9_ => ∃ x10_ : Int32, r8_ = some (.int x10_) ∧ (((x10_ = 0 → (q_K S9_ a0 = 1 ∧ (((0 ≤ x2 → (wb_X0_waitFor_38 S9_ (q_P S9_ 1 a0) (q_P S9_ 2 a0) x1 ((q_I S9_ 4 a0) + x2) Q)) ∧ (¬ 0 ≤ x2 → (wb_X0_waitFor_38 S9_ (q_P S9_ 1 a0) (q_P S9_ 2 a0) x1 (-1 : Int32) Q)))))) ∧ (¬ x10_ = 0 → (Q (some (.int (3 : Int32))) S9_)))))))) ∧ (x2 = 0 → (Q (some (.int (2 : Int32))) S)))
set_option maxHeartbeats 4000000 in
set_option maxRecDepth 100000 in
theorem cm_X0_waitFor {l : Launch} {D : va_G} {cy : Nat → ClassId} {lo : Nat} {S : q_S} {a0 : Nat} {x1 : Int32} {x2 : Int32} {Q : Option Value → q_S → Prop} (h : wm_X0_waitFor S a0 x1 x2 Q) : q_Met l D cy lo yX0_waitFor cX0_waitFor 3 (some .int) 1 23 0 0 [.ref a0, .int x1, .int x2] S Q := by
  refine q_body (by decide) (by first | exact Nat.le_of_ble_eq_true rfl | simp [lg_sl, q_cat, q_catI, q_catJ, q_catR]) ?_
  intro p e s m below meth c ls X hnm Y hl
  have hx := X.1
  have hb := X.2.1
  have hl : lv_has ls 3 [(0, .ref a0), (1, .int x1), (2, .int x2)] := by first | exact hl | simpa [lv_args, q_cat, q_catI, q_catJ, q_catR] using hl
  generalize hargs : ([.ref a0, .int x1, .int x2] : List Value).toArray = args at X ⊢
  unfold wm_X0_waitFor at h
  refine lv_iload_n hx hb dX0_waitFor_0 rfl (lv_at hl 2 rfl) ?_
  refine lv_if_ne (tgt := 6) hx hb dX0_waitFor_1 (by decide) (fun c6_ => ?_) (fun c6_ => ?_)
  · replace h := h.1 c6_
    refine lv_aload_n hx hb dX0_waitFor_6 rfl (lv_at hl 0 rfl) ?_
    obtain ⟨k7_, h⟩ := h
    refine q_callV X Y hl (cm_X0_mayNotWait h) mt_X0_mayNotWait mi_X0_mayNotWait ml_X0_79 (ci := 0) rfl k7_ (by decide) rfl rfl (by first | exact Nat.le_of_ble_eq_true rfl | simp [q_cat, q_catI, q_catJ, q_catR]) ⟨Nat.le_of_ble_eq_true rfl, Nat.le_of_ble_eq_true rfl⟩ ⟨Nat.le_of_ble_eq_true rfl, Nat.le_of_ble_eq_true rfl⟩ dX0_waitFor_7 (fun r8_ S9_ H locs hp Y => ?_)
    obtain ⟨x10_, rfl, h⟩ := hp
    refine W.eq (g2 := F0 m 10 ls [.int x10_]) rfl ?_
    refine lv_if_eq (tgt := 15) hx hb dX0_waitFor_10 (by decide) (fun c11_ => ?_) (fun c11_ => ?_)
    · replace h := h.1 c11_
      refine lv_aload_n hx hb dX0_waitFor_15 rfl (lv_at hl 0 rfl) ?_
      obtain ⟨k12_, h⟩ := h
      refine q_getP X Y kX0 1 rfl fl_X0_15 k12_ rfl dX0_waitFor_16 ?_
      refine lv_aload_n hx hb dX0_waitFor_19 rfl (lv_at hl 0 rfl) ?_
      refine q_getP X Y kX0 2 rfl fl_X0_19 k12_ rfl dX0_waitFor_20 ?_
      refine lv_iload_n hx hb dX0_waitFor_23 rfl (lv_at hl 1 rfl) ?_
      refine lv_iload_n hx hb dX0_waitFor_24 rfl (lv_at hl 2 rfl) ?_
      refine lv_if_ge (tgt := 32) hx hb dX0_waitFor_25 (by decide) (fun c13_ => ?_) (fun c13_ => ?_)
      · replace h := h.1 c13_
        refine lv_aload_n hx hb dX0_waitFor_32 rfl (lv_at hl 0 rfl) ?_
        refine q_getI X Y kX0 4 rfl fl_X0_36 k12_ dX0_waitFor_33 ?_
        refine lv_iload_n hx hb dX0_waitFor_36 rfl (lv_at hl 2 rfl) ?_
        refine lv_iadd hx hb dX0_waitFor_37 ?_
        exact cb_X0_waitFor_38 X Y (lv_sub hl [] rfl) h
      · replace h := h.2 c13_
        refine lv_iconst (v := (-1)) hx hb dX0_waitFor_28 (by decide) ?_
        refine lv_goto (tgt := 38) hx hb dX0_waitFor_29 (by decide) ?_
        exact cb_X0_waitFor_38 X Y (lv_sub hl [] rfl) h
    · replace h := h.2 c11_
      refine lv_iconst (v := 3) hx hb dX0_waitFor_13 (by decide) ?_
      exact q_iret X Y rfl (Nat.le_refl _) (Nat.le_refl _) h dX0_waitFor_14
  · replace h := h.2 c6_
    refine lv_iconst (v := 2) hx hb dX0_waitFor_4 (by decide) ?_
    exact q_iret X Y rfl (Nat.le_refl _) (Nat.le_refl _) h dX0_waitFor_5
-- X0_takeSemaphore
theorem ml_X0_164 : Cond.methodLink RX0 164 yX0_isNoTime ∈ q_G := q_tb (i := 1571) (by decide +kernel) (by decide +kernel)
theorem mt_X0_isNoTime : q_Mt yX0_isNoTime cX0_isNoTime 2 (some .boolean) 1 := ⟨q_tb (i := 1574) (by decide +kernel) (by decide +kernel), q_tb (i := 10) (by decide +kernel) (by decide +kernel), by decide +kernel, by decide +kernel, by decide +kernel⟩
theorem mi_X0_isNoTime : Cond.instanceMethod yX0_isNoTime ∈ q_G ∧ Cond.selects yX0_isNoTime.cls yX0_isNoTime yX0_isNoTime ∈ q_G := ⟨q_tb (i := 1573) (by decide +kernel) (by decide +kernel), q_tp (i := 61) (q := (yX0_isNoTime, 5)) (by decide +kernel) (by decide +kernel)⟩
theorem fl_X0_156 : Cond.fieldLink RX0 156 "PartitionWorks$Thing" "count" "I" ∈ q_G := q_tb (i := 1001) (by decide +kernel) (by decide +kernel)
theorem ml_X0_87 : Cond.methodLink RX0 87 yX0_waitFor ∈ q_G := q_tb (i := 1575) (by decide +kernel) (by decide +kernel)
theorem mt_X0_waitFor : q_Mt yX0_waitFor cX0_waitFor 3 (some .int) 2 := ⟨q_tb (i := 1578) (by decide +kernel) (by decide +kernel), q_tb (i := 10) (by decide +kernel) (by decide +kernel), by decide +kernel, by decide +kernel, by decide +kernel⟩
theorem mi_X0_waitFor : Cond.instanceMethod yX0_waitFor ∈ q_G ∧ Cond.selects yX0_waitFor.cls yX0_waitFor yX0_waitFor ∈ q_G := ⟨q_tb (i := 1577) (by decide +kernel) (by decide +kernel), q_tp (i := 62) (q := (yX0_waitFor, 5)) (by decide +kernel) (by decide +kernel)⟩
theorem dX0_takeSemaphore_0 : decode cX0_takeSemaphore 0 = .ok (.aload_n 0, 1) := by decide +kernel
theorem dX0_takeSemaphore_1 : decode cX0_takeSemaphore 1 = .ok (.iload_n 3, 1) := by decide +kernel
theorem dX0_takeSemaphore_2 : decode cX0_takeSemaphore 2 = .ok (.invokevirtual 164, 3) := by decide +kernel
theorem dX0_takeSemaphore_5 : decode cX0_takeSemaphore 5 = .ok (.ifCond .eq 5, 3) := by decide +kernel
theorem dX0_takeSemaphore_8 : decode cX0_takeSemaphore 8 = .ok (.iconst 1, 1) := by decide +kernel
theorem dX0_takeSemaphore_9 : decode cX0_takeSemaphore 9 = .ok (.ireturn, 1) := by decide +kernel
theorem dX0_takeSemaphore_10 : decode cX0_takeSemaphore 10 = .ok (.aload_n 1, 1) := by decide +kernel
theorem dX0_takeSemaphore_11 : decode cX0_takeSemaphore 11 = .ok (.getfield 156, 3) := by decide +kernel
theorem dX0_takeSemaphore_14 : decode cX0_takeSemaphore 14 = .ok (.ifCond .gt 12, 3) := by decide +kernel
theorem dX0_takeSemaphore_17 : decode cX0_takeSemaphore 17 = .ok (.aload_n 0, 1) := by decide +kernel
theorem dX0_takeSemaphore_18 : decode cX0_takeSemaphore 18 = .ok (.iconst 0, 1) := by decide +kernel
theorem dX0_takeSemaphore_19 : decode cX0_takeSemaphore 19 = .ok (.iload_n 2, 1) := by decide +kernel
theorem dX0_takeSemaphore_20 : decode cX0_takeSemaphore 20 = .ok (.iadd, 1) := by decide +kernel
theorem dX0_takeSemaphore_21 : decode cX0_takeSemaphore 21 = .ok (.iload_n 3, 1) := by decide +kernel
theorem dX0_takeSemaphore_22 : decode cX0_takeSemaphore 22 = .ok (.invokevirtual 87, 3) := by decide +kernel
theorem dX0_takeSemaphore_25 : decode cX0_takeSemaphore 25 = .ok (.ireturn, 1) := by decide +kernel
theorem dX0_takeSemaphore_26 : decode cX0_takeSemaphore 26 = .ok (.aload_n 1, 1) := by decide +kernel
theorem dX0_takeSemaphore_27 : decode cX0_takeSemaphore 27 = .ok (.dup, 1) := by decide +kernel
theorem dX0_takeSemaphore_28 : decode cX0_takeSemaphore 28 = .ok (.getfield 156, 3) := by decide +kernel
theorem dX0_takeSemaphore_31 : decode cX0_takeSemaphore 31 = .ok (.iconst 1, 1) := by decide +kernel
theorem dX0_takeSemaphore_32 : decode cX0_takeSemaphore 32 = .ok (.isub, 1) := by decide +kernel
theorem dX0_takeSemaphore_33 : decode cX0_takeSemaphore 33 = .ok (.putfield 156, 3) := by decide +kernel
theorem dX0_takeSemaphore_36 : decode cX0_takeSemaphore 36 = .ok (.iconst 0, 1) := by decide +kernel
theorem dX0_takeSemaphore_37 : decode cX0_takeSemaphore 37 = .ok (.ireturn, 1) := by decide +kernel
def wm_X0_takeSemaphore (S : q_S) (a0 : Nat) (r1 : Option Nat) (x2 : Int32) (x3 : Int32) (Q : Option Value → q_S → Prop) : Prop := q_K S a0 = 1 ∧ (wm_X0_isNoTime S a0 x3 (fun r2_ S3_ => ∃ x4_ : Int32, r2_ = some (.int x4_) ∧ (((x4_ = 0 → (∃ a6_ : Nat, r1 = some a6_ ∧ (q_K S3_ a6_ = 11 ∧ (((0 < (q_I S3_ 2001 a6_) → (Q (some (.int (0 : Int32))) (qs_I S3_ 2001 a6_ ((q_I S3_ 2001 a6_) - (1 : Int32))))) ∧ (¬ 0 < (q_I S3_ 2001 a6_) → (q_K S3_ a0 = 1 ∧ (wm_X0_waitFor S3_ a0 ((0 : Int32) + x2) x3 (fun r11_ S12_ => ∃ x13_ : Int32, r11_ = some (.int x13_) ∧ (Q (some (.int x13_)) S12_)))))))))) ∧ (¬ x4_ = 0 → (Q (some (.int (1 : Int32))) S3_))))))
set_option maxHeartbeats 4000000 in
set_option maxRecDepth 100000 in
theorem cm_X0_takeSemaphore {l : Launch} {D : va_G} {cy : Nat → ClassId} {lo : Nat} {S : q_S} {a0 : Nat} {r1 : Option Nat} {x2 : Int32} {x3 : Int32} {Q : Option Value → q_S → Prop} (h : wm_X0_takeSemaphore S a0 r1 x2 x3 Q) : q_Met l D cy lo yX0_takeSemaphore cX0_takeSemaphore 4 (some .int) 2 45 0 0 [.ref a0, va_rf r1, .int x2, .int x3] S Q := by
  refine q_body (by decide) (by first | exact Nat.le_of_ble_eq_true rfl | simp [lg_sl, q_cat, q_catI, q_catJ, q_catR]) ?_
  intro p e s m below meth c ls X hnm Y hl
  have hx := X.1
  have hb := X.2.1
  have hl : lv_has ls 4 [(0, .ref a0), (1, va_rf r1), (2, .int x2), (3, .int x3)] := by first | exact hl | simpa [lv_args, q_cat, q_catI, q_catJ, q_catR] using hl
  generalize hargs : ([.ref a0, va_rf r1, .int x2, .int x3] : List Value).toArray = args at X ⊢
  unfold wm_X0_takeSemaphore at h
  refine lv_aload_n hx hb dX0_takeSemaphore_0 rfl (lv_at hl 0 rfl) ?_
  refine lv_iload_n hx hb dX0_takeSemaphore_1 rfl (lv_at hl 3 rfl) ?_
  obtain ⟨k1_, h⟩ := h
  refine q_callV X Y hl (cm_X0_isNoTime h) mt_X0_isNoTime mi_X0_isNoTime ml_X0_164 (ci := 0) rfl k1_ (by decide) rfl rfl (by first | exact Nat.le_of_ble_eq_true rfl | simp [q_cat, q_catI, q_catJ, q_catR]) ⟨Nat.le_of_ble_eq_true rfl, Nat.le_of_ble_eq_true rfl⟩ ⟨Nat.le_of_ble_eq_true rfl, Nat.le_of_ble_eq_true rfl⟩ dX0_takeSemaphore_2 (fun r2_ S3_ H locs hp Y => ?_)
  obtain ⟨x4_, rfl, h⟩ := hp
  refine W.eq (g2 := F0 m 5 ls [.int x4_]) rfl ?_
  refine lv_if_eq (tgt := 10) hx hb dX0_takeSemaphore_5 (by decide) (fun c5_ => ?_) (fun c5_ => ?_)
  · replace h := h.1 c5_
    refine q_aload_n hx hb dX0_takeSemaphore_10 rfl (lv_at hl 1 rfl) ?_
    obtain ⟨a6_, e7_, h⟩ := h
    refine q_nn [] e7_ ?_
    obtain ⟨k8_, h⟩ := h
    refine q_getI X Y kX10 1 rfl fl_X0_156 k8_ dX0_takeSemaphore_11 ?_
    refine lv_if_gt (tgt := 26) hx hb dX0_takeSemaphore_14 (by decide) (fun c9_ => ?_) (fun c9_ => ?_)
    · replace h := h.1 c9_
      refine q_aload_n hx hb dX0_takeSemaphore_26 rfl (lv_at hl 1 rfl) ?_
      refine lv_dup hx hb dX0_takeSemaphore_27 (q_cat _) ?_
      refine q_nn [] e7_ ?_
      refine q_getI X Y kX10 1 rfl fl_X0_156 k8_ dX0_takeSemaphore_28 ?_
      refine lv_iconst (v := 1) hx hb dX0_takeSemaphore_31 (by decide) ?_
      refine lv_isub hx hb dX0_takeSemaphore_32 ?_
      refine q_nn [.int ((q_I S3_ 2001 a6_) - (1 : Int32))] e7_ ?_
      refine q_putI X Y kX10 1 rfl fl_X0_156 k8_ .int rfl ⟨rfl, rfl⟩ rfl dX0_takeSemaphore_33 (fun H locs Y => ?_)
      refine lv_iconst (v := 0) hx hb dX0_takeSemaphore_36 (by decide) ?_
      exact q_iret X Y rfl (Nat.le_refl _) (Nat.le_refl _) h dX0_takeSemaphore_37
    · replace h := h.2 c9_
      refine lv_aload_n hx hb dX0_takeSemaphore_17 rfl (lv_at hl 0 rfl) ?_
      refine lv_iconst (v := 0) hx hb dX0_takeSemaphore_18 (by decide) ?_
      refine lv_iload_n hx hb dX0_takeSemaphore_19 rfl (lv_at hl 2 rfl) ?_
      refine lv_iadd hx hb dX0_takeSemaphore_20 ?_
      refine lv_iload_n hx hb dX0_takeSemaphore_21 rfl (lv_at hl 3 rfl) ?_
      obtain ⟨k10_, h⟩ := h
      refine q_callV X Y hl (cm_X0_waitFor h) mt_X0_waitFor mi_X0_waitFor ml_X0_87 (ci := 0) rfl k10_ (by decide) rfl rfl (by first | exact Nat.le_of_ble_eq_true rfl | simp [q_cat, q_catI, q_catJ, q_catR]) ⟨Nat.le_of_ble_eq_true rfl, Nat.le_of_ble_eq_true rfl⟩ ⟨Nat.le_of_ble_eq_true rfl, Nat.le_of_ble_eq_true rfl⟩ dX0_takeSemaphore_22 (fun r11_ S12_ H locs hp Y => ?_)
      obtain ⟨x13_, rfl, h⟩ := hp
      refine W.eq (g2 := F0 m 25 ls [.int x13_]) rfl ?_
      exact q_iret X Y rfl (Nat.le_refl _) (Nat.le_refl _) h dX0_takeSemaphore_25
  · replace h := h.2 c5_
    refine lv_iconst (v := 1) hx hb dX0_takeSemaphore_8 (by decide) ?_
    exact q_iret X Y rfl (Nat.le_refl _) (Nat.le_refl _) h dX0_takeSemaphore_9
-- X7_isAheadOf
theorem fl_X7_79 : Cond.fieldLink RX7 79 "PartitionWorks$Process" "order" "I" ∈ q_G := q_tb (i := 898) (by decide +kernel) (by decide +kernel)
theorem fl_X7_76 : Cond.fieldLink RX7 76 "PartitionWorks$Process" "priority" "I" ∈ q_G := q_tb (i := 849) (by decide +kernel) (by decide +kernel)
theorem dX7_isAheadOf_0 : decode cX7_isAheadOf 0 = .ok (.iload_n 2, 1) := by decide +kernel
theorem dX7_isAheadOf_1 : decode cX7_isAheadOf 1 = .ok (.ifCond .ne 31, 3) := by decide +kernel
theorem dX7_isAheadOf_4 : decode cX7_isAheadOf 4 = .ok (.aload_n 0, 1) := by decide +kernel
theorem dX7_isAheadOf_5 : decode cX7_isAheadOf 5 = .ok (.getfield 76, 3) := by decide +kernel
theorem dX7_isAheadOf_8 : decode cX7_isAheadOf 8 = .ok (.aload_n 1, 1) := by decide +kernel
theorem dX7_isAheadOf_9 : decode cX7_isAheadOf 9 = .ok (.getfield 76, 3) := by decide +kernel
theorem dX7_isAheadOf_12 : decode cX7_isAheadOf 12 = .ok (.if_icmp .eq 20, 3) := by decide +kernel
theorem dX7_isAheadOf_15 : decode cX7_isAheadOf 15 = .ok (.aload_n 0, 1) := by decide +kernel
theorem dX7_isAheadOf_16 : decode cX7_isAheadOf 16 = .ok (.getfield 76, 3) := by decide +kernel
theorem dX7_isAheadOf_19 : decode cX7_isAheadOf 19 = .ok (.aload_n 1, 1) := by decide +kernel
theorem dX7_isAheadOf_20 : decode cX7_isAheadOf 20 = .ok (.getfield 76, 3) := by decide +kernel
theorem dX7_isAheadOf_23 : decode cX7_isAheadOf 23 = .ok (.if_icmp .le 7, 3) := by decide +kernel
theorem dX7_isAheadOf_26 : decode cX7_isAheadOf 26 = .ok (.iconst 1, 1) := by decide +kernel
theorem dX7_isAheadOf_27 : decode cX7_isAheadOf 27 = .ok (.goto 4, 3) := by decide +kernel
theorem dX7_isAheadOf_30 : decode cX7_isAheadOf 30 = .ok (.iconst 0, 1) := by decide +kernel
theorem dX7_isAheadOf_31 : decode cX7_isAheadOf 31 = .ok (.ireturn, 1) := by decide +kernel
theorem dX7_isAheadOf_32 : decode cX7_isAheadOf 32 = .ok (.aload_n 0, 1) := by decide +kernel
theorem dX7_isAheadOf_33 : decode cX7_isAheadOf 33 = .ok (.getfield 79, 3) := by decide +kernel
theorem dX7_isAheadOf_36 : decode cX7_isAheadOf 36 = .ok (.aload_n 1, 1) := by decide +kernel
theorem dX7_isAheadOf_37 : decode cX7_isAheadOf 37 = .ok (.getfield 79, 3) := by decide +kernel
theorem dX7_isAheadOf_40 : decode cX7_isAheadOf 40 = .ok (.if_icmp .ge 7, 3) := by decide +kernel
theorem dX7_isAheadOf_43 : decode cX7_isAheadOf 43 = .ok (.iconst 1, 1) := by decide +kernel
theorem dX7_isAheadOf_44 : decode cX7_isAheadOf 44 = .ok (.goto 4, 3) := by decide +kernel
theorem dX7_isAheadOf_47 : decode cX7_isAheadOf 47 = .ok (.iconst 0, 1) := by decide +kernel
theorem dX7_isAheadOf_48 : decode cX7_isAheadOf 48 = .ok (.ireturn, 1) := by decide +kernel
def wb_X7_isAheadOf_31  (S : q_S) (xs0 : Int32) (Q : Option Value → q_S → Prop) : Prop := (narrow .boolean (.int xs0) = .int xs0 ∧ Q (some (.int xs0)) S)
set_option maxHeartbeats 4000000 in
set_option maxRecDepth 100000 in
theorem cb_X7_isAheadOf_31 {p : Program} {l : Launch} {e : Env} {s : State} {m : MethodId} {args : Array Value} {below : List Frame} {meth : Method} {c : Code} {D : va_G} {cy : Nat → ClassId} {lo : Nat}  {S : q_S} {xs0 : Int32} {Q : Option Value → q_S → Prop} {H : Heap} {locs : List Loc} {ls : Array Slot} (X : q_X p s m args meth c RX7 cX7_isAheadOf 3 (some .boolean) D cy lo)  (Y : q_Y D cy lo s S H locs) (hl : lv_has ls 3 []) (h : wb_X7_isAheadOf_31 S xs0 Q) : W p l e ({ frames := 0, cells := 0, slots := 0, locals := 0 } : Room) s m args below meth c H locs 0 0 (MQ below (q_Q D cy lo Q) args s 0 0 (fun q => lo ≤ q)) (F0 m 31 ls [.int xs0]) := by
  have hx := X.1
  have hb := X.2.1
  unfold wb_X7_isAheadOf_31 at h
  exact q_iret X Y h.1 (Nat.le_refl _) (Nat.le_refl _) h.2 dX7_isAheadOf_31
def wb_X7_isAheadOf_48  (S : q_S) (xs0 : Int32) (Q : Option Value → q_S → Prop) : Prop := (narrow .boolean (.int xs0) = .int xs0 ∧ Q (some (.int xs0)) S)
set_option maxHeartbeats 4000000 in
set_option maxRecDepth 100000 in
theorem cb_X7_isAheadOf_48 {p : Program} {l : Launch} {e : Env} {s : State} {m : MethodId} {args : Array Value} {below : List Frame} {meth : Method} {c : Code} {D : va_G} {cy : Nat → ClassId} {lo : Nat}  {S : q_S} {xs0 : Int32} {Q : Option Value → q_S → Prop} {H : Heap} {locs : List Loc} {ls : Array Slot} (X : q_X p s m args meth c RX7 cX7_isAheadOf 3 (some .boolean) D cy lo)  (Y : q_Y D cy lo s S H locs) (hl : lv_has ls 3 []) (h : wb_X7_isAheadOf_48 S xs0 Q) : W p l e ({ frames := 0, cells := 0, slots := 0, locals := 0 } : Room) s m args below meth c H locs 0 0 (MQ below (q_Q D cy lo Q) args s 0 0 (fun q => lo ≤ q)) (F0 m 48 ls [.int xs0]) := by
  have hx := X.1
  have hb := X.2.1
  unfold wb_X7_isAheadOf_48 at h
  exact q_iret X Y h.1 (Nat.le_refl _) (Nat.le_refl _) h.2 dX7_isAheadOf_48
def wb_X7_isAheadOf_32  (S : q_S) (a0 : Nat) (r1 : Option Nat) (Q : Option Value → q_S → Prop) : Prop := q_K S a0 = 8 ∧ (∃ a2_ : Nat, r1 = some a2_ ∧ (q_K S a2_ = 8 ∧ ((((q_I S 1417 a2_) ≤ (q_I S 1417 a0) → (wb_X7_isAheadOf_48 S (0 : Int32) Q)) ∧ (¬ (q_I S 1417 a2_) ≤ (q_I S 1417 a0) → (wb_X7_isAheadOf_48 S (1 : Int32) Q))))))
set_option maxHeartbeats 4000000 in
set_option maxRecDepth 100000 in
theorem cb_X7_isAheadOf_32 {p : Program} {l : Launch} {e : Env} {s : State} {m : MethodId} {args : Array Value} {below : List Frame} {meth : Method} {c : Code} {D : va_G} {cy : Nat → ClassId} {lo : Nat}  {S : q_S} {a0 : Nat} {r1 : Option Nat} {Q : Option Value → q_S → Prop} {H : Heap} {locs : List Loc} {ls : Array Slot} (X : q_X p s m args meth c RX7 cX7_isAheadOf 3 (some .boolean) D cy lo)  (Y : q_Y D cy lo s S H locs) (hl : lv_has ls 3 [(0, .ref a0), (1, va_rf r1)]) (h : wb_X7_isAheadOf_32 S a0 r1 Q) : W p l e ({ frames := 0, cells := 0, slots := 0, locals := 0 } : Room) s m args below meth c H locs 0 0 (MQ below (q_Q D cy lo Q) args s 0 0 (fun q => lo ≤ q)) (F0 m 32 ls []) := by
  have hx := X.1
  have hb := X.2.1
  unfold wb_X7_isAheadOf_32 at h
  refine lv_aload_n hx hb dX7_isAheadOf_32 rfl (lv_at hl 0 rfl) ?_
  obtain ⟨k1_, h⟩ := h
  refine q_getI X Y kX7 17 rfl fl_X7_79 k1_ dX7_isAheadOf_33 ?_
  refine q_aload_n hx hb dX7_isAheadOf_36 rfl (lv_at hl 1 rfl) ?_
  obtain ⟨a2_, e3_, h⟩ := h
  refine q_nn [] e3_ ?_
  obtain ⟨k4_, h⟩ := h
  refine q_getI X Y kX7 17 rfl fl_X7_79 k4_ dX7_isAheadOf_37 ?_
  refine lv_icmp_ge (tgt := 47) hx hb dX7_isAheadOf_40 (by decide) (fun c5_ => ?_) (fun c5_ => ?_)
  · replace h := h.1 c5_
    refine lv_iconst (v := 0) hx hb dX7_isAheadOf_47 (by decide) ?_
    exact cb_X7_isAheadOf_48 X Y (lv_sub hl [] rfl) h
  · replace h := h.2 c5_
    refine lv_iconst (v := 1) hx hb dX7_isAheadOf_43 (by decide) ?_
    refine lv_goto (tgt := 48) hx hb dX7_isAheadOf_44 (by decide) ?_
    exact cb_X7_isAheadOf_48 X Y (lv_sub hl [] rfl) h
def wm_X7_isAheadOf (S : q_S) (a0 : Nat) (r1 : Option Nat) (x2 : Int32) (Q : Option Value → q_S → Prop) : Prop := ((¬ x2 = 0 → (wb_X7_isAheadOf_32 S a0 r1 Q)) ∧ (x2 = 0 → (q_K S a0 = 8 ∧ (∃ a8_ : Nat, r1 = some a8_ ∧ (q_K S a8_ = 8 ∧ ((((q_I S 1403 a0) = (q_I S 1403 a8_) → (wb_X7_isAheadOf_32 S a0 r1 Q)) ∧ (¬ (q_I S 1403 a0) = (q_I S 1403 a8_) → ((((q_I S 1403 a0) ≤ (q_I S 1403 a8_) → (wb_X7_isAheadOf_31 S (0 : Int32) Q)) ∧ (¬ (q_I S 1403 a0) ≤ (q_I S 1403 a8_) → (wb_X7_isAheadOf_31 S (1 : Int32) Q))))))))))))
set_option maxHeartbeats 4000000 in
set_option maxRecDepth 100000 in
theorem cm_X7_isAheadOf {l : Launch} {D : va_G} {cy : Nat → ClassId} {lo : Nat} {S : q_S} {a0 : Nat} {r1 : Option Nat} {x2 : Int32} {Q : Option Value → q_S → Prop} (h : wm_X7_isAheadOf S a0 r1 x2 Q) : q_Met l D cy lo yX7_isAheadOf cX7_isAheadOf 3 (some .boolean) 0 0 0 0 [.ref a0, va_rf r1, .int x2] S Q := by
  refine q_body (by decide) (by first | exact Nat.le_of_ble_eq_true rfl | simp [lg_sl, q_cat, q_catI, q_catJ, q_catR]) ?_
  intro p e s m below meth c ls X hnm Y hl
  have hx := X.1
  have hb := X.2.1
  have hl : lv_has ls 3 [(0, .ref a0), (1, va_rf r1), (2, .int x2)] := by first | exact hl | simpa [lv_args, q_cat, q_catI, q_catJ, q_catR] using hl
  generalize hargs : ([.ref a0, va_rf r1, .int x2] : List Value).toArray = args at X ⊢
  unfold wm_X7_isAheadOf at h
  refine lv_iload_n hx hb dX7_isAheadOf_0 rfl (lv_at hl 2 rfl) ?_
  refine lv_if_ne (tgt := 32) hx hb dX7_isAheadOf_1 (by decide) (fun c6_ => ?_) (fun c6_ => ?_)
  · replace h := h.1 c6_
    exact cb_X7_isAheadOf_32 X Y (lv_sub hl [0, 1] rfl) h
  · replace h := h.2 c6_
    refine lv_aload_n hx hb dX7_isAheadOf_4 rfl (lv_at hl 0 rfl) ?_
    obtain ⟨k7_, h⟩ := h
    refine q_getI X Y kX7 3 rfl fl_X7_76 k7_ dX7_isAheadOf_5 ?_
    refine q_aload_n hx hb dX7_isAheadOf_8 rfl (lv_at hl 1 rfl) ?_
    obtain ⟨a8_, e9_, h⟩ := h
    refine q_nn [] e9_ ?_
    obtain ⟨k10_, h⟩ := h
    refine q_getI X Y kX7 3 rfl fl_X7_76 k10_ dX7_isAheadOf_9 ?_
    refine lv_icmp_eq (tgt := 32) hx hb dX7_isAheadOf_12 (by decide) (fun c11_ => ?_) (fun c11_ => ?_)
    · replace h := h.1 c11_
      exact cb_X7_isAheadOf_32 X Y (lv_sub hl [0, 1] rfl) h
    · replace h := h.2 c11_
      refine lv_aload_n hx hb dX7_isAheadOf_15 rfl (lv_at hl 0 rfl) ?_
      refine q_getI X Y kX7 3 rfl fl_X7_76 k7_ dX7_isAheadOf_16 ?_
      refine q_aload_n hx hb dX7_isAheadOf_19 rfl (lv_at hl 1 rfl) ?_
      refine q_nn [] e9_ ?_
      refine q_getI X Y kX7 3 rfl fl_X7_76 k10_ dX7_isAheadOf_20 ?_
      refine lv_icmp_le (tgt := 30) hx hb dX7_isAheadOf_23 (by decide) (fun c12_ => ?_) (fun c12_ => ?_)
      · replace h := h.1 c12_
        refine lv_iconst (v := 0) hx hb dX7_isAheadOf_30 (by decide) ?_
        exact cb_X7_isAheadOf_31 X Y (lv_sub hl [] rfl) h
      · replace h := h.2 c12_
        refine lv_iconst (v := 1) hx hb dX7_isAheadOf_26 (by decide) ?_
        refine lv_goto (tgt := 31) hx hb dX7_isAheadOf_27 (by decide) ?_
        exact cb_X7_isAheadOf_31 X Y (lv_sub hl [] rfl) h
-- X5_firstWaiting
theorem ml_X5_176 : Cond.methodLink RX5 176 yX7_isAheadOf ∈ q_G := q_tb (i := 360) (by decide +kernel) (by decide +kernel)
theorem mt_X7_isAheadOf : q_Mt yX7_isAheadOf cX7_isAheadOf 3 (some .boolean) 2 := ⟨q_tb (i := 363) (by decide +kernel) (by decide +kernel), q_tb (i := 22) (by decide +kernel) (by decide +kernel), by decide +kernel, by decide +kernel, by decide +kernel⟩
theorem mi_X7_isAheadOf : Cond.instanceMethod yX7_isAheadOf ∈ q_G ∧ Cond.selects yX7_isAheadOf.cls yX7_isAheadOf yX7_isAheadOf ∈ q_G := ⟨q_tb (i := 361) (by decide +kernel) (by decide +kernel), q_tb (i := 362) (by decide +kernel) (by decide +kernel)⟩
theorem dX5_firstWaiting_0 : decode cX5_firstWaiting 0 = .ok (.aconst_null, 1) := by decide +kernel
theorem dX5_firstWaiting_1 : decode cX5_firstWaiting 1 = .ok (.astore_n 3, 1) := by decide +kernel
theorem dX5_firstWaiting_2 : decode cX5_firstWaiting 2 = .ok (.iconst 0, 1) := by decide +kernel
theorem dX5_firstWaiting_3 : decode cX5_firstWaiting 3 = .ok (.istore 4, 2) := by decide +kernel
theorem dX5_firstWaiting_5 : decode cX5_firstWaiting 5 = .ok (.iload 4, 2) := by decide +kernel
theorem dX5_firstWaiting_7 : decode cX5_firstWaiting 7 = .ok (.aload_n 0, 1) := by decide +kernel
theorem dX5_firstWaiting_8 : decode cX5_firstWaiting 8 = .ok (.getfield 45, 3) := by decide +kernel
theorem dX5_firstWaiting_11 : decode cX5_firstWaiting 11 = .ok (.if_icmp .ge 44, 3) := by decide +kernel
theorem dX5_firstWaiting_14 : decode cX5_firstWaiting 14 = .ok (.aload_n 0, 1) := by decide +kernel
theorem dX5_firstWaiting_15 : decode cX5_firstWaiting 15 = .ok (.getfield 20, 3) := by decide +kernel
theorem dX5_firstWaiting_18 : decode cX5_firstWaiting 18 = .ok (.iload 4, 2) := by decide +kernel
theorem dX5_firstWaiting_20 : decode cX5_firstWaiting 20 = .ok (.aaload, 1) := by decide +kernel
theorem dX5_firstWaiting_21 : decode cX5_firstWaiting 21 = .ok (.astore 5, 2) := by decide +kernel
theorem dX5_firstWaiting_23 : decode cX5_firstWaiting 23 = .ok (.aload 5, 2) := by decide +kernel
theorem dX5_firstWaiting_25 : decode cX5_firstWaiting 25 = .ok (.getfield 111, 3) := by decide +kernel
theorem dX5_firstWaiting_28 : decode cX5_firstWaiting 28 = .ok (.iload_n 1, 1) := by decide +kernel
theorem dX5_firstWaiting_29 : decode cX5_firstWaiting 29 = .ok (.if_icmp .ne 20, 3) := by decide +kernel
theorem dX5_firstWaiting_32 : decode cX5_firstWaiting 32 = .ok (.aload_n 3, 1) := by decide +kernel
theorem dX5_firstWaiting_33 : decode cX5_firstWaiting 33 = .ok (.ifnull 13, 3) := by decide +kernel
theorem dX5_firstWaiting_36 : decode cX5_firstWaiting 36 = .ok (.aload 5, 2) := by decide +kernel
theorem dX5_firstWaiting_38 : decode cX5_firstWaiting 38 = .ok (.aload_n 3, 1) := by decide +kernel
theorem dX5_firstWaiting_39 : decode cX5_firstWaiting 39 = .ok (.iload_n 2, 1) := by decide +kernel
theorem dX5_firstWaiting_40 : decode cX5_firstWaiting 40 = .ok (.invokevirtual 176, 3) := by decide +kernel
theorem dX5_firstWaiting_43 : decode cX5_firstWaiting 43 = .ok (.ifCond .eq 6, 3) := by decide +kernel
theorem dX5_firstWaiting_46 : decode cX5_firstWaiting 46 = .ok (.aload 5, 2) := by decide +kernel
theorem dX5_firstWaiting_48 : decode cX5_firstWaiting 48 = .ok (.astore_n 3, 1) := by decide +kernel
theorem dX5_firstWaiting_49 : decode cX5_firstWaiting 49 = .ok (.iinc 4 1, 3) := by decide +kernel
theorem dX5_firstWaiting_52 : decode cX5_firstWaiting 52 = .ok (.goto (-47), 3) := by decide +kernel
theorem dX5_firstWaiting_55 : decode cX5_firstWaiting 55 = .ok (.aload_n 3, 1) := by decide +kernel
theorem dX5_firstWaiting_56 : decode cX5_firstWaiting 56 = .ok (.areturn, 1) := by decide +kernel
def wb_X5_firstWaiting_49 (B5 : q_S → Nat → Int32 → Int32 → Option Nat → Int32 → Prop) (S : q_S) (a0 : Nat) (x1 : Int32) (x2 : Int32) (r3 : Option Nat) (x4 : Int32) (Q : Option Value → q_S → Prop) : Prop := B5 S a0 x1 x2 r3 (x4 + 1)
set_option maxHeartbeats 4000000 in
set_option maxRecDepth 100000 in
theorem cb_X5_firstWaiting_49 {p : Program} {l : Launch} {e : Env} {s : State} {m : MethodId} {args : Array Value} {below : List Frame} {meth : Method} {c : Code} {D : va_G} {cy : Nat → ClassId} {lo : Nat} {B5 : q_S → Nat → Int32 → Int32 → Option Nat → Int32 → Prop} {S : q_S} {a0 : Nat} {x1 : Int32} {x2 : Int32} {r3 : Option Nat} {x4 : Int32} {Q : Option Value → q_S → Prop} {H : Heap} {locs : List Loc} {ls : Array Slot} (X : q_X p s m args meth c RX5 cX5_firstWaiting 6 (some (.object "PartitionWorks$Process")) D cy lo) (hB5 : ∀ (S : q_S) (a0 : Nat) (x1 : Int32) (x2 : Int32) (r3 : Option Nat) (x4 : Int32) (H : Heap) (locs : List Loc) (ls : Array Slot), B5 S a0 x1 x2 r3 x4 → q_Y D cy lo s S H locs → lv_has ls 6 [(0, .ref a0), (1, .int x1), (2, .int x2), (3, va_rf r3), (4, .int x4)] → W p l e ({ frames := 1, cells := 0, slots := 0, locals := 22 } : Room) s m args below meth c H locs 0 0 (MQ below (q_Q D cy lo Q) args s 0 0 (fun q => lo ≤ q)) (F0 m 5 ls [])) (Y : q_Y D cy lo s S H locs) (hl : lv_has ls 6 [(0, .ref a0), (1, .int x1), (2, .int x2), (3, va_rf r3), (4, .int x4)]) (h : wb_X5_firstWaiting_49 B5 S a0 x1 x2 r3 x4 Q) : W p l e ({ frames := 1, cells := 0, slots := 0, locals := 22 } : Room) s m args below meth c H locs 0 0 (MQ below (q_Q D cy lo Q) args s 0 0 (fun q => lo ≤ q)) (F0 m 49 ls []) := by
  have hx := X.1
  have hb := X.2.1
  unfold wb_X5_firstWaiting_49 at h
  refine lv_iinc (v := (x4 + 1)) (lv' := [(4, .int (x4 + 1)), (0, .ref a0), (1, .int x1), (2, .int x2), (3, va_rf r3)]) hx hb dX5_firstWaiting_49 hl (k := 4) rfl (by first | rfl | decide) (by decide) (by first | rfl | simp [q_cat, q_catI, q_catJ, q_catR]) (fun ls hl => ?_)
  refine lv_goto (tgt := 5) hx hb dX5_firstWaiting_52 (by decide) ?_
  exact hB5 _ _ _ _ _ _ _ _ _ h Y (lv_sub hl [1, 2, 3, 4, 0] rfl)
def wb_X5_firstWaiting_46 (B5 : q_S → Nat → Int32 → Int32 → Option Nat → Int32 → Prop) (S : q_S) (a0 : Nat) (x1 : Int32) (x2 : Int32) (x4 : Int32) (r5 : Option Nat) (Q : Option Value → q_S → Prop) : Prop := wb_X5_firstWaiting_49 B5 S a0 x1 x2 r5 x4 Q
set_option maxHeartbeats 4000000 in
set_option maxRecDepth 100000 in
theorem cb_X5_firstWaiting_46 {p : Program} {l : Launch} {e : Env} {s : State} {m : MethodId} {args : Array Value} {below : List Frame} {meth : Method} {c : Code} {D : va_G} {cy : Nat → ClassId} {lo : Nat} {B5 : q_S → Nat → Int32 → Int32 → Option Nat → Int32 → Prop} {S : q_S} {a0 : Nat} {x1 : Int32} {x2 : Int32} {x4 : Int32} {r5 : Option Nat} {Q : Option Value → q_S → Prop} {H : Heap} {locs : List Loc} {ls : Array Slot} (X : q_X p s m args meth c RX5 cX5_firstWaiting 6 (some (.object "PartitionWorks$Process")) D cy lo) (hB5 : ∀ (S : q_S) (a0 : Nat) (x1 : Int32) (x2 : Int32) (r3 : Option Nat) (x4 : Int32) (H : Heap) (locs : List Loc) (ls : Array Slot), B5 S a0 x1 x2 r3 x4 → q_Y D cy lo s S H locs → lv_has ls 6 [(0, .ref a0), (1, .int x1), (2, .int x2), (3, va_rf r3), (4, .int x4)] → W p l e ({ frames := 1, cells := 0, slots := 0, locals := 22 } : Room) s m args below meth c H locs 0 0 (MQ below (q_Q D cy lo Q) args s 0 0 (fun q => lo ≤ q)) (F0 m 5 ls [])) (Y : q_Y D cy lo s S H locs) (hl : lv_has ls 6 [(0, .ref a0), (1, .int x1), (2, .int x2), (4, .int x4), (5, va_rf r5)]) (h : wb_X5_firstWaiting_46 B5 S a0 x1 x2 x4 r5 Q) : W p l e ({ frames := 1, cells := 0, slots := 0, locals := 22 } : Room) s m args below meth c H locs 0 0 (MQ below (q_Q D cy lo Q) args s 0 0 (fun q => lo ≤ q)) (F0 m 46 ls []) := by
  have hx := X.1
  have hb := X.2.1
  unfold wb_X5_firstWaiting_46 at h
  refine q_aload hx hb dX5_firstWaiting_46 (lv_at hl 4 rfl) ?_
  refine q_astore_n (i := 3) (lv' := [(3, va_rf r5), (0, .ref a0), (1, .int x1), (2, .int x2), (4, .int x4), (5, va_rf r5)]) hx hb dX5_firstWaiting_48 rfl hl (by decide) (by first | rfl | simp [q_cat, q_catI, q_catJ, q_catR]) (fun ls hl => ?_)
  exact cb_X5_firstWaiting_49 X hB5 Y (lv_sub hl [1, 2, 3, 0, 4] rfl) h
def wb_X5_firstWaiting_5 (B5 : q_S → Nat → Int32 → Int32 → Option Nat → Int32 → Prop) (S : q_S) (a0 : Nat) (x1 : Int32) (x2 : Int32) (r3 : Option Nat) (x4 : Int32) (Q : Option Value → q_S → Prop) : Prop := q_K S a0 = 6 ∧ ((((q_I S 1004 a0) ≤ x4 → (Q (some (va_rf r3)) S)) ∧ (¬ (q_I S 1004 a0) ≤ x4 → (∃ a3_ : Nat, (q_P S 1003 a0) = some a3_ ∧ (q_K S a3_ = 26 ∧ (vp_in x4 (q_N S a3_) ∧ (∃ a7_ : Nat, (q_C S a3_ x4.toNatClampNeg) = some a7_ ∧ (q_K S a7_ = 8 ∧ (((¬ (q_I S 1418 a7_) = x1 → (wb_X5_firstWaiting_49 B5 S a0 x1 x2 r3 x4 Q)) ∧ ((q_I S 1418 a7_) = x1 → (((r3 = none → (wb_X5_firstWaiting_46 B5 S a0 x1 x2 x4 (q_C S a3_ x4.toNatClampNeg) Q)) ∧ (¬ r3 = none → (wm_X7_isAheadOf S a7_ r3 x2 (fun r12_ S13_ => ∃ x14_ : Int32, r12_ = some (.int x14_) ∧ (((x14_ = 0 → (wb_X5_firstWaiting_49 B5 S13_ a0 x1 x2 r3 x4 Q)) ∧ (¬ x14_ = 0 → (wb_X5_firstWaiting_46 B5 S13_ a0 x1 x2 x4 (q_C S a3_ x4.toNatClampNeg) Q))))))))))))))))))))
set_option maxHeartbeats 4000000 in
set_option maxRecDepth 100000 in
theorem cb_X5_firstWaiting_5 {p : Program} {l : Launch} {e : Env} {s : State} {m : MethodId} {args : Array Value} {below : List Frame} {meth : Method} {c : Code} {D : va_G} {cy : Nat → ClassId} {lo : Nat} {B5 : q_S → Nat → Int32 → Int32 → Option Nat → Int32 → Prop} {S : q_S} {a0 : Nat} {x1 : Int32} {x2 : Int32} {r3 : Option Nat} {x4 : Int32} {Q : Option Value → q_S → Prop} {H : Heap} {locs : List Loc} {ls : Array Slot} (X : q_X p s m args meth c RX5 cX5_firstWaiting 6 (some (.object "PartitionWorks$Process")) D cy lo) (hB5 : ∀ (S : q_S) (a0 : Nat) (x1 : Int32) (x2 : Int32) (r3 : Option Nat) (x4 : Int32) (H : Heap) (locs : List Loc) (ls : Array Slot), B5 S a0 x1 x2 r3 x4 → q_Y D cy lo s S H locs → lv_has ls 6 [(0, .ref a0), (1, .int x1), (2, .int x2), (3, va_rf r3), (4, .int x4)] → W p l e ({ frames := 1, cells := 0, slots := 0, locals := 22 } : Room) s m args below meth c H locs 0 0 (MQ below (q_Q D cy lo Q) args s 0 0 (fun q => lo ≤ q)) (F0 m 5 ls [])) (Y : q_Y D cy lo s S H locs) (hl : lv_has ls 6 [(0, .ref a0), (1, .int x1), (2, .int x2), (3, va_rf r3), (4, .int x4)]) (h : wb_X5_firstWaiting_5 B5 S a0 x1 x2 r3 x4 Q) : W p l e ({ frames := 1, cells := 0, slots := 0, locals := 22 } : Room) s m args below meth c H locs 0 0 (MQ below (q_Q D cy lo Q) args s 0 0 (fun q => lo ≤ q)) (F0 m 5 ls []) := by
  have hx := X.1
  have hb := X.2.1
  unfold wb_X5_firstWaiting_5 at h
  refine lv_iload hx hb dX5_firstWaiting_5 (lv_at hl 4 rfl) ?_
  refine lv_aload_n hx hb dX5_firstWaiting_7 rfl (lv_at hl 0 rfl) ?_
  obtain ⟨k1_, h⟩ := h
  refine q_getI X Y kX5 4 rfl fl_X5_45 k1_ dX5_firstWaiting_8 ?_
  refine lv_icmp_ge (tgt := 55) hx hb dX5_firstWaiting_11 (by decide) (fun c2_ => ?_) (fun c2_ => ?_)
  · replace h := h.1 c2_
    refine q_aload_n hx hb dX5_firstWaiting_55 rfl (lv_at hl 3 rfl) ?_
    exact q_aret X Y (Or.inl ⟨_, rfl⟩) (va_rf_or _) (Nat.le_refl _) (Nat.le_refl _) h dX5_firstWaiting_56
  · replace h := h.2 c2_
    refine lv_aload_n hx hb dX5_firstWaiting_14 rfl (lv_at hl 0 rfl) ?_
    refine q_getP X Y kX5 3 rfl fl_X5_20 k1_ rfl dX5_firstWaiting_15 ?_
    refine lv_iload hx hb dX5_firstWaiting_18 (lv_at hl 4 rfl) ?_
    obtain ⟨a3_, e4_, h⟩ := h
    refine q_nn [.int x4] e4_ ?_
    obtain ⟨k5_, h⟩ := h
    obtain ⟨i6_, h⟩ := h
    refine q_cld X Y k5_ (by decide) (t := 6) rfl i6_ rfl dX5_firstWaiting_20 ?_
    refine q_astore (i := 5) (lv' := [(5, va_rf (q_C S a3_ x4.toNatClampNeg)), (0, .ref a0), (1, .int x1), (2, .int x2), (3, va_rf r3), (4, .int x4)]) hx hb dX5_firstWaiting_21 hl (by decide) (by first | rfl | simp [q_cat, q_catI, q_catJ, q_catR]) (fun ls hl => ?_)
    refine q_aload hx hb dX5_firstWaiting_23 (lv_at hl 0 rfl) ?_
    obtain ⟨a7_, e8_, h⟩ := h
    refine q_nn [] e8_ ?_
    obtain ⟨k9_, h⟩ := h
    refine q_getI X Y kX7 18 rfl fl_X5_111 k9_ dX5_firstWaiting_25 ?_
    refine lv_iload_n hx hb dX5_firstWaiting_28 rfl (lv_at hl 2 rfl) ?_
    refine lv_icmp_ne (tgt := 49) hx hb dX5_firstWaiting_29 (by decide) (fun c10_ => ?_) (fun c10_ => ?_)
    · replace h := h.1 c10_
      exact cb_X5_firstWaiting_49 X hB5 Y (lv_sub hl [1, 2, 3, 4, 5] rfl) h
    · replace h := h.2 c10_
      refine q_aload_n hx hb dX5_firstWaiting_32 rfl (lv_at hl 4 rfl) ?_
      refine q_ifnull (r := r3) (tgt := 46) hx hb dX5_firstWaiting_33 (by decide) (fun c11_ => ?_) (fun c11_ => ?_)
      · replace h := h.1 c11_
        exact cb_X5_firstWaiting_46 X hB5 Y (lv_sub hl [1, 2, 3, 5, 0] rfl) h
      · replace h := h.2 c11_
        refine q_aload hx hb dX5_firstWaiting_36 (lv_at hl 0 rfl) ?_
        refine q_aload_n hx hb dX5_firstWaiting_38 rfl (lv_at hl 4 rfl) ?_
        refine lv_iload_n hx hb dX5_firstWaiting_39 rfl (lv_at hl 3 rfl) ?_
        refine q_nn [.int x2, va_rf r3] e8_ ?_
        refine q_callV X Y hl (cm_X7_isAheadOf h) mt_X7_isAheadOf mi_X7_isAheadOf ml_X5_176 (ci := 7) rfl k9_ (by decide) rfl rfl (by first | exact Nat.le_of_ble_eq_true rfl | simp [q_cat, q_catI, q_catJ, q_catR]) ⟨Nat.le_of_ble_eq_true rfl, Nat.le_of_ble_eq_true rfl⟩ ⟨Nat.le_of_ble_eq_true rfl, Nat.le_of_ble_eq_true rfl⟩ dX5_firstWaiting_40 (fun r12_ S13_ H locs hp Y => ?_)
        obtain ⟨x14_, rfl, h⟩ := hp
        refine W.eq (g2 := F0 m 43 ls [.int x14_]) rfl ?_
        refine lv_if_eq (tgt := 49) hx hb dX5_firstWaiting_43 (by decide) (fun c15_ => ?_) (fun c15_ => ?_)
        · replace h := h.1 c15_
          exact cb_X5_firstWaiting_49 X hB5 Y (lv_sub hl [1, 2, 3, 4, 5] rfl) h
        · replace h := h.2 c15_
          exact cb_X5_firstWaiting_46 X hB5 Y (lv_sub hl [1, 2, 3, 5, 0] rfl) h
def wl_X5_firstWaiting_5  : Nat → q_S → Nat → Int32 → Int32 → Option Nat → Int32 → (Option Value → q_S → Prop) → Prop
  | 0, _, _, _, _, _, _, _ => False
  | n + 1, S, a0, x1, x2, r3, x4, Q => wb_X5_firstWaiting_5 (fun S a0 x1 x2 r3 x4 => wl_X5_firstWaiting_5 n S a0 x1 x2 r3 x4 Q) S a0 x1 x2 r3 x4 Q
set_option maxHeartbeats 4000000 in
set_option maxRecDepth 100000 in
theorem cl_X5_firstWaiting_5 {p : Program} {l : Launch} {e : Env} {s : State} {m : MethodId} {args : Array Value} {below : List Frame} {meth : Method} {c : Code} {D : va_G} {cy : Nat → ClassId} {lo : Nat}  {Q : Option Value → q_S → Prop} (X : q_X p s m args meth c RX5 cX5_firstWaiting 6 (some (.object "PartitionWorks$Process")) D cy lo)  : ∀ (n : Nat) (S : q_S) (a0 : Nat) (x1 : Int32) (x2 : Int32) (r3 : Option Nat) (x4 : Int32) (H : Heap) (locs : List Loc) (ls : Array Slot), wl_X5_firstWaiting_5 n S a0 x1 x2 r3 x4 Q → q_Y D cy lo s S H locs → lv_has ls 6 [(0, .ref a0), (1, .int x1), (2, .int x2), (3, va_rf r3), (4, .int x4)] → W p l e ({ frames := 1, cells := 0, slots := 0, locals := 22 } : Room) s m args below meth c H locs 0 0 (MQ below (q_Q D cy lo Q) args s 0 0 (fun q => lo ≤ q)) (F0 m 5 ls []) := by
  intro n
  induction n with
  | zero => intro S a0 x1 x2 r3 x4 H locs ls h; exact absurd h id
  | succ n ih => intro S a0 x1 x2 r3 x4 H locs ls h Y hl; exact cb_X5_firstWaiting_5 X ih Y hl h
def wm_X5_firstWaiting (S : q_S) (a0 : Nat) (x1 : Int32) (x2 : Int32) (Q : Option Value → q_S → Prop) : Prop := ∃ n16_ : Nat, wl_X5_firstWaiting_5 n16_ S a0 x1 x2 none (0 : Int32) Q
set_option maxHeartbeats 4000000 in
set_option maxRecDepth 100000 in
theorem cm_X5_firstWaiting {l : Launch} {D : va_G} {cy : Nat → ClassId} {lo : Nat} {S : q_S} {a0 : Nat} {x1 : Int32} {x2 : Int32} {Q : Option Value → q_S → Prop} (h : wm_X5_firstWaiting S a0 x1 x2 Q) : q_Met l D cy lo yX5_firstWaiting cX5_firstWaiting 6 (some (.object "PartitionWorks$Process")) 1 22 0 0 [.ref a0, .int x1, .int x2] S Q := by
  refine q_body (by decide) (by first | exact Nat.le_of_ble_eq_true rfl | simp [lg_sl, q_cat, q_catI, q_catJ, q_catR]) ?_
  intro p e s m below meth c ls X hnm Y hl
  have hx := X.1
  have hb := X.2.1
  have hl : lv_has ls 6 [(0, .ref a0), (1, .int x1), (2, .int x2)] := by first | exact hl | simpa [lv_args, q_cat, q_catI, q_catJ, q_catR] using hl
  generalize hargs : ([.ref a0, .int x1, .int x2] : List Value).toArray = args at X ⊢
  unfold wm_X5_firstWaiting at h
  refine lv_null hx hb dX5_firstWaiting_0 ?_
  refine W.eq (g2 := F0 m 1 ls [va_rf none]) rfl ?_
  refine q_astore_n (i := 3) (lv' := [(3, va_rf none), (0, .ref a0), (1, .int x1), (2, .int x2)]) hx hb dX5_firstWaiting_1 rfl hl (by decide) (by first | rfl | simp [q_cat, q_catI, q_catJ, q_catR]) (fun ls hl => ?_)
  refine lv_iconst (v := 0) hx hb dX5_firstWaiting_2 (by decide) ?_
  refine lv_istore (i := 4) (lv' := [(4, .int (0 : Int32)), (3, va_rf none), (0, .ref a0), (1, .int x1), (2, .int x2)]) hx hb dX5_firstWaiting_3 hl (by decide) (by first | rfl | simp [q_cat, q_catI, q_catJ, q_catR]) (fun ls hl => ?_)
  obtain ⟨n16_, h⟩ := h
  exact cl_X5_firstWaiting_5 X n16_ _ _ _ _ _ _ _ _ _ h Y (lv_sub hl [2, 3, 4, 1, 0] rfl)
-- X5_answerWaiter
theorem fl_X5_121 : Cond.fieldLink RX5 121 "PartitionWorks$Process" "x" "[I" ∈ q_G := q_tb (i := 882) (by decide +kernel) (by decide +kernel)
theorem dX5_answerWaiter_0 : decode cX5_answerWaiter 0 = .ok (.aload_n 0, 1) := by decide +kernel
theorem dX5_answerWaiter_1 : decode cX5_answerWaiter 1 = .ok (.aload_n 1, 1) := by decide +kernel
theorem dX5_answerWaiter_2 : decode cX5_answerWaiter 2 = .ok (.invokevirtual 117, 3) := by decide +kernel
theorem dX5_answerWaiter_5 : decode cX5_answerWaiter 5 = .ok (.aload_n 1, 1) := by decide +kernel
theorem dX5_answerWaiter_6 : decode cX5_answerWaiter 6 = .ok (.getfield 121, 3) := by decide +kernel
theorem dX5_answerWaiter_9 : decode cX5_answerWaiter 9 = .ok (.bipush 10, 2) := by decide +kernel
theorem dX5_answerWaiter_11 : decode cX5_answerWaiter 11 = .ok (.iload_n 2, 1) := by decide +kernel
theorem dX5_answerWaiter_12 : decode cX5_answerWaiter 12 = .ok (.iastore, 1) := by decide +kernel
theorem dX5_answerWaiter_13 : decode cX5_answerWaiter 13 = .ok (.return_, 1) := by decide +kernel
def wm_X5_answerWaiter (S : q_S) (a0 : Nat) (r1 : Option Nat) (x2 : Int32) (Q : Option Value → q_S → Prop) : Prop := q_K S a0 = 6 ∧ (wm_X5_makeReady S a0 r1 (fun r2_ S3_ => r2_ = none ∧ (∃ a4_ : Nat, r1 = some a4_ ∧ (q_K S3_ a4_ = 8 ∧ (∃ a7_ : Nat, (q_P S3_ 1411 a4_) = some a7_ ∧ (q_K S3_ a7_ = 21 ∧ (vp_in (10 : Int32) (q_N S3_ a7_) ∧ (Q none (qs_A S3_ a7_ (10 : Int32).toNatClampNeg x2)))))))))
set_option maxHeartbeats 4000000 in
set_option maxRecDepth 100000 in
theorem cm_X5_answerWaiter {l : Launch} {D : va_G} {cy : Nat → ClassId} {lo : Nat} {S : q_S} {a0 : Nat} {r1 : Option Nat} {x2 : Int32} {Q : Option Value → q_S → Prop} (h : wm_X5_answerWaiter S a0 r1 x2 Q) : q_Met l D cy lo yX5_answerWaiter cX5_answerWaiter 3 none 1 21 0 0 [.ref a0, va_rf r1, .int x2] S Q := by
  refine q_body (by decide) (by first | exact Nat.le_of_ble_eq_true rfl | simp [lg_sl, q_cat, q_catI, q_catJ, q_catR]) ?_
  intro p e s m below meth c ls X hnm Y hl
  have hx := X.1
  have hb := X.2.1
  have hl : lv_has ls 3 [(0, .ref a0), (1, va_rf r1), (2, .int x2)] := by first | exact hl | simpa [lv_args, q_cat, q_catI, q_catJ, q_catR] using hl
  generalize hargs : ([.ref a0, va_rf r1, .int x2] : List Value).toArray = args at X ⊢
  unfold wm_X5_answerWaiter at h
  refine lv_aload_n hx hb dX5_answerWaiter_0 rfl (lv_at hl 0 rfl) ?_
  refine q_aload_n hx hb dX5_answerWaiter_1 rfl (lv_at hl 1 rfl) ?_
  obtain ⟨k1_, h⟩ := h
  refine q_callV X Y hl (cm_X5_makeReady h) mt_X5_makeReady mi_X5_makeReady ml_X5_117 (ci := 5) rfl k1_ (by decide) rfl rfl (by first | exact Nat.le_of_ble_eq_true rfl | simp [q_cat, q_catI, q_catJ, q_catR]) ⟨Nat.le_of_ble_eq_true rfl, Nat.le_of_ble_eq_true rfl⟩ ⟨Nat.le_of_ble_eq_true rfl, Nat.le_of_ble_eq_true rfl⟩ dX5_answerWaiter_2 (fun r2_ S3_ H locs hp Y => ?_)
  obtain ⟨rfl, h⟩ := hp
  refine W.eq (g2 := F0 m 5 ls []) rfl ?_
  refine q_aload_n hx hb dX5_answerWaiter_5 rfl (lv_at hl 1 rfl) ?_
  obtain ⟨a4_, e5_, h⟩ := h
  refine q_nn [] e5_ ?_
  obtain ⟨k6_, h⟩ := h
  refine q_getP X Y kX7 11 rfl fl_X5_121 k6_ rfl dX5_answerWaiter_6 ?_
  refine lv_bipush (v := 10) hx hb dX5_answerWaiter_9 (by decide) ?_
  refine lv_iload_n hx hb dX5_answerWaiter_11 rfl (lv_at hl 2 rfl) ?_
  obtain ⟨a7_, e8_, h⟩ := h
  refine q_nn [.int x2, .int (10 : Int32)] e8_ ?_
  obtain ⟨k9_, h⟩ := h
  obtain ⟨i10_, h⟩ := h
  refine q_ist X Y k9_ i10_ dX5_answerWaiter_12 (fun H locs Y => ?_)
  exact q_vret X Y (Nat.le_refl _) (Nat.le_refl _) h dX5_answerWaiter_13
-- X0_giveSemaphore
theorem fl_X0_167 : Cond.fieldLink RX0 167 "PartitionWorks$Thing" "fifo" "Z" ∈ q_G := q_tb (i := 1010) (by decide +kernel) (by decide +kernel)
theorem ml_X0_170 : Cond.methodLink RX0 170 yX5_firstWaiting ∈ q_G := q_tb (i := 1583) (by decide +kernel) (by decide +kernel)
theorem mt_X5_firstWaiting : q_Mt yX5_firstWaiting cX5_firstWaiting 6 (some (.object "PartitionWorks$Process")) 2 := ⟨q_tb (i := 1386) (by decide +kernel) (by decide +kernel), q_tb (i := 20) (by decide +kernel) (by decide +kernel), by decide +kernel, by decide +kernel, by decide +kernel⟩
theorem mi_X5_firstWaiting : Cond.instanceMethod yX5_firstWaiting ∈ q_G ∧ Cond.selects yX5_firstWaiting.cls yX5_firstWaiting yX5_firstWaiting ∈ q_G := ⟨q_tb (i := 1384) (by decide +kernel) (by decide +kernel), q_tb (i := 1385) (by decide +kernel) (by decide +kernel)⟩
theorem fl_X0_178 : Cond.fieldLink RX0 178 "PartitionWorks$Thing" "most" "I" ∈ q_G := q_tb (i := 1007) (by decide +kernel) (by decide +kernel)
theorem ml_X0_174 : Cond.methodLink RX0 174 yX5_answerWaiter ∈ q_G := q_tb (i := 1584) (by decide +kernel) (by decide +kernel)
theorem mt_X5_answerWaiter : q_Mt yX5_answerWaiter cX5_answerWaiter 3 none 2 := ⟨q_tb (i := 1390) (by decide +kernel) (by decide +kernel), q_tb (i := 20) (by decide +kernel) (by decide +kernel), by decide +kernel, by decide +kernel, by decide +kernel⟩
theorem mi_X5_answerWaiter : Cond.instanceMethod yX5_answerWaiter ∈ q_G ∧ Cond.selects yX5_answerWaiter.cls yX5_answerWaiter yX5_answerWaiter ∈ q_G := ⟨q_tb (i := 1388) (by decide +kernel) (by decide +kernel), q_tb (i := 1389) (by decide +kernel) (by decide +kernel)⟩
theorem dX0_giveSemaphore_0 : decode cX0_giveSemaphore 0 = .ok (.aload_n 0, 1) := by decide +kernel
theorem dX0_giveSemaphore_1 : decode cX0_giveSemaphore 1 = .ok (.getfield 15, 3) := by decide +kernel
theorem dX0_giveSemaphore_4 : decode cX0_giveSemaphore 4 = .ok (.iconst 0, 1) := by decide +kernel
theorem dX0_giveSemaphore_5 : decode cX0_giveSemaphore 5 = .ok (.iload_n 2, 1) := by decide +kernel
theorem dX0_giveSemaphore_6 : decode cX0_giveSemaphore 6 = .ok (.iadd, 1) := by decide +kernel
theorem dX0_giveSemaphore_7 : decode cX0_giveSemaphore 7 = .ok (.aload_n 1, 1) := by decide +kernel
theorem dX0_giveSemaphore_8 : decode cX0_giveSemaphore 8 = .ok (.getfield 167, 3) := by decide +kernel
theorem dX0_giveSemaphore_11 : decode cX0_giveSemaphore 11 = .ok (.invokevirtual 170, 3) := by decide +kernel
theorem dX0_giveSemaphore_14 : decode cX0_giveSemaphore 14 = .ok (.astore_n 3, 1) := by decide +kernel
theorem dX0_giveSemaphore_15 : decode cX0_giveSemaphore 15 = .ok (.aload_n 3, 1) := by decide +kernel
theorem dX0_giveSemaphore_16 : decode cX0_giveSemaphore 16 = .ok (.ifnull 14, 3) := by decide +kernel
theorem dX0_giveSemaphore_19 : decode cX0_giveSemaphore 19 = .ok (.aload_n 0, 1) := by decide +kernel
theorem dX0_giveSemaphore_20 : decode cX0_giveSemaphore 20 = .ok (.getfield 15, 3) := by decide +kernel
theorem dX0_giveSemaphore_23 : decode cX0_giveSemaphore 23 = .ok (.aload_n 3, 1) := by decide +kernel
theorem dX0_giveSemaphore_24 : decode cX0_giveSemaphore 24 = .ok (.iconst 0, 1) := by decide +kernel
theorem dX0_giveSemaphore_25 : decode cX0_giveSemaphore 25 = .ok (.invokevirtual 174, 3) := by decide +kernel
theorem dX0_giveSemaphore_28 : decode cX0_giveSemaphore 28 = .ok (.iconst 0, 1) := by decide +kernel
theorem dX0_giveSemaphore_29 : decode cX0_giveSemaphore 29 = .ok (.ireturn, 1) := by decide +kernel
theorem dX0_giveSemaphore_30 : decode cX0_giveSemaphore 30 = .ok (.aload_n 1, 1) := by decide +kernel
theorem dX0_giveSemaphore_31 : decode cX0_giveSemaphore 31 = .ok (.getfield 156, 3) := by decide +kernel
theorem dX0_giveSemaphore_34 : decode cX0_giveSemaphore 34 = .ok (.aload_n 1, 1) := by decide +kernel
theorem dX0_giveSemaphore_35 : decode cX0_giveSemaphore 35 = .ok (.getfield 178, 3) := by decide +kernel
theorem dX0_giveSemaphore_38 : decode cX0_giveSemaphore 38 = .ok (.if_icmp .lt 5, 3) := by decide +kernel
theorem dX0_giveSemaphore_41 : decode cX0_giveSemaphore 41 = .ok (.iconst 2, 1) := by decide +kernel
theorem dX0_giveSemaphore_42 : decode cX0_giveSemaphore 42 = .ok (.ireturn, 1) := by decide +kernel
theorem dX0_giveSemaphore_43 : decode cX0_giveSemaphore 43 = .ok (.aload_n 1, 1) := by decide +kernel
theorem dX0_giveSemaphore_44 : decode cX0_giveSemaphore 44 = .ok (.dup, 1) := by decide +kernel
theorem dX0_giveSemaphore_45 : decode cX0_giveSemaphore 45 = .ok (.getfield 156, 3) := by decide +kernel
theorem dX0_giveSemaphore_48 : decode cX0_giveSemaphore 48 = .ok (.iconst 1, 1) := by decide +kernel
theorem dX0_giveSemaphore_49 : decode cX0_giveSemaphore 49 = .ok (.iadd, 1) := by decide +kernel
theorem dX0_giveSemaphore_50 : decode cX0_giveSemaphore 50 = .ok (.putfield 156, 3) := by decide +kernel
theorem dX0_giveSemaphore_53 : decode cX0_giveSemaphore 53 = .ok (.iconst 0, 1) := by decide +kernel
theorem dX0_giveSemaphore_54 : decode cX0_giveSemaphore 54 = .ok (.ireturn, 1) := by decide +kernel
def wm_X0_giveSemaphore (S : q_S) (a0 : Nat) (r1 : Option Nat) (x2 : Int32) (Q : Option Value → q_S → Prop) : Prop := q_K S a0 = 1 ∧ (∃ a2_ : Nat, r1 = some a2_ ∧ (q_K S a2_ = 11 ∧ (∃ a5_ : Nat, (q_P S 1 a0) = some a5_ ∧ (q_K S a5_ = 6 ∧ (wm_X5_firstWaiting S a5_ ((0 : Int32) + x2) (q_I S 2004 a2_) (fun r8_ S9_ => ∃ r10_ : Option Nat, r8_ = some (va_rf r10_) ∧ (((r10_ = none → (q_K S9_ a2_ = 11 ∧ ((((q_I S9_ 2001 a2_) < (q_I S9_ 2003 a2_) → (Q (some (.int (0 : Int32))) (qs_I S9_ 2001 a2_ ((q_I S9_ 2001 a2_) + (1 : Int32))))) ∧ (¬ (q_I S9_ 2001 a2_) < (q_I S9_ 2003 a2_) → (Q (some (.int (2 : Int32))) S9_)))))) ∧ (¬ r10_ = none → (q_K S9_ a0 = 1 ∧ (∃ a15_ : Nat, (q_P S9_ 1 a0) = some a15_ ∧ (q_K S9_ a15_ = 6 ∧ (wm_X5_answerWaiter S9_ a15_ r10_ (0 : Int32) (fun r18_ S19_ => r18_ = none ∧ (Q (some (.int (0 : Int32))) S19_)))))))))))))))
set_option maxHeartbeats 4000000 in
set_option maxRecDepth 100000 in
theorem cm_X0_giveSemaphore {l : Launch} {D : va_G} {cy : Nat → ClassId} {lo : Nat} {S : q_S} {a0 : Nat} {r1 : Option Nat} {x2 : Int32} {Q : Option Value → q_S → Prop} (h : wm_X0_giveSemaphore S a0 r1 x2 Q) : q_Met l D cy lo yX0_giveSemaphore cX0_giveSemaphore 4 (some .int) 2 47 0 0 [.ref a0, va_rf r1, .int x2] S Q := by
  refine q_body (by decide) (by first | exact Nat.le_of_ble_eq_true rfl | simp [lg_sl, q_cat, q_catI, q_catJ, q_catR]) ?_
  intro p e s m below meth c ls X hnm Y hl
  have hx := X.1
  have hb := X.2.1
  have hl : lv_has ls 4 [(0, .ref a0), (1, va_rf r1), (2, .int x2)] := by first | exact hl | simpa [lv_args, q_cat, q_catI, q_catJ, q_catR] using hl
  generalize hargs : ([.ref a0, va_rf r1, .int x2] : List Value).toArray = args at X ⊢
  unfold wm_X0_giveSemaphore at h
  refine lv_aload_n hx hb dX0_giveSemaphore_0 rfl (lv_at hl 0 rfl) ?_
  obtain ⟨k1_, h⟩ := h
  refine q_getP X Y kX0 1 rfl fl_X0_15 k1_ rfl dX0_giveSemaphore_1 ?_
  refine lv_iconst (v := 0) hx hb dX0_giveSemaphore_4 (by decide) ?_
  refine lv_iload_n hx hb dX0_giveSemaphore_5 rfl (lv_at hl 2 rfl) ?_
  refine lv_iadd hx hb dX0_giveSemaphore_6 ?_
  refine q_aload_n hx hb dX0_giveSemaphore_7 rfl (lv_at hl 1 rfl) ?_
  obtain ⟨a2_, e3_, h⟩ := h
  refine q_nn [] e3_ ?_
  obtain ⟨k4_, h⟩ := h
  refine q_getI X Y kX10 4 rfl fl_X0_167 k4_ dX0_giveSemaphore_8 ?_
  obtain ⟨a5_, e6_, h⟩ := h
  refine q_nn [.int (q_I S 2004 a2_), .int ((0 : Int32) + x2)] e6_ ?_
  obtain ⟨k7_, h⟩ := h
  refine q_callV X Y hl (cm_X5_firstWaiting h) mt_X5_firstWaiting mi_X5_firstWaiting ml_X0_170 (ci := 5) rfl k7_ (by decide) rfl rfl (by first | exact Nat.le_of_ble_eq_true rfl | simp [q_cat, q_catI, q_catJ, q_catR]) ⟨Nat.le_of_ble_eq_true rfl, Nat.le_of_ble_eq_true rfl⟩ ⟨Nat.le_of_ble_eq_true rfl, Nat.le_of_ble_eq_true rfl⟩ dX0_giveSemaphore_11 (fun r8_ S9_ H locs hp Y => ?_)
  obtain ⟨r10_, rfl, h⟩ := hp
  refine W.eq (g2 := F0 m 14 ls [va_rf r10_]) rfl ?_
  refine q_astore_n (i := 3) (lv' := [(3, va_rf r10_), (0, .ref a0), (1, va_rf r1), (2, .int x2)]) hx hb dX0_giveSemaphore_14 rfl hl (by decide) (by first | rfl | simp [q_cat, q_catI, q_catJ, q_catR]) (fun ls hl => ?_)
  refine q_aload_n hx hb dX0_giveSemaphore_15 rfl (lv_at hl 0 rfl) ?_
  refine q_ifnull (r := r10_) (tgt := 30) hx hb dX0_giveSemaphore_16 (by decide) (fun c11_ => ?_) (fun c11_ => ?_)
  · replace h := h.1 c11_
    refine q_aload_n hx hb dX0_giveSemaphore_30 rfl (lv_at hl 2 rfl) ?_
    refine q_nn [] e3_ ?_
    obtain ⟨k12_, h⟩ := h
    refine q_getI X Y kX10 1 rfl fl_X0_156 k12_ dX0_giveSemaphore_31 ?_
    refine q_aload_n hx hb dX0_giveSemaphore_34 rfl (lv_at hl 2 rfl) ?_
    refine q_nn [] e3_ ?_
    refine q_getI X Y kX10 3 rfl fl_X0_178 k12_ dX0_giveSemaphore_35 ?_
    refine lv_icmp_lt (tgt := 43) hx hb dX0_giveSemaphore_38 (by decide) (fun c13_ => ?_) (fun c13_ => ?_)
    · replace h := h.1 c13_
      refine q_aload_n hx hb dX0_giveSemaphore_43 rfl (lv_at hl 2 rfl) ?_
      refine lv_dup hx hb dX0_giveSemaphore_44 (q_cat _) ?_
      refine q_nn [] e3_ ?_
      refine q_getI X Y kX10 1 rfl fl_X0_156 k12_ dX0_giveSemaphore_45 ?_
      refine lv_iconst (v := 1) hx hb dX0_giveSemaphore_48 (by decide) ?_
      refine lv_iadd hx hb dX0_giveSemaphore_49 ?_
      refine q_nn [.int ((q_I S9_ 2001 a2_) + (1 : Int32))] e3_ ?_
      refine q_putI X Y kX10 1 rfl fl_X0_156 k12_ .int rfl ⟨rfl, rfl⟩ rfl dX0_giveSemaphore_50 (fun H locs Y => ?_)
      refine lv_iconst (v := 0) hx hb dX0_giveSemaphore_53 (by decide) ?_
      exact q_iret X Y rfl (Nat.le_refl _) (Nat.le_refl _) h dX0_giveSemaphore_54
    · replace h := h.2 c13_
      refine lv_iconst (v := 2) hx hb dX0_giveSemaphore_41 (by decide) ?_
      exact q_iret X Y rfl (Nat.le_refl _) (Nat.le_refl _) h dX0_giveSemaphore_42
  · replace h := h.2 c11_
    refine lv_aload_n hx hb dX0_giveSemaphore_19 rfl (lv_at hl 1 rfl) ?_
    obtain ⟨k14_, h⟩ := h
    refine q_getP X Y kX0 1 rfl fl_X0_15 k14_ rfl dX0_giveSemaphore_20 ?_
    refine q_aload_n hx hb dX0_giveSemaphore_23 rfl (lv_at hl 0 rfl) ?_
    refine lv_iconst (v := 0) hx hb dX0_giveSemaphore_24 (by decide) ?_
    obtain ⟨a15_, e16_, h⟩ := h
    refine q_nn [.int (0 : Int32), va_rf r10_] e16_ ?_
    obtain ⟨k17_, h⟩ := h
    refine q_callV X Y hl (cm_X5_answerWaiter h) mt_X5_answerWaiter mi_X5_answerWaiter ml_X0_174 (ci := 5) rfl k17_ (by decide) rfl rfl (by first | exact Nat.le_of_ble_eq_true rfl | simp [q_cat, q_catI, q_catJ, q_catR]) ⟨Nat.le_of_ble_eq_true rfl, Nat.le_of_ble_eq_true rfl⟩ ⟨Nat.le_of_ble_eq_true rfl, Nat.le_of_ble_eq_true rfl⟩ dX0_giveSemaphore_25 (fun r18_ S19_ H locs hp Y => ?_)
    obtain ⟨rfl, h⟩ := hp
    refine W.eq (g2 := F0 m 28 ls []) rfl ?_
    refine lv_iconst (v := 0) hx hb dX0_giveSemaphore_28 (by decide) ?_
    exact q_iret X Y rfl (Nat.le_refl _) (Nat.le_refl _) h dX0_giveSemaphore_29
-- X5_wakeAll
theorem ml_X5_169 : Cond.methodLink RX5 169 yX5_answerWaiter ∈ q_G := q_tb (i := 1387) (by decide +kernel) (by decide +kernel)
theorem dX5_wakeAll_0 : decode cX5_wakeAll 0 = .ok (.iconst 0, 1) := by decide +kernel
theorem dX5_wakeAll_1 : decode cX5_wakeAll 1 = .ok (.istore_n 2, 1) := by decide +kernel
theorem dX5_wakeAll_2 : decode cX5_wakeAll 2 = .ok (.iload_n 2, 1) := by decide +kernel
theorem dX5_wakeAll_3 : decode cX5_wakeAll 3 = .ok (.aload_n 0, 1) := by decide +kernel
theorem dX5_wakeAll_4 : decode cX5_wakeAll 4 = .ok (.getfield 45, 3) := by decide +kernel
theorem dX5_wakeAll_7 : decode cX5_wakeAll 7 = .ok (.if_icmp .ge 33, 3) := by decide +kernel
theorem dX5_wakeAll_10 : decode cX5_wakeAll 10 = .ok (.aload_n 0, 1) := by decide +kernel
theorem dX5_wakeAll_11 : decode cX5_wakeAll 11 = .ok (.getfield 20, 3) := by decide +kernel
theorem dX5_wakeAll_14 : decode cX5_wakeAll 14 = .ok (.iload_n 2, 1) := by decide +kernel
theorem dX5_wakeAll_15 : decode cX5_wakeAll 15 = .ok (.aaload, 1) := by decide +kernel
theorem dX5_wakeAll_16 : decode cX5_wakeAll 16 = .ok (.getfield 111, 3) := by decide +kernel
theorem dX5_wakeAll_19 : decode cX5_wakeAll 19 = .ok (.iload_n 1, 1) := by decide +kernel
theorem dX5_wakeAll_20 : decode cX5_wakeAll 20 = .ok (.if_icmp .ne 14, 3) := by decide +kernel
theorem dX5_wakeAll_23 : decode cX5_wakeAll 23 = .ok (.aload_n 0, 1) := by decide +kernel
theorem dX5_wakeAll_24 : decode cX5_wakeAll 24 = .ok (.aload_n 0, 1) := by decide +kernel
theorem dX5_wakeAll_25 : decode cX5_wakeAll 25 = .ok (.getfield 20, 3) := by decide +kernel
theorem dX5_wakeAll_28 : decode cX5_wakeAll 28 = .ok (.iload_n 2, 1) := by decide +kernel
theorem dX5_wakeAll_29 : decode cX5_wakeAll 29 = .ok (.aaload, 1) := by decide +kernel
theorem dX5_wakeAll_30 : decode cX5_wakeAll 30 = .ok (.iconst 0, 1) := by decide +kernel
theorem dX5_wakeAll_31 : decode cX5_wakeAll 31 = .ok (.invokevirtual 169, 3) := by decide +kernel
theorem dX5_wakeAll_34 : decode cX5_wakeAll 34 = .ok (.iinc 2 1, 3) := by decide +kernel
theorem dX5_wakeAll_37 : decode cX5_wakeAll 37 = .ok (.goto (-35), 3) := by decide +kernel
theorem dX5_wakeAll_40 : decode cX5_wakeAll 40 = .ok (.return_, 1) := by decide +kernel
def wb_X5_wakeAll_34 (B2 : q_S → Nat → Int32 → Int32 → Prop) (S : q_S) (a0 : Nat) (x1 : Int32) (x2 : Int32) (Q : Option Value → q_S → Prop) : Prop := B2 S a0 x1 (x2 + 1)
set_option maxHeartbeats 4000000 in
set_option maxRecDepth 100000 in
theorem cb_X5_wakeAll_34 {p : Program} {l : Launch} {e : Env} {s : State} {m : MethodId} {args : Array Value} {below : List Frame} {meth : Method} {c : Code} {D : va_G} {cy : Nat → ClassId} {lo : Nat} {B2 : q_S → Nat → Int32 → Int32 → Prop} {S : q_S} {a0 : Nat} {x1 : Int32} {x2 : Int32} {Q : Option Value → q_S → Prop} {H : Heap} {locs : List Loc} {ls : Array Slot} (X : q_X p s m args meth c RX5 cX5_wakeAll 3 none D cy lo) (hB2 : ∀ (S : q_S) (a0 : Nat) (x1 : Int32) (x2 : Int32) (H : Heap) (locs : List Loc) (ls : Array Slot), B2 S a0 x1 x2 → q_Y D cy lo s S H locs → lv_has ls 3 [(0, .ref a0), (1, .int x1), (2, .int x2)] → W p l e ({ frames := 2, cells := 0, slots := 0, locals := 43 } : Room) s m args below meth c H locs 0 0 (MQ below (q_Q D cy lo Q) args s 0 0 (fun q => lo ≤ q)) (F0 m 2 ls [])) (Y : q_Y D cy lo s S H locs) (hl : lv_has ls 3 [(0, .ref a0), (1, .int x1), (2, .int x2)]) (h : wb_X5_wakeAll_34 B2 S a0 x1 x2 Q) : W p l e ({ frames := 2, cells := 0, slots := 0, locals := 43 } : Room) s m args below meth c H locs 0 0 (MQ below (q_Q D cy lo Q) args s 0 0 (fun q => lo ≤ q)) (F0 m 34 ls []) := by
  have hx := X.1
  have hb := X.2.1
  unfold wb_X5_wakeAll_34 at h
  refine lv_iinc (v := (x2 + 1)) (lv' := [(2, .int (x2 + 1)), (0, .ref a0), (1, .int x1)]) hx hb dX5_wakeAll_34 hl (k := 2) rfl (by first | rfl | decide) (by decide) (by first | rfl | simp [q_cat, q_catI, q_catJ, q_catR]) (fun ls hl => ?_)
  refine lv_goto (tgt := 2) hx hb dX5_wakeAll_37 (by decide) ?_
  exact hB2 _ _ _ _ _ _ _ h Y (lv_sub hl [1, 2, 0] rfl)
def wb_X5_wakeAll_2 (B2 : q_S → Nat → Int32 → Int32 → Prop) (S : q_S) (a0 : Nat) (x1 : Int32) (x2 : Int32) (Q : Option Value → q_S → Prop) : Prop := q_K S a0 = 6 ∧ ((((q_I S 1004 a0) ≤ x2 → (Q none S)) ∧ (¬ (q_I S 1004 a0) ≤ x2 → (∃ a3_ : Nat, (q_P S 1003 a0) = some a3_ ∧ (q_K S a3_ = 26 ∧ (vp_in x2 (q_N S a3_) ∧ (∃ a7_ : Nat, (q_C S a3_ x2.toNatClampNeg) = some a7_ ∧ (q_K S a7_ = 8 ∧ (((¬ (q_I S 1418 a7_) = x1 → (wb_X5_wakeAll_34 B2 S a0 x1 x2 Q)) ∧ ((q_I S 1418 a7_) = x1 → (vp_in x2 (q_N S a3_) ∧ (wm_X5_answerWaiter S a0 (q_C S a3_ x2.toNatClampNeg) (0 : Int32) (fun r12_ S13_ => r12_ = none ∧ (wb_X5_wakeAll_34 B2 S13_ a0 x1 x2 Q)))))))))))))))
set_option maxHeartbeats 4000000 in
set_option maxRecDepth 100000 in
theorem cb_X5_wakeAll_2 {p : Program} {l : Launch} {e : Env} {s : State} {m : MethodId} {args : Array Value} {below : List Frame} {meth : Method} {c : Code} {D : va_G} {cy : Nat → ClassId} {lo : Nat} {B2 : q_S → Nat → Int32 → Int32 → Prop} {S : q_S} {a0 : Nat} {x1 : Int32} {x2 : Int32} {Q : Option Value → q_S → Prop} {H : Heap} {locs : List Loc} {ls : Array Slot} (X : q_X p s m args meth c RX5 cX5_wakeAll 3 none D cy lo) (hB2 : ∀ (S : q_S) (a0 : Nat) (x1 : Int32) (x2 : Int32) (H : Heap) (locs : List Loc) (ls : Array Slot), B2 S a0 x1 x2 → q_Y D cy lo s S H locs → lv_has ls 3 [(0, .ref a0), (1, .int x1), (2, .int x2)] → W p l e ({ frames := 2, cells := 0, slots := 0, locals := 43 } : Room) s m args below meth c H locs 0 0 (MQ below (q_Q D cy lo Q) args s 0 0 (fun q => lo ≤ q)) (F0 m 2 ls [])) (Y : q_Y D cy lo s S H locs) (hl : lv_has ls 3 [(0, .ref a0), (1, .int x1), (2, .int x2)]) (h : wb_X5_wakeAll_2 B2 S a0 x1 x2 Q) : W p l e ({ frames := 2, cells := 0, slots := 0, locals := 43 } : Room) s m args below meth c H locs 0 0 (MQ below (q_Q D cy lo Q) args s 0 0 (fun q => lo ≤ q)) (F0 m 2 ls []) := by
  have hx := X.1
  have hb := X.2.1
  unfold wb_X5_wakeAll_2 at h
  refine lv_iload_n hx hb dX5_wakeAll_2 rfl (lv_at hl 2 rfl) ?_
  refine lv_aload_n hx hb dX5_wakeAll_3 rfl (lv_at hl 0 rfl) ?_
  obtain ⟨k1_, h⟩ := h
  refine q_getI X Y kX5 4 rfl fl_X5_45 k1_ dX5_wakeAll_4 ?_
  refine lv_icmp_ge (tgt := 40) hx hb dX5_wakeAll_7 (by decide) (fun c2_ => ?_) (fun c2_ => ?_)
  · replace h := h.1 c2_
    exact q_vret X Y (Nat.le_refl _) (Nat.le_refl _) h dX5_wakeAll_40
  · replace h := h.2 c2_
    refine lv_aload_n hx hb dX5_wakeAll_10 rfl (lv_at hl 0 rfl) ?_
    refine q_getP X Y kX5 3 rfl fl_X5_20 k1_ rfl dX5_wakeAll_11 ?_
    refine lv_iload_n hx hb dX5_wakeAll_14 rfl (lv_at hl 2 rfl) ?_
    obtain ⟨a3_, e4_, h⟩ := h
    refine q_nn [.int x2] e4_ ?_
    obtain ⟨k5_, h⟩ := h
    obtain ⟨i6_, h⟩ := h
    refine q_cld X Y k5_ (by decide) (t := 6) rfl i6_ rfl dX5_wakeAll_15 ?_
    obtain ⟨a7_, e8_, h⟩ := h
    refine q_nn [] e8_ ?_
    obtain ⟨k9_, h⟩ := h
    refine q_getI X Y kX7 18 rfl fl_X5_111 k9_ dX5_wakeAll_16 ?_
    refine lv_iload_n hx hb dX5_wakeAll_19 rfl (lv_at hl 1 rfl) ?_
    refine lv_icmp_ne (tgt := 34) hx hb dX5_wakeAll_20 (by decide) (fun c10_ => ?_) (fun c10_ => ?_)
    · replace h := h.1 c10_
      exact cb_X5_wakeAll_34 X hB2 Y (lv_sub hl [0, 1, 2] rfl) h
    · replace h := h.2 c10_
      refine lv_aload_n hx hb dX5_wakeAll_23 rfl (lv_at hl 0 rfl) ?_
      refine lv_aload_n hx hb dX5_wakeAll_24 rfl (lv_at hl 0 rfl) ?_
      refine q_getR X Y kX5 3 rfl fl_X5_20 k1_ e4_ dX5_wakeAll_25 ?_
      refine lv_iload_n hx hb dX5_wakeAll_28 rfl (lv_at hl 2 rfl) ?_
      obtain ⟨i11_, h⟩ := h
      refine q_cld X Y k5_ (by decide) (t := 6) rfl i11_ rfl dX5_wakeAll_29 ?_
      refine lv_iconst (v := 0) hx hb dX5_wakeAll_30 (by decide) ?_
      refine q_callV X Y hl (cm_X5_answerWaiter h) mt_X5_answerWaiter mi_X5_answerWaiter ml_X5_169 (ci := 5) rfl k1_ (by decide) rfl rfl (by first | exact Nat.le_of_ble_eq_true rfl | simp [q_cat, q_catI, q_catJ, q_catR]) ⟨Nat.le_of_ble_eq_true rfl, Nat.le_of_ble_eq_true rfl⟩ ⟨Nat.le_of_ble_eq_true rfl, Nat.le_of_ble_eq_true rfl⟩ dX5_wakeAll_31 (fun r12_ S13_ H locs hp Y => ?_)
      obtain ⟨rfl, h⟩ := hp
      refine W.eq (g2 := F0 m 34 ls []) rfl ?_
      exact cb_X5_wakeAll_34 X hB2 Y (lv_sub hl [0, 1, 2] rfl) h
def wl_X5_wakeAll_2  : Nat → q_S → Nat → Int32 → Int32 → (Option Value → q_S → Prop) → Prop
  | 0, _, _, _, _, _ => False
  | n + 1, S, a0, x1, x2, Q => wb_X5_wakeAll_2 (fun S a0 x1 x2 => wl_X5_wakeAll_2 n S a0 x1 x2 Q) S a0 x1 x2 Q
set_option maxHeartbeats 4000000 in
set_option maxRecDepth 100000 in
theorem cl_X5_wakeAll_2 {p : Program} {l : Launch} {e : Env} {s : State} {m : MethodId} {args : Array Value} {below : List Frame} {meth : Method} {c : Code} {D : va_G} {cy : Nat → ClassId} {lo : Nat}  {Q : Option Value → q_S → Prop} (X : q_X p s m args meth c RX5 cX5_wakeAll 3 none D cy lo)  : ∀ (n : Nat) (S : q_S) (a0 : Nat) (x1 : Int32) (x2 : Int32) (H : Heap) (locs : List Loc) (ls : Array Slot), wl_X5_wakeAll_2 n S a0 x1 x2 Q → q_Y D cy lo s S H locs → lv_has ls 3 [(0, .ref a0), (1, .int x1), (2, .int x2)] → W p l e ({ frames := 2, cells := 0, slots := 0, locals := 43 } : Room) s m args below meth c H locs 0 0 (MQ below (q_Q D cy lo Q) args s 0 0 (fun q => lo ≤ q)) (F0 m 2 ls []) := by
  intro n
  induction n with
  | zero => intro S a0 x1 x2 H locs ls h; exact absurd h id
  | succ n ih => intro S a0 x1 x2 H locs ls h Y hl; exact cb_X5_wakeAll_2 X ih Y hl h
def wm_X5_wakeAll (S : q_S) (a0 : Nat) (x1 : Int32) (Q : Option Value → q_S → Prop) : Prop := ∃ n14_ : Nat, wl_X5_wakeAll_2 n14_ S a0 x1 (0 : Int32) Q
set_option maxHeartbeats 4000000 in
set_option maxRecDepth 100000 in
theorem cm_X5_wakeAll {l : Launch} {D : va_G} {cy : Nat → ClassId} {lo : Nat} {S : q_S} {a0 : Nat} {x1 : Int32} {Q : Option Value → q_S → Prop} (h : wm_X5_wakeAll S a0 x1 Q) : q_Met l D cy lo yX5_wakeAll cX5_wakeAll 3 none 2 43 0 0 [.ref a0, .int x1] S Q := by
  refine q_body (by decide) (by first | exact Nat.le_of_ble_eq_true rfl | simp [lg_sl, q_cat, q_catI, q_catJ, q_catR]) ?_
  intro p e s m below meth c ls X hnm Y hl
  have hx := X.1
  have hb := X.2.1
  have hl : lv_has ls 3 [(0, .ref a0), (1, .int x1)] := by first | exact hl | simpa [lv_args, q_cat, q_catI, q_catJ, q_catR] using hl
  generalize hargs : ([.ref a0, .int x1] : List Value).toArray = args at X ⊢
  unfold wm_X5_wakeAll at h
  refine lv_iconst (v := 0) hx hb dX5_wakeAll_0 (by decide) ?_
  refine lv_istore_n (i := 2) (lv' := [(2, .int (0 : Int32)), (0, .ref a0), (1, .int x1)]) hx hb dX5_wakeAll_1 rfl hl (by decide) (by first | rfl | simp [q_cat, q_catI, q_catJ, q_catR]) (fun ls hl => ?_)
  obtain ⟨n14_, h⟩ := h
  exact cl_X5_wakeAll_2 X n14_ _ _ _ _ _ _ _ h Y (lv_sub hl [1, 2, 0] rfl)
-- X0_ofSignals
theorem ml_X0_144 : Cond.methodLink RX0 144 yX5_thingAt ∈ q_G := q_tb (i := 1566) (by decide +kernel) (by decide +kernel)
theorem mt_X5_thingAt : q_Mt yX5_thingAt cX5_thingAt 3 (some (.object "PartitionWorks$Thing")) 2 := ⟨q_tb (i := 375) (by decide +kernel) (by decide +kernel), q_tb (i := 20) (by decide +kernel) (by decide +kernel), by decide +kernel, by decide +kernel, by decide +kernel⟩
theorem mi_X5_thingAt : Cond.instanceMethod yX5_thingAt ∈ q_G ∧ Cond.selects yX5_thingAt.cls yX5_thingAt yX5_thingAt ∈ q_G := ⟨q_tb (i := 373) (by decide +kernel) (by decide +kernel), q_tb (i := 374) (by decide +kernel) (by decide +kernel)⟩
theorem ml_X0_148 : Cond.methodLink RX0 148 yX0_takeSemaphore ∈ q_G := q_tb (i := 1567) (by decide +kernel) (by decide +kernel)
theorem mt_X0_takeSemaphore : q_Mt yX0_takeSemaphore cX0_takeSemaphore 4 (some .int) 3 := ⟨q_tb (i := 1570) (by decide +kernel) (by decide +kernel), q_tb (i := 10) (by decide +kernel) (by decide +kernel), by decide +kernel, by decide +kernel, by decide +kernel⟩
theorem mi_X0_takeSemaphore : Cond.instanceMethod yX0_takeSemaphore ∈ q_G ∧ Cond.selects yX0_takeSemaphore.cls yX0_takeSemaphore yX0_takeSemaphore ∈ q_G := ⟨q_tb (i := 1569) (by decide +kernel) (by decide +kernel), q_tp (i := 60) (q := (yX0_takeSemaphore, 5)) (by decide +kernel) (by decide +kernel)⟩
theorem ml_X0_152 : Cond.methodLink RX0 152 yX0_giveSemaphore ∈ q_G := q_tb (i := 1579) (by decide +kernel) (by decide +kernel)
theorem mt_X0_giveSemaphore : q_Mt yX0_giveSemaphore cX0_giveSemaphore 4 (some .int) 2 := ⟨q_tb (i := 1582) (by decide +kernel) (by decide +kernel), q_tb (i := 10) (by decide +kernel) (by decide +kernel), by decide +kernel, by decide +kernel, by decide +kernel⟩
theorem mi_X0_giveSemaphore : Cond.instanceMethod yX0_giveSemaphore ∈ q_G ∧ Cond.selects yX0_giveSemaphore.cls yX0_giveSemaphore yX0_giveSemaphore ∈ q_G := ⟨q_tb (i := 1581) (by decide +kernel) (by decide +kernel), q_tp (i := 63) (q := (yX0_giveSemaphore, 5)) (by decide +kernel) (by decide +kernel)⟩
theorem ml_X0_161 : Cond.methodLink RX0 161 yX5_wakeAll ∈ q_G := q_tb (i := 1585) (by decide +kernel) (by decide +kernel)
theorem mt_X5_wakeAll : q_Mt yX5_wakeAll cX5_wakeAll 3 none 1 := ⟨q_tb (i := 1588) (by decide +kernel) (by decide +kernel), q_tb (i := 20) (by decide +kernel) (by decide +kernel), by decide +kernel, by decide +kernel, by decide +kernel⟩
theorem mi_X5_wakeAll : Cond.instanceMethod yX5_wakeAll ∈ q_G ∧ Cond.selects yX5_wakeAll.cls yX5_wakeAll yX5_wakeAll ∈ q_G := ⟨q_tb (i := 1586) (by decide +kernel) (by decide +kernel), q_tb (i := 1587) (by decide +kernel) (by decide +kernel)⟩
theorem dX0_ofSignals_0 : decode cX0_ofSignals 0 = .ok (.aload_n 0, 1) := by decide +kernel
theorem dX0_ofSignals_1 : decode cX0_ofSignals 1 = .ok (.getfield 15, 3) := by decide +kernel
theorem dX0_ofSignals_4 : decode cX0_ofSignals 4 = .ok (.iload_n 1, 1) := by decide +kernel
theorem dX0_ofSignals_5 : decode cX0_ofSignals 5 = .ok (.bipush 9, 2) := by decide +kernel
theorem dX0_ofSignals_7 : decode cX0_ofSignals 7 = .ok (.if_icmp .gt 7, 3) := by decide +kernel
theorem dX0_ofSignals_10 : decode cX0_ofSignals 10 = .ok (.iconst 0, 1) := by decide +kernel
theorem dX0_ofSignals_11 : decode cX0_ofSignals 11 = .ok (.goto 4, 3) := by decide +kernel
theorem dX0_ofSignals_14 : decode cX0_ofSignals 14 = .ok (.iconst 1, 1) := by decide +kernel
theorem dX0_ofSignals_15 : decode cX0_ofSignals 15 = .ok (.iload_n 2, 1) := by decide +kernel
theorem dX0_ofSignals_16 : decode cX0_ofSignals 16 = .ok (.invokevirtual 144, 3) := by decide +kernel
theorem dX0_ofSignals_19 : decode cX0_ofSignals 19 = .ok (.astore 4, 2) := by decide +kernel
theorem dX0_ofSignals_21 : decode cX0_ofSignals 21 = .ok (.aload 4, 2) := by decide +kernel
theorem dX0_ofSignals_23 : decode cX0_ofSignals 23 = .ok (.ifnonnull 5, 3) := by decide +kernel
theorem dX0_ofSignals_26 : decode cX0_ofSignals 26 = .ok (.iconst 1, 1) := by decide +kernel
theorem dX0_ofSignals_27 : decode cX0_ofSignals 27 = .ok (.ireturn, 1) := by decide +kernel
theorem dX0_ofSignals_28 : decode cX0_ofSignals 28 = .ok (.iload_n 1, 1) := by decide +kernel
theorem dX0_ofSignals_29 : decode cX0_ofSignals 29 = .ok (.tableswitch 75 8 11 #[31, 40, 48, 67], 31) := by decide +kernel
theorem dX0_ofSignals_60 : decode cX0_ofSignals 60 = .ok (.aload_n 0, 1) := by decide +kernel
theorem dX0_ofSignals_61 : decode cX0_ofSignals 61 = .ok (.aload 4, 2) := by decide +kernel
theorem dX0_ofSignals_63 : decode cX0_ofSignals 63 = .ok (.iload_n 2, 1) := by decide +kernel
theorem dX0_ofSignals_64 : decode cX0_ofSignals 64 = .ok (.iload_n 3, 1) := by decide +kernel
theorem dX0_ofSignals_65 : decode cX0_ofSignals 65 = .ok (.invokevirtual 148, 3) := by decide +kernel
theorem dX0_ofSignals_68 : decode cX0_ofSignals 68 = .ok (.ireturn, 1) := by decide +kernel
theorem dX0_ofSignals_69 : decode cX0_ofSignals 69 = .ok (.aload_n 0, 1) := by decide +kernel
theorem dX0_ofSignals_70 : decode cX0_ofSignals 70 = .ok (.aload 4, 2) := by decide +kernel
theorem dX0_ofSignals_72 : decode cX0_ofSignals 72 = .ok (.iload_n 2, 1) := by decide +kernel
theorem dX0_ofSignals_73 : decode cX0_ofSignals 73 = .ok (.invokevirtual 152, 3) := by decide +kernel
theorem dX0_ofSignals_76 : decode cX0_ofSignals 76 = .ok (.ireturn, 1) := by decide +kernel
theorem dX0_ofSignals_77 : decode cX0_ofSignals 77 = .ok (.aload 4, 2) := by decide +kernel
theorem dX0_ofSignals_79 : decode cX0_ofSignals 79 = .ok (.iconst 1, 1) := by decide +kernel
theorem dX0_ofSignals_80 : decode cX0_ofSignals 80 = .ok (.putfield 156, 3) := by decide +kernel
theorem dX0_ofSignals_83 : decode cX0_ofSignals 83 = .ok (.aload_n 0, 1) := by decide +kernel
theorem dX0_ofSignals_84 : decode cX0_ofSignals 84 = .ok (.getfield 15, 3) := by decide +kernel
theorem dX0_ofSignals_87 : decode cX0_ofSignals 87 = .ok (.bipush 8, 2) := by decide +kernel
theorem dX0_ofSignals_89 : decode cX0_ofSignals 89 = .ok (.iload_n 2, 1) := by decide +kernel
theorem dX0_ofSignals_90 : decode cX0_ofSignals 90 = .ok (.iadd, 1) := by decide +kernel
theorem dX0_ofSignals_91 : decode cX0_ofSignals 91 = .ok (.invokevirtual 161, 3) := by decide +kernel
theorem dX0_ofSignals_94 : decode cX0_ofSignals 94 = .ok (.iconst 0, 1) := by decide +kernel
theorem dX0_ofSignals_95 : decode cX0_ofSignals 95 = .ok (.ireturn, 1) := by decide +kernel
theorem dX0_ofSignals_96 : decode cX0_ofSignals 96 = .ok (.aload 4, 2) := by decide +kernel
theorem dX0_ofSignals_98 : decode cX0_ofSignals 98 = .ok (.iconst 0, 1) := by decide +kernel
theorem dX0_ofSignals_99 : decode cX0_ofSignals 99 = .ok (.putfield 156, 3) := by decide +kernel
theorem dX0_ofSignals_102 : decode cX0_ofSignals 102 = .ok (.iconst 0, 1) := by decide +kernel
theorem dX0_ofSignals_103 : decode cX0_ofSignals 103 = .ok (.ireturn, 1) := by decide +kernel
theorem dX0_ofSignals_104 : decode cX0_ofSignals 104 = .ok (.aload_n 0, 1) := by decide +kernel
theorem dX0_ofSignals_105 : decode cX0_ofSignals 105 = .ok (.iload_n 3, 1) := by decide +kernel
theorem dX0_ofSignals_106 : decode cX0_ofSignals 106 = .ok (.invokevirtual 164, 3) := by decide +kernel
theorem dX0_ofSignals_109 : decode cX0_ofSignals 109 = .ok (.ifCond .eq 5, 3) := by decide +kernel
theorem dX0_ofSignals_112 : decode cX0_ofSignals 112 = .ok (.iconst 1, 1) := by decide +kernel
theorem dX0_ofSignals_113 : decode cX0_ofSignals 113 = .ok (.ireturn, 1) := by decide +kernel
theorem dX0_ofSignals_114 : decode cX0_ofSignals 114 = .ok (.aload 4, 2) := by decide +kernel
theorem dX0_ofSignals_116 : decode cX0_ofSignals 116 = .ok (.getfield 156, 3) := by decide +kernel
theorem dX0_ofSignals_119 : decode cX0_ofSignals 119 = .ok (.ifCond .eq 7, 3) := by decide +kernel
theorem dX0_ofSignals_122 : decode cX0_ofSignals 122 = .ok (.iconst 0, 1) := by decide +kernel
theorem dX0_ofSignals_123 : decode cX0_ofSignals 123 = .ok (.goto 12, 3) := by decide +kernel
theorem dX0_ofSignals_126 : decode cX0_ofSignals 126 = .ok (.aload_n 0, 1) := by decide +kernel
theorem dX0_ofSignals_127 : decode cX0_ofSignals 127 = .ok (.bipush 8, 2) := by decide +kernel
theorem dX0_ofSignals_129 : decode cX0_ofSignals 129 = .ok (.iload_n 2, 1) := by decide +kernel
theorem dX0_ofSignals_130 : decode cX0_ofSignals 130 = .ok (.iadd, 1) := by decide +kernel
theorem dX0_ofSignals_131 : decode cX0_ofSignals 131 = .ok (.iload_n 3, 1) := by decide +kernel
theorem dX0_ofSignals_132 : decode cX0_ofSignals 132 = .ok (.invokevirtual 87, 3) := by decide +kernel
theorem dX0_ofSignals_135 : decode cX0_ofSignals 135 = .ok (.ireturn, 1) := by decide +kernel
def wb_X0_ofSignals_135  (S : q_S) (xs0 : Int32) (Q : Option Value → q_S → Prop) : Prop := Q (some (.int xs0)) S
set_option maxHeartbeats 4000000 in
set_option maxRecDepth 100000 in
theorem cb_X0_ofSignals_135 {p : Program} {l : Launch} {e : Env} {s : State} {m : MethodId} {args : Array Value} {below : List Frame} {meth : Method} {c : Code} {D : va_G} {cy : Nat → ClassId} {lo : Nat}  {S : q_S} {xs0 : Int32} {Q : Option Value → q_S → Prop} {H : Heap} {locs : List Loc} {ls : Array Slot} (X : q_X p s m args meth c RX0 cX0_ofSignals 5 (some .int) D cy lo)  (Y : q_Y D cy lo s S H locs) (hl : lv_has ls 5 []) (h : wb_X0_ofSignals_135 S xs0 Q) : W p l e ({ frames := 3, cells := 0, slots := 0, locals := 70 } : Room) s m args below meth c H locs 0 0 (MQ below (q_Q D cy lo Q) args s 0 0 (fun q => lo ≤ q)) (F0 m 135 ls [.int xs0]) := by
  have hx := X.1
  have hb := X.2.1
  unfold wb_X0_ofSignals_135 at h
  exact q_iret X Y rfl (Nat.le_refl _) (Nat.le_refl _) h dX0_ofSignals_135
def wb_X0_ofSignals_15  (S : q_S) (a0 : Nat) (x1 : Int32) (x2 : Int32) (x3 : Int32) (rs0 : Option Nat) (xs1 : Int32) (Q : Option Value → q_S → Prop) : Prop := ∃ a1_ : Nat, rs0 = some a1_ ∧ (q_K S a1_ = 6 ∧ (wm_X5_thingAt S a1_ xs1 x2 (fun r4_ S5_ => ∃ r6_ : Option Nat, r4_ = some (va_rf r6_) ∧ (((¬ r6_ = none → ((((x1.toInt < 8 ∨ 11 < x1.toInt) → (q_K S5_ a0 = 1 ∧ (wm_X0_isNoTime S5_ a0 x3 (fun r9_ S10_ => ∃ x11_ : Int32, r9_ = some (.int x11_) ∧ (((x11_ = 0 → (∃ a13_ : Nat, r6_ = some a13_ ∧ (q_K S10_ a13_ = 11 ∧ ((((q_I S10_ 2001 a13_) = 0 → (q_K S10_ a0 = 1 ∧ (wm_X0_waitFor S10_ a0 ((8 : Int32) + x2) x3 (fun r18_ S19_ => ∃ x20_ : Int32, r18_ = some (.int x20_) ∧ (wb_X0_ofSignals_135 S19_ x20_ Q))))) ∧ (¬ (q_I S10_ 2001 a13_) = 0 → (wb_X0_ofSignals_135 S10_ (0 : Int32) Q))))))) ∧ (¬ x11_ = 0 → (Q (some (.int (1 : Int32))) S10_)))))))) ∧ ((x1 = (8 : Int32)) → (q_K S5_ a0 = 1 ∧ (wm_X0_takeSemaphore S5_ a0 r6_ x2 x3 (fun r22_ S23_ => ∃ x24_ : Int32, r22_ = some (.int x24_) ∧ (Q (some (.int x24_)) S23_))))) ∧ ((x1 = (9 : Int32)) → (q_K S5_ a0 = 1 ∧ (wm_X0_giveSemaphore S5_ a0 r6_ x2 (fun r26_ S27_ => ∃ x28_ : Int32, r26_ = some (.int x28_) ∧ (Q (some (.int x28_)) S27_))))) ∧ ((x1 = (10 : Int32)) → (∃ a29_ : Nat, r6_ = some a29_ ∧ (q_K S5_ a29_ = 11 ∧ (q_K (qs_I S5_ 2001 a29_ (1 : Int32)) a0 = 1 ∧ (∃ a33_ : Nat, (q_P (qs_I S5_ 2001 a29_ (1 : Int32)) 1 a0) = some a33_ ∧ (q_K (qs_I S5_ 2001 a29_ (1 : Int32)) a33_ = 6 ∧ (wm_X5_wakeAll (qs_I S5_ 2001 a29_ (1 : Int32)) a33_ ((8 : Int32) + x2) (fun r36_ S37_ => r36_ = none ∧ (Q (some (.int (0 : Int32))) S37_))))))))) ∧ ((x1 = (11 : Int32)) → (∃ a38_ : Nat, r6_ = some a38_ ∧ (q_K S5_ a38_ = 11 ∧ (Q (some (.int (0 : Int32))) (qs_I S5_ 2001 a38_ (0 : Int32))))))))) ∧ (r6_ = none → (Q (some (.int (1 : Int32))) S5_)))))))
set_option maxHeartbeats 4000000 in
set_option maxRecDepth 100000 in
theorem cb_X0_ofSignals_15 {p : Program} {l : Launch} {e : Env} {s : State} {m : MethodId} {args : Array Value} {below : List Frame} {meth : Method} {c : Code} {D : va_G} {cy : Nat → ClassId} {lo : Nat}  {S : q_S} {a0 : Nat} {x1 : Int32} {x2 : Int32} {x3 : Int32} {rs0 : Option Nat} {xs1 : Int32} {Q : Option Value → q_S → Prop} {H : Heap} {locs : List Loc} {ls : Array Slot} (X : q_X p s m args meth c RX0 cX0_ofSignals 5 (some .int) D cy lo)  (Y : q_Y D cy lo s S H locs) (hl : lv_has ls 5 [(0, .ref a0), (1, .int x1), (2, .int x2), (3, .int x3)]) (h : wb_X0_ofSignals_15 S a0 x1 x2 x3 rs0 xs1 Q) : W p l e ({ frames := 3, cells := 0, slots := 0, locals := 70 } : Room) s m args below meth c H locs 0 0 (MQ below (q_Q D cy lo Q) args s 0 0 (fun q => lo ≤ q)) (F0 m 15 ls [.int xs1, va_rf rs0]) := by
  have hx := X.1
  have hb := X.2.1
  unfold wb_X0_ofSignals_15 at h
  refine lv_iload_n hx hb dX0_ofSignals_15 rfl (lv_at hl 2 rfl) ?_
  obtain ⟨a1_, e2_, h⟩ := h
  refine q_nn [.int x2, .int xs1] e2_ ?_
  obtain ⟨k3_, h⟩ := h
  refine q_callV X Y hl (cm_X5_thingAt h) mt_X5_thingAt mi_X5_thingAt ml_X0_144 (ci := 5) rfl k3_ (by decide) rfl rfl (by first | exact Nat.le_of_ble_eq_true rfl | simp [q_cat, q_catI, q_catJ, q_catR]) ⟨Nat.le_of_ble_eq_true rfl, Nat.le_of_ble_eq_true rfl⟩ ⟨Nat.le_of_ble_eq_true rfl, Nat.le_of_ble_eq_true rfl⟩ dX0_ofSignals_16 (fun r4_ S5_ H locs hp Y => ?_)
  obtain ⟨r6_, rfl, h⟩ := hp
  refine W.eq (g2 := F0 m 19 ls [va_rf r6_]) rfl ?_
  refine q_astore (i := 4) (lv' := [(4, va_rf r6_), (0, .ref a0), (1, .int x1), (2, .int x2), (3, .int x3)]) hx hb dX0_ofSignals_19 hl (by decide) (by first | rfl | simp [q_cat, q_catI, q_catJ, q_catR]) (fun ls hl => ?_)
  refine q_aload hx hb dX0_ofSignals_21 (lv_at hl 0 rfl) ?_
  refine q_ifnonnull (r := r6_) (tgt := 28) hx hb dX0_ofSignals_23 (by decide) (fun c7_ => ?_) (fun c7_ => ?_)
  · replace h := h.1 c7_
    refine lv_iload_n hx hb dX0_ofSignals_28 rfl (lv_at hl 2 rfl) ?_
    refine q_tsw (tgt := 104) hx hb dX0_ofSignals_29 (by decide) (by decide) (fun c41_ => ?_) (fun j42_ hj_ c41_ => ?_)
    · replace h := h.1 c41_
      refine lv_aload_n hx hb dX0_ofSignals_104 rfl (lv_at hl 1 rfl) ?_
      refine lv_iload_n hx hb dX0_ofSignals_105 rfl (lv_at hl 4 rfl) ?_
      obtain ⟨k8_, h⟩ := h
      refine q_callV X Y hl (cm_X0_isNoTime h) mt_X0_isNoTime mi_X0_isNoTime ml_X0_164 (ci := 0) rfl k8_ (by decide) rfl rfl (by first | exact Nat.le_of_ble_eq_true rfl | simp [q_cat, q_catI, q_catJ, q_catR]) ⟨Nat.le_of_ble_eq_true rfl, Nat.le_of_ble_eq_true rfl⟩ ⟨Nat.le_of_ble_eq_true rfl, Nat.le_of_ble_eq_true rfl⟩ dX0_ofSignals_106 (fun r9_ S10_ H locs hp Y => ?_)
      obtain ⟨x11_, rfl, h⟩ := hp
      refine W.eq (g2 := F0 m 109 ls [.int x11_]) rfl ?_
      refine lv_if_eq (tgt := 114) hx hb dX0_ofSignals_109 (by decide) (fun c12_ => ?_) (fun c12_ => ?_)
      · replace h := h.1 c12_
        refine q_aload hx hb dX0_ofSignals_114 (lv_at hl 0 rfl) ?_
        obtain ⟨a13_, e14_, h⟩ := h
        refine q_nn [] e14_ ?_
        obtain ⟨k15_, h⟩ := h
        refine q_getI X Y kX10 1 rfl fl_X0_156 k15_ dX0_ofSignals_116 ?_
        refine lv_if_eq (tgt := 126) hx hb dX0_ofSignals_119 (by decide) (fun c16_ => ?_) (fun c16_ => ?_)
        · replace h := h.1 c16_
          refine lv_aload_n hx hb dX0_ofSignals_126 rfl (lv_at hl 1 rfl) ?_
          refine lv_bipush (v := 8) hx hb dX0_ofSignals_127 (by decide) ?_
          refine lv_iload_n hx hb dX0_ofSignals_129 rfl (lv_at hl 3 rfl) ?_
          refine lv_iadd hx hb dX0_ofSignals_130 ?_
          refine lv_iload_n hx hb dX0_ofSignals_131 rfl (lv_at hl 4 rfl) ?_
          obtain ⟨k17_, h⟩ := h
          refine q_callV X Y hl (cm_X0_waitFor h) mt_X0_waitFor mi_X0_waitFor ml_X0_87 (ci := 0) rfl k17_ (by decide) rfl rfl (by first | exact Nat.le_of_ble_eq_true rfl | simp [q_cat, q_catI, q_catJ, q_catR]) ⟨Nat.le_of_ble_eq_true rfl, Nat.le_of_ble_eq_true rfl⟩ ⟨Nat.le_of_ble_eq_true rfl, Nat.le_of_ble_eq_true rfl⟩ dX0_ofSignals_132 (fun r18_ S19_ H locs hp Y => ?_)
          obtain ⟨x20_, rfl, h⟩ := hp
          refine W.eq (g2 := F0 m 135 ls [.int x20_]) rfl ?_
          exact cb_X0_ofSignals_135 X Y (lv_sub hl [] rfl) h
        · replace h := h.2 c16_
          refine lv_iconst (v := 0) hx hb dX0_ofSignals_122 (by decide) ?_
          refine lv_goto (tgt := 135) hx hb dX0_ofSignals_123 (by decide) ?_
          exact cb_X0_ofSignals_135 X Y (lv_sub hl [] rfl) h
      · replace h := h.2 c12_
        refine lv_iconst (v := 1) hx hb dX0_ofSignals_112 (by decide) ?_
        exact q_iret X Y rfl (Nat.le_refl _) (Nat.le_refl _) h dX0_ofSignals_113
    · match j42_, hj_, c41_ with
      | 0, _, c41_ =>
        refine ⟨31, 60, rfl, by decide, ?_⟩
        replace h := h.2.1 (q_eqI c41_ (by decide))
        refine lv_aload_n hx hb dX0_ofSignals_60 rfl (lv_at hl 1 rfl) ?_
        refine q_aload hx hb dX0_ofSignals_61 (lv_at hl 0 rfl) ?_
        refine lv_iload_n hx hb dX0_ofSignals_63 rfl (lv_at hl 3 rfl) ?_
        refine lv_iload_n hx hb dX0_ofSignals_64 rfl (lv_at hl 4 rfl) ?_
        obtain ⟨k21_, h⟩ := h
        refine q_callV X Y hl (cm_X0_takeSemaphore h) mt_X0_takeSemaphore mi_X0_takeSemaphore ml_X0_148 (ci := 0) rfl k21_ (by decide) rfl rfl (by first | exact Nat.le_of_ble_eq_true rfl | simp [q_cat, q_catI, q_catJ, q_catR]) ⟨Nat.le_of_ble_eq_true rfl, Nat.le_of_ble_eq_true rfl⟩ ⟨Nat.le_of_ble_eq_true rfl, Nat.le_of_ble_eq_true rfl⟩ dX0_ofSignals_65 (fun r22_ S23_ H locs hp Y => ?_)
        obtain ⟨x24_, rfl, h⟩ := hp
        refine W.eq (g2 := F0 m 68 ls [.int x24_]) rfl ?_
        exact q_iret X Y rfl (Nat.le_refl _) (Nat.le_refl _) h dX0_ofSignals_68
      | 1, _, c41_ =>
        refine ⟨40, 69, rfl, by decide, ?_⟩
        replace h := h.2.2.1 (q_eqI c41_ (by decide))
        refine lv_aload_n hx hb dX0_ofSignals_69 rfl (lv_at hl 1 rfl) ?_
        refine q_aload hx hb dX0_ofSignals_70 (lv_at hl 0 rfl) ?_
        refine lv_iload_n hx hb dX0_ofSignals_72 rfl (lv_at hl 3 rfl) ?_
        obtain ⟨k25_, h⟩ := h
        refine q_callV X Y hl (cm_X0_giveSemaphore h) mt_X0_giveSemaphore mi_X0_giveSemaphore ml_X0_152 (ci := 0) rfl k25_ (by decide) rfl rfl (by first | exact Nat.le_of_ble_eq_true rfl | simp [q_cat, q_catI, q_catJ, q_catR]) ⟨Nat.le_of_ble_eq_true rfl, Nat.le_of_ble_eq_true rfl⟩ ⟨Nat.le_of_ble_eq_true rfl, Nat.le_of_ble_eq_true rfl⟩ dX0_ofSignals_73 (fun r26_ S27_ H locs hp Y => ?_)
        obtain ⟨x28_, rfl, h⟩ := hp
        refine W.eq (g2 := F0 m 76 ls [.int x28_]) rfl ?_
        exact q_iret X Y rfl (Nat.le_refl _) (Nat.le_refl _) h dX0_ofSignals_76
      | 2, _, c41_ =>
        refine ⟨48, 77, rfl, by decide, ?_⟩
        replace h := h.2.2.2.1 (q_eqI c41_ (by decide))
        refine q_aload hx hb dX0_ofSignals_77 (lv_at hl 0 rfl) ?_
        refine lv_iconst (v := 1) hx hb dX0_ofSignals_79 (by decide) ?_
        obtain ⟨a29_, e30_, h⟩ := h
        refine q_nn [.int (1 : Int32)] e30_ ?_
        obtain ⟨k31_, h⟩ := h
        refine q_putI X Y kX10 1 rfl fl_X0_156 k31_ .int rfl ⟨rfl, rfl⟩ rfl dX0_ofSignals_80 (fun H locs Y => ?_)
        refine lv_aload_n hx hb dX0_ofSignals_83 rfl (lv_at hl 1 rfl) ?_
        obtain ⟨k32_, h⟩ := h
        refine q_getP X Y kX0 1 rfl fl_X0_15 k32_ rfl dX0_ofSignals_84 ?_
        refine lv_bipush (v := 8) hx hb dX0_ofSignals_87 (by decide) ?_
        refine lv_iload_n hx hb dX0_ofSignals_89 rfl (lv_at hl 3 rfl) ?_
        refine lv_iadd hx hb dX0_ofSignals_90 ?_
        obtain ⟨a33_, e34_, h⟩ := h
        refine q_nn [.int ((8 : Int32) + x2)] e34_ ?_
        obtain ⟨k35_, h⟩ := h
        refine q_callV X Y hl (cm_X5_wakeAll h) mt_X5_wakeAll mi_X5_wakeAll ml_X0_161 (ci := 5) rfl k35_ (by decide) rfl rfl (by first | exact Nat.le_of_ble_eq_true rfl | simp [q_cat, q_catI, q_catJ, q_catR]) ⟨Nat.le_of_ble_eq_true rfl, Nat.le_of_ble_eq_true rfl⟩ ⟨Nat.le_of_ble_eq_true rfl, Nat.le_of_ble_eq_true rfl⟩ dX0_ofSignals_91 (fun r36_ S37_ H locs hp Y => ?_)
        obtain ⟨rfl, h⟩ := hp
        refine W.eq (g2 := F0 m 94 ls []) rfl ?_
        refine lv_iconst (v := 0) hx hb dX0_ofSignals_94 (by decide) ?_
        exact q_iret X Y rfl (Nat.le_refl _) (Nat.le_refl _) h dX0_ofSignals_95
      | 3, _, c41_ =>
        refine ⟨67, 96, rfl, by decide, ?_⟩
        replace h := h.2.2.2.2 (q_eqI c41_ (by decide))
        refine q_aload hx hb dX0_ofSignals_96 (lv_at hl 0 rfl) ?_
        refine lv_iconst (v := 0) hx hb dX0_ofSignals_98 (by decide) ?_
        obtain ⟨a38_, e39_, h⟩ := h
        refine q_nn [.int (0 : Int32)] e39_ ?_
        obtain ⟨k40_, h⟩ := h
        refine q_putI X Y kX10 1 rfl fl_X0_156 k40_ .int rfl ⟨rfl, rfl⟩ rfl dX0_ofSignals_99 (fun H locs Y => ?_)
        refine lv_iconst (v := 0) hx hb dX0_ofSignals_102 (by decide) ?_
        exact q_iret X Y rfl (Nat.le_refl _) (Nat.le_refl _) h dX0_ofSignals_103
      | z_ + 4, hj_, _ => exact absurd hj_ (by simp)
  · replace h := h.2 c7_
    refine lv_iconst (v := 1) hx hb dX0_ofSignals_26 (by decide) ?_
    exact q_iret X Y rfl (Nat.le_refl _) (Nat.le_refl _) h dX0_ofSignals_27
def wm_X0_ofSignals (S : q_S) (a0 : Nat) (x1 : Int32) (x2 : Int32) (x3 : Int32) (Q : Option Value → q_S → Prop) : Prop := q_K S a0 = 1 ∧ ((((9 : Int32) < x1 → (wb_X0_ofSignals_15 S a0 x1 x2 x3 (q_P S 1 a0) (1 : Int32) Q)) ∧ (¬ (9 : Int32) < x1 → (wb_X0_ofSignals_15 S a0 x1 x2 x3 (q_P S 1 a0) (0 : Int32) Q))))
set_option maxHeartbeats 4000000 in
set_option maxRecDepth 100000 in
theorem cm_X0_ofSignals {l : Launch} {D : va_G} {cy : Nat → ClassId} {lo : Nat} {S : q_S} {a0 : Nat} {x1 : Int32} {x2 : Int32} {x3 : Int32} {Q : Option Value → q_S → Prop} (h : wm_X0_ofSignals S a0 x1 x2 x3 Q) : q_Met l D cy lo yX0_ofSignals cX0_ofSignals 5 (some .int) 3 70 0 0 [.ref a0, .int x1, .int x2, .int x3] S Q := by
  refine q_body (by decide) (by first | exact Nat.le_of_ble_eq_true rfl | simp [lg_sl, q_cat, q_catI, q_catJ, q_catR]) ?_
  intro p e s m below meth c ls X hnm Y hl
  have hx := X.1
  have hb := X.2.1
  have hl : lv_has ls 5 [(0, .ref a0), (1, .int x1), (2, .int x2), (3, .int x3)] := by first | exact hl | simpa [lv_args, q_cat, q_catI, q_catJ, q_catR] using hl
  generalize hargs : ([.ref a0, .int x1, .int x2, .int x3] : List Value).toArray = args at X ⊢
  unfold wm_X0_ofSignals at h
  refine lv_aload_n hx hb dX0_ofSignals_0 rfl (lv_at hl 0 rfl) ?_
  obtain ⟨k43_, h⟩ := h
  refine q_getP X Y kX0 1 rfl fl_X0_15 k43_ rfl dX0_ofSignals_1 ?_
  refine lv_iload_n hx hb dX0_ofSignals_4 rfl (lv_at hl 1 rfl) ?_
  refine lv_bipush (v := 9) hx hb dX0_ofSignals_5 (by decide) ?_
  refine lv_icmp_gt (tgt := 14) hx hb dX0_ofSignals_7 (by decide) (fun c44_ => ?_) (fun c44_ => ?_)
  · replace h := h.1 c44_
    refine lv_iconst (v := 1) hx hb dX0_ofSignals_14 (by decide) ?_
    exact cb_X0_ofSignals_15 X Y (lv_sub hl [0, 1, 2, 3] rfl) h
  · replace h := h.2 c44_
    refine lv_iconst (v := 0) hx hb dX0_ofSignals_10 (by decide) ?_
    refine lv_goto (tgt := 15) hx hb dX0_ofSignals_11 (by decide) ?_
    exact cb_X0_ofSignals_15 X Y (lv_sub hl [0, 1, 2, 3] rfl) h
-- X5_giveTaker
theorem ml_X5_180 : Cond.methodLink RX5 180 yX5_firstWaiting ∈ q_G := q_tb (i := 1383) (by decide +kernel) (by decide +kernel)
theorem dX5_giveTaker_0 : decode cX5_giveTaker 0 = .ok (.aload_n 0, 1) := by decide +kernel
theorem dX5_giveTaker_1 : decode cX5_giveTaker 1 = .ok (.iload_n 1, 1) := by decide +kernel
theorem dX5_giveTaker_2 : decode cX5_giveTaker 2 = .ok (.iload_n 2, 1) := by decide +kernel
theorem dX5_giveTaker_3 : decode cX5_giveTaker 3 = .ok (.invokevirtual 180, 3) := by decide +kernel
theorem dX5_giveTaker_6 : decode cX5_giveTaker 6 = .ok (.astore 4, 2) := by decide +kernel
theorem dX5_giveTaker_8 : decode cX5_giveTaker 8 = .ok (.aload 4, 2) := by decide +kernel
theorem dX5_giveTaker_10 : decode cX5_giveTaker 10 = .ok (.ifnonnull 5, 3) := by decide +kernel
theorem dX5_giveTaker_13 : decode cX5_giveTaker 13 = .ok (.iconst 0, 1) := by decide +kernel
theorem dX5_giveTaker_14 : decode cX5_giveTaker 14 = .ok (.ireturn, 1) := by decide +kernel
theorem dX5_giveTaker_15 : decode cX5_giveTaker 15 = .ok (.aload_n 0, 1) := by decide +kernel
theorem dX5_giveTaker_16 : decode cX5_giveTaker 16 = .ok (.aload 4, 2) := by decide +kernel
theorem dX5_giveTaker_18 : decode cX5_giveTaker 18 = .ok (.iconst 0, 1) := by decide +kernel
theorem dX5_giveTaker_19 : decode cX5_giveTaker 19 = .ok (.invokevirtual 169, 3) := by decide +kernel
theorem dX5_giveTaker_22 : decode cX5_giveTaker 22 = .ok (.aload 4, 2) := by decide +kernel
theorem dX5_giveTaker_24 : decode cX5_giveTaker 24 = .ok (.getfield 121, 3) := by decide +kernel
theorem dX5_giveTaker_27 : decode cX5_giveTaker 27 = .ok (.bipush 11, 2) := by decide +kernel
theorem dX5_giveTaker_29 : decode cX5_giveTaker 29 = .ok (.iload_n 3, 1) := by decide +kernel
theorem dX5_giveTaker_30 : decode cX5_giveTaker 30 = .ok (.iastore, 1) := by decide +kernel
theorem dX5_giveTaker_31 : decode cX5_giveTaker 31 = .ok (.iconst 1, 1) := by decide +kernel
theorem dX5_giveTaker_32 : decode cX5_giveTaker 32 = .ok (.ireturn, 1) := by decide +kernel
def wm_X5_giveTaker (S : q_S) (a0 : Nat) (x1 : Int32) (x2 : Int32) (x3 : Int32) (Q : Option Value → q_S → Prop) : Prop := q_K S a0 = 6 ∧ (wm_X5_firstWaiting S a0 x1 x2 (fun r2_ S3_ => ∃ r4_ : Option Nat, r2_ = some (va_rf r4_) ∧ (((¬ r4_ = none → (q_K S3_ a0 = 6 ∧ (wm_X5_answerWaiter S3_ a0 r4_ (0 : Int32) (fun r7_ S8_ => r7_ = none ∧ (∃ a9_ : Nat, r4_ = some a9_ ∧ (q_K S8_ a9_ = 8 ∧ (∃ a12_ : Nat, (q_P S8_ 1411 a9_) = some a12_ ∧ (q_K S8_ a12_ = 21 ∧ (vp_in (11 : Int32) (q_N S8_ a12_) ∧ (Q (some (.int (1 : Int32))) (qs_A S8_ a12_ (11 : Int32).toNatClampNeg x3))))))))))) ∧ (r4_ = none → (Q (some (.int (0 : Int32))) S3_))))))
set_option maxHeartbeats 4000000 in
set_option maxRecDepth 100000 in
theorem cm_X5_giveTaker {l : Launch} {D : va_G} {cy : Nat → ClassId} {lo : Nat} {S : q_S} {a0 : Nat} {x1 : Int32} {x2 : Int32} {x3 : Int32} {Q : Option Value → q_S → Prop} (h : wm_X5_giveTaker S a0 x1 x2 x3 Q) : q_Met l D cy lo yX5_giveTaker cX5_giveTaker 5 (some .boolean) 2 47 0 0 [.ref a0, .int x1, .int x2, .int x3] S Q := by
  refine q_body (by decide) (by first | exact Nat.le_of_ble_eq_true rfl | simp [lg_sl, q_cat, q_catI, q_catJ, q_catR]) ?_
  intro p e s m below meth c ls X hnm Y hl
  have hx := X.1
  have hb := X.2.1
  have hl : lv_has ls 5 [(0, .ref a0), (1, .int x1), (2, .int x2), (3, .int x3)] := by first | exact hl | simpa [lv_args, q_cat, q_catI, q_catJ, q_catR] using hl
  generalize hargs : ([.ref a0, .int x1, .int x2, .int x3] : List Value).toArray = args at X ⊢
  unfold wm_X5_giveTaker at h
  refine lv_aload_n hx hb dX5_giveTaker_0 rfl (lv_at hl 0 rfl) ?_
  refine lv_iload_n hx hb dX5_giveTaker_1 rfl (lv_at hl 1 rfl) ?_
  refine lv_iload_n hx hb dX5_giveTaker_2 rfl (lv_at hl 2 rfl) ?_
  obtain ⟨k1_, h⟩ := h
  refine q_callV X Y hl (cm_X5_firstWaiting h) mt_X5_firstWaiting mi_X5_firstWaiting ml_X5_180 (ci := 5) rfl k1_ (by decide) rfl rfl (by first | exact Nat.le_of_ble_eq_true rfl | simp [q_cat, q_catI, q_catJ, q_catR]) ⟨Nat.le_of_ble_eq_true rfl, Nat.le_of_ble_eq_true rfl⟩ ⟨Nat.le_of_ble_eq_true rfl, Nat.le_of_ble_eq_true rfl⟩ dX5_giveTaker_3 (fun r2_ S3_ H locs hp Y => ?_)
  obtain ⟨r4_, rfl, h⟩ := hp
  refine W.eq (g2 := F0 m 6 ls [va_rf r4_]) rfl ?_
  refine q_astore (i := 4) (lv' := [(4, va_rf r4_), (0, .ref a0), (1, .int x1), (2, .int x2), (3, .int x3)]) hx hb dX5_giveTaker_6 hl (by decide) (by first | rfl | simp [q_cat, q_catI, q_catJ, q_catR]) (fun ls hl => ?_)
  refine q_aload hx hb dX5_giveTaker_8 (lv_at hl 0 rfl) ?_
  refine q_ifnonnull (r := r4_) (tgt := 15) hx hb dX5_giveTaker_10 (by decide) (fun c5_ => ?_) (fun c5_ => ?_)
  · replace h := h.1 c5_
    refine lv_aload_n hx hb dX5_giveTaker_15 rfl (lv_at hl 1 rfl) ?_
    refine q_aload hx hb dX5_giveTaker_16 (lv_at hl 0 rfl) ?_
    refine lv_iconst (v := 0) hx hb dX5_giveTaker_18 (by decide) ?_
    obtain ⟨k6_, h⟩ := h
    refine q_callV X Y hl (cm_X5_answerWaiter h) mt_X5_answerWaiter mi_X5_answerWaiter ml_X5_169 (ci := 5) rfl k6_ (by decide) rfl rfl (by first | exact Nat.le_of_ble_eq_true rfl | simp [q_cat, q_catI, q_catJ, q_catR]) ⟨Nat.le_of_ble_eq_true rfl, Nat.le_of_ble_eq_true rfl⟩ ⟨Nat.le_of_ble_eq_true rfl, Nat.le_of_ble_eq_true rfl⟩ dX5_giveTaker_19 (fun r7_ S8_ H locs hp Y => ?_)
    obtain ⟨rfl, h⟩ := hp
    refine W.eq (g2 := F0 m 22 ls []) rfl ?_
    refine q_aload hx hb dX5_giveTaker_22 (lv_at hl 0 rfl) ?_
    obtain ⟨a9_, e10_, h⟩ := h
    refine q_nn [] e10_ ?_
    obtain ⟨k11_, h⟩ := h
    refine q_getP X Y kX7 11 rfl fl_X5_121 k11_ rfl dX5_giveTaker_24 ?_
    refine lv_bipush (v := 11) hx hb dX5_giveTaker_27 (by decide) ?_
    refine lv_iload_n hx hb dX5_giveTaker_29 rfl (lv_at hl 4 rfl) ?_
    obtain ⟨a12_, e13_, h⟩ := h
    refine q_nn [.int x3, .int (11 : Int32)] e13_ ?_
    obtain ⟨k14_, h⟩ := h
    obtain ⟨i15_, h⟩ := h
    refine q_ist X Y k14_ i15_ dX5_giveTaker_30 (fun H locs Y => ?_)
    refine lv_iconst (v := 1) hx hb dX5_giveTaker_31 (by decide) ?_
    exact q_iret X Y rfl (Nat.le_refl _) (Nat.le_refl _) h dX5_giveTaker_32
  · replace h := h.2 c5_
    refine lv_iconst (v := 0) hx hb dX5_giveTaker_13 (by decide) ?_
    exact q_iret X Y rfl (Nat.le_refl _) (Nat.le_refl _) h dX5_giveTaker_14
-- X8_indexOf
theorem fl_X8_26 : Cond.fieldLink RX8 26 "PartitionWorks$Queue" "first" "I" ∈ q_G := q_tb (i := 984) (by decide +kernel) (by decide +kernel)
theorem fl_X8_19 : Cond.fieldLink RX8 19 "PartitionWorks$Queue" "depth" "I" ∈ q_G := q_tb (i := 983) (by decide +kernel) (by decide +kernel)
theorem dX8_indexOf_0 : decode cX8_indexOf 0 = .ok (.aload_n 0, 1) := by decide +kernel
theorem dX8_indexOf_1 : decode cX8_indexOf 1 = .ok (.getfield 26, 3) := by decide +kernel
theorem dX8_indexOf_4 : decode cX8_indexOf 4 = .ok (.iload_n 1, 1) := by decide +kernel
theorem dX8_indexOf_5 : decode cX8_indexOf 5 = .ok (.iadd, 1) := by decide +kernel
theorem dX8_indexOf_6 : decode cX8_indexOf 6 = .ok (.istore_n 2, 1) := by decide +kernel
theorem dX8_indexOf_7 : decode cX8_indexOf 7 = .ok (.iload_n 2, 1) := by decide +kernel
theorem dX8_indexOf_8 : decode cX8_indexOf 8 = .ok (.aload_n 0, 1) := by decide +kernel
theorem dX8_indexOf_9 : decode cX8_indexOf 9 = .ok (.getfield 19, 3) := by decide +kernel
theorem dX8_indexOf_12 : decode cX8_indexOf 12 = .ok (.if_icmp .lt 12, 3) := by decide +kernel
theorem dX8_indexOf_15 : decode cX8_indexOf 15 = .ok (.iload_n 2, 1) := by decide +kernel
theorem dX8_indexOf_16 : decode cX8_indexOf 16 = .ok (.aload_n 0, 1) := by decide +kernel
theorem dX8_indexOf_17 : decode cX8_indexOf 17 = .ok (.getfield 19, 3) := by decide +kernel
theorem dX8_indexOf_20 : decode cX8_indexOf 20 = .ok (.isub, 1) := by decide +kernel
theorem dX8_indexOf_21 : decode cX8_indexOf 21 = .ok (.goto 4, 3) := by decide +kernel
theorem dX8_indexOf_24 : decode cX8_indexOf 24 = .ok (.iload_n 2, 1) := by decide +kernel
theorem dX8_indexOf_25 : decode cX8_indexOf 25 = .ok (.ireturn, 1) := by decide +kernel
def wb_X8_indexOf_25  (S : q_S) (xs0 : Int32) (Q : Option Value → q_S → Prop) : Prop := Q (some (.int xs0)) S
set_option maxHeartbeats 4000000 in
set_option maxRecDepth 100000 in
theorem cb_X8_indexOf_25 {p : Program} {l : Launch} {e : Env} {s : State} {m : MethodId} {args : Array Value} {below : List Frame} {meth : Method} {c : Code} {D : va_G} {cy : Nat → ClassId} {lo : Nat}  {S : q_S} {xs0 : Int32} {Q : Option Value → q_S → Prop} {H : Heap} {locs : List Loc} {ls : Array Slot} (X : q_X p s m args meth c RX8 cX8_indexOf 3 (some .int) D cy lo)  (Y : q_Y D cy lo s S H locs) (hl : lv_has ls 3 []) (h : wb_X8_indexOf_25 S xs0 Q) : W p l e ({ frames := 0, cells := 0, slots := 0, locals := 0 } : Room) s m args below meth c H locs 0 0 (MQ below (q_Q D cy lo Q) args s 0 0 (fun q => lo ≤ q)) (F0 m 25 ls [.int xs0]) := by
  have hx := X.1
  have hb := X.2.1
  unfold wb_X8_indexOf_25 at h
  exact q_iret X Y rfl (Nat.le_refl _) (Nat.le_refl _) h dX8_indexOf_25
def wm_X8_indexOf (S : q_S) (a0 : Nat) (x1 : Int32) (Q : Option Value → q_S → Prop) : Prop := q_K S a0 = 9 ∧ (((((q_I S 1602 a0) + x1) < (q_I S 1601 a0) → (wb_X8_indexOf_25 S ((q_I S 1602 a0) + x1) Q)) ∧ (¬ ((q_I S 1602 a0) + x1) < (q_I S 1601 a0) → (wb_X8_indexOf_25 S (((q_I S 1602 a0) + x1) - (q_I S 1601 a0)) Q))))
set_option maxHeartbeats 4000000 in
set_option maxRecDepth 100000 in
theorem cm_X8_indexOf {l : Launch} {D : va_G} {cy : Nat → ClassId} {lo : Nat} {S : q_S} {a0 : Nat} {x1 : Int32} {Q : Option Value → q_S → Prop} (h : wm_X8_indexOf S a0 x1 Q) : q_Met l D cy lo yX8_indexOf cX8_indexOf 3 (some .int) 0 0 0 0 [.ref a0, .int x1] S Q := by
  refine q_body (by decide) (by first | exact Nat.le_of_ble_eq_true rfl | simp [lg_sl, q_cat, q_catI, q_catJ, q_catR]) ?_
  intro p e s m below meth c ls X hnm Y hl
  have hx := X.1
  have hb := X.2.1
  have hl : lv_has ls 3 [(0, .ref a0), (1, .int x1)] := by first | exact hl | simpa [lv_args, q_cat, q_catI, q_catJ, q_catR] using hl
  generalize hargs : ([.ref a0, .int x1] : List Value).toArray = args at X ⊢
  unfold wm_X8_indexOf at h
  refine lv_aload_n hx hb dX8_indexOf_0 rfl (lv_at hl 0 rfl) ?_
  obtain ⟨k1_, h⟩ := h
  refine q_getI X Y kX8 2 rfl fl_X8_26 k1_ dX8_indexOf_1 ?_
  refine lv_iload_n hx hb dX8_indexOf_4 rfl (lv_at hl 1 rfl) ?_
  refine lv_iadd hx hb dX8_indexOf_5 ?_
  refine lv_istore_n (i := 2) (lv' := [(2, .int ((q_I S 1602 a0) + x1)), (0, .ref a0), (1, .int x1)]) hx hb dX8_indexOf_6 rfl hl (by decide) (by first | rfl | simp [q_cat, q_catI, q_catJ, q_catR]) (fun ls hl => ?_)
  refine lv_iload_n hx hb dX8_indexOf_7 rfl (lv_at hl 0 rfl) ?_
  refine lv_aload_n hx hb dX8_indexOf_8 rfl (lv_at hl 1 rfl) ?_
  refine q_getI X Y kX8 1 rfl fl_X8_19 k1_ dX8_indexOf_9 ?_
  refine lv_icmp_lt (tgt := 24) hx hb dX8_indexOf_12 (by decide) (fun c2_ => ?_) (fun c2_ => ?_)
  · replace h := h.1 c2_
    refine lv_iload_n hx hb dX8_indexOf_24 rfl (lv_at hl 0 rfl) ?_
    exact cb_X8_indexOf_25 X Y (lv_sub hl [] rfl) h
  · replace h := h.2 c2_
    refine lv_iload_n hx hb dX8_indexOf_15 rfl (lv_at hl 0 rfl) ?_
    refine lv_aload_n hx hb dX8_indexOf_16 rfl (lv_at hl 1 rfl) ?_
    refine q_getI X Y kX8 1 rfl fl_X8_19 k1_ dX8_indexOf_17 ?_
    refine lv_isub hx hb dX8_indexOf_20 ?_
    refine lv_goto (tgt := 25) hx hb dX8_indexOf_21 (by decide) ?_
    exact cb_X8_indexOf_25 X Y (lv_sub hl [] rfl) h
-- X8_add
theorem fl_X8_29 : Cond.fieldLink RX8 29 "PartitionWorks$Queue" "count" "I" ∈ q_G := q_tb (i := 985) (by decide +kernel) (by decide +kernel)
theorem fl_X8_7 : Cond.fieldLink RX8 7 "PartitionWorks$Queue" "words" "[I" ∈ q_G := q_tb (i := 982) (by decide +kernel) (by decide +kernel)
theorem ml_X8_32 : Cond.methodLink RX8 32 yX8_indexOf ∈ q_G := q_tb (i := 405) (by decide +kernel) (by decide +kernel)
theorem mt_X8_indexOf : q_Mt yX8_indexOf cX8_indexOf 3 (some .int) 1 := ⟨q_tb (i := 409) (by decide +kernel) (by decide +kernel), q_tb (i := 24) (by decide +kernel) (by decide +kernel), by decide +kernel, by decide +kernel, by decide +kernel⟩
theorem mi_X8_indexOf : Cond.instanceMethod yX8_indexOf ∈ q_G ∧ Cond.selects yX8_indexOf.cls yX8_indexOf yX8_indexOf ∈ q_G := ⟨q_tb (i := 407) (by decide +kernel) (by decide +kernel), q_tp (i := 1) (q := (yX8_indexOf, 4)) (by decide +kernel) (by decide +kernel)⟩
theorem dX8_add_0 : decode cX8_add 0 = .ok (.aload_n 0, 1) := by decide +kernel
theorem dX8_add_1 : decode cX8_add 1 = .ok (.getfield 29, 3) := by decide +kernel
theorem dX8_add_4 : decode cX8_add 4 = .ok (.aload_n 0, 1) := by decide +kernel
theorem dX8_add_5 : decode cX8_add 5 = .ok (.getfield 19, 3) := by decide +kernel
theorem dX8_add_8 : decode cX8_add 8 = .ok (.if_icmp .lt 5, 3) := by decide +kernel
theorem dX8_add_11 : decode cX8_add 11 = .ok (.iconst 0, 1) := by decide +kernel
theorem dX8_add_12 : decode cX8_add 12 = .ok (.ireturn, 1) := by decide +kernel
theorem dX8_add_13 : decode cX8_add 13 = .ok (.aload_n 0, 1) := by decide +kernel
theorem dX8_add_14 : decode cX8_add 14 = .ok (.getfield 7, 3) := by decide +kernel
theorem dX8_add_17 : decode cX8_add 17 = .ok (.aload_n 0, 1) := by decide +kernel
theorem dX8_add_18 : decode cX8_add 18 = .ok (.aload_n 0, 1) := by decide +kernel
theorem dX8_add_19 : decode cX8_add 19 = .ok (.getfield 29, 3) := by decide +kernel
theorem dX8_add_22 : decode cX8_add 22 = .ok (.invokevirtual 32, 3) := by decide +kernel
theorem dX8_add_25 : decode cX8_add 25 = .ok (.iload_n 1, 1) := by decide +kernel
theorem dX8_add_26 : decode cX8_add 26 = .ok (.iastore, 1) := by decide +kernel
theorem dX8_add_27 : decode cX8_add 27 = .ok (.aload_n 0, 1) := by decide +kernel
theorem dX8_add_28 : decode cX8_add 28 = .ok (.dup, 1) := by decide +kernel
theorem dX8_add_29 : decode cX8_add 29 = .ok (.getfield 29, 3) := by decide +kernel
theorem dX8_add_32 : decode cX8_add 32 = .ok (.iconst 1, 1) := by decide +kernel
theorem dX8_add_33 : decode cX8_add 33 = .ok (.iadd, 1) := by decide +kernel
theorem dX8_add_34 : decode cX8_add 34 = .ok (.putfield 29, 3) := by decide +kernel
theorem dX8_add_37 : decode cX8_add 37 = .ok (.iconst 1, 1) := by decide +kernel
theorem dX8_add_38 : decode cX8_add 38 = .ok (.ireturn, 1) := by decide +kernel
def wm_X8_add (S : q_S) (a0 : Nat) (x1 : Int32) (Q : Option Value → q_S → Prop) : Prop := q_K S a0 = 9 ∧ ((((q_I S 1603 a0) < (q_I S 1601 a0) → (wm_X8_indexOf S a0 (q_I S 1603 a0) (fun r3_ S4_ => ∃ x5_ : Int32, r3_ = some (.int x5_) ∧ (∃ a6_ : Nat, (q_P S 1600 a0) = some a6_ ∧ (q_K S4_ a6_ = 21 ∧ (vp_in x5_ (q_N S4_ a6_) ∧ (q_K (qs_A S4_ a6_ x5_.toNatClampNeg x1) a0 = 9 ∧ (∀ S11_ : q_S, S11_ = (qs_I (qs_A S4_ a6_ x5_.toNatClampNeg x1) 1603 a0 ((q_I (qs_A S4_ a6_ x5_.toNatClampNeg x1) 1603 a0) + (1 : Int32))) → (Q (some (.int (1 : Int32))) S11_))))))))) ∧ (¬ (q_I S 1603 a0) < (q_I S 1601 a0) → (Q (some (.int (0 : Int32))) S))))
set_option maxHeartbeats 4000000 in
set_option maxRecDepth 100000 in
theorem cm_X8_add {l : Launch} {D : va_G} {cy : Nat → ClassId} {lo : Nat} {S : q_S} {a0 : Nat} {x1 : Int32} {Q : Option Value → q_S → Prop} (h : wm_X8_add S a0 x1 Q) : q_Met l D cy lo yX8_add cX8_add 2 (some .boolean) 1 22 0 0 [.ref a0, .int x1] S Q := by
  refine q_body (by decide) (by first | exact Nat.le_of_ble_eq_true rfl | simp [lg_sl, q_cat, q_catI, q_catJ, q_catR]) ?_
  intro p e s m below meth c ls X hnm Y hl
  have hx := X.1
  have hb := X.2.1
  have hl : lv_has ls 2 [(0, .ref a0), (1, .int x1)] := by first | exact hl | simpa [lv_args, q_cat, q_catI, q_catJ, q_catR] using hl
  generalize hargs : ([.ref a0, .int x1] : List Value).toArray = args at X ⊢
  unfold wm_X8_add at h
  refine lv_aload_n hx hb dX8_add_0 rfl (lv_at hl 0 rfl) ?_
  obtain ⟨k1_, h⟩ := h
  refine q_getI X Y kX8 3 rfl fl_X8_29 k1_ dX8_add_1 ?_
  refine lv_aload_n hx hb dX8_add_4 rfl (lv_at hl 0 rfl) ?_
  refine q_getI X Y kX8 1 rfl fl_X8_19 k1_ dX8_add_5 ?_
  refine lv_icmp_lt (tgt := 13) hx hb dX8_add_8 (by decide) (fun c2_ => ?_) (fun c2_ => ?_)
  · replace h := h.1 c2_
    refine lv_aload_n hx hb dX8_add_13 rfl (lv_at hl 0 rfl) ?_
    refine q_getP X Y kX8 0 rfl fl_X8_7 k1_ rfl dX8_add_14 ?_
    refine lv_aload_n hx hb dX8_add_17 rfl (lv_at hl 0 rfl) ?_
    refine lv_aload_n hx hb dX8_add_18 rfl (lv_at hl 0 rfl) ?_
    refine q_getI X Y kX8 3 rfl fl_X8_29 k1_ dX8_add_19 ?_
    refine q_callV X Y hl (cm_X8_indexOf h) mt_X8_indexOf mi_X8_indexOf ml_X8_32 (ci := 8) rfl k1_ (by decide) rfl rfl (by first | exact Nat.le_of_ble_eq_true rfl | simp [q_cat, q_catI, q_catJ, q_catR]) ⟨Nat.le_of_ble_eq_true rfl, Nat.le_of_ble_eq_true rfl⟩ ⟨Nat.le_of_ble_eq_true rfl, Nat.le_of_ble_eq_true rfl⟩ dX8_add_22 (fun r3_ S4_ H locs hp Y => ?_)
    obtain ⟨x5_, rfl, h⟩ := hp
    refine W.eq (g2 := F0 m 25 ls [.int x5_, va_rf (q_P S 1600 a0)]) rfl ?_
    refine lv_iload_n hx hb dX8_add_25 rfl (lv_at hl 1 rfl) ?_
    obtain ⟨a6_, e7_, h⟩ := h
    refine q_nn [.int x1, .int x5_] e7_ ?_
    obtain ⟨k8_, h⟩ := h
    obtain ⟨i9_, h⟩ := h
    refine q_ist X Y k8_ i9_ dX8_add_26 (fun H locs Y => ?_)
    refine lv_aload_n hx hb dX8_add_27 rfl (lv_at hl 0 rfl) ?_
    refine lv_dup hx hb dX8_add_28 rfl ?_
    obtain ⟨k10_, h⟩ := h
    refine q_getI X Y kX8 3 rfl fl_X8_29 k10_ dX8_add_29 ?_
    refine lv_iconst (v := 1) hx hb dX8_add_32 (by decide) ?_
    refine lv_iadd hx hb dX8_add_33 ?_
    refine q_putI X Y kX8 3 rfl fl_X8_29 k10_ .int rfl ⟨rfl, rfl⟩ rfl dX8_add_34 (fun H locs Y => ?_)
    obtain ⟨S11_, gS11_⟩ : ∃ z : q_S, z = (qs_I (qs_A S4_ a6_ x5_.toNatClampNeg x1) 1603 a0 ((q_I (qs_A S4_ a6_ x5_.toNatClampNeg x1) 1603 a0) + (1 : Int32))) := ⟨_, rfl⟩
    replace Y : q_Y D cy lo s S11_ H locs := by rw [gS11_]; exact Y
    replace h := h S11_ gS11_
    replace k8_ : q_K S11_ a6_ = 21 := by rw [gS11_]; exact k8_
    replace k10_ : q_K S11_ a0 = 9 := by rw [gS11_]; exact k10_
    refine lv_iconst (v := 1) hx hb dX8_add_37 (by decide) ?_
    exact q_iret X Y rfl (Nat.le_refl _) (Nat.le_refl _) h dX8_add_38
  · replace h := h.2 c2_
    refine lv_iconst (v := 0) hx hb dX8_add_11 (by decide) ?_
    exact q_iret X Y rfl (Nat.le_refl _) (Nat.le_refl _) h dX8_add_12
