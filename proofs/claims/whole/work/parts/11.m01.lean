-- X0_waitWith
theorem fl_X0_90 : Cond.fieldLink RX0 90 "PartitionWorks$Process" "word" "I" ∈ q_G := q_tb (i := 903) (by decide +kernel) (by decide +kernel)
theorem dX0_waitWith_0 : decode cX0_waitWith 0 = .ok (.aload_n 0, 1) := by decide +kernel
theorem dX0_waitWith_1 : decode cX0_waitWith 1 = .ok (.bipush 64, 2) := by decide +kernel
theorem dX0_waitWith_3 : decode cX0_waitWith 3 = .ok (.iload_n 1, 1) := by decide +kernel
theorem dX0_waitWith_4 : decode cX0_waitWith 4 = .ok (.iadd, 1) := by decide +kernel
theorem dX0_waitWith_5 : decode cX0_waitWith 5 = .ok (.iload_n 3, 1) := by decide +kernel
theorem dX0_waitWith_6 : decode cX0_waitWith 6 = .ok (.invokevirtual 87, 3) := by decide +kernel
theorem dX0_waitWith_9 : decode cX0_waitWith 9 = .ok (.istore 4, 2) := by decide +kernel
theorem dX0_waitWith_11 : decode cX0_waitWith 11 = .ok (.iload 4, 2) := by decide +kernel
theorem dX0_waitWith_13 : decode cX0_waitWith 13 = .ok (.iconst (-1), 1) := by decide +kernel
theorem dX0_waitWith_14 : decode cX0_waitWith 14 = .ok (.if_icmp .ne 11, 3) := by decide +kernel
theorem dX0_waitWith_17 : decode cX0_waitWith 17 = .ok (.aload_n 0, 1) := by decide +kernel
theorem dX0_waitWith_18 : decode cX0_waitWith 18 = .ok (.getfield 19, 3) := by decide +kernel
theorem dX0_waitWith_21 : decode cX0_waitWith 21 = .ok (.iload_n 2, 1) := by decide +kernel
theorem dX0_waitWith_22 : decode cX0_waitWith 22 = .ok (.putfield 90, 3) := by decide +kernel
theorem dX0_waitWith_25 : decode cX0_waitWith 25 = .ok (.iload 4, 2) := by decide +kernel
theorem dX0_waitWith_27 : decode cX0_waitWith 27 = .ok (.ireturn, 1) := by decide +kernel
def wb_X0_waitWith_25  (S : q_S) (x4 : Int32) (Q : Option Value → q_S → Prop) : Prop := Q (some (.int x4)) S
set_option maxHeartbeats 4000000 in
set_option maxRecDepth 100000 in
theorem cb_X0_waitWith_25 {p : Program} {l : Launch} {e : Env} {s : State} {m : MethodId} {args : Array Value} {below : List Frame} {meth : Method} {c : Code} {D : va_G} {cy : Nat → ClassId} {lo : Nat}  {S : q_S} {x4 : Int32} {Q : Option Value → q_S → Prop} {H : Heap} {locs : List Loc} {ls : Array Slot} (X : q_X p s m args meth c RX0 cX0_waitWith 5 (some .int) D cy lo)  (Y : q_Y D cy lo s S H locs) (hl : lv_has ls 5 [(4, .int x4)]) (h : wb_X0_waitWith_25 S x4 Q) : W p l e ({ frames := 2, cells := 0, slots := 0, locals := 45 } : Room) s m args below meth c H locs 0 0 (MQ below (q_Q D cy lo Q) args s 0 0 (fun q => lo ≤ q)) (F0 m 25 ls []) := by
  have hx := X.1
  have hb := X.2.1
  unfold wb_X0_waitWith_25 at h
  refine lv_iload hx hb dX0_waitWith_25 (lv_at hl 0 rfl) ?_
  exact q_iret X Y rfl (Nat.le_refl _) (Nat.le_refl _) h dX0_waitWith_27
def wm_X0_waitWith (S : q_S) (a0 : Nat) (x1 : Int32) (x2 : Int32) (x3 : Int32) (Q : Option Value → q_S → Prop) : Prop := q_K S a0 = 1 ∧ (wm_X0_waitFor S a0 ((64 : Int32) + x1) x3 (fun r2_ S3_ => ∃ x4_ : Int32, r2_ = some (.int x4_) ∧ (((¬ x4_ = (-1 : Int32) → (wb_X0_waitWith_25 S3_ x4_ Q)) ∧ (x4_ = (-1 : Int32) → (q_K S3_ a0 = 1 ∧ (∃ a7_ : Nat, (q_P S3_ 2 a0) = some a7_ ∧ (q_K S3_ a7_ = 8 ∧ (wb_X0_waitWith_25 (qs_I S3_ 1419 a7_ x2) x4_ Q)))))))))
set_option maxHeartbeats 4000000 in
set_option maxRecDepth 100000 in
theorem cm_X0_waitWith {l : Launch} {D : va_G} {cy : Nat → ClassId} {lo : Nat} {S : q_S} {a0 : Nat} {x1 : Int32} {x2 : Int32} {x3 : Int32} {Q : Option Value → q_S → Prop} (h : wm_X0_waitWith S a0 x1 x2 x3 Q) : q_Met l D cy lo yX0_waitWith cX0_waitWith 5 (some .int) 2 45 0 0 [.ref a0, .int x1, .int x2, .int x3] S Q := by
  refine q_body (by decide) (by first | exact Nat.le_of_ble_eq_true rfl | simp [lg_sl, q_cat, q_catI, q_catJ, q_catR]) ?_
  intro p e s m below meth c ls X hnm Y hl
  have hx := X.1
  have hb := X.2.1
  have hl : lv_has ls 5 [(0, .ref a0), (1, .int x1), (2, .int x2), (3, .int x3)] := by first | exact hl | simpa [lv_args, q_cat, q_catI, q_catJ, q_catR] using hl
  generalize hargs : ([.ref a0, .int x1, .int x2, .int x3] : List Value).toArray = args at X ⊢
  unfold wm_X0_waitWith at h
  refine lv_aload_n hx hb dX0_waitWith_0 rfl (lv_at hl 0 rfl) ?_
  refine lv_bipush (v := 64) hx hb dX0_waitWith_1 (by decide) ?_
  refine lv_iload_n hx hb dX0_waitWith_3 rfl (lv_at hl 1 rfl) ?_
  refine lv_iadd hx hb dX0_waitWith_4 ?_
  refine lv_iload_n hx hb dX0_waitWith_5 rfl (lv_at hl 3 rfl) ?_
  obtain ⟨k1_, h⟩ := h
  refine q_callV X Y hl (cm_X0_waitFor h) mt_X0_waitFor mi_X0_waitFor ml_X0_87 (ci := 0) rfl k1_ (by decide) rfl rfl (by first | exact Nat.le_of_ble_eq_true rfl | simp [q_cat, q_catI, q_catJ, q_catR]) ⟨Nat.le_of_ble_eq_true rfl, Nat.le_of_ble_eq_true rfl⟩ ⟨Nat.le_of_ble_eq_true rfl, Nat.le_of_ble_eq_true rfl⟩ dX0_waitWith_6 (fun r2_ S3_ H locs hp Y => ?_)
  obtain ⟨x4_, rfl, h⟩ := hp
  refine W.eq (g2 := F0 m 9 ls [.int x4_]) rfl ?_
  refine lv_istore (i := 4) (lv' := [(4, .int x4_), (0, .ref a0), (1, .int x1), (2, .int x2), (3, .int x3)]) hx hb dX0_waitWith_9 hl (by decide) (by first | rfl | simp [q_cat, q_catI, q_catJ, q_catR]) (fun ls hl => ?_)
  refine lv_iload hx hb dX0_waitWith_11 (lv_at hl 0 rfl) ?_
  refine lv_iconst (v := (-1)) hx hb dX0_waitWith_13 (by decide) ?_
  refine lv_icmp_ne (tgt := 25) hx hb dX0_waitWith_14 (by decide) (fun c5_ => ?_) (fun c5_ => ?_)
  · replace h := h.1 c5_
    exact cb_X0_waitWith_25 X Y (lv_sub hl [0] rfl) h
  · replace h := h.2 c5_
    refine lv_aload_n hx hb dX0_waitWith_17 rfl (lv_at hl 1 rfl) ?_
    obtain ⟨k6_, h⟩ := h
    refine q_getP X Y kX0 2 rfl fl_X0_19 k6_ rfl dX0_waitWith_18 ?_
    refine lv_iload_n hx hb dX0_waitWith_21 rfl (lv_at hl 3 rfl) ?_
    obtain ⟨a7_, e8_, h⟩ := h
    refine q_nn [.int x2] e8_ ?_
    obtain ⟨k9_, h⟩ := h
    refine q_putI X Y kX7 19 rfl fl_X0_90 k9_ .int rfl ⟨rfl, rfl⟩ rfl dX0_waitWith_22 (fun H locs Y => ?_)
    exact cb_X0_waitWith_25 X Y (lv_sub hl [0] rfl) h
-- X0_putIntoBuffer
theorem ml_X0_210 : Cond.methodLink RX0 210 yX0_waitWith ∈ q_G := q_tb (i := 1599) (by decide +kernel) (by decide +kernel)
theorem mt_X0_waitWith : q_Mt yX0_waitWith cX0_waitWith 5 (some .int) 3 := ⟨q_tb (i := 1602) (by decide +kernel) (by decide +kernel), q_tb (i := 10) (by decide +kernel) (by decide +kernel), by decide +kernel, by decide +kernel, by decide +kernel⟩
theorem mi_X0_waitWith : Cond.instanceMethod yX0_waitWith ∈ q_G ∧ Cond.selects yX0_waitWith.cls yX0_waitWith yX0_waitWith ∈ q_G := ⟨q_tb (i := 1601) (by decide +kernel) (by decide +kernel), q_tp (i := 66) (q := (yX0_waitWith, 5)) (by decide +kernel) (by decide +kernel)⟩
theorem ml_X0_201 : Cond.methodLink RX0 201 yX5_giveTaker ∈ q_G := q_tb (i := 1597) (by decide +kernel) (by decide +kernel)
theorem mt_X5_giveTaker : q_Mt yX5_giveTaker cX5_giveTaker 5 (some .boolean) 3 := ⟨q_tb (i := 1382) (by decide +kernel) (by decide +kernel), q_tb (i := 20) (by decide +kernel) (by decide +kernel), by decide +kernel, by decide +kernel, by decide +kernel⟩
theorem mi_X5_giveTaker : Cond.instanceMethod yX5_giveTaker ∈ q_G ∧ Cond.selects yX5_giveTaker.cls yX5_giveTaker yX5_giveTaker ∈ q_G := ⟨q_tb (i := 1380) (by decide +kernel) (by decide +kernel), q_tb (i := 1381) (by decide +kernel) (by decide +kernel)⟩
theorem fl_X0_185 : Cond.fieldLink RX0 185 "PartitionWorks$Thing" "queue" "LPartitionWorks$Queue;" ∈ q_G := q_tb (i := 1025) (by decide +kernel) (by decide +kernel)
theorem ml_X0_205 : Cond.methodLink RX0 205 yX8_add ∈ q_G := q_tb (i := 1598) (by decide +kernel) (by decide +kernel)
theorem mt_X8_add : q_Mt yX8_add cX8_add 2 (some .boolean) 1 := ⟨q_tb (i := 1378) (by decide +kernel) (by decide +kernel), q_tb (i := 24) (by decide +kernel) (by decide +kernel), by decide +kernel, by decide +kernel, by decide +kernel⟩
theorem mi_X8_add : Cond.instanceMethod yX8_add ∈ q_G ∧ Cond.selects yX8_add.cls yX8_add yX8_add ∈ q_G := ⟨q_tb (i := 1376) (by decide +kernel) (by decide +kernel), q_tb (i := 1377) (by decide +kernel) (by decide +kernel)⟩
theorem dX0_putIntoBuffer_0 : decode cX0_putIntoBuffer 0 = .ok (.aload_n 0, 1) := by decide +kernel
theorem dX0_putIntoBuffer_1 : decode cX0_putIntoBuffer 1 = .ok (.iload 4, 2) := by decide +kernel
theorem dX0_putIntoBuffer_3 : decode cX0_putIntoBuffer 3 = .ok (.invokevirtual 164, 3) := by decide +kernel
theorem dX0_putIntoBuffer_6 : decode cX0_putIntoBuffer 6 = .ok (.ifCond .eq 5, 3) := by decide +kernel
theorem dX0_putIntoBuffer_9 : decode cX0_putIntoBuffer 9 = .ok (.iconst 1, 1) := by decide +kernel
theorem dX0_putIntoBuffer_10 : decode cX0_putIntoBuffer 10 = .ok (.ireturn, 1) := by decide +kernel
theorem dX0_putIntoBuffer_11 : decode cX0_putIntoBuffer 11 = .ok (.aload_n 0, 1) := by decide +kernel
theorem dX0_putIntoBuffer_12 : decode cX0_putIntoBuffer 12 = .ok (.getfield 15, 3) := by decide +kernel
theorem dX0_putIntoBuffer_15 : decode cX0_putIntoBuffer 15 = .ok (.iload_n 2, 1) := by decide +kernel
theorem dX0_putIntoBuffer_16 : decode cX0_putIntoBuffer 16 = .ok (.aload_n 1, 1) := by decide +kernel
theorem dX0_putIntoBuffer_17 : decode cX0_putIntoBuffer 17 = .ok (.getfield 167, 3) := by decide +kernel
theorem dX0_putIntoBuffer_20 : decode cX0_putIntoBuffer 20 = .ok (.iload_n 3, 1) := by decide +kernel
theorem dX0_putIntoBuffer_21 : decode cX0_putIntoBuffer 21 = .ok (.invokevirtual 201, 3) := by decide +kernel
theorem dX0_putIntoBuffer_24 : decode cX0_putIntoBuffer 24 = .ok (.ifCond .ne 21, 3) := by decide +kernel
theorem dX0_putIntoBuffer_27 : decode cX0_putIntoBuffer 27 = .ok (.aload_n 1, 1) := by decide +kernel
theorem dX0_putIntoBuffer_28 : decode cX0_putIntoBuffer 28 = .ok (.getfield 185, 3) := by decide +kernel
theorem dX0_putIntoBuffer_31 : decode cX0_putIntoBuffer 31 = .ok (.ifnull 16, 3) := by decide +kernel
theorem dX0_putIntoBuffer_34 : decode cX0_putIntoBuffer 34 = .ok (.aload_n 1, 1) := by decide +kernel
theorem dX0_putIntoBuffer_35 : decode cX0_putIntoBuffer 35 = .ok (.getfield 185, 3) := by decide +kernel
theorem dX0_putIntoBuffer_38 : decode cX0_putIntoBuffer 38 = .ok (.iload_n 3, 1) := by decide +kernel
theorem dX0_putIntoBuffer_39 : decode cX0_putIntoBuffer 39 = .ok (.invokevirtual 205, 3) := by decide +kernel
theorem dX0_putIntoBuffer_42 : decode cX0_putIntoBuffer 42 = .ok (.ifCond .eq 5, 3) := by decide +kernel
theorem dX0_putIntoBuffer_45 : decode cX0_putIntoBuffer 45 = .ok (.iconst 0, 1) := by decide +kernel
theorem dX0_putIntoBuffer_46 : decode cX0_putIntoBuffer 46 = .ok (.ireturn, 1) := by decide +kernel
theorem dX0_putIntoBuffer_47 : decode cX0_putIntoBuffer 47 = .ok (.aload_n 0, 1) := by decide +kernel
theorem dX0_putIntoBuffer_48 : decode cX0_putIntoBuffer 48 = .ok (.iload_n 2, 1) := by decide +kernel
theorem dX0_putIntoBuffer_49 : decode cX0_putIntoBuffer 49 = .ok (.iload_n 3, 1) := by decide +kernel
theorem dX0_putIntoBuffer_50 : decode cX0_putIntoBuffer 50 = .ok (.iload 4, 2) := by decide +kernel
theorem dX0_putIntoBuffer_52 : decode cX0_putIntoBuffer 52 = .ok (.invokevirtual 210, 3) := by decide +kernel
theorem dX0_putIntoBuffer_55 : decode cX0_putIntoBuffer 55 = .ok (.ireturn, 1) := by decide +kernel
def wb_X0_putIntoBuffer_45  (S : q_S) (Q : Option Value → q_S → Prop) : Prop := Q (some (.int (0 : Int32))) S
set_option maxHeartbeats 4000000 in
set_option maxRecDepth 100000 in
theorem cb_X0_putIntoBuffer_45 {p : Program} {l : Launch} {e : Env} {s : State} {m : MethodId} {args : Array Value} {below : List Frame} {meth : Method} {c : Code} {D : va_G} {cy : Nat → ClassId} {lo : Nat}  {S : q_S} {Q : Option Value → q_S → Prop} {H : Heap} {locs : List Loc} {ls : Array Slot} (X : q_X p s m args meth c RX0 cX0_putIntoBuffer 5 (some .int) D cy lo)  (Y : q_Y D cy lo s S H locs) (hl : lv_has ls 5 []) (h : wb_X0_putIntoBuffer_45 S Q) : W p l e ({ frames := 3, cells := 0, slots := 0, locals := 71 } : Room) s m args below meth c H locs 0 0 (MQ below (q_Q D cy lo Q) args s 0 0 (fun q => lo ≤ q)) (F0 m 45 ls []) := by
  have hx := X.1
  have hb := X.2.1
  unfold wb_X0_putIntoBuffer_45 at h
  refine lv_iconst (v := 0) hx hb dX0_putIntoBuffer_45 (by decide) ?_
  exact q_iret X Y rfl (Nat.le_refl _) (Nat.le_refl _) h dX0_putIntoBuffer_46
def wb_X0_putIntoBuffer_47  (S : q_S) (a0 : Nat) (x2 : Int32) (x3 : Int32) (x4 : Int32) (Q : Option Value → q_S → Prop) : Prop := q_K S a0 = 1 ∧ (wm_X0_waitWith S a0 x2 x3 x4 (fun r2_ S3_ => ∃ x4_ : Int32, r2_ = some (.int x4_) ∧ (Q (some (.int x4_)) S3_)))
set_option maxHeartbeats 4000000 in
set_option maxRecDepth 100000 in
theorem cb_X0_putIntoBuffer_47 {p : Program} {l : Launch} {e : Env} {s : State} {m : MethodId} {args : Array Value} {below : List Frame} {meth : Method} {c : Code} {D : va_G} {cy : Nat → ClassId} {lo : Nat}  {S : q_S} {a0 : Nat} {x2 : Int32} {x3 : Int32} {x4 : Int32} {Q : Option Value → q_S → Prop} {H : Heap} {locs : List Loc} {ls : Array Slot} (X : q_X p s m args meth c RX0 cX0_putIntoBuffer 5 (some .int) D cy lo)  (Y : q_Y D cy lo s S H locs) (hl : lv_has ls 5 [(0, .ref a0), (2, .int x2), (3, .int x3), (4, .int x4)]) (h : wb_X0_putIntoBuffer_47 S a0 x2 x3 x4 Q) : W p l e ({ frames := 3, cells := 0, slots := 0, locals := 71 } : Room) s m args below meth c H locs 0 0 (MQ below (q_Q D cy lo Q) args s 0 0 (fun q => lo ≤ q)) (F0 m 47 ls []) := by
  have hx := X.1
  have hb := X.2.1
  unfold wb_X0_putIntoBuffer_47 at h
  refine lv_aload_n hx hb dX0_putIntoBuffer_47 rfl (lv_at hl 0 rfl) ?_
  refine lv_iload_n hx hb dX0_putIntoBuffer_48 rfl (lv_at hl 1 rfl) ?_
  refine lv_iload_n hx hb dX0_putIntoBuffer_49 rfl (lv_at hl 2 rfl) ?_
  refine lv_iload hx hb dX0_putIntoBuffer_50 (lv_at hl 3 rfl) ?_
  obtain ⟨k1_, h⟩ := h
  refine q_callV X Y hl (cm_X0_waitWith h) mt_X0_waitWith mi_X0_waitWith ml_X0_210 (ci := 0) rfl k1_ (by decide) rfl rfl (by first | exact Nat.le_of_ble_eq_true rfl | simp [q_cat, q_catI, q_catJ, q_catR]) ⟨Nat.le_of_ble_eq_true rfl, Nat.le_of_ble_eq_true rfl⟩ ⟨Nat.le_of_ble_eq_true rfl, Nat.le_of_ble_eq_true rfl⟩ dX0_putIntoBuffer_52 (fun r2_ S3_ H locs hp Y => ?_)
  obtain ⟨x4_, rfl, h⟩ := hp
  refine W.eq (g2 := F0 m 55 ls [.int x4_]) rfl ?_
  exact q_iret X Y rfl (Nat.le_refl _) (Nat.le_refl _) h dX0_putIntoBuffer_55
def wm_X0_putIntoBuffer (S : q_S) (a0 : Nat) (r1 : Option Nat) (x2 : Int32) (x3 : Int32) (x4 : Int32) (Q : Option Value → q_S → Prop) : Prop := q_K S a0 = 1 ∧ (wm_X0_isNoTime S a0 x4 (fun r6_ S7_ => ∃ x8_ : Int32, r6_ = some (.int x8_) ∧ (((x8_ = 0 → (q_K S7_ a0 = 1 ∧ (∃ a11_ : Nat, r1 = some a11_ ∧ (q_K S7_ a11_ = 11 ∧ (∃ a14_ : Nat, (q_P S7_ 1 a0) = some a14_ ∧ (q_K S7_ a14_ = 6 ∧ (wm_X5_giveTaker S7_ a14_ x2 (q_I S7_ 2004 a11_) x3 (fun r17_ S18_ => ∃ x19_ : Int32, r17_ = some (.int x19_) ∧ (((¬ x19_ = 0 → (wb_X0_putIntoBuffer_45 S18_ Q)) ∧ (x19_ = 0 → (q_K S18_ a11_ = 11 ∧ ((((q_P S18_ 2009 a11_) = none → (wb_X0_putIntoBuffer_47 S18_ a0 x2 x3 x4 Q)) ∧ (¬ (q_P S18_ 2009 a11_) = none → (∃ a23_ : Nat, (q_P S18_ 2009 a11_) = some a23_ ∧ (q_K S18_ a23_ = 9 ∧ (wm_X8_add S18_ a23_ x3 (fun r26_ S27_ => ∃ x28_ : Int32, r26_ = some (.int x28_) ∧ (((x28_ = 0 → (wb_X0_putIntoBuffer_47 S27_ a0 x2 x3 x4 Q)) ∧ (¬ x28_ = 0 → (wb_X0_putIntoBuffer_45 S27_ Q))))))))))))))))))))))) ∧ (¬ x8_ = 0 → (Q (some (.int (1 : Int32))) S7_))))))
set_option maxHeartbeats 4000000 in
set_option maxRecDepth 100000 in
theorem cm_X0_putIntoBuffer {l : Launch} {D : va_G} {cy : Nat → ClassId} {lo : Nat} {S : q_S} {a0 : Nat} {r1 : Option Nat} {x2 : Int32} {x3 : Int32} {x4 : Int32} {Q : Option Value → q_S → Prop} (h : wm_X0_putIntoBuffer S a0 r1 x2 x3 x4 Q) : q_Met l D cy lo yX0_putIntoBuffer cX0_putIntoBuffer 5 (some .int) 3 71 0 0 [.ref a0, va_rf r1, .int x2, .int x3, .int x4] S Q := by
  refine q_body (by decide) (by first | exact Nat.le_of_ble_eq_true rfl | simp [lg_sl, q_cat, q_catI, q_catJ, q_catR]) ?_
  intro p e s m below meth c ls X hnm Y hl
  have hx := X.1
  have hb := X.2.1
  have hl : lv_has ls 5 [(0, .ref a0), (1, va_rf r1), (2, .int x2), (3, .int x3), (4, .int x4)] := by first | exact hl | simpa [lv_args, q_cat, q_catI, q_catJ, q_catR] using hl
  generalize hargs : ([.ref a0, va_rf r1, .int x2, .int x3, .int x4] : List Value).toArray = args at X ⊢
  unfold wm_X0_putIntoBuffer at h
  refine lv_aload_n hx hb dX0_putIntoBuffer_0 rfl (lv_at hl 0 rfl) ?_
  refine lv_iload hx hb dX0_putIntoBuffer_1 (lv_at hl 4 rfl) ?_
  obtain ⟨k5_, h⟩ := h
  refine q_callV X Y hl (cm_X0_isNoTime h) mt_X0_isNoTime mi_X0_isNoTime ml_X0_164 (ci := 0) rfl k5_ (by decide) rfl rfl (by first | exact Nat.le_of_ble_eq_true rfl | simp [q_cat, q_catI, q_catJ, q_catR]) ⟨Nat.le_of_ble_eq_true rfl, Nat.le_of_ble_eq_true rfl⟩ ⟨Nat.le_of_ble_eq_true rfl, Nat.le_of_ble_eq_true rfl⟩ dX0_putIntoBuffer_3 (fun r6_ S7_ H locs hp Y => ?_)
  obtain ⟨x8_, rfl, h⟩ := hp
  refine W.eq (g2 := F0 m 6 ls [.int x8_]) rfl ?_
  refine lv_if_eq (tgt := 11) hx hb dX0_putIntoBuffer_6 (by decide) (fun c9_ => ?_) (fun c9_ => ?_)
  · replace h := h.1 c9_
    refine lv_aload_n hx hb dX0_putIntoBuffer_11 rfl (lv_at hl 0 rfl) ?_
    obtain ⟨k10_, h⟩ := h
    refine q_getP X Y kX0 1 rfl fl_X0_15 k10_ rfl dX0_putIntoBuffer_12 ?_
    refine lv_iload_n hx hb dX0_putIntoBuffer_15 rfl (lv_at hl 2 rfl) ?_
    refine q_aload_n hx hb dX0_putIntoBuffer_16 rfl (lv_at hl 1 rfl) ?_
    obtain ⟨a11_, e12_, h⟩ := h
    refine q_nn [] e12_ ?_
    obtain ⟨k13_, h⟩ := h
    refine q_getI X Y kX10 4 rfl fl_X0_167 k13_ dX0_putIntoBuffer_17 ?_
    refine lv_iload_n hx hb dX0_putIntoBuffer_20 rfl (lv_at hl 3 rfl) ?_
    obtain ⟨a14_, e15_, h⟩ := h
    refine q_nn [.int x3, .int (q_I S7_ 2004 a11_), .int x2] e15_ ?_
    obtain ⟨k16_, h⟩ := h
    refine q_callV X Y hl (cm_X5_giveTaker h) mt_X5_giveTaker mi_X5_giveTaker ml_X0_201 (ci := 5) rfl k16_ (by decide) rfl rfl (by first | exact Nat.le_of_ble_eq_true rfl | simp [q_cat, q_catI, q_catJ, q_catR]) ⟨Nat.le_of_ble_eq_true rfl, Nat.le_of_ble_eq_true rfl⟩ ⟨Nat.le_of_ble_eq_true rfl, Nat.le_of_ble_eq_true rfl⟩ dX0_putIntoBuffer_21 (fun r17_ S18_ H locs hp Y => ?_)
    obtain ⟨x19_, rfl, h⟩ := hp
    refine W.eq (g2 := F0 m 24 ls [.int x19_]) rfl ?_
    refine lv_if_ne (tgt := 45) hx hb dX0_putIntoBuffer_24 (by decide) (fun c20_ => ?_) (fun c20_ => ?_)
    · replace h := h.1 c20_
      exact cb_X0_putIntoBuffer_45 X Y (lv_sub hl [] rfl) h
    · replace h := h.2 c20_
      refine q_aload_n hx hb dX0_putIntoBuffer_27 rfl (lv_at hl 1 rfl) ?_
      refine q_nn [] e12_ ?_
      obtain ⟨k21_, h⟩ := h
      refine q_getP X Y kX10 9 rfl fl_X0_185 k21_ rfl dX0_putIntoBuffer_28 ?_
      refine q_ifnull (r := (q_P S18_ 2009 a11_)) (tgt := 47) hx hb dX0_putIntoBuffer_31 (by decide) (fun c22_ => ?_) (fun c22_ => ?_)
      · replace h := h.1 c22_
        exact cb_X0_putIntoBuffer_47 X Y (lv_sub hl [0, 2, 3, 4] rfl) h
      · replace h := h.2 c22_
        refine q_aload_n hx hb dX0_putIntoBuffer_34 rfl (lv_at hl 1 rfl) ?_
        refine q_nn [] e12_ ?_
        refine q_getP X Y kX10 9 rfl fl_X0_185 k21_ rfl dX0_putIntoBuffer_35 ?_
        refine lv_iload_n hx hb dX0_putIntoBuffer_38 rfl (lv_at hl 3 rfl) ?_
        obtain ⟨a23_, e24_, h⟩ := h
        refine q_nn [.int x3] e24_ ?_
        obtain ⟨k25_, h⟩ := h
        refine q_callV X Y hl (cm_X8_add h) mt_X8_add mi_X8_add ml_X0_205 (ci := 8) rfl k25_ (by decide) rfl rfl (by first | exact Nat.le_of_ble_eq_true rfl | simp [q_cat, q_catI, q_catJ, q_catR]) ⟨Nat.le_of_ble_eq_true rfl, Nat.le_of_ble_eq_true rfl⟩ ⟨Nat.le_of_ble_eq_true rfl, Nat.le_of_ble_eq_true rfl⟩ dX0_putIntoBuffer_39 (fun r26_ S27_ H locs hp Y => ?_)
        obtain ⟨x28_, rfl, h⟩ := hp
        refine W.eq (g2 := F0 m 42 ls [.int x28_]) rfl ?_
        refine lv_if_eq (tgt := 47) hx hb dX0_putIntoBuffer_42 (by decide) (fun c29_ => ?_) (fun c29_ => ?_)
        · replace h := h.1 c29_
          exact cb_X0_putIntoBuffer_47 X Y (lv_sub hl [0, 2, 3, 4] rfl) h
        · replace h := h.2 c29_
          exact cb_X0_putIntoBuffer_45 X Y (lv_sub hl [] rfl) h
  · replace h := h.2 c9_
    refine lv_iconst (v := 1) hx hb dX0_putIntoBuffer_9 (by decide) ?_
    exact q_iret X Y rfl (Nat.le_refl _) (Nat.le_refl _) h dX0_putIntoBuffer_10
-- X8_at
theorem dX8_at_0 : decode cX8_at 0 = .ok (.iload_n 1, 1) := by decide +kernel
theorem dX8_at_1 : decode cX8_at 1 = .ok (.ifCond .lt 11, 3) := by decide +kernel
theorem dX8_at_4 : decode cX8_at 4 = .ok (.iload_n 1, 1) := by decide +kernel
theorem dX8_at_5 : decode cX8_at 5 = .ok (.aload_n 0, 1) := by decide +kernel
theorem dX8_at_6 : decode cX8_at 6 = .ok (.getfield 29, 3) := by decide +kernel
theorem dX8_at_9 : decode cX8_at 9 = .ok (.if_icmp .lt 7, 3) := by decide +kernel
theorem dX8_at_12 : decode cX8_at 12 = .ok (.iconst 0, 1) := by decide +kernel
theorem dX8_at_13 : decode cX8_at 13 = .ok (.goto 13, 3) := by decide +kernel
theorem dX8_at_16 : decode cX8_at 16 = .ok (.aload_n 0, 1) := by decide +kernel
theorem dX8_at_17 : decode cX8_at 17 = .ok (.getfield 7, 3) := by decide +kernel
theorem dX8_at_20 : decode cX8_at 20 = .ok (.aload_n 0, 1) := by decide +kernel
theorem dX8_at_21 : decode cX8_at 21 = .ok (.iload_n 1, 1) := by decide +kernel
theorem dX8_at_22 : decode cX8_at 22 = .ok (.invokevirtual 32, 3) := by decide +kernel
theorem dX8_at_25 : decode cX8_at 25 = .ok (.iaload, 1) := by decide +kernel
theorem dX8_at_26 : decode cX8_at 26 = .ok (.ireturn, 1) := by decide +kernel
def wb_X8_at_26  (S : q_S) (xs0 : Int32) (Q : Option Value → q_S → Prop) : Prop := Q (some (.int xs0)) S
set_option maxHeartbeats 4000000 in
set_option maxRecDepth 100000 in
theorem cb_X8_at_26 {p : Program} {l : Launch} {e : Env} {s : State} {m : MethodId} {args : Array Value} {below : List Frame} {meth : Method} {c : Code} {D : va_G} {cy : Nat → ClassId} {lo : Nat}  {S : q_S} {xs0 : Int32} {Q : Option Value → q_S → Prop} {H : Heap} {locs : List Loc} {ls : Array Slot} (X : q_X p s m args meth c RX8 cX8_at 2 (some .int) D cy lo)  (Y : q_Y D cy lo s S H locs) (hl : lv_has ls 2 []) (h : wb_X8_at_26 S xs0 Q) : W p l e ({ frames := 1, cells := 0, slots := 0, locals := 22 } : Room) s m args below meth c H locs 0 0 (MQ below (q_Q D cy lo Q) args s 0 0 (fun q => lo ≤ q)) (F0 m 26 ls [.int xs0]) := by
  have hx := X.1
  have hb := X.2.1
  unfold wb_X8_at_26 at h
  exact q_iret X Y rfl (Nat.le_refl _) (Nat.le_refl _) h dX8_at_26
def wb_X8_at_12  (S : q_S) (Q : Option Value → q_S → Prop) : Prop := wb_X8_at_26 S (0 : Int32) Q
set_option maxHeartbeats 4000000 in
set_option maxRecDepth 100000 in
theorem cb_X8_at_12 {p : Program} {l : Launch} {e : Env} {s : State} {m : MethodId} {args : Array Value} {below : List Frame} {meth : Method} {c : Code} {D : va_G} {cy : Nat → ClassId} {lo : Nat}  {S : q_S} {Q : Option Value → q_S → Prop} {H : Heap} {locs : List Loc} {ls : Array Slot} (X : q_X p s m args meth c RX8 cX8_at 2 (some .int) D cy lo)  (Y : q_Y D cy lo s S H locs) (hl : lv_has ls 2 []) (h : wb_X8_at_12 S Q) : W p l e ({ frames := 1, cells := 0, slots := 0, locals := 22 } : Room) s m args below meth c H locs 0 0 (MQ below (q_Q D cy lo Q) args s 0 0 (fun q => lo ≤ q)) (F0 m 12 ls []) := by
  have hx := X.1
  have hb := X.2.1
  unfold wb_X8_at_12 at h
  refine lv_iconst (v := 0) hx hb dX8_at_12 (by decide) ?_
  refine lv_goto (tgt := 26) hx hb dX8_at_13 (by decide) ?_
  exact cb_X8_at_26 X Y (lv_sub hl [] rfl) h
def wm_X8_at (S : q_S) (a0 : Nat) (x1 : Int32) (Q : Option Value → q_S → Prop) : Prop := ((x1 < 0 → (wb_X8_at_12 S Q)) ∧ (¬ x1 < 0 → (q_K S a0 = 9 ∧ (((x1 < (q_I S 1603 a0) → (wm_X8_indexOf S a0 x1 (fun r4_ S5_ => ∃ x6_ : Int32, r4_ = some (.int x6_) ∧ (∃ a7_ : Nat, (q_P S 1600 a0) = some a7_ ∧ (q_K S5_ a7_ = 21 ∧ (vp_in x6_ (q_N S5_ a7_) ∧ (wb_X8_at_26 S5_ (q_A S5_ a7_ x6_.toNatClampNeg) Q))))))) ∧ (¬ x1 < (q_I S 1603 a0) → (wb_X8_at_12 S Q)))))))
set_option maxHeartbeats 4000000 in
set_option maxRecDepth 100000 in
theorem cm_X8_at {l : Launch} {D : va_G} {cy : Nat → ClassId} {lo : Nat} {S : q_S} {a0 : Nat} {x1 : Int32} {Q : Option Value → q_S → Prop} (h : wm_X8_at S a0 x1 Q) : q_Met l D cy lo yX8_at cX8_at 2 (some .int) 1 22 0 0 [.ref a0, .int x1] S Q := by
  refine q_body (by decide) (by first | exact Nat.le_of_ble_eq_true rfl | simp [lg_sl, q_cat, q_catI, q_catJ, q_catR]) ?_
  intro p e s m below meth c ls X hnm Y hl
  have hx := X.1
  have hb := X.2.1
  have hl : lv_has ls 2 [(0, .ref a0), (1, .int x1)] := by first | exact hl | simpa [lv_args, q_cat, q_catI, q_catJ, q_catR] using hl
  generalize hargs : ([.ref a0, .int x1] : List Value).toArray = args at X ⊢
  unfold wm_X8_at at h
  refine lv_iload_n hx hb dX8_at_0 rfl (lv_at hl 1 rfl) ?_
  refine lv_if_lt (tgt := 12) hx hb dX8_at_1 (by decide) (fun c1_ => ?_) (fun c1_ => ?_)
  · replace h := h.1 c1_
    exact cb_X8_at_12 X Y (lv_sub hl [] rfl) h
  · replace h := h.2 c1_
    refine lv_iload_n hx hb dX8_at_4 rfl (lv_at hl 1 rfl) ?_
    refine lv_aload_n hx hb dX8_at_5 rfl (lv_at hl 0 rfl) ?_
    obtain ⟨k2_, h⟩ := h
    refine q_getI X Y kX8 3 rfl fl_X8_29 k2_ dX8_at_6 ?_
    refine lv_icmp_lt (tgt := 16) hx hb dX8_at_9 (by decide) (fun c3_ => ?_) (fun c3_ => ?_)
    · replace h := h.1 c3_
      refine lv_aload_n hx hb dX8_at_16 rfl (lv_at hl 0 rfl) ?_
      refine q_getP X Y kX8 0 rfl fl_X8_7 k2_ rfl dX8_at_17 ?_
      refine lv_aload_n hx hb dX8_at_20 rfl (lv_at hl 0 rfl) ?_
      refine lv_iload_n hx hb dX8_at_21 rfl (lv_at hl 1 rfl) ?_
      refine q_callV X Y hl (cm_X8_indexOf h) mt_X8_indexOf mi_X8_indexOf ml_X8_32 (ci := 8) rfl k2_ (by decide) rfl rfl (by first | exact Nat.le_of_ble_eq_true rfl | simp [q_cat, q_catI, q_catJ, q_catR]) ⟨Nat.le_of_ble_eq_true rfl, Nat.le_of_ble_eq_true rfl⟩ ⟨Nat.le_of_ble_eq_true rfl, Nat.le_of_ble_eq_true rfl⟩ dX8_at_22 (fun r4_ S5_ H locs hp Y => ?_)
      obtain ⟨x6_, rfl, h⟩ := hp
      refine W.eq (g2 := F0 m 25 ls [.int x6_, va_rf (q_P S 1600 a0)]) rfl ?_
      obtain ⟨a7_, e8_, h⟩ := h
      refine q_nn [.int x6_] e8_ ?_
      obtain ⟨k9_, h⟩ := h
      obtain ⟨i10_, h⟩ := h
      refine q_ild X Y k9_ i10_ dX8_at_25 ?_
      exact cb_X8_at_26 X Y (lv_sub hl [] rfl) h
    · replace h := h.2 c3_
      exact cb_X8_at_12 X Y (lv_sub hl [] rfl) h
-- X8_take
theorem ml_X8_36 : Cond.methodLink RX8 36 yX8_at ∈ q_G := q_tb (i := 1611) (by decide +kernel) (by decide +kernel)
theorem mt_X8_at : q_Mt yX8_at cX8_at 2 (some .int) 1 := ⟨q_tb (i := 404) (by decide +kernel) (by decide +kernel), q_tb (i := 24) (by decide +kernel) (by decide +kernel), by decide +kernel, by decide +kernel, by decide +kernel⟩
theorem mi_X8_at : Cond.instanceMethod yX8_at ∈ q_G ∧ Cond.selects yX8_at.cls yX8_at yX8_at ∈ q_G := ⟨q_tb (i := 402) (by decide +kernel) (by decide +kernel), q_tb (i := 403) (by decide +kernel) (by decide +kernel)⟩
theorem dX8_take_0 : decode cX8_take 0 = .ok (.aload_n 0, 1) := by decide +kernel
theorem dX8_take_1 : decode cX8_take 1 = .ok (.iconst 0, 1) := by decide +kernel
theorem dX8_take_2 : decode cX8_take 2 = .ok (.invokevirtual 36, 3) := by decide +kernel
theorem dX8_take_5 : decode cX8_take 5 = .ok (.istore_n 1, 1) := by decide +kernel
theorem dX8_take_6 : decode cX8_take 6 = .ok (.aload_n 0, 1) := by decide +kernel
theorem dX8_take_7 : decode cX8_take 7 = .ok (.getfield 29, 3) := by decide +kernel
theorem dX8_take_10 : decode cX8_take 10 = .ok (.ifCond .le 22, 3) := by decide +kernel
theorem dX8_take_13 : decode cX8_take 13 = .ok (.aload_n 0, 1) := by decide +kernel
theorem dX8_take_14 : decode cX8_take 14 = .ok (.aload_n 0, 1) := by decide +kernel
theorem dX8_take_15 : decode cX8_take 15 = .ok (.iconst 1, 1) := by decide +kernel
theorem dX8_take_16 : decode cX8_take 16 = .ok (.invokevirtual 32, 3) := by decide +kernel
theorem dX8_take_19 : decode cX8_take 19 = .ok (.putfield 26, 3) := by decide +kernel
theorem dX8_take_22 : decode cX8_take 22 = .ok (.aload_n 0, 1) := by decide +kernel
theorem dX8_take_23 : decode cX8_take 23 = .ok (.dup, 1) := by decide +kernel
theorem dX8_take_24 : decode cX8_take 24 = .ok (.getfield 29, 3) := by decide +kernel
theorem dX8_take_27 : decode cX8_take 27 = .ok (.iconst 1, 1) := by decide +kernel
theorem dX8_take_28 : decode cX8_take 28 = .ok (.isub, 1) := by decide +kernel
theorem dX8_take_29 : decode cX8_take 29 = .ok (.putfield 29, 3) := by decide +kernel
theorem dX8_take_32 : decode cX8_take 32 = .ok (.iload_n 1, 1) := by decide +kernel
theorem dX8_take_33 : decode cX8_take 33 = .ok (.ireturn, 1) := by decide +kernel
def wb_X8_take_32  (S : q_S) (x1 : Int32) (Q : Option Value → q_S → Prop) : Prop := Q (some (.int x1)) S
set_option maxHeartbeats 4000000 in
set_option maxRecDepth 100000 in
theorem cb_X8_take_32 {p : Program} {l : Launch} {e : Env} {s : State} {m : MethodId} {args : Array Value} {below : List Frame} {meth : Method} {c : Code} {D : va_G} {cy : Nat → ClassId} {lo : Nat}  {S : q_S} {x1 : Int32} {Q : Option Value → q_S → Prop} {H : Heap} {locs : List Loc} {ls : Array Slot} (X : q_X p s m args meth c RX8 cX8_take 2 (some .int) D cy lo)  (Y : q_Y D cy lo s S H locs) (hl : lv_has ls 2 [(1, .int x1)]) (h : wb_X8_take_32 S x1 Q) : W p l e ({ frames := 2, cells := 0, slots := 0, locals := 43 } : Room) s m args below meth c H locs 0 0 (MQ below (q_Q D cy lo Q) args s 0 0 (fun q => lo ≤ q)) (F0 m 32 ls []) := by
  have hx := X.1
  have hb := X.2.1
  unfold wb_X8_take_32 at h
  refine lv_iload_n hx hb dX8_take_32 rfl (lv_at hl 0 rfl) ?_
  exact q_iret X Y rfl (Nat.le_refl _) (Nat.le_refl _) h dX8_take_33
def wm_X8_take (S : q_S) (a0 : Nat) (Q : Option Value → q_S → Prop) : Prop := q_K S a0 = 9 ∧ (wm_X8_at S a0 (0 : Int32) (fun r2_ S3_ => ∃ x4_ : Int32, r2_ = some (.int x4_) ∧ (q_K S3_ a0 = 9 ∧ ((((q_I S3_ 1603 a0) ≤ 0 → (wb_X8_take_32 S3_ x4_ Q)) ∧ (¬ (q_I S3_ 1603 a0) ≤ 0 → (wm_X8_indexOf S3_ a0 (1 : Int32) (fun r7_ S8_ => ∃ x9_ : Int32, r7_ = some (.int x9_) ∧ (q_K S8_ a0 = 9 ∧ (∀ S11_ : q_S, S11_ = (qs_I (qs_I S8_ 1602 a0 x9_) 1603 a0 ((q_I (qs_I S8_ 1602 a0 x9_) 1603 a0) - (1 : Int32))) → (wb_X8_take_32 S11_ x4_ Q)))))))))))
set_option maxHeartbeats 4000000 in
set_option maxRecDepth 100000 in
theorem cm_X8_take {l : Launch} {D : va_G} {cy : Nat → ClassId} {lo : Nat} {S : q_S} {a0 : Nat} {Q : Option Value → q_S → Prop} (h : wm_X8_take S a0 Q) : q_Met l D cy lo yX8_take cX8_take 2 (some .int) 2 43 0 0 [.ref a0] S Q := by
  refine q_body (by decide) (by first | exact Nat.le_of_ble_eq_true rfl | simp [lg_sl, q_cat, q_catI, q_catJ, q_catR]) ?_
  intro p e s m below meth c ls X hnm Y hl
  have hx := X.1
  have hb := X.2.1
  have hl : lv_has ls 2 [(0, .ref a0)] := by first | exact hl | simpa [lv_args, q_cat, q_catI, q_catJ, q_catR] using hl
  generalize hargs : ([.ref a0] : List Value).toArray = args at X ⊢
  unfold wm_X8_take at h
  refine lv_aload_n hx hb dX8_take_0 rfl (lv_at hl 0 rfl) ?_
  refine lv_iconst (v := 0) hx hb dX8_take_1 (by decide) ?_
  obtain ⟨k1_, h⟩ := h
  refine q_callV X Y hl (cm_X8_at h) mt_X8_at mi_X8_at ml_X8_36 (ci := 8) rfl k1_ (by decide) rfl rfl (by first | exact Nat.le_of_ble_eq_true rfl | simp [q_cat, q_catI, q_catJ, q_catR]) ⟨Nat.le_of_ble_eq_true rfl, Nat.le_of_ble_eq_true rfl⟩ ⟨Nat.le_of_ble_eq_true rfl, Nat.le_of_ble_eq_true rfl⟩ dX8_take_2 (fun r2_ S3_ H locs hp Y => ?_)
  obtain ⟨x4_, rfl, h⟩ := hp
  refine W.eq (g2 := F0 m 5 ls [.int x4_]) rfl ?_
  refine lv_istore_n (i := 1) (lv' := [(1, .int x4_), (0, .ref a0)]) hx hb dX8_take_5 rfl hl (by decide) (by first | rfl | simp [q_cat, q_catI, q_catJ, q_catR]) (fun ls hl => ?_)
  refine lv_aload_n hx hb dX8_take_6 rfl (lv_at hl 1 rfl) ?_
  obtain ⟨k5_, h⟩ := h
  refine q_getI X Y kX8 3 rfl fl_X8_29 k5_ dX8_take_7 ?_
  refine lv_if_le (tgt := 32) hx hb dX8_take_10 (by decide) (fun c6_ => ?_) (fun c6_ => ?_)
  · replace h := h.1 c6_
    exact cb_X8_take_32 X Y (lv_sub hl [0] rfl) h
  · replace h := h.2 c6_
    refine lv_aload_n hx hb dX8_take_13 rfl (lv_at hl 1 rfl) ?_
    refine lv_aload_n hx hb dX8_take_14 rfl (lv_at hl 1 rfl) ?_
    refine lv_iconst (v := 1) hx hb dX8_take_15 (by decide) ?_
    refine q_callV X Y hl (cm_X8_indexOf h) mt_X8_indexOf mi_X8_indexOf ml_X8_32 (ci := 8) rfl k5_ (by decide) rfl rfl (by first | exact Nat.le_of_ble_eq_true rfl | simp [q_cat, q_catI, q_catJ, q_catR]) ⟨Nat.le_of_ble_eq_true rfl, Nat.le_of_ble_eq_true rfl⟩ ⟨Nat.le_of_ble_eq_true rfl, Nat.le_of_ble_eq_true rfl⟩ dX8_take_16 (fun r7_ S8_ H locs hp Y => ?_)
    obtain ⟨x9_, rfl, h⟩ := hp
    refine W.eq (g2 := F0 m 19 ls [.int x9_, .ref a0]) rfl ?_
    obtain ⟨k10_, h⟩ := h
    refine q_putI X Y kX8 2 rfl fl_X8_26 k10_ .int rfl ⟨rfl, rfl⟩ rfl dX8_take_19 (fun H locs Y => ?_)
    refine lv_aload_n hx hb dX8_take_22 rfl (lv_at hl 1 rfl) ?_
    refine lv_dup hx hb dX8_take_23 rfl ?_
    refine q_getI X Y kX8 3 rfl fl_X8_29 k10_ dX8_take_24 ?_
    refine lv_iconst (v := 1) hx hb dX8_take_27 (by decide) ?_
    refine lv_isub hx hb dX8_take_28 ?_
    refine q_putI X Y kX8 3 rfl fl_X8_29 k10_ .int rfl ⟨rfl, rfl⟩ rfl dX8_take_29 (fun H locs Y => ?_)
    obtain ⟨S11_, gS11_⟩ : ∃ z : q_S, z = (qs_I (qs_I S8_ 1602 a0 x9_) 1603 a0 ((q_I (qs_I S8_ 1602 a0 x9_) 1603 a0) - (1 : Int32))) := ⟨_, rfl⟩
    replace Y : q_Y D cy lo s S11_ H locs := by rw [gS11_]; exact Y
    replace h := h S11_ gS11_
    replace k10_ : q_K S11_ a0 = 9 := by rw [gS11_]; exact k10_
    exact cb_X8_take_32 X Y (lv_sub hl [0] rfl) h
-- X5_refill
theorem fl_X5_184 : Cond.fieldLink RX5 184 "PartitionWorks$Process" "word" "I" ∈ q_G := q_tb (i := 904) (by decide +kernel) (by decide +kernel)
theorem ml_X5_187 : Cond.methodLink RX5 187 yX8_add ∈ q_G := q_tb (i := 1616) (by decide +kernel) (by decide +kernel)
theorem dX5_refill_0 : decode cX5_refill 0 = .ok (.aload_n 0, 1) := by decide +kernel
theorem dX5_refill_1 : decode cX5_refill 1 = .ok (.bipush 64, 2) := by decide +kernel
theorem dX5_refill_3 : decode cX5_refill 3 = .ok (.iload_n 2, 1) := by decide +kernel
theorem dX5_refill_4 : decode cX5_refill 4 = .ok (.iadd, 1) := by decide +kernel
theorem dX5_refill_5 : decode cX5_refill 5 = .ok (.iload_n 3, 1) := by decide +kernel
theorem dX5_refill_6 : decode cX5_refill 6 = .ok (.invokevirtual 180, 3) := by decide +kernel
theorem dX5_refill_9 : decode cX5_refill 9 = .ok (.astore 4, 2) := by decide +kernel
theorem dX5_refill_11 : decode cX5_refill 11 = .ok (.aload 4, 2) := by decide +kernel
theorem dX5_refill_13 : decode cX5_refill 13 = .ok (.ifnull 22, 3) := by decide +kernel
theorem dX5_refill_16 : decode cX5_refill 16 = .ok (.aload_n 1, 1) := by decide +kernel
theorem dX5_refill_17 : decode cX5_refill 17 = .ok (.aload 4, 2) := by decide +kernel
theorem dX5_refill_19 : decode cX5_refill 19 = .ok (.getfield 184, 3) := by decide +kernel
theorem dX5_refill_22 : decode cX5_refill 22 = .ok (.invokevirtual 187, 3) := by decide +kernel
theorem dX5_refill_25 : decode cX5_refill 25 = .ok (.ifCond .eq 10, 3) := by decide +kernel
theorem dX5_refill_28 : decode cX5_refill 28 = .ok (.aload_n 0, 1) := by decide +kernel
theorem dX5_refill_29 : decode cX5_refill 29 = .ok (.aload 4, 2) := by decide +kernel
theorem dX5_refill_31 : decode cX5_refill 31 = .ok (.iconst 0, 1) := by decide +kernel
theorem dX5_refill_32 : decode cX5_refill 32 = .ok (.invokevirtual 169, 3) := by decide +kernel
theorem dX5_refill_35 : decode cX5_refill 35 = .ok (.return_, 1) := by decide +kernel
def wb_X5_refill_35  (S : q_S) (Q : Option Value → q_S → Prop) : Prop := Q none S
set_option maxHeartbeats 4000000 in
set_option maxRecDepth 100000 in
theorem cb_X5_refill_35 {p : Program} {l : Launch} {e : Env} {s : State} {m : MethodId} {args : Array Value} {below : List Frame} {meth : Method} {c : Code} {D : va_G} {cy : Nat → ClassId} {lo : Nat}  {S : q_S} {Q : Option Value → q_S → Prop} {H : Heap} {locs : List Loc} {ls : Array Slot} (X : q_X p s m args meth c RX5 cX5_refill 5 none D cy lo)  (Y : q_Y D cy lo s S H locs) (hl : lv_has ls 5 []) (h : wb_X5_refill_35 S Q) : W p l e ({ frames := 2, cells := 0, slots := 0, locals := 47 } : Room) s m args below meth c H locs 0 0 (MQ below (q_Q D cy lo Q) args s 0 0 (fun q => lo ≤ q)) (F0 m 35 ls []) := by
  have hx := X.1
  have hb := X.2.1
  unfold wb_X5_refill_35 at h
  exact q_vret X Y (Nat.le_refl _) (Nat.le_refl _) h dX5_refill_35
def wm_X5_refill (S : q_S) (a0 : Nat) (r1 : Option Nat) (x2 : Int32) (x3 : Int32) (Q : Option Value → q_S → Prop) : Prop := q_K S a0 = 6 ∧ (wm_X5_firstWaiting S a0 ((64 : Int32) + x2) x3 (fun r2_ S3_ => ∃ r4_ : Option Nat, r2_ = some (va_rf r4_) ∧ (((r4_ = none → (wb_X5_refill_35 S3_ Q)) ∧ (¬ r4_ = none → (∃ a6_ : Nat, r4_ = some a6_ ∧ (q_K S3_ a6_ = 8 ∧ (∃ a9_ : Nat, r1 = some a9_ ∧ (q_K S3_ a9_ = 9 ∧ (wm_X8_add S3_ a9_ (q_I S3_ 1419 a6_) (fun r12_ S13_ => ∃ x14_ : Int32, r12_ = some (.int x14_) ∧ (((x14_ = 0 → (wb_X5_refill_35 S13_ Q)) ∧ (¬ x14_ = 0 → (q_K S13_ a0 = 6 ∧ (wm_X5_answerWaiter S13_ a0 r4_ (0 : Int32) (fun r17_ S18_ => r17_ = none ∧ (wb_X5_refill_35 S18_ Q))))))))))))))))))
set_option maxHeartbeats 4000000 in
set_option maxRecDepth 100000 in
theorem cm_X5_refill {l : Launch} {D : va_G} {cy : Nat → ClassId} {lo : Nat} {S : q_S} {a0 : Nat} {r1 : Option Nat} {x2 : Int32} {x3 : Int32} {Q : Option Value → q_S → Prop} (h : wm_X5_refill S a0 r1 x2 x3 Q) : q_Met l D cy lo yX5_refill cX5_refill 5 none 2 47 0 0 [.ref a0, va_rf r1, .int x2, .int x3] S Q := by
  refine q_body (by decide) (by first | exact Nat.le_of_ble_eq_true rfl | simp [lg_sl, q_cat, q_catI, q_catJ, q_catR]) ?_
  intro p e s m below meth c ls X hnm Y hl
  have hx := X.1
  have hb := X.2.1
  have hl : lv_has ls 5 [(0, .ref a0), (1, va_rf r1), (2, .int x2), (3, .int x3)] := by first | exact hl | simpa [lv_args, q_cat, q_catI, q_catJ, q_catR] using hl
  generalize hargs : ([.ref a0, va_rf r1, .int x2, .int x3] : List Value).toArray = args at X ⊢
  unfold wm_X5_refill at h
  refine lv_aload_n hx hb dX5_refill_0 rfl (lv_at hl 0 rfl) ?_
  refine lv_bipush (v := 64) hx hb dX5_refill_1 (by decide) ?_
  refine lv_iload_n hx hb dX5_refill_3 rfl (lv_at hl 2 rfl) ?_
  refine lv_iadd hx hb dX5_refill_4 ?_
  refine lv_iload_n hx hb dX5_refill_5 rfl (lv_at hl 3 rfl) ?_
  obtain ⟨k1_, h⟩ := h
  refine q_callV X Y hl (cm_X5_firstWaiting h) mt_X5_firstWaiting mi_X5_firstWaiting ml_X5_180 (ci := 5) rfl k1_ (by decide) rfl rfl (by first | exact Nat.le_of_ble_eq_true rfl | simp [q_cat, q_catI, q_catJ, q_catR]) ⟨Nat.le_of_ble_eq_true rfl, Nat.le_of_ble_eq_true rfl⟩ ⟨Nat.le_of_ble_eq_true rfl, Nat.le_of_ble_eq_true rfl⟩ dX5_refill_6 (fun r2_ S3_ H locs hp Y => ?_)
  obtain ⟨r4_, rfl, h⟩ := hp
  refine W.eq (g2 := F0 m 9 ls [va_rf r4_]) rfl ?_
  refine q_astore (i := 4) (lv' := [(4, va_rf r4_), (0, .ref a0), (1, va_rf r1), (2, .int x2), (3, .int x3)]) hx hb dX5_refill_9 hl (by decide) (by first | rfl | simp [q_cat, q_catI, q_catJ, q_catR]) (fun ls hl => ?_)
  refine q_aload hx hb dX5_refill_11 (lv_at hl 0 rfl) ?_
  refine q_ifnull (r := r4_) (tgt := 35) hx hb dX5_refill_13 (by decide) (fun c5_ => ?_) (fun c5_ => ?_)
  · replace h := h.1 c5_
    exact cb_X5_refill_35 X Y (lv_sub hl [] rfl) h
  · replace h := h.2 c5_
    refine q_aload_n hx hb dX5_refill_16 rfl (lv_at hl 2 rfl) ?_
    refine q_aload hx hb dX5_refill_17 (lv_at hl 0 rfl) ?_
    obtain ⟨a6_, e7_, h⟩ := h
    refine q_nn [] e7_ ?_
    obtain ⟨k8_, h⟩ := h
    refine q_getI X Y kX7 19 rfl fl_X5_184 k8_ dX5_refill_19 ?_
    obtain ⟨a9_, e10_, h⟩ := h
    refine q_nn [.int (q_I S3_ 1419 a6_)] e10_ ?_
    obtain ⟨k11_, h⟩ := h
    refine q_callV X Y hl (cm_X8_add h) mt_X8_add mi_X8_add ml_X5_187 (ci := 8) rfl k11_ (by decide) rfl rfl (by first | exact Nat.le_of_ble_eq_true rfl | simp [q_cat, q_catI, q_catJ, q_catR]) ⟨Nat.le_of_ble_eq_true rfl, Nat.le_of_ble_eq_true rfl⟩ ⟨Nat.le_of_ble_eq_true rfl, Nat.le_of_ble_eq_true rfl⟩ dX5_refill_22 (fun r12_ S13_ H locs hp Y => ?_)
    obtain ⟨x14_, rfl, h⟩ := hp
    refine W.eq (g2 := F0 m 25 ls [.int x14_]) rfl ?_
    refine lv_if_eq (tgt := 35) hx hb dX5_refill_25 (by decide) (fun c15_ => ?_) (fun c15_ => ?_)
    · replace h := h.1 c15_
      exact cb_X5_refill_35 X Y (lv_sub hl [] rfl) h
    · replace h := h.2 c15_
      refine lv_aload_n hx hb dX5_refill_28 rfl (lv_at hl 1 rfl) ?_
      refine q_aload hx hb dX5_refill_29 (lv_at hl 0 rfl) ?_
      refine lv_iconst (v := 0) hx hb dX5_refill_31 (by decide) ?_
      obtain ⟨k16_, h⟩ := h
      refine q_callV X Y hl (cm_X5_answerWaiter h) mt_X5_answerWaiter mi_X5_answerWaiter ml_X5_169 (ci := 5) rfl k16_ (by decide) rfl rfl (by first | exact Nat.le_of_ble_eq_true rfl | simp [q_cat, q_catI, q_catJ, q_catR]) ⟨Nat.le_of_ble_eq_true rfl, Nat.le_of_ble_eq_true rfl⟩ ⟨Nat.le_of_ble_eq_true rfl, Nat.le_of_ble_eq_true rfl⟩ dX5_refill_32 (fun r17_ S18_ H locs hp Y => ?_)
      obtain ⟨rfl, h⟩ := hp
      refine W.eq (g2 := F0 m 35 ls []) rfl ?_
      exact cb_X5_refill_35 X Y (lv_sub hl [] rfl) h
-- X0_takeFrom
theorem fl_X0_213 : Cond.fieldLink RX0 213 "PartitionWorks$Queue" "count" "I" ∈ q_G := q_tb (i := 987) (by decide +kernel) (by decide +kernel)
theorem fl_X0_29 : Cond.fieldLink RX0 29 "PartitionWorks$Calls" "x" "[I" ∈ q_G := q_tb (i := 267) (by decide +kernel) (by decide +kernel)
theorem ml_X0_214 : Cond.methodLink RX0 214 yX8_take ∈ q_G := q_tb (i := 1607) (by decide +kernel) (by decide +kernel)
theorem mt_X8_take : q_Mt yX8_take cX8_take 2 (some .int) 0 := ⟨q_tb (i := 1610) (by decide +kernel) (by decide +kernel), q_tb (i := 24) (by decide +kernel) (by decide +kernel), by decide +kernel, by decide +kernel, by decide +kernel⟩
theorem mi_X8_take : Cond.instanceMethod yX8_take ∈ q_G ∧ Cond.selects yX8_take.cls yX8_take yX8_take ∈ q_G := ⟨q_tb (i := 1608) (by decide +kernel) (by decide +kernel), q_tb (i := 1609) (by decide +kernel) (by decide +kernel)⟩
theorem ml_X0_217 : Cond.methodLink RX0 217 yX5_refill ∈ q_G := q_tb (i := 1612) (by decide +kernel) (by decide +kernel)
theorem mt_X5_refill : q_Mt yX5_refill cX5_refill 5 none 3 := ⟨q_tb (i := 1615) (by decide +kernel) (by decide +kernel), q_tb (i := 20) (by decide +kernel) (by decide +kernel), by decide +kernel, by decide +kernel, by decide +kernel⟩
theorem mi_X5_refill : Cond.instanceMethod yX5_refill ∈ q_G ∧ Cond.selects yX5_refill.cls yX5_refill yX5_refill ∈ q_G := ⟨q_tb (i := 1613) (by decide +kernel) (by decide +kernel), q_tb (i := 1614) (by decide +kernel) (by decide +kernel)⟩
theorem dX0_takeFrom_0 : decode cX0_takeFrom 0 = .ok (.aload_n 1, 1) := by decide +kernel
theorem dX0_takeFrom_1 : decode cX0_takeFrom 1 = .ok (.ifnull 10, 3) := by decide +kernel
theorem dX0_takeFrom_4 : decode cX0_takeFrom 4 = .ok (.aload_n 1, 1) := by decide +kernel
theorem dX0_takeFrom_5 : decode cX0_takeFrom 5 = .ok (.getfield 213, 3) := by decide +kernel
theorem dX0_takeFrom_8 : decode cX0_takeFrom 8 = .ok (.ifCond .ne 10, 3) := by decide +kernel
theorem dX0_takeFrom_11 : decode cX0_takeFrom 11 = .ok (.aload_n 0, 1) := by decide +kernel
theorem dX0_takeFrom_12 : decode cX0_takeFrom 12 = .ok (.iload_n 2, 1) := by decide +kernel
theorem dX0_takeFrom_13 : decode cX0_takeFrom 13 = .ok (.iload_n 3, 1) := by decide +kernel
theorem dX0_takeFrom_14 : decode cX0_takeFrom 14 = .ok (.invokevirtual 87, 3) := by decide +kernel
theorem dX0_takeFrom_17 : decode cX0_takeFrom 17 = .ok (.ireturn, 1) := by decide +kernel
theorem dX0_takeFrom_18 : decode cX0_takeFrom 18 = .ok (.aload_n 0, 1) := by decide +kernel
theorem dX0_takeFrom_19 : decode cX0_takeFrom 19 = .ok (.getfield 29, 3) := by decide +kernel
theorem dX0_takeFrom_22 : decode cX0_takeFrom 22 = .ok (.bipush 11, 2) := by decide +kernel
theorem dX0_takeFrom_24 : decode cX0_takeFrom 24 = .ok (.aload_n 1, 1) := by decide +kernel
theorem dX0_takeFrom_25 : decode cX0_takeFrom 25 = .ok (.invokevirtual 214, 3) := by decide +kernel
theorem dX0_takeFrom_28 : decode cX0_takeFrom 28 = .ok (.iastore, 1) := by decide +kernel
theorem dX0_takeFrom_29 : decode cX0_takeFrom 29 = .ok (.aload 4, 2) := by decide +kernel
theorem dX0_takeFrom_31 : decode cX0_takeFrom 31 = .ok (.ifnull 13, 3) := by decide +kernel
theorem dX0_takeFrom_34 : decode cX0_takeFrom 34 = .ok (.aload 4, 2) := by decide +kernel
theorem dX0_takeFrom_36 : decode cX0_takeFrom 36 = .ok (.aload_n 1, 1) := by decide +kernel
theorem dX0_takeFrom_37 : decode cX0_takeFrom 37 = .ok (.iload 5, 2) := by decide +kernel
theorem dX0_takeFrom_39 : decode cX0_takeFrom 39 = .ok (.iload 6, 2) := by decide +kernel
theorem dX0_takeFrom_41 : decode cX0_takeFrom 41 = .ok (.invokevirtual 217, 3) := by decide +kernel
theorem dX0_takeFrom_44 : decode cX0_takeFrom 44 = .ok (.iconst 0, 1) := by decide +kernel
theorem dX0_takeFrom_45 : decode cX0_takeFrom 45 = .ok (.ireturn, 1) := by decide +kernel
def wb_X0_takeFrom_11  (S : q_S) (a0 : Nat) (x2 : Int32) (x3 : Int32) (Q : Option Value → q_S → Prop) : Prop := q_K S a0 = 1 ∧ (wm_X0_waitFor S a0 x2 x3 (fun r2_ S3_ => ∃ x4_ : Int32, r2_ = some (.int x4_) ∧ (Q (some (.int x4_)) S3_)))
set_option maxHeartbeats 4000000 in
set_option maxRecDepth 100000 in
theorem cb_X0_takeFrom_11 {p : Program} {l : Launch} {e : Env} {s : State} {m : MethodId} {args : Array Value} {below : List Frame} {meth : Method} {c : Code} {D : va_G} {cy : Nat → ClassId} {lo : Nat}  {S : q_S} {a0 : Nat} {x2 : Int32} {x3 : Int32} {Q : Option Value → q_S → Prop} {H : Heap} {locs : List Loc} {ls : Array Slot} (X : q_X p s m args meth c RX0 cX0_takeFrom 7 (some .int) D cy lo)  (Y : q_Y D cy lo s S H locs) (hl : lv_has ls 7 [(0, .ref a0), (2, .int x2), (3, .int x3)]) (h : wb_X0_takeFrom_11 S a0 x2 x3 Q) : W p l e ({ frames := 3, cells := 0, slots := 0, locals := 71 } : Room) s m args below meth c H locs 0 0 (MQ below (q_Q D cy lo Q) args s 0 0 (fun q => lo ≤ q)) (F0 m 11 ls []) := by
  have hx := X.1
  have hb := X.2.1
  unfold wb_X0_takeFrom_11 at h
  refine lv_aload_n hx hb dX0_takeFrom_11 rfl (lv_at hl 0 rfl) ?_
  refine lv_iload_n hx hb dX0_takeFrom_12 rfl (lv_at hl 1 rfl) ?_
  refine lv_iload_n hx hb dX0_takeFrom_13 rfl (lv_at hl 2 rfl) ?_
  obtain ⟨k1_, h⟩ := h
  refine q_callV X Y hl (cm_X0_waitFor h) mt_X0_waitFor mi_X0_waitFor ml_X0_87 (ci := 0) rfl k1_ (by decide) rfl rfl (by first | exact Nat.le_of_ble_eq_true rfl | simp [q_cat, q_catI, q_catJ, q_catR]) ⟨Nat.le_of_ble_eq_true rfl, Nat.le_of_ble_eq_true rfl⟩ ⟨Nat.le_of_ble_eq_true rfl, Nat.le_of_ble_eq_true rfl⟩ dX0_takeFrom_14 (fun r2_ S3_ H locs hp Y => ?_)
  obtain ⟨x4_, rfl, h⟩ := hp
  refine W.eq (g2 := F0 m 17 ls [.int x4_]) rfl ?_
  exact q_iret X Y rfl (Nat.le_refl _) (Nat.le_refl _) h dX0_takeFrom_17
def wb_X0_takeFrom_44  (S : q_S) (Q : Option Value → q_S → Prop) : Prop := Q (some (.int (0 : Int32))) S
set_option maxHeartbeats 4000000 in
set_option maxRecDepth 100000 in
theorem cb_X0_takeFrom_44 {p : Program} {l : Launch} {e : Env} {s : State} {m : MethodId} {args : Array Value} {below : List Frame} {meth : Method} {c : Code} {D : va_G} {cy : Nat → ClassId} {lo : Nat}  {S : q_S} {Q : Option Value → q_S → Prop} {H : Heap} {locs : List Loc} {ls : Array Slot} (X : q_X p s m args meth c RX0 cX0_takeFrom 7 (some .int) D cy lo)  (Y : q_Y D cy lo s S H locs) (hl : lv_has ls 7 []) (h : wb_X0_takeFrom_44 S Q) : W p l e ({ frames := 3, cells := 0, slots := 0, locals := 71 } : Room) s m args below meth c H locs 0 0 (MQ below (q_Q D cy lo Q) args s 0 0 (fun q => lo ≤ q)) (F0 m 44 ls []) := by
  have hx := X.1
  have hb := X.2.1
  unfold wb_X0_takeFrom_44 at h
  refine lv_iconst (v := 0) hx hb dX0_takeFrom_44 (by decide) ?_
  exact q_iret X Y rfl (Nat.le_refl _) (Nat.le_refl _) h dX0_takeFrom_45
def wm_X0_takeFrom (S : q_S) (a0 : Nat) (r1 : Option Nat) (x2 : Int32) (x3 : Int32) (r4 : Option Nat) (x5 : Int32) (x6 : Int32) (Q : Option Value → q_S → Prop) : Prop := ((r1 = none → (wb_X0_takeFrom_11 S a0 x2 x3 Q)) ∧ (¬ r1 = none → (∃ a6_ : Nat, r1 = some a6_ ∧ (q_K S a6_ = 9 ∧ (((¬ (q_I S 1603 a6_) = 0 → (q_K S a0 = 1 ∧ (wm_X8_take S a6_ (fun r11_ S12_ => ∃ x13_ : Int32, r11_ = some (.int x13_) ∧ (∃ a14_ : Nat, (q_P S 3 a0) = some a14_ ∧ (q_K S12_ a14_ = 21 ∧ (vp_in (11 : Int32) (q_N S12_ a14_) ∧ (((r4 = none → (wb_X0_takeFrom_44 (qs_A S12_ a14_ (11 : Int32).toNatClampNeg x13_) Q)) ∧ (¬ r4 = none → (∃ a19_ : Nat, r4 = some a19_ ∧ (q_K (qs_A S12_ a14_ (11 : Int32).toNatClampNeg x13_) a19_ = 6 ∧ (wm_X5_refill (qs_A S12_ a14_ (11 : Int32).toNatClampNeg x13_) a19_ r1 x5 x6 (fun r22_ S23_ => r22_ = none ∧ (wb_X0_takeFrom_44 S23_ Q))))))))))))))) ∧ ((q_I S 1603 a6_) = 0 → (wb_X0_takeFrom_11 S a0 x2 x3 Q))))))))
set_option maxHeartbeats 4000000 in
set_option maxRecDepth 100000 in
theorem cm_X0_takeFrom {l : Launch} {D : va_G} {cy : Nat → ClassId} {lo : Nat} {S : q_S} {a0 : Nat} {r1 : Option Nat} {x2 : Int32} {x3 : Int32} {r4 : Option Nat} {x5 : Int32} {x6 : Int32} {Q : Option Value → q_S → Prop} (h : wm_X0_takeFrom S a0 r1 x2 x3 r4 x5 x6 Q) : q_Met l D cy lo yX0_takeFrom cX0_takeFrom 7 (some .int) 3 71 0 0 [.ref a0, va_rf r1, .int x2, .int x3, va_rf r4, .int x5, .int x6] S Q := by
  refine q_body (by decide) (by first | exact Nat.le_of_ble_eq_true rfl | simp [lg_sl, q_cat, q_catI, q_catJ, q_catR]) ?_
  intro p e s m below meth c ls X hnm Y hl
  have hx := X.1
  have hb := X.2.1
  have hl : lv_has ls 7 [(0, .ref a0), (1, va_rf r1), (2, .int x2), (3, .int x3), (4, va_rf r4), (5, .int x5), (6, .int x6)] := by first | exact hl | simpa [lv_args, q_cat, q_catI, q_catJ, q_catR] using hl
  generalize hargs : ([.ref a0, va_rf r1, .int x2, .int x3, va_rf r4, .int x5, .int x6] : List Value).toArray = args at X ⊢
  unfold wm_X0_takeFrom at h
  refine q_aload_n hx hb dX0_takeFrom_0 rfl (lv_at hl 1 rfl) ?_
  refine q_ifnull (r := r1) (tgt := 11) hx hb dX0_takeFrom_1 (by decide) (fun c5_ => ?_) (fun c5_ => ?_)
  · replace h := h.1 c5_
    exact cb_X0_takeFrom_11 X Y (lv_sub hl [0, 2, 3] rfl) h
  · replace h := h.2 c5_
    refine q_aload_n hx hb dX0_takeFrom_4 rfl (lv_at hl 1 rfl) ?_
    obtain ⟨a6_, e7_, h⟩ := h
    refine q_nn [] e7_ ?_
    obtain ⟨k8_, h⟩ := h
    refine q_getI X Y kX8 3 rfl fl_X0_213 k8_ dX0_takeFrom_5 ?_
    refine lv_if_ne (tgt := 18) hx hb dX0_takeFrom_8 (by decide) (fun c9_ => ?_) (fun c9_ => ?_)
    · replace h := h.1 c9_
      refine lv_aload_n hx hb dX0_takeFrom_18 rfl (lv_at hl 0 rfl) ?_
      obtain ⟨k10_, h⟩ := h
      refine q_getP X Y kX0 3 rfl fl_X0_29 k10_ rfl dX0_takeFrom_19 ?_
      refine lv_bipush (v := 11) hx hb dX0_takeFrom_22 (by decide) ?_
      refine q_aload_n hx hb dX0_takeFrom_24 rfl (lv_at hl 1 rfl) ?_
      refine q_nn [] e7_ ?_
      refine q_callV X Y hl (cm_X8_take h) mt_X8_take mi_X8_take ml_X0_214 (ci := 8) rfl k8_ (by decide) rfl rfl (by first | exact Nat.le_of_ble_eq_true rfl | simp [q_cat, q_catI, q_catJ, q_catR]) ⟨Nat.le_of_ble_eq_true rfl, Nat.le_of_ble_eq_true rfl⟩ ⟨Nat.le_of_ble_eq_true rfl, Nat.le_of_ble_eq_true rfl⟩ dX0_takeFrom_25 (fun r11_ S12_ H locs hp Y => ?_)
      obtain ⟨x13_, rfl, h⟩ := hp
      refine W.eq (g2 := F0 m 28 ls [.int x13_, .int (11 : Int32), va_rf (q_P S 3 a0)]) rfl ?_
      obtain ⟨a14_, e15_, h⟩ := h
      refine q_nn [.int x13_, .int (11 : Int32)] e15_ ?_
      obtain ⟨k16_, h⟩ := h
      obtain ⟨i17_, h⟩ := h
      refine q_ist X Y k16_ i17_ dX0_takeFrom_28 (fun H locs Y => ?_)
      refine q_aload hx hb dX0_takeFrom_29 (lv_at hl 4 rfl) ?_
      refine q_ifnull (r := r4) (tgt := 44) hx hb dX0_takeFrom_31 (by decide) (fun c18_ => ?_) (fun c18_ => ?_)
      · replace h := h.1 c18_
        exact cb_X0_takeFrom_44 X Y (lv_sub hl [] rfl) h
      · replace h := h.2 c18_
        refine q_aload hx hb dX0_takeFrom_34 (lv_at hl 4 rfl) ?_
        refine q_aload_n hx hb dX0_takeFrom_36 rfl (lv_at hl 1 rfl) ?_
        refine lv_iload hx hb dX0_takeFrom_37 (lv_at hl 5 rfl) ?_
        refine lv_iload hx hb dX0_takeFrom_39 (lv_at hl 6 rfl) ?_
        obtain ⟨a19_, e20_, h⟩ := h
        refine q_nn [.int x6, .int x5, va_rf r1] e20_ ?_
        obtain ⟨k21_, h⟩ := h
        refine q_callV X Y hl (cm_X5_refill h) mt_X5_refill mi_X5_refill ml_X0_217 (ci := 5) rfl k21_ (by decide) rfl rfl (by first | exact Nat.le_of_ble_eq_true rfl | simp [q_cat, q_catI, q_catJ, q_catR]) ⟨Nat.le_of_ble_eq_true rfl, Nat.le_of_ble_eq_true rfl⟩ ⟨Nat.le_of_ble_eq_true rfl, Nat.le_of_ble_eq_true rfl⟩ dX0_takeFrom_41 (fun r22_ S23_ H locs hp Y => ?_)
        obtain ⟨rfl, h⟩ := hp
        refine W.eq (g2 := F0 m 44 ls []) rfl ?_
        exact cb_X0_takeFrom_44 X Y (lv_sub hl [] rfl) h
    · replace h := h.2 c9_
      exact cb_X0_takeFrom_11 X Y (lv_sub hl [0, 2, 3] rfl) h
-- X5_showAll
theorem ml_X5_193 : Cond.methodLink RX5 193 yX5_wakeAll ∈ q_G := q_tb (i := 1621) (by decide +kernel) (by decide +kernel)
theorem dX5_showAll_0 : decode cX5_showAll 0 = .ok (.iconst 0, 1) := by decide +kernel
theorem dX5_showAll_1 : decode cX5_showAll 1 = .ok (.istore_n 3, 1) := by decide +kernel
theorem dX5_showAll_2 : decode cX5_showAll 2 = .ok (.iload_n 3, 1) := by decide +kernel
theorem dX5_showAll_3 : decode cX5_showAll 3 = .ok (.aload_n 0, 1) := by decide +kernel
theorem dX5_showAll_4 : decode cX5_showAll 4 = .ok (.getfield 45, 3) := by decide +kernel
theorem dX5_showAll_7 : decode cX5_showAll 7 = .ok (.if_icmp .ge 35, 3) := by decide +kernel
theorem dX5_showAll_10 : decode cX5_showAll 10 = .ok (.aload_n 0, 1) := by decide +kernel
theorem dX5_showAll_11 : decode cX5_showAll 11 = .ok (.getfield 20, 3) := by decide +kernel
theorem dX5_showAll_14 : decode cX5_showAll 14 = .ok (.iload_n 3, 1) := by decide +kernel
theorem dX5_showAll_15 : decode cX5_showAll 15 = .ok (.aaload, 1) := by decide +kernel
theorem dX5_showAll_16 : decode cX5_showAll 16 = .ok (.getfield 111, 3) := by decide +kernel
theorem dX5_showAll_19 : decode cX5_showAll 19 = .ok (.iload_n 1, 1) := by decide +kernel
theorem dX5_showAll_20 : decode cX5_showAll 20 = .ok (.if_icmp .ne 16, 3) := by decide +kernel
theorem dX5_showAll_23 : decode cX5_showAll 23 = .ok (.aload_n 0, 1) := by decide +kernel
theorem dX5_showAll_24 : decode cX5_showAll 24 = .ok (.getfield 20, 3) := by decide +kernel
theorem dX5_showAll_27 : decode cX5_showAll 27 = .ok (.iload_n 3, 1) := by decide +kernel
theorem dX5_showAll_28 : decode cX5_showAll 28 = .ok (.aaload, 1) := by decide +kernel
theorem dX5_showAll_29 : decode cX5_showAll 29 = .ok (.getfield 121, 3) := by decide +kernel
theorem dX5_showAll_32 : decode cX5_showAll 32 = .ok (.bipush 11, 2) := by decide +kernel
theorem dX5_showAll_34 : decode cX5_showAll 34 = .ok (.iload_n 2, 1) := by decide +kernel
theorem dX5_showAll_35 : decode cX5_showAll 35 = .ok (.iastore, 1) := by decide +kernel
theorem dX5_showAll_36 : decode cX5_showAll 36 = .ok (.iinc 3 1, 3) := by decide +kernel
theorem dX5_showAll_39 : decode cX5_showAll 39 = .ok (.goto (-37), 3) := by decide +kernel
theorem dX5_showAll_42 : decode cX5_showAll 42 = .ok (.aload_n 0, 1) := by decide +kernel
theorem dX5_showAll_43 : decode cX5_showAll 43 = .ok (.iload_n 1, 1) := by decide +kernel
theorem dX5_showAll_44 : decode cX5_showAll 44 = .ok (.invokevirtual 193, 3) := by decide +kernel
theorem dX5_showAll_47 : decode cX5_showAll 47 = .ok (.return_, 1) := by decide +kernel
def wb_X5_showAll_36 (B2 : q_S → Nat → Int32 → Int32 → Int32 → Prop) (S : q_S) (a0 : Nat) (x1 : Int32) (x2 : Int32) (x3 : Int32) (Q : Option Value → q_S → Prop) : Prop := B2 S a0 x1 x2 (x3 + 1)
set_option maxHeartbeats 4000000 in
set_option maxRecDepth 100000 in
theorem cb_X5_showAll_36 {p : Program} {l : Launch} {e : Env} {s : State} {m : MethodId} {args : Array Value} {below : List Frame} {meth : Method} {c : Code} {D : va_G} {cy : Nat → ClassId} {lo : Nat} {B2 : q_S → Nat → Int32 → Int32 → Int32 → Prop} {S : q_S} {a0 : Nat} {x1 : Int32} {x2 : Int32} {x3 : Int32} {Q : Option Value → q_S → Prop} {H : Heap} {locs : List Loc} {ls : Array Slot} (X : q_X p s m args meth c RX5 cX5_showAll 4 none D cy lo) (hB2 : ∀ (S : q_S) (a0 : Nat) (x1 : Int32) (x2 : Int32) (x3 : Int32) (H : Heap) (locs : List Loc) (ls : Array Slot), B2 S a0 x1 x2 x3 → q_Y D cy lo s S H locs → lv_has ls 4 [(0, .ref a0), (1, .int x1), (2, .int x2), (3, .int x3)] → W p l e ({ frames := 3, cells := 0, slots := 0, locals := 65 } : Room) s m args below meth c H locs 0 0 (MQ below (q_Q D cy lo Q) args s 0 0 (fun q => lo ≤ q)) (F0 m 2 ls [])) (Y : q_Y D cy lo s S H locs) (hl : lv_has ls 4 [(0, .ref a0), (1, .int x1), (2, .int x2), (3, .int x3)]) (h : wb_X5_showAll_36 B2 S a0 x1 x2 x3 Q) : W p l e ({ frames := 3, cells := 0, slots := 0, locals := 65 } : Room) s m args below meth c H locs 0 0 (MQ below (q_Q D cy lo Q) args s 0 0 (fun q => lo ≤ q)) (F0 m 36 ls []) := by
  have hx := X.1
  have hb := X.2.1
  unfold wb_X5_showAll_36 at h
  refine lv_iinc (v := (x3 + 1)) (lv' := [(3, .int (x3 + 1)), (0, .ref a0), (1, .int x1), (2, .int x2)]) hx hb dX5_showAll_36 hl (k := 3) rfl (by first | rfl | decide) (by decide) (by first | rfl | simp [q_cat, q_catI, q_catJ, q_catR]) (fun ls hl => ?_)
  refine lv_goto (tgt := 2) hx hb dX5_showAll_39 (by decide) ?_
  exact hB2 _ _ _ _ _ _ _ _ h Y (lv_sub hl [1, 2, 3, 0] rfl)
def wb_X5_showAll_2 (B2 : q_S → Nat → Int32 → Int32 → Int32 → Prop) (S : q_S) (a0 : Nat) (x1 : Int32) (x2 : Int32) (x3 : Int32) (Q : Option Value → q_S → Prop) : Prop := q_K S a0 = 6 ∧ ((((q_I S 1004 a0) ≤ x3 → (wm_X5_wakeAll S a0 x1 (fun r3_ S4_ => r3_ = none ∧ (Q none S4_)))) ∧ (¬ (q_I S 1004 a0) ≤ x3 → (∃ a5_ : Nat, (q_P S 1003 a0) = some a5_ ∧ (q_K S a5_ = 26 ∧ (vp_in x3 (q_N S a5_) ∧ (∃ a9_ : Nat, (q_C S a5_ x3.toNatClampNeg) = some a9_ ∧ (q_K S a9_ = 8 ∧ (((¬ (q_I S 1418 a9_) = x1 → (wb_X5_showAll_36 B2 S a0 x1 x2 x3 Q)) ∧ ((q_I S 1418 a9_) = x1 → (vp_in x3 (q_N S a5_) ∧ (∃ a14_ : Nat, (q_P S 1411 a9_) = some a14_ ∧ (q_K S a14_ = 21 ∧ (vp_in (11 : Int32) (q_N S a14_) ∧ (wb_X5_showAll_36 B2 (qs_A S a14_ (11 : Int32).toNatClampNeg x2) a0 x1 x2 x3 Q))))))))))))))))
set_option maxHeartbeats 4000000 in
set_option maxRecDepth 100000 in
theorem cb_X5_showAll_2 {p : Program} {l : Launch} {e : Env} {s : State} {m : MethodId} {args : Array Value} {below : List Frame} {meth : Method} {c : Code} {D : va_G} {cy : Nat → ClassId} {lo : Nat} {B2 : q_S → Nat → Int32 → Int32 → Int32 → Prop} {S : q_S} {a0 : Nat} {x1 : Int32} {x2 : Int32} {x3 : Int32} {Q : Option Value → q_S → Prop} {H : Heap} {locs : List Loc} {ls : Array Slot} (X : q_X p s m args meth c RX5 cX5_showAll 4 none D cy lo) (hB2 : ∀ (S : q_S) (a0 : Nat) (x1 : Int32) (x2 : Int32) (x3 : Int32) (H : Heap) (locs : List Loc) (ls : Array Slot), B2 S a0 x1 x2 x3 → q_Y D cy lo s S H locs → lv_has ls 4 [(0, .ref a0), (1, .int x1), (2, .int x2), (3, .int x3)] → W p l e ({ frames := 3, cells := 0, slots := 0, locals := 65 } : Room) s m args below meth c H locs 0 0 (MQ below (q_Q D cy lo Q) args s 0 0 (fun q => lo ≤ q)) (F0 m 2 ls [])) (Y : q_Y D cy lo s S H locs) (hl : lv_has ls 4 [(0, .ref a0), (1, .int x1), (2, .int x2), (3, .int x3)]) (h : wb_X5_showAll_2 B2 S a0 x1 x2 x3 Q) : W p l e ({ frames := 3, cells := 0, slots := 0, locals := 65 } : Room) s m args below meth c H locs 0 0 (MQ below (q_Q D cy lo Q) args s 0 0 (fun q => lo ≤ q)) (F0 m 2 ls []) := by
  have hx := X.1
  have hb := X.2.1
  unfold wb_X5_showAll_2 at h
  refine lv_iload_n hx hb dX5_showAll_2 rfl (lv_at hl 3 rfl) ?_
  refine lv_aload_n hx hb dX5_showAll_3 rfl (lv_at hl 0 rfl) ?_
  obtain ⟨k1_, h⟩ := h
  refine q_getI X Y kX5 4 rfl fl_X5_45 k1_ dX5_showAll_4 ?_
  refine lv_icmp_ge (tgt := 42) hx hb dX5_showAll_7 (by decide) (fun c2_ => ?_) (fun c2_ => ?_)
  · replace h := h.1 c2_
    refine lv_aload_n hx hb dX5_showAll_42 rfl (lv_at hl 0 rfl) ?_
    refine lv_iload_n hx hb dX5_showAll_43 rfl (lv_at hl 1 rfl) ?_
    refine q_callV X Y hl (cm_X5_wakeAll h) mt_X5_wakeAll mi_X5_wakeAll ml_X5_193 (ci := 5) rfl k1_ (by decide) rfl rfl (by first | exact Nat.le_of_ble_eq_true rfl | simp [q_cat, q_catI, q_catJ, q_catR]) ⟨Nat.le_of_ble_eq_true rfl, Nat.le_of_ble_eq_true rfl⟩ ⟨Nat.le_of_ble_eq_true rfl, Nat.le_of_ble_eq_true rfl⟩ dX5_showAll_44 (fun r3_ S4_ H locs hp Y => ?_)
    obtain ⟨rfl, h⟩ := hp
    refine W.eq (g2 := F0 m 47 ls []) rfl ?_
    exact q_vret X Y (Nat.le_refl _) (Nat.le_refl _) h dX5_showAll_47
  · replace h := h.2 c2_
    refine lv_aload_n hx hb dX5_showAll_10 rfl (lv_at hl 0 rfl) ?_
    refine q_getP X Y kX5 3 rfl fl_X5_20 k1_ rfl dX5_showAll_11 ?_
    refine lv_iload_n hx hb dX5_showAll_14 rfl (lv_at hl 3 rfl) ?_
    obtain ⟨a5_, e6_, h⟩ := h
    refine q_nn [.int x3] e6_ ?_
    obtain ⟨k7_, h⟩ := h
    obtain ⟨i8_, h⟩ := h
    refine q_cld X Y k7_ (by decide) (t := 6) rfl i8_ rfl dX5_showAll_15 ?_
    obtain ⟨a9_, e10_, h⟩ := h
    refine q_nn [] e10_ ?_
    obtain ⟨k11_, h⟩ := h
    refine q_getI X Y kX7 18 rfl fl_X5_111 k11_ dX5_showAll_16 ?_
    refine lv_iload_n hx hb dX5_showAll_19 rfl (lv_at hl 1 rfl) ?_
    refine lv_icmp_ne (tgt := 36) hx hb dX5_showAll_20 (by decide) (fun c12_ => ?_) (fun c12_ => ?_)
    · replace h := h.1 c12_
      exact cb_X5_showAll_36 X hB2 Y (lv_sub hl [0, 1, 2, 3] rfl) h
    · replace h := h.2 c12_
      refine lv_aload_n hx hb dX5_showAll_23 rfl (lv_at hl 0 rfl) ?_
      refine q_getR X Y kX5 3 rfl fl_X5_20 k1_ e6_ dX5_showAll_24 ?_
      refine lv_iload_n hx hb dX5_showAll_27 rfl (lv_at hl 3 rfl) ?_
      obtain ⟨i13_, h⟩ := h
      refine q_cld X Y k7_ (by decide) (t := 6) rfl i13_ rfl dX5_showAll_28 ?_
      refine q_nn [] e10_ ?_
      refine q_getP X Y kX7 11 rfl fl_X5_121 k11_ rfl dX5_showAll_29 ?_
      refine lv_bipush (v := 11) hx hb dX5_showAll_32 (by decide) ?_
      refine lv_iload_n hx hb dX5_showAll_34 rfl (lv_at hl 2 rfl) ?_
      obtain ⟨a14_, e15_, h⟩ := h
      refine q_nn [.int x2, .int (11 : Int32)] e15_ ?_
      obtain ⟨k16_, h⟩ := h
      obtain ⟨i17_, h⟩ := h
      refine q_ist X Y k16_ i17_ dX5_showAll_35 (fun H locs Y => ?_)
      exact cb_X5_showAll_36 X hB2 Y (lv_sub hl [0, 1, 2, 3] rfl) h
def wl_X5_showAll_2  : Nat → q_S → Nat → Int32 → Int32 → Int32 → (Option Value → q_S → Prop) → Prop
  | 0, _, _, _, _, _, _ => False
  | n + 1, S, a0, x1, x2, x3, Q => wb_X5_showAll_2 (fun S a0 x1 x2 x3 => wl_X5_showAll_2 n S a0 x1 x2 x3 Q) S a0 x1 x2 x3 Q
set_option maxHeartbeats 4000000 in
set_option maxRecDepth 100000 in
theorem cl_X5_showAll_2 {p : Program} {l : Launch} {e : Env} {s : State} {m : MethodId} {args : Array Value} {below : List Frame} {meth : Method} {c : Code} {D : va_G} {cy : Nat → ClassId} {lo : Nat}  {Q : Option Value → q_S → Prop} (X : q_X p s m args meth c RX5 cX5_showAll 4 none D cy lo)  : ∀ (n : Nat) (S : q_S) (a0 : Nat) (x1 : Int32) (x2 : Int32) (x3 : Int32) (H : Heap) (locs : List Loc) (ls : Array Slot), wl_X5_showAll_2 n S a0 x1 x2 x3 Q → q_Y D cy lo s S H locs → lv_has ls 4 [(0, .ref a0), (1, .int x1), (2, .int x2), (3, .int x3)] → W p l e ({ frames := 3, cells := 0, slots := 0, locals := 65 } : Room) s m args below meth c H locs 0 0 (MQ below (q_Q D cy lo Q) args s 0 0 (fun q => lo ≤ q)) (F0 m 2 ls []) := by
  intro n
  induction n with
  | zero => intro S a0 x1 x2 x3 H locs ls h; exact absurd h id
  | succ n ih => intro S a0 x1 x2 x3 H locs ls h Y hl; exact cb_X5_showAll_2 X ih Y hl h
def wm_X5_showAll (S : q_S) (a0 : Nat) (x1 : Int32) (x2 : Int32) (Q : Option Value → q_S → Prop) : Prop := ∃ n18_ : Nat, wl_X5_showAll_2 n18_ S a0 x1 x2 (0 : Int32) Q
set_option maxHeartbeats 4000000 in
set_option maxRecDepth 100000 in
theorem cm_X5_showAll {l : Launch} {D : va_G} {cy : Nat → ClassId} {lo : Nat} {S : q_S} {a0 : Nat} {x1 : Int32} {x2 : Int32} {Q : Option Value → q_S → Prop} (h : wm_X5_showAll S a0 x1 x2 Q) : q_Met l D cy lo yX5_showAll cX5_showAll 4 none 3 65 0 0 [.ref a0, .int x1, .int x2] S Q := by
  refine q_body (by decide) (by first | exact Nat.le_of_ble_eq_true rfl | simp [lg_sl, q_cat, q_catI, q_catJ, q_catR]) ?_
  intro p e s m below meth c ls X hnm Y hl
  have hx := X.1
  have hb := X.2.1
  have hl : lv_has ls 4 [(0, .ref a0), (1, .int x1), (2, .int x2)] := by first | exact hl | simpa [lv_args, q_cat, q_catI, q_catJ, q_catR] using hl
  generalize hargs : ([.ref a0, .int x1, .int x2] : List Value).toArray = args at X ⊢
  unfold wm_X5_showAll at h
  refine lv_iconst (v := 0) hx hb dX5_showAll_0 (by decide) ?_
  refine lv_istore_n (i := 3) (lv' := [(3, .int (0 : Int32)), (0, .ref a0), (1, .int x1), (2, .int x2)]) hx hb dX5_showAll_1 rfl hl (by decide) (by first | rfl | simp [q_cat, q_catI, q_catJ, q_catR]) (fun ls hl => ?_)
  obtain ⟨n18_, h⟩ := h
  exact cl_X5_showAll_2 X n18_ _ _ _ _ _ _ _ _ h Y (lv_sub hl [1, 2, 3, 0] rfl)
-- X0_readBoard
theorem fl_X0_193 : Cond.fieldLink RX0 193 "PartitionWorks$Thing" "word" "I" ∈ q_G := q_tb (i := 1012) (by decide +kernel) (by decide +kernel)
theorem dX0_readBoard_0 : decode cX0_readBoard 0 = .ok (.aload_n 0, 1) := by decide +kernel
theorem dX0_readBoard_1 : decode cX0_readBoard 1 = .ok (.iload_n 3, 1) := by decide +kernel
theorem dX0_readBoard_2 : decode cX0_readBoard 2 = .ok (.invokevirtual 164, 3) := by decide +kernel
theorem dX0_readBoard_5 : decode cX0_readBoard 5 = .ok (.ifCond .eq 5, 3) := by decide +kernel
theorem dX0_readBoard_8 : decode cX0_readBoard 8 = .ok (.iconst 1, 1) := by decide +kernel
theorem dX0_readBoard_9 : decode cX0_readBoard 9 = .ok (.ireturn, 1) := by decide +kernel
theorem dX0_readBoard_10 : decode cX0_readBoard 10 = .ok (.aload_n 1, 1) := by decide +kernel
theorem dX0_readBoard_11 : decode cX0_readBoard 11 = .ok (.getfield 156, 3) := by decide +kernel
theorem dX0_readBoard_14 : decode cX0_readBoard 14 = .ok (.ifCond .ne 10, 3) := by decide +kernel
theorem dX0_readBoard_17 : decode cX0_readBoard 17 = .ok (.aload_n 0, 1) := by decide +kernel
theorem dX0_readBoard_18 : decode cX0_readBoard 18 = .ok (.iload_n 2, 1) := by decide +kernel
theorem dX0_readBoard_19 : decode cX0_readBoard 19 = .ok (.iload_n 3, 1) := by decide +kernel
theorem dX0_readBoard_20 : decode cX0_readBoard 20 = .ok (.invokevirtual 87, 3) := by decide +kernel
theorem dX0_readBoard_23 : decode cX0_readBoard 23 = .ok (.ireturn, 1) := by decide +kernel
theorem dX0_readBoard_24 : decode cX0_readBoard 24 = .ok (.aload_n 0, 1) := by decide +kernel
theorem dX0_readBoard_25 : decode cX0_readBoard 25 = .ok (.getfield 29, 3) := by decide +kernel
theorem dX0_readBoard_28 : decode cX0_readBoard 28 = .ok (.bipush 11, 2) := by decide +kernel
theorem dX0_readBoard_30 : decode cX0_readBoard 30 = .ok (.aload_n 1, 1) := by decide +kernel
theorem dX0_readBoard_31 : decode cX0_readBoard 31 = .ok (.getfield 193, 3) := by decide +kernel
theorem dX0_readBoard_34 : decode cX0_readBoard 34 = .ok (.iastore, 1) := by decide +kernel
theorem dX0_readBoard_35 : decode cX0_readBoard 35 = .ok (.iconst 0, 1) := by decide +kernel
theorem dX0_readBoard_36 : decode cX0_readBoard 36 = .ok (.ireturn, 1) := by decide +kernel
def wm_X0_readBoard (S : q_S) (a0 : Nat) (r1 : Option Nat) (x2 : Int32) (x3 : Int32) (Q : Option Value → q_S → Prop) : Prop := q_K S a0 = 1 ∧ (wm_X0_isNoTime S a0 x3 (fun r2_ S3_ => ∃ x4_ : Int32, r2_ = some (.int x4_) ∧ (((x4_ = 0 → (∃ a6_ : Nat, r1 = some a6_ ∧ (q_K S3_ a6_ = 11 ∧ (((¬ (q_I S3_ 2001 a6_) = 0 → (q_K S3_ a0 = 1 ∧ (∃ a11_ : Nat, (q_P S3_ 3 a0) = some a11_ ∧ (q_K S3_ a11_ = 21 ∧ (vp_in (11 : Int32) (q_N S3_ a11_) ∧ (Q (some (.int (0 : Int32))) (qs_A S3_ a11_ (11 : Int32).toNatClampNeg (q_I S3_ 2005 a6_)))))))) ∧ ((q_I S3_ 2001 a6_) = 0 → (q_K S3_ a0 = 1 ∧ (wm_X0_waitFor S3_ a0 x2 x3 (fun r16_ S17_ => ∃ x18_ : Int32, r16_ = some (.int x18_) ∧ (Q (some (.int x18_)) S17_)))))))))) ∧ (¬ x4_ = 0 → (Q (some (.int (1 : Int32))) S3_))))))
set_option maxHeartbeats 4000000 in
set_option maxRecDepth 100000 in
theorem cm_X0_readBoard {l : Launch} {D : va_G} {cy : Nat → ClassId} {lo : Nat} {S : q_S} {a0 : Nat} {r1 : Option Nat} {x2 : Int32} {x3 : Int32} {Q : Option Value → q_S → Prop} (h : wm_X0_readBoard S a0 r1 x2 x3 Q) : q_Met l D cy lo yX0_readBoard cX0_readBoard 4 (some .int) 2 45 0 0 [.ref a0, va_rf r1, .int x2, .int x3] S Q := by
  refine q_body (by decide) (by first | exact Nat.le_of_ble_eq_true rfl | simp [lg_sl, q_cat, q_catI, q_catJ, q_catR]) ?_
  intro p e s m below meth c ls X hnm Y hl
  have hx := X.1
  have hb := X.2.1
  have hl : lv_has ls 4 [(0, .ref a0), (1, va_rf r1), (2, .int x2), (3, .int x3)] := by first | exact hl | simpa [lv_args, q_cat, q_catI, q_catJ, q_catR] using hl
  generalize hargs : ([.ref a0, va_rf r1, .int x2, .int x3] : List Value).toArray = args at X ⊢
  unfold wm_X0_readBoard at h
  refine lv_aload_n hx hb dX0_readBoard_0 rfl (lv_at hl 0 rfl) ?_
  refine lv_iload_n hx hb dX0_readBoard_1 rfl (lv_at hl 3 rfl) ?_
  obtain ⟨k1_, h⟩ := h
  refine q_callV X Y hl (cm_X0_isNoTime h) mt_X0_isNoTime mi_X0_isNoTime ml_X0_164 (ci := 0) rfl k1_ (by decide) rfl rfl (by first | exact Nat.le_of_ble_eq_true rfl | simp [q_cat, q_catI, q_catJ, q_catR]) ⟨Nat.le_of_ble_eq_true rfl, Nat.le_of_ble_eq_true rfl⟩ ⟨Nat.le_of_ble_eq_true rfl, Nat.le_of_ble_eq_true rfl⟩ dX0_readBoard_2 (fun r2_ S3_ H locs hp Y => ?_)
  obtain ⟨x4_, rfl, h⟩ := hp
  refine W.eq (g2 := F0 m 5 ls [.int x4_]) rfl ?_
  refine lv_if_eq (tgt := 10) hx hb dX0_readBoard_5 (by decide) (fun c5_ => ?_) (fun c5_ => ?_)
  · replace h := h.1 c5_
    refine q_aload_n hx hb dX0_readBoard_10 rfl (lv_at hl 1 rfl) ?_
    obtain ⟨a6_, e7_, h⟩ := h
    refine q_nn [] e7_ ?_
    obtain ⟨k8_, h⟩ := h
    refine q_getI X Y kX10 1 rfl fl_X0_156 k8_ dX0_readBoard_11 ?_
    refine lv_if_ne (tgt := 24) hx hb dX0_readBoard_14 (by decide) (fun c9_ => ?_) (fun c9_ => ?_)
    · replace h := h.1 c9_
      refine lv_aload_n hx hb dX0_readBoard_24 rfl (lv_at hl 0 rfl) ?_
      obtain ⟨k10_, h⟩ := h
      refine q_getP X Y kX0 3 rfl fl_X0_29 k10_ rfl dX0_readBoard_25 ?_
      refine lv_bipush (v := 11) hx hb dX0_readBoard_28 (by decide) ?_
      refine q_aload_n hx hb dX0_readBoard_30 rfl (lv_at hl 1 rfl) ?_
      refine q_nn [] e7_ ?_
      refine q_getI X Y kX10 5 rfl fl_X0_193 k8_ dX0_readBoard_31 ?_
      obtain ⟨a11_, e12_, h⟩ := h
      refine q_nn [.int (q_I S3_ 2005 a6_), .int (11 : Int32)] e12_ ?_
      obtain ⟨k13_, h⟩ := h
      obtain ⟨i14_, h⟩ := h
      refine q_ist X Y k13_ i14_ dX0_readBoard_34 (fun H locs Y => ?_)
      refine lv_iconst (v := 0) hx hb dX0_readBoard_35 (by decide) ?_
      exact q_iret X Y rfl (Nat.le_refl _) (Nat.le_refl _) h dX0_readBoard_36
    · replace h := h.2 c9_
      refine lv_aload_n hx hb dX0_readBoard_17 rfl (lv_at hl 0 rfl) ?_
      refine lv_iload_n hx hb dX0_readBoard_18 rfl (lv_at hl 2 rfl) ?_
      refine lv_iload_n hx hb dX0_readBoard_19 rfl (lv_at hl 3 rfl) ?_
      obtain ⟨k15_, h⟩ := h
      refine q_callV X Y hl (cm_X0_waitFor h) mt_X0_waitFor mi_X0_waitFor ml_X0_87 (ci := 0) rfl k15_ (by decide) rfl rfl (by first | exact Nat.le_of_ble_eq_true rfl | simp [q_cat, q_catI, q_catJ, q_catR]) ⟨Nat.le_of_ble_eq_true rfl, Nat.le_of_ble_eq_true rfl⟩ ⟨Nat.le_of_ble_eq_true rfl, Nat.le_of_ble_eq_true rfl⟩ dX0_readBoard_20 (fun r16_ S17_ H locs hp Y => ?_)
      obtain ⟨x18_, rfl, h⟩ := hp
      refine W.eq (g2 := F0 m 23 ls [.int x18_]) rfl ?_
      exact q_iret X Y rfl (Nat.le_refl _) (Nat.le_refl _) h dX0_readBoard_23
  · replace h := h.2 c5_
    refine lv_iconst (v := 1) hx hb dX0_readBoard_8 (by decide) ?_
    exact q_iret X Y rfl (Nat.le_refl _) (Nat.le_refl _) h dX0_readBoard_9
-- X0_ofWords
theorem ml_X0_198 : Cond.methodLink RX0 198 yX0_readBoard ∈ q_G := q_tb (i := 1622) (by decide +kernel) (by decide +kernel)
theorem mt_X0_readBoard : q_Mt yX0_readBoard cX0_readBoard 4 (some .int) 3 := ⟨q_tb (i := 1625) (by decide +kernel) (by decide +kernel), q_tb (i := 10) (by decide +kernel) (by decide +kernel), by decide +kernel, by decide +kernel, by decide +kernel⟩
theorem mi_X0_readBoard : Cond.instanceMethod yX0_readBoard ∈ q_G ∧ Cond.selects yX0_readBoard.cls yX0_readBoard yX0_readBoard ∈ q_G := ⟨q_tb (i := 1624) (by decide +kernel) (by decide +kernel), q_tp (i := 68) (q := (yX0_readBoard, 5)) (by decide +kernel) (by decide +kernel)⟩
theorem ml_X0_181 : Cond.methodLink RX0 181 yX0_putIntoBuffer ∈ q_G := q_tb (i := 1593) (by decide +kernel) (by decide +kernel)
theorem mt_X0_putIntoBuffer : q_Mt yX0_putIntoBuffer cX0_putIntoBuffer 5 (some .int) 4 := ⟨q_tb (i := 1596) (by decide +kernel) (by decide +kernel), q_tb (i := 10) (by decide +kernel) (by decide +kernel), by decide +kernel, by decide +kernel, by decide +kernel⟩
theorem mi_X0_putIntoBuffer : Cond.instanceMethod yX0_putIntoBuffer ∈ q_G ∧ Cond.selects yX0_putIntoBuffer.cls yX0_putIntoBuffer yX0_putIntoBuffer ∈ q_G := ⟨q_tb (i := 1595) (by decide +kernel) (by decide +kernel), q_tp (i := 65) (q := (yX0_putIntoBuffer, 5)) (by decide +kernel) (by decide +kernel)⟩
theorem ml_X0_189 : Cond.methodLink RX0 189 yX0_takeFrom ∈ q_G := q_tb (i := 1603) (by decide +kernel) (by decide +kernel)
theorem mt_X0_takeFrom : q_Mt yX0_takeFrom cX0_takeFrom 7 (some .int) 6 := ⟨q_tb (i := 1606) (by decide +kernel) (by decide +kernel), q_tb (i := 10) (by decide +kernel) (by decide +kernel), by decide +kernel, by decide +kernel, by decide +kernel⟩
theorem mi_X0_takeFrom : Cond.instanceMethod yX0_takeFrom ∈ q_G ∧ Cond.selects yX0_takeFrom.cls yX0_takeFrom yX0_takeFrom ∈ q_G := ⟨q_tb (i := 1605) (by decide +kernel) (by decide +kernel), q_tp (i := 67) (q := (yX0_takeFrom, 5)) (by decide +kernel) (by decide +kernel)⟩
theorem ml_X0_194 : Cond.methodLink RX0 194 yX5_showAll ∈ q_G := q_tb (i := 1617) (by decide +kernel) (by decide +kernel)
theorem mt_X5_showAll : q_Mt yX5_showAll cX5_showAll 4 none 2 := ⟨q_tb (i := 1620) (by decide +kernel) (by decide +kernel), q_tb (i := 20) (by decide +kernel) (by decide +kernel), by decide +kernel, by decide +kernel, by decide +kernel⟩
theorem mi_X5_showAll : Cond.instanceMethod yX5_showAll ∈ q_G ∧ Cond.selects yX5_showAll.cls yX5_showAll yX5_showAll ∈ q_G := ⟨q_tb (i := 1618) (by decide +kernel) (by decide +kernel), q_tb (i := 1619) (by decide +kernel) (by decide +kernel)⟩
theorem dX0_ofWords_0 : decode cX0_ofWords 0 = .ok (.iload_n 1, 1) := by decide +kernel
theorem dX0_ofWords_1 : decode cX0_ofWords 1 = .ok (.bipush 14, 2) := by decide +kernel
theorem dX0_ofWords_3 : decode cX0_ofWords 3 = .ok (.if_icmp .gt 7, 3) := by decide +kernel
theorem dX0_ofWords_6 : decode cX0_ofWords 6 = .ok (.iconst 2, 1) := by decide +kernel
theorem dX0_ofWords_7 : decode cX0_ofWords 7 = .ok (.goto 4, 3) := by decide +kernel
theorem dX0_ofWords_10 : decode cX0_ofWords 10 = .ok (.iconst 3, 1) := by decide +kernel
theorem dX0_ofWords_11 : decode cX0_ofWords 11 = .ok (.istore 5, 2) := by decide +kernel
theorem dX0_ofWords_13 : decode cX0_ofWords 13 = .ok (.iload 5, 2) := by decide +kernel
theorem dX0_ofWords_15 : decode cX0_ofWords 15 = .ok (.bipush 8, 2) := by decide +kernel
theorem dX0_ofWords_17 : decode cX0_ofWords 17 = .ok (.imul, 1) := by decide +kernel
theorem dX0_ofWords_18 : decode cX0_ofWords 18 = .ok (.iload_n 2, 1) := by decide +kernel
theorem dX0_ofWords_19 : decode cX0_ofWords 19 = .ok (.iadd, 1) := by decide +kernel
theorem dX0_ofWords_20 : decode cX0_ofWords 20 = .ok (.istore 6, 2) := by decide +kernel
theorem dX0_ofWords_22 : decode cX0_ofWords 22 = .ok (.aload_n 0, 1) := by decide +kernel
theorem dX0_ofWords_23 : decode cX0_ofWords 23 = .ok (.getfield 15, 3) := by decide +kernel
theorem dX0_ofWords_26 : decode cX0_ofWords 26 = .ok (.iload 5, 2) := by decide +kernel
theorem dX0_ofWords_28 : decode cX0_ofWords 28 = .ok (.iload_n 2, 1) := by decide +kernel
theorem dX0_ofWords_29 : decode cX0_ofWords 29 = .ok (.invokevirtual 144, 3) := by decide +kernel
theorem dX0_ofWords_32 : decode cX0_ofWords 32 = .ok (.astore 7, 2) := by decide +kernel
theorem dX0_ofWords_34 : decode cX0_ofWords 34 = .ok (.aload 7, 2) := by decide +kernel
theorem dX0_ofWords_36 : decode cX0_ofWords 36 = .ok (.ifnonnull 5, 3) := by decide +kernel
theorem dX0_ofWords_39 : decode cX0_ofWords 39 = .ok (.iconst 1, 1) := by decide +kernel
theorem dX0_ofWords_40 : decode cX0_ofWords 40 = .ok (.ireturn, 1) := by decide +kernel
theorem dX0_ofWords_41 : decode cX0_ofWords 41 = .ok (.iload_n 1, 1) := by decide +kernel
theorem dX0_ofWords_42 : decode cX0_ofWords 42 = .ok (.tableswitch 110 13 16 #[30, 42, 78, 102], 30) := by decide +kernel
theorem dX0_ofWords_72 : decode cX0_ofWords 72 = .ok (.aload_n 0, 1) := by decide +kernel
theorem dX0_ofWords_73 : decode cX0_ofWords 73 = .ok (.aload 7, 2) := by decide +kernel
theorem dX0_ofWords_75 : decode cX0_ofWords 75 = .ok (.iload 6, 2) := by decide +kernel
theorem dX0_ofWords_77 : decode cX0_ofWords 77 = .ok (.iload_n 3, 1) := by decide +kernel
theorem dX0_ofWords_78 : decode cX0_ofWords 78 = .ok (.iload 4, 2) := by decide +kernel
theorem dX0_ofWords_80 : decode cX0_ofWords 80 = .ok (.invokevirtual 181, 3) := by decide +kernel
theorem dX0_ofWords_83 : decode cX0_ofWords 83 = .ok (.ireturn, 1) := by decide +kernel
theorem dX0_ofWords_84 : decode cX0_ofWords 84 = .ok (.aload_n 0, 1) := by decide +kernel
theorem dX0_ofWords_85 : decode cX0_ofWords 85 = .ok (.iload_n 3, 1) := by decide +kernel
theorem dX0_ofWords_86 : decode cX0_ofWords 86 = .ok (.invokevirtual 164, 3) := by decide +kernel
theorem dX0_ofWords_89 : decode cX0_ofWords 89 = .ok (.ifCond .eq 7, 3) := by decide +kernel
theorem dX0_ofWords_92 : decode cX0_ofWords 92 = .ok (.iconst 1, 1) := by decide +kernel
theorem dX0_ofWords_93 : decode cX0_ofWords 93 = .ok (.goto 26, 3) := by decide +kernel
theorem dX0_ofWords_96 : decode cX0_ofWords 96 = .ok (.aload_n 0, 1) := by decide +kernel
theorem dX0_ofWords_97 : decode cX0_ofWords 97 = .ok (.aload 7, 2) := by decide +kernel
theorem dX0_ofWords_99 : decode cX0_ofWords 99 = .ok (.getfield 185, 3) := by decide +kernel
theorem dX0_ofWords_102 : decode cX0_ofWords 102 = .ok (.iload 6, 2) := by decide +kernel
theorem dX0_ofWords_104 : decode cX0_ofWords 104 = .ok (.iload_n 3, 1) := by decide +kernel
theorem dX0_ofWords_105 : decode cX0_ofWords 105 = .ok (.aload_n 0, 1) := by decide +kernel
theorem dX0_ofWords_106 : decode cX0_ofWords 106 = .ok (.getfield 15, 3) := by decide +kernel
theorem dX0_ofWords_109 : decode cX0_ofWords 109 = .ok (.iload 6, 2) := by decide +kernel
theorem dX0_ofWords_111 : decode cX0_ofWords 111 = .ok (.aload 7, 2) := by decide +kernel
theorem dX0_ofWords_113 : decode cX0_ofWords 113 = .ok (.getfield 167, 3) := by decide +kernel
theorem dX0_ofWords_116 : decode cX0_ofWords 116 = .ok (.invokevirtual 189, 3) := by decide +kernel
theorem dX0_ofWords_119 : decode cX0_ofWords 119 = .ok (.ireturn, 1) := by decide +kernel
theorem dX0_ofWords_120 : decode cX0_ofWords 120 = .ok (.aload 7, 2) := by decide +kernel
theorem dX0_ofWords_122 : decode cX0_ofWords 122 = .ok (.iconst 1, 1) := by decide +kernel
theorem dX0_ofWords_123 : decode cX0_ofWords 123 = .ok (.putfield 156, 3) := by decide +kernel
theorem dX0_ofWords_126 : decode cX0_ofWords 126 = .ok (.aload 7, 2) := by decide +kernel
theorem dX0_ofWords_128 : decode cX0_ofWords 128 = .ok (.iload_n 3, 1) := by decide +kernel
theorem dX0_ofWords_129 : decode cX0_ofWords 129 = .ok (.putfield 193, 3) := by decide +kernel
theorem dX0_ofWords_132 : decode cX0_ofWords 132 = .ok (.aload_n 0, 1) := by decide +kernel
theorem dX0_ofWords_133 : decode cX0_ofWords 133 = .ok (.getfield 15, 3) := by decide +kernel
theorem dX0_ofWords_136 : decode cX0_ofWords 136 = .ok (.iload 6, 2) := by decide +kernel
theorem dX0_ofWords_138 : decode cX0_ofWords 138 = .ok (.iload_n 3, 1) := by decide +kernel
theorem dX0_ofWords_139 : decode cX0_ofWords 139 = .ok (.invokevirtual 194, 3) := by decide +kernel
theorem dX0_ofWords_142 : decode cX0_ofWords 142 = .ok (.iconst 0, 1) := by decide +kernel
theorem dX0_ofWords_143 : decode cX0_ofWords 143 = .ok (.ireturn, 1) := by decide +kernel
theorem dX0_ofWords_144 : decode cX0_ofWords 144 = .ok (.aload 7, 2) := by decide +kernel
theorem dX0_ofWords_146 : decode cX0_ofWords 146 = .ok (.iconst 0, 1) := by decide +kernel
theorem dX0_ofWords_147 : decode cX0_ofWords 147 = .ok (.putfield 156, 3) := by decide +kernel
theorem dX0_ofWords_150 : decode cX0_ofWords 150 = .ok (.iconst 0, 1) := by decide +kernel
theorem dX0_ofWords_151 : decode cX0_ofWords 151 = .ok (.ireturn, 1) := by decide +kernel
theorem dX0_ofWords_152 : decode cX0_ofWords 152 = .ok (.aload_n 0, 1) := by decide +kernel
theorem dX0_ofWords_153 : decode cX0_ofWords 153 = .ok (.aload 7, 2) := by decide +kernel
theorem dX0_ofWords_155 : decode cX0_ofWords 155 = .ok (.iload 6, 2) := by decide +kernel
theorem dX0_ofWords_157 : decode cX0_ofWords 157 = .ok (.iload_n 3, 1) := by decide +kernel
theorem dX0_ofWords_158 : decode cX0_ofWords 158 = .ok (.invokevirtual 198, 3) := by decide +kernel
theorem dX0_ofWords_161 : decode cX0_ofWords 161 = .ok (.ireturn, 1) := by decide +kernel
def wb_X0_ofWords_119  (S : q_S) (xs0 : Int32) (Q : Option Value → q_S → Prop) : Prop := Q (some (.int xs0)) S
set_option maxHeartbeats 4000000 in
set_option maxRecDepth 100000 in
theorem cb_X0_ofWords_119 {p : Program} {l : Launch} {e : Env} {s : State} {m : MethodId} {args : Array Value} {below : List Frame} {meth : Method} {c : Code} {D : va_G} {cy : Nat → ClassId} {lo : Nat}  {S : q_S} {xs0 : Int32} {Q : Option Value → q_S → Prop} {H : Heap} {locs : List Loc} {ls : Array Slot} (X : q_X p s m args meth c RX0 cX0_ofWords 8 (some .int) D cy lo)  (Y : q_Y D cy lo s S H locs) (hl : lv_has ls 8 []) (h : wb_X0_ofWords_119 S xs0 Q) : W p l e ({ frames := 4, cells := 0, slots := 0, locals := 97 } : Room) s m args below meth c H locs 0 0 (MQ below (q_Q D cy lo Q) args s 0 0 (fun q => lo ≤ q)) (F0 m 119 ls [.int xs0]) := by
  have hx := X.1
  have hb := X.2.1
  unfold wb_X0_ofWords_119 at h
  exact q_iret X Y rfl (Nat.le_refl _) (Nat.le_refl _) h dX0_ofWords_119
def wb_X0_ofWords_11  (S : q_S) (a0 : Nat) (x1 : Int32) (x2 : Int32) (x3 : Int32) (x4 : Int32) (xs0 : Int32) (Q : Option Value → q_S → Prop) : Prop := q_K S a0 = 1 ∧ (∃ a2_ : Nat, (q_P S 1 a0) = some a2_ ∧ (q_K S a2_ = 6 ∧ (wm_X5_thingAt S a2_ xs0 x2 (fun r5_ S6_ => ∃ r7_ : Option Nat, r5_ = some (va_rf r7_) ∧ (((¬ r7_ = none → ((((x1.toInt < 13 ∨ 16 < x1.toInt) → (q_K S6_ a0 = 1 ∧ (wm_X0_readBoard S6_ a0 r7_ ((xs0 * (8 : Int32)) + x2) x3 (fun r10_ S11_ => ∃ x12_ : Int32, r10_ = some (.int x12_) ∧ (Q (some (.int x12_)) S11_))))) ∧ ((x1 = (13 : Int32)) → (q_K S6_ a0 = 1 ∧ (wm_X0_putIntoBuffer S6_ a0 r7_ ((xs0 * (8 : Int32)) + x2) x3 x4 (fun r14_ S15_ => ∃ x16_ : Int32, r14_ = some (.int x16_) ∧ (Q (some (.int x16_)) S15_))))) ∧ ((x1 = (14 : Int32)) → (q_K S6_ a0 = 1 ∧ (wm_X0_isNoTime S6_ a0 x3 (fun r18_ S19_ => ∃ x20_ : Int32, r18_ = some (.int x20_) ∧ (((x20_ = 0 → (∃ a22_ : Nat, r7_ = some a22_ ∧ (q_K S19_ a22_ = 11 ∧ (q_K S19_ a0 = 1 ∧ (wm_X0_takeFrom S19_ a0 (q_P S19_ 2009 a22_) ((xs0 * (8 : Int32)) + x2) x3 (q_P S19_ 1 a0) ((xs0 * (8 : Int32)) + x2) (q_I S19_ 2004 a22_) (fun r26_ S27_ => ∃ x28_ : Int32, r26_ = some (.int x28_) ∧ (wb_X0_ofWords_119 S27_ x28_ Q))))))) ∧ (¬ x20_ = 0 → (wb_X0_ofWords_119 S19_ (1 : Int32) Q)))))))) ∧ ((x1 = (15 : Int32)) → (∃ a29_ : Nat, r7_ = some a29_ ∧ (q_K S6_ a29_ = 11 ∧ (q_K (qs_I (qs_I S6_ 2001 a29_ (1 : Int32)) 2005 a29_ x3) a0 = 1 ∧ (∃ a33_ : Nat, (q_P (qs_I (qs_I S6_ 2001 a29_ (1 : Int32)) 2005 a29_ x3) 1 a0) = some a33_ ∧ (q_K (qs_I (qs_I S6_ 2001 a29_ (1 : Int32)) 2005 a29_ x3) a33_ = 6 ∧ (wm_X5_showAll (qs_I (qs_I S6_ 2001 a29_ (1 : Int32)) 2005 a29_ x3) a33_ ((xs0 * (8 : Int32)) + x2) x3 (fun r36_ S37_ => r36_ = none ∧ (Q (some (.int (0 : Int32))) S37_))))))))) ∧ ((x1 = (16 : Int32)) → (∃ a38_ : Nat, r7_ = some a38_ ∧ (q_K S6_ a38_ = 11 ∧ (Q (some (.int (0 : Int32))) (qs_I S6_ 2001 a38_ (0 : Int32))))))))) ∧ (r7_ = none → (Q (some (.int (1 : Int32))) S6_))))))))
set_option maxHeartbeats 4000000 in
set_option maxRecDepth 100000 in
theorem cb_X0_ofWords_11 {p : Program} {l : Launch} {e : Env} {s : State} {m : MethodId} {args : Array Value} {below : List Frame} {meth : Method} {c : Code} {D : va_G} {cy : Nat → ClassId} {lo : Nat}  {S : q_S} {a0 : Nat} {x1 : Int32} {x2 : Int32} {x3 : Int32} {x4 : Int32} {xs0 : Int32} {Q : Option Value → q_S → Prop} {H : Heap} {locs : List Loc} {ls : Array Slot} (X : q_X p s m args meth c RX0 cX0_ofWords 8 (some .int) D cy lo)  (Y : q_Y D cy lo s S H locs) (hl : lv_has ls 8 [(0, .ref a0), (1, .int x1), (2, .int x2), (3, .int x3), (4, .int x4)]) (h : wb_X0_ofWords_11 S a0 x1 x2 x3 x4 xs0 Q) : W p l e ({ frames := 4, cells := 0, slots := 0, locals := 97 } : Room) s m args below meth c H locs 0 0 (MQ below (q_Q D cy lo Q) args s 0 0 (fun q => lo ≤ q)) (F0 m 11 ls [.int xs0]) := by
  have hx := X.1
  have hb := X.2.1
  unfold wb_X0_ofWords_11 at h
  refine lv_istore (i := 5) (lv' := [(5, .int xs0), (0, .ref a0), (1, .int x1), (2, .int x2), (3, .int x3), (4, .int x4)]) hx hb dX0_ofWords_11 hl (by decide) (by first | rfl | simp [q_cat, q_catI, q_catJ, q_catR]) (fun ls hl => ?_)
  refine lv_iload hx hb dX0_ofWords_13 (lv_at hl 0 rfl) ?_
  refine lv_bipush (v := 8) hx hb dX0_ofWords_15 (by decide) ?_
  refine lv_imul hx hb dX0_ofWords_17 ?_
  refine lv_iload_n hx hb dX0_ofWords_18 rfl (lv_at hl 3 rfl) ?_
  refine lv_iadd hx hb dX0_ofWords_19 ?_
  refine lv_istore (i := 6) (lv' := [(6, .int ((xs0 * (8 : Int32)) + x2)), (5, .int xs0), (0, .ref a0), (1, .int x1), (2, .int x2), (3, .int x3), (4, .int x4)]) hx hb dX0_ofWords_20 hl (by decide) (by first | rfl | simp [q_cat, q_catI, q_catJ, q_catR]) (fun ls hl => ?_)
  refine lv_aload_n hx hb dX0_ofWords_22 rfl (lv_at hl 2 rfl) ?_
  obtain ⟨k1_, h⟩ := h
  refine q_getP X Y kX0 1 rfl fl_X0_15 k1_ rfl dX0_ofWords_23 ?_
  refine lv_iload hx hb dX0_ofWords_26 (lv_at hl 1 rfl) ?_
  refine lv_iload_n hx hb dX0_ofWords_28 rfl (lv_at hl 4 rfl) ?_
  obtain ⟨a2_, e3_, h⟩ := h
  refine q_nn [.int x2, .int xs0] e3_ ?_
  obtain ⟨k4_, h⟩ := h
  refine q_callV X Y hl (cm_X5_thingAt h) mt_X5_thingAt mi_X5_thingAt ml_X0_144 (ci := 5) rfl k4_ (by decide) rfl rfl (by first | exact Nat.le_of_ble_eq_true rfl | simp [q_cat, q_catI, q_catJ, q_catR]) ⟨Nat.le_of_ble_eq_true rfl, Nat.le_of_ble_eq_true rfl⟩ ⟨Nat.le_of_ble_eq_true rfl, Nat.le_of_ble_eq_true rfl⟩ dX0_ofWords_29 (fun r5_ S6_ H locs hp Y => ?_)
  obtain ⟨r7_, rfl, h⟩ := hp
  refine W.eq (g2 := F0 m 32 ls [va_rf r7_]) rfl ?_
  refine q_astore (i := 7) (lv' := [(7, va_rf r7_), (6, .int ((xs0 * (8 : Int32)) + x2)), (5, .int xs0), (0, .ref a0), (1, .int x1), (2, .int x2), (3, .int x3), (4, .int x4)]) hx hb dX0_ofWords_32 hl (by decide) (by first | rfl | simp [q_cat, q_catI, q_catJ, q_catR]) (fun ls hl => ?_)
  refine q_aload hx hb dX0_ofWords_34 (lv_at hl 0 rfl) ?_
  refine q_ifnonnull (r := r7_) (tgt := 41) hx hb dX0_ofWords_36 (by decide) (fun c8_ => ?_) (fun c8_ => ?_)
  · replace h := h.1 c8_
    refine lv_iload_n hx hb dX0_ofWords_41 rfl (lv_at hl 4 rfl) ?_
    refine q_tsw (tgt := 152) hx hb dX0_ofWords_42 (by decide) (by decide) (fun c41_ => ?_) (fun j42_ hj_ c41_ => ?_)
    · replace h := h.1 c41_
      refine lv_aload_n hx hb dX0_ofWords_152 rfl (lv_at hl 3 rfl) ?_
      refine q_aload hx hb dX0_ofWords_153 (lv_at hl 0 rfl) ?_
      refine lv_iload hx hb dX0_ofWords_155 (lv_at hl 1 rfl) ?_
      refine lv_iload_n hx hb dX0_ofWords_157 rfl (lv_at hl 6 rfl) ?_
      obtain ⟨k9_, h⟩ := h
      refine q_callV X Y hl (cm_X0_readBoard h) mt_X0_readBoard mi_X0_readBoard ml_X0_198 (ci := 0) rfl k9_ (by decide) rfl rfl (by first | exact Nat.le_of_ble_eq_true rfl | simp [q_cat, q_catI, q_catJ, q_catR]) ⟨Nat.le_of_ble_eq_true rfl, Nat.le_of_ble_eq_true rfl⟩ ⟨Nat.le_of_ble_eq_true rfl, Nat.le_of_ble_eq_true rfl⟩ dX0_ofWords_158 (fun r10_ S11_ H locs hp Y => ?_)
      obtain ⟨x12_, rfl, h⟩ := hp
      refine W.eq (g2 := F0 m 161 ls [.int x12_]) rfl ?_
      exact q_iret X Y rfl (Nat.le_refl _) (Nat.le_refl _) h dX0_ofWords_161
    · match j42_, hj_, c41_ with
      | 0, _, c41_ =>
        refine ⟨30, 72, rfl, by decide, ?_⟩
        replace h := h.2.1 (q_eqI c41_ (by decide))
        refine lv_aload_n hx hb dX0_ofWords_72 rfl (lv_at hl 3 rfl) ?_
        refine q_aload hx hb dX0_ofWords_73 (lv_at hl 0 rfl) ?_
        refine lv_iload hx hb dX0_ofWords_75 (lv_at hl 1 rfl) ?_
        refine lv_iload_n hx hb dX0_ofWords_77 rfl (lv_at hl 6 rfl) ?_
        refine lv_iload hx hb dX0_ofWords_78 (lv_at hl 7 rfl) ?_
        obtain ⟨k13_, h⟩ := h
        refine q_callV X Y hl (cm_X0_putIntoBuffer h) mt_X0_putIntoBuffer mi_X0_putIntoBuffer ml_X0_181 (ci := 0) rfl k13_ (by decide) rfl rfl (by first | exact Nat.le_of_ble_eq_true rfl | simp [q_cat, q_catI, q_catJ, q_catR]) ⟨Nat.le_of_ble_eq_true rfl, Nat.le_of_ble_eq_true rfl⟩ ⟨Nat.le_of_ble_eq_true rfl, Nat.le_of_ble_eq_true rfl⟩ dX0_ofWords_80 (fun r14_ S15_ H locs hp Y => ?_)
        obtain ⟨x16_, rfl, h⟩ := hp
        refine W.eq (g2 := F0 m 83 ls [.int x16_]) rfl ?_
        exact q_iret X Y rfl (Nat.le_refl _) (Nat.le_refl _) h dX0_ofWords_83
      | 1, _, c41_ =>
        refine ⟨42, 84, rfl, by decide, ?_⟩
        replace h := h.2.2.1 (q_eqI c41_ (by decide))
        refine lv_aload_n hx hb dX0_ofWords_84 rfl (lv_at hl 3 rfl) ?_
        refine lv_iload_n hx hb dX0_ofWords_85 rfl (lv_at hl 6 rfl) ?_
        obtain ⟨k17_, h⟩ := h
        refine q_callV X Y hl (cm_X0_isNoTime h) mt_X0_isNoTime mi_X0_isNoTime ml_X0_164 (ci := 0) rfl k17_ (by decide) rfl rfl (by first | exact Nat.le_of_ble_eq_true rfl | simp [q_cat, q_catI, q_catJ, q_catR]) ⟨Nat.le_of_ble_eq_true rfl, Nat.le_of_ble_eq_true rfl⟩ ⟨Nat.le_of_ble_eq_true rfl, Nat.le_of_ble_eq_true rfl⟩ dX0_ofWords_86 (fun r18_ S19_ H locs hp Y => ?_)
        obtain ⟨x20_, rfl, h⟩ := hp
        refine W.eq (g2 := F0 m 89 ls [.int x20_]) rfl ?_
        refine lv_if_eq (tgt := 96) hx hb dX0_ofWords_89 (by decide) (fun c21_ => ?_) (fun c21_ => ?_)
        · replace h := h.1 c21_
          refine lv_aload_n hx hb dX0_ofWords_96 rfl (lv_at hl 3 rfl) ?_
          refine q_aload hx hb dX0_ofWords_97 (lv_at hl 0 rfl) ?_
          obtain ⟨a22_, e23_, h⟩ := h
          refine q_nn [] e23_ ?_
          obtain ⟨k24_, h⟩ := h
          refine q_getP X Y kX10 9 rfl fl_X0_185 k24_ rfl dX0_ofWords_99 ?_
          refine lv_iload hx hb dX0_ofWords_102 (lv_at hl 1 rfl) ?_
          refine lv_iload_n hx hb dX0_ofWords_104 rfl (lv_at hl 6 rfl) ?_
          refine lv_aload_n hx hb dX0_ofWords_105 rfl (lv_at hl 3 rfl) ?_
          obtain ⟨k25_, h⟩ := h
          refine q_getP X Y kX0 1 rfl fl_X0_15 k25_ rfl dX0_ofWords_106 ?_
          refine lv_iload hx hb dX0_ofWords_109 (lv_at hl 1 rfl) ?_
          refine q_aload hx hb dX0_ofWords_111 (lv_at hl 0 rfl) ?_
          refine q_nn [] e23_ ?_
          refine q_getI X Y kX10 4 rfl fl_X0_167 k24_ dX0_ofWords_113 ?_
          refine q_callV X Y hl (cm_X0_takeFrom h) mt_X0_takeFrom mi_X0_takeFrom ml_X0_189 (ci := 0) rfl k25_ (by decide) rfl rfl (by first | exact Nat.le_of_ble_eq_true rfl | simp [q_cat, q_catI, q_catJ, q_catR]) ⟨Nat.le_of_ble_eq_true rfl, Nat.le_of_ble_eq_true rfl⟩ ⟨Nat.le_of_ble_eq_true rfl, Nat.le_of_ble_eq_true rfl⟩ dX0_ofWords_116 (fun r26_ S27_ H locs hp Y => ?_)
          obtain ⟨x28_, rfl, h⟩ := hp
          refine W.eq (g2 := F0 m 119 ls [.int x28_]) rfl ?_
          exact cb_X0_ofWords_119 X Y (lv_sub hl [] rfl) h
        · replace h := h.2 c21_
          refine lv_iconst (v := 1) hx hb dX0_ofWords_92 (by decide) ?_
          refine lv_goto (tgt := 119) hx hb dX0_ofWords_93 (by decide) ?_
          exact cb_X0_ofWords_119 X Y (lv_sub hl [] rfl) h
      | 2, _, c41_ =>
        refine ⟨78, 120, rfl, by decide, ?_⟩
        replace h := h.2.2.2.1 (q_eqI c41_ (by decide))
        refine q_aload hx hb dX0_ofWords_120 (lv_at hl 0 rfl) ?_
        refine lv_iconst (v := 1) hx hb dX0_ofWords_122 (by decide) ?_
        obtain ⟨a29_, e30_, h⟩ := h
        refine q_nn [.int (1 : Int32)] e30_ ?_
        obtain ⟨k31_, h⟩ := h
        refine q_putI X Y kX10 1 rfl fl_X0_156 k31_ .int rfl ⟨rfl, rfl⟩ rfl dX0_ofWords_123 (fun H locs Y => ?_)
        refine q_aload hx hb dX0_ofWords_126 (lv_at hl 0 rfl) ?_
        refine lv_iload_n hx hb dX0_ofWords_128 rfl (lv_at hl 6 rfl) ?_
        refine q_nn [.int x3] e30_ ?_
        refine q_putI X Y kX10 5 rfl fl_X0_193 k31_ .int rfl ⟨rfl, rfl⟩ rfl dX0_ofWords_129 (fun H locs Y => ?_)
        refine lv_aload_n hx hb dX0_ofWords_132 rfl (lv_at hl 3 rfl) ?_
        obtain ⟨k32_, h⟩ := h
        refine q_getP X Y kX0 1 rfl fl_X0_15 k32_ rfl dX0_ofWords_133 ?_
        refine lv_iload hx hb dX0_ofWords_136 (lv_at hl 1 rfl) ?_
        refine lv_iload_n hx hb dX0_ofWords_138 rfl (lv_at hl 6 rfl) ?_
        obtain ⟨a33_, e34_, h⟩ := h
        refine q_nn [.int x3, .int ((xs0 * (8 : Int32)) + x2)] e34_ ?_
        obtain ⟨k35_, h⟩ := h
        refine q_callV X Y hl (cm_X5_showAll h) mt_X5_showAll mi_X5_showAll ml_X0_194 (ci := 5) rfl k35_ (by decide) rfl rfl (by first | exact Nat.le_of_ble_eq_true rfl | simp [q_cat, q_catI, q_catJ, q_catR]) ⟨Nat.le_of_ble_eq_true rfl, Nat.le_of_ble_eq_true rfl⟩ ⟨Nat.le_of_ble_eq_true rfl, Nat.le_of_ble_eq_true rfl⟩ dX0_ofWords_139 (fun r36_ S37_ H locs hp Y => ?_)
        obtain ⟨rfl, h⟩ := hp
        refine W.eq (g2 := F0 m 142 ls []) rfl ?_
        refine lv_iconst (v := 0) hx hb dX0_ofWords_142 (by decide) ?_
        exact q_iret X Y rfl (Nat.le_refl _) (Nat.le_refl _) h dX0_ofWords_143
      | 3, _, c41_ =>
        refine ⟨102, 144, rfl, by decide, ?_⟩
        replace h := h.2.2.2.2 (q_eqI c41_ (by decide))
        refine q_aload hx hb dX0_ofWords_144 (lv_at hl 0 rfl) ?_
        refine lv_iconst (v := 0) hx hb dX0_ofWords_146 (by decide) ?_
        obtain ⟨a38_, e39_, h⟩ := h
        refine q_nn [.int (0 : Int32)] e39_ ?_
        obtain ⟨k40_, h⟩ := h
        refine q_putI X Y kX10 1 rfl fl_X0_156 k40_ .int rfl ⟨rfl, rfl⟩ rfl dX0_ofWords_147 (fun H locs Y => ?_)
        refine lv_iconst (v := 0) hx hb dX0_ofWords_150 (by decide) ?_
        exact q_iret X Y rfl (Nat.le_refl _) (Nat.le_refl _) h dX0_ofWords_151
      | z_ + 4, hj_, _ => exact absurd hj_ (by simp)
  · replace h := h.2 c8_
    refine lv_iconst (v := 1) hx hb dX0_ofWords_39 (by decide) ?_
    exact q_iret X Y rfl (Nat.le_refl _) (Nat.le_refl _) h dX0_ofWords_40
def wm_X0_ofWords (S : q_S) (a0 : Nat) (x1 : Int32) (x2 : Int32) (x3 : Int32) (x4 : Int32) (Q : Option Value → q_S → Prop) : Prop := (((14 : Int32) < x1 → (wb_X0_ofWords_11 S a0 x1 x2 x3 x4 (3 : Int32) Q)) ∧ (¬ (14 : Int32) < x1 → (wb_X0_ofWords_11 S a0 x1 x2 x3 x4 (2 : Int32) Q)))
set_option maxHeartbeats 4000000 in
set_option maxRecDepth 100000 in
theorem cm_X0_ofWords {l : Launch} {D : va_G} {cy : Nat → ClassId} {lo : Nat} {S : q_S} {a0 : Nat} {x1 : Int32} {x2 : Int32} {x3 : Int32} {x4 : Int32} {Q : Option Value → q_S → Prop} (h : wm_X0_ofWords S a0 x1 x2 x3 x4 Q) : q_Met l D cy lo yX0_ofWords cX0_ofWords 8 (some .int) 4 97 0 0 [.ref a0, .int x1, .int x2, .int x3, .int x4] S Q := by
  refine q_body (by decide) (by first | exact Nat.le_of_ble_eq_true rfl | simp [lg_sl, q_cat, q_catI, q_catJ, q_catR]) ?_
  intro p e s m below meth c ls X hnm Y hl
  have hx := X.1
  have hb := X.2.1
  have hl : lv_has ls 8 [(0, .ref a0), (1, .int x1), (2, .int x2), (3, .int x3), (4, .int x4)] := by first | exact hl | simpa [lv_args, q_cat, q_catI, q_catJ, q_catR] using hl
  generalize hargs : ([.ref a0, .int x1, .int x2, .int x3, .int x4] : List Value).toArray = args at X ⊢
  unfold wm_X0_ofWords at h
  refine lv_iload_n hx hb dX0_ofWords_0 rfl (lv_at hl 1 rfl) ?_
  refine lv_bipush (v := 14) hx hb dX0_ofWords_1 (by decide) ?_
  refine lv_icmp_gt (tgt := 10) hx hb dX0_ofWords_3 (by decide) (fun c43_ => ?_) (fun c43_ => ?_)
  · replace h := h.1 c43_
    refine lv_iconst (v := 3) hx hb dX0_ofWords_10 (by decide) ?_
    exact cb_X0_ofWords_11 X Y (lv_sub hl [0, 1, 2, 3, 4] rfl) h
  · replace h := h.2 c43_
    refine lv_iconst (v := 2) hx hb dX0_ofWords_6 (by decide) ?_
    refine lv_goto (tgt := 11) hx hb dX0_ofWords_7 (by decide) ?_
    exact cb_X0_ofWords_11 X Y (lv_sub hl [0, 1, 2, 3, 4] rfl) h
-- X6_channelAt
theorem fl_X6_60 : Cond.fieldLink RX6 60 "PartitionWorks$Plan" "channelCount" "I" ∈ q_G := q_tb (i := 82) (by decide +kernel) (by decide +kernel)
theorem fl_X6_19 : Cond.fieldLink RX6 19 "PartitionWorks$Plan" "channels" "[LPartitionWorks$Channel;" ∈ q_G := q_tb (i := 81) (by decide +kernel) (by decide +kernel)
theorem dX6_channelAt_0 : decode cX6_channelAt 0 = .ok (.iload_n 1, 1) := by decide +kernel
theorem dX6_channelAt_1 : decode cX6_channelAt 1 = .ok (.ifCond .lt 11, 3) := by decide +kernel
theorem dX6_channelAt_4 : decode cX6_channelAt 4 = .ok (.iload_n 1, 1) := by decide +kernel
theorem dX6_channelAt_5 : decode cX6_channelAt 5 = .ok (.aload_n 0, 1) := by decide +kernel
theorem dX6_channelAt_6 : decode cX6_channelAt 6 = .ok (.getfield 60, 3) := by decide +kernel
theorem dX6_channelAt_9 : decode cX6_channelAt 9 = .ok (.if_icmp .lt 7, 3) := by decide +kernel
theorem dX6_channelAt_12 : decode cX6_channelAt 12 = .ok (.aconst_null, 1) := by decide +kernel
theorem dX6_channelAt_13 : decode cX6_channelAt 13 = .ok (.goto 9, 3) := by decide +kernel
theorem dX6_channelAt_16 : decode cX6_channelAt 16 = .ok (.aload_n 0, 1) := by decide +kernel
theorem dX6_channelAt_17 : decode cX6_channelAt 17 = .ok (.getfield 19, 3) := by decide +kernel
theorem dX6_channelAt_20 : decode cX6_channelAt 20 = .ok (.iload_n 1, 1) := by decide +kernel
theorem dX6_channelAt_21 : decode cX6_channelAt 21 = .ok (.aaload, 1) := by decide +kernel
theorem dX6_channelAt_22 : decode cX6_channelAt 22 = .ok (.areturn, 1) := by decide +kernel
def wb_X6_channelAt_22  (S : q_S) (rs0 : Option Nat) (Q : Option Value → q_S → Prop) : Prop := Q (some (va_rf rs0)) S
set_option maxHeartbeats 4000000 in
set_option maxRecDepth 100000 in
theorem cb_X6_channelAt_22 {p : Program} {l : Launch} {e : Env} {s : State} {m : MethodId} {args : Array Value} {below : List Frame} {meth : Method} {c : Code} {D : va_G} {cy : Nat → ClassId} {lo : Nat}  {S : q_S} {rs0 : Option Nat} {Q : Option Value → q_S → Prop} {H : Heap} {locs : List Loc} {ls : Array Slot} (X : q_X p s m args meth c RX6 cX6_channelAt 2 (some (.object "PartitionWorks$Channel")) D cy lo)  (Y : q_Y D cy lo s S H locs) (hl : lv_has ls 2 []) (h : wb_X6_channelAt_22 S rs0 Q) : W p l e ({ frames := 0, cells := 0, slots := 0, locals := 0 } : Room) s m args below meth c H locs 0 0 (MQ below (q_Q D cy lo Q) args s 0 0 (fun q => lo ≤ q)) (F0 m 22 ls [va_rf rs0]) := by
  have hx := X.1
  have hb := X.2.1
  unfold wb_X6_channelAt_22 at h
  exact q_aret X Y (Or.inl ⟨_, rfl⟩) (va_rf_or _) (Nat.le_refl _) (Nat.le_refl _) h dX6_channelAt_22
def wb_X6_channelAt_12  (S : q_S) (Q : Option Value → q_S → Prop) : Prop := wb_X6_channelAt_22 S none Q
set_option maxHeartbeats 4000000 in
set_option maxRecDepth 100000 in
theorem cb_X6_channelAt_12 {p : Program} {l : Launch} {e : Env} {s : State} {m : MethodId} {args : Array Value} {below : List Frame} {meth : Method} {c : Code} {D : va_G} {cy : Nat → ClassId} {lo : Nat}  {S : q_S} {Q : Option Value → q_S → Prop} {H : Heap} {locs : List Loc} {ls : Array Slot} (X : q_X p s m args meth c RX6 cX6_channelAt 2 (some (.object "PartitionWorks$Channel")) D cy lo)  (Y : q_Y D cy lo s S H locs) (hl : lv_has ls 2 []) (h : wb_X6_channelAt_12 S Q) : W p l e ({ frames := 0, cells := 0, slots := 0, locals := 0 } : Room) s m args below meth c H locs 0 0 (MQ below (q_Q D cy lo Q) args s 0 0 (fun q => lo ≤ q)) (F0 m 12 ls []) := by
  have hx := X.1
  have hb := X.2.1
  unfold wb_X6_channelAt_12 at h
  refine lv_null hx hb dX6_channelAt_12 ?_
  refine W.eq (g2 := F0 m 13 ls [va_rf none]) rfl ?_
  refine lv_goto (tgt := 22) hx hb dX6_channelAt_13 (by decide) ?_
  exact cb_X6_channelAt_22 X Y (lv_sub hl [] rfl) h
def wm_X6_channelAt (S : q_S) (a0 : Nat) (x1 : Int32) (Q : Option Value → q_S → Prop) : Prop := ((x1 < 0 → (wb_X6_channelAt_12 S Q)) ∧ (¬ x1 < 0 → (q_K S a0 = 7 ∧ (((x1 < (q_I S 1203 a0) → (∃ a4_ : Nat, (q_P S 1202 a0) = some a4_ ∧ (q_K S a4_ = 24 ∧ (vp_in x1 (q_N S a4_) ∧ (wb_X6_channelAt_22 S (q_C S a4_ x1.toNatClampNeg) Q))))) ∧ (¬ x1 < (q_I S 1203 a0) → (wb_X6_channelAt_12 S Q)))))))
set_option maxHeartbeats 4000000 in
set_option maxRecDepth 100000 in
theorem cm_X6_channelAt {l : Launch} {D : va_G} {cy : Nat → ClassId} {lo : Nat} {S : q_S} {a0 : Nat} {x1 : Int32} {Q : Option Value → q_S → Prop} (h : wm_X6_channelAt S a0 x1 Q) : q_Met l D cy lo yX6_channelAt cX6_channelAt 2 (some (.object "PartitionWorks$Channel")) 0 0 0 0 [.ref a0, .int x1] S Q := by
  refine q_body (by decide) (by first | exact Nat.le_of_ble_eq_true rfl | simp [lg_sl, q_cat, q_catI, q_catJ, q_catR]) ?_
  intro p e s m below meth c ls X hnm Y hl
  have hx := X.1
  have hb := X.2.1
  have hl : lv_has ls 2 [(0, .ref a0), (1, .int x1)] := by first | exact hl | simpa [lv_args, q_cat, q_catI, q_catJ, q_catR] using hl
  generalize hargs : ([.ref a0, .int x1] : List Value).toArray = args at X ⊢
  unfold wm_X6_channelAt at h
  refine lv_iload_n hx hb dX6_channelAt_0 rfl (lv_at hl 1 rfl) ?_
  refine lv_if_lt (tgt := 12) hx hb dX6_channelAt_1 (by decide) (fun c1_ => ?_) (fun c1_ => ?_)
  · replace h := h.1 c1_
    exact cb_X6_channelAt_12 X Y (lv_sub hl [] rfl) h
  · replace h := h.2 c1_
    refine lv_iload_n hx hb dX6_channelAt_4 rfl (lv_at hl 1 rfl) ?_
    refine lv_aload_n hx hb dX6_channelAt_5 rfl (lv_at hl 0 rfl) ?_
    obtain ⟨k2_, h⟩ := h
    refine q_getI X Y kX6 3 rfl fl_X6_60 k2_ dX6_channelAt_6 ?_
    refine lv_icmp_lt (tgt := 16) hx hb dX6_channelAt_9 (by decide) (fun c3_ => ?_) (fun c3_ => ?_)
    · replace h := h.1 c3_
      refine lv_aload_n hx hb dX6_channelAt_16 rfl (lv_at hl 0 rfl) ?_
      refine q_getP X Y kX6 2 rfl fl_X6_19 k2_ rfl dX6_channelAt_17 ?_
      refine lv_iload_n hx hb dX6_channelAt_20 rfl (lv_at hl 1 rfl) ?_
      obtain ⟨a4_, e5_, h⟩ := h
      refine q_nn [.int x1] e5_ ?_
      obtain ⟨k6_, h⟩ := h
      obtain ⟨i7_, h⟩ := h
      refine q_cld X Y k6_ (by decide) (t := 4) rfl i7_ rfl dX6_channelAt_21 ?_
      exact cb_X6_channelAt_22 X Y (lv_sub hl [] rfl) h
    · replace h := h.2 c3_
      exact cb_X6_channelAt_12 X Y (lv_sub hl [] rfl) h
-- X2_show
theorem fl_X2_18 : Cond.fieldLink RX2 18 "PartitionWorks$Journal" "traceCount" "I" ∈ q_G := q_tb (i := 61) (by decide +kernel) (by decide +kernel)
theorem fl_X2_11 : Cond.fieldLink RX2 11 "PartitionWorks$Journal" "traced" "[I" ∈ q_G := q_tb (i := 59) (by decide +kernel) (by decide +kernel)
theorem dX2_show_0 : decode cX2_show 0 = .ok (.aload_n 0, 1) := by decide +kernel
theorem dX2_show_1 : decode cX2_show 1 = .ok (.getfield 18, 3) := by decide +kernel
theorem dX2_show_4 : decode cX2_show 4 = .ok (.sipush 300, 3) := by decide +kernel
theorem dX2_show_7 : decode cX2_show 7 = .ok (.if_icmp .ge 39, 3) := by decide +kernel
theorem dX2_show_10 : decode cX2_show 10 = .ok (.aload_n 0, 1) := by decide +kernel
theorem dX2_show_11 : decode cX2_show 11 = .ok (.getfield 18, 3) := by decide +kernel
theorem dX2_show_14 : decode cX2_show 14 = .ok (.iconst 3, 1) := by decide +kernel
theorem dX2_show_15 : decode cX2_show 15 = .ok (.imul, 1) := by decide +kernel
theorem dX2_show_16 : decode cX2_show 16 = .ok (.istore 4, 2) := by decide +kernel
theorem dX2_show_18 : decode cX2_show 18 = .ok (.aload_n 0, 1) := by decide +kernel
theorem dX2_show_19 : decode cX2_show 19 = .ok (.getfield 11, 3) := by decide +kernel
theorem dX2_show_22 : decode cX2_show 22 = .ok (.iload 4, 2) := by decide +kernel
theorem dX2_show_24 : decode cX2_show 24 = .ok (.iload_n 1, 1) := by decide +kernel
theorem dX2_show_25 : decode cX2_show 25 = .ok (.iastore, 1) := by decide +kernel
theorem dX2_show_26 : decode cX2_show 26 = .ok (.aload_n 0, 1) := by decide +kernel
theorem dX2_show_27 : decode cX2_show 27 = .ok (.getfield 11, 3) := by decide +kernel
theorem dX2_show_30 : decode cX2_show 30 = .ok (.iload 4, 2) := by decide +kernel
theorem dX2_show_32 : decode cX2_show 32 = .ok (.iconst 1, 1) := by decide +kernel
theorem dX2_show_33 : decode cX2_show 33 = .ok (.iadd, 1) := by decide +kernel
theorem dX2_show_34 : decode cX2_show 34 = .ok (.iload_n 2, 1) := by decide +kernel
theorem dX2_show_35 : decode cX2_show 35 = .ok (.iastore, 1) := by decide +kernel
theorem dX2_show_36 : decode cX2_show 36 = .ok (.aload_n 0, 1) := by decide +kernel
theorem dX2_show_37 : decode cX2_show 37 = .ok (.getfield 11, 3) := by decide +kernel
theorem dX2_show_40 : decode cX2_show 40 = .ok (.iload 4, 2) := by decide +kernel
theorem dX2_show_42 : decode cX2_show 42 = .ok (.iconst 2, 1) := by decide +kernel
theorem dX2_show_43 : decode cX2_show 43 = .ok (.iadd, 1) := by decide +kernel
theorem dX2_show_44 : decode cX2_show 44 = .ok (.iload_n 3, 1) := by decide +kernel
theorem dX2_show_45 : decode cX2_show 45 = .ok (.iastore, 1) := by decide +kernel
theorem dX2_show_46 : decode cX2_show 46 = .ok (.aload_n 0, 1) := by decide +kernel
theorem dX2_show_47 : decode cX2_show 47 = .ok (.dup, 1) := by decide +kernel
theorem dX2_show_48 : decode cX2_show 48 = .ok (.getfield 18, 3) := by decide +kernel
theorem dX2_show_51 : decode cX2_show 51 = .ok (.iconst 1, 1) := by decide +kernel
theorem dX2_show_52 : decode cX2_show 52 = .ok (.iadd, 1) := by decide +kernel
theorem dX2_show_53 : decode cX2_show 53 = .ok (.putfield 18, 3) := by decide +kernel
theorem dX2_show_56 : decode cX2_show 56 = .ok (.return_, 1) := by decide +kernel
def wb_X2_show_46  (S : q_S) (a0 : Nat) (Q : Option Value → q_S → Prop) : Prop := q_K S a0 = 3 ∧ (Q none (qs_I S 402 a0 ((q_I S 402 a0) + (1 : Int32))))
set_option maxHeartbeats 4000000 in
set_option maxRecDepth 100000 in
theorem cb_X2_show_46 {p : Program} {l : Launch} {e : Env} {s : State} {m : MethodId} {args : Array Value} {below : List Frame} {meth : Method} {c : Code} {D : va_G} {cy : Nat → ClassId} {lo : Nat}  {S : q_S} {a0 : Nat} {Q : Option Value → q_S → Prop} {H : Heap} {locs : List Loc} {ls : Array Slot} (X : q_X p s m args meth c RX2 cX2_show 5 none D cy lo)  (Y : q_Y D cy lo s S H locs) (hl : lv_has ls 5 [(0, .ref a0)]) (h : wb_X2_show_46 S a0 Q) : W p l e ({ frames := 0, cells := 0, slots := 0, locals := 0 } : Room) s m args below meth c H locs 0 0 (MQ below (q_Q D cy lo Q) args s 0 0 (fun q => lo ≤ q)) (F0 m 46 ls []) := by
  have hx := X.1
  have hb := X.2.1
  unfold wb_X2_show_46 at h
  refine lv_aload_n hx hb dX2_show_46 rfl (lv_at hl 0 rfl) ?_
  refine lv_dup hx hb dX2_show_47 rfl ?_
  obtain ⟨k1_, h⟩ := h
  refine q_getI X Y kX2 2 rfl fl_X2_18 k1_ dX2_show_48 ?_
  refine lv_iconst (v := 1) hx hb dX2_show_51 (by decide) ?_
  refine lv_iadd hx hb dX2_show_52 ?_
  refine q_putI X Y kX2 2 rfl fl_X2_18 k1_ .int rfl ⟨rfl, rfl⟩ rfl dX2_show_53 (fun H locs Y => ?_)
  exact q_vret X Y (Nat.le_refl _) (Nat.le_refl _) h dX2_show_56
def wm_X2_show (S : q_S) (a0 : Nat) (x1 : Int32) (x2 : Int32) (x3 : Int32) (Q : Option Value → q_S → Prop) : Prop := q_K S a0 = 3 ∧ ((((300 : Int32) ≤ (q_I S 402 a0) → (wb_X2_show_46 S a0 Q)) ∧ (¬ (300 : Int32) ≤ (q_I S 402 a0) → (∃ a4_ : Nat, (q_P S 400 a0) = some a4_ ∧ (q_K S a4_ = 21 ∧ (vp_in ((q_I S 402 a0) * (3 : Int32)) (q_N S a4_) ∧ (∃ a8_ : Nat, (q_P (qs_A S a4_ ((q_I S 402 a0) * (3 : Int32)).toNatClampNeg x1) 400 a0) = some a8_ ∧ (q_K (qs_A S a4_ ((q_I S 402 a0) * (3 : Int32)).toNatClampNeg x1) a8_ = 21 ∧ (vp_in (((q_I S 402 a0) * (3 : Int32)) + (1 : Int32)) (q_N (qs_A S a4_ ((q_I S 402 a0) * (3 : Int32)).toNatClampNeg x1) a8_) ∧ (∃ a12_ : Nat, (q_P (qs_A (qs_A S a4_ ((q_I S 402 a0) * (3 : Int32)).toNatClampNeg x1) a8_ (((q_I S 402 a0) * (3 : Int32)) + (1 : Int32)).toNatClampNeg x2) 400 a0) = some a12_ ∧ (q_K (qs_A (qs_A S a4_ ((q_I S 402 a0) * (3 : Int32)).toNatClampNeg x1) a8_ (((q_I S 402 a0) * (3 : Int32)) + (1 : Int32)).toNatClampNeg x2) a12_ = 21 ∧ (vp_in (((q_I S 402 a0) * (3 : Int32)) + (2 : Int32)) (q_N (qs_A (qs_A S a4_ ((q_I S 402 a0) * (3 : Int32)).toNatClampNeg x1) a8_ (((q_I S 402 a0) * (3 : Int32)) + (1 : Int32)).toNatClampNeg x2) a12_) ∧ (∀ S16_ : q_S, S16_ = (qs_A (qs_A (qs_A S a4_ ((q_I S 402 a0) * (3 : Int32)).toNatClampNeg x1) a8_ (((q_I S 402 a0) * (3 : Int32)) + (1 : Int32)).toNatClampNeg x2) a12_ (((q_I S 402 a0) * (3 : Int32)) + (2 : Int32)).toNatClampNeg x3) → (wb_X2_show_46 S16_ a0 Q))))))))))))))
set_option maxHeartbeats 4000000 in
set_option maxRecDepth 100000 in
theorem cm_X2_show {l : Launch} {D : va_G} {cy : Nat → ClassId} {lo : Nat} {S : q_S} {a0 : Nat} {x1 : Int32} {x2 : Int32} {x3 : Int32} {Q : Option Value → q_S → Prop} (h : wm_X2_show S a0 x1 x2 x3 Q) : q_Met l D cy lo yX2_show cX2_show 5 none 0 0 0 0 [.ref a0, .int x1, .int x2, .int x3] S Q := by
  refine q_body (by decide) (by first | exact Nat.le_of_ble_eq_true rfl | simp [lg_sl, q_cat, q_catI, q_catJ, q_catR]) ?_
  intro p e s m below meth c ls X hnm Y hl
  have hx := X.1
  have hb := X.2.1
  have hl : lv_has ls 5 [(0, .ref a0), (1, .int x1), (2, .int x2), (3, .int x3)] := by first | exact hl | simpa [lv_args, q_cat, q_catI, q_catJ, q_catR] using hl
  generalize hargs : ([.ref a0, .int x1, .int x2, .int x3] : List Value).toArray = args at X ⊢
  unfold wm_X2_show at h
  refine lv_aload_n hx hb dX2_show_0 rfl (lv_at hl 0 rfl) ?_
  obtain ⟨k2_, h⟩ := h
  refine q_getI X Y kX2 2 rfl fl_X2_18 k2_ dX2_show_1 ?_
  refine lv_sipush (v := 300) hx hb dX2_show_4 (by decide) ?_
  refine lv_icmp_ge (tgt := 46) hx hb dX2_show_7 (by decide) (fun c3_ => ?_) (fun c3_ => ?_)
  · replace h := h.1 c3_
    exact cb_X2_show_46 X Y (lv_sub hl [0] rfl) h
  · replace h := h.2 c3_
    refine lv_aload_n hx hb dX2_show_10 rfl (lv_at hl 0 rfl) ?_
    refine q_getI X Y kX2 2 rfl fl_X2_18 k2_ dX2_show_11 ?_
    refine lv_iconst (v := 3) hx hb dX2_show_14 (by decide) ?_
    refine lv_imul hx hb dX2_show_15 ?_
    refine lv_istore (i := 4) (lv' := [(4, .int ((q_I S 402 a0) * (3 : Int32))), (0, .ref a0), (1, .int x1), (2, .int x2), (3, .int x3)]) hx hb dX2_show_16 hl (by decide) (by first | rfl | simp [q_cat, q_catI, q_catJ, q_catR]) (fun ls hl => ?_)
    refine lv_aload_n hx hb dX2_show_18 rfl (lv_at hl 1 rfl) ?_
    refine q_getP X Y kX2 0 rfl fl_X2_11 k2_ rfl dX2_show_19 ?_
    refine lv_iload hx hb dX2_show_22 (lv_at hl 0 rfl) ?_
    refine lv_iload_n hx hb dX2_show_24 rfl (lv_at hl 2 rfl) ?_
    obtain ⟨a4_, e5_, h⟩ := h
    refine q_nn [.int x1, .int ((q_I S 402 a0) * (3 : Int32))] e5_ ?_
    obtain ⟨k6_, h⟩ := h
    obtain ⟨i7_, h⟩ := h
    refine q_ist X Y k6_ i7_ dX2_show_25 (fun H locs Y => ?_)
    refine lv_aload_n hx hb dX2_show_26 rfl (lv_at hl 1 rfl) ?_
    refine q_getP X Y kX2 0 rfl fl_X2_11 k2_ rfl dX2_show_27 ?_
    refine lv_iload hx hb dX2_show_30 (lv_at hl 0 rfl) ?_
    refine lv_iconst (v := 1) hx hb dX2_show_32 (by decide) ?_
    refine lv_iadd hx hb dX2_show_33 ?_
    refine lv_iload_n hx hb dX2_show_34 rfl (lv_at hl 3 rfl) ?_
    obtain ⟨a8_, e9_, h⟩ := h
    refine q_nn [.int x2, .int (((q_I S 402 a0) * (3 : Int32)) + (1 : Int32))] e9_ ?_
    obtain ⟨k10_, h⟩ := h
    obtain ⟨i11_, h⟩ := h
    refine q_ist X Y k10_ i11_ dX2_show_35 (fun H locs Y => ?_)
    refine lv_aload_n hx hb dX2_show_36 rfl (lv_at hl 1 rfl) ?_
    refine q_getP X Y kX2 0 rfl fl_X2_11 k2_ rfl dX2_show_37 ?_
    refine lv_iload hx hb dX2_show_40 (lv_at hl 0 rfl) ?_
    refine lv_iconst (v := 2) hx hb dX2_show_42 (by decide) ?_
    refine lv_iadd hx hb dX2_show_43 ?_
    refine lv_iload_n hx hb dX2_show_44 rfl (lv_at hl 4 rfl) ?_
    obtain ⟨a12_, e13_, h⟩ := h
    refine q_nn [.int x3, .int (((q_I S 402 a0) * (3 : Int32)) + (2 : Int32))] e13_ ?_
    obtain ⟨k14_, h⟩ := h
    obtain ⟨i15_, h⟩ := h
    refine q_ist X Y k14_ i15_ dX2_show_45 (fun H locs Y => ?_)
    obtain ⟨S16_, gS16_⟩ : ∃ z : q_S, z = (qs_A (qs_A (qs_A S a4_ ((q_I S 402 a0) * (3 : Int32)).toNatClampNeg x1) a8_ (((q_I S 402 a0) * (3 : Int32)) + (1 : Int32)).toNatClampNeg x2) a12_ (((q_I S 402 a0) * (3 : Int32)) + (2 : Int32)).toNatClampNeg x3) := ⟨_, rfl⟩
    replace Y : q_Y D cy lo s S16_ H locs := by rw [gS16_]; exact Y
    replace h := h S16_ gS16_
    replace k2_ : q_K S16_ a0 = 3 := by rw [gS16_]; exact k2_
    replace k6_ : q_K S16_ a4_ = 21 := by rw [gS16_]; exact k6_
    replace k10_ : q_K S16_ a8_ = 21 := by rw [gS16_]; exact k10_
    replace k14_ : q_K S16_ a12_ = 21 := by rw [gS16_]; exact k14_
    exact cb_X2_show_46 X Y (lv_sub hl [1] rfl) h
-- X8_empty
theorem dX8_empty_0 : decode cX8_empty 0 = .ok (.aload_n 0, 1) := by decide +kernel
theorem dX8_empty_1 : decode cX8_empty 1 = .ok (.iconst 0, 1) := by decide +kernel
theorem dX8_empty_2 : decode cX8_empty 2 = .ok (.putfield 26, 3) := by decide +kernel
theorem dX8_empty_5 : decode cX8_empty 5 = .ok (.aload_n 0, 1) := by decide +kernel
theorem dX8_empty_6 : decode cX8_empty 6 = .ok (.iconst 0, 1) := by decide +kernel
theorem dX8_empty_7 : decode cX8_empty 7 = .ok (.putfield 29, 3) := by decide +kernel
theorem dX8_empty_10 : decode cX8_empty 10 = .ok (.return_, 1) := by decide +kernel
def wm_X8_empty (S : q_S) (a0 : Nat) (Q : Option Value → q_S → Prop) : Prop := q_K S a0 = 9 ∧ (Q none (qs_I (qs_I S 1602 a0 (0 : Int32)) 1603 a0 (0 : Int32)))
set_option maxHeartbeats 4000000 in
set_option maxRecDepth 100000 in
theorem cm_X8_empty {l : Launch} {D : va_G} {cy : Nat → ClassId} {lo : Nat} {S : q_S} {a0 : Nat} {Q : Option Value → q_S → Prop} (h : wm_X8_empty S a0 Q) : q_Met l D cy lo yX8_empty cX8_empty 1 none 0 0 0 0 [.ref a0] S Q := by
  refine q_body (by decide) (by first | exact Nat.le_of_ble_eq_true rfl | simp [lg_sl, q_cat, q_catI, q_catJ, q_catR]) ?_
  intro p e s m below meth c ls X hnm Y hl
  have hx := X.1
  have hb := X.2.1
  have hl : lv_has ls 1 [(0, .ref a0)] := by first | exact hl | simpa [lv_args, q_cat, q_catI, q_catJ, q_catR] using hl
  generalize hargs : ([.ref a0] : List Value).toArray = args at X ⊢
  unfold wm_X8_empty at h
  refine lv_aload_n hx hb dX8_empty_0 rfl (lv_at hl 0 rfl) ?_
  refine lv_iconst (v := 0) hx hb dX8_empty_1 (by decide) ?_
  obtain ⟨k1_, h⟩ := h
  refine q_putI X Y kX8 2 rfl fl_X8_26 k1_ .int rfl ⟨rfl, rfl⟩ rfl dX8_empty_2 (fun H locs Y => ?_)
  refine lv_aload_n hx hb dX8_empty_5 rfl (lv_at hl 0 rfl) ?_
  refine lv_iconst (v := 0) hx hb dX8_empty_6 (by decide) ?_
  refine q_putI X Y kX8 3 rfl fl_X8_29 k1_ .int rfl ⟨rfl, rfl⟩ rfl dX8_empty_7 (fun H locs Y => ?_)
  exact q_vret X Y (Nat.le_refl _) (Nat.le_refl _) h dX8_empty_10
-- X1_sample
theorem fl_X1_12 : Cond.fieldLink RX1 12 "PartitionWorks$Channel" "queue" "LPartitionWorks$Queue;" ∈ q_G := q_tb (i := 1120) (by decide +kernel) (by decide +kernel)
theorem ml_X1_65 : Cond.methodLink RX1 65 yX8_empty ∈ q_G := q_tb (i := 1374) (by decide +kernel) (by decide +kernel)
theorem mt_X8_empty : q_Mt yX8_empty cX8_empty 1 none 0 := ⟨q_tb (i := 1066) (by decide +kernel) (by decide +kernel), q_tb (i := 24) (by decide +kernel) (by decide +kernel), by decide +kernel, by decide +kernel, by decide +kernel⟩
theorem mi_X8_empty : Cond.instanceMethod yX8_empty ∈ q_G ∧ Cond.selects yX8_empty.cls yX8_empty yX8_empty ∈ q_G := ⟨q_tb (i := 1064) (by decide +kernel) (by decide +kernel), q_tb (i := 1065) (by decide +kernel) (by decide +kernel)⟩
theorem ml_X1_68 : Cond.methodLink RX1 68 yX8_add ∈ q_G := q_tb (i := 1375) (by decide +kernel) (by decide +kernel)
theorem fl_X1_33 : Cond.fieldLink RX1 33 "PartitionWorks$Channel" "stamp" "I" ∈ q_G := q_tb (i := 1124) (by decide +kernel) (by decide +kernel)
theorem dX1_sample_0 : decode cX1_sample 0 = .ok (.aload_n 0, 1) := by decide +kernel
theorem dX1_sample_1 : decode cX1_sample 1 = .ok (.getfield 12, 3) := by decide +kernel
theorem dX1_sample_4 : decode cX1_sample 4 = .ok (.invokevirtual 65, 3) := by decide +kernel
theorem dX1_sample_7 : decode cX1_sample 7 = .ok (.aload_n 0, 1) := by decide +kernel
theorem dX1_sample_8 : decode cX1_sample 8 = .ok (.getfield 12, 3) := by decide +kernel
theorem dX1_sample_11 : decode cX1_sample 11 = .ok (.iload_n 1, 1) := by decide +kernel
theorem dX1_sample_12 : decode cX1_sample 12 = .ok (.invokevirtual 68, 3) := by decide +kernel
theorem dX1_sample_15 : decode cX1_sample 15 = .ok (.pop, 1) := by decide +kernel
theorem dX1_sample_16 : decode cX1_sample 16 = .ok (.aload_n 0, 1) := by decide +kernel
theorem dX1_sample_17 : decode cX1_sample 17 = .ok (.iload_n 2, 1) := by decide +kernel
theorem dX1_sample_18 : decode cX1_sample 18 = .ok (.putfield 33, 3) := by decide +kernel
theorem dX1_sample_21 : decode cX1_sample 21 = .ok (.return_, 1) := by decide +kernel
def wm_X1_sample (S : q_S) (a0 : Nat) (x1 : Int32) (x2 : Int32) (Q : Option Value → q_S → Prop) : Prop := q_K S a0 = 2 ∧ (∃ a2_ : Nat, (q_P S 204 a0) = some a2_ ∧ (q_K S a2_ = 9 ∧ (wm_X8_empty S a2_ (fun r5_ S6_ => r5_ = none ∧ (q_K S6_ a0 = 2 ∧ (∃ a8_ : Nat, (q_P S6_ 204 a0) = some a8_ ∧ (q_K S6_ a8_ = 9 ∧ (wm_X8_add S6_ a8_ x1 (fun r11_ S12_ => ∃ x13_ : Int32, r11_ = some (.int x13_) ∧ (q_K S12_ a0 = 2 ∧ (Q none (qs_I S12_ 205 a0 x2))))))))))))
set_option maxHeartbeats 4000000 in
set_option maxRecDepth 100000 in
theorem cm_X1_sample {l : Launch} {D : va_G} {cy : Nat → ClassId} {lo : Nat} {S : q_S} {a0 : Nat} {x1 : Int32} {x2 : Int32} {Q : Option Value → q_S → Prop} (h : wm_X1_sample S a0 x1 x2 Q) : q_Met l D cy lo yX1_sample cX1_sample 3 none 2 43 0 0 [.ref a0, .int x1, .int x2] S Q := by
  refine q_body (by decide) (by first | exact Nat.le_of_ble_eq_true rfl | simp [lg_sl, q_cat, q_catI, q_catJ, q_catR]) ?_
  intro p e s m below meth c ls X hnm Y hl
  have hx := X.1
  have hb := X.2.1
  have hl : lv_has ls 3 [(0, .ref a0), (1, .int x1), (2, .int x2)] := by first | exact hl | simpa [lv_args, q_cat, q_catI, q_catJ, q_catR] using hl
  generalize hargs : ([.ref a0, .int x1, .int x2] : List Value).toArray = args at X ⊢
  unfold wm_X1_sample at h
  refine lv_aload_n hx hb dX1_sample_0 rfl (lv_at hl 0 rfl) ?_
  obtain ⟨k1_, h⟩ := h
  refine q_getP X Y kX1 4 rfl fl_X1_12 k1_ rfl dX1_sample_1 ?_
  obtain ⟨a2_, e3_, h⟩ := h
  refine q_nn [] e3_ ?_
  obtain ⟨k4_, h⟩ := h
  refine q_callV X Y hl (cm_X8_empty h) mt_X8_empty mi_X8_empty ml_X1_65 (ci := 8) rfl k4_ (by decide) rfl rfl (by first | exact Nat.le_of_ble_eq_true rfl | simp [q_cat, q_catI, q_catJ, q_catR]) ⟨Nat.le_of_ble_eq_true rfl, Nat.le_of_ble_eq_true rfl⟩ ⟨Nat.le_of_ble_eq_true rfl, Nat.le_of_ble_eq_true rfl⟩ dX1_sample_4 (fun r5_ S6_ H locs hp Y => ?_)
  obtain ⟨rfl, h⟩ := hp
  refine W.eq (g2 := F0 m 7 ls []) rfl ?_
  refine lv_aload_n hx hb dX1_sample_7 rfl (lv_at hl 0 rfl) ?_
  obtain ⟨k7_, h⟩ := h
  refine q_getP X Y kX1 4 rfl fl_X1_12 k7_ rfl dX1_sample_8 ?_
  refine lv_iload_n hx hb dX1_sample_11 rfl (lv_at hl 1 rfl) ?_
  obtain ⟨a8_, e9_, h⟩ := h
  refine q_nn [.int x1] e9_ ?_
  obtain ⟨k10_, h⟩ := h
  refine q_callV X Y hl (cm_X8_add h) mt_X8_add mi_X8_add ml_X1_68 (ci := 8) rfl k10_ (by decide) rfl rfl (by first | exact Nat.le_of_ble_eq_true rfl | simp [q_cat, q_catI, q_catJ, q_catR]) ⟨Nat.le_of_ble_eq_true rfl, Nat.le_of_ble_eq_true rfl⟩ ⟨Nat.le_of_ble_eq_true rfl, Nat.le_of_ble_eq_true rfl⟩ dX1_sample_12 (fun r11_ S12_ H locs hp Y => ?_)
  obtain ⟨x13_, rfl, h⟩ := hp
  refine W.eq (g2 := F0 m 15 ls [.int x13_]) rfl ?_
  refine lv_pop hx hb dX1_sample_15 rfl ?_
  refine lv_aload_n hx hb dX1_sample_16 rfl (lv_at hl 0 rfl) ?_
  refine lv_iload_n hx hb dX1_sample_17 rfl (lv_at hl 2 rfl) ?_
  obtain ⟨k14_, h⟩ := h
  refine q_putI X Y kX1 5 rfl fl_X1_33 k14_ .int rfl ⟨rfl, rfl⟩ rfl dX1_sample_18 (fun H locs Y => ?_)
  exact q_vret X Y (Nat.le_refl _) (Nat.le_refl _) h dX1_sample_21
-- X6_carry
theorem fl_X6_159 : Cond.fieldLink RX6 159 "PartitionWorks$Channel" "queue" "LPartitionWorks$Queue;" ∈ q_G := q_tb (i := 1123) (by decide +kernel) (by decide +kernel)
theorem ml_X6_163 : Cond.methodLink RX6 163 yX8_add ∈ q_G := q_tb (i := 1391) (by decide +kernel) (by decide +kernel)
theorem fl_X6_87 : Cond.fieldLink RX6 87 "PartitionWorks$Channel" "outputs" "I" ∈ q_G := q_tb (i := 1134) (by decide +kernel) (by decide +kernel)
theorem fl_X6_138 : Cond.fieldLink RX6 138 "PartitionWorks$Channel" "queuing" "Z" ∈ q_G := q_tb (i := 1110) (by decide +kernel) (by decide +kernel)
theorem fl_X6_145 : Cond.fieldLink RX6 145 "PartitionWorks$Channel" "goal" "LPartitionWorks$Partition;" ∈ q_G := q_tb (i := 1141) (by decide +kernel) (by decide +kernel)
theorem fl_X6_149 : Cond.fieldLink RX6 149 "PartitionWorks$Channel" "goalSlot" "I" ∈ q_G := q_tb (i := 1143) (by decide +kernel) (by decide +kernel)
theorem fl_X6_152 : Cond.fieldLink RX6 152 "PartitionWorks$Channel" "fifo" "Z" ∈ q_G := q_tb (i := 1114) (by decide +kernel) (by decide +kernel)
theorem ml_X6_155 : Cond.methodLink RX6 155 yX5_giveTaker ∈ q_G := q_tb (i := 1379) (by decide +kernel) (by decide +kernel)
theorem fl_X6_43 : Cond.fieldLink RX6 43 "PartitionWorks$Plan" "time" "I" ∈ q_G := q_tb (i := 97) (by decide +kernel) (by decide +kernel)
theorem ml_X6_141 : Cond.methodLink RX6 141 yX1_sample ∈ q_G := q_tb (i := 1370) (by decide +kernel) (by decide +kernel)
theorem mt_X1_sample : q_Mt yX1_sample cX1_sample 3 none 2 := ⟨q_tb (i := 1373) (by decide +kernel) (by decide +kernel), q_tb (i := 25) (by decide +kernel) (by decide +kernel), by decide +kernel, by decide +kernel, by decide +kernel⟩
theorem mi_X1_sample : Cond.instanceMethod yX1_sample ∈ q_G ∧ Cond.selects yX1_sample.cls yX1_sample yX1_sample ∈ q_G := ⟨q_tb (i := 1371) (by decide +kernel) (by decide +kernel), q_tb (i := 1372) (by decide +kernel) (by decide +kernel)⟩
theorem fl_X6_36 : Cond.fieldLink RX6 36 "PartitionWorks$Plan" "journal" "LPartitionWorks$Journal;" ∈ q_G := q_tb (i := 95) (by decide +kernel) (by decide +kernel)
theorem fl_X6_84 : Cond.fieldLink RX6 84 "PartitionWorks$Channel" "number" "I" ∈ q_G := q_tb (i := 1107) (by decide +kernel) (by decide +kernel)
theorem ml_X6_134 : Cond.methodLink RX6 134 yX2_show ∈ q_G := q_tb (i := 1366) (by decide +kernel) (by decide +kernel)
theorem mt_X2_show : q_Mt yX2_show cX2_show 5 none 3 := ⟨q_tb (i := 1369) (by decide +kernel) (by decide +kernel), q_tb (i := 4) (by decide +kernel) (by decide +kernel), by decide +kernel, by decide +kernel, by decide +kernel⟩
theorem mi_X2_show : Cond.instanceMethod yX2_show ∈ q_G ∧ Cond.selects yX2_show.cls yX2_show yX2_show ∈ q_G := ⟨q_tb (i := 1367) (by decide +kernel) (by decide +kernel), q_tb (i := 1368) (by decide +kernel) (by decide +kernel)⟩
theorem dX6_carry_0 : decode cX6_carry 0 = .ok (.iconst 0, 1) := by decide +kernel
theorem dX6_carry_1 : decode cX6_carry 1 = .ok (.istore_n 3, 1) := by decide +kernel
theorem dX6_carry_2 : decode cX6_carry 2 = .ok (.iload_n 3, 1) := by decide +kernel
theorem dX6_carry_3 : decode cX6_carry 3 = .ok (.aload_n 1, 1) := by decide +kernel
theorem dX6_carry_4 : decode cX6_carry 4 = .ok (.getfield 87, 3) := by decide +kernel
theorem dX6_carry_7 : decode cX6_carry 7 = .ok (.if_icmp .ge 25, 3) := by decide +kernel
theorem dX6_carry_10 : decode cX6_carry 10 = .ok (.aload_n 0, 1) := by decide +kernel
theorem dX6_carry_11 : decode cX6_carry 11 = .ok (.getfield 36, 3) := by decide +kernel
theorem dX6_carry_14 : decode cX6_carry 14 = .ok (.aload_n 0, 1) := by decide +kernel
theorem dX6_carry_15 : decode cX6_carry 15 = .ok (.getfield 43, 3) := by decide +kernel
theorem dX6_carry_18 : decode cX6_carry 18 = .ok (.aload_n 1, 1) := by decide +kernel
theorem dX6_carry_19 : decode cX6_carry 19 = .ok (.getfield 84, 3) := by decide +kernel
theorem dX6_carry_22 : decode cX6_carry 22 = .ok (.iload_n 2, 1) := by decide +kernel
theorem dX6_carry_23 : decode cX6_carry 23 = .ok (.invokevirtual 134, 3) := by decide +kernel
theorem dX6_carry_26 : decode cX6_carry 26 = .ok (.iinc 3 1, 3) := by decide +kernel
theorem dX6_carry_29 : decode cX6_carry 29 = .ok (.goto (-27), 3) := by decide +kernel
theorem dX6_carry_32 : decode cX6_carry 32 = .ok (.aload_n 1, 1) := by decide +kernel
theorem dX6_carry_33 : decode cX6_carry 33 = .ok (.getfield 138, 3) := by decide +kernel
theorem dX6_carry_36 : decode cX6_carry 36 = .ok (.ifCond .ne 14, 3) := by decide +kernel
theorem dX6_carry_39 : decode cX6_carry 39 = .ok (.aload_n 1, 1) := by decide +kernel
theorem dX6_carry_40 : decode cX6_carry 40 = .ok (.iload_n 2, 1) := by decide +kernel
theorem dX6_carry_41 : decode cX6_carry 41 = .ok (.aload_n 0, 1) := by decide +kernel
theorem dX6_carry_42 : decode cX6_carry 42 = .ok (.getfield 43, 3) := by decide +kernel
theorem dX6_carry_45 : decode cX6_carry 45 = .ok (.invokevirtual 141, 3) := by decide +kernel
theorem dX6_carry_48 : decode cX6_carry 48 = .ok (.iconst 1, 1) := by decide +kernel
theorem dX6_carry_49 : decode cX6_carry 49 = .ok (.ireturn, 1) := by decide +kernel
theorem dX6_carry_50 : decode cX6_carry 50 = .ok (.aload_n 1, 1) := by decide +kernel
theorem dX6_carry_51 : decode cX6_carry 51 = .ok (.getfield 87, 3) := by decide +kernel
theorem dX6_carry_54 : decode cX6_carry 54 = .ok (.ifCond .gt 29, 3) := by decide +kernel
theorem dX6_carry_57 : decode cX6_carry 57 = .ok (.aload_n 1, 1) := by decide +kernel
theorem dX6_carry_58 : decode cX6_carry 58 = .ok (.getfield 145, 3) := by decide +kernel
theorem dX6_carry_61 : decode cX6_carry 61 = .ok (.ifnull 24, 3) := by decide +kernel
theorem dX6_carry_64 : decode cX6_carry 64 = .ok (.aload_n 1, 1) := by decide +kernel
theorem dX6_carry_65 : decode cX6_carry 65 = .ok (.getfield 145, 3) := by decide +kernel
theorem dX6_carry_68 : decode cX6_carry 68 = .ok (.aload_n 1, 1) := by decide +kernel
theorem dX6_carry_69 : decode cX6_carry 69 = .ok (.getfield 149, 3) := by decide +kernel
theorem dX6_carry_72 : decode cX6_carry 72 = .ok (.aload_n 1, 1) := by decide +kernel
theorem dX6_carry_73 : decode cX6_carry 73 = .ok (.getfield 152, 3) := by decide +kernel
theorem dX6_carry_76 : decode cX6_carry 76 = .ok (.iload_n 2, 1) := by decide +kernel
theorem dX6_carry_77 : decode cX6_carry 77 = .ok (.invokevirtual 155, 3) := by decide +kernel
theorem dX6_carry_80 : decode cX6_carry 80 = .ok (.ifCond .eq 5, 3) := by decide +kernel
theorem dX6_carry_83 : decode cX6_carry 83 = .ok (.iconst 1, 1) := by decide +kernel
theorem dX6_carry_84 : decode cX6_carry 84 = .ok (.ireturn, 1) := by decide +kernel
theorem dX6_carry_85 : decode cX6_carry 85 = .ok (.aload_n 1, 1) := by decide +kernel
theorem dX6_carry_86 : decode cX6_carry 86 = .ok (.getfield 159, 3) := by decide +kernel
theorem dX6_carry_89 : decode cX6_carry 89 = .ok (.iload_n 2, 1) := by decide +kernel
theorem dX6_carry_90 : decode cX6_carry 90 = .ok (.invokevirtual 163, 3) := by decide +kernel
theorem dX6_carry_93 : decode cX6_carry 93 = .ok (.ireturn, 1) := by decide +kernel
def wb_X6_carry_83  (S : q_S) (Q : Option Value → q_S → Prop) : Prop := Q (some (.int (1 : Int32))) S
set_option maxHeartbeats 4000000 in
set_option maxRecDepth 100000 in
theorem cb_X6_carry_83 {p : Program} {l : Launch} {e : Env} {s : State} {m : MethodId} {args : Array Value} {below : List Frame} {meth : Method} {c : Code} {D : va_G} {cy : Nat → ClassId} {lo : Nat}  {S : q_S} {Q : Option Value → q_S → Prop} {H : Heap} {locs : List Loc} {ls : Array Slot} (X : q_X p s m args meth c RX6 cX6_carry 4 (some .boolean) D cy lo)  (Y : q_Y D cy lo s S H locs) (hl : lv_has ls 4 []) (h : wb_X6_carry_83 S Q) : W p l e ({ frames := 3, cells := 0, slots := 0, locals := 71 } : Room) s m args below meth c H locs 0 0 (MQ below (q_Q D cy lo Q) args s 0 0 (fun q => lo ≤ q)) (F0 m 83 ls []) := by
  have hx := X.1
  have hb := X.2.1
  unfold wb_X6_carry_83 at h
  refine lv_iconst (v := 1) hx hb dX6_carry_83 (by decide) ?_
  exact q_iret X Y rfl (Nat.le_refl _) (Nat.le_refl _) h dX6_carry_84
def wb_X6_carry_85  (S : q_S) (r1 : Option Nat) (x2 : Int32) (Q : Option Value → q_S → Prop) : Prop := ∃ a1_ : Nat, r1 = some a1_ ∧ (q_K S a1_ = 2 ∧ (∃ a4_ : Nat, (q_P S 204 a1_) = some a4_ ∧ (q_K S a4_ = 9 ∧ (wm_X8_add S a4_ x2 (fun r7_ S8_ => ∃ x9_ : Int32, r7_ = some (.int x9_) ∧ ((narrow .boolean (.int x9_) = .int x9_ ∧ Q (some (.int x9_)) S8_)))))))
set_option maxHeartbeats 4000000 in
set_option maxRecDepth 100000 in
theorem cb_X6_carry_85 {p : Program} {l : Launch} {e : Env} {s : State} {m : MethodId} {args : Array Value} {below : List Frame} {meth : Method} {c : Code} {D : va_G} {cy : Nat → ClassId} {lo : Nat}  {S : q_S} {r1 : Option Nat} {x2 : Int32} {Q : Option Value → q_S → Prop} {H : Heap} {locs : List Loc} {ls : Array Slot} (X : q_X p s m args meth c RX6 cX6_carry 4 (some .boolean) D cy lo)  (Y : q_Y D cy lo s S H locs) (hl : lv_has ls 4 [(1, va_rf r1), (2, .int x2)]) (h : wb_X6_carry_85 S r1 x2 Q) : W p l e ({ frames := 3, cells := 0, slots := 0, locals := 71 } : Room) s m args below meth c H locs 0 0 (MQ below (q_Q D cy lo Q) args s 0 0 (fun q => lo ≤ q)) (F0 m 85 ls []) := by
  have hx := X.1
  have hb := X.2.1
  unfold wb_X6_carry_85 at h
  refine q_aload_n hx hb dX6_carry_85 rfl (lv_at hl 0 rfl) ?_
  obtain ⟨a1_, e2_, h⟩ := h
  refine q_nn [] e2_ ?_
  obtain ⟨k3_, h⟩ := h
  refine q_getP X Y kX1 4 rfl fl_X6_159 k3_ rfl dX6_carry_86 ?_
  refine lv_iload_n hx hb dX6_carry_89 rfl (lv_at hl 1 rfl) ?_
  obtain ⟨a4_, e5_, h⟩ := h
  refine q_nn [.int x2] e5_ ?_
  obtain ⟨k6_, h⟩ := h
  refine q_callV X Y hl (cm_X8_add h) mt_X8_add mi_X8_add ml_X6_163 (ci := 8) rfl k6_ (by decide) rfl rfl (by first | exact Nat.le_of_ble_eq_true rfl | simp [q_cat, q_catI, q_catJ, q_catR]) ⟨Nat.le_of_ble_eq_true rfl, Nat.le_of_ble_eq_true rfl⟩ ⟨Nat.le_of_ble_eq_true rfl, Nat.le_of_ble_eq_true rfl⟩ dX6_carry_90 (fun r7_ S8_ H locs hp Y => ?_)
  obtain ⟨x9_, rfl, h⟩ := hp
  refine W.eq (g2 := F0 m 93 ls [.int x9_]) rfl ?_
  exact q_iret X Y h.1 (Nat.le_refl _) (Nat.le_refl _) h.2 dX6_carry_93
def wb_X6_carry_2 (B2 : q_S → Nat → Option Nat → Int32 → Int32 → Prop) (S : q_S) (a0 : Nat) (r1 : Option Nat) (x2 : Int32) (x3 : Int32) (Q : Option Value → q_S → Prop) : Prop := ∃ a10_ : Nat, r1 = some a10_ ∧ (q_K S a10_ = 2 ∧ ((((q_I S 208 a10_) ≤ x3 → (((¬ (q_I S 201 a10_) = 0 → (((0 < (q_I S 208 a10_) → (wb_X6_carry_83 S Q)) ∧ (¬ 0 < (q_I S 208 a10_) → ((((q_P S 211 a10_) = none → (wb_X6_carry_85 S r1 x2 Q)) ∧ (¬ (q_P S 211 a10_) = none → (∃ a17_ : Nat, (q_P S 211 a10_) = some a17_ ∧ (q_K S a17_ = 6 ∧ (wm_X5_giveTaker S a17_ (q_I S 212 a10_) (q_I S 202 a10_) x2 (fun r20_ S21_ => ∃ x22_ : Int32, r20_ = some (.int x22_) ∧ (((x22_ = 0 → (wb_X6_carry_85 S21_ r1 x2 Q)) ∧ (¬ x22_ = 0 → (wb_X6_carry_83 S21_ Q))))))))))))))) ∧ ((q_I S 201 a10_) = 0 → (q_K S a0 = 7 ∧ (wm_X1_sample S a10_ x2 (q_I S 1211 a0) (fun r25_ S26_ => r25_ = none ∧ (Q (some (.int (1 : Int32))) S26_)))))))) ∧ (¬ (q_I S 208 a10_) ≤ x3 → (q_K S a0 = 7 ∧ (∃ a28_ : Nat, (q_P S 1210 a0) = some a28_ ∧ (q_K S a28_ = 3 ∧ (wm_X2_show S a28_ (q_I S 1211 a0) (q_I S 200 a10_) x2 (fun r31_ S32_ => r31_ = none ∧ (B2 S32_ a0 r1 x2 (x3 + 1)))))))))))
set_option maxHeartbeats 4000000 in
set_option maxRecDepth 100000 in
theorem cb_X6_carry_2 {p : Program} {l : Launch} {e : Env} {s : State} {m : MethodId} {args : Array Value} {below : List Frame} {meth : Method} {c : Code} {D : va_G} {cy : Nat → ClassId} {lo : Nat} {B2 : q_S → Nat → Option Nat → Int32 → Int32 → Prop} {S : q_S} {a0 : Nat} {r1 : Option Nat} {x2 : Int32} {x3 : Int32} {Q : Option Value → q_S → Prop} {H : Heap} {locs : List Loc} {ls : Array Slot} (X : q_X p s m args meth c RX6 cX6_carry 4 (some .boolean) D cy lo) (hB2 : ∀ (S : q_S) (a0 : Nat) (r1 : Option Nat) (x2 : Int32) (x3 : Int32) (H : Heap) (locs : List Loc) (ls : Array Slot), B2 S a0 r1 x2 x3 → q_Y D cy lo s S H locs → lv_has ls 4 [(0, .ref a0), (1, va_rf r1), (2, .int x2), (3, .int x3)] → W p l e ({ frames := 3, cells := 0, slots := 0, locals := 71 } : Room) s m args below meth c H locs 0 0 (MQ below (q_Q D cy lo Q) args s 0 0 (fun q => lo ≤ q)) (F0 m 2 ls [])) (Y : q_Y D cy lo s S H locs) (hl : lv_has ls 4 [(0, .ref a0), (1, va_rf r1), (2, .int x2), (3, .int x3)]) (h : wb_X6_carry_2 B2 S a0 r1 x2 x3 Q) : W p l e ({ frames := 3, cells := 0, slots := 0, locals := 71 } : Room) s m args below meth c H locs 0 0 (MQ below (q_Q D cy lo Q) args s 0 0 (fun q => lo ≤ q)) (F0 m 2 ls []) := by
  have hx := X.1
  have hb := X.2.1
  unfold wb_X6_carry_2 at h
  refine lv_iload_n hx hb dX6_carry_2 rfl (lv_at hl 3 rfl) ?_
  refine q_aload_n hx hb dX6_carry_3 rfl (lv_at hl 1 rfl) ?_
  obtain ⟨a10_, e11_, h⟩ := h
  refine q_nn [] e11_ ?_
  obtain ⟨k12_, h⟩ := h
  refine q_getI X Y kX1 8 rfl fl_X6_87 k12_ dX6_carry_4 ?_
  refine lv_icmp_ge (tgt := 32) hx hb dX6_carry_7 (by decide) (fun c13_ => ?_) (fun c13_ => ?_)
  · replace h := h.1 c13_
    refine q_aload_n hx hb dX6_carry_32 rfl (lv_at hl 1 rfl) ?_
    refine q_nn [] e11_ ?_
    refine q_getI X Y kX1 1 rfl fl_X6_138 k12_ dX6_carry_33 ?_
    refine lv_if_ne (tgt := 50) hx hb dX6_carry_36 (by decide) (fun c14_ => ?_) (fun c14_ => ?_)
    · replace h := h.1 c14_
      refine q_aload_n hx hb dX6_carry_50 rfl (lv_at hl 1 rfl) ?_
      refine q_nn [] e11_ ?_
      refine q_getI X Y kX1 8 rfl fl_X6_87 k12_ dX6_carry_51 ?_
      refine lv_if_gt (tgt := 83) hx hb dX6_carry_54 (by decide) (fun c15_ => ?_) (fun c15_ => ?_)
      · replace h := h.1 c15_
        exact cb_X6_carry_83 X Y (lv_sub hl [] rfl) h
      · replace h := h.2 c15_
        refine q_aload_n hx hb dX6_carry_57 rfl (lv_at hl 1 rfl) ?_
        refine q_nn [] e11_ ?_
        refine q_getP X Y kX1 11 rfl fl_X6_145 k12_ rfl dX6_carry_58 ?_
        refine q_ifnull (r := (q_P S 211 a10_)) (tgt := 85) hx hb dX6_carry_61 (by decide) (fun c16_ => ?_) (fun c16_ => ?_)
        · replace h := h.1 c16_
          exact cb_X6_carry_85 X Y (lv_sub hl [1, 2] rfl) h
        · replace h := h.2 c16_
          refine q_aload_n hx hb dX6_carry_64 rfl (lv_at hl 1 rfl) ?_
          refine q_nn [] e11_ ?_
          refine q_getP X Y kX1 11 rfl fl_X6_145 k12_ rfl dX6_carry_65 ?_
          refine q_aload_n hx hb dX6_carry_68 rfl (lv_at hl 1 rfl) ?_
          refine q_nn [] e11_ ?_
          refine q_getI X Y kX1 12 rfl fl_X6_149 k12_ dX6_carry_69 ?_
          refine q_aload_n hx hb dX6_carry_72 rfl (lv_at hl 1 rfl) ?_
          refine q_nn [] e11_ ?_
          refine q_getI X Y kX1 2 rfl fl_X6_152 k12_ dX6_carry_73 ?_
          refine lv_iload_n hx hb dX6_carry_76 rfl (lv_at hl 2 rfl) ?_
          obtain ⟨a17_, e18_, h⟩ := h
          refine q_nn [.int x2, .int (q_I S 202 a10_), .int (q_I S 212 a10_)] e18_ ?_
          obtain ⟨k19_, h⟩ := h
          refine q_callV X Y hl (cm_X5_giveTaker h) mt_X5_giveTaker mi_X5_giveTaker ml_X6_155 (ci := 5) rfl k19_ (by decide) rfl rfl (by first | exact Nat.le_of_ble_eq_true rfl | simp [q_cat, q_catI, q_catJ, q_catR]) ⟨Nat.le_of_ble_eq_true rfl, Nat.le_of_ble_eq_true rfl⟩ ⟨Nat.le_of_ble_eq_true rfl, Nat.le_of_ble_eq_true rfl⟩ dX6_carry_77 (fun r20_ S21_ H locs hp Y => ?_)
          obtain ⟨x22_, rfl, h⟩ := hp
          refine W.eq (g2 := F0 m 80 ls [.int x22_]) rfl ?_
          refine lv_if_eq (tgt := 85) hx hb dX6_carry_80 (by decide) (fun c23_ => ?_) (fun c23_ => ?_)
          · replace h := h.1 c23_
            exact cb_X6_carry_85 X Y (lv_sub hl [1, 2] rfl) h
          · replace h := h.2 c23_
            exact cb_X6_carry_83 X Y (lv_sub hl [] rfl) h
    · replace h := h.2 c14_
      refine q_aload_n hx hb dX6_carry_39 rfl (lv_at hl 1 rfl) ?_
      refine lv_iload_n hx hb dX6_carry_40 rfl (lv_at hl 2 rfl) ?_
      refine lv_aload_n hx hb dX6_carry_41 rfl (lv_at hl 0 rfl) ?_
      obtain ⟨k24_, h⟩ := h
      refine q_getI X Y kX6 11 rfl fl_X6_43 k24_ dX6_carry_42 ?_
      refine q_nn [.int (q_I S 1211 a0), .int x2] e11_ ?_
      refine q_callV X Y hl (cm_X1_sample h) mt_X1_sample mi_X1_sample ml_X6_141 (ci := 1) rfl k12_ (by decide) rfl rfl (by first | exact Nat.le_of_ble_eq_true rfl | simp [q_cat, q_catI, q_catJ, q_catR]) ⟨Nat.le_of_ble_eq_true rfl, Nat.le_of_ble_eq_true rfl⟩ ⟨Nat.le_of_ble_eq_true rfl, Nat.le_of_ble_eq_true rfl⟩ dX6_carry_45 (fun r25_ S26_ H locs hp Y => ?_)
      obtain ⟨rfl, h⟩ := hp
      refine W.eq (g2 := F0 m 48 ls []) rfl ?_
      refine lv_iconst (v := 1) hx hb dX6_carry_48 (by decide) ?_
      exact q_iret X Y rfl (Nat.le_refl _) (Nat.le_refl _) h dX6_carry_49
  · replace h := h.2 c13_
    refine lv_aload_n hx hb dX6_carry_10 rfl (lv_at hl 0 rfl) ?_
    obtain ⟨k27_, h⟩ := h
    refine q_getP X Y kX6 10 rfl fl_X6_36 k27_ rfl dX6_carry_11 ?_
    refine lv_aload_n hx hb dX6_carry_14 rfl (lv_at hl 0 rfl) ?_
    refine q_getI X Y kX6 11 rfl fl_X6_43 k27_ dX6_carry_15 ?_
    refine q_aload_n hx hb dX6_carry_18 rfl (lv_at hl 1 rfl) ?_
    refine q_nn [] e11_ ?_
    refine q_getI X Y kX1 0 rfl fl_X6_84 k12_ dX6_carry_19 ?_
    refine lv_iload_n hx hb dX6_carry_22 rfl (lv_at hl 2 rfl) ?_
    obtain ⟨a28_, e29_, h⟩ := h
    refine q_nn [.int x2, .int (q_I S 200 a10_), .int (q_I S 1211 a0)] e29_ ?_
    obtain ⟨k30_, h⟩ := h
    refine q_callV X Y hl (cm_X2_show h) mt_X2_show mi_X2_show ml_X6_134 (ci := 2) rfl k30_ (by decide) rfl rfl (by first | exact Nat.le_of_ble_eq_true rfl | simp [q_cat, q_catI, q_catJ, q_catR]) ⟨Nat.le_of_ble_eq_true rfl, Nat.le_of_ble_eq_true rfl⟩ ⟨Nat.le_of_ble_eq_true rfl, Nat.le_of_ble_eq_true rfl⟩ dX6_carry_23 (fun r31_ S32_ H locs hp Y => ?_)
    obtain ⟨rfl, h⟩ := hp
    refine W.eq (g2 := F0 m 26 ls []) rfl ?_
    refine lv_iinc (v := (x3 + 1)) (lv' := [(3, .int (x3 + 1)), (0, .ref a0), (1, va_rf r1), (2, .int x2)]) hx hb dX6_carry_26 hl (k := 3) rfl (by first | rfl | decide) (by decide) (by first | rfl | simp [q_cat, q_catI, q_catJ, q_catR]) (fun ls hl => ?_)
    refine lv_goto (tgt := 2) hx hb dX6_carry_29 (by decide) ?_
    exact hB2 _ _ _ _ _ _ _ _ h Y (lv_sub hl [1, 2, 3, 0] rfl)
def wl_X6_carry_2  : Nat → q_S → Nat → Option Nat → Int32 → Int32 → (Option Value → q_S → Prop) → Prop
  | 0, _, _, _, _, _, _ => False
  | n + 1, S, a0, r1, x2, x3, Q => wb_X6_carry_2 (fun S a0 r1 x2 x3 => wl_X6_carry_2 n S a0 r1 x2 x3 Q) S a0 r1 x2 x3 Q
set_option maxHeartbeats 4000000 in
set_option maxRecDepth 100000 in
theorem cl_X6_carry_2 {p : Program} {l : Launch} {e : Env} {s : State} {m : MethodId} {args : Array Value} {below : List Frame} {meth : Method} {c : Code} {D : va_G} {cy : Nat → ClassId} {lo : Nat}  {Q : Option Value → q_S → Prop} (X : q_X p s m args meth c RX6 cX6_carry 4 (some .boolean) D cy lo)  : ∀ (n : Nat) (S : q_S) (a0 : Nat) (r1 : Option Nat) (x2 : Int32) (x3 : Int32) (H : Heap) (locs : List Loc) (ls : Array Slot), wl_X6_carry_2 n S a0 r1 x2 x3 Q → q_Y D cy lo s S H locs → lv_has ls 4 [(0, .ref a0), (1, va_rf r1), (2, .int x2), (3, .int x3)] → W p l e ({ frames := 3, cells := 0, slots := 0, locals := 71 } : Room) s m args below meth c H locs 0 0 (MQ below (q_Q D cy lo Q) args s 0 0 (fun q => lo ≤ q)) (F0 m 2 ls []) := by
  intro n
  induction n with
  | zero => intro S a0 r1 x2 x3 H locs ls h; exact absurd h id
  | succ n ih => intro S a0 r1 x2 x3 H locs ls h Y hl; exact cb_X6_carry_2 X ih Y hl h
def wm_X6_carry (S : q_S) (a0 : Nat) (r1 : Option Nat) (x2 : Int32) (Q : Option Value → q_S → Prop) : Prop := ∃ n33_ : Nat, wl_X6_carry_2 n33_ S a0 r1 x2 (0 : Int32) Q
set_option maxHeartbeats 4000000 in
set_option maxRecDepth 100000 in
theorem cm_X6_carry {l : Launch} {D : va_G} {cy : Nat → ClassId} {lo : Nat} {S : q_S} {a0 : Nat} {r1 : Option Nat} {x2 : Int32} {Q : Option Value → q_S → Prop} (h : wm_X6_carry S a0 r1 x2 Q) : q_Met l D cy lo yX6_carry cX6_carry 4 (some .boolean) 3 71 0 0 [.ref a0, va_rf r1, .int x2] S Q := by
  refine q_body (by decide) (by first | exact Nat.le_of_ble_eq_true rfl | simp [lg_sl, q_cat, q_catI, q_catJ, q_catR]) ?_
  intro p e s m below meth c ls X hnm Y hl
  have hx := X.1
  have hb := X.2.1
  have hl : lv_has ls 4 [(0, .ref a0), (1, va_rf r1), (2, .int x2)] := by first | exact hl | simpa [lv_args, q_cat, q_catI, q_catJ, q_catR] using hl
  generalize hargs : ([.ref a0, va_rf r1, .int x2] : List Value).toArray = args at X ⊢
  unfold wm_X6_carry at h
  refine lv_iconst (v := 0) hx hb dX6_carry_0 (by decide) ?_
  refine lv_istore_n (i := 3) (lv' := [(3, .int (0 : Int32)), (0, .ref a0), (1, va_rf r1), (2, .int x2)]) hx hb dX6_carry_1 rfl hl (by decide) (by first | rfl | simp [q_cat, q_catI, q_catJ, q_catR]) (fun ls hl => ?_)
  obtain ⟨n33_, h⟩ := h
  exact cl_X6_carry_2 X n33_ _ _ _ _ _ _ _ _ h Y (lv_sub hl [1, 2, 3, 0] rfl)
-- X0_send
theorem fl_X0_9 : Cond.fieldLink RX0 9 "PartitionWorks$Calls" "plan" "LPartitionWorks$Plan;" ∈ q_G := q_tb (i := 264) (by decide +kernel) (by decide +kernel)
theorem fl_X0_227 : Cond.fieldLink RX0 227 "PartitionWorks$Thing" "channel" "I" ∈ q_G := q_tb (i := 1022) (by decide +kernel) (by decide +kernel)
theorem ml_X0_230 : Cond.methodLink RX0 230 yX6_channelAt ∈ q_G := q_tb (i := 1630) (by decide +kernel) (by decide +kernel)
theorem mt_X6_channelAt : q_Mt yX6_channelAt cX6_channelAt 2 (some (.object "PartitionWorks$Channel")) 1 := ⟨q_tb (i := 417) (by decide +kernel) (by decide +kernel), q_tb (i := 3) (by decide +kernel) (by decide +kernel), by decide +kernel, by decide +kernel, by decide +kernel⟩
theorem mi_X6_channelAt : Cond.instanceMethod yX6_channelAt ∈ q_G ∧ Cond.selects yX6_channelAt.cls yX6_channelAt yX6_channelAt ∈ q_G := ⟨q_tb (i := 415) (by decide +kernel) (by decide +kernel), q_tb (i := 416) (by decide +kernel) (by decide +kernel)⟩
theorem ml_X0_234 : Cond.methodLink RX0 234 yX6_carry ∈ q_G := q_tb (i := 1631) (by decide +kernel) (by decide +kernel)
theorem mt_X6_carry : q_Mt yX6_carry cX6_carry 4 (some .boolean) 2 := ⟨q_tb (i := 1365) (by decide +kernel) (by decide +kernel), q_tb (i := 3) (by decide +kernel) (by decide +kernel), by decide +kernel, by decide +kernel, by decide +kernel⟩
theorem mi_X6_carry : Cond.instanceMethod yX6_carry ∈ q_G ∧ Cond.selects yX6_carry.cls yX6_carry yX6_carry ∈ q_G := ⟨q_tb (i := 1363) (by decide +kernel) (by decide +kernel), q_tb (i := 1364) (by decide +kernel) (by decide +kernel)⟩
theorem fl_X0_221 : Cond.fieldLink RX0 221 "PartitionWorks$Thing" "out" "Z" ∈ q_G := q_tb (i := 1015) (by decide +kernel) (by decide +kernel)
theorem fl_X0_224 : Cond.fieldLink RX0 224 "PartitionWorks$Thing" "queuing" "Z" ∈ q_G := q_tb (i := 1018) (by decide +kernel) (by decide +kernel)
theorem dX0_send_0 : decode cX0_send 0 = .ok (.aload_n 0, 1) := by decide +kernel
theorem dX0_send_1 : decode cX0_send 1 = .ok (.getfield 15, 3) := by decide +kernel
theorem dX0_send_4 : decode cX0_send 4 = .ok (.iconst 4, 1) := by decide +kernel
theorem dX0_send_5 : decode cX0_send 5 = .ok (.iload_n 1, 1) := by decide +kernel
theorem dX0_send_6 : decode cX0_send 6 = .ok (.invokevirtual 144, 3) := by decide +kernel
theorem dX0_send_9 : decode cX0_send 9 = .ok (.astore 4, 2) := by decide +kernel
theorem dX0_send_11 : decode cX0_send 11 = .ok (.aload 4, 2) := by decide +kernel
theorem dX0_send_13 : decode cX0_send 13 = .ok (.ifnull 27, 3) := by decide +kernel
theorem dX0_send_16 : decode cX0_send 16 = .ok (.aload 4, 2) := by decide +kernel
theorem dX0_send_18 : decode cX0_send 18 = .ok (.getfield 221, 3) := by decide +kernel
theorem dX0_send_21 : decode cX0_send 21 = .ok (.ifCond .eq 19, 3) := by decide +kernel
theorem dX0_send_24 : decode cX0_send 24 = .ok (.aload 4, 2) := by decide +kernel
theorem dX0_send_26 : decode cX0_send 26 = .ok (.getfield 224, 3) := by decide +kernel
theorem dX0_send_29 : decode cX0_send 29 = .ok (.ifCond .eq 13, 3) := by decide +kernel
theorem dX0_send_32 : decode cX0_send 32 = .ok (.aload_n 0, 1) := by decide +kernel
theorem dX0_send_33 : decode cX0_send 33 = .ok (.iload_n 3, 1) := by decide +kernel
theorem dX0_send_34 : decode cX0_send 34 = .ok (.invokevirtual 164, 3) := by decide +kernel
theorem dX0_send_37 : decode cX0_send 37 = .ok (.ifCond .eq 5, 3) := by decide +kernel
theorem dX0_send_40 : decode cX0_send 40 = .ok (.iconst 1, 1) := by decide +kernel
theorem dX0_send_41 : decode cX0_send 41 = .ok (.ireturn, 1) := by decide +kernel
theorem dX0_send_42 : decode cX0_send 42 = .ok (.aload_n 0, 1) := by decide +kernel
theorem dX0_send_43 : decode cX0_send 43 = .ok (.getfield 9, 3) := by decide +kernel
theorem dX0_send_46 : decode cX0_send 46 = .ok (.aload 4, 2) := by decide +kernel
theorem dX0_send_48 : decode cX0_send 48 = .ok (.getfield 227, 3) := by decide +kernel
theorem dX0_send_51 : decode cX0_send 51 = .ok (.invokevirtual 230, 3) := by decide +kernel
theorem dX0_send_54 : decode cX0_send 54 = .ok (.astore 5, 2) := by decide +kernel
theorem dX0_send_56 : decode cX0_send 56 = .ok (.aload 5, 2) := by decide +kernel
theorem dX0_send_58 : decode cX0_send 58 = .ok (.ifnonnull 5, 3) := by decide +kernel
theorem dX0_send_61 : decode cX0_send 61 = .ok (.iconst 3, 1) := by decide +kernel
theorem dX0_send_62 : decode cX0_send 62 = .ok (.ireturn, 1) := by decide +kernel
theorem dX0_send_63 : decode cX0_send 63 = .ok (.aload_n 0, 1) := by decide +kernel
theorem dX0_send_64 : decode cX0_send 64 = .ok (.getfield 9, 3) := by decide +kernel
theorem dX0_send_67 : decode cX0_send 67 = .ok (.aload 5, 2) := by decide +kernel
theorem dX0_send_69 : decode cX0_send 69 = .ok (.iload_n 2, 1) := by decide +kernel
theorem dX0_send_70 : decode cX0_send 70 = .ok (.invokevirtual 234, 3) := by decide +kernel
theorem dX0_send_73 : decode cX0_send 73 = .ok (.ifCond .eq 7, 3) := by decide +kernel
theorem dX0_send_76 : decode cX0_send 76 = .ok (.iconst 0, 1) := by decide +kernel
theorem dX0_send_77 : decode cX0_send 77 = .ok (.goto 13, 3) := by decide +kernel
theorem dX0_send_80 : decode cX0_send 80 = .ok (.aload_n 0, 1) := by decide +kernel
theorem dX0_send_81 : decode cX0_send 81 = .ok (.bipush 32, 2) := by decide +kernel
theorem dX0_send_83 : decode cX0_send 83 = .ok (.iload_n 1, 1) := by decide +kernel
theorem dX0_send_84 : decode cX0_send 84 = .ok (.iadd, 1) := by decide +kernel
theorem dX0_send_85 : decode cX0_send 85 = .ok (.iload_n 2, 1) := by decide +kernel
theorem dX0_send_86 : decode cX0_send 86 = .ok (.iload_n 3, 1) := by decide +kernel
theorem dX0_send_87 : decode cX0_send 87 = .ok (.invokevirtual 210, 3) := by decide +kernel
theorem dX0_send_90 : decode cX0_send 90 = .ok (.ireturn, 1) := by decide +kernel
def wb_X0_send_40  (S : q_S) (Q : Option Value → q_S → Prop) : Prop := Q (some (.int (1 : Int32))) S
set_option maxHeartbeats 4000000 in
set_option maxRecDepth 100000 in
theorem cb_X0_send_40 {p : Program} {l : Launch} {e : Env} {s : State} {m : MethodId} {args : Array Value} {below : List Frame} {meth : Method} {c : Code} {D : va_G} {cy : Nat → ClassId} {lo : Nat}  {S : q_S} {Q : Option Value → q_S → Prop} {H : Heap} {locs : List Loc} {ls : Array Slot} (X : q_X p s m args meth c RX0 cX0_send 6 (some .int) D cy lo)  (Y : q_Y D cy lo s S H locs) (hl : lv_has ls 6 []) (h : wb_X0_send_40 S Q) : W p l e ({ frames := 4, cells := 0, slots := 0, locals := 94 } : Room) s m args below meth c H locs 0 0 (MQ below (q_Q D cy lo Q) args s 0 0 (fun q => lo ≤ q)) (F0 m 40 ls []) := by
  have hx := X.1
  have hb := X.2.1
  unfold wb_X0_send_40 at h
  refine lv_iconst (v := 1) hx hb dX0_send_40 (by decide) ?_
  exact q_iret X Y rfl (Nat.le_refl _) (Nat.le_refl _) h dX0_send_41
def wb_X0_send_90  (S : q_S) (xs0 : Int32) (Q : Option Value → q_S → Prop) : Prop := Q (some (.int xs0)) S
set_option maxHeartbeats 4000000 in
set_option maxRecDepth 100000 in
theorem cb_X0_send_90 {p : Program} {l : Launch} {e : Env} {s : State} {m : MethodId} {args : Array Value} {below : List Frame} {meth : Method} {c : Code} {D : va_G} {cy : Nat → ClassId} {lo : Nat}  {S : q_S} {xs0 : Int32} {Q : Option Value → q_S → Prop} {H : Heap} {locs : List Loc} {ls : Array Slot} (X : q_X p s m args meth c RX0 cX0_send 6 (some .int) D cy lo)  (Y : q_Y D cy lo s S H locs) (hl : lv_has ls 6 []) (h : wb_X0_send_90 S xs0 Q) : W p l e ({ frames := 4, cells := 0, slots := 0, locals := 94 } : Room) s m args below meth c H locs 0 0 (MQ below (q_Q D cy lo Q) args s 0 0 (fun q => lo ≤ q)) (F0 m 90 ls [.int xs0]) := by
  have hx := X.1
  have hb := X.2.1
  unfold wb_X0_send_90 at h
  exact q_iret X Y rfl (Nat.le_refl _) (Nat.le_refl _) h dX0_send_90
def wb_X0_send_42  (S : q_S) (a0 : Nat) (x1 : Int32) (x2 : Int32) (x3 : Int32) (r4 : Option Nat) (Q : Option Value → q_S → Prop) : Prop := q_K S a0 = 1 ∧ (∃ a2_ : Nat, r4 = some a2_ ∧ (q_K S a2_ = 11 ∧ (∃ a5_ : Nat, (q_P S 0 a0) = some a5_ ∧ (q_K S a5_ = 7 ∧ (wm_X6_channelAt S a5_ (q_I S 2008 a2_) (fun r8_ S9_ => ∃ r10_ : Option Nat, r8_ = some (va_rf r10_) ∧ (((¬ r10_ = none → (q_K S9_ a0 = 1 ∧ (∃ a13_ : Nat, (q_P S9_ 0 a0) = some a13_ ∧ (q_K S9_ a13_ = 7 ∧ (wm_X6_carry S9_ a13_ r10_ x2 (fun r16_ S17_ => ∃ x18_ : Int32, r16_ = some (.int x18_) ∧ (((x18_ = 0 → (q_K S17_ a0 = 1 ∧ (wm_X0_waitWith S17_ a0 ((32 : Int32) + x1) x2 x3 (fun r21_ S22_ => ∃ x23_ : Int32, r21_ = some (.int x23_) ∧ (wb_X0_send_90 S22_ x23_ Q))))) ∧ (¬ x18_ = 0 → (wb_X0_send_90 S17_ (0 : Int32) Q)))))))))) ∧ (r10_ = none → (Q (some (.int (3 : Int32))) S9_))))))))))
set_option maxHeartbeats 4000000 in
set_option maxRecDepth 100000 in
theorem cb_X0_send_42 {p : Program} {l : Launch} {e : Env} {s : State} {m : MethodId} {args : Array Value} {below : List Frame} {meth : Method} {c : Code} {D : va_G} {cy : Nat → ClassId} {lo : Nat}  {S : q_S} {a0 : Nat} {x1 : Int32} {x2 : Int32} {x3 : Int32} {r4 : Option Nat} {Q : Option Value → q_S → Prop} {H : Heap} {locs : List Loc} {ls : Array Slot} (X : q_X p s m args meth c RX0 cX0_send 6 (some .int) D cy lo)  (Y : q_Y D cy lo s S H locs) (hl : lv_has ls 6 [(0, .ref a0), (1, .int x1), (2, .int x2), (3, .int x3), (4, va_rf r4)]) (h : wb_X0_send_42 S a0 x1 x2 x3 r4 Q) : W p l e ({ frames := 4, cells := 0, slots := 0, locals := 94 } : Room) s m args below meth c H locs 0 0 (MQ below (q_Q D cy lo Q) args s 0 0 (fun q => lo ≤ q)) (F0 m 42 ls []) := by
  have hx := X.1
  have hb := X.2.1
  unfold wb_X0_send_42 at h
  refine lv_aload_n hx hb dX0_send_42 rfl (lv_at hl 0 rfl) ?_
  obtain ⟨k1_, h⟩ := h
  refine q_getP X Y kX0 0 rfl fl_X0_9 k1_ rfl dX0_send_43 ?_
  refine q_aload hx hb dX0_send_46 (lv_at hl 4 rfl) ?_
  obtain ⟨a2_, e3_, h⟩ := h
  refine q_nn [] e3_ ?_
  obtain ⟨k4_, h⟩ := h
  refine q_getI X Y kX10 8 rfl fl_X0_227 k4_ dX0_send_48 ?_
  obtain ⟨a5_, e6_, h⟩ := h
  refine q_nn [.int (q_I S 2008 a2_)] e6_ ?_
  obtain ⟨k7_, h⟩ := h
  refine q_callV X Y hl (cm_X6_channelAt h) mt_X6_channelAt mi_X6_channelAt ml_X0_230 (ci := 6) rfl k7_ (by decide) rfl rfl (by first | exact Nat.le_of_ble_eq_true rfl | simp [q_cat, q_catI, q_catJ, q_catR]) ⟨Nat.le_of_ble_eq_true rfl, Nat.le_of_ble_eq_true rfl⟩ ⟨Nat.le_of_ble_eq_true rfl, Nat.le_of_ble_eq_true rfl⟩ dX0_send_51 (fun r8_ S9_ H locs hp Y => ?_)
  obtain ⟨r10_, rfl, h⟩ := hp
  refine W.eq (g2 := F0 m 54 ls [va_rf r10_]) rfl ?_
  refine q_astore (i := 5) (lv' := [(5, va_rf r10_), (0, .ref a0), (1, .int x1), (2, .int x2), (3, .int x3), (4, va_rf r4)]) hx hb dX0_send_54 hl (by decide) (by first | rfl | simp [q_cat, q_catI, q_catJ, q_catR]) (fun ls hl => ?_)
  refine q_aload hx hb dX0_send_56 (lv_at hl 0 rfl) ?_
  refine q_ifnonnull (r := r10_) (tgt := 63) hx hb dX0_send_58 (by decide) (fun c11_ => ?_) (fun c11_ => ?_)
  · replace h := h.1 c11_
    refine lv_aload_n hx hb dX0_send_63 rfl (lv_at hl 1 rfl) ?_
    obtain ⟨k12_, h⟩ := h
    refine q_getP X Y kX0 0 rfl fl_X0_9 k12_ rfl dX0_send_64 ?_
    refine q_aload hx hb dX0_send_67 (lv_at hl 0 rfl) ?_
    refine lv_iload_n hx hb dX0_send_69 rfl (lv_at hl 3 rfl) ?_
    obtain ⟨a13_, e14_, h⟩ := h
    refine q_nn [.int x2, va_rf r10_] e14_ ?_
    obtain ⟨k15_, h⟩ := h
    refine q_callV X Y hl (cm_X6_carry h) mt_X6_carry mi_X6_carry ml_X0_234 (ci := 6) rfl k15_ (by decide) rfl rfl (by first | exact Nat.le_of_ble_eq_true rfl | simp [q_cat, q_catI, q_catJ, q_catR]) ⟨Nat.le_of_ble_eq_true rfl, Nat.le_of_ble_eq_true rfl⟩ ⟨Nat.le_of_ble_eq_true rfl, Nat.le_of_ble_eq_true rfl⟩ dX0_send_70 (fun r16_ S17_ H locs hp Y => ?_)
    obtain ⟨x18_, rfl, h⟩ := hp
    refine W.eq (g2 := F0 m 73 ls [.int x18_]) rfl ?_
    refine lv_if_eq (tgt := 80) hx hb dX0_send_73 (by decide) (fun c19_ => ?_) (fun c19_ => ?_)
    · replace h := h.1 c19_
      refine lv_aload_n hx hb dX0_send_80 rfl (lv_at hl 1 rfl) ?_
      refine lv_bipush (v := 32) hx hb dX0_send_81 (by decide) ?_
      refine lv_iload_n hx hb dX0_send_83 rfl (lv_at hl 2 rfl) ?_
      refine lv_iadd hx hb dX0_send_84 ?_
      refine lv_iload_n hx hb dX0_send_85 rfl (lv_at hl 3 rfl) ?_
      refine lv_iload_n hx hb dX0_send_86 rfl (lv_at hl 4 rfl) ?_
      obtain ⟨k20_, h⟩ := h
      refine q_callV X Y hl (cm_X0_waitWith h) mt_X0_waitWith mi_X0_waitWith ml_X0_210 (ci := 0) rfl k20_ (by decide) rfl rfl (by first | exact Nat.le_of_ble_eq_true rfl | simp [q_cat, q_catI, q_catJ, q_catR]) ⟨Nat.le_of_ble_eq_true rfl, Nat.le_of_ble_eq_true rfl⟩ ⟨Nat.le_of_ble_eq_true rfl, Nat.le_of_ble_eq_true rfl⟩ dX0_send_87 (fun r21_ S22_ H locs hp Y => ?_)
      obtain ⟨x23_, rfl, h⟩ := hp
      refine W.eq (g2 := F0 m 90 ls [.int x23_]) rfl ?_
      exact cb_X0_send_90 X Y (lv_sub hl [] rfl) h
    · replace h := h.2 c19_
      refine lv_iconst (v := 0) hx hb dX0_send_76 (by decide) ?_
      refine lv_goto (tgt := 90) hx hb dX0_send_77 (by decide) ?_
      exact cb_X0_send_90 X Y (lv_sub hl [] rfl) h
  · replace h := h.2 c11_
    refine lv_iconst (v := 3) hx hb dX0_send_61 (by decide) ?_
    exact q_iret X Y rfl (Nat.le_refl _) (Nat.le_refl _) h dX0_send_62
def wm_X0_send (S : q_S) (a0 : Nat) (x1 : Int32) (x2 : Int32) (x3 : Int32) (Q : Option Value → q_S → Prop) : Prop := q_K S a0 = 1 ∧ (∃ a25_ : Nat, (q_P S 1 a0) = some a25_ ∧ (q_K S a25_ = 6 ∧ (wm_X5_thingAt S a25_ (4 : Int32) x1 (fun r28_ S29_ => ∃ r30_ : Option Nat, r28_ = some (va_rf r30_) ∧ (((r30_ = none → (wb_X0_send_40 S29_ Q)) ∧ (¬ r30_ = none → (∃ a32_ : Nat, r30_ = some a32_ ∧ (q_K S29_ a32_ = 11 ∧ ((((q_I S29_ 2006 a32_) = 0 → (wb_X0_send_40 S29_ Q)) ∧ (¬ (q_I S29_ 2006 a32_) = 0 → ((((q_I S29_ 2007 a32_) = 0 → (wb_X0_send_42 S29_ a0 x1 x2 x3 r30_ Q)) ∧ (¬ (q_I S29_ 2007 a32_) = 0 → (q_K S29_ a0 = 1 ∧ (wm_X0_isNoTime S29_ a0 x3 (fun r38_ S39_ => ∃ x40_ : Int32, r38_ = some (.int x40_) ∧ (((x40_ = 0 → (wb_X0_send_42 S39_ a0 x1 x2 x3 r30_ Q)) ∧ (¬ x40_ = 0 → (wb_X0_send_40 S39_ Q))))))))))))))))))))))
set_option maxHeartbeats 4000000 in
set_option maxRecDepth 100000 in
theorem cm_X0_send {l : Launch} {D : va_G} {cy : Nat → ClassId} {lo : Nat} {S : q_S} {a0 : Nat} {x1 : Int32} {x2 : Int32} {x3 : Int32} {Q : Option Value → q_S → Prop} (h : wm_X0_send S a0 x1 x2 x3 Q) : q_Met l D cy lo yX0_send cX0_send 6 (some .int) 4 94 0 0 [.ref a0, .int x1, .int x2, .int x3] S Q := by
  refine q_body (by decide) (by first | exact Nat.le_of_ble_eq_true rfl | simp [lg_sl, q_cat, q_catI, q_catJ, q_catR]) ?_
  intro p e s m below meth c ls X hnm Y hl
  have hx := X.1
  have hb := X.2.1
  have hl : lv_has ls 6 [(0, .ref a0), (1, .int x1), (2, .int x2), (3, .int x3)] := by first | exact hl | simpa [lv_args, q_cat, q_catI, q_catJ, q_catR] using hl
  generalize hargs : ([.ref a0, .int x1, .int x2, .int x3] : List Value).toArray = args at X ⊢
  unfold wm_X0_send at h
  refine lv_aload_n hx hb dX0_send_0 rfl (lv_at hl 0 rfl) ?_
  obtain ⟨k24_, h⟩ := h
  refine q_getP X Y kX0 1 rfl fl_X0_15 k24_ rfl dX0_send_1 ?_
  refine lv_iconst (v := 4) hx hb dX0_send_4 (by decide) ?_
  refine lv_iload_n hx hb dX0_send_5 rfl (lv_at hl 1 rfl) ?_
  obtain ⟨a25_, e26_, h⟩ := h
  refine q_nn [.int x1, .int (4 : Int32)] e26_ ?_
  obtain ⟨k27_, h⟩ := h
  refine q_callV X Y hl (cm_X5_thingAt h) mt_X5_thingAt mi_X5_thingAt ml_X0_144 (ci := 5) rfl k27_ (by decide) rfl rfl (by first | exact Nat.le_of_ble_eq_true rfl | simp [q_cat, q_catI, q_catJ, q_catR]) ⟨Nat.le_of_ble_eq_true rfl, Nat.le_of_ble_eq_true rfl⟩ ⟨Nat.le_of_ble_eq_true rfl, Nat.le_of_ble_eq_true rfl⟩ dX0_send_6 (fun r28_ S29_ H locs hp Y => ?_)
  obtain ⟨r30_, rfl, h⟩ := hp
  refine W.eq (g2 := F0 m 9 ls [va_rf r30_]) rfl ?_
  refine q_astore (i := 4) (lv' := [(4, va_rf r30_), (0, .ref a0), (1, .int x1), (2, .int x2), (3, .int x3)]) hx hb dX0_send_9 hl (by decide) (by first | rfl | simp [q_cat, q_catI, q_catJ, q_catR]) (fun ls hl => ?_)
  refine q_aload hx hb dX0_send_11 (lv_at hl 0 rfl) ?_
  refine q_ifnull (r := r30_) (tgt := 40) hx hb dX0_send_13 (by decide) (fun c31_ => ?_) (fun c31_ => ?_)
  · replace h := h.1 c31_
    exact cb_X0_send_40 X Y (lv_sub hl [] rfl) h
  · replace h := h.2 c31_
    refine q_aload hx hb dX0_send_16 (lv_at hl 0 rfl) ?_
    obtain ⟨a32_, e33_, h⟩ := h
    refine q_nn [] e33_ ?_
    obtain ⟨k34_, h⟩ := h
    refine q_getI X Y kX10 6 rfl fl_X0_221 k34_ dX0_send_18 ?_
    refine lv_if_eq (tgt := 40) hx hb dX0_send_21 (by decide) (fun c35_ => ?_) (fun c35_ => ?_)
    · replace h := h.1 c35_
      exact cb_X0_send_40 X Y (lv_sub hl [] rfl) h
    · replace h := h.2 c35_
      refine q_aload hx hb dX0_send_24 (lv_at hl 0 rfl) ?_
      refine q_nn [] e33_ ?_
      refine q_getI X Y kX10 7 rfl fl_X0_224 k34_ dX0_send_26 ?_
      refine lv_if_eq (tgt := 42) hx hb dX0_send_29 (by decide) (fun c36_ => ?_) (fun c36_ => ?_)
      · replace h := h.1 c36_
        exact cb_X0_send_42 X Y (lv_sub hl [1, 2, 3, 4, 0] rfl) h
      · replace h := h.2 c36_
        refine lv_aload_n hx hb dX0_send_32 rfl (lv_at hl 1 rfl) ?_
        refine lv_iload_n hx hb dX0_send_33 rfl (lv_at hl 4 rfl) ?_
        obtain ⟨k37_, h⟩ := h
        refine q_callV X Y hl (cm_X0_isNoTime h) mt_X0_isNoTime mi_X0_isNoTime ml_X0_164 (ci := 0) rfl k37_ (by decide) rfl rfl (by first | exact Nat.le_of_ble_eq_true rfl | simp [q_cat, q_catI, q_catJ, q_catR]) ⟨Nat.le_of_ble_eq_true rfl, Nat.le_of_ble_eq_true rfl⟩ ⟨Nat.le_of_ble_eq_true rfl, Nat.le_of_ble_eq_true rfl⟩ dX0_send_34 (fun r38_ S39_ H locs hp Y => ?_)
        obtain ⟨x40_, rfl, h⟩ := hp
        refine W.eq (g2 := F0 m 37 ls [.int x40_]) rfl ?_
        refine lv_if_eq (tgt := 42) hx hb dX0_send_37 (by decide) (fun c41_ => ?_) (fun c41_ => ?_)
        · replace h := h.1 c41_
          exact cb_X0_send_42 X Y (lv_sub hl [1, 2, 3, 4, 0] rfl) h
        · replace h := h.2 c41_
          exact cb_X0_send_40 X Y (lv_sub hl [] rfl) h
-- X0_receive
theorem fl_X0_238 : Cond.fieldLink RX0 238 "PartitionWorks$Channel" "queuing" "Z" ∈ q_G := q_tb (i := 1112) (by decide +kernel) (by decide +kernel)
theorem fl_X0_249 : Cond.fieldLink RX0 249 "PartitionWorks$Channel" "stamp" "I" ∈ q_G := q_tb (i := 1126) (by decide +kernel) (by decide +kernel)
theorem fl_X0_241 : Cond.fieldLink RX0 241 "PartitionWorks$Channel" "queue" "LPartitionWorks$Queue;" ∈ q_G := q_tb (i := 1121) (by decide +kernel) (by decide +kernel)
theorem ml_X0_252 : Cond.methodLink RX0 252 yX8_at ∈ q_G := q_tb (i := 1636) (by decide +kernel) (by decide +kernel)
theorem fl_X0_255 : Cond.fieldLink RX0 255 "PartitionWorks$Channel" "limit" "I" ∈ q_G := q_tb (i := 1119) (by decide +kernel) (by decide +kernel)
theorem fl_X0_242 : Cond.fieldLink RX0 242 "PartitionWorks$Channel" "source" "LPartitionWorks$Partition;" ∈ q_G := q_tb (i := 1136) (by decide +kernel) (by decide +kernel)
theorem fl_X0_245 : Cond.fieldLink RX0 245 "PartitionWorks$Channel" "sourceSlot" "I" ∈ q_G := q_tb (i := 1138) (by decide +kernel) (by decide +kernel)
theorem fl_X0_248 : Cond.fieldLink RX0 248 "PartitionWorks$Channel" "fifo" "Z" ∈ q_G := q_tb (i := 1115) (by decide +kernel) (by decide +kernel)
theorem dX0_receive_0 : decode cX0_receive 0 = .ok (.aload_n 0, 1) := by decide +kernel
theorem dX0_receive_1 : decode cX0_receive 1 = .ok (.getfield 15, 3) := by decide +kernel
theorem dX0_receive_4 : decode cX0_receive 4 = .ok (.iconst 4, 1) := by decide +kernel
theorem dX0_receive_5 : decode cX0_receive 5 = .ok (.iload_n 1, 1) := by decide +kernel
theorem dX0_receive_6 : decode cX0_receive 6 = .ok (.invokevirtual 144, 3) := by decide +kernel
theorem dX0_receive_9 : decode cX0_receive 9 = .ok (.astore_n 3, 1) := by decide +kernel
theorem dX0_receive_10 : decode cX0_receive 10 = .ok (.aload_n 3, 1) := by decide +kernel
theorem dX0_receive_11 : decode cX0_receive 11 = .ok (.ifnull 25, 3) := by decide +kernel
theorem dX0_receive_14 : decode cX0_receive 14 = .ok (.aload_n 3, 1) := by decide +kernel
theorem dX0_receive_15 : decode cX0_receive 15 = .ok (.getfield 221, 3) := by decide +kernel
theorem dX0_receive_18 : decode cX0_receive 18 = .ok (.ifCond .ne 18, 3) := by decide +kernel
theorem dX0_receive_21 : decode cX0_receive 21 = .ok (.aload_n 3, 1) := by decide +kernel
theorem dX0_receive_22 : decode cX0_receive 22 = .ok (.getfield 224, 3) := by decide +kernel
theorem dX0_receive_25 : decode cX0_receive 25 = .ok (.ifCond .eq 13, 3) := by decide +kernel
theorem dX0_receive_28 : decode cX0_receive 28 = .ok (.aload_n 0, 1) := by decide +kernel
theorem dX0_receive_29 : decode cX0_receive 29 = .ok (.iload_n 2, 1) := by decide +kernel
theorem dX0_receive_30 : decode cX0_receive 30 = .ok (.invokevirtual 164, 3) := by decide +kernel
theorem dX0_receive_33 : decode cX0_receive 33 = .ok (.ifCond .eq 5, 3) := by decide +kernel
theorem dX0_receive_36 : decode cX0_receive 36 = .ok (.iconst 1, 1) := by decide +kernel
theorem dX0_receive_37 : decode cX0_receive 37 = .ok (.ireturn, 1) := by decide +kernel
theorem dX0_receive_38 : decode cX0_receive 38 = .ok (.aload_n 0, 1) := by decide +kernel
theorem dX0_receive_39 : decode cX0_receive 39 = .ok (.getfield 9, 3) := by decide +kernel
theorem dX0_receive_42 : decode cX0_receive 42 = .ok (.aload_n 3, 1) := by decide +kernel
theorem dX0_receive_43 : decode cX0_receive 43 = .ok (.getfield 227, 3) := by decide +kernel
theorem dX0_receive_46 : decode cX0_receive 46 = .ok (.invokevirtual 230, 3) := by decide +kernel
theorem dX0_receive_49 : decode cX0_receive 49 = .ok (.astore 4, 2) := by decide +kernel
theorem dX0_receive_51 : decode cX0_receive 51 = .ok (.aload 4, 2) := by decide +kernel
theorem dX0_receive_53 : decode cX0_receive 53 = .ok (.ifnonnull 5, 3) := by decide +kernel
theorem dX0_receive_56 : decode cX0_receive 56 = .ok (.iconst 3, 1) := by decide +kernel
theorem dX0_receive_57 : decode cX0_receive 57 = .ok (.ireturn, 1) := by decide +kernel
theorem dX0_receive_58 : decode cX0_receive 58 = .ok (.aload 4, 2) := by decide +kernel
theorem dX0_receive_60 : decode cX0_receive 60 = .ok (.getfield 238, 3) := by decide +kernel
theorem dX0_receive_63 : decode cX0_receive 63 = .ok (.ifCond .eq 33, 3) := by decide +kernel
theorem dX0_receive_66 : decode cX0_receive 66 = .ok (.aload_n 0, 1) := by decide +kernel
theorem dX0_receive_67 : decode cX0_receive 67 = .ok (.aload 4, 2) := by decide +kernel
theorem dX0_receive_69 : decode cX0_receive 69 = .ok (.getfield 241, 3) := by decide +kernel
theorem dX0_receive_72 : decode cX0_receive 72 = .ok (.bipush 32, 2) := by decide +kernel
theorem dX0_receive_74 : decode cX0_receive 74 = .ok (.iload_n 1, 1) := by decide +kernel
theorem dX0_receive_75 : decode cX0_receive 75 = .ok (.iadd, 1) := by decide +kernel
theorem dX0_receive_76 : decode cX0_receive 76 = .ok (.iload_n 2, 1) := by decide +kernel
theorem dX0_receive_77 : decode cX0_receive 77 = .ok (.aload 4, 2) := by decide +kernel
theorem dX0_receive_79 : decode cX0_receive 79 = .ok (.getfield 242, 3) := by decide +kernel
theorem dX0_receive_82 : decode cX0_receive 82 = .ok (.aload 4, 2) := by decide +kernel
theorem dX0_receive_84 : decode cX0_receive 84 = .ok (.getfield 245, 3) := by decide +kernel
theorem dX0_receive_87 : decode cX0_receive 87 = .ok (.aload 4, 2) := by decide +kernel
theorem dX0_receive_89 : decode cX0_receive 89 = .ok (.getfield 248, 3) := by decide +kernel
theorem dX0_receive_92 : decode cX0_receive 92 = .ok (.invokevirtual 189, 3) := by decide +kernel
theorem dX0_receive_95 : decode cX0_receive 95 = .ok (.ireturn, 1) := by decide +kernel
theorem dX0_receive_96 : decode cX0_receive 96 = .ok (.aload 4, 2) := by decide +kernel
theorem dX0_receive_98 : decode cX0_receive 98 = .ok (.getfield 249, 3) := by decide +kernel
theorem dX0_receive_101 : decode cX0_receive 101 = .ok (.iconst (-1), 1) := by decide +kernel
theorem dX0_receive_102 : decode cX0_receive 102 = .ok (.if_icmp .ne 5, 3) := by decide +kernel
theorem dX0_receive_105 : decode cX0_receive 105 = .ok (.iconst 2, 1) := by decide +kernel
theorem dX0_receive_106 : decode cX0_receive 106 = .ok (.ireturn, 1) := by decide +kernel
theorem dX0_receive_107 : decode cX0_receive 107 = .ok (.aload_n 0, 1) := by decide +kernel
theorem dX0_receive_108 : decode cX0_receive 108 = .ok (.getfield 29, 3) := by decide +kernel
theorem dX0_receive_111 : decode cX0_receive 111 = .ok (.bipush 11, 2) := by decide +kernel
theorem dX0_receive_113 : decode cX0_receive 113 = .ok (.aload 4, 2) := by decide +kernel
theorem dX0_receive_115 : decode cX0_receive 115 = .ok (.getfield 241, 3) := by decide +kernel
theorem dX0_receive_118 : decode cX0_receive 118 = .ok (.iconst 0, 1) := by decide +kernel
theorem dX0_receive_119 : decode cX0_receive 119 = .ok (.invokevirtual 252, 3) := by decide +kernel
theorem dX0_receive_122 : decode cX0_receive 122 = .ok (.iastore, 1) := by decide +kernel
theorem dX0_receive_123 : decode cX0_receive 123 = .ok (.aload_n 0, 1) := by decide +kernel
theorem dX0_receive_124 : decode cX0_receive 124 = .ok (.getfield 36, 3) := by decide +kernel
theorem dX0_receive_127 : decode cX0_receive 127 = .ok (.aload 4, 2) := by decide +kernel
theorem dX0_receive_129 : decode cX0_receive 129 = .ok (.getfield 249, 3) := by decide +kernel
theorem dX0_receive_132 : decode cX0_receive 132 = .ok (.isub, 1) := by decide +kernel
theorem dX0_receive_133 : decode cX0_receive 133 = .ok (.aload 4, 2) := by decide +kernel
theorem dX0_receive_135 : decode cX0_receive 135 = .ok (.getfield 255, 3) := by decide +kernel
theorem dX0_receive_138 : decode cX0_receive 138 = .ok (.if_icmp .gt 7, 3) := by decide +kernel
theorem dX0_receive_141 : decode cX0_receive 141 = .ok (.iconst 0, 1) := by decide +kernel
theorem dX0_receive_142 : decode cX0_receive 142 = .ok (.goto 4, 3) := by decide +kernel
theorem dX0_receive_145 : decode cX0_receive 145 = .ok (.iconst 5, 1) := by decide +kernel
theorem dX0_receive_146 : decode cX0_receive 146 = .ok (.ireturn, 1) := by decide +kernel
def wb_X0_receive_36  (S : q_S) (Q : Option Value → q_S → Prop) : Prop := Q (some (.int (1 : Int32))) S
set_option maxHeartbeats 4000000 in
set_option maxRecDepth 100000 in
theorem cb_X0_receive_36 {p : Program} {l : Launch} {e : Env} {s : State} {m : MethodId} {args : Array Value} {below : List Frame} {meth : Method} {c : Code} {D : va_G} {cy : Nat → ClassId} {lo : Nat}  {S : q_S} {Q : Option Value → q_S → Prop} {H : Heap} {locs : List Loc} {ls : Array Slot} (X : q_X p s m args meth c RX0 cX0_receive 5 (some .int) D cy lo)  (Y : q_Y D cy lo s S H locs) (hl : lv_has ls 5 []) (h : wb_X0_receive_36 S Q) : W p l e ({ frames := 4, cells := 0, slots := 0, locals := 97 } : Room) s m args below meth c H locs 0 0 (MQ below (q_Q D cy lo Q) args s 0 0 (fun q => lo ≤ q)) (F0 m 36 ls []) := by
  have hx := X.1
  have hb := X.2.1
  unfold wb_X0_receive_36 at h
  refine lv_iconst (v := 1) hx hb dX0_receive_36 (by decide) ?_
  exact q_iret X Y rfl (Nat.le_refl _) (Nat.le_refl _) h dX0_receive_37
def wb_X0_receive_146  (S : q_S) (xs0 : Int32) (Q : Option Value → q_S → Prop) : Prop := Q (some (.int xs0)) S
set_option maxHeartbeats 4000000 in
set_option maxRecDepth 100000 in
theorem cb_X0_receive_146 {p : Program} {l : Launch} {e : Env} {s : State} {m : MethodId} {args : Array Value} {below : List Frame} {meth : Method} {c : Code} {D : va_G} {cy : Nat → ClassId} {lo : Nat}  {S : q_S} {xs0 : Int32} {Q : Option Value → q_S → Prop} {H : Heap} {locs : List Loc} {ls : Array Slot} (X : q_X p s m args meth c RX0 cX0_receive 5 (some .int) D cy lo)  (Y : q_Y D cy lo s S H locs) (hl : lv_has ls 5 []) (h : wb_X0_receive_146 S xs0 Q) : W p l e ({ frames := 4, cells := 0, slots := 0, locals := 97 } : Room) s m args below meth c H locs 0 0 (MQ below (q_Q D cy lo Q) args s 0 0 (fun q => lo ≤ q)) (F0 m 146 ls [.int xs0]) := by
  have hx := X.1
  have hb := X.2.1
  unfold wb_X0_receive_146 at h
  exact q_iret X Y rfl (Nat.le_refl _) (Nat.le_refl _) h dX0_receive_146
def wb_X0_receive_38  (S : q_S) (a0 : Nat) (x1 : Int32) (x2 : Int32) (r3 : Option Nat) (Q : Option Value → q_S → Prop) : Prop := q_K S a0 = 1 ∧ (∃ a2_ : Nat, r3 = some a2_ ∧ (q_K S a2_ = 11 ∧ (∃ a5_ : Nat, (q_P S 0 a0) = some a5_ ∧ (q_K S a5_ = 7 ∧ (wm_X6_channelAt S a5_ (q_I S 2008 a2_) (fun r8_ S9_ => ∃ r10_ : Option Nat, r8_ = some (va_rf r10_) ∧ (((¬ r10_ = none → (∃ a12_ : Nat, r10_ = some a12_ ∧ (q_K S9_ a12_ = 2 ∧ ((((q_I S9_ 201 a12_) = 0 → (((¬ (q_I S9_ 205 a12_) = (-1 : Int32) → (q_K S9_ a0 = 1 ∧ (∃ a18_ : Nat, (q_P S9_ 204 a12_) = some a18_ ∧ (q_K S9_ a18_ = 9 ∧ (wm_X8_at S9_ a18_ (0 : Int32) (fun r21_ S22_ => ∃ x23_ : Int32, r21_ = some (.int x23_) ∧ (∃ a24_ : Nat, (q_P S9_ 3 a0) = some a24_ ∧ (q_K S22_ a24_ = 21 ∧ (vp_in (11 : Int32) (q_N S22_ a24_) ∧ (q_K (qs_A S22_ a24_ (11 : Int32).toNatClampNeg x23_) a0 = 1 ∧ (q_K (qs_A S22_ a24_ (11 : Int32).toNatClampNeg x23_) a12_ = 2 ∧ ((((q_I (qs_A S22_ a24_ (11 : Int32).toNatClampNeg x23_) 203 a12_) < ((q_I (qs_A S22_ a24_ (11 : Int32).toNatClampNeg x23_) 4 a0) - (q_I (qs_A S22_ a24_ (11 : Int32).toNatClampNeg x23_) 205 a12_)) → (wb_X0_receive_146 (qs_A S22_ a24_ (11 : Int32).toNatClampNeg x23_) (5 : Int32) Q)) ∧ (¬ (q_I (qs_A S22_ a24_ (11 : Int32).toNatClampNeg x23_) 203 a12_) < ((q_I (qs_A S22_ a24_ (11 : Int32).toNatClampNeg x23_) 4 a0) - (q_I (qs_A S22_ a24_ (11 : Int32).toNatClampNeg x23_) 205 a12_)) → (wb_X0_receive_146 (qs_A S22_ a24_ (11 : Int32).toNatClampNeg x23_) (0 : Int32) Q))))))))))))))) ∧ ((q_I S9_ 205 a12_) = (-1 : Int32) → (Q (some (.int (2 : Int32))) S9_))))) ∧ (¬ (q_I S9_ 201 a12_) = 0 → (q_K S9_ a0 = 1 ∧ (wm_X0_takeFrom S9_ a0 (q_P S9_ 204 a12_) ((32 : Int32) + x1) x2 (q_P S9_ 209 a12_) (q_I S9_ 210 a12_) (q_I S9_ 202 a12_) (fun r32_ S33_ => ∃ x34_ : Int32, r32_ = some (.int x34_) ∧ (Q (some (.int x34_)) S33_)))))))))) ∧ (r10_ = none → (Q (some (.int (3 : Int32))) S9_))))))))))
set_option maxHeartbeats 4000000 in
set_option maxRecDepth 100000 in
theorem cb_X0_receive_38 {p : Program} {l : Launch} {e : Env} {s : State} {m : MethodId} {args : Array Value} {below : List Frame} {meth : Method} {c : Code} {D : va_G} {cy : Nat → ClassId} {lo : Nat}  {S : q_S} {a0 : Nat} {x1 : Int32} {x2 : Int32} {r3 : Option Nat} {Q : Option Value → q_S → Prop} {H : Heap} {locs : List Loc} {ls : Array Slot} (X : q_X p s m args meth c RX0 cX0_receive 5 (some .int) D cy lo)  (Y : q_Y D cy lo s S H locs) (hl : lv_has ls 5 [(0, .ref a0), (1, .int x1), (2, .int x2), (3, va_rf r3)]) (h : wb_X0_receive_38 S a0 x1 x2 r3 Q) : W p l e ({ frames := 4, cells := 0, slots := 0, locals := 97 } : Room) s m args below meth c H locs 0 0 (MQ below (q_Q D cy lo Q) args s 0 0 (fun q => lo ≤ q)) (F0 m 38 ls []) := by
  have hx := X.1
  have hb := X.2.1
  unfold wb_X0_receive_38 at h
  refine lv_aload_n hx hb dX0_receive_38 rfl (lv_at hl 0 rfl) ?_
  obtain ⟨k1_, h⟩ := h
  refine q_getP X Y kX0 0 rfl fl_X0_9 k1_ rfl dX0_receive_39 ?_
  refine q_aload_n hx hb dX0_receive_42 rfl (lv_at hl 3 rfl) ?_
  obtain ⟨a2_, e3_, h⟩ := h
  refine q_nn [] e3_ ?_
  obtain ⟨k4_, h⟩ := h
  refine q_getI X Y kX10 8 rfl fl_X0_227 k4_ dX0_receive_43 ?_
  obtain ⟨a5_, e6_, h⟩ := h
  refine q_nn [.int (q_I S 2008 a2_)] e6_ ?_
  obtain ⟨k7_, h⟩ := h
  refine q_callV X Y hl (cm_X6_channelAt h) mt_X6_channelAt mi_X6_channelAt ml_X0_230 (ci := 6) rfl k7_ (by decide) rfl rfl (by first | exact Nat.le_of_ble_eq_true rfl | simp [q_cat, q_catI, q_catJ, q_catR]) ⟨Nat.le_of_ble_eq_true rfl, Nat.le_of_ble_eq_true rfl⟩ ⟨Nat.le_of_ble_eq_true rfl, Nat.le_of_ble_eq_true rfl⟩ dX0_receive_46 (fun r8_ S9_ H locs hp Y => ?_)
  obtain ⟨r10_, rfl, h⟩ := hp
  refine W.eq (g2 := F0 m 49 ls [va_rf r10_]) rfl ?_
  refine q_astore (i := 4) (lv' := [(4, va_rf r10_), (0, .ref a0), (1, .int x1), (2, .int x2), (3, va_rf r3)]) hx hb dX0_receive_49 hl (by decide) (by first | rfl | simp [q_cat, q_catI, q_catJ, q_catR]) (fun ls hl => ?_)
  refine q_aload hx hb dX0_receive_51 (lv_at hl 0 rfl) ?_
  refine q_ifnonnull (r := r10_) (tgt := 58) hx hb dX0_receive_53 (by decide) (fun c11_ => ?_) (fun c11_ => ?_)
  · replace h := h.1 c11_
    refine q_aload hx hb dX0_receive_58 (lv_at hl 0 rfl) ?_
    obtain ⟨a12_, e13_, h⟩ := h
    refine q_nn [] e13_ ?_
    obtain ⟨k14_, h⟩ := h
    refine q_getI X Y kX1 1 rfl fl_X0_238 k14_ dX0_receive_60 ?_
    refine lv_if_eq (tgt := 96) hx hb dX0_receive_63 (by decide) (fun c15_ => ?_) (fun c15_ => ?_)
    · replace h := h.1 c15_
      refine q_aload hx hb dX0_receive_96 (lv_at hl 0 rfl) ?_
      refine q_nn [] e13_ ?_
      refine q_getI X Y kX1 5 rfl fl_X0_249 k14_ dX0_receive_98 ?_
      refine lv_iconst (v := (-1)) hx hb dX0_receive_101 (by decide) ?_
      refine lv_icmp_ne (tgt := 107) hx hb dX0_receive_102 (by decide) (fun c16_ => ?_) (fun c16_ => ?_)
      · replace h := h.1 c16_
        refine lv_aload_n hx hb dX0_receive_107 rfl (lv_at hl 1 rfl) ?_
        obtain ⟨k17_, h⟩ := h
        refine q_getP X Y kX0 3 rfl fl_X0_29 k17_ rfl dX0_receive_108 ?_
        refine lv_bipush (v := 11) hx hb dX0_receive_111 (by decide) ?_
        refine q_aload hx hb dX0_receive_113 (lv_at hl 0 rfl) ?_
        refine q_nn [] e13_ ?_
        refine q_getP X Y kX1 4 rfl fl_X0_241 k14_ rfl dX0_receive_115 ?_
        refine lv_iconst (v := 0) hx hb dX0_receive_118 (by decide) ?_
        obtain ⟨a18_, e19_, h⟩ := h
        refine q_nn [.int (0 : Int32)] e19_ ?_
        obtain ⟨k20_, h⟩ := h
        refine q_callV X Y hl (cm_X8_at h) mt_X8_at mi_X8_at ml_X0_252 (ci := 8) rfl k20_ (by decide) rfl rfl (by first | exact Nat.le_of_ble_eq_true rfl | simp [q_cat, q_catI, q_catJ, q_catR]) ⟨Nat.le_of_ble_eq_true rfl, Nat.le_of_ble_eq_true rfl⟩ ⟨Nat.le_of_ble_eq_true rfl, Nat.le_of_ble_eq_true rfl⟩ dX0_receive_119 (fun r21_ S22_ H locs hp Y => ?_)
        obtain ⟨x23_, rfl, h⟩ := hp
        refine W.eq (g2 := F0 m 122 ls [.int x23_, .int (11 : Int32), va_rf (q_P S9_ 3 a0)]) rfl ?_
        obtain ⟨a24_, e25_, h⟩ := h
        refine q_nn [.int x23_, .int (11 : Int32)] e25_ ?_
        obtain ⟨k26_, h⟩ := h
        obtain ⟨i27_, h⟩ := h
        refine q_ist X Y k26_ i27_ dX0_receive_122 (fun H locs Y => ?_)
        refine lv_aload_n hx hb dX0_receive_123 rfl (lv_at hl 1 rfl) ?_
        obtain ⟨k28_, h⟩ := h
        refine q_getI X Y kX0 4 rfl fl_X0_36 k28_ dX0_receive_124 ?_
        refine q_aload hx hb dX0_receive_127 (lv_at hl 0 rfl) ?_
        refine q_nn [] e13_ ?_
        obtain ⟨k29_, h⟩ := h
        refine q_getI X Y kX1 5 rfl fl_X0_249 k29_ dX0_receive_129 ?_
        refine lv_isub hx hb dX0_receive_132 ?_
        refine q_aload hx hb dX0_receive_133 (lv_at hl 0 rfl) ?_
        refine q_nn [] e13_ ?_
        refine q_getI X Y kX1 3 rfl fl_X0_255 k29_ dX0_receive_135 ?_
        refine lv_icmp_gt (tgt := 145) hx hb dX0_receive_138 (by decide) (fun c30_ => ?_) (fun c30_ => ?_)
        · replace h := h.1 c30_
          refine lv_iconst (v := 5) hx hb dX0_receive_145 (by decide) ?_
          exact cb_X0_receive_146 X Y (lv_sub hl [] rfl) h
        · replace h := h.2 c30_
          refine lv_iconst (v := 0) hx hb dX0_receive_141 (by decide) ?_
          refine lv_goto (tgt := 146) hx hb dX0_receive_142 (by decide) ?_
          exact cb_X0_receive_146 X Y (lv_sub hl [] rfl) h
      · replace h := h.2 c16_
        refine lv_iconst (v := 2) hx hb dX0_receive_105 (by decide) ?_
        exact q_iret X Y rfl (Nat.le_refl _) (Nat.le_refl _) h dX0_receive_106
    · replace h := h.2 c15_
      refine lv_aload_n hx hb dX0_receive_66 rfl (lv_at hl 1 rfl) ?_
      refine q_aload hx hb dX0_receive_67 (lv_at hl 0 rfl) ?_
      refine q_nn [] e13_ ?_
      refine q_getP X Y kX1 4 rfl fl_X0_241 k14_ rfl dX0_receive_69 ?_
      refine lv_bipush (v := 32) hx hb dX0_receive_72 (by decide) ?_
      refine lv_iload_n hx hb dX0_receive_74 rfl (lv_at hl 2 rfl) ?_
      refine lv_iadd hx hb dX0_receive_75 ?_
      refine lv_iload_n hx hb dX0_receive_76 rfl (lv_at hl 3 rfl) ?_
      refine q_aload hx hb dX0_receive_77 (lv_at hl 0 rfl) ?_
      refine q_nn [] e13_ ?_
      refine q_getP X Y kX1 9 rfl fl_X0_242 k14_ rfl dX0_receive_79 ?_
      refine q_aload hx hb dX0_receive_82 (lv_at hl 0 rfl) ?_
      refine q_nn [] e13_ ?_
      refine q_getI X Y kX1 10 rfl fl_X0_245 k14_ dX0_receive_84 ?_
      refine q_aload hx hb dX0_receive_87 (lv_at hl 0 rfl) ?_
      refine q_nn [] e13_ ?_
      refine q_getI X Y kX1 2 rfl fl_X0_248 k14_ dX0_receive_89 ?_
      obtain ⟨k31_, h⟩ := h
      refine q_callV X Y hl (cm_X0_takeFrom h) mt_X0_takeFrom mi_X0_takeFrom ml_X0_189 (ci := 0) rfl k31_ (by decide) rfl rfl (by first | exact Nat.le_of_ble_eq_true rfl | simp [q_cat, q_catI, q_catJ, q_catR]) ⟨Nat.le_of_ble_eq_true rfl, Nat.le_of_ble_eq_true rfl⟩ ⟨Nat.le_of_ble_eq_true rfl, Nat.le_of_ble_eq_true rfl⟩ dX0_receive_92 (fun r32_ S33_ H locs hp Y => ?_)
      obtain ⟨x34_, rfl, h⟩ := hp
      refine W.eq (g2 := F0 m 95 ls [.int x34_]) rfl ?_
      exact q_iret X Y rfl (Nat.le_refl _) (Nat.le_refl _) h dX0_receive_95
  · replace h := h.2 c11_
    refine lv_iconst (v := 3) hx hb dX0_receive_56 (by decide) ?_
    exact q_iret X Y rfl (Nat.le_refl _) (Nat.le_refl _) h dX0_receive_57
def wm_X0_receive (S : q_S) (a0 : Nat) (x1 : Int32) (x2 : Int32) (Q : Option Value → q_S → Prop) : Prop := q_K S a0 = 1 ∧ (∃ a36_ : Nat, (q_P S 1 a0) = some a36_ ∧ (q_K S a36_ = 6 ∧ (wm_X5_thingAt S a36_ (4 : Int32) x1 (fun r39_ S40_ => ∃ r41_ : Option Nat, r39_ = some (va_rf r41_) ∧ (((r41_ = none → (wb_X0_receive_36 S40_ Q)) ∧ (¬ r41_ = none → (∃ a43_ : Nat, r41_ = some a43_ ∧ (q_K S40_ a43_ = 11 ∧ (((¬ (q_I S40_ 2006 a43_) = 0 → (wb_X0_receive_36 S40_ Q)) ∧ ((q_I S40_ 2006 a43_) = 0 → ((((q_I S40_ 2007 a43_) = 0 → (wb_X0_receive_38 S40_ a0 x1 x2 r41_ Q)) ∧ (¬ (q_I S40_ 2007 a43_) = 0 → (q_K S40_ a0 = 1 ∧ (wm_X0_isNoTime S40_ a0 x2 (fun r49_ S50_ => ∃ x51_ : Int32, r49_ = some (.int x51_) ∧ (((x51_ = 0 → (wb_X0_receive_38 S50_ a0 x1 x2 r41_ Q)) ∧ (¬ x51_ = 0 → (wb_X0_receive_36 S50_ Q))))))))))))))))))))))
set_option maxHeartbeats 4000000 in
set_option maxRecDepth 100000 in
theorem cm_X0_receive {l : Launch} {D : va_G} {cy : Nat → ClassId} {lo : Nat} {S : q_S} {a0 : Nat} {x1 : Int32} {x2 : Int32} {Q : Option Value → q_S → Prop} (h : wm_X0_receive S a0 x1 x2 Q) : q_Met l D cy lo yX0_receive cX0_receive 5 (some .int) 4 97 0 0 [.ref a0, .int x1, .int x2] S Q := by
  refine q_body (by decide) (by first | exact Nat.le_of_ble_eq_true rfl | simp [lg_sl, q_cat, q_catI, q_catJ, q_catR]) ?_
  intro p e s m below meth c ls X hnm Y hl
  have hx := X.1
  have hb := X.2.1
  have hl : lv_has ls 5 [(0, .ref a0), (1, .int x1), (2, .int x2)] := by first | exact hl | simpa [lv_args, q_cat, q_catI, q_catJ, q_catR] using hl
  generalize hargs : ([.ref a0, .int x1, .int x2] : List Value).toArray = args at X ⊢
  unfold wm_X0_receive at h
  refine lv_aload_n hx hb dX0_receive_0 rfl (lv_at hl 0 rfl) ?_
  obtain ⟨k35_, h⟩ := h
  refine q_getP X Y kX0 1 rfl fl_X0_15 k35_ rfl dX0_receive_1 ?_
  refine lv_iconst (v := 4) hx hb dX0_receive_4 (by decide) ?_
  refine lv_iload_n hx hb dX0_receive_5 rfl (lv_at hl 1 rfl) ?_
  obtain ⟨a36_, e37_, h⟩ := h
  refine q_nn [.int x1, .int (4 : Int32)] e37_ ?_
  obtain ⟨k38_, h⟩ := h
  refine q_callV X Y hl (cm_X5_thingAt h) mt_X5_thingAt mi_X5_thingAt ml_X0_144 (ci := 5) rfl k38_ (by decide) rfl rfl (by first | exact Nat.le_of_ble_eq_true rfl | simp [q_cat, q_catI, q_catJ, q_catR]) ⟨Nat.le_of_ble_eq_true rfl, Nat.le_of_ble_eq_true rfl⟩ ⟨Nat.le_of_ble_eq_true rfl, Nat.le_of_ble_eq_true rfl⟩ dX0_receive_6 (fun r39_ S40_ H locs hp Y => ?_)
  obtain ⟨r41_, rfl, h⟩ := hp
  refine W.eq (g2 := F0 m 9 ls [va_rf r41_]) rfl ?_
  refine q_astore_n (i := 3) (lv' := [(3, va_rf r41_), (0, .ref a0), (1, .int x1), (2, .int x2)]) hx hb dX0_receive_9 rfl hl (by decide) (by first | rfl | simp [q_cat, q_catI, q_catJ, q_catR]) (fun ls hl => ?_)
  refine q_aload_n hx hb dX0_receive_10 rfl (lv_at hl 0 rfl) ?_
  refine q_ifnull (r := r41_) (tgt := 36) hx hb dX0_receive_11 (by decide) (fun c42_ => ?_) (fun c42_ => ?_)
  · replace h := h.1 c42_
    exact cb_X0_receive_36 X Y (lv_sub hl [] rfl) h
  · replace h := h.2 c42_
    refine q_aload_n hx hb dX0_receive_14 rfl (lv_at hl 0 rfl) ?_
    obtain ⟨a43_, e44_, h⟩ := h
    refine q_nn [] e44_ ?_
    obtain ⟨k45_, h⟩ := h
    refine q_getI X Y kX10 6 rfl fl_X0_221 k45_ dX0_receive_15 ?_
    refine lv_if_ne (tgt := 36) hx hb dX0_receive_18 (by decide) (fun c46_ => ?_) (fun c46_ => ?_)
    · replace h := h.1 c46_
      exact cb_X0_receive_36 X Y (lv_sub hl [] rfl) h
    · replace h := h.2 c46_
      refine q_aload_n hx hb dX0_receive_21 rfl (lv_at hl 0 rfl) ?_
      refine q_nn [] e44_ ?_
      refine q_getI X Y kX10 7 rfl fl_X0_224 k45_ dX0_receive_22 ?_
      refine lv_if_eq (tgt := 38) hx hb dX0_receive_25 (by decide) (fun c47_ => ?_) (fun c47_ => ?_)
      · replace h := h.1 c47_
        exact cb_X0_receive_38 X Y (lv_sub hl [1, 2, 3, 0] rfl) h
      · replace h := h.2 c47_
        refine lv_aload_n hx hb dX0_receive_28 rfl (lv_at hl 1 rfl) ?_
        refine lv_iload_n hx hb dX0_receive_29 rfl (lv_at hl 3 rfl) ?_
        obtain ⟨k48_, h⟩ := h
        refine q_callV X Y hl (cm_X0_isNoTime h) mt_X0_isNoTime mi_X0_isNoTime ml_X0_164 (ci := 0) rfl k48_ (by decide) rfl rfl (by first | exact Nat.le_of_ble_eq_true rfl | simp [q_cat, q_catI, q_catJ, q_catR]) ⟨Nat.le_of_ble_eq_true rfl, Nat.le_of_ble_eq_true rfl⟩ ⟨Nat.le_of_ble_eq_true rfl, Nat.le_of_ble_eq_true rfl⟩ dX0_receive_30 (fun r49_ S50_ H locs hp Y => ?_)
        obtain ⟨x51_, rfl, h⟩ := hp
        refine W.eq (g2 := F0 m 33 ls [.int x51_]) rfl ?_
        refine lv_if_eq (tgt := 38) hx hb dX0_receive_33 (by decide) (fun c52_ => ?_) (fun c52_ => ?_)
        · replace h := h.1 c52_
          exact cb_X0_receive_38 X Y (lv_sub hl [1, 2, 3, 0] rfl) h
        · replace h := h.2 c52_
          exact cb_X0_receive_36 X Y (lv_sub hl [] rfl) h
-- X5_lockBy
theorem dX5_lockBy_0 : decode cX5_lockBy 0 = .ok (.aload_n 0, 1) := by decide +kernel
theorem dX5_lockBy_1 : decode cX5_lockBy 1 = .ok (.dup, 1) := by decide +kernel
theorem dX5_lockBy_2 : decode cX5_lockBy 2 = .ok (.getfield 69, 3) := by decide +kernel
theorem dX5_lockBy_5 : decode cX5_lockBy 5 = .ok (.iconst 1, 1) := by decide +kernel
theorem dX5_lockBy_6 : decode cX5_lockBy 6 = .ok (.iadd, 1) := by decide +kernel
theorem dX5_lockBy_7 : decode cX5_lockBy 7 = .ok (.putfield 69, 3) := by decide +kernel
theorem dX5_lockBy_10 : decode cX5_lockBy 10 = .ok (.aload_n 0, 1) := by decide +kernel
theorem dX5_lockBy_11 : decode cX5_lockBy 11 = .ok (.aload_n 1, 1) := by decide +kernel
theorem dX5_lockBy_12 : decode cX5_lockBy 12 = .ok (.getfield 131, 3) := by decide +kernel
theorem dX5_lockBy_15 : decode cX5_lockBy 15 = .ok (.putfield 72, 3) := by decide +kernel
theorem dX5_lockBy_18 : decode cX5_lockBy 18 = .ok (.return_, 1) := by decide +kernel
def wm_X5_lockBy (S : q_S) (a0 : Nat) (r1 : Option Nat) (Q : Option Value → q_S → Prop) : Prop := q_K S a0 = 6 ∧ (∃ a2_ : Nat, r1 = some a2_ ∧ (q_K (qs_I S 1013 a0 ((q_I S 1013 a0) + (1 : Int32))) a2_ = 8 ∧ (∀ S5_ : q_S, S5_ = (qs_I (qs_I S 1013 a0 ((q_I S 1013 a0) + (1 : Int32))) 1014 a0 (q_I (qs_I S 1013 a0 ((q_I S 1013 a0) + (1 : Int32))) 1400 a2_)) → (Q none S5_))))
set_option maxHeartbeats 4000000 in
set_option maxRecDepth 100000 in
theorem cm_X5_lockBy {l : Launch} {D : va_G} {cy : Nat → ClassId} {lo : Nat} {S : q_S} {a0 : Nat} {r1 : Option Nat} {Q : Option Value → q_S → Prop} (h : wm_X5_lockBy S a0 r1 Q) : q_Met l D cy lo yX5_lockBy cX5_lockBy 2 none 0 0 0 0 [.ref a0, va_rf r1] S Q := by
  refine q_body (by decide) (by first | exact Nat.le_of_ble_eq_true rfl | simp [lg_sl, q_cat, q_catI, q_catJ, q_catR]) ?_
  intro p e s m below meth c ls X hnm Y hl
  have hx := X.1
  have hb := X.2.1
  have hl : lv_has ls 2 [(0, .ref a0), (1, va_rf r1)] := by first | exact hl | simpa [lv_args, q_cat, q_catI, q_catJ, q_catR] using hl
  generalize hargs : ([.ref a0, va_rf r1] : List Value).toArray = args at X ⊢
  unfold wm_X5_lockBy at h
  refine lv_aload_n hx hb dX5_lockBy_0 rfl (lv_at hl 0 rfl) ?_
  refine lv_dup hx hb dX5_lockBy_1 rfl ?_
  obtain ⟨k1_, h⟩ := h
  refine q_getI X Y kX5 13 rfl fl_X5_69 k1_ dX5_lockBy_2 ?_
  refine lv_iconst (v := 1) hx hb dX5_lockBy_5 (by decide) ?_
  refine lv_iadd hx hb dX5_lockBy_6 ?_
  refine q_putI X Y kX5 13 rfl fl_X5_69 k1_ .int rfl ⟨rfl, rfl⟩ rfl dX5_lockBy_7 (fun H locs Y => ?_)
  refine lv_aload_n hx hb dX5_lockBy_10 rfl (lv_at hl 0 rfl) ?_
  refine q_aload_n hx hb dX5_lockBy_11 rfl (lv_at hl 1 rfl) ?_
  obtain ⟨a2_, e3_, h⟩ := h
  refine q_nn [] e3_ ?_
  obtain ⟨k4_, h⟩ := h
  refine q_getI X Y kX7 0 rfl fl_X5_131 k4_ dX5_lockBy_12 ?_
  refine q_putI X Y kX5 14 rfl fl_X5_72 k1_ .int rfl ⟨rfl, rfl⟩ rfl dX5_lockBy_15 (fun H locs Y => ?_)
  obtain ⟨S5_, gS5_⟩ : ∃ z : q_S, z = (qs_I (qs_I S 1013 a0 ((q_I S 1013 a0) + (1 : Int32))) 1014 a0 (q_I (qs_I S 1013 a0 ((q_I S 1013 a0) + (1 : Int32))) 1400 a2_)) := ⟨_, rfl⟩
  replace Y : q_Y D cy lo s S5_ H locs := by rw [gS5_]; exact Y
  replace h := h S5_ gS5_
  replace k1_ : q_K S5_ a0 = 6 := by rw [gS5_]; exact k1_
  replace k4_ : q_K S5_ a2_ = 8 := by rw [gS5_]; exact k4_
  exact q_vret X Y (Nat.le_refl _) (Nat.le_refl _) h dX5_lockBy_18
-- X0_lock
theorem ml_X0_273 : Cond.methodLink RX0 273 yX5_lockBy ∈ q_G := q_tb (i := 1645) (by decide +kernel) (by decide +kernel)
theorem mt_X5_lockBy : q_Mt yX5_lockBy cX5_lockBy 2 none 1 := ⟨q_tb (i := 1648) (by decide +kernel) (by decide +kernel), q_tb (i := 20) (by decide +kernel) (by decide +kernel), by decide +kernel, by decide +kernel, by decide +kernel⟩
theorem mi_X5_lockBy : Cond.instanceMethod yX5_lockBy ∈ q_G ∧ Cond.selects yX5_lockBy.cls yX5_lockBy yX5_lockBy ∈ q_G := ⟨q_tb (i := 1646) (by decide +kernel) (by decide +kernel), q_tb (i := 1647) (by decide +kernel) (by decide +kernel)⟩
theorem dX0_lock_0 : decode cX0_lock 0 = .ok (.aload_n 0, 1) := by decide +kernel
theorem dX0_lock_1 : decode cX0_lock 1 = .ok (.getfield 19, 3) := by decide +kernel
theorem dX0_lock_4 : decode cX0_lock 4 = .ok (.getfield 75, 3) := by decide +kernel
theorem dX0_lock_7 : decode cX0_lock 7 = .ok (.ifCond .eq 5, 3) := by decide +kernel
theorem dX0_lock_10 : decode cX0_lock 10 = .ok (.iconst 3, 1) := by decide +kernel
theorem dX0_lock_11 : decode cX0_lock 11 = .ok (.ireturn, 1) := by decide +kernel
theorem dX0_lock_12 : decode cX0_lock 12 = .ok (.aload_n 0, 1) := by decide +kernel
theorem dX0_lock_13 : decode cX0_lock 13 = .ok (.getfield 15, 3) := by decide +kernel
theorem dX0_lock_16 : decode cX0_lock 16 = .ok (.getfield 70, 3) := by decide +kernel
theorem dX0_lock_19 : decode cX0_lock 19 = .ok (.bipush 8, 2) := by decide +kernel
theorem dX0_lock_21 : decode cX0_lock 21 = .ok (.if_icmp .lt 5, 3) := by decide +kernel
theorem dX0_lock_24 : decode cX0_lock 24 = .ok (.iconst 2, 1) := by decide +kernel
theorem dX0_lock_25 : decode cX0_lock 25 = .ok (.ireturn, 1) := by decide +kernel
theorem dX0_lock_26 : decode cX0_lock 26 = .ok (.aload_n 0, 1) := by decide +kernel
theorem dX0_lock_27 : decode cX0_lock 27 = .ok (.getfield 15, 3) := by decide +kernel
theorem dX0_lock_30 : decode cX0_lock 30 = .ok (.aload_n 0, 1) := by decide +kernel
theorem dX0_lock_31 : decode cX0_lock 31 = .ok (.getfield 19, 3) := by decide +kernel
theorem dX0_lock_34 : decode cX0_lock 34 = .ok (.invokevirtual 273, 3) := by decide +kernel
theorem dX0_lock_37 : decode cX0_lock 37 = .ok (.iconst 0, 1) := by decide +kernel
theorem dX0_lock_38 : decode cX0_lock 38 = .ok (.ireturn, 1) := by decide +kernel
def wm_X0_lock (S : q_S) (a0 : Nat) (Q : Option Value → q_S → Prop) : Prop := q_K S a0 = 1 ∧ (∃ a2_ : Nat, (q_P S 2 a0) = some a2_ ∧ (q_K S a2_ = 8 ∧ ((((q_I S 1407 a2_) = 0 → (∃ a6_ : Nat, (q_P S 1 a0) = some a6_ ∧ (q_K S a6_ = 6 ∧ ((((q_I S 1013 a6_) < (8 : Int32) → (wm_X5_lockBy S a6_ (some a2_) (fun r10_ S11_ => r10_ = none ∧ (Q (some (.int (0 : Int32))) S11_)))) ∧ (¬ (q_I S 1013 a6_) < (8 : Int32) → (Q (some (.int (2 : Int32))) S))))))) ∧ (¬ (q_I S 1407 a2_) = 0 → (Q (some (.int (3 : Int32))) S))))))
set_option maxHeartbeats 4000000 in
set_option maxRecDepth 100000 in
theorem cm_X0_lock {l : Launch} {D : va_G} {cy : Nat → ClassId} {lo : Nat} {S : q_S} {a0 : Nat} {Q : Option Value → q_S → Prop} (h : wm_X0_lock S a0 Q) : q_Met l D cy lo yX0_lock cX0_lock 1 (some .int) 1 21 0 0 [.ref a0] S Q := by
  refine q_body (by decide) (by first | exact Nat.le_of_ble_eq_true rfl | simp [lg_sl, q_cat, q_catI, q_catJ, q_catR]) ?_
  intro p e s m below meth c ls X hnm Y hl
  have hx := X.1
  have hb := X.2.1
  have hl : lv_has ls 1 [(0, .ref a0)] := by first | exact hl | simpa [lv_args, q_cat, q_catI, q_catJ, q_catR] using hl
  generalize hargs : ([.ref a0] : List Value).toArray = args at X ⊢
  unfold wm_X0_lock at h
  refine lv_aload_n hx hb dX0_lock_0 rfl (lv_at hl 0 rfl) ?_
  obtain ⟨k1_, h⟩ := h
  refine q_getP X Y kX0 2 rfl fl_X0_19 k1_ rfl dX0_lock_1 ?_
  obtain ⟨a2_, e3_, h⟩ := h
  refine q_nn [] e3_ ?_
  obtain ⟨k4_, h⟩ := h
  refine q_getI X Y kX7 7 rfl fl_X0_75 k4_ dX0_lock_4 ?_
  refine lv_if_eq (tgt := 12) hx hb dX0_lock_7 (by decide) (fun c5_ => ?_) (fun c5_ => ?_)
  · replace h := h.1 c5_
    refine lv_aload_n hx hb dX0_lock_12 rfl (lv_at hl 0 rfl) ?_
    refine q_getP X Y kX0 1 rfl fl_X0_15 k1_ rfl dX0_lock_13 ?_
    obtain ⟨a6_, e7_, h⟩ := h
    refine q_nn [] e7_ ?_
    obtain ⟨k8_, h⟩ := h
    refine q_getI X Y kX5 13 rfl fl_X0_70 k8_ dX0_lock_16 ?_
    refine lv_bipush (v := 8) hx hb dX0_lock_19 (by decide) ?_
    refine lv_icmp_lt (tgt := 26) hx hb dX0_lock_21 (by decide) (fun c9_ => ?_) (fun c9_ => ?_)
    · replace h := h.1 c9_
      refine lv_aload_n hx hb dX0_lock_26 rfl (lv_at hl 0 rfl) ?_
      refine q_getR X Y kX0 1 rfl fl_X0_15 k1_ e7_ dX0_lock_27 ?_
      refine lv_aload_n hx hb dX0_lock_30 rfl (lv_at hl 0 rfl) ?_
      refine q_getR X Y kX0 2 rfl fl_X0_19 k1_ e3_ dX0_lock_31 ?_
      refine q_callV X Y hl (cm_X5_lockBy h) mt_X5_lockBy mi_X5_lockBy ml_X0_273 (ci := 5) rfl k8_ (by decide) rfl rfl (by first | exact Nat.le_of_ble_eq_true rfl | simp [q_cat, q_catI, q_catJ, q_catR]) ⟨Nat.le_of_ble_eq_true rfl, Nat.le_of_ble_eq_true rfl⟩ ⟨Nat.le_of_ble_eq_true rfl, Nat.le_of_ble_eq_true rfl⟩ dX0_lock_34 (fun r10_ S11_ H locs hp Y => ?_)
      obtain ⟨rfl, h⟩ := hp
      refine W.eq (g2 := F0 m 37 ls []) rfl ?_
      refine lv_iconst (v := 0) hx hb dX0_lock_37 (by decide) ?_
      exact q_iret X Y rfl (Nat.le_refl _) (Nat.le_refl _) h dX0_lock_38
    · replace h := h.2 c9_
      refine lv_iconst (v := 2) hx hb dX0_lock_24 (by decide) ?_
      exact q_iret X Y rfl (Nat.le_refl _) (Nat.le_refl _) h dX0_lock_25
  · replace h := h.2 c5_
    refine lv_iconst (v := 3) hx hb dX0_lock_10 (by decide) ?_
    exact q_iret X Y rfl (Nat.le_refl _) (Nat.le_refl _) h dX0_lock_11
-- X5_unlockOnce
theorem dX5_unlockOnce_0 : decode cX5_unlockOnce 0 = .ok (.aload_n 0, 1) := by decide +kernel
theorem dX5_unlockOnce_1 : decode cX5_unlockOnce 1 = .ok (.dup, 1) := by decide +kernel
theorem dX5_unlockOnce_2 : decode cX5_unlockOnce 2 = .ok (.getfield 69, 3) := by decide +kernel
theorem dX5_unlockOnce_5 : decode cX5_unlockOnce 5 = .ok (.iconst 1, 1) := by decide +kernel
theorem dX5_unlockOnce_6 : decode cX5_unlockOnce 6 = .ok (.isub, 1) := by decide +kernel
theorem dX5_unlockOnce_7 : decode cX5_unlockOnce 7 = .ok (.putfield 69, 3) := by decide +kernel
theorem dX5_unlockOnce_10 : decode cX5_unlockOnce 10 = .ok (.aload_n 0, 1) := by decide +kernel
theorem dX5_unlockOnce_11 : decode cX5_unlockOnce 11 = .ok (.getfield 69, 3) := by decide +kernel
theorem dX5_unlockOnce_14 : decode cX5_unlockOnce 14 = .ok (.ifCond .ne 8, 3) := by decide +kernel
theorem dX5_unlockOnce_17 : decode cX5_unlockOnce 17 = .ok (.aload_n 0, 1) := by decide +kernel
theorem dX5_unlockOnce_18 : decode cX5_unlockOnce 18 = .ok (.iconst (-1), 1) := by decide +kernel
theorem dX5_unlockOnce_19 : decode cX5_unlockOnce 19 = .ok (.putfield 72, 3) := by decide +kernel
theorem dX5_unlockOnce_22 : decode cX5_unlockOnce 22 = .ok (.return_, 1) := by decide +kernel
def wb_X5_unlockOnce_22  (S : q_S) (Q : Option Value → q_S → Prop) : Prop := Q none S
set_option maxHeartbeats 4000000 in
set_option maxRecDepth 100000 in
theorem cb_X5_unlockOnce_22 {p : Program} {l : Launch} {e : Env} {s : State} {m : MethodId} {args : Array Value} {below : List Frame} {meth : Method} {c : Code} {D : va_G} {cy : Nat → ClassId} {lo : Nat}  {S : q_S} {Q : Option Value → q_S → Prop} {H : Heap} {locs : List Loc} {ls : Array Slot} (X : q_X p s m args meth c RX5 cX5_unlockOnce 1 none D cy lo)  (Y : q_Y D cy lo s S H locs) (hl : lv_has ls 1 []) (h : wb_X5_unlockOnce_22 S Q) : W p l e ({ frames := 0, cells := 0, slots := 0, locals := 0 } : Room) s m args below meth c H locs 0 0 (MQ below (q_Q D cy lo Q) args s 0 0 (fun q => lo ≤ q)) (F0 m 22 ls []) := by
  have hx := X.1
  have hb := X.2.1
  unfold wb_X5_unlockOnce_22 at h
  exact q_vret X Y (Nat.le_refl _) (Nat.le_refl _) h dX5_unlockOnce_22
def wm_X5_unlockOnce (S : q_S) (a0 : Nat) (Q : Option Value → q_S → Prop) : Prop := q_K S a0 = 6 ∧ (((¬ (q_I (qs_I S 1013 a0 ((q_I S 1013 a0) - (1 : Int32))) 1013 a0) = 0 → (wb_X5_unlockOnce_22 (qs_I S 1013 a0 ((q_I S 1013 a0) - (1 : Int32))) Q)) ∧ ((q_I (qs_I S 1013 a0 ((q_I S 1013 a0) - (1 : Int32))) 1013 a0) = 0 → (wb_X5_unlockOnce_22 (qs_I (qs_I S 1013 a0 ((q_I S 1013 a0) - (1 : Int32))) 1014 a0 (-1 : Int32)) Q))))
set_option maxHeartbeats 4000000 in
set_option maxRecDepth 100000 in
theorem cm_X5_unlockOnce {l : Launch} {D : va_G} {cy : Nat → ClassId} {lo : Nat} {S : q_S} {a0 : Nat} {Q : Option Value → q_S → Prop} (h : wm_X5_unlockOnce S a0 Q) : q_Met l D cy lo yX5_unlockOnce cX5_unlockOnce 1 none 0 0 0 0 [.ref a0] S Q := by
  refine q_body (by decide) (by first | exact Nat.le_of_ble_eq_true rfl | simp [lg_sl, q_cat, q_catI, q_catJ, q_catR]) ?_
  intro p e s m below meth c ls X hnm Y hl
  have hx := X.1
  have hb := X.2.1
  have hl : lv_has ls 1 [(0, .ref a0)] := by first | exact hl | simpa [lv_args, q_cat, q_catI, q_catJ, q_catR] using hl
  generalize hargs : ([.ref a0] : List Value).toArray = args at X ⊢
  unfold wm_X5_unlockOnce at h
  refine lv_aload_n hx hb dX5_unlockOnce_0 rfl (lv_at hl 0 rfl) ?_
  refine lv_dup hx hb dX5_unlockOnce_1 rfl ?_
  obtain ⟨k1_, h⟩ := h
  refine q_getI X Y kX5 13 rfl fl_X5_69 k1_ dX5_unlockOnce_2 ?_
  refine lv_iconst (v := 1) hx hb dX5_unlockOnce_5 (by decide) ?_
  refine lv_isub hx hb dX5_unlockOnce_6 ?_
  refine q_putI X Y kX5 13 rfl fl_X5_69 k1_ .int rfl ⟨rfl, rfl⟩ rfl dX5_unlockOnce_7 (fun H locs Y => ?_)
  refine lv_aload_n hx hb dX5_unlockOnce_10 rfl (lv_at hl 0 rfl) ?_
  refine q_getI X Y kX5 13 rfl fl_X5_69 k1_ dX5_unlockOnce_11 ?_
  refine lv_if_ne (tgt := 22) hx hb dX5_unlockOnce_14 (by decide) (fun c2_ => ?_) (fun c2_ => ?_)
  · replace h := h.1 c2_
    exact cb_X5_unlockOnce_22 X Y (lv_sub hl [] rfl) h
  · replace h := h.2 c2_
    refine lv_aload_n hx hb dX5_unlockOnce_17 rfl (lv_at hl 0 rfl) ?_
    refine lv_iconst (v := (-1)) hx hb dX5_unlockOnce_18 (by decide) ?_
    refine q_putI X Y kX5 14 rfl fl_X5_72 k1_ .int rfl ⟨rfl, rfl⟩ rfl dX5_unlockOnce_19 (fun H locs Y => ?_)
    exact cb_X5_unlockOnce_22 X Y (lv_sub hl [] rfl) h
-- X0_unlock
theorem ml_X0_276 : Cond.methodLink RX0 276 yX5_unlockOnce ∈ q_G := q_tb (i := 1653) (by decide +kernel) (by decide +kernel)
theorem mt_X5_unlockOnce : q_Mt yX5_unlockOnce cX5_unlockOnce 1 none 0 := ⟨q_tb (i := 1656) (by decide +kernel) (by decide +kernel), q_tb (i := 20) (by decide +kernel) (by decide +kernel), by decide +kernel, by decide +kernel, by decide +kernel⟩
theorem mi_X5_unlockOnce : Cond.instanceMethod yX5_unlockOnce ∈ q_G ∧ Cond.selects yX5_unlockOnce.cls yX5_unlockOnce yX5_unlockOnce ∈ q_G := ⟨q_tb (i := 1654) (by decide +kernel) (by decide +kernel), q_tb (i := 1655) (by decide +kernel) (by decide +kernel)⟩
theorem dX0_unlock_0 : decode cX0_unlock 0 = .ok (.aload_n 0, 1) := by decide +kernel
theorem dX0_unlock_1 : decode cX0_unlock 1 = .ok (.getfield 19, 3) := by decide +kernel
theorem dX0_unlock_4 : decode cX0_unlock 4 = .ok (.getfield 75, 3) := by decide +kernel
theorem dX0_unlock_7 : decode cX0_unlock 7 = .ok (.ifCond .eq 5, 3) := by decide +kernel
theorem dX0_unlock_10 : decode cX0_unlock 10 = .ok (.iconst 3, 1) := by decide +kernel
theorem dX0_unlock_11 : decode cX0_unlock 11 = .ok (.ireturn, 1) := by decide +kernel
theorem dX0_unlock_12 : decode cX0_unlock 12 = .ok (.aload_n 0, 1) := by decide +kernel
theorem dX0_unlock_13 : decode cX0_unlock 13 = .ok (.getfield 15, 3) := by decide +kernel
theorem dX0_unlock_16 : decode cX0_unlock 16 = .ok (.getfield 70, 3) := by decide +kernel
theorem dX0_unlock_19 : decode cX0_unlock 19 = .ok (.ifCond .gt 5, 3) := by decide +kernel
theorem dX0_unlock_22 : decode cX0_unlock 22 = .ok (.iconst 2, 1) := by decide +kernel
theorem dX0_unlock_23 : decode cX0_unlock 23 = .ok (.ireturn, 1) := by decide +kernel
theorem dX0_unlock_24 : decode cX0_unlock 24 = .ok (.aload_n 0, 1) := by decide +kernel
theorem dX0_unlock_25 : decode cX0_unlock 25 = .ok (.getfield 15, 3) := by decide +kernel
theorem dX0_unlock_28 : decode cX0_unlock 28 = .ok (.invokevirtual 276, 3) := by decide +kernel
theorem dX0_unlock_31 : decode cX0_unlock 31 = .ok (.iconst 0, 1) := by decide +kernel
theorem dX0_unlock_32 : decode cX0_unlock 32 = .ok (.ireturn, 1) := by decide +kernel
def wm_X0_unlock (S : q_S) (a0 : Nat) (Q : Option Value → q_S → Prop) : Prop := q_K S a0 = 1 ∧ (∃ a2_ : Nat, (q_P S 2 a0) = some a2_ ∧ (q_K S a2_ = 8 ∧ ((((q_I S 1407 a2_) = 0 → (∃ a6_ : Nat, (q_P S 1 a0) = some a6_ ∧ (q_K S a6_ = 6 ∧ (((0 < (q_I S 1013 a6_) → (wm_X5_unlockOnce S a6_ (fun r10_ S11_ => r10_ = none ∧ (Q (some (.int (0 : Int32))) S11_)))) ∧ (¬ 0 < (q_I S 1013 a6_) → (Q (some (.int (2 : Int32))) S))))))) ∧ (¬ (q_I S 1407 a2_) = 0 → (Q (some (.int (3 : Int32))) S))))))
set_option maxHeartbeats 4000000 in
set_option maxRecDepth 100000 in
theorem cm_X0_unlock {l : Launch} {D : va_G} {cy : Nat → ClassId} {lo : Nat} {S : q_S} {a0 : Nat} {Q : Option Value → q_S → Prop} (h : wm_X0_unlock S a0 Q) : q_Met l D cy lo yX0_unlock cX0_unlock 1 (some .int) 1 20 0 0 [.ref a0] S Q := by
  refine q_body (by decide) (by first | exact Nat.le_of_ble_eq_true rfl | simp [lg_sl, q_cat, q_catI, q_catJ, q_catR]) ?_
  intro p e s m below meth c ls X hnm Y hl
  have hx := X.1
  have hb := X.2.1
  have hl : lv_has ls 1 [(0, .ref a0)] := by first | exact hl | simpa [lv_args, q_cat, q_catI, q_catJ, q_catR] using hl
  generalize hargs : ([.ref a0] : List Value).toArray = args at X ⊢
  unfold wm_X0_unlock at h
  refine lv_aload_n hx hb dX0_unlock_0 rfl (lv_at hl 0 rfl) ?_
  obtain ⟨k1_, h⟩ := h
  refine q_getP X Y kX0 2 rfl fl_X0_19 k1_ rfl dX0_unlock_1 ?_
  obtain ⟨a2_, e3_, h⟩ := h
  refine q_nn [] e3_ ?_
  obtain ⟨k4_, h⟩ := h
  refine q_getI X Y kX7 7 rfl fl_X0_75 k4_ dX0_unlock_4 ?_
  refine lv_if_eq (tgt := 12) hx hb dX0_unlock_7 (by decide) (fun c5_ => ?_) (fun c5_ => ?_)
  · replace h := h.1 c5_
    refine lv_aload_n hx hb dX0_unlock_12 rfl (lv_at hl 0 rfl) ?_
    refine q_getP X Y kX0 1 rfl fl_X0_15 k1_ rfl dX0_unlock_13 ?_
    obtain ⟨a6_, e7_, h⟩ := h
    refine q_nn [] e7_ ?_
    obtain ⟨k8_, h⟩ := h
    refine q_getI X Y kX5 13 rfl fl_X0_70 k8_ dX0_unlock_16 ?_
    refine lv_if_gt (tgt := 24) hx hb dX0_unlock_19 (by decide) (fun c9_ => ?_) (fun c9_ => ?_)
    · replace h := h.1 c9_
      refine lv_aload_n hx hb dX0_unlock_24 rfl (lv_at hl 0 rfl) ?_
      refine q_getR X Y kX0 1 rfl fl_X0_15 k1_ e7_ dX0_unlock_25 ?_
      refine q_callV X Y hl (cm_X5_unlockOnce h) mt_X5_unlockOnce mi_X5_unlockOnce ml_X0_276 (ci := 5) rfl k8_ (by decide) rfl rfl (by first | exact Nat.le_of_ble_eq_true rfl | simp [q_cat, q_catI, q_catJ, q_catR]) ⟨Nat.le_of_ble_eq_true rfl, Nat.le_of_ble_eq_true rfl⟩ ⟨Nat.le_of_ble_eq_true rfl, Nat.le_of_ble_eq_true rfl⟩ dX0_unlock_28 (fun r10_ S11_ H locs hp Y => ?_)
      obtain ⟨rfl, h⟩ := hp
      refine W.eq (g2 := F0 m 31 ls []) rfl ?_
      refine lv_iconst (v := 0) hx hb dX0_unlock_31 (by decide) ?_
      exact q_iret X Y rfl (Nat.le_refl _) (Nat.le_refl _) h dX0_unlock_32
    · replace h := h.2 c9_
      refine lv_iconst (v := 2) hx hb dX0_unlock_22 (by decide) ?_
      exact q_iret X Y rfl (Nat.le_refl _) (Nat.le_refl _) h dX0_unlock_23
  · replace h := h.2 c5_
    refine lv_iconst (v := 3) hx hb dX0_unlock_10 (by decide) ?_
    exact q_iret X Y rfl (Nat.le_refl _) (Nat.le_refl _) h dX0_unlock_11
-- X5_allRest
theorem dX5_allRest_0 : decode cX5_allRest 0 = .ok (.iconst 0, 1) := by decide +kernel
theorem dX5_allRest_1 : decode cX5_allRest 1 = .ok (.istore_n 1, 1) := by decide +kernel
theorem dX5_allRest_2 : decode cX5_allRest 2 = .ok (.iload_n 1, 1) := by decide +kernel
theorem dX5_allRest_3 : decode cX5_allRest 3 = .ok (.aload_n 0, 1) := by decide +kernel
theorem dX5_allRest_4 : decode cX5_allRest 4 = .ok (.getfield 45, 3) := by decide +kernel
theorem dX5_allRest_7 : decode cX5_allRest 7 = .ok (.if_icmp .ge 19, 3) := by decide +kernel
theorem dX5_allRest_10 : decode cX5_allRest 10 = .ok (.aload_n 0, 1) := by decide +kernel
theorem dX5_allRest_11 : decode cX5_allRest 11 = .ok (.getfield 20, 3) := by decide +kernel
theorem dX5_allRest_14 : decode cX5_allRest 14 = .ok (.iload_n 1, 1) := by decide +kernel
theorem dX5_allRest_15 : decode cX5_allRest 15 = .ok (.aaload, 1) := by decide +kernel
theorem dX5_allRest_16 : decode cX5_allRest 16 = .ok (.iconst 0, 1) := by decide +kernel
theorem dX5_allRest_17 : decode cX5_allRest 17 = .ok (.invokevirtual 136, 3) := by decide +kernel
theorem dX5_allRest_20 : decode cX5_allRest 20 = .ok (.iinc 1 1, 3) := by decide +kernel
theorem dX5_allRest_23 : decode cX5_allRest 23 = .ok (.goto (-21), 3) := by decide +kernel
theorem dX5_allRest_26 : decode cX5_allRest 26 = .ok (.aload_n 0, 1) := by decide +kernel
theorem dX5_allRest_27 : decode cX5_allRest 27 = .ok (.iconst 0, 1) := by decide +kernel
theorem dX5_allRest_28 : decode cX5_allRest 28 = .ok (.putfield 69, 3) := by decide +kernel
theorem dX5_allRest_31 : decode cX5_allRest 31 = .ok (.aload_n 0, 1) := by decide +kernel
theorem dX5_allRest_32 : decode cX5_allRest 32 = .ok (.iconst (-1), 1) := by decide +kernel
theorem dX5_allRest_33 : decode cX5_allRest 33 = .ok (.putfield 72, 3) := by decide +kernel
theorem dX5_allRest_36 : decode cX5_allRest 36 = .ok (.aload_n 0, 1) := by decide +kernel
theorem dX5_allRest_37 : decode cX5_allRest 37 = .ok (.iconst (-1), 1) := by decide +kernel
theorem dX5_allRest_38 : decode cX5_allRest 38 = .ok (.putfield 78, 3) := by decide +kernel
theorem dX5_allRest_41 : decode cX5_allRest 41 = .ok (.return_, 1) := by decide +kernel
def wb_X5_allRest_2 (B2 : q_S → Nat → Int32 → Prop) (S : q_S) (a0 : Nat) (x1 : Int32) (Q : Option Value → q_S → Prop) : Prop := q_K S a0 = 6 ∧ ((((q_I S 1004 a0) ≤ x1 → (∀ S3_ : q_S, S3_ = (qs_I (qs_I (qs_I S 1013 a0 (0 : Int32)) 1014 a0 (-1 : Int32)) 1016 a0 (-1 : Int32)) → (Q none S3_))) ∧ (¬ (q_I S 1004 a0) ≤ x1 → (∃ a4_ : Nat, (q_P S 1003 a0) = some a4_ ∧ (q_K S a4_ = 26 ∧ (vp_in x1 (q_N S a4_) ∧ (∃ a8_ : Nat, (q_C S a4_ x1.toNatClampNeg) = some a8_ ∧ (q_K S a8_ = 8 ∧ (wm_X7_leave S a8_ (0 : Int32) (fun r11_ S12_ => r11_ = none ∧ (B2 S12_ a0 (x1 + 1))))))))))))
set_option maxHeartbeats 4000000 in
set_option maxRecDepth 100000 in
theorem cb_X5_allRest_2 {p : Program} {l : Launch} {e : Env} {s : State} {m : MethodId} {args : Array Value} {below : List Frame} {meth : Method} {c : Code} {D : va_G} {cy : Nat → ClassId} {lo : Nat} {B2 : q_S → Nat → Int32 → Prop} {S : q_S} {a0 : Nat} {x1 : Int32} {Q : Option Value → q_S → Prop} {H : Heap} {locs : List Loc} {ls : Array Slot} (X : q_X p s m args meth c RX5 cX5_allRest 2 none D cy lo) (hB2 : ∀ (S : q_S) (a0 : Nat) (x1 : Int32) (H : Heap) (locs : List Loc) (ls : Array Slot), B2 S a0 x1 → q_Y D cy lo s S H locs → lv_has ls 2 [(0, .ref a0), (1, .int x1)] → W p l e ({ frames := 1, cells := 0, slots := 0, locals := 21 } : Room) s m args below meth c H locs 0 0 (MQ below (q_Q D cy lo Q) args s 0 0 (fun q => lo ≤ q)) (F0 m 2 ls [])) (Y : q_Y D cy lo s S H locs) (hl : lv_has ls 2 [(0, .ref a0), (1, .int x1)]) (h : wb_X5_allRest_2 B2 S a0 x1 Q) : W p l e ({ frames := 1, cells := 0, slots := 0, locals := 21 } : Room) s m args below meth c H locs 0 0 (MQ below (q_Q D cy lo Q) args s 0 0 (fun q => lo ≤ q)) (F0 m 2 ls []) := by
  have hx := X.1
  have hb := X.2.1
  unfold wb_X5_allRest_2 at h
  refine lv_iload_n hx hb dX5_allRest_2 rfl (lv_at hl 1 rfl) ?_
  refine lv_aload_n hx hb dX5_allRest_3 rfl (lv_at hl 0 rfl) ?_
  obtain ⟨k1_, h⟩ := h
  refine q_getI X Y kX5 4 rfl fl_X5_45 k1_ dX5_allRest_4 ?_
  refine lv_icmp_ge (tgt := 26) hx hb dX5_allRest_7 (by decide) (fun c2_ => ?_) (fun c2_ => ?_)
  · replace h := h.1 c2_
    refine lv_aload_n hx hb dX5_allRest_26 rfl (lv_at hl 0 rfl) ?_
    refine lv_iconst (v := 0) hx hb dX5_allRest_27 (by decide) ?_
    refine q_putI X Y kX5 13 rfl fl_X5_69 k1_ .int rfl ⟨rfl, rfl⟩ rfl dX5_allRest_28 (fun H locs Y => ?_)
    refine lv_aload_n hx hb dX5_allRest_31 rfl (lv_at hl 0 rfl) ?_
    refine lv_iconst (v := (-1)) hx hb dX5_allRest_32 (by decide) ?_
    refine q_putI X Y kX5 14 rfl fl_X5_72 k1_ .int rfl ⟨rfl, rfl⟩ rfl dX5_allRest_33 (fun H locs Y => ?_)
    refine lv_aload_n hx hb dX5_allRest_36 rfl (lv_at hl 0 rfl) ?_
    refine lv_iconst (v := (-1)) hx hb dX5_allRest_37 (by decide) ?_
    refine q_putI X Y kX5 16 rfl fl_X5_78 k1_ .int rfl ⟨rfl, rfl⟩ rfl dX5_allRest_38 (fun H locs Y => ?_)
    obtain ⟨S3_, gS3_⟩ : ∃ z : q_S, z = (qs_I (qs_I (qs_I S 1013 a0 (0 : Int32)) 1014 a0 (-1 : Int32)) 1016 a0 (-1 : Int32)) := ⟨_, rfl⟩
    replace Y : q_Y D cy lo s S3_ H locs := by rw [gS3_]; exact Y
    replace h := h S3_ gS3_
    replace k1_ : q_K S3_ a0 = 6 := by rw [gS3_]; exact k1_
    exact q_vret X Y (Nat.le_refl _) (Nat.le_refl _) h dX5_allRest_41
  · replace h := h.2 c2_
    refine lv_aload_n hx hb dX5_allRest_10 rfl (lv_at hl 0 rfl) ?_
    refine q_getP X Y kX5 3 rfl fl_X5_20 k1_ rfl dX5_allRest_11 ?_
    refine lv_iload_n hx hb dX5_allRest_14 rfl (lv_at hl 1 rfl) ?_
    obtain ⟨a4_, e5_, h⟩ := h
    refine q_nn [.int x1] e5_ ?_
    obtain ⟨k6_, h⟩ := h
    obtain ⟨i7_, h⟩ := h
    refine q_cld X Y k6_ (by decide) (t := 6) rfl i7_ rfl dX5_allRest_15 ?_
    refine lv_iconst (v := 0) hx hb dX5_allRest_16 (by decide) ?_
    obtain ⟨a8_, e9_, h⟩ := h
    refine q_nn [.int (0 : Int32)] e9_ ?_
    obtain ⟨k10_, h⟩ := h
    refine q_callV X Y hl (cm_X7_leave h) mt_X7_leave mi_X7_leave ml_X5_136 (ci := 7) rfl k10_ (by decide) rfl rfl (by first | exact Nat.le_of_ble_eq_true rfl | simp [q_cat, q_catI, q_catJ, q_catR]) ⟨Nat.le_of_ble_eq_true rfl, Nat.le_of_ble_eq_true rfl⟩ ⟨Nat.le_of_ble_eq_true rfl, Nat.le_of_ble_eq_true rfl⟩ dX5_allRest_17 (fun r11_ S12_ H locs hp Y => ?_)
    obtain ⟨rfl, h⟩ := hp
    refine W.eq (g2 := F0 m 20 ls []) rfl ?_
    refine lv_iinc (v := (x1 + 1)) (lv' := [(1, .int (x1 + 1)), (0, .ref a0)]) hx hb dX5_allRest_20 hl (k := 1) rfl (by first | rfl | decide) (by decide) (by first | rfl | simp [q_cat, q_catI, q_catJ, q_catR]) (fun ls hl => ?_)
    refine lv_goto (tgt := 2) hx hb dX5_allRest_23 (by decide) ?_
    exact hB2 _ _ _ _ _ _ h Y (lv_sub hl [1, 0] rfl)
def wl_X5_allRest_2  : Nat → q_S → Nat → Int32 → (Option Value → q_S → Prop) → Prop
  | 0, _, _, _, _ => False
  | n + 1, S, a0, x1, Q => wb_X5_allRest_2 (fun S a0 x1 => wl_X5_allRest_2 n S a0 x1 Q) S a0 x1 Q
set_option maxHeartbeats 4000000 in
set_option maxRecDepth 100000 in
theorem cl_X5_allRest_2 {p : Program} {l : Launch} {e : Env} {s : State} {m : MethodId} {args : Array Value} {below : List Frame} {meth : Method} {c : Code} {D : va_G} {cy : Nat → ClassId} {lo : Nat}  {Q : Option Value → q_S → Prop} (X : q_X p s m args meth c RX5 cX5_allRest 2 none D cy lo)  : ∀ (n : Nat) (S : q_S) (a0 : Nat) (x1 : Int32) (H : Heap) (locs : List Loc) (ls : Array Slot), wl_X5_allRest_2 n S a0 x1 Q → q_Y D cy lo s S H locs → lv_has ls 2 [(0, .ref a0), (1, .int x1)] → W p l e ({ frames := 1, cells := 0, slots := 0, locals := 21 } : Room) s m args below meth c H locs 0 0 (MQ below (q_Q D cy lo Q) args s 0 0 (fun q => lo ≤ q)) (F0 m 2 ls []) := by
  intro n
  induction n with
  | zero => intro S a0 x1 H locs ls h; exact absurd h id
  | succ n ih => intro S a0 x1 H locs ls h Y hl; exact cb_X5_allRest_2 X ih Y hl h
def wm_X5_allRest (S : q_S) (a0 : Nat) (Q : Option Value → q_S → Prop) : Prop := ∃ n13_ : Nat, wl_X5_allRest_2 n13_ S a0 (0 : Int32) Q
set_option maxHeartbeats 4000000 in
set_option maxRecDepth 100000 in
theorem cm_X5_allRest {l : Launch} {D : va_G} {cy : Nat → ClassId} {lo : Nat} {S : q_S} {a0 : Nat} {Q : Option Value → q_S → Prop} (h : wm_X5_allRest S a0 Q) : q_Met l D cy lo yX5_allRest cX5_allRest 2 none 1 21 0 0 [.ref a0] S Q := by
  refine q_body (by decide) (by first | exact Nat.le_of_ble_eq_true rfl | simp [lg_sl, q_cat, q_catI, q_catJ, q_catR]) ?_
  intro p e s m below meth c ls X hnm Y hl
  have hx := X.1
  have hb := X.2.1
  have hl : lv_has ls 2 [(0, .ref a0)] := by first | exact hl | simpa [lv_args, q_cat, q_catI, q_catJ, q_catR] using hl
  generalize hargs : ([.ref a0] : List Value).toArray = args at X ⊢
  unfold wm_X5_allRest at h
  refine lv_iconst (v := 0) hx hb dX5_allRest_0 (by decide) ?_
  refine lv_istore_n (i := 1) (lv' := [(1, .int (0 : Int32)), (0, .ref a0)]) hx hb dX5_allRest_1 rfl hl (by decide) (by first | rfl | simp [q_cat, q_catI, q_catJ, q_catR]) (fun ls hl => ?_)
  obtain ⟨n13_, h⟩ := h
  exact cl_X5_allRest_2 X n13_ _ _ _ _ _ _ h Y (lv_sub hl [1, 0] rfl)
-- X5_goIdle
theorem ml_X5_151 : Cond.methodLink RX5 151 yX5_allRest ∈ q_G := q_tb (i := 1306) (by decide +kernel) (by decide +kernel)
theorem mt_X5_allRest : q_Mt yX5_allRest cX5_allRest 2 none 0 := ⟨q_tb (i := 1309) (by decide +kernel) (by decide +kernel), q_tb (i := 20) (by decide +kernel) (by decide +kernel), by decide +kernel, by decide +kernel, by decide +kernel⟩
theorem mi_X5_allRest : Cond.instanceMethod yX5_allRest ∈ q_G ∧ Cond.selects yX5_allRest.cls yX5_allRest yX5_allRest ∈ q_G := ⟨q_tb (i := 1308) (by decide +kernel) (by decide +kernel), q_tp (i := 34) (q := (yX5_allRest, 19)) (by decide +kernel) (by decide +kernel)⟩
theorem fl_X5_57 : Cond.fieldLink RX5 57 "PartitionWorks$Partition" "mode" "I" ∈ q_G := q_tb (i := 709) (by decide +kernel) (by decide +kernel)
theorem dX5_goIdle_0 : decode cX5_goIdle 0 = .ok (.aload_n 0, 1) := by decide +kernel
theorem dX5_goIdle_1 : decode cX5_goIdle 1 = .ok (.invokevirtual 151, 3) := by decide +kernel
theorem dX5_goIdle_4 : decode cX5_goIdle 4 = .ok (.aload_n 0, 1) := by decide +kernel
theorem dX5_goIdle_5 : decode cX5_goIdle 5 = .ok (.iconst 1, 1) := by decide +kernel
theorem dX5_goIdle_6 : decode cX5_goIdle 6 = .ok (.putfield 57, 3) := by decide +kernel
theorem dX5_goIdle_9 : decode cX5_goIdle 9 = .ok (.return_, 1) := by decide +kernel
def wm_X5_goIdle (S : q_S) (a0 : Nat) (Q : Option Value → q_S → Prop) : Prop := q_K S a0 = 6 ∧ (wm_X5_allRest S a0 (fun r2_ S3_ => r2_ = none ∧ (q_K S3_ a0 = 6 ∧ (Q none (qs_I S3_ 1009 a0 (1 : Int32))))))
set_option maxHeartbeats 4000000 in
set_option maxRecDepth 100000 in
theorem cm_X5_goIdle {l : Launch} {D : va_G} {cy : Nat → ClassId} {lo : Nat} {S : q_S} {a0 : Nat} {Q : Option Value → q_S → Prop} (h : wm_X5_goIdle S a0 Q) : q_Met l D cy lo yX5_goIdle cX5_goIdle 1 none 2 42 0 0 [.ref a0] S Q := by
  refine q_body (by decide) (by first | exact Nat.le_of_ble_eq_true rfl | simp [lg_sl, q_cat, q_catI, q_catJ, q_catR]) ?_
  intro p e s m below meth c ls X hnm Y hl
  have hx := X.1
  have hb := X.2.1
  have hl : lv_has ls 1 [(0, .ref a0)] := by first | exact hl | simpa [lv_args, q_cat, q_catI, q_catJ, q_catR] using hl
  generalize hargs : ([.ref a0] : List Value).toArray = args at X ⊢
  unfold wm_X5_goIdle at h
  refine lv_aload_n hx hb dX5_goIdle_0 rfl (lv_at hl 0 rfl) ?_
  obtain ⟨k1_, h⟩ := h
  refine q_callV X Y hl (cm_X5_allRest h) mt_X5_allRest mi_X5_allRest ml_X5_151 (ci := 5) rfl k1_ (by decide) rfl rfl (by first | exact Nat.le_of_ble_eq_true rfl | simp [q_cat, q_catI, q_catJ, q_catR]) ⟨Nat.le_of_ble_eq_true rfl, Nat.le_of_ble_eq_true rfl⟩ ⟨Nat.le_of_ble_eq_true rfl, Nat.le_of_ble_eq_true rfl⟩ dX5_goIdle_1 (fun r2_ S3_ H locs hp Y => ?_)
  obtain ⟨rfl, h⟩ := hp
  refine W.eq (g2 := F0 m 4 ls []) rfl ?_
  refine lv_aload_n hx hb dX5_goIdle_4 rfl (lv_at hl 0 rfl) ?_
  refine lv_iconst (v := 1) hx hb dX5_goIdle_5 (by decide) ?_
  obtain ⟨k4_, h⟩ := h
  refine q_putI X Y kX5 9 rfl fl_X5_57 k4_ .int rfl ⟨rfl, rfl⟩ rfl dX5_goIdle_6 (fun H locs Y => ?_)
  exact q_vret X Y (Nat.le_refl _) (Nat.le_refl _) h dX5_goIdle_9
-- X10_empty
theorem fl_X10_22 : Cond.fieldLink RX10 22 "PartitionWorks$Thing" "first" "I" ∈ q_G := q_tb (i := 1004) (by decide +kernel) (by decide +kernel)
theorem fl_X10_42 : Cond.fieldLink RX10 42 "PartitionWorks$Thing" "count" "I" ∈ q_G := q_tb (i := 1000) (by decide +kernel) (by decide +kernel)
theorem fl_X10_12 : Cond.fieldLink RX10 12 "PartitionWorks$Thing" "queue" "LPartitionWorks$Queue;" ∈ q_G := q_tb (i := 1024) (by decide +kernel) (by decide +kernel)
theorem ml_X10_45 : Cond.methodLink RX10 45 yX8_empty ∈ q_G := q_tb (i := 1315) (by decide +kernel) (by decide +kernel)
theorem dX10_empty_0 : decode cX10_empty 0 = .ok (.aload_n 0, 1) := by decide +kernel
theorem dX10_empty_1 : decode cX10_empty 1 = .ok (.aload_n 0, 1) := by decide +kernel
theorem dX10_empty_2 : decode cX10_empty 2 = .ok (.getfield 22, 3) := by decide +kernel
theorem dX10_empty_5 : decode cX10_empty 5 = .ok (.putfield 42, 3) := by decide +kernel
theorem dX10_empty_8 : decode cX10_empty 8 = .ok (.aload_n 0, 1) := by decide +kernel
theorem dX10_empty_9 : decode cX10_empty 9 = .ok (.getfield 12, 3) := by decide +kernel
theorem dX10_empty_12 : decode cX10_empty 12 = .ok (.ifnull 10, 3) := by decide +kernel
theorem dX10_empty_15 : decode cX10_empty 15 = .ok (.aload_n 0, 1) := by decide +kernel
theorem dX10_empty_16 : decode cX10_empty 16 = .ok (.getfield 12, 3) := by decide +kernel
theorem dX10_empty_19 : decode cX10_empty 19 = .ok (.invokevirtual 45, 3) := by decide +kernel
theorem dX10_empty_22 : decode cX10_empty 22 = .ok (.return_, 1) := by decide +kernel
def wb_X10_empty_22  (S : q_S) (Q : Option Value → q_S → Prop) : Prop := Q none S
set_option maxHeartbeats 4000000 in
set_option maxRecDepth 100000 in
theorem cb_X10_empty_22 {p : Program} {l : Launch} {e : Env} {s : State} {m : MethodId} {args : Array Value} {below : List Frame} {meth : Method} {c : Code} {D : va_G} {cy : Nat → ClassId} {lo : Nat}  {S : q_S} {Q : Option Value → q_S → Prop} {H : Heap} {locs : List Loc} {ls : Array Slot} (X : q_X p s m args meth c RX10 cX10_empty 1 none D cy lo)  (Y : q_Y D cy lo s S H locs) (hl : lv_has ls 1 []) (h : wb_X10_empty_22 S Q) : W p l e ({ frames := 1, cells := 0, slots := 0, locals := 20 } : Room) s m args below meth c H locs 0 0 (MQ below (q_Q D cy lo Q) args s 0 0 (fun q => lo ≤ q)) (F0 m 22 ls []) := by
  have hx := X.1
  have hb := X.2.1
  unfold wb_X10_empty_22 at h
  exact q_vret X Y (Nat.le_refl _) (Nat.le_refl _) h dX10_empty_22
def wm_X10_empty (S : q_S) (a0 : Nat) (Q : Option Value → q_S → Prop) : Prop := q_K S a0 = 11 ∧ ((((q_P (qs_I S 2001 a0 (q_I S 2002 a0)) 2009 a0) = none → (wb_X10_empty_22 (qs_I S 2001 a0 (q_I S 2002 a0)) Q)) ∧ (¬ (q_P (qs_I S 2001 a0 (q_I S 2002 a0)) 2009 a0) = none → (∃ a3_ : Nat, (q_P (qs_I S 2001 a0 (q_I S 2002 a0)) 2009 a0) = some a3_ ∧ (q_K (qs_I S 2001 a0 (q_I S 2002 a0)) a3_ = 9 ∧ (wm_X8_empty (qs_I S 2001 a0 (q_I S 2002 a0)) a3_ (fun r6_ S7_ => r6_ = none ∧ (wb_X10_empty_22 S7_ Q))))))))
set_option maxHeartbeats 4000000 in
set_option maxRecDepth 100000 in
theorem cm_X10_empty {l : Launch} {D : va_G} {cy : Nat → ClassId} {lo : Nat} {S : q_S} {a0 : Nat} {Q : Option Value → q_S → Prop} (h : wm_X10_empty S a0 Q) : q_Met l D cy lo yX10_empty cX10_empty 1 none 1 20 0 0 [.ref a0] S Q := by
  refine q_body (by decide) (by first | exact Nat.le_of_ble_eq_true rfl | simp [lg_sl, q_cat, q_catI, q_catJ, q_catR]) ?_
  intro p e s m below meth c ls X hnm Y hl
  have hx := X.1
  have hb := X.2.1
  have hl : lv_has ls 1 [(0, .ref a0)] := by first | exact hl | simpa [lv_args, q_cat, q_catI, q_catJ, q_catR] using hl
  generalize hargs : ([.ref a0] : List Value).toArray = args at X ⊢
  unfold wm_X10_empty at h
  refine lv_aload_n hx hb dX10_empty_0 rfl (lv_at hl 0 rfl) ?_
  refine lv_aload_n hx hb dX10_empty_1 rfl (lv_at hl 0 rfl) ?_
  obtain ⟨k1_, h⟩ := h
  refine q_getI X Y kX10 2 rfl fl_X10_22 k1_ dX10_empty_2 ?_
  refine q_putI X Y kX10 1 rfl fl_X10_42 k1_ .int rfl ⟨rfl, rfl⟩ rfl dX10_empty_5 (fun H locs Y => ?_)
  refine lv_aload_n hx hb dX10_empty_8 rfl (lv_at hl 0 rfl) ?_
  refine q_getP X Y kX10 9 rfl fl_X10_12 k1_ rfl dX10_empty_9 ?_
  refine q_ifnull (r := (q_P (qs_I S 2001 a0 (q_I S 2002 a0)) 2009 a0)) (tgt := 22) hx hb dX10_empty_12 (by decide) (fun c2_ => ?_) (fun c2_ => ?_)
  · replace h := h.1 c2_
    exact cb_X10_empty_22 X Y (lv_sub hl [] rfl) h
  · replace h := h.2 c2_
    refine lv_aload_n hx hb dX10_empty_15 rfl (lv_at hl 0 rfl) ?_
    refine q_getP X Y kX10 9 rfl fl_X10_12 k1_ rfl dX10_empty_16 ?_
    obtain ⟨a3_, e4_, h⟩ := h
    refine q_nn [] e4_ ?_
    obtain ⟨k5_, h⟩ := h
    refine q_callV X Y hl (cm_X8_empty h) mt_X8_empty mi_X8_empty ml_X10_45 (ci := 8) rfl k5_ (by decide) rfl rfl (by first | exact Nat.le_of_ble_eq_true rfl | simp [q_cat, q_catI, q_catJ, q_catR]) ⟨Nat.le_of_ble_eq_true rfl, Nat.le_of_ble_eq_true rfl⟩ ⟨Nat.le_of_ble_eq_true rfl, Nat.le_of_ble_eq_true rfl⟩ dX10_empty_19 (fun r6_ S7_ H locs hp Y => ?_)
    obtain ⟨rfl, h⟩ := hp
    refine W.eq (g2 := F0 m 22 ls []) rfl ?_
    exact cb_X10_empty_22 X Y (lv_sub hl [] rfl) h
-- X4_restore
theorem fl_X4_15 : Cond.fieldLink RX4 15 "PartitionWorks$Memory" "image" "[I" ∈ q_G := q_tb (i := 663) (by decide +kernel) (by decide +kernel)
theorem fl_X4_9 : Cond.fieldLink RX4 9 "PartitionWorks$Memory" "words" "[I" ∈ q_G := q_tb (i := 661) (by decide +kernel) (by decide +kernel)
theorem fl_X4_30 : Cond.fieldLink RX4 30 "PartitionWorks$Memory" "bytes" "I" ∈ q_G := q_tb (i := 657) (by decide +kernel) (by decide +kernel)
theorem ml_X4_47 : Cond.methodLink RX4 47 arraycopyName ∈ q_G := q_tb (i := 1320) (by decide +kernel) (by decide +kernel)
theorem acn_ : Cond.native arraycopyName ∈ q_G := q_tb (i := 314) (by decide +kernel) (by decide +kernel)
theorem acs_ : Cond.static arraycopyName ∈ q_G := q_tb (i := 313) (by decide +kernel) (by decide +kernel)
theorem aci_ : Cond.initialized "java/lang/System" ∈ q_G := q_tb (i := 12) (by decide +kernel) (by decide +kernel)
theorem dX4_restore_0 : decode cX4_restore 0 = .ok (.aload_n 0, 1) := by decide +kernel
theorem dX4_restore_1 : decode cX4_restore 1 = .ok (.getfield 15, 3) := by decide +kernel
theorem dX4_restore_4 : decode cX4_restore 4 = .ok (.iconst 0, 1) := by decide +kernel
theorem dX4_restore_5 : decode cX4_restore 5 = .ok (.aload_n 0, 1) := by decide +kernel
theorem dX4_restore_6 : decode cX4_restore 6 = .ok (.getfield 9, 3) := by decide +kernel
theorem dX4_restore_9 : decode cX4_restore 9 = .ok (.iconst 0, 1) := by decide +kernel
theorem dX4_restore_10 : decode cX4_restore 10 = .ok (.aload_n 0, 1) := by decide +kernel
theorem dX4_restore_11 : decode cX4_restore 11 = .ok (.getfield 30, 3) := by decide +kernel
theorem dX4_restore_14 : decode cX4_restore 14 = .ok (.iconst 2, 1) := by decide +kernel
theorem dX4_restore_15 : decode cX4_restore 15 = .ok (.ishr, 1) := by decide +kernel
theorem dX4_restore_16 : decode cX4_restore 16 = .ok (.invokestatic 47, 3) := by decide +kernel
theorem dX4_restore_19 : decode cX4_restore 19 = .ok (.return_, 1) := by decide +kernel
def wm_X4_restore (S : q_S) (a0 : Nat) (Q : Option Value → q_S → Prop) : Prop := q_K S a0 = 5 ∧ (∃ a2_ : Nat, (q_P S 801 a0) = some a2_ ∧ (∃ a4_ : Nat, (q_P S 802 a0) = some a4_ ∧ (q_K S a2_ = 21 ∧ (q_K S a4_ = 21 ∧ ((¬ (0 : Int32) < 0) ∧ (¬ (0 : Int32) < 0) ∧ (¬ ((q_I S 800 a0) >>> ((2 : Int32) &&& 31)) < 0) ∧ ((0 : Int32).toNatClampNeg + ((q_I S 800 a0) >>> ((2 : Int32) &&& 31)).toNatClampNeg ≤ q_N S a4_) ∧ ((0 : Int32).toNatClampNeg + ((q_I S 800 a0) >>> ((2 : Int32) &&& 31)).toNatClampNeg ≤ q_N S a2_) ∧ (Q none (qs_G S a2_ (va_cpy (q_A S a4_) (q_A S a2_) (0 : Int32).toNatClampNeg (0 : Int32).toNatClampNeg ((q_I S 800 a0) >>> ((2 : Int32) &&& 31)).toNatClampNeg))))))))
set_option maxHeartbeats 4000000 in
set_option maxRecDepth 100000 in
theorem cm_X4_restore {l : Launch} {D : va_G} {cy : Nat → ClassId} {lo : Nat} {S : q_S} {a0 : Nat} {Q : Option Value → q_S → Prop} (h : wm_X4_restore S a0 Q) : q_Met l D cy lo yX4_restore cX4_restore 1 none 1 60 0 0 [.ref a0] S Q := by
  refine q_body (by decide) (by first | exact Nat.le_of_ble_eq_true rfl | simp [lg_sl, q_cat, q_catI, q_catJ, q_catR]) ?_
  intro p e s m below meth c ls X hnm Y hl
  have hx := X.1
  have hb := X.2.1
  have hl : lv_has ls 1 [(0, .ref a0)] := by first | exact hl | simpa [lv_args, q_cat, q_catI, q_catJ, q_catR] using hl
  generalize hargs : ([.ref a0] : List Value).toArray = args at X ⊢
  unfold wm_X4_restore at h
  refine lv_aload_n hx hb dX4_restore_0 rfl (lv_at hl 0 rfl) ?_
  obtain ⟨k1_, h⟩ := h
  refine q_getP X Y kX4 2 rfl fl_X4_15 k1_ rfl dX4_restore_1 ?_
  refine lv_iconst (v := 0) hx hb dX4_restore_4 (by decide) ?_
  refine lv_aload_n hx hb dX4_restore_5 rfl (lv_at hl 0 rfl) ?_
  refine q_getP X Y kX4 1 rfl fl_X4_9 k1_ rfl dX4_restore_6 ?_
  refine lv_iconst (v := 0) hx hb dX4_restore_9 (by decide) ?_
  refine lv_aload_n hx hb dX4_restore_10 rfl (lv_at hl 0 rfl) ?_
  refine q_getI X Y kX4 0 rfl fl_X4_30 k1_ dX4_restore_11 ?_
  refine lv_iconst (v := 2) hx hb dX4_restore_14 (by decide) ?_
  refine lv_ishr hx hb dX4_restore_15 ?_
  obtain ⟨a2_, e3_, h⟩ := h
  refine q_nn [.int ((q_I S 800 a0) >>> ((2 : Int32) &&& 31)), .int (0 : Int32)] e3_ ?_
  obtain ⟨a4_, e5_, h⟩ := h
  refine q_nn [.int ((q_I S 800 a0) >>> ((2 : Int32) &&& 31)), .int (0 : Int32), .ref a2_, .int (0 : Int32)] e5_ ?_
  obtain ⟨k6_, h⟩ := h
  obtain ⟨k7_, h⟩ := h
  obtain ⟨g8_, g9_, g10_, g11_, g12_, h⟩ := h
  refine q_copy X Y hl ml_X4_47 acn_ acs_ aci_ (by decide) k7_ k6_ (t := 1) rfl rfl g8_ g9_ g10_ g11_ g12_ (fun _ _ => rfl) ⟨Nat.le_of_ble_eq_true rfl, by first | exact Nat.le_of_ble_eq_true rfl | simp [q_cat, q_catI, q_catJ, q_catR, nativeFrameWords] | decide⟩ dX4_restore_16 (fun H locs Y => ?_)
  exact q_vret X Y (Nat.le_refl _) (Nat.le_refl _) h dX4_restore_19
-- X5_beginAnew
theorem ml_X5_154 : Cond.methodLink RX5 154 yX10_empty ∈ q_G := q_tb (i := 1311) (by decide +kernel) (by decide +kernel)
theorem mt_X10_empty : q_Mt yX10_empty cX10_empty 1 none 0 := ⟨q_tb (i := 1314) (by decide +kernel) (by decide +kernel), q_tb (i := 23) (by decide +kernel) (by decide +kernel), by decide +kernel, by decide +kernel, by decide +kernel⟩
theorem mi_X10_empty : Cond.instanceMethod yX10_empty ∈ q_G ∧ Cond.selects yX10_empty.cls yX10_empty yX10_empty ∈ q_G := ⟨q_tb (i := 1312) (by decide +kernel) (by decide +kernel), q_tb (i := 1313) (by decide +kernel) (by decide +kernel)⟩
theorem fl_X5_160 : Cond.fieldLink RX5 160 "PartitionWorks$Process" "stopped" "Z" ∈ q_G := q_tb (i := 869) (by decide +kernel) (by decide +kernel)
theorem fl_X5_163 : Cond.fieldLink RX5 163 "PartitionWorks$Process" "delay" "I" ∈ q_G := q_tb (i := 861) (by decide +kernel) (by decide +kernel)
theorem ml_X5_148 : Cond.methodLink RX5 148 yX5_start ∈ q_G := q_tb (i := 1321) (by decide +kernel) (by decide +kernel)
theorem fl_X5_12 : Cond.fieldLink RX5 12 "PartitionWorks$Partition" "memory" "LPartitionWorks$Memory;" ∈ q_G := q_tb (i := 695) (by decide +kernel) (by decide +kernel)
theorem ml_X5_157 : Cond.methodLink RX5 157 yX4_restore ∈ q_G := q_tb (i := 1316) (by decide +kernel) (by decide +kernel)
theorem mt_X4_restore : q_Mt yX4_restore cX4_restore 1 none 0 := ⟨q_tb (i := 1319) (by decide +kernel) (by decide +kernel), q_tb (i := 21) (by decide +kernel) (by decide +kernel), by decide +kernel, by decide +kernel, by decide +kernel⟩
theorem mi_X4_restore : Cond.instanceMethod yX4_restore ∈ q_G ∧ Cond.selects yX4_restore.cls yX4_restore yX4_restore ∈ q_G := ⟨q_tb (i := 1317) (by decide +kernel) (by decide +kernel), q_tb (i := 1318) (by decide +kernel) (by decide +kernel)⟩
theorem fl_X5_60 : Cond.fieldLink RX5 60 "PartitionWorks$Partition" "how" "I" ∈ q_G := q_tb (i := 711) (by decide +kernel) (by decide +kernel)
theorem fl_X5_63 : Cond.fieldLink RX5 63 "PartitionWorks$Partition" "begun" "I" ∈ q_G := q_tb (i := 714) (by decide +kernel) (by decide +kernel)
theorem dX5_beginAnew_0 : decode cX5_beginAnew 0 = .ok (.aload_n 0, 1) := by decide +kernel
theorem dX5_beginAnew_1 : decode cX5_beginAnew 1 = .ok (.invokevirtual 151, 3) := by decide +kernel
theorem dX5_beginAnew_4 : decode cX5_beginAnew 4 = .ok (.aload_n 0, 1) := by decide +kernel
theorem dX5_beginAnew_5 : decode cX5_beginAnew 5 = .ok (.iload_n 2, 1) := by decide +kernel
theorem dX5_beginAnew_6 : decode cX5_beginAnew 6 = .ok (.putfield 60, 3) := by decide +kernel
theorem dX5_beginAnew_9 : decode cX5_beginAnew 9 = .ok (.aload_n 0, 1) := by decide +kernel
theorem dX5_beginAnew_10 : decode cX5_beginAnew 10 = .ok (.dup, 1) := by decide +kernel
theorem dX5_beginAnew_11 : decode cX5_beginAnew 11 = .ok (.getfield 63, 3) := by decide +kernel
theorem dX5_beginAnew_14 : decode cX5_beginAnew 14 = .ok (.iconst 1, 1) := by decide +kernel
theorem dX5_beginAnew_15 : decode cX5_beginAnew 15 = .ok (.iadd, 1) := by decide +kernel
theorem dX5_beginAnew_16 : decode cX5_beginAnew 16 = .ok (.putfield 63, 3) := by decide +kernel
theorem dX5_beginAnew_19 : decode cX5_beginAnew 19 = .ok (.iconst 0, 1) := by decide +kernel
theorem dX5_beginAnew_20 : decode cX5_beginAnew 20 = .ok (.istore 4, 2) := by decide +kernel
theorem dX5_beginAnew_22 : decode cX5_beginAnew 22 = .ok (.iload 4, 2) := by decide +kernel
theorem dX5_beginAnew_24 : decode cX5_beginAnew 24 = .ok (.iconst 5, 1) := by decide +kernel
theorem dX5_beginAnew_25 : decode cX5_beginAnew 25 = .ok (.if_icmp .ge 46, 3) := by decide +kernel
theorem dX5_beginAnew_28 : decode cX5_beginAnew 28 = .ok (.iconst 0, 1) := by decide +kernel
theorem dX5_beginAnew_29 : decode cX5_beginAnew 29 = .ok (.istore 5, 2) := by decide +kernel
theorem dX5_beginAnew_31 : decode cX5_beginAnew 31 = .ok (.iload 5, 2) := by decide +kernel
theorem dX5_beginAnew_33 : decode cX5_beginAnew 33 = .ok (.aload_n 0, 1) := by decide +kernel
theorem dX5_beginAnew_34 : decode cX5_beginAnew 34 = .ok (.getfield 30, 3) := by decide +kernel
theorem dX5_beginAnew_37 : decode cX5_beginAnew 37 = .ok (.iload 4, 2) := by decide +kernel
theorem dX5_beginAnew_39 : decode cX5_beginAnew 39 = .ok (.iaload, 1) := by decide +kernel
theorem dX5_beginAnew_40 : decode cX5_beginAnew 40 = .ok (.if_icmp .ge 25, 3) := by decide +kernel
theorem dX5_beginAnew_43 : decode cX5_beginAnew 43 = .ok (.aload_n 0, 1) := by decide +kernel
theorem dX5_beginAnew_44 : decode cX5_beginAnew 44 = .ok (.getfield 26, 3) := by decide +kernel
theorem dX5_beginAnew_47 : decode cX5_beginAnew 47 = .ok (.iload 4, 2) := by decide +kernel
theorem dX5_beginAnew_49 : decode cX5_beginAnew 49 = .ok (.bipush 8, 2) := by decide +kernel
theorem dX5_beginAnew_51 : decode cX5_beginAnew 51 = .ok (.imul, 1) := by decide +kernel
theorem dX5_beginAnew_52 : decode cX5_beginAnew 52 = .ok (.iload 5, 2) := by decide +kernel
theorem dX5_beginAnew_54 : decode cX5_beginAnew 54 = .ok (.iadd, 1) := by decide +kernel
theorem dX5_beginAnew_55 : decode cX5_beginAnew 55 = .ok (.aaload, 1) := by decide +kernel
theorem dX5_beginAnew_56 : decode cX5_beginAnew 56 = .ok (.invokevirtual 154, 3) := by decide +kernel
theorem dX5_beginAnew_59 : decode cX5_beginAnew 59 = .ok (.iinc 5 1, 3) := by decide +kernel
theorem dX5_beginAnew_62 : decode cX5_beginAnew 62 = .ok (.goto (-31), 3) := by decide +kernel
theorem dX5_beginAnew_65 : decode cX5_beginAnew 65 = .ok (.iinc 4 1, 3) := by decide +kernel
theorem dX5_beginAnew_68 : decode cX5_beginAnew 68 = .ok (.goto (-46), 3) := by decide +kernel
theorem dX5_beginAnew_71 : decode cX5_beginAnew 71 = .ok (.iload_n 1, 1) := by decide +kernel
theorem dX5_beginAnew_72 : decode cX5_beginAnew 72 = .ok (.ifCond .eq 10, 3) := by decide +kernel
theorem dX5_beginAnew_75 : decode cX5_beginAnew 75 = .ok (.aload_n 0, 1) := by decide +kernel
theorem dX5_beginAnew_76 : decode cX5_beginAnew 76 = .ok (.getfield 12, 3) := by decide +kernel
theorem dX5_beginAnew_79 : decode cX5_beginAnew 79 = .ok (.invokevirtual 157, 3) := by decide +kernel
theorem dX5_beginAnew_82 : decode cX5_beginAnew 82 = .ok (.iconst 0, 1) := by decide +kernel
theorem dX5_beginAnew_83 : decode cX5_beginAnew 83 = .ok (.istore 4, 2) := by decide +kernel
theorem dX5_beginAnew_85 : decode cX5_beginAnew 85 = .ok (.iload 4, 2) := by decide +kernel
theorem dX5_beginAnew_87 : decode cX5_beginAnew 87 = .ok (.aload_n 0, 1) := by decide +kernel
theorem dX5_beginAnew_88 : decode cX5_beginAnew 88 = .ok (.getfield 45, 3) := by decide +kernel
theorem dX5_beginAnew_91 : decode cX5_beginAnew 91 = .ok (.if_icmp .ge 48, 3) := by decide +kernel
theorem dX5_beginAnew_94 : decode cX5_beginAnew 94 = .ok (.aload_n 0, 1) := by decide +kernel
theorem dX5_beginAnew_95 : decode cX5_beginAnew 95 = .ok (.getfield 20, 3) := by decide +kernel
theorem dX5_beginAnew_98 : decode cX5_beginAnew 98 = .ok (.iload 4, 2) := by decide +kernel
theorem dX5_beginAnew_100 : decode cX5_beginAnew 100 = .ok (.aaload, 1) := by decide +kernel
theorem dX5_beginAnew_101 : decode cX5_beginAnew 101 = .ok (.astore 5, 2) := by decide +kernel
theorem dX5_beginAnew_103 : decode cX5_beginAnew 103 = .ok (.aload 5, 2) := by decide +kernel
theorem dX5_beginAnew_105 : decode cX5_beginAnew 105 = .ok (.getfield 98, 3) := by decide +kernel
theorem dX5_beginAnew_108 : decode cX5_beginAnew 108 = .ok (.ifCond .ne 25, 3) := by decide +kernel
theorem dX5_beginAnew_111 : decode cX5_beginAnew 111 = .ok (.aload 5, 2) := by decide +kernel
theorem dX5_beginAnew_113 : decode cX5_beginAnew 113 = .ok (.getfield 160, 3) := by decide +kernel
theorem dX5_beginAnew_116 : decode cX5_beginAnew 116 = .ok (.ifCond .ne 17, 3) := by decide +kernel
theorem dX5_beginAnew_119 : decode cX5_beginAnew 119 = .ok (.aload_n 0, 1) := by decide +kernel
theorem dX5_beginAnew_120 : decode cX5_beginAnew 120 = .ok (.aload 5, 2) := by decide +kernel
theorem dX5_beginAnew_122 : decode cX5_beginAnew 122 = .ok (.iload_n 3, 1) := by decide +kernel
theorem dX5_beginAnew_123 : decode cX5_beginAnew 123 = .ok (.aload 5, 2) := by decide +kernel
theorem dX5_beginAnew_125 : decode cX5_beginAnew 125 = .ok (.getfield 163, 3) := by decide +kernel
theorem dX5_beginAnew_128 : decode cX5_beginAnew 128 = .ok (.iadd, 1) := by decide +kernel
theorem dX5_beginAnew_129 : decode cX5_beginAnew 129 = .ok (.iload_n 3, 1) := by decide +kernel
theorem dX5_beginAnew_130 : decode cX5_beginAnew 130 = .ok (.invokevirtual 148, 3) := by decide +kernel
theorem dX5_beginAnew_133 : decode cX5_beginAnew 133 = .ok (.iinc 4 1, 3) := by decide +kernel
theorem dX5_beginAnew_136 : decode cX5_beginAnew 136 = .ok (.goto (-51), 3) := by decide +kernel
theorem dX5_beginAnew_139 : decode cX5_beginAnew 139 = .ok (.return_, 1) := by decide +kernel
def wb_X5_beginAnew_31 (B22 : q_S → Nat → Int32 → Int32 → Int32 → Prop) (B31 : q_S → Nat → Int32 → Int32 → Int32 → Int32 → Prop) (S : q_S) (a0 : Nat) (x1 : Int32) (x3 : Int32) (x4 : Int32) (x5 : Int32) (Q : Option Value → q_S → Prop) : Prop := q_K S a0 = 6 ∧ (∃ a2_ : Nat, (q_P S 1006 a0) = some a2_ ∧ (q_K S a2_ = 21 ∧ (vp_in x4 (q_N S a2_) ∧ ((((q_A S a2_ x4.toNatClampNeg) ≤ x5 → (B22 S a0 x1 x3 (x4 + 1))) ∧ (¬ (q_A S a2_ x4.toNatClampNeg) ≤ x5 → (∃ a7_ : Nat, (q_P S 1005 a0) = some a7_ ∧ (q_K S a7_ = 27 ∧ (vp_in ((x4 * (8 : Int32)) + x5) (q_N S a7_) ∧ (∃ a11_ : Nat, (q_C S a7_ ((x4 * (8 : Int32)) + x5).toNatClampNeg) = some a11_ ∧ (q_K S a11_ = 11 ∧ (wm_X10_empty S a11_ (fun r14_ S15_ => r14_ = none ∧ (B31 S15_ a0 x1 x3 x4 (x5 + 1)))))))))))))))
set_option maxHeartbeats 4000000 in
set_option maxRecDepth 100000 in
theorem cb_X5_beginAnew_31 {p : Program} {l : Launch} {e : Env} {s : State} {m : MethodId} {args : Array Value} {below : List Frame} {meth : Method} {c : Code} {D : va_G} {cy : Nat → ClassId} {lo : Nat} {B22 : q_S → Nat → Int32 → Int32 → Int32 → Prop} {B31 : q_S → Nat → Int32 → Int32 → Int32 → Int32 → Prop} {S : q_S} {a0 : Nat} {x1 : Int32} {x3 : Int32} {x4 : Int32} {x5 : Int32} {Q : Option Value → q_S → Prop} {H : Heap} {locs : List Loc} {ls : Array Slot} (X : q_X p s m args meth c RX5 cX5_beginAnew 6 none D cy lo) (hB22 : ∀ (S : q_S) (a0 : Nat) (x1 : Int32) (x3 : Int32) (x4 : Int32) (H : Heap) (locs : List Loc) (ls : Array Slot), B22 S a0 x1 x3 x4 → q_Y D cy lo s S H locs → lv_has ls 6 [(0, .ref a0), (1, .int x1), (3, .int x3), (4, .int x4)] → W p l e ({ frames := 3, cells := 0, slots := 0, locals := 80 } : Room) s m args below meth c H locs 0 0 (MQ below (q_Q D cy lo Q) args s 0 0 (fun q => lo ≤ q)) (F0 m 22 ls [])) (hB31 : ∀ (S : q_S) (a0 : Nat) (x1 : Int32) (x3 : Int32) (x4 : Int32) (x5 : Int32) (H : Heap) (locs : List Loc) (ls : Array Slot), B31 S a0 x1 x3 x4 x5 → q_Y D cy lo s S H locs → lv_has ls 6 [(0, .ref a0), (1, .int x1), (3, .int x3), (4, .int x4), (5, .int x5)] → W p l e ({ frames := 3, cells := 0, slots := 0, locals := 80 } : Room) s m args below meth c H locs 0 0 (MQ below (q_Q D cy lo Q) args s 0 0 (fun q => lo ≤ q)) (F0 m 31 ls [])) (Y : q_Y D cy lo s S H locs) (hl : lv_has ls 6 [(0, .ref a0), (1, .int x1), (3, .int x3), (4, .int x4), (5, .int x5)]) (h : wb_X5_beginAnew_31 B22 B31 S a0 x1 x3 x4 x5 Q) : W p l e ({ frames := 3, cells := 0, slots := 0, locals := 80 } : Room) s m args below meth c H locs 0 0 (MQ below (q_Q D cy lo Q) args s 0 0 (fun q => lo ≤ q)) (F0 m 31 ls []) := by
  have hx := X.1
  have hb := X.2.1
  unfold wb_X5_beginAnew_31 at h
  refine lv_iload hx hb dX5_beginAnew_31 (lv_at hl 4 rfl) ?_
  refine lv_aload_n hx hb dX5_beginAnew_33 rfl (lv_at hl 0 rfl) ?_
  obtain ⟨k1_, h⟩ := h
  refine q_getP X Y kX5 6 rfl fl_X5_30 k1_ rfl dX5_beginAnew_34 ?_
  refine lv_iload hx hb dX5_beginAnew_37 (lv_at hl 3 rfl) ?_
  obtain ⟨a2_, e3_, h⟩ := h
  refine q_nn [.int x4] e3_ ?_
  obtain ⟨k4_, h⟩ := h
  obtain ⟨i5_, h⟩ := h
  refine q_ild X Y k4_ i5_ dX5_beginAnew_39 ?_
  refine lv_icmp_ge (tgt := 65) hx hb dX5_beginAnew_40 (by decide) (fun c6_ => ?_) (fun c6_ => ?_)
  · replace h := h.1 c6_
    refine lv_iinc (v := (x4 + 1)) (lv' := [(4, .int (x4 + 1)), (0, .ref a0), (1, .int x1), (3, .int x3), (5, .int x5)]) hx hb dX5_beginAnew_65 hl (k := 3) rfl (by first | rfl | decide) (by decide) (by first | rfl | simp [q_cat, q_catI, q_catJ, q_catR]) (fun ls hl => ?_)
    refine lv_goto (tgt := 22) hx hb dX5_beginAnew_68 (by decide) ?_
    exact hB22 _ _ _ _ _ _ _ _ h Y (lv_sub hl [1, 2, 3, 0] rfl)
  · replace h := h.2 c6_
    refine lv_aload_n hx hb dX5_beginAnew_43 rfl (lv_at hl 0 rfl) ?_
    refine q_getP X Y kX5 5 rfl fl_X5_26 k1_ rfl dX5_beginAnew_44 ?_
    refine lv_iload hx hb dX5_beginAnew_47 (lv_at hl 3 rfl) ?_
    refine lv_bipush (v := 8) hx hb dX5_beginAnew_49 (by decide) ?_
    refine lv_imul hx hb dX5_beginAnew_51 ?_
    refine lv_iload hx hb dX5_beginAnew_52 (lv_at hl 4 rfl) ?_
    refine lv_iadd hx hb dX5_beginAnew_54 ?_
    obtain ⟨a7_, e8_, h⟩ := h
    refine q_nn [.int ((x4 * (8 : Int32)) + x5)] e8_ ?_
    obtain ⟨k9_, h⟩ := h
    obtain ⟨i10_, h⟩ := h
    refine q_cld X Y k9_ (by decide) (t := 7) rfl i10_ rfl dX5_beginAnew_55 ?_
    obtain ⟨a11_, e12_, h⟩ := h
    refine q_nn [] e12_ ?_
    obtain ⟨k13_, h⟩ := h
    refine q_callV X Y hl (cm_X10_empty h) mt_X10_empty mi_X10_empty ml_X5_154 (ci := 10) rfl k13_ (by decide) rfl rfl (by first | exact Nat.le_of_ble_eq_true rfl | simp [q_cat, q_catI, q_catJ, q_catR]) ⟨Nat.le_of_ble_eq_true rfl, Nat.le_of_ble_eq_true rfl⟩ ⟨Nat.le_of_ble_eq_true rfl, Nat.le_of_ble_eq_true rfl⟩ dX5_beginAnew_56 (fun r14_ S15_ H locs hp Y => ?_)
    obtain ⟨rfl, h⟩ := hp
    refine W.eq (g2 := F0 m 59 ls []) rfl ?_
    refine lv_iinc (v := (x5 + 1)) (lv' := [(5, .int (x5 + 1)), (0, .ref a0), (1, .int x1), (3, .int x3), (4, .int x4)]) hx hb dX5_beginAnew_59 hl (k := 4) rfl (by first | rfl | decide) (by decide) (by first | rfl | simp [q_cat, q_catI, q_catJ, q_catR]) (fun ls hl => ?_)
    refine lv_goto (tgt := 31) hx hb dX5_beginAnew_62 (by decide) ?_
    exact hB31 _ _ _ _ _ _ _ _ _ h Y (lv_sub hl [1, 2, 3, 4, 0] rfl)
def wl_X5_beginAnew_31 (B22 : q_S → Nat → Int32 → Int32 → Int32 → Prop) : Nat → q_S → Nat → Int32 → Int32 → Int32 → Int32 → (Option Value → q_S → Prop) → Prop
  | 0, _, _, _, _, _, _, _ => False
  | n + 1, S, a0, x1, x3, x4, x5, Q => wb_X5_beginAnew_31 B22 (fun S a0 x1 x3 x4 x5 => wl_X5_beginAnew_31 B22 n S a0 x1 x3 x4 x5 Q) S a0 x1 x3 x4 x5 Q
set_option maxHeartbeats 4000000 in
set_option maxRecDepth 100000 in
theorem cl_X5_beginAnew_31 {p : Program} {l : Launch} {e : Env} {s : State} {m : MethodId} {args : Array Value} {below : List Frame} {meth : Method} {c : Code} {D : va_G} {cy : Nat → ClassId} {lo : Nat} {B22 : q_S → Nat → Int32 → Int32 → Int32 → Prop} {Q : Option Value → q_S → Prop} (X : q_X p s m args meth c RX5 cX5_beginAnew 6 none D cy lo) (hB22 : ∀ (S : q_S) (a0 : Nat) (x1 : Int32) (x3 : Int32) (x4 : Int32) (H : Heap) (locs : List Loc) (ls : Array Slot), B22 S a0 x1 x3 x4 → q_Y D cy lo s S H locs → lv_has ls 6 [(0, .ref a0), (1, .int x1), (3, .int x3), (4, .int x4)] → W p l e ({ frames := 3, cells := 0, slots := 0, locals := 80 } : Room) s m args below meth c H locs 0 0 (MQ below (q_Q D cy lo Q) args s 0 0 (fun q => lo ≤ q)) (F0 m 22 ls [])) : ∀ (n : Nat) (S : q_S) (a0 : Nat) (x1 : Int32) (x3 : Int32) (x4 : Int32) (x5 : Int32) (H : Heap) (locs : List Loc) (ls : Array Slot), wl_X5_beginAnew_31 B22 n S a0 x1 x3 x4 x5 Q → q_Y D cy lo s S H locs → lv_has ls 6 [(0, .ref a0), (1, .int x1), (3, .int x3), (4, .int x4), (5, .int x5)] → W p l e ({ frames := 3, cells := 0, slots := 0, locals := 80 } : Room) s m args below meth c H locs 0 0 (MQ below (q_Q D cy lo Q) args s 0 0 (fun q => lo ≤ q)) (F0 m 31 ls []) := by
  intro n
  induction n with
  | zero => intro S a0 x1 x3 x4 x5 H locs ls h; exact absurd h id
  | succ n ih => intro S a0 x1 x3 x4 x5 H locs ls h Y hl; exact cb_X5_beginAnew_31 X hB22 ih Y hl h
def wb_X5_beginAnew_133 (B85 : q_S → Nat → Int32 → Int32 → Prop) (S : q_S) (a0 : Nat) (x3 : Int32) (x4 : Int32) (Q : Option Value → q_S → Prop) : Prop := B85 S a0 x3 (x4 + 1)
set_option maxHeartbeats 4000000 in
set_option maxRecDepth 100000 in
theorem cb_X5_beginAnew_133 {p : Program} {l : Launch} {e : Env} {s : State} {m : MethodId} {args : Array Value} {below : List Frame} {meth : Method} {c : Code} {D : va_G} {cy : Nat → ClassId} {lo : Nat} {B85 : q_S → Nat → Int32 → Int32 → Prop} {S : q_S} {a0 : Nat} {x3 : Int32} {x4 : Int32} {Q : Option Value → q_S → Prop} {H : Heap} {locs : List Loc} {ls : Array Slot} (X : q_X p s m args meth c RX5 cX5_beginAnew 6 none D cy lo) (hB85 : ∀ (S : q_S) (a0 : Nat) (x3 : Int32) (x4 : Int32) (H : Heap) (locs : List Loc) (ls : Array Slot), B85 S a0 x3 x4 → q_Y D cy lo s S H locs → lv_has ls 6 [(0, .ref a0), (3, .int x3), (4, .int x4)] → W p l e ({ frames := 3, cells := 0, slots := 0, locals := 80 } : Room) s m args below meth c H locs 0 0 (MQ below (q_Q D cy lo Q) args s 0 0 (fun q => lo ≤ q)) (F0 m 85 ls [])) (Y : q_Y D cy lo s S H locs) (hl : lv_has ls 6 [(0, .ref a0), (3, .int x3), (4, .int x4)]) (h : wb_X5_beginAnew_133 B85 S a0 x3 x4 Q) : W p l e ({ frames := 3, cells := 0, slots := 0, locals := 80 } : Room) s m args below meth c H locs 0 0 (MQ below (q_Q D cy lo Q) args s 0 0 (fun q => lo ≤ q)) (F0 m 133 ls []) := by
  have hx := X.1
  have hb := X.2.1
  unfold wb_X5_beginAnew_133 at h
  refine lv_iinc (v := (x4 + 1)) (lv' := [(4, .int (x4 + 1)), (0, .ref a0), (3, .int x3)]) hx hb dX5_beginAnew_133 hl (k := 2) rfl (by first | rfl | decide) (by decide) (by first | rfl | simp [q_cat, q_catI, q_catJ, q_catR]) (fun ls hl => ?_)
  refine lv_goto (tgt := 85) hx hb dX5_beginAnew_136 (by decide) ?_
  exact hB85 _ _ _ _ _ _ _ h Y (lv_sub hl [1, 2, 0] rfl)
def wb_X5_beginAnew_85 (B85 : q_S → Nat → Int32 → Int32 → Prop) (S : q_S) (a0 : Nat) (x3 : Int32) (x4 : Int32) (Q : Option Value → q_S → Prop) : Prop := q_K S a0 = 6 ∧ ((((q_I S 1004 a0) ≤ x4 → (Q none S)) ∧ (¬ (q_I S 1004 a0) ≤ x4 → (∃ a18_ : Nat, (q_P S 1003 a0) = some a18_ ∧ (q_K S a18_ = 26 ∧ (vp_in x4 (q_N S a18_) ∧ (∃ a22_ : Nat, (q_C S a18_ x4.toNatClampNeg) = some a22_ ∧ (q_K S a22_ = 8 ∧ (((¬ (q_I S 1407 a22_) = 0 → (wb_X5_beginAnew_133 B85 S a0 x3 x4 Q)) ∧ ((q_I S 1407 a22_) = 0 → (((¬ (q_I S 1408 a22_) = 0 → (wb_X5_beginAnew_133 B85 S a0 x3 x4 Q)) ∧ ((q_I S 1408 a22_) = 0 → (wm_X5_start S a0 (q_C S a18_ x4.toNatClampNeg) (x3 + (q_I S 1406 a22_)) x3 (fun r27_ S28_ => r27_ = none ∧ (wb_X5_beginAnew_133 B85 S28_ a0 x3 x4 Q)))))))))))))))))
set_option maxHeartbeats 4000000 in
set_option maxRecDepth 100000 in
theorem cb_X5_beginAnew_85 {p : Program} {l : Launch} {e : Env} {s : State} {m : MethodId} {args : Array Value} {below : List Frame} {meth : Method} {c : Code} {D : va_G} {cy : Nat → ClassId} {lo : Nat} {B85 : q_S → Nat → Int32 → Int32 → Prop} {S : q_S} {a0 : Nat} {x3 : Int32} {x4 : Int32} {Q : Option Value → q_S → Prop} {H : Heap} {locs : List Loc} {ls : Array Slot} (X : q_X p s m args meth c RX5 cX5_beginAnew 6 none D cy lo) (hB85 : ∀ (S : q_S) (a0 : Nat) (x3 : Int32) (x4 : Int32) (H : Heap) (locs : List Loc) (ls : Array Slot), B85 S a0 x3 x4 → q_Y D cy lo s S H locs → lv_has ls 6 [(0, .ref a0), (3, .int x3), (4, .int x4)] → W p l e ({ frames := 3, cells := 0, slots := 0, locals := 80 } : Room) s m args below meth c H locs 0 0 (MQ below (q_Q D cy lo Q) args s 0 0 (fun q => lo ≤ q)) (F0 m 85 ls [])) (Y : q_Y D cy lo s S H locs) (hl : lv_has ls 6 [(0, .ref a0), (3, .int x3), (4, .int x4)]) (h : wb_X5_beginAnew_85 B85 S a0 x3 x4 Q) : W p l e ({ frames := 3, cells := 0, slots := 0, locals := 80 } : Room) s m args below meth c H locs 0 0 (MQ below (q_Q D cy lo Q) args s 0 0 (fun q => lo ≤ q)) (F0 m 85 ls []) := by
  have hx := X.1
  have hb := X.2.1
  unfold wb_X5_beginAnew_85 at h
  refine lv_iload hx hb dX5_beginAnew_85 (lv_at hl 2 rfl) ?_
  refine lv_aload_n hx hb dX5_beginAnew_87 rfl (lv_at hl 0 rfl) ?_
  obtain ⟨k16_, h⟩ := h
  refine q_getI X Y kX5 4 rfl fl_X5_45 k16_ dX5_beginAnew_88 ?_
  refine lv_icmp_ge (tgt := 139) hx hb dX5_beginAnew_91 (by decide) (fun c17_ => ?_) (fun c17_ => ?_)
  · replace h := h.1 c17_
    exact q_vret X Y (Nat.le_refl _) (Nat.le_refl _) h dX5_beginAnew_139
  · replace h := h.2 c17_
    refine lv_aload_n hx hb dX5_beginAnew_94 rfl (lv_at hl 0 rfl) ?_
    refine q_getP X Y kX5 3 rfl fl_X5_20 k16_ rfl dX5_beginAnew_95 ?_
    refine lv_iload hx hb dX5_beginAnew_98 (lv_at hl 2 rfl) ?_
    obtain ⟨a18_, e19_, h⟩ := h
    refine q_nn [.int x4] e19_ ?_
    obtain ⟨k20_, h⟩ := h
    obtain ⟨i21_, h⟩ := h
    refine q_cld X Y k20_ (by decide) (t := 6) rfl i21_ rfl dX5_beginAnew_100 ?_
    refine q_astore (i := 5) (lv' := [(5, va_rf (q_C S a18_ x4.toNatClampNeg)), (0, .ref a0), (3, .int x3), (4, .int x4)]) hx hb dX5_beginAnew_101 hl (by decide) (by first | rfl | simp [q_cat, q_catI, q_catJ, q_catR]) (fun ls hl => ?_)
    refine q_aload hx hb dX5_beginAnew_103 (lv_at hl 0 rfl) ?_
    obtain ⟨a22_, e23_, h⟩ := h
    refine q_nn [] e23_ ?_
    obtain ⟨k24_, h⟩ := h
    refine q_getI X Y kX7 7 rfl fl_X5_98 k24_ dX5_beginAnew_105 ?_
    refine lv_if_ne (tgt := 133) hx hb dX5_beginAnew_108 (by decide) (fun c25_ => ?_) (fun c25_ => ?_)
    · replace h := h.1 c25_
      exact cb_X5_beginAnew_133 X hB85 Y (lv_sub hl [1, 2, 3] rfl) h
    · replace h := h.2 c25_
      refine q_aload hx hb dX5_beginAnew_111 (lv_at hl 0 rfl) ?_
      refine q_nn [] e23_ ?_
      refine q_getI X Y kX7 8 rfl fl_X5_160 k24_ dX5_beginAnew_113 ?_
      refine lv_if_ne (tgt := 133) hx hb dX5_beginAnew_116 (by decide) (fun c26_ => ?_) (fun c26_ => ?_)
      · replace h := h.1 c26_
        exact cb_X5_beginAnew_133 X hB85 Y (lv_sub hl [1, 2, 3] rfl) h
      · replace h := h.2 c26_
        refine lv_aload_n hx hb dX5_beginAnew_119 rfl (lv_at hl 1 rfl) ?_
        refine q_aload hx hb dX5_beginAnew_120 (lv_at hl 0 rfl) ?_
        refine lv_iload_n hx hb dX5_beginAnew_122 rfl (lv_at hl 2 rfl) ?_
        refine q_aload hx hb dX5_beginAnew_123 (lv_at hl 0 rfl) ?_
        refine q_nn [] e23_ ?_
        refine q_getI X Y kX7 6 rfl fl_X5_163 k24_ dX5_beginAnew_125 ?_
        refine lv_iadd hx hb dX5_beginAnew_128 ?_
        refine lv_iload_n hx hb dX5_beginAnew_129 rfl (lv_at hl 2 rfl) ?_
        refine q_callV X Y hl (cm_X5_start h) mt_X5_start mi_X5_start ml_X5_148 (ci := 5) rfl k16_ (by decide) rfl rfl (by first | exact Nat.le_of_ble_eq_true rfl | simp [q_cat, q_catI, q_catJ, q_catR]) ⟨Nat.le_of_ble_eq_true rfl, Nat.le_of_ble_eq_true rfl⟩ ⟨Nat.le_of_ble_eq_true rfl, Nat.le_of_ble_eq_true rfl⟩ dX5_beginAnew_130 (fun r27_ S28_ H locs hp Y => ?_)
        obtain ⟨rfl, h⟩ := hp
        refine W.eq (g2 := F0 m 133 ls []) rfl ?_
        exact cb_X5_beginAnew_133 X hB85 Y (lv_sub hl [1, 2, 3] rfl) h
def wl_X5_beginAnew_85  : Nat → q_S → Nat → Int32 → Int32 → (Option Value → q_S → Prop) → Prop
  | 0, _, _, _, _, _ => False
  | n + 1, S, a0, x3, x4, Q => wb_X5_beginAnew_85 (fun S a0 x3 x4 => wl_X5_beginAnew_85 n S a0 x3 x4 Q) S a0 x3 x4 Q
set_option maxHeartbeats 4000000 in
set_option maxRecDepth 100000 in
theorem cl_X5_beginAnew_85 {p : Program} {l : Launch} {e : Env} {s : State} {m : MethodId} {args : Array Value} {below : List Frame} {meth : Method} {c : Code} {D : va_G} {cy : Nat → ClassId} {lo : Nat}  {Q : Option Value → q_S → Prop} (X : q_X p s m args meth c RX5 cX5_beginAnew 6 none D cy lo)  : ∀ (n : Nat) (S : q_S) (a0 : Nat) (x3 : Int32) (x4 : Int32) (H : Heap) (locs : List Loc) (ls : Array Slot), wl_X5_beginAnew_85 n S a0 x3 x4 Q → q_Y D cy lo s S H locs → lv_has ls 6 [(0, .ref a0), (3, .int x3), (4, .int x4)] → W p l e ({ frames := 3, cells := 0, slots := 0, locals := 80 } : Room) s m args below meth c H locs 0 0 (MQ below (q_Q D cy lo Q) args s 0 0 (fun q => lo ≤ q)) (F0 m 85 ls []) := by
  intro n
  induction n with
  | zero => intro S a0 x3 x4 H locs ls h; exact absurd h id
  | succ n ih => intro S a0 x3 x4 H locs ls h Y hl; exact cb_X5_beginAnew_85 X ih Y hl h
def wb_X5_beginAnew_82  (S : q_S) (a0 : Nat) (x3 : Int32) (Q : Option Value → q_S → Prop) : Prop := ∃ n29_ : Nat, wl_X5_beginAnew_85 n29_ S a0 x3 (0 : Int32) Q
set_option maxHeartbeats 4000000 in
set_option maxRecDepth 100000 in
theorem cb_X5_beginAnew_82 {p : Program} {l : Launch} {e : Env} {s : State} {m : MethodId} {args : Array Value} {below : List Frame} {meth : Method} {c : Code} {D : va_G} {cy : Nat → ClassId} {lo : Nat}  {S : q_S} {a0 : Nat} {x3 : Int32} {Q : Option Value → q_S → Prop} {H : Heap} {locs : List Loc} {ls : Array Slot} (X : q_X p s m args meth c RX5 cX5_beginAnew 6 none D cy lo)  (Y : q_Y D cy lo s S H locs) (hl : lv_has ls 6 [(0, .ref a0), (3, .int x3)]) (h : wb_X5_beginAnew_82 S a0 x3 Q) : W p l e ({ frames := 3, cells := 0, slots := 0, locals := 80 } : Room) s m args below meth c H locs 0 0 (MQ below (q_Q D cy lo Q) args s 0 0 (fun q => lo ≤ q)) (F0 m 82 ls []) := by
  have hx := X.1
  have hb := X.2.1
  unfold wb_X5_beginAnew_82 at h
  refine lv_iconst (v := 0) hx hb dX5_beginAnew_82 (by decide) ?_
  refine lv_istore (i := 4) (lv' := [(4, .int (0 : Int32)), (0, .ref a0), (3, .int x3)]) hx hb dX5_beginAnew_83 hl (by decide) (by first | rfl | simp [q_cat, q_catI, q_catJ, q_catR]) (fun ls hl => ?_)
  obtain ⟨n29_, h⟩ := h
  exact cl_X5_beginAnew_85 X n29_ _ _ _ _ _ _ _ h Y (lv_sub hl [1, 2, 0] rfl)
def wb_X5_beginAnew_22 (B22 : q_S → Nat → Int32 → Int32 → Int32 → Prop) (S : q_S) (a0 : Nat) (x1 : Int32) (x3 : Int32) (x4 : Int32) (Q : Option Value → q_S → Prop) : Prop := (((5 : Int32) ≤ x4 → (((x1 = 0 → (wb_X5_beginAnew_82 S a0 x3 Q)) ∧ (¬ x1 = 0 → (q_K S a0 = 6 ∧ (∃ a33_ : Nat, (q_P S 1002 a0) = some a33_ ∧ (q_K S a33_ = 5 ∧ (wm_X4_restore S a33_ (fun r36_ S37_ => r36_ = none ∧ (wb_X5_beginAnew_82 S37_ a0 x3 Q)))))))))) ∧ (¬ (5 : Int32) ≤ x4 → (∃ n38_ : Nat, wl_X5_beginAnew_31 B22 n38_ S a0 x1 x3 x4 (0 : Int32) Q)))
set_option maxHeartbeats 4000000 in
set_option maxRecDepth 100000 in
theorem cb_X5_beginAnew_22 {p : Program} {l : Launch} {e : Env} {s : State} {m : MethodId} {args : Array Value} {below : List Frame} {meth : Method} {c : Code} {D : va_G} {cy : Nat → ClassId} {lo : Nat} {B22 : q_S → Nat → Int32 → Int32 → Int32 → Prop} {S : q_S} {a0 : Nat} {x1 : Int32} {x3 : Int32} {x4 : Int32} {Q : Option Value → q_S → Prop} {H : Heap} {locs : List Loc} {ls : Array Slot} (X : q_X p s m args meth c RX5 cX5_beginAnew 6 none D cy lo) (hB22 : ∀ (S : q_S) (a0 : Nat) (x1 : Int32) (x3 : Int32) (x4 : Int32) (H : Heap) (locs : List Loc) (ls : Array Slot), B22 S a0 x1 x3 x4 → q_Y D cy lo s S H locs → lv_has ls 6 [(0, .ref a0), (1, .int x1), (3, .int x3), (4, .int x4)] → W p l e ({ frames := 3, cells := 0, slots := 0, locals := 80 } : Room) s m args below meth c H locs 0 0 (MQ below (q_Q D cy lo Q) args s 0 0 (fun q => lo ≤ q)) (F0 m 22 ls [])) (Y : q_Y D cy lo s S H locs) (hl : lv_has ls 6 [(0, .ref a0), (1, .int x1), (3, .int x3), (4, .int x4)]) (h : wb_X5_beginAnew_22 B22 S a0 x1 x3 x4 Q) : W p l e ({ frames := 3, cells := 0, slots := 0, locals := 80 } : Room) s m args below meth c H locs 0 0 (MQ below (q_Q D cy lo Q) args s 0 0 (fun q => lo ≤ q)) (F0 m 22 ls []) := by
  have hx := X.1
  have hb := X.2.1
  unfold wb_X5_beginAnew_22 at h
  refine lv_iload hx hb dX5_beginAnew_22 (lv_at hl 3 rfl) ?_
  refine lv_iconst (v := 5) hx hb dX5_beginAnew_24 (by decide) ?_
  refine lv_icmp_ge (tgt := 71) hx hb dX5_beginAnew_25 (by decide) (fun c30_ => ?_) (fun c30_ => ?_)
  · replace h := h.1 c30_
    refine lv_iload_n hx hb dX5_beginAnew_71 rfl (lv_at hl 1 rfl) ?_
    refine lv_if_eq (tgt := 82) hx hb dX5_beginAnew_72 (by decide) (fun c31_ => ?_) (fun c31_ => ?_)
    · replace h := h.1 c31_
      exact cb_X5_beginAnew_82 X Y (lv_sub hl [0, 2] rfl) h
    · replace h := h.2 c31_
      refine lv_aload_n hx hb dX5_beginAnew_75 rfl (lv_at hl 0 rfl) ?_
      obtain ⟨k32_, h⟩ := h
      refine q_getP X Y kX5 2 rfl fl_X5_12 k32_ rfl dX5_beginAnew_76 ?_
      obtain ⟨a33_, e34_, h⟩ := h
      refine q_nn [] e34_ ?_
      obtain ⟨k35_, h⟩ := h
      refine q_callV X Y hl (cm_X4_restore h) mt_X4_restore mi_X4_restore ml_X5_157 (ci := 4) rfl k35_ (by decide) rfl rfl (by first | exact Nat.le_of_ble_eq_true rfl | simp [q_cat, q_catI, q_catJ, q_catR]) ⟨Nat.le_of_ble_eq_true rfl, Nat.le_of_ble_eq_true rfl⟩ ⟨Nat.le_of_ble_eq_true rfl, Nat.le_of_ble_eq_true rfl⟩ dX5_beginAnew_79 (fun r36_ S37_ H locs hp Y => ?_)
      obtain ⟨rfl, h⟩ := hp
      refine W.eq (g2 := F0 m 82 ls []) rfl ?_
      exact cb_X5_beginAnew_82 X Y (lv_sub hl [0, 2] rfl) h
  · replace h := h.2 c30_
    refine lv_iconst (v := 0) hx hb dX5_beginAnew_28 (by decide) ?_
    refine lv_istore (i := 5) (lv' := [(5, .int (0 : Int32)), (0, .ref a0), (1, .int x1), (3, .int x3), (4, .int x4)]) hx hb dX5_beginAnew_29 hl (by decide) (by first | rfl | simp [q_cat, q_catI, q_catJ, q_catR]) (fun ls hl => ?_)
    obtain ⟨n38_, h⟩ := h
    exact cl_X5_beginAnew_31 X hB22 n38_ _ _ _ _ _ _ _ _ _ h Y (lv_sub hl [1, 2, 3, 4, 0] rfl)
def wl_X5_beginAnew_22  : Nat → q_S → Nat → Int32 → Int32 → Int32 → (Option Value → q_S → Prop) → Prop
  | 0, _, _, _, _, _, _ => False
  | n + 1, S, a0, x1, x3, x4, Q => wb_X5_beginAnew_22 (fun S a0 x1 x3 x4 => wl_X5_beginAnew_22 n S a0 x1 x3 x4 Q) S a0 x1 x3 x4 Q
set_option maxHeartbeats 4000000 in
set_option maxRecDepth 100000 in
theorem cl_X5_beginAnew_22 {p : Program} {l : Launch} {e : Env} {s : State} {m : MethodId} {args : Array Value} {below : List Frame} {meth : Method} {c : Code} {D : va_G} {cy : Nat → ClassId} {lo : Nat}  {Q : Option Value → q_S → Prop} (X : q_X p s m args meth c RX5 cX5_beginAnew 6 none D cy lo)  : ∀ (n : Nat) (S : q_S) (a0 : Nat) (x1 : Int32) (x3 : Int32) (x4 : Int32) (H : Heap) (locs : List Loc) (ls : Array Slot), wl_X5_beginAnew_22 n S a0 x1 x3 x4 Q → q_Y D cy lo s S H locs → lv_has ls 6 [(0, .ref a0), (1, .int x1), (3, .int x3), (4, .int x4)] → W p l e ({ frames := 3, cells := 0, slots := 0, locals := 80 } : Room) s m args below meth c H locs 0 0 (MQ below (q_Q D cy lo Q) args s 0 0 (fun q => lo ≤ q)) (F0 m 22 ls []) := by
  intro n
  induction n with
  | zero => intro S a0 x1 x3 x4 H locs ls h; exact absurd h id
  | succ n ih => intro S a0 x1 x3 x4 H locs ls h Y hl; exact cb_X5_beginAnew_22 X ih Y hl h
def wm_X5_beginAnew (S : q_S) (a0 : Nat) (x1 : Int32) (x2 : Int32) (x3 : Int32) (Q : Option Value → q_S → Prop) : Prop := q_K S a0 = 6 ∧ (wm_X5_allRest S a0 (fun r40_ S41_ => r40_ = none ∧ (q_K S41_ a0 = 6 ∧ (∀ S43_ : q_S, S43_ = (qs_I (qs_I S41_ 1010 a0 x2) 1011 a0 ((q_I (qs_I S41_ 1010 a0 x2) 1011 a0) + (1 : Int32))) → (∃ n44_ : Nat, wl_X5_beginAnew_22 n44_ S43_ a0 x1 x3 (0 : Int32) Q)))))
set_option maxHeartbeats 4000000 in
set_option maxRecDepth 100000 in
theorem cm_X5_beginAnew {l : Launch} {D : va_G} {cy : Nat → ClassId} {lo : Nat} {S : q_S} {a0 : Nat} {x1 : Int32} {x2 : Int32} {x3 : Int32} {Q : Option Value → q_S → Prop} (h : wm_X5_beginAnew S a0 x1 x2 x3 Q) : q_Met l D cy lo yX5_beginAnew cX5_beginAnew 6 none 3 80 0 0 [.ref a0, .int x1, .int x2, .int x3] S Q := by
  refine q_body (by decide) (by first | exact Nat.le_of_ble_eq_true rfl | simp [lg_sl, q_cat, q_catI, q_catJ, q_catR]) ?_
  intro p e s m below meth c ls X hnm Y hl
  have hx := X.1
  have hb := X.2.1
  have hl : lv_has ls 6 [(0, .ref a0), (1, .int x1), (2, .int x2), (3, .int x3)] := by first | exact hl | simpa [lv_args, q_cat, q_catI, q_catJ, q_catR] using hl
  generalize hargs : ([.ref a0, .int x1, .int x2, .int x3] : List Value).toArray = args at X ⊢
  unfold wm_X5_beginAnew at h
  refine lv_aload_n hx hb dX5_beginAnew_0 rfl (lv_at hl 0 rfl) ?_
  obtain ⟨k39_, h⟩ := h
  refine q_callV X Y hl (cm_X5_allRest h) mt_X5_allRest mi_X5_allRest ml_X5_151 (ci := 5) rfl k39_ (by decide) rfl rfl (by first | exact Nat.le_of_ble_eq_true rfl | simp [q_cat, q_catI, q_catJ, q_catR]) ⟨Nat.le_of_ble_eq_true rfl, Nat.le_of_ble_eq_true rfl⟩ ⟨Nat.le_of_ble_eq_true rfl, Nat.le_of_ble_eq_true rfl⟩ dX5_beginAnew_1 (fun r40_ S41_ H locs hp Y => ?_)
  obtain ⟨rfl, h⟩ := hp
  refine W.eq (g2 := F0 m 4 ls []) rfl ?_
  refine lv_aload_n hx hb dX5_beginAnew_4 rfl (lv_at hl 0 rfl) ?_
  refine lv_iload_n hx hb dX5_beginAnew_5 rfl (lv_at hl 2 rfl) ?_
  obtain ⟨k42_, h⟩ := h
  refine q_putI X Y kX5 10 rfl fl_X5_60 k42_ .int rfl ⟨rfl, rfl⟩ rfl dX5_beginAnew_6 (fun H locs Y => ?_)
  refine lv_aload_n hx hb dX5_beginAnew_9 rfl (lv_at hl 0 rfl) ?_
  refine lv_dup hx hb dX5_beginAnew_10 rfl ?_
  refine q_getI X Y kX5 11 rfl fl_X5_63 k42_ dX5_beginAnew_11 ?_
  refine lv_iconst (v := 1) hx hb dX5_beginAnew_14 (by decide) ?_
  refine lv_iadd hx hb dX5_beginAnew_15 ?_
  refine q_putI X Y kX5 11 rfl fl_X5_63 k42_ .int rfl ⟨rfl, rfl⟩ rfl dX5_beginAnew_16 (fun H locs Y => ?_)
  obtain ⟨S43_, gS43_⟩ : ∃ z : q_S, z = (qs_I (qs_I S41_ 1010 a0 x2) 1011 a0 ((q_I (qs_I S41_ 1010 a0 x2) 1011 a0) + (1 : Int32))) := ⟨_, rfl⟩
  replace Y : q_Y D cy lo s S43_ H locs := by rw [gS43_]; exact Y
  replace h := h S43_ gS43_
  replace k42_ : q_K S43_ a0 = 6 := by rw [gS43_]; exact k42_
  refine lv_iconst (v := 0) hx hb dX5_beginAnew_19 (by decide) ?_
  refine lv_istore (i := 4) (lv' := [(4, .int (0 : Int32)), (0, .ref a0), (1, .int x1), (2, .int x2), (3, .int x3)]) hx hb dX5_beginAnew_20 hl (by decide) (by first | rfl | simp [q_cat, q_catI, q_catJ, q_catR]) (fun ls hl => ?_)
  obtain ⟨n44_, h⟩ := h
  exact cl_X5_beginAnew_22 X n44_ _ _ _ _ _ _ _ _ h Y (lv_sub hl [1, 2, 4, 0] rfl)
-- X0_beginPartition
theorem ml_X0_282 : Cond.methodLink RX0 282 yX5_beginAnew ∈ q_G := q_tb (i := 1662) (by decide +kernel) (by decide +kernel)
theorem mt_X5_beginAnew : q_Mt yX5_beginAnew cX5_beginAnew 6 none 3 := ⟨q_tb (i := 1305) (by decide +kernel) (by decide +kernel), q_tb (i := 20) (by decide +kernel) (by decide +kernel), by decide +kernel, by decide +kernel, by decide +kernel⟩
theorem mi_X5_beginAnew : Cond.instanceMethod yX5_beginAnew ∈ q_G ∧ Cond.selects yX5_beginAnew.cls yX5_beginAnew yX5_beginAnew ∈ q_G := ⟨q_tb (i := 1303) (by decide +kernel) (by decide +kernel), q_tb (i := 1304) (by decide +kernel) (by decide +kernel)⟩
theorem ml_X0_279 : Cond.methodLink RX0 279 yX5_goIdle ∈ q_G := q_tb (i := 1661) (by decide +kernel) (by decide +kernel)
theorem mt_X5_goIdle : q_Mt yX5_goIdle cX5_goIdle 1 none 0 := ⟨q_tb (i := 1432) (by decide +kernel) (by decide +kernel), q_tb (i := 20) (by decide +kernel) (by decide +kernel), by decide +kernel, by decide +kernel, by decide +kernel⟩
theorem mi_X5_goIdle : Cond.instanceMethod yX5_goIdle ∈ q_G ∧ Cond.selects yX5_goIdle.cls yX5_goIdle yX5_goIdle ∈ q_G := ⟨q_tb (i := 1430) (by decide +kernel) (by decide +kernel), q_tb (i := 1431) (by decide +kernel) (by decide +kernel)⟩
theorem dX0_beginPartition_0 : decode cX0_beginPartition 0 = .ok (.iload_n 1, 1) := by decide +kernel
theorem dX0_beginPartition_1 : decode cX0_beginPartition 1 = .ok (.ifCond .lt 8, 3) := by decide +kernel
theorem dX0_beginPartition_4 : decode cX0_beginPartition 4 = .ok (.iload_n 1, 1) := by decide +kernel
theorem dX0_beginPartition_5 : decode cX0_beginPartition 5 = .ok (.iconst 2, 1) := by decide +kernel
theorem dX0_beginPartition_6 : decode cX0_beginPartition 6 = .ok (.if_icmp .le 5, 3) := by decide +kernel
theorem dX0_beginPartition_9 : decode cX0_beginPartition 9 = .ok (.iconst 1, 1) := by decide +kernel
theorem dX0_beginPartition_10 : decode cX0_beginPartition 10 = .ok (.ireturn, 1) := by decide +kernel
theorem dX0_beginPartition_11 : decode cX0_beginPartition 11 = .ok (.iload_n 1, 1) := by decide +kernel
theorem dX0_beginPartition_12 : decode cX0_beginPartition 12 = .ok (.iconst 2, 1) := by decide +kernel
theorem dX0_beginPartition_13 : decode cX0_beginPartition 13 = .ok (.if_icmp .ne 13, 3) := by decide +kernel
theorem dX0_beginPartition_16 : decode cX0_beginPartition 16 = .ok (.aload_n 0, 1) := by decide +kernel
theorem dX0_beginPartition_17 : decode cX0_beginPartition 17 = .ok (.getfield 15, 3) := by decide +kernel
theorem dX0_beginPartition_20 : decode cX0_beginPartition 20 = .ok (.invokevirtual 279, 3) := by decide +kernel
theorem dX0_beginPartition_23 : decode cX0_beginPartition 23 = .ok (.goto 34, 3) := by decide +kernel
theorem dX0_beginPartition_26 : decode cX0_beginPartition 26 = .ok (.aload_n 0, 1) := by decide +kernel
theorem dX0_beginPartition_27 : decode cX0_beginPartition 27 = .ok (.getfield 15, 3) := by decide +kernel
theorem dX0_beginPartition_30 : decode cX0_beginPartition 30 = .ok (.iload_n 1, 1) := by decide +kernel
theorem dX0_beginPartition_31 : decode cX0_beginPartition 31 = .ok (.iconst 1, 1) := by decide +kernel
theorem dX0_beginPartition_32 : decode cX0_beginPartition 32 = .ok (.if_icmp .ne 7, 3) := by decide +kernel
theorem dX0_beginPartition_35 : decode cX0_beginPartition 35 = .ok (.iconst 1, 1) := by decide +kernel
theorem dX0_beginPartition_36 : decode cX0_beginPartition 36 = .ok (.goto 4, 3) := by decide +kernel
theorem dX0_beginPartition_39 : decode cX0_beginPartition 39 = .ok (.iconst 0, 1) := by decide +kernel
theorem dX0_beginPartition_40 : decode cX0_beginPartition 40 = .ok (.iload_n 1, 1) := by decide +kernel
theorem dX0_beginPartition_41 : decode cX0_beginPartition 41 = .ok (.iconst 1, 1) := by decide +kernel
theorem dX0_beginPartition_42 : decode cX0_beginPartition 42 = .ok (.if_icmp .ne 7, 3) := by decide +kernel
theorem dX0_beginPartition_45 : decode cX0_beginPartition 45 = .ok (.iconst 2, 1) := by decide +kernel
theorem dX0_beginPartition_46 : decode cX0_beginPartition 46 = .ok (.goto 4, 3) := by decide +kernel
theorem dX0_beginPartition_49 : decode cX0_beginPartition 49 = .ok (.iconst 1, 1) := by decide +kernel
theorem dX0_beginPartition_50 : decode cX0_beginPartition 50 = .ok (.aload_n 0, 1) := by decide +kernel
theorem dX0_beginPartition_51 : decode cX0_beginPartition 51 = .ok (.getfield 36, 3) := by decide +kernel
theorem dX0_beginPartition_54 : decode cX0_beginPartition 54 = .ok (.invokevirtual 282, 3) := by decide +kernel
theorem dX0_beginPartition_57 : decode cX0_beginPartition 57 = .ok (.iconst (-1), 1) := by decide +kernel
theorem dX0_beginPartition_58 : decode cX0_beginPartition 58 = .ok (.ireturn, 1) := by decide +kernel
def wb_X0_beginPartition_9  (S : q_S) (Q : Option Value → q_S → Prop) : Prop := Q (some (.int (1 : Int32))) S
set_option maxHeartbeats 4000000 in
set_option maxRecDepth 100000 in
theorem cb_X0_beginPartition_9 {p : Program} {l : Launch} {e : Env} {s : State} {m : MethodId} {args : Array Value} {below : List Frame} {meth : Method} {c : Code} {D : va_G} {cy : Nat → ClassId} {lo : Nat}  {S : q_S} {Q : Option Value → q_S → Prop} {H : Heap} {locs : List Loc} {ls : Array Slot} (X : q_X p s m args meth c RX0 cX0_beginPartition 2 (some .int) D cy lo)  (Y : q_Y D cy lo s S H locs) (hl : lv_has ls 2 []) (h : wb_X0_beginPartition_9 S Q) : W p l e ({ frames := 4, cells := 0, slots := 0, locals := 105 } : Room) s m args below meth c H locs 0 0 (MQ below (q_Q D cy lo Q) args s 0 0 (fun q => lo ≤ q)) (F0 m 9 ls []) := by
  have hx := X.1
  have hb := X.2.1
  unfold wb_X0_beginPartition_9 at h
  refine lv_iconst (v := 1) hx hb dX0_beginPartition_9 (by decide) ?_
  exact q_iret X Y rfl (Nat.le_refl _) (Nat.le_refl _) h dX0_beginPartition_10
def wb_X0_beginPartition_57  (S : q_S) (Q : Option Value → q_S → Prop) : Prop := Q (some (.int (-1 : Int32))) S
set_option maxHeartbeats 4000000 in
set_option maxRecDepth 100000 in
theorem cb_X0_beginPartition_57 {p : Program} {l : Launch} {e : Env} {s : State} {m : MethodId} {args : Array Value} {below : List Frame} {meth : Method} {c : Code} {D : va_G} {cy : Nat → ClassId} {lo : Nat}  {S : q_S} {Q : Option Value → q_S → Prop} {H : Heap} {locs : List Loc} {ls : Array Slot} (X : q_X p s m args meth c RX0 cX0_beginPartition 2 (some .int) D cy lo)  (Y : q_Y D cy lo s S H locs) (hl : lv_has ls 2 []) (h : wb_X0_beginPartition_57 S Q) : W p l e ({ frames := 4, cells := 0, slots := 0, locals := 105 } : Room) s m args below meth c H locs 0 0 (MQ below (q_Q D cy lo Q) args s 0 0 (fun q => lo ≤ q)) (F0 m 57 ls []) := by
  have hx := X.1
  have hb := X.2.1
  unfold wb_X0_beginPartition_57 at h
  refine lv_iconst (v := (-1)) hx hb dX0_beginPartition_57 (by decide) ?_
  exact q_iret X Y rfl (Nat.le_refl _) (Nat.le_refl _) h dX0_beginPartition_58
def wb_X0_beginPartition_50  (S : q_S) (a0 : Nat) (rs0 : Option Nat) (xs1 : Int32) (xs2 : Int32) (Q : Option Value → q_S → Prop) : Prop := q_K S a0 = 1 ∧ (∃ a2_ : Nat, rs0 = some a2_ ∧ (q_K S a2_ = 6 ∧ (wm_X5_beginAnew S a2_ xs1 xs2 (q_I S 4 a0) (fun r5_ S6_ => r5_ = none ∧ (wb_X0_beginPartition_57 S6_ Q)))))
set_option maxHeartbeats 4000000 in
set_option maxRecDepth 100000 in
theorem cb_X0_beginPartition_50 {p : Program} {l : Launch} {e : Env} {s : State} {m : MethodId} {args : Array Value} {below : List Frame} {meth : Method} {c : Code} {D : va_G} {cy : Nat → ClassId} {lo : Nat}  {S : q_S} {a0 : Nat} {rs0 : Option Nat} {xs1 : Int32} {xs2 : Int32} {Q : Option Value → q_S → Prop} {H : Heap} {locs : List Loc} {ls : Array Slot} (X : q_X p s m args meth c RX0 cX0_beginPartition 2 (some .int) D cy lo)  (Y : q_Y D cy lo s S H locs) (hl : lv_has ls 2 [(0, .ref a0)]) (h : wb_X0_beginPartition_50 S a0 rs0 xs1 xs2 Q) : W p l e ({ frames := 4, cells := 0, slots := 0, locals := 105 } : Room) s m args below meth c H locs 0 0 (MQ below (q_Q D cy lo Q) args s 0 0 (fun q => lo ≤ q)) (F0 m 50 ls [.int xs2, .int xs1, va_rf rs0]) := by
  have hx := X.1
  have hb := X.2.1
  unfold wb_X0_beginPartition_50 at h
  refine lv_aload_n hx hb dX0_beginPartition_50 rfl (lv_at hl 0 rfl) ?_
  obtain ⟨k1_, h⟩ := h
  refine q_getI X Y kX0 4 rfl fl_X0_36 k1_ dX0_beginPartition_51 ?_
  obtain ⟨a2_, e3_, h⟩ := h
  refine q_nn [.int (q_I S 4 a0), .int xs2, .int xs1] e3_ ?_
  obtain ⟨k4_, h⟩ := h
  refine q_callV X Y hl (cm_X5_beginAnew h) mt_X5_beginAnew mi_X5_beginAnew ml_X0_282 (ci := 5) rfl k4_ (by decide) rfl rfl (by first | exact Nat.le_of_ble_eq_true rfl | simp [q_cat, q_catI, q_catJ, q_catR]) ⟨Nat.le_of_ble_eq_true rfl, Nat.le_of_ble_eq_true rfl⟩ ⟨Nat.le_of_ble_eq_true rfl, Nat.le_of_ble_eq_true rfl⟩ dX0_beginPartition_54 (fun r5_ S6_ H locs hp Y => ?_)
  obtain ⟨rfl, h⟩ := hp
  refine W.eq (g2 := F0 m 57 ls []) rfl ?_
  exact cb_X0_beginPartition_57 X Y (lv_sub hl [] rfl) h
def wb_X0_beginPartition_40  (S : q_S) (a0 : Nat) (x1 : Int32) (rs0 : Option Nat) (xs1 : Int32) (Q : Option Value → q_S → Prop) : Prop := ((¬ x1 = (1 : Int32) → (wb_X0_beginPartition_50 S a0 rs0 xs1 (1 : Int32) Q)) ∧ (x1 = (1 : Int32) → (wb_X0_beginPartition_50 S a0 rs0 xs1 (2 : Int32) Q)))
set_option maxHeartbeats 4000000 in
set_option maxRecDepth 100000 in
theorem cb_X0_beginPartition_40 {p : Program} {l : Launch} {e : Env} {s : State} {m : MethodId} {args : Array Value} {below : List Frame} {meth : Method} {c : Code} {D : va_G} {cy : Nat → ClassId} {lo : Nat}  {S : q_S} {a0 : Nat} {x1 : Int32} {rs0 : Option Nat} {xs1 : Int32} {Q : Option Value → q_S → Prop} {H : Heap} {locs : List Loc} {ls : Array Slot} (X : q_X p s m args meth c RX0 cX0_beginPartition 2 (some .int) D cy lo)  (Y : q_Y D cy lo s S H locs) (hl : lv_has ls 2 [(0, .ref a0), (1, .int x1)]) (h : wb_X0_beginPartition_40 S a0 x1 rs0 xs1 Q) : W p l e ({ frames := 4, cells := 0, slots := 0, locals := 105 } : Room) s m args below meth c H locs 0 0 (MQ below (q_Q D cy lo Q) args s 0 0 (fun q => lo ≤ q)) (F0 m 40 ls [.int xs1, va_rf rs0]) := by
  have hx := X.1
  have hb := X.2.1
  unfold wb_X0_beginPartition_40 at h
  refine lv_iload_n hx hb dX0_beginPartition_40 rfl (lv_at hl 1 rfl) ?_
  refine lv_iconst (v := 1) hx hb dX0_beginPartition_41 (by decide) ?_
  refine lv_icmp_ne (tgt := 49) hx hb dX0_beginPartition_42 (by decide) (fun c7_ => ?_) (fun c7_ => ?_)
  · replace h := h.1 c7_
    refine lv_iconst (v := 1) hx hb dX0_beginPartition_49 (by decide) ?_
    exact cb_X0_beginPartition_50 X Y (lv_sub hl [0] rfl) h
  · replace h := h.2 c7_
    refine lv_iconst (v := 2) hx hb dX0_beginPartition_45 (by decide) ?_
    refine lv_goto (tgt := 50) hx hb dX0_beginPartition_46 (by decide) ?_
    exact cb_X0_beginPartition_50 X Y (lv_sub hl [0] rfl) h
def wm_X0_beginPartition (S : q_S) (a0 : Nat) (x1 : Int32) (Q : Option Value → q_S → Prop) : Prop := ((x1 < 0 → (wb_X0_beginPartition_9 S Q)) ∧ (¬ x1 < 0 → (((x1 ≤ (2 : Int32) → (((¬ x1 = (2 : Int32) → (q_K S a0 = 1 ∧ (((¬ x1 = (1 : Int32) → (wb_X0_beginPartition_40 S a0 x1 (q_P S 1 a0) (0 : Int32) Q)) ∧ (x1 = (1 : Int32) → (wb_X0_beginPartition_40 S a0 x1 (q_P S 1 a0) (1 : Int32) Q)))))) ∧ (x1 = (2 : Int32) → (q_K S a0 = 1 ∧ (∃ a14_ : Nat, (q_P S 1 a0) = some a14_ ∧ (q_K S a14_ = 6 ∧ (wm_X5_goIdle S a14_ (fun r17_ S18_ => r17_ = none ∧ (wb_X0_beginPartition_57 S18_ Q)))))))))) ∧ (¬ x1 ≤ (2 : Int32) → (wb_X0_beginPartition_9 S Q))))))
set_option maxHeartbeats 4000000 in
set_option maxRecDepth 100000 in
theorem cm_X0_beginPartition {l : Launch} {D : va_G} {cy : Nat → ClassId} {lo : Nat} {S : q_S} {a0 : Nat} {x1 : Int32} {Q : Option Value → q_S → Prop} (h : wm_X0_beginPartition S a0 x1 Q) : q_Met l D cy lo yX0_beginPartition cX0_beginPartition 2 (some .int) 4 105 0 0 [.ref a0, .int x1] S Q := by
  refine q_body (by decide) (by first | exact Nat.le_of_ble_eq_true rfl | simp [lg_sl, q_cat, q_catI, q_catJ, q_catR]) ?_
  intro p e s m below meth c ls X hnm Y hl
  have hx := X.1
  have hb := X.2.1
  have hl : lv_has ls 2 [(0, .ref a0), (1, .int x1)] := by first | exact hl | simpa [lv_args, q_cat, q_catI, q_catJ, q_catR] using hl
  generalize hargs : ([.ref a0, .int x1] : List Value).toArray = args at X ⊢
  unfold wm_X0_beginPartition at h
  refine lv_iload_n hx hb dX0_beginPartition_0 rfl (lv_at hl 1 rfl) ?_
  refine lv_if_lt (tgt := 9) hx hb dX0_beginPartition_1 (by decide) (fun c8_ => ?_) (fun c8_ => ?_)
  · replace h := h.1 c8_
    exact cb_X0_beginPartition_9 X Y (lv_sub hl [] rfl) h
  · replace h := h.2 c8_
    refine lv_iload_n hx hb dX0_beginPartition_4 rfl (lv_at hl 1 rfl) ?_
    refine lv_iconst (v := 2) hx hb dX0_beginPartition_5 (by decide) ?_
    refine lv_icmp_le (tgt := 11) hx hb dX0_beginPartition_6 (by decide) (fun c9_ => ?_) (fun c9_ => ?_)
    · replace h := h.1 c9_
      refine lv_iload_n hx hb dX0_beginPartition_11 rfl (lv_at hl 1 rfl) ?_
      refine lv_iconst (v := 2) hx hb dX0_beginPartition_12 (by decide) ?_
      refine lv_icmp_ne (tgt := 26) hx hb dX0_beginPartition_13 (by decide) (fun c10_ => ?_) (fun c10_ => ?_)
      · replace h := h.1 c10_
        refine lv_aload_n hx hb dX0_beginPartition_26 rfl (lv_at hl 0 rfl) ?_
        obtain ⟨k11_, h⟩ := h
        refine q_getP X Y kX0 1 rfl fl_X0_15 k11_ rfl dX0_beginPartition_27 ?_
        refine lv_iload_n hx hb dX0_beginPartition_30 rfl (lv_at hl 1 rfl) ?_
        refine lv_iconst (v := 1) hx hb dX0_beginPartition_31 (by decide) ?_
        refine lv_icmp_ne (tgt := 39) hx hb dX0_beginPartition_32 (by decide) (fun c12_ => ?_) (fun c12_ => ?_)
        · replace h := h.1 c12_
          refine lv_iconst (v := 0) hx hb dX0_beginPartition_39 (by decide) ?_
          exact cb_X0_beginPartition_40 X Y (lv_sub hl [0, 1] rfl) h
        · replace h := h.2 c12_
          refine lv_iconst (v := 1) hx hb dX0_beginPartition_35 (by decide) ?_
          refine lv_goto (tgt := 40) hx hb dX0_beginPartition_36 (by decide) ?_
          exact cb_X0_beginPartition_40 X Y (lv_sub hl [0, 1] rfl) h
      · replace h := h.2 c10_
        refine lv_aload_n hx hb dX0_beginPartition_16 rfl (lv_at hl 0 rfl) ?_
        obtain ⟨k13_, h⟩ := h
        refine q_getP X Y kX0 1 rfl fl_X0_15 k13_ rfl dX0_beginPartition_17 ?_
        obtain ⟨a14_, e15_, h⟩ := h
        refine q_nn [] e15_ ?_
        obtain ⟨k16_, h⟩ := h
        refine q_callV X Y hl (cm_X5_goIdle h) mt_X5_goIdle mi_X5_goIdle ml_X0_279 (ci := 5) rfl k16_ (by decide) rfl rfl (by first | exact Nat.le_of_ble_eq_true rfl | simp [q_cat, q_catI, q_catJ, q_catR]) ⟨Nat.le_of_ble_eq_true rfl, Nat.le_of_ble_eq_true rfl⟩ ⟨Nat.le_of_ble_eq_true rfl, Nat.le_of_ble_eq_true rfl⟩ dX0_beginPartition_20 (fun r17_ S18_ H locs hp Y => ?_)
        obtain ⟨rfl, h⟩ := hp
        refine W.eq (g2 := F0 m 23 ls []) rfl ?_
        refine lv_goto (tgt := 57) hx hb dX0_beginPartition_23 (by decide) ?_
        exact cb_X0_beginPartition_57 X Y (lv_sub hl [] rfl) h
    · replace h := h.2 c9_
      exact cb_X0_beginPartition_9 X Y (lv_sub hl [] rfl) h
-- X0_tellFault
theorem fl_X0_286 : Cond.fieldLink RX0 286 "PartitionWorks$Partition" "faulted" "I" ∈ q_G := q_tb (i := 725) (by decide +kernel) (by decide +kernel)
theorem fl_X0_289 : Cond.fieldLink RX0 289 "PartitionWorks$Process" "number" "I" ∈ q_G := q_tb (i := 844) (by decide +kernel) (by decide +kernel)
theorem fl_X0_39 : Cond.fieldLink RX0 39 "PartitionWorks$Process" "pc" "I" ∈ q_G := q_tb (i := 876) (by decide +kernel) (by decide +kernel)
theorem fl_X0_292 : Cond.fieldLink RX0 292 "PartitionWorks$Partition" "faultCode" "I" ∈ q_G := q_tb (i := 729) (by decide +kernel) (by decide +kernel)
theorem fl_X0_295 : Cond.fieldLink RX0 295 "PartitionWorks$Partition" "faultKind" "I" ∈ q_G := q_tb (i := 727) (by decide +kernel) (by decide +kernel)
theorem dX0_tellFault_0 : decode cX0_tellFault 0 = .ok (.aload_n 0, 1) := by decide +kernel
theorem dX0_tellFault_1 : decode cX0_tellFault 1 = .ok (.getfield 19, 3) := by decide +kernel
theorem dX0_tellFault_4 : decode cX0_tellFault 4 = .ok (.getfield 75, 3) := by decide +kernel
theorem dX0_tellFault_7 : decode cX0_tellFault 7 = .ok (.ifCond .ne 5, 3) := by decide +kernel
theorem dX0_tellFault_10 : decode cX0_tellFault 10 = .ok (.iconst 3, 1) := by decide +kernel
theorem dX0_tellFault_11 : decode cX0_tellFault 11 = .ok (.ireturn, 1) := by decide +kernel
theorem dX0_tellFault_12 : decode cX0_tellFault 12 = .ok (.aload_n 0, 1) := by decide +kernel
theorem dX0_tellFault_13 : decode cX0_tellFault 13 = .ok (.getfield 15, 3) := by decide +kernel
theorem dX0_tellFault_16 : decode cX0_tellFault 16 = .ok (.aload_n 0, 1) := by decide +kernel
theorem dX0_tellFault_17 : decode cX0_tellFault 17 = .ok (.getfield 15, 3) := by decide +kernel
theorem dX0_tellFault_20 : decode cX0_tellFault 20 = .ok (.getfield 286, 3) := by decide +kernel
theorem dX0_tellFault_23 : decode cX0_tellFault 23 = .ok (.invokevirtual 131, 3) := by decide +kernel
theorem dX0_tellFault_26 : decode cX0_tellFault 26 = .ok (.astore_n 1, 1) := by decide +kernel
theorem dX0_tellFault_27 : decode cX0_tellFault 27 = .ok (.aload_n 1, 1) := by decide +kernel
theorem dX0_tellFault_28 : decode cX0_tellFault 28 = .ok (.ifnonnull 5, 3) := by decide +kernel
theorem dX0_tellFault_31 : decode cX0_tellFault 31 = .ok (.iconst 2, 1) := by decide +kernel
theorem dX0_tellFault_32 : decode cX0_tellFault 32 = .ok (.ireturn, 1) := by decide +kernel
theorem dX0_tellFault_33 : decode cX0_tellFault 33 = .ok (.aload_n 0, 1) := by decide +kernel
theorem dX0_tellFault_34 : decode cX0_tellFault 34 = .ok (.getfield 29, 3) := by decide +kernel
theorem dX0_tellFault_37 : decode cX0_tellFault 37 = .ok (.bipush 11, 2) := by decide +kernel
theorem dX0_tellFault_39 : decode cX0_tellFault 39 = .ok (.aload_n 1, 1) := by decide +kernel
theorem dX0_tellFault_40 : decode cX0_tellFault 40 = .ok (.getfield 289, 3) := by decide +kernel
theorem dX0_tellFault_43 : decode cX0_tellFault 43 = .ok (.iastore, 1) := by decide +kernel
theorem dX0_tellFault_44 : decode cX0_tellFault 44 = .ok (.aload_n 0, 1) := by decide +kernel
theorem dX0_tellFault_45 : decode cX0_tellFault 45 = .ok (.getfield 29, 3) := by decide +kernel
theorem dX0_tellFault_48 : decode cX0_tellFault 48 = .ok (.bipush 12, 2) := by decide +kernel
theorem dX0_tellFault_50 : decode cX0_tellFault 50 = .ok (.aload_n 1, 1) := by decide +kernel
theorem dX0_tellFault_51 : decode cX0_tellFault 51 = .ok (.getfield 39, 3) := by decide +kernel
theorem dX0_tellFault_54 : decode cX0_tellFault 54 = .ok (.iastore, 1) := by decide +kernel
theorem dX0_tellFault_55 : decode cX0_tellFault 55 = .ok (.aload_n 0, 1) := by decide +kernel
theorem dX0_tellFault_56 : decode cX0_tellFault 56 = .ok (.getfield 29, 3) := by decide +kernel
theorem dX0_tellFault_59 : decode cX0_tellFault 59 = .ok (.bipush 13, 2) := by decide +kernel
theorem dX0_tellFault_61 : decode cX0_tellFault 61 = .ok (.aload_n 0, 1) := by decide +kernel
theorem dX0_tellFault_62 : decode cX0_tellFault 62 = .ok (.getfield 15, 3) := by decide +kernel
theorem dX0_tellFault_65 : decode cX0_tellFault 65 = .ok (.getfield 292, 3) := by decide +kernel
theorem dX0_tellFault_68 : decode cX0_tellFault 68 = .ok (.iastore, 1) := by decide +kernel
theorem dX0_tellFault_69 : decode cX0_tellFault 69 = .ok (.aload_n 0, 1) := by decide +kernel
theorem dX0_tellFault_70 : decode cX0_tellFault 70 = .ok (.getfield 15, 3) := by decide +kernel
theorem dX0_tellFault_73 : decode cX0_tellFault 73 = .ok (.getfield 295, 3) := by decide +kernel
theorem dX0_tellFault_76 : decode cX0_tellFault 76 = .ok (.ireturn, 1) := by decide +kernel
def wm_X0_tellFault (S : q_S) (a0 : Nat) (Q : Option Value → q_S → Prop) : Prop := q_K S a0 = 1 ∧ (∃ a2_ : Nat, (q_P S 2 a0) = some a2_ ∧ (q_K S a2_ = 8 ∧ (((¬ (q_I S 1407 a2_) = 0 → (∃ a6_ : Nat, (q_P S 1 a0) = some a6_ ∧ (q_K S a6_ = 6 ∧ (wm_X5_processAt S a6_ (q_I S 1016 a6_) (fun r9_ S10_ => ∃ r11_ : Option Nat, r9_ = some (va_rf r11_) ∧ (((¬ r11_ = none → (q_K S10_ a0 = 1 ∧ (∃ a14_ : Nat, r11_ = some a14_ ∧ (q_K S10_ a14_ = 8 ∧ (∃ a17_ : Nat, (q_P S10_ 3 a0) = some a17_ ∧ (q_K S10_ a17_ = 21 ∧ (vp_in (11 : Int32) (q_N S10_ a17_) ∧ (∃ a21_ : Nat, (q_P (qs_A S10_ a17_ (11 : Int32).toNatClampNeg (q_I S10_ 1400 a14_)) 3 a0) = some a21_ ∧ (q_K (qs_A S10_ a17_ (11 : Int32).toNatClampNeg (q_I S10_ 1400 a14_)) a21_ = 21 ∧ (vp_in (12 : Int32) (q_N (qs_A S10_ a17_ (11 : Int32).toNatClampNeg (q_I S10_ 1400 a14_)) a21_) ∧ (∀ S25_ : q_S, S25_ = (qs_A (qs_A S10_ a17_ (11 : Int32).toNatClampNeg (q_I S10_ 1400 a14_)) a21_ (12 : Int32).toNatClampNeg (q_I (qs_A S10_ a17_ (11 : Int32).toNatClampNeg (q_I S10_ 1400 a14_)) 1410 a14_)) → (∃ a26_ : Nat, (q_P S25_ 1 a0) = some a26_ ∧ (q_K S25_ a26_ = 6 ∧ (∃ a29_ : Nat, (q_P S25_ 3 a0) = some a29_ ∧ (q_K S25_ a29_ = 21 ∧ (vp_in (13 : Int32) (q_N S25_ a29_) ∧ (∃ a33_ : Nat, (q_P (qs_A S25_ a29_ (13 : Int32).toNatClampNeg (q_I S25_ 1018 a26_)) 1 a0) = some a33_ ∧ (q_K (qs_A S25_ a29_ (13 : Int32).toNatClampNeg (q_I S25_ 1018 a26_)) a33_ = 6 ∧ (Q (some (.int (q_I (qs_A S25_ a29_ (13 : Int32).toNatClampNeg (q_I S25_ 1018 a26_)) 1017 a33_))) (qs_A S25_ a29_ (13 : Int32).toNatClampNeg (q_I S25_ 1018 a26_))))))))))))))))))))) ∧ (r11_ = none → (Q (some (.int (2 : Int32))) S10_))))))))) ∧ ((q_I S 1407 a2_) = 0 → (Q (some (.int (3 : Int32))) S))))))
set_option maxHeartbeats 4000000 in
set_option maxRecDepth 100000 in
theorem cm_X0_tellFault {l : Launch} {D : va_G} {cy : Nat → ClassId} {lo : Nat} {S : q_S} {a0 : Nat} {Q : Option Value → q_S → Prop} (h : wm_X0_tellFault S a0 Q) : q_Met l D cy lo yX0_tellFault cX0_tellFault 2 (some .int) 1 21 0 0 [.ref a0] S Q := by
  refine q_body (by decide) (by first | exact Nat.le_of_ble_eq_true rfl | simp [lg_sl, q_cat, q_catI, q_catJ, q_catR]) ?_
  intro p e s m below meth c ls X hnm Y hl
  have hx := X.1
  have hb := X.2.1
  have hl : lv_has ls 2 [(0, .ref a0)] := by first | exact hl | simpa [lv_args, q_cat, q_catI, q_catJ, q_catR] using hl
  generalize hargs : ([.ref a0] : List Value).toArray = args at X ⊢
  unfold wm_X0_tellFault at h
  refine lv_aload_n hx hb dX0_tellFault_0 rfl (lv_at hl 0 rfl) ?_
  obtain ⟨k1_, h⟩ := h
  refine q_getP X Y kX0 2 rfl fl_X0_19 k1_ rfl dX0_tellFault_1 ?_
  obtain ⟨a2_, e3_, h⟩ := h
  refine q_nn [] e3_ ?_
  obtain ⟨k4_, h⟩ := h
  refine q_getI X Y kX7 7 rfl fl_X0_75 k4_ dX0_tellFault_4 ?_
  refine lv_if_ne (tgt := 12) hx hb dX0_tellFault_7 (by decide) (fun c5_ => ?_) (fun c5_ => ?_)
  · replace h := h.1 c5_
    refine lv_aload_n hx hb dX0_tellFault_12 rfl (lv_at hl 0 rfl) ?_
    refine q_getP X Y kX0 1 rfl fl_X0_15 k1_ rfl dX0_tellFault_13 ?_
    refine lv_aload_n hx hb dX0_tellFault_16 rfl (lv_at hl 0 rfl) ?_
    refine q_getP X Y kX0 1 rfl fl_X0_15 k1_ rfl dX0_tellFault_17 ?_
    obtain ⟨a6_, e7_, h⟩ := h
    refine q_nn [] e7_ ?_
    obtain ⟨k8_, h⟩ := h
    refine q_getI X Y kX5 16 rfl fl_X0_286 k8_ dX0_tellFault_20 ?_
    refine q_nn [.int (q_I S 1016 a6_)] e7_ ?_
    refine q_callV X Y hl (cm_X5_processAt h) mt_X5_processAt mi_X5_processAt ml_X0_131 (ci := 5) rfl k8_ (by decide) rfl rfl (by first | exact Nat.le_of_ble_eq_true rfl | simp [q_cat, q_catI, q_catJ, q_catR]) ⟨Nat.le_of_ble_eq_true rfl, Nat.le_of_ble_eq_true rfl⟩ ⟨Nat.le_of_ble_eq_true rfl, Nat.le_of_ble_eq_true rfl⟩ dX0_tellFault_23 (fun r9_ S10_ H locs hp Y => ?_)
    obtain ⟨r11_, rfl, h⟩ := hp
    refine W.eq (g2 := F0 m 26 ls [va_rf r11_]) rfl ?_
    refine q_astore_n (i := 1) (lv' := [(1, va_rf r11_), (0, .ref a0)]) hx hb dX0_tellFault_26 rfl hl (by decide) (by first | rfl | simp [q_cat, q_catI, q_catJ, q_catR]) (fun ls hl => ?_)
    refine q_aload_n hx hb dX0_tellFault_27 rfl (lv_at hl 0 rfl) ?_
    refine q_ifnonnull (r := r11_) (tgt := 33) hx hb dX0_tellFault_28 (by decide) (fun c12_ => ?_) (fun c12_ => ?_)
    · replace h := h.1 c12_
      refine lv_aload_n hx hb dX0_tellFault_33 rfl (lv_at hl 1 rfl) ?_
      obtain ⟨k13_, h⟩ := h
      refine q_getP X Y kX0 3 rfl fl_X0_29 k13_ rfl dX0_tellFault_34 ?_
      refine lv_bipush (v := 11) hx hb dX0_tellFault_37 (by decide) ?_
      refine q_aload_n hx hb dX0_tellFault_39 rfl (lv_at hl 0 rfl) ?_
      obtain ⟨a14_, e15_, h⟩ := h
      refine q_nn [] e15_ ?_
      obtain ⟨k16_, h⟩ := h
      refine q_getI X Y kX7 0 rfl fl_X0_289 k16_ dX0_tellFault_40 ?_
      obtain ⟨a17_, e18_, h⟩ := h
      refine q_nn [.int (q_I S10_ 1400 a14_), .int (11 : Int32)] e18_ ?_
      obtain ⟨k19_, h⟩ := h
      obtain ⟨i20_, h⟩ := h
      refine q_ist X Y k19_ i20_ dX0_tellFault_43 (fun H locs Y => ?_)
      refine lv_aload_n hx hb dX0_tellFault_44 rfl (lv_at hl 1 rfl) ?_
      refine q_getP X Y kX0 3 rfl fl_X0_29 k13_ rfl dX0_tellFault_45 ?_
      refine lv_bipush (v := 12) hx hb dX0_tellFault_48 (by decide) ?_
      refine q_aload_n hx hb dX0_tellFault_50 rfl (lv_at hl 0 rfl) ?_
      refine q_nn [] e15_ ?_
      refine q_getI X Y kX7 10 rfl fl_X0_39 k16_ dX0_tellFault_51 ?_
      obtain ⟨a21_, e22_, h⟩ := h
      refine q_nn [.int (q_I (qs_A S10_ a17_ (11 : Int32).toNatClampNeg (q_I S10_ 1400 a14_)) 1410 a14_), .int (12 : Int32)] e22_ ?_
      obtain ⟨k23_, h⟩ := h
      obtain ⟨i24_, h⟩ := h
      refine q_ist X Y k23_ i24_ dX0_tellFault_54 (fun H locs Y => ?_)
      obtain ⟨S25_, gS25_⟩ : ∃ z : q_S, z = (qs_A (qs_A S10_ a17_ (11 : Int32).toNatClampNeg (q_I S10_ 1400 a14_)) a21_ (12 : Int32).toNatClampNeg (q_I (qs_A S10_ a17_ (11 : Int32).toNatClampNeg (q_I S10_ 1400 a14_)) 1410 a14_)) := ⟨_, rfl⟩
      replace Y : q_Y D cy lo s S25_ H locs := by rw [gS25_]; exact Y
      replace h := h S25_ gS25_
      replace k13_ : q_K S25_ a0 = 1 := by rw [gS25_]; exact k13_
      replace k16_ : q_K S25_ a14_ = 8 := by rw [gS25_]; exact k16_
      replace k19_ : q_K S25_ a17_ = 21 := by rw [gS25_]; exact k19_
      replace k23_ : q_K S25_ a21_ = 21 := by rw [gS25_]; exact k23_
      refine lv_aload_n hx hb dX0_tellFault_55 rfl (lv_at hl 1 rfl) ?_
      refine q_getP X Y kX0 3 rfl fl_X0_29 k13_ rfl dX0_tellFault_56 ?_
      refine lv_bipush (v := 13) hx hb dX0_tellFault_59 (by decide) ?_
      refine lv_aload_n hx hb dX0_tellFault_61 rfl (lv_at hl 1 rfl) ?_
      refine q_getP X Y kX0 1 rfl fl_X0_15 k13_ rfl dX0_tellFault_62 ?_
      obtain ⟨a26_, e27_, h⟩ := h
      refine q_nn [] e27_ ?_
      obtain ⟨k28_, h⟩ := h
      refine q_getI X Y kX5 18 rfl fl_X0_292 k28_ dX0_tellFault_65 ?_
      obtain ⟨a29_, e30_, h⟩ := h
      refine q_nn [.int (q_I S25_ 1018 a26_), .int (13 : Int32)] e30_ ?_
      obtain ⟨k31_, h⟩ := h
      obtain ⟨i32_, h⟩ := h
      refine q_ist X Y k31_ i32_ dX0_tellFault_68 (fun H locs Y => ?_)
      refine lv_aload_n hx hb dX0_tellFault_69 rfl (lv_at hl 1 rfl) ?_
      refine q_getP X Y kX0 1 rfl fl_X0_15 k13_ rfl dX0_tellFault_70 ?_
      obtain ⟨a33_, e34_, h⟩ := h
      refine q_nn [] e34_ ?_
      obtain ⟨k35_, h⟩ := h
      refine q_getI X Y kX5 17 rfl fl_X0_295 k35_ dX0_tellFault_73 ?_
      exact q_iret X Y rfl (Nat.le_refl _) (Nat.le_refl _) h dX0_tellFault_76
    · replace h := h.2 c12_
      refine lv_iconst (v := 2) hx hb dX0_tellFault_31 (by decide) ?_
      exact q_iret X Y rfl (Nat.le_refl _) (Nat.le_refl _) h dX0_tellFault_32
  · replace h := h.2 c5_
    refine lv_iconst (v := 3) hx hb dX0_tellFault_10 (by decide) ?_
    exact q_iret X Y rfl (Nat.le_refl _) (Nat.le_refl _) h dX0_tellFault_11
