-- X7_leave
theorem fl_X7_61 : Cond.fieldLink RX7 61 "PartitionWorks$Process" "due" "I" ∈ q_G := q_tb (i := 883) (by decide +kernel) (by decide +kernel)
theorem fl_X7_64 : Cond.fieldLink RX7 64 "PartitionWorks$Process" "until" "I" ∈ q_G := q_tb (i := 886) (by decide +kernel) (by decide +kernel)
theorem fl_X7_67 : Cond.fieldLink RX7 67 "PartitionWorks$Process" "waits" "I" ∈ q_G := q_tb (i := 900) (by decide +kernel) (by decide +kernel)
theorem fl_X7_70 : Cond.fieldLink RX7 70 "PartitionWorks$Process" "held" "Z" ∈ q_G := q_tb (i := 894) (by decide +kernel) (by decide +kernel)
theorem fl_X7_58 : Cond.fieldLink RX7 58 "PartitionWorks$Process" "state" "I" ∈ q_G := q_tb (i := 870) (by decide +kernel) (by decide +kernel)
theorem dX7_leave_0 : decode cX7_leave 0 = .ok (.aload_n 0, 1) := by decide +kernel
theorem dX7_leave_1 : decode cX7_leave 1 = .ok (.iload_n 1, 1) := by decide +kernel
theorem dX7_leave_2 : decode cX7_leave 2 = .ok (.putfield 58, 3) := by decide +kernel
theorem dX7_leave_5 : decode cX7_leave 5 = .ok (.aload_n 0, 1) := by decide +kernel
theorem dX7_leave_6 : decode cX7_leave 6 = .ok (.iload_n 1, 1) := by decide +kernel
theorem dX7_leave_7 : decode cX7_leave 7 = .ok (.ifCond .ne 7, 3) := by decide +kernel
theorem dX7_leave_10 : decode cX7_leave 10 = .ok (.iconst (-1), 1) := by decide +kernel
theorem dX7_leave_11 : decode cX7_leave 11 = .ok (.goto 7, 3) := by decide +kernel
theorem dX7_leave_14 : decode cX7_leave 14 = .ok (.aload_n 0, 1) := by decide +kernel
theorem dX7_leave_15 : decode cX7_leave 15 = .ok (.getfield 61, 3) := by decide +kernel
theorem dX7_leave_18 : decode cX7_leave 18 = .ok (.putfield 61, 3) := by decide +kernel
theorem dX7_leave_21 : decode cX7_leave 21 = .ok (.aload_n 0, 1) := by decide +kernel
theorem dX7_leave_22 : decode cX7_leave 22 = .ok (.iconst (-1), 1) := by decide +kernel
theorem dX7_leave_23 : decode cX7_leave 23 = .ok (.putfield 64, 3) := by decide +kernel
theorem dX7_leave_26 : decode cX7_leave 26 = .ok (.aload_n 0, 1) := by decide +kernel
theorem dX7_leave_27 : decode cX7_leave 27 = .ok (.iconst (-1), 1) := by decide +kernel
theorem dX7_leave_28 : decode cX7_leave 28 = .ok (.putfield 67, 3) := by decide +kernel
theorem dX7_leave_31 : decode cX7_leave 31 = .ok (.aload_n 0, 1) := by decide +kernel
theorem dX7_leave_32 : decode cX7_leave 32 = .ok (.iconst 0, 1) := by decide +kernel
theorem dX7_leave_33 : decode cX7_leave 33 = .ok (.putfield 70, 3) := by decide +kernel
theorem dX7_leave_36 : decode cX7_leave 36 = .ok (.return_, 1) := by decide +kernel
def wb_X7_leave_18  (S : q_S) (a0 : Nat) (as0 : Nat) (xs1 : Int32) (Q : Option Value → q_S → Prop) : Prop := q_K S as0 = 8 ∧ (q_K (qs_I S 1412 as0 xs1) a0 = 8 ∧ (Q none (qs_I (qs_I (qs_I (qs_I S 1412 as0 xs1) 1413 a0 (-1 : Int32)) 1418 a0 (-1 : Int32)) 1416 a0 (0 : Int32))))
set_option maxHeartbeats 4000000 in
set_option maxRecDepth 100000 in
theorem cb_X7_leave_18 {p : Program} {l : Launch} {e : Env} {s : State} {m : MethodId} {args : Array Value} {below : List Frame} {meth : Method} {c : Code} {D : va_G} {cy : Nat → ClassId} {lo : Nat}  {S : q_S} {a0 : Nat} {as0 : Nat} {xs1 : Int32} {Q : Option Value → q_S → Prop} {H : Heap} {locs : List Loc} {ls : Array Slot} (X : q_X p s m args meth c RX7 cX7_leave 2 none D cy lo)  (Y : q_Y D cy lo s S H locs) (hl : lv_has ls 2 [(0, .ref a0)]) (h : wb_X7_leave_18  S a0 as0 xs1 Q) : W p l e ({ frames := 0, cells := 0, slots := 0, locals := 0 } : Room) s m args below meth c H locs 0 0 (MQ below (q_Q D cy lo Q) args s 0 0 (fun q => lo ≤ q)) (F0 m 18 ls [.int xs1, .ref as0]) := by
  have hx := X.1
  have hb := X.2.1
  unfold wb_X7_leave_18 at h
  obtain ⟨k1_, h⟩ := h
  refine q_putI X Y kX7 12 rfl fl_X7_61 k1_ .int rfl ⟨rfl, rfl⟩ rfl dX7_leave_18 (fun H locs Y => ?_)
  refine lv_aload_n hx hb dX7_leave_21 rfl (lv_at hl 0 rfl) ?_
  refine lv_iconst (v := (-1)) hx hb dX7_leave_22 (by decide) ?_
  obtain ⟨k2_, h⟩ := h
  refine q_putI X Y kX7 13 rfl fl_X7_64 k2_ .int rfl ⟨rfl, rfl⟩ rfl dX7_leave_23 (fun H locs Y => ?_)
  refine lv_aload_n hx hb dX7_leave_26 rfl (lv_at hl 0 rfl) ?_
  refine lv_iconst (v := (-1)) hx hb dX7_leave_27 (by decide) ?_
  refine q_putI X Y kX7 18 rfl fl_X7_67 k2_ .int rfl ⟨rfl, rfl⟩ rfl dX7_leave_28 (fun H locs Y => ?_)
  refine lv_aload_n hx hb dX7_leave_31 rfl (lv_at hl 0 rfl) ?_
  refine lv_iconst (v := 0) hx hb dX7_leave_32 (by decide) ?_
  refine q_putI X Y kX7 16 rfl fl_X7_70 k2_ .boolean rfl ⟨rfl, rfl⟩ rfl dX7_leave_33 (fun H locs Y => ?_)
  exact q_vret X Y (Nat.le_refl _) (Nat.le_refl _) h dX7_leave_36
def wm_X7_leave (S : q_S) (a0 : Nat) (x1 : Int32) (Q : Option Value → q_S → Prop) : Prop := q_K S a0 = 8 ∧ (((¬ x1 = 0 → (wb_X7_leave_18 (qs_I S 1409 a0 x1) a0 a0 (q_I (qs_I S 1409 a0 x1) 1412 a0) Q)) ∧ (x1 = 0 → (wb_X7_leave_18 (qs_I S 1409 a0 x1) a0 a0 (-1 : Int32) Q))))
set_option maxHeartbeats 4000000 in
set_option maxRecDepth 100000 in
theorem cm_X7_leave {l : Launch} {D : va_G} {cy : Nat → ClassId} {lo : Nat} {S : q_S} {a0 : Nat} {x1 : Int32} {Q : Option Value → q_S → Prop} (h : wm_X7_leave S a0 x1 Q) : q_Met l D cy lo yX7_leave cX7_leave 2 none 0 0 0 0 [.ref a0, .int x1] S Q := by
  refine q_body (by decide) (by first | exact Nat.le_of_ble_eq_true rfl | simp [lg_sl, q_cat, q_catI, q_catJ, q_catR]) ?_
  intro p e s m below meth c ls X hnm Y hl
  have hx := X.1
  have hb := X.2.1
  have hl : lv_has ls 2 [(0, .ref a0), (1, .int x1)] := by first | exact hl | simpa [lv_args, q_cat, q_catI, q_catJ, q_catR] using hl
  generalize hargs : ([.ref a0, .int x1] : List Value).toArray = args at X ⊢
  unfold wm_X7_leave at h
  refine lv_aload_n hx hb dX7_leave_0 rfl (lv_at hl 0 rfl) ?_
  refine lv_iload_n hx hb dX7_leave_1 rfl (lv_at hl 1 rfl) ?_
  obtain ⟨k3_, h⟩ := h
  refine q_putI X Y kX7 9 rfl fl_X7_58 k3_ .int rfl ⟨rfl, rfl⟩ rfl dX7_leave_2 (fun H locs Y => ?_)
  refine lv_aload_n hx hb dX7_leave_5 rfl (lv_at hl 0 rfl) ?_
  refine lv_iload_n hx hb dX7_leave_6 rfl (lv_at hl 1 rfl) ?_
  refine lv_if_ne (tgt := 14) hx hb dX7_leave_7 (by decide) (fun c4_ => ?_) (fun c4_ => ?_)
  · replace h := h.1 c4_
    refine lv_aload_n hx hb dX7_leave_14 rfl (lv_at hl 0 rfl) ?_
    refine q_getI X Y kX7 12 rfl fl_X7_61 k3_ dX7_leave_15 ?_
    exact cb_X7_leave_18 X Y (lv_sub hl [0] rfl) h
  · replace h := h.2 c4_
    refine lv_iconst (v := (-1)) hx hb dX7_leave_10 (by decide) ?_
    refine lv_goto (tgt := 18) hx hb dX7_leave_11 (by decide) ?_
    exact cb_X7_leave_18 X Y (lv_sub hl [0] rfl) h
-- X7_setRelease
theorem fl_X7_51 : Cond.fieldLink RX7 51 "PartitionWorks$Process" "release" "I" ∈ q_G := q_tb (i := 891) (by decide +kernel) (by decide +kernel)
theorem fl_X7_26 : Cond.fieldLink RX7 26 "PartitionWorks$Process" "deadline" "I" ∈ q_G := q_tb (i := 856) (by decide +kernel) (by decide +kernel)
theorem dX7_setRelease_0 : decode cX7_setRelease 0 = .ok (.aload_n 0, 1) := by decide +kernel
theorem dX7_setRelease_1 : decode cX7_setRelease 1 = .ok (.iload_n 1, 1) := by decide +kernel
theorem dX7_setRelease_2 : decode cX7_setRelease 2 = .ok (.putfield 51, 3) := by decide +kernel
theorem dX7_setRelease_5 : decode cX7_setRelease 5 = .ok (.aload_n 0, 1) := by decide +kernel
theorem dX7_setRelease_6 : decode cX7_setRelease 6 = .ok (.aload_n 0, 1) := by decide +kernel
theorem dX7_setRelease_7 : decode cX7_setRelease 7 = .ok (.getfield 26, 3) := by decide +kernel
theorem dX7_setRelease_10 : decode cX7_setRelease 10 = .ok (.ifCond .le 15, 3) := by decide +kernel
theorem dX7_setRelease_13 : decode cX7_setRelease 13 = .ok (.aload_n 0, 1) := by decide +kernel
theorem dX7_setRelease_14 : decode cX7_setRelease 14 = .ok (.getfield 51, 3) := by decide +kernel
theorem dX7_setRelease_17 : decode cX7_setRelease 17 = .ok (.aload_n 0, 1) := by decide +kernel
theorem dX7_setRelease_18 : decode cX7_setRelease 18 = .ok (.getfield 26, 3) := by decide +kernel
theorem dX7_setRelease_21 : decode cX7_setRelease 21 = .ok (.iadd, 1) := by decide +kernel
theorem dX7_setRelease_22 : decode cX7_setRelease 22 = .ok (.goto 4, 3) := by decide +kernel
theorem dX7_setRelease_25 : decode cX7_setRelease 25 = .ok (.iconst (-1), 1) := by decide +kernel
theorem dX7_setRelease_26 : decode cX7_setRelease 26 = .ok (.putfield 61, 3) := by decide +kernel
theorem dX7_setRelease_29 : decode cX7_setRelease 29 = .ok (.return_, 1) := by decide +kernel
def wb_X7_setRelease_26  (S : q_S) (as0 : Nat) (xs1 : Int32) (Q : Option Value → q_S → Prop) : Prop := q_K S as0 = 8 ∧ (Q none (qs_I S 1412 as0 xs1))
set_option maxHeartbeats 4000000 in
set_option maxRecDepth 100000 in
theorem cb_X7_setRelease_26 {p : Program} {l : Launch} {e : Env} {s : State} {m : MethodId} {args : Array Value} {below : List Frame} {meth : Method} {c : Code} {D : va_G} {cy : Nat → ClassId} {lo : Nat}  {S : q_S} {as0 : Nat} {xs1 : Int32} {Q : Option Value → q_S → Prop} {H : Heap} {locs : List Loc} {ls : Array Slot} (X : q_X p s m args meth c RX7 cX7_setRelease 2 none D cy lo)  (Y : q_Y D cy lo s S H locs) (hl : lv_has ls 2 []) (h : wb_X7_setRelease_26  S as0 xs1 Q) : W p l e ({ frames := 0, cells := 0, slots := 0, locals := 0 } : Room) s m args below meth c H locs 0 0 (MQ below (q_Q D cy lo Q) args s 0 0 (fun q => lo ≤ q)) (F0 m 26 ls [.int xs1, .ref as0]) := by
  have hx := X.1
  have hb := X.2.1
  unfold wb_X7_setRelease_26 at h
  obtain ⟨k1_, h⟩ := h
  refine q_putI X Y kX7 12 rfl fl_X7_61 k1_ .int rfl ⟨rfl, rfl⟩ rfl dX7_setRelease_26 (fun H locs Y => ?_)
  exact q_vret X Y (Nat.le_refl _) (Nat.le_refl _) h dX7_setRelease_29
def wm_X7_setRelease (S : q_S) (a0 : Nat) (x1 : Int32) (Q : Option Value → q_S → Prop) : Prop := q_K S a0 = 8 ∧ ((((q_I (qs_I S 1415 a0 x1) 1405 a0) ≤ 0 → (wb_X7_setRelease_26 (qs_I S 1415 a0 x1) a0 (-1 : Int32) Q)) ∧ (¬ (q_I (qs_I S 1415 a0 x1) 1405 a0) ≤ 0 → (wb_X7_setRelease_26 (qs_I S 1415 a0 x1) a0 ((q_I (qs_I S 1415 a0 x1) 1415 a0) + (q_I (qs_I S 1415 a0 x1) 1405 a0)) Q))))
set_option maxHeartbeats 4000000 in
set_option maxRecDepth 100000 in
theorem cm_X7_setRelease {l : Launch} {D : va_G} {cy : Nat → ClassId} {lo : Nat} {S : q_S} {a0 : Nat} {x1 : Int32} {Q : Option Value → q_S → Prop} (h : wm_X7_setRelease S a0 x1 Q) : q_Met l D cy lo yX7_setRelease cX7_setRelease 2 none 0 0 0 0 [.ref a0, .int x1] S Q := by
  refine q_body (by decide) (by first | exact Nat.le_of_ble_eq_true rfl | simp [lg_sl, q_cat, q_catI, q_catJ, q_catR]) ?_
  intro p e s m below meth c ls X hnm Y hl
  have hx := X.1
  have hb := X.2.1
  have hl : lv_has ls 2 [(0, .ref a0), (1, .int x1)] := by first | exact hl | simpa [lv_args, q_cat, q_catI, q_catJ, q_catR] using hl
  generalize hargs : ([.ref a0, .int x1] : List Value).toArray = args at X ⊢
  unfold wm_X7_setRelease at h
  refine lv_aload_n hx hb dX7_setRelease_0 rfl (lv_at hl 0 rfl) ?_
  refine lv_iload_n hx hb dX7_setRelease_1 rfl (lv_at hl 1 rfl) ?_
  obtain ⟨k2_, h⟩ := h
  refine q_putI X Y kX7 15 rfl fl_X7_51 k2_ .int rfl ⟨rfl, rfl⟩ rfl dX7_setRelease_2 (fun H locs Y => ?_)
  refine lv_aload_n hx hb dX7_setRelease_5 rfl (lv_at hl 0 rfl) ?_
  refine lv_aload_n hx hb dX7_setRelease_6 rfl (lv_at hl 0 rfl) ?_
  refine q_getI X Y kX7 5 rfl fl_X7_26 k2_ dX7_setRelease_7 ?_
  refine lv_if_le (tgt := 25) hx hb dX7_setRelease_10 (by decide) (fun c3_ => ?_) (fun c3_ => ?_)
  · replace h := h.1 c3_
    refine lv_iconst (v := (-1)) hx hb dX7_setRelease_25 (by decide) ?_
    exact cb_X7_setRelease_26 X Y (lv_sub hl [] rfl) h
  · replace h := h.2 c3_
    refine lv_aload_n hx hb dX7_setRelease_13 rfl (lv_at hl 0 rfl) ?_
    refine q_getI X Y kX7 15 rfl fl_X7_51 k2_ dX7_setRelease_14 ?_
    refine lv_aload_n hx hb dX7_setRelease_17 rfl (lv_at hl 0 rfl) ?_
    refine q_getI X Y kX7 5 rfl fl_X7_26 k2_ dX7_setRelease_18 ?_
    refine lv_iadd hx hb dX7_setRelease_21 ?_
    refine lv_goto (tgt := 26) hx hb dX7_setRelease_22 (by decide) ?_
    exact cb_X7_setRelease_26 X Y (lv_sub hl [] rfl) h
-- X7_isAheadOf
theorem fl_X7_79 : Cond.fieldLink RX7 79 "PartitionWorks$Process" "order" "I" ∈ q_G := q_tb (i := 898) (by decide +kernel) (by decide +kernel)
theorem fl_X7_76 : Cond.fieldLink RX7 76 "PartitionWorks$Process" "priority" "I" ∈ q_G := q_tb (i := 849) (by decide +kernel) (by decide +kernel)
theorem dX7_isAheadOf_0 : decode cX7_isAheadOf 0 = .ok (.iload_n 2, 1) := by decide +kernel
theorem dX7_isAheadOf_1 : decode cX7_isAheadOf 1 = .ok (.ifCond .ne 31, 3) := by decide +kernel
theorem dX7_isAheadOf_4 : decode cX7_isAheadOf 4 = .ok (.aload_n 0, 1) := by decide +kernel
theorem dX7_isAheadOf_5 : decode cX7_isAheadOf 5 = .ok (.getfield 76, 3) := by decide +kernel
theorem dX7_isAheadOf_8 : decode cX7_isAheadOf 8 = .ok (.aload_n 1, 1) := by decide +kernel
theorem dX7_isAheadOf_9 : decode cX7_isAheadOf 9 = .ok (.getfield 76, 3) := by decide +kernel
theorem dX7_isAheadOf_12 : decode cX7_isAheadOf 12 = .ok (.if_icmp .eq 20, 3) := by decide +kernel
theorem dX7_isAheadOf_15 : decode cX7_isAheadOf 15 = .ok (.aload_n 0, 1) := by decide +kernel
theorem dX7_isAheadOf_16 : decode cX7_isAheadOf 16 = .ok (.getfield 76, 3) := by decide +kernel
theorem dX7_isAheadOf_19 : decode cX7_isAheadOf 19 = .ok (.aload_n 1, 1) := by decide +kernel
theorem dX7_isAheadOf_20 : decode cX7_isAheadOf 20 = .ok (.getfield 76, 3) := by decide +kernel
theorem dX7_isAheadOf_23 : decode cX7_isAheadOf 23 = .ok (.if_icmp .le 7, 3) := by decide +kernel
theorem dX7_isAheadOf_26 : decode cX7_isAheadOf 26 = .ok (.iconst 1, 1) := by decide +kernel
theorem dX7_isAheadOf_27 : decode cX7_isAheadOf 27 = .ok (.goto 4, 3) := by decide +kernel
theorem dX7_isAheadOf_30 : decode cX7_isAheadOf 30 = .ok (.iconst 0, 1) := by decide +kernel
theorem dX7_isAheadOf_31 : decode cX7_isAheadOf 31 = .ok (.ireturn, 1) := by decide +kernel
theorem dX7_isAheadOf_32 : decode cX7_isAheadOf 32 = .ok (.aload_n 0, 1) := by decide +kernel
theorem dX7_isAheadOf_33 : decode cX7_isAheadOf 33 = .ok (.getfield 79, 3) := by decide +kernel
theorem dX7_isAheadOf_36 : decode cX7_isAheadOf 36 = .ok (.aload_n 1, 1) := by decide +kernel
theorem dX7_isAheadOf_37 : decode cX7_isAheadOf 37 = .ok (.getfield 79, 3) := by decide +kernel
theorem dX7_isAheadOf_40 : decode cX7_isAheadOf 40 = .ok (.if_icmp .ge 7, 3) := by decide +kernel
theorem dX7_isAheadOf_43 : decode cX7_isAheadOf 43 = .ok (.iconst 1, 1) := by decide +kernel
theorem dX7_isAheadOf_44 : decode cX7_isAheadOf 44 = .ok (.goto 4, 3) := by decide +kernel
theorem dX7_isAheadOf_47 : decode cX7_isAheadOf 47 = .ok (.iconst 0, 1) := by decide +kernel
theorem dX7_isAheadOf_48 : decode cX7_isAheadOf 48 = .ok (.ireturn, 1) := by decide +kernel
def wb_X7_isAheadOf_31  (S : q_S) (xs0 : Int32) (Q : Option Value → q_S → Prop) : Prop := (narrow .boolean (.int xs0) = .int xs0 ∧ Q (some (.int xs0)) S)
set_option maxHeartbeats 4000000 in
set_option maxRecDepth 100000 in
theorem cb_X7_isAheadOf_31 {p : Program} {l : Launch} {e : Env} {s : State} {m : MethodId} {args : Array Value} {below : List Frame} {meth : Method} {c : Code} {D : va_G} {cy : Nat → ClassId} {lo : Nat}  {S : q_S} {xs0 : Int32} {Q : Option Value → q_S → Prop} {H : Heap} {locs : List Loc} {ls : Array Slot} (X : q_X p s m args meth c RX7 cX7_isAheadOf 3 (some .boolean) D cy lo)  (Y : q_Y D cy lo s S H locs) (hl : lv_has ls 3 []) (h : wb_X7_isAheadOf_31  S xs0 Q) : W p l e ({ frames := 0, cells := 0, slots := 0, locals := 0 } : Room) s m args below meth c H locs 0 0 (MQ below (q_Q D cy lo Q) args s 0 0 (fun q => lo ≤ q)) (F0 m 31 ls [.int xs0]) := by
  have hx := X.1
  have hb := X.2.1
  unfold wb_X7_isAheadOf_31 at h
  exact q_iret X Y h.1 (Nat.le_refl _) (Nat.le_refl _) h.2 dX7_isAheadOf_31
def wb_X7_isAheadOf_48  (S : q_S) (xs0 : Int32) (Q : Option Value → q_S → Prop) : Prop := (narrow .boolean (.int xs0) = .int xs0 ∧ Q (some (.int xs0)) S)
set_option maxHeartbeats 4000000 in
set_option maxRecDepth 100000 in
theorem cb_X7_isAheadOf_48 {p : Program} {l : Launch} {e : Env} {s : State} {m : MethodId} {args : Array Value} {below : List Frame} {meth : Method} {c : Code} {D : va_G} {cy : Nat → ClassId} {lo : Nat}  {S : q_S} {xs0 : Int32} {Q : Option Value → q_S → Prop} {H : Heap} {locs : List Loc} {ls : Array Slot} (X : q_X p s m args meth c RX7 cX7_isAheadOf 3 (some .boolean) D cy lo)  (Y : q_Y D cy lo s S H locs) (hl : lv_has ls 3 []) (h : wb_X7_isAheadOf_48  S xs0 Q) : W p l e ({ frames := 0, cells := 0, slots := 0, locals := 0 } : Room) s m args below meth c H locs 0 0 (MQ below (q_Q D cy lo Q) args s 0 0 (fun q => lo ≤ q)) (F0 m 48 ls [.int xs0]) := by
  have hx := X.1
  have hb := X.2.1
  unfold wb_X7_isAheadOf_48 at h
  exact q_iret X Y h.1 (Nat.le_refl _) (Nat.le_refl _) h.2 dX7_isAheadOf_48
def wb_X7_isAheadOf_32  (S : q_S) (a0 : Nat) (r1 : Option Nat) (Q : Option Value → q_S → Prop) : Prop := q_K S a0 = 8 ∧ (∃ a2_ : Nat, r1 = some a2_ ∧ (q_K S a2_ = 8 ∧ ((((q_I S 1417 a2_) ≤ (q_I S 1417 a0) → (wb_X7_isAheadOf_48 S (0 : Int32) Q)) ∧ (¬ (q_I S 1417 a2_) ≤ (q_I S 1417 a0) → (wb_X7_isAheadOf_48 S (1 : Int32) Q))))))
set_option maxHeartbeats 4000000 in
set_option maxRecDepth 100000 in
theorem cb_X7_isAheadOf_32 {p : Program} {l : Launch} {e : Env} {s : State} {m : MethodId} {args : Array Value} {below : List Frame} {meth : Method} {c : Code} {D : va_G} {cy : Nat → ClassId} {lo : Nat}  {S : q_S} {a0 : Nat} {r1 : Option Nat} {Q : Option Value → q_S → Prop} {H : Heap} {locs : List Loc} {ls : Array Slot} (X : q_X p s m args meth c RX7 cX7_isAheadOf 3 (some .boolean) D cy lo)  (Y : q_Y D cy lo s S H locs) (hl : lv_has ls 3 [(0, .ref a0), (1, va_rf r1)]) (h : wb_X7_isAheadOf_32  S a0 r1 Q) : W p l e ({ frames := 0, cells := 0, slots := 0, locals := 0 } : Room) s m args below meth c H locs 0 0 (MQ below (q_Q D cy lo Q) args s 0 0 (fun q => lo ≤ q)) (F0 m 32 ls []) := by
  have hx := X.1
  have hb := X.2.1
  unfold wb_X7_isAheadOf_32 at h
  refine lv_aload_n hx hb dX7_isAheadOf_32 rfl (lv_at hl 0 rfl) ?_
  obtain ⟨k1_, h⟩ := h
  refine q_getI X Y kX7 17 rfl fl_X7_79 k1_ dX7_isAheadOf_33 ?_
  refine q_aload_n hx hb dX7_isAheadOf_36 rfl (lv_at hl 1 rfl) ?_
  obtain ⟨a2_, e3_, h⟩ := h
  refine q_nn [] e3_ ?_
  obtain ⟨k4_, h⟩ := h
  refine q_getI X Y kX7 17 rfl fl_X7_79 k4_ dX7_isAheadOf_37 ?_
  refine lv_icmp_ge (tgt := 47) hx hb dX7_isAheadOf_40 (by decide) (fun c5_ => ?_) (fun c5_ => ?_)
  · replace h := h.1 c5_
    refine lv_iconst (v := 0) hx hb dX7_isAheadOf_47 (by decide) ?_
    exact cb_X7_isAheadOf_48 X Y (lv_sub hl [] rfl) h
  · replace h := h.2 c5_
    refine lv_iconst (v := 1) hx hb dX7_isAheadOf_43 (by decide) ?_
    refine lv_goto (tgt := 48) hx hb dX7_isAheadOf_44 (by decide) ?_
    exact cb_X7_isAheadOf_48 X Y (lv_sub hl [] rfl) h
def wm_X7_isAheadOf (S : q_S) (a0 : Nat) (r1 : Option Nat) (x2 : Int32) (Q : Option Value → q_S → Prop) : Prop := ((¬ x2 = 0 → (wb_X7_isAheadOf_32 S a0 r1 Q)) ∧ (x2 = 0 → (q_K S a0 = 8 ∧ (∃ a8_ : Nat, r1 = some a8_ ∧ (q_K S a8_ = 8 ∧ ((((q_I S 1403 a0) = (q_I S 1403 a8_) → (wb_X7_isAheadOf_32 S a0 r1 Q)) ∧ (¬ (q_I S 1403 a0) = (q_I S 1403 a8_) → ((((q_I S 1403 a0) ≤ (q_I S 1403 a8_) → (wb_X7_isAheadOf_31 S (0 : Int32) Q)) ∧ (¬ (q_I S 1403 a0) ≤ (q_I S 1403 a8_) → (wb_X7_isAheadOf_31 S (1 : Int32) Q))))))))))))
set_option maxHeartbeats 4000000 in
set_option maxRecDepth 100000 in
theorem cm_X7_isAheadOf {l : Launch} {D : va_G} {cy : Nat → ClassId} {lo : Nat} {S : q_S} {a0 : Nat} {r1 : Option Nat} {x2 : Int32} {Q : Option Value → q_S → Prop} (h : wm_X7_isAheadOf S a0 r1 x2 Q) : q_Met l D cy lo yX7_isAheadOf cX7_isAheadOf 3 (some .boolean) 0 0 0 0 [.ref a0, va_rf r1, .int x2] S Q := by
  refine q_body (by decide) (by first | exact Nat.le_of_ble_eq_true rfl | simp [lg_sl, q_cat, q_catI, q_catJ, q_catR]) ?_
  intro p e s m below meth c ls X hnm Y hl
  have hx := X.1
  have hb := X.2.1
  have hl : lv_has ls 3 [(0, .ref a0), (1, va_rf r1), (2, .int x2)] := by first | exact hl | simpa [lv_args, q_cat, q_catI, q_catJ, q_catR] using hl
  generalize hargs : ([.ref a0, va_rf r1, .int x2] : List Value).toArray = args at X ⊢
  unfold wm_X7_isAheadOf at h
  refine lv_iload_n hx hb dX7_isAheadOf_0 rfl (lv_at hl 2 rfl) ?_
  refine lv_if_ne (tgt := 32) hx hb dX7_isAheadOf_1 (by decide) (fun c6_ => ?_) (fun c6_ => ?_)
  · replace h := h.1 c6_
    exact cb_X7_isAheadOf_32 X Y (lv_sub hl [0, 1] rfl) h
  · replace h := h.2 c6_
    refine lv_aload_n hx hb dX7_isAheadOf_4 rfl (lv_at hl 0 rfl) ?_
    obtain ⟨k7_, h⟩ := h
    refine q_getI X Y kX7 3 rfl fl_X7_76 k7_ dX7_isAheadOf_5 ?_
    refine q_aload_n hx hb dX7_isAheadOf_8 rfl (lv_at hl 1 rfl) ?_
    obtain ⟨a8_, e9_, h⟩ := h
    refine q_nn [] e9_ ?_
    obtain ⟨k10_, h⟩ := h
    refine q_getI X Y kX7 3 rfl fl_X7_76 k10_ dX7_isAheadOf_9 ?_
    refine lv_icmp_eq (tgt := 32) hx hb dX7_isAheadOf_12 (by decide) (fun c11_ => ?_) (fun c11_ => ?_)
    · replace h := h.1 c11_
      exact cb_X7_isAheadOf_32 X Y (lv_sub hl [0, 1] rfl) h
    · replace h := h.2 c11_
      refine lv_aload_n hx hb dX7_isAheadOf_15 rfl (lv_at hl 0 rfl) ?_
      refine q_getI X Y kX7 3 rfl fl_X7_76 k7_ dX7_isAheadOf_16 ?_
      refine q_aload_n hx hb dX7_isAheadOf_19 rfl (lv_at hl 1 rfl) ?_
      refine q_nn [] e9_ ?_
      refine q_getI X Y kX7 3 rfl fl_X7_76 k10_ dX7_isAheadOf_20 ?_
      refine lv_icmp_le (tgt := 30) hx hb dX7_isAheadOf_23 (by decide) (fun c12_ => ?_) (fun c12_ => ?_)
      · replace h := h.1 c12_
        refine lv_iconst (v := 0) hx hb dX7_isAheadOf_30 (by decide) ?_
        exact cb_X7_isAheadOf_31 X Y (lv_sub hl [] rfl) h
      · replace h := h.2 c12_
        refine lv_iconst (v := 1) hx hb dX7_isAheadOf_26 (by decide) ?_
        refine lv_goto (tgt := 31) hx hb dX7_isAheadOf_27 (by decide) ?_
        exact cb_X7_isAheadOf_31 X Y (lv_sub hl [] rfl) h
