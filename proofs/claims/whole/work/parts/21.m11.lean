-- X12_fault
theorem dX12_fault_0 : decode cX12_fault 0 = .ok (.aload_n 0, 1) := by decide +kernel
theorem dX12_fault_1 : decode cX12_fault 1 = .ok (.iconst 0, 1) := by decide +kernel
theorem dX12_fault_2 : decode cX12_fault 2 = .ok (.putfield 278, 3) := by decide +kernel
theorem dX12_fault_5 : decode cX12_fault 5 = .ok (.iload_n 1, 1) := by decide +kernel
theorem dX12_fault_6 : decode cX12_fault 6 = .ok (.ifCond .ne 10, 3) := by decide +kernel
theorem dX12_fault_9 : decode cX12_fault 9 = .ok (.aload_n 0, 1) := by decide +kernel
theorem dX12_fault_10 : decode cX12_fault 10 = .ok (.getfield 328, 3) := by decide +kernel
theorem dX12_fault_13 : decode cX12_fault 13 = .ok (.goto 16, 3) := by decide +kernel
theorem dX12_fault_16 : decode cX12_fault 16 = .ok (.iload_n 1, 1) := by decide +kernel
theorem dX12_fault_17 : decode cX12_fault 17 = .ok (.iconst 1, 1) := by decide +kernel
theorem dX12_fault_18 : decode cX12_fault 18 = .ok (.if_icmp .ne 10, 3) := by decide +kernel
theorem dX12_fault_21 : decode cX12_fault 21 = .ok (.aload_n 0, 1) := by decide +kernel
theorem dX12_fault_22 : decode cX12_fault 22 = .ok (.getfield 16, 3) := by decide +kernel
theorem dX12_fault_25 : decode cX12_fault 25 = .ok (.goto 4, 3) := by decide +kernel
theorem dX12_fault_28 : decode cX12_fault 28 = .ok (.iconst (-1), 1) := by decide +kernel
theorem dX12_fault_29 : decode cX12_fault 29 = .ok (.ireturn, 1) := by decide +kernel
def wb_X12_fault_29  (S : q_S) (xs0 : Int32) (Q : Option Value → q_S → Prop) : Prop := Q (some (.int xs0)) S
set_option maxHeartbeats 4000000 in
set_option maxRecDepth 100000 in
theorem cb_X12_fault_29 {p : Program} {l : Launch} {e : Env} {s : State} {m : MethodId} {args : Array Value} {below : List Frame} {meth : Method} {c : Code} {D : va_G} {cy : Nat → ClassId} {lo : Nat}  {S : q_S} {xs0 : Int32} {Q : Option Value → q_S → Prop} {H : Heap} {locs : List Loc} {ls : Array Slot} (X : q_X p s m args meth c RX12 cX12_fault 2 (some .int) D cy lo)  (Y : q_Y D cy lo s S H locs) (hl : lv_has ls 2 []) (h : wb_X12_fault_29 S xs0 Q) : W p l e ({ frames := 0, cells := 0, slots := 0, locals := 0 } : Room) s m args below meth c H locs 0 0 (MQ below (q_Q D cy lo Q) args s 0 0 (fun q => lo ≤ q)) (F0 m 29 ls [.int xs0]) := by
  have hx := X.1
  have hb := X.2.1
  unfold wb_X12_fault_29 at h
  exact q_iret X Y rfl (Nat.le_refl _) (Nat.le_refl _) h dX12_fault_29
def wm_X12_fault (S : q_S) (a0 : Nat) (x1 : Int32) (Q : Option Value → q_S → Prop) : Prop := q_K S a0 = 13 ∧ (((¬ x1 = 0 → (((¬ x1 = (1 : Int32) → (wb_X12_fault_29 (qs_I S 2400 a0 (0 : Int32)) (-1 : Int32) Q)) ∧ (x1 = (1 : Int32) → (wb_X12_fault_29 (qs_I S 2400 a0 (0 : Int32)) (q_I (qs_I S 2400 a0 (0 : Int32)) 2412 a0) Q))))) ∧ (x1 = 0 → (wb_X12_fault_29 (qs_I S 2400 a0 (0 : Int32)) (q_I (qs_I S 2400 a0 (0 : Int32)) 2411 a0) Q))))
set_option maxHeartbeats 4000000 in
set_option maxRecDepth 100000 in
theorem cm_X12_fault {l : Launch} {D : va_G} {cy : Nat → ClassId} {lo : Nat} {S : q_S} {a0 : Nat} {x1 : Int32} {Q : Option Value → q_S → Prop} (h : wm_X12_fault S a0 x1 Q) : q_Met l D cy lo yX12_fault cX12_fault 2 (some .int) 0 0 0 0 [.ref a0, .int x1] S Q := by
  refine q_body (by decide) (by first | exact Nat.le_of_ble_eq_true rfl | simp [lg_sl, q_cat, q_catI, q_catJ, q_catR]) ?_
  intro p e s m below meth c ls X hnm Y hl
  have hx := X.1
  have hb := X.2.1
  have hl : lv_has ls 2 [(0, .ref a0), (1, .int x1)] := by first | exact hl | simpa [lv_args, q_cat, q_catI, q_catJ, q_catR] using hl
  generalize hargs : ([.ref a0, .int x1] : List Value).toArray = args at X ⊢
  unfold wm_X12_fault at h
  refine lv_aload_n hx hb dX12_fault_0 rfl (lv_at hl 0 rfl) ?_
  refine lv_iconst (v := 0) hx hb dX12_fault_1 (by decide) ?_
  obtain ⟨k1_, h⟩ := h
  refine q_putI X Y kX12 0 rfl fl_X12_278 k1_ .int rfl ⟨rfl, rfl⟩ rfl dX12_fault_2 (fun H locs Y => ?_)
  refine lv_iload_n hx hb dX12_fault_5 rfl (lv_at hl 1 rfl) ?_
  refine lv_if_ne (tgt := 16) hx hb dX12_fault_6 (by decide) (fun c2_ => ?_) (fun c2_ => ?_)
  · replace h := h.1 c2_
    refine lv_iload_n hx hb dX12_fault_16 rfl (lv_at hl 1 rfl) ?_
    refine lv_iconst (v := 1) hx hb dX12_fault_17 (by decide) ?_
    refine lv_icmp_ne (tgt := 28) hx hb dX12_fault_18 (by decide) (fun c3_ => ?_) (fun c3_ => ?_)
    · replace h := h.1 c3_
      refine lv_iconst (v := (-1)) hx hb dX12_fault_28 (by decide) ?_
      exact cb_X12_fault_29 X Y (lv_sub hl [] rfl) h
    · replace h := h.2 c3_
      refine lv_aload_n hx hb dX12_fault_21 rfl (lv_at hl 0 rfl) ?_
      refine q_getI X Y kX12 12 rfl fl_X12_16 k1_ dX12_fault_22 ?_
      refine lv_goto (tgt := 29) hx hb dX12_fault_25 (by decide) ?_
      exact cb_X12_fault_29 X Y (lv_sub hl [] rfl) h
  · replace h := h.2 c2_
    refine lv_aload_n hx hb dX12_fault_9 rfl (lv_at hl 0 rfl) ?_
    refine q_getI X Y kX12 11 rfl fl_X12_328 k1_ dX12_fault_10 ?_
    refine lv_goto (tgt := 29) hx hb dX12_fault_13 (by decide) ?_
    exact cb_X12_fault_29 X Y (lv_sub hl [] rfl) h
-- X12_isPartition
theorem dX12_isPartition_0 : decode cX12_isPartition 0 = .ok (.iload_n 1, 1) := by decide +kernel
theorem dX12_isPartition_1 : decode cX12_isPartition 1 = .ok (.ifCond .lt 15, 3) := by decide +kernel
theorem dX12_isPartition_4 : decode cX12_isPartition 4 = .ok (.iload_n 1, 1) := by decide +kernel
theorem dX12_isPartition_5 : decode cX12_isPartition 5 = .ok (.aload_n 0, 1) := by decide +kernel
theorem dX12_isPartition_6 : decode cX12_isPartition 6 = .ok (.getfield 350, 3) := by decide +kernel
theorem dX12_isPartition_9 : decode cX12_isPartition 9 = .ok (.if_icmp .ge 7, 3) := by decide +kernel
theorem dX12_isPartition_12 : decode cX12_isPartition 12 = .ok (.iconst 1, 1) := by decide +kernel
theorem dX12_isPartition_13 : decode cX12_isPartition 13 = .ok (.goto 4, 3) := by decide +kernel
theorem dX12_isPartition_16 : decode cX12_isPartition 16 = .ok (.iconst 0, 1) := by decide +kernel
theorem dX12_isPartition_17 : decode cX12_isPartition 17 = .ok (.ireturn, 1) := by decide +kernel
def wb_X12_isPartition_17  (S : q_S) (xs0 : Int32) (Q : Option Value → q_S → Prop) : Prop := (narrow .boolean (.int xs0) = .int xs0 ∧ Q (some (.int xs0)) S)
set_option maxHeartbeats 4000000 in
set_option maxRecDepth 100000 in
theorem cb_X12_isPartition_17 {p : Program} {l : Launch} {e : Env} {s : State} {m : MethodId} {args : Array Value} {below : List Frame} {meth : Method} {c : Code} {D : va_G} {cy : Nat → ClassId} {lo : Nat}  {S : q_S} {xs0 : Int32} {Q : Option Value → q_S → Prop} {H : Heap} {locs : List Loc} {ls : Array Slot} (X : q_X p s m args meth c RX12 cX12_isPartition 2 (some .boolean) D cy lo)  (Y : q_Y D cy lo s S H locs) (hl : lv_has ls 2 []) (h : wb_X12_isPartition_17 S xs0 Q) : W p l e ({ frames := 0, cells := 0, slots := 0, locals := 0 } : Room) s m args below meth c H locs 0 0 (MQ below (q_Q D cy lo Q) args s 0 0 (fun q => lo ≤ q)) (F0 m 17 ls [.int xs0]) := by
  have hx := X.1
  have hb := X.2.1
  unfold wb_X12_isPartition_17 at h
  exact q_iret X Y h.1 (Nat.le_refl _) (Nat.le_refl _) h.2 dX12_isPartition_17
def wb_X12_isPartition_16  (S : q_S) (Q : Option Value → q_S → Prop) : Prop := wb_X12_isPartition_17 S (0 : Int32) Q
set_option maxHeartbeats 4000000 in
set_option maxRecDepth 100000 in
theorem cb_X12_isPartition_16 {p : Program} {l : Launch} {e : Env} {s : State} {m : MethodId} {args : Array Value} {below : List Frame} {meth : Method} {c : Code} {D : va_G} {cy : Nat → ClassId} {lo : Nat}  {S : q_S} {Q : Option Value → q_S → Prop} {H : Heap} {locs : List Loc} {ls : Array Slot} (X : q_X p s m args meth c RX12 cX12_isPartition 2 (some .boolean) D cy lo)  (Y : q_Y D cy lo s S H locs) (hl : lv_has ls 2 []) (h : wb_X12_isPartition_16 S Q) : W p l e ({ frames := 0, cells := 0, slots := 0, locals := 0 } : Room) s m args below meth c H locs 0 0 (MQ below (q_Q D cy lo Q) args s 0 0 (fun q => lo ≤ q)) (F0 m 16 ls []) := by
  have hx := X.1
  have hb := X.2.1
  unfold wb_X12_isPartition_16 at h
  refine lv_iconst (v := 0) hx hb dX12_isPartition_16 (by decide) ?_
  exact cb_X12_isPartition_17 X Y (lv_sub hl [] rfl) h
def wm_X12_isPartition (S : q_S) (a0 : Nat) (x1 : Int32) (Q : Option Value → q_S → Prop) : Prop := ((x1 < 0 → (wb_X12_isPartition_16 S Q)) ∧ (¬ x1 < 0 → (q_K S a0 = 13 ∧ ((((q_I S 2415 a0) ≤ x1 → (wb_X12_isPartition_16 S Q)) ∧ (¬ (q_I S 2415 a0) ≤ x1 → (wb_X12_isPartition_17 S (1 : Int32) Q)))))))
set_option maxHeartbeats 4000000 in
set_option maxRecDepth 100000 in
theorem cm_X12_isPartition {l : Launch} {D : va_G} {cy : Nat → ClassId} {lo : Nat} {S : q_S} {a0 : Nat} {x1 : Int32} {Q : Option Value → q_S → Prop} (h : wm_X12_isPartition S a0 x1 Q) : q_Met l D cy lo yX12_isPartition cX12_isPartition 2 (some .boolean) 0 0 0 0 [.ref a0, .int x1] S Q := by
  refine q_body (by decide) (by first | exact Nat.le_of_ble_eq_true rfl | simp [lg_sl, q_cat, q_catI, q_catJ, q_catR]) ?_
  intro p e s m below meth c ls X hnm Y hl
  have hx := X.1
  have hb := X.2.1
  have hl : lv_has ls 2 [(0, .ref a0), (1, .int x1)] := by first | exact hl | simpa [lv_args, q_cat, q_catI, q_catJ, q_catR] using hl
  generalize hargs : ([.ref a0, .int x1] : List Value).toArray = args at X ⊢
  unfold wm_X12_isPartition at h
  refine lv_iload_n hx hb dX12_isPartition_0 rfl (lv_at hl 1 rfl) ?_
  refine lv_if_lt (tgt := 16) hx hb dX12_isPartition_1 (by decide) (fun c1_ => ?_) (fun c1_ => ?_)
  · replace h := h.1 c1_
    exact cb_X12_isPartition_16 X Y (lv_sub hl [] rfl) h
  · replace h := h.2 c1_
    refine lv_iload_n hx hb dX12_isPartition_4 rfl (lv_at hl 1 rfl) ?_
    refine lv_aload_n hx hb dX12_isPartition_5 rfl (lv_at hl 0 rfl) ?_
    obtain ⟨k2_, h⟩ := h
    refine q_getI X Y kX12 15 rfl fl_X12_350 k2_ dX12_isPartition_6 ?_
    refine lv_icmp_ge (tgt := 16) hx hb dX12_isPartition_9 (by decide) (fun c3_ => ?_) (fun c3_ => ?_)
    · replace h := h.1 c3_
      exact cb_X12_isPartition_16 X Y (lv_sub hl [] rfl) h
    · replace h := h.2 c3_
      refine lv_iconst (v := 1) hx hb dX12_isPartition_12 (by decide) ?_
      refine lv_goto (tgt := 17) hx hb dX12_isPartition_13 (by decide) ?_
      exact cb_X12_isPartition_17 X Y (lv_sub hl [] rfl) h
-- X12_isPlace
theorem ml_X12_468 : Cond.methodLink RX12 468 yX12_isPartition ∈ q_G := q_tb (i := 2232) (by decide +kernel) (by decide +kernel)
theorem mt_X12_isPartition : q_Mt yX12_isPartition cX12_isPartition 2 (some .boolean) 1 := ⟨q_tb (i := 2235) (by decide +kernel) (by decide +kernel), q_tb (i := 11) (by decide +kernel) (by decide +kernel), by decide +kernel, by decide +kernel, by decide +kernel⟩
theorem mi_X12_isPartition : Cond.instanceMethod yX12_isPartition ∈ q_G ∧ Cond.selects yX12_isPartition.cls yX12_isPartition yX12_isPartition ∈ q_G := ⟨q_tb (i := 2234) (by decide +kernel) (by decide +kernel), q_tp (i := 117) (q := (yX12_isPartition, 114)) (by decide +kernel) (by decide +kernel)⟩
theorem dX12_isPlace_0 : decode cX12_isPlace 0 = .ok (.aload_n 0, 1) := by decide +kernel
theorem dX12_isPlace_1 : decode cX12_isPlace 1 = .ok (.iload_n 1, 1) := by decide +kernel
theorem dX12_isPlace_2 : decode cX12_isPlace 2 = .ok (.invokevirtual 468, 3) := by decide +kernel
theorem dX12_isPlace_5 : decode cX12_isPlace 5 = .ok (.ifCond .eq 27, 3) := by decide +kernel
theorem dX12_isPlace_8 : decode cX12_isPlace 8 = .ok (.iload_n 2, 1) := by decide +kernel
theorem dX12_isPlace_9 : decode cX12_isPlace 9 = .ok (.ifCond .lt 23, 3) := by decide +kernel
theorem dX12_isPlace_12 : decode cX12_isPlace 12 = .ok (.iload_n 2, 1) := by decide +kernel
theorem dX12_isPlace_13 : decode cX12_isPlace 13 = .ok (.aload_n 0, 1) := by decide +kernel
theorem dX12_isPlace_14 : decode cX12_isPlace 14 = .ok (.getfield 30, 3) := by decide +kernel
theorem dX12_isPlace_17 : decode cX12_isPlace 17 = .ok (.iload_n 1, 1) := by decide +kernel
theorem dX12_isPlace_18 : decode cX12_isPlace 18 = .ok (.iaload, 1) := by decide +kernel
theorem dX12_isPlace_19 : decode cX12_isPlace 19 = .ok (.if_icmp .ge 13, 3) := by decide +kernel
theorem dX12_isPlace_22 : decode cX12_isPlace 22 = .ok (.iload_n 2, 1) := by decide +kernel
theorem dX12_isPlace_23 : decode cX12_isPlace 23 = .ok (.iconst 4, 1) := by decide +kernel
theorem dX12_isPlace_24 : decode cX12_isPlace 24 = .ok (.irem, 1) := by decide +kernel
theorem dX12_isPlace_25 : decode cX12_isPlace 25 = .ok (.ifCond .ne 7, 3) := by decide +kernel
theorem dX12_isPlace_28 : decode cX12_isPlace 28 = .ok (.iconst 1, 1) := by decide +kernel
theorem dX12_isPlace_29 : decode cX12_isPlace 29 = .ok (.goto 4, 3) := by decide +kernel
theorem dX12_isPlace_32 : decode cX12_isPlace 32 = .ok (.iconst 0, 1) := by decide +kernel
theorem dX12_isPlace_33 : decode cX12_isPlace 33 = .ok (.ireturn, 1) := by decide +kernel
def wb_X12_isPlace_33  (S : q_S) (xs0 : Int32) (Q : Option Value → q_S → Prop) : Prop := (narrow .boolean (.int xs0) = .int xs0 ∧ Q (some (.int xs0)) S)
set_option maxHeartbeats 4000000 in
set_option maxRecDepth 100000 in
theorem cb_X12_isPlace_33 {p : Program} {l : Launch} {e : Env} {s : State} {m : MethodId} {args : Array Value} {below : List Frame} {meth : Method} {c : Code} {D : va_G} {cy : Nat → ClassId} {lo : Nat}  {S : q_S} {xs0 : Int32} {Q : Option Value → q_S → Prop} {H : Heap} {locs : List Loc} {ls : Array Slot} (X : q_X p s m args meth c RX12 cX12_isPlace 3 (some .boolean) D cy lo)  (Y : q_Y D cy lo s S H locs) (hl : lv_has ls 3 []) (h : wb_X12_isPlace_33 S xs0 Q) : W p l e ({ frames := 1, cells := 0, slots := 0, locals := 21 } : Room) s m args below meth c H locs 0 0 (MQ below (q_Q D cy lo Q) args s 0 0 (fun q => lo ≤ q)) (F0 m 33 ls [.int xs0]) := by
  have hx := X.1
  have hb := X.2.1
  unfold wb_X12_isPlace_33 at h
  exact q_iret X Y h.1 (Nat.le_refl _) (Nat.le_refl _) h.2 dX12_isPlace_33
def wb_X12_isPlace_32  (S : q_S) (Q : Option Value → q_S → Prop) : Prop := wb_X12_isPlace_33 S (0 : Int32) Q
set_option maxHeartbeats 4000000 in
set_option maxRecDepth 100000 in
theorem cb_X12_isPlace_32 {p : Program} {l : Launch} {e : Env} {s : State} {m : MethodId} {args : Array Value} {below : List Frame} {meth : Method} {c : Code} {D : va_G} {cy : Nat → ClassId} {lo : Nat}  {S : q_S} {Q : Option Value → q_S → Prop} {H : Heap} {locs : List Loc} {ls : Array Slot} (X : q_X p s m args meth c RX12 cX12_isPlace 3 (some .boolean) D cy lo)  (Y : q_Y D cy lo s S H locs) (hl : lv_has ls 3 []) (h : wb_X12_isPlace_32 S Q) : W p l e ({ frames := 1, cells := 0, slots := 0, locals := 21 } : Room) s m args below meth c H locs 0 0 (MQ below (q_Q D cy lo Q) args s 0 0 (fun q => lo ≤ q)) (F0 m 32 ls []) := by
  have hx := X.1
  have hb := X.2.1
  unfold wb_X12_isPlace_32 at h
  refine lv_iconst (v := 0) hx hb dX12_isPlace_32 (by decide) ?_
  exact cb_X12_isPlace_33 X Y (lv_sub hl [] rfl) h
def wm_X12_isPlace (S : q_S) (a0 : Nat) (x1 : Int32) (x2 : Int32) (Q : Option Value → q_S → Prop) : Prop := q_K S a0 = 13 ∧ (wm_X12_isPartition S a0 x1 (fun r2_ S3_ => ∃ x4_ : Int32, r2_ = some (.int x4_) ∧ (((x4_ = 0 → (wb_X12_isPlace_32 S3_ Q)) ∧ (¬ x4_ = 0 → (((x2 < 0 → (wb_X12_isPlace_32 S3_ Q)) ∧ (¬ x2 < 0 → (q_K S3_ a0 = 13 ∧ (∃ a8_ : Nat, (q_P S3_ 2425 a0) = some a8_ ∧ (q_K S3_ a8_ = 21 ∧ (vp_in x1 (q_N S3_ a8_) ∧ ((((q_A S3_ a8_ x1.toNatClampNeg) ≤ x2 → (wb_X12_isPlace_32 S3_ Q)) ∧ (¬ (q_A S3_ a8_ x1.toNatClampNeg) ≤ x2 → (((¬ (x2 - x2 / (4 : Int32) * (4 : Int32)) = 0 → (wb_X12_isPlace_32 S3_ Q)) ∧ ((x2 - x2 / (4 : Int32) * (4 : Int32)) = 0 → (wb_X12_isPlace_33 S3_ (1 : Int32) Q)))))))))))))))))))
set_option maxHeartbeats 4000000 in
set_option maxRecDepth 100000 in
theorem cm_X12_isPlace {l : Launch} {D : va_G} {cy : Nat → ClassId} {lo : Nat} {S : q_S} {a0 : Nat} {x1 : Int32} {x2 : Int32} {Q : Option Value → q_S → Prop} (h : wm_X12_isPlace S a0 x1 x2 Q) : q_Met l D cy lo yX12_isPlace cX12_isPlace 3 (some .boolean) 1 21 0 0 [.ref a0, .int x1, .int x2] S Q := by
  refine q_body (by decide) (by first | exact Nat.le_of_ble_eq_true rfl | simp [lg_sl, q_cat, q_catI, q_catJ, q_catR]) ?_
  intro p e s m below meth c ls X hnm Y hl
  have hx := X.1
  have hb := X.2.1
  have hl : lv_has ls 3 [(0, .ref a0), (1, .int x1), (2, .int x2)] := by first | exact hl | simpa [lv_args, q_cat, q_catI, q_catJ, q_catR] using hl
  generalize hargs : ([.ref a0, .int x1, .int x2] : List Value).toArray = args at X ⊢
  unfold wm_X12_isPlace at h
  refine lv_aload_n hx hb dX12_isPlace_0 rfl (lv_at hl 0 rfl) ?_
  refine lv_iload_n hx hb dX12_isPlace_1 rfl (lv_at hl 1 rfl) ?_
  obtain ⟨k1_, h⟩ := h
  refine q_callV X Y hl (cm_X12_isPartition h) mt_X12_isPartition mi_X12_isPartition ml_X12_468 (ci := 12) rfl k1_ (by decide) rfl rfl (by first | exact Nat.le_of_ble_eq_true rfl | simp [q_cat, q_catI, q_catJ, q_catR]) ⟨Nat.le_of_ble_eq_true rfl, Nat.le_of_ble_eq_true rfl⟩ ⟨Nat.le_of_ble_eq_true rfl, Nat.le_of_ble_eq_true rfl⟩ dX12_isPlace_2 (fun r2_ S3_ H locs hp Y => ?_)
  obtain ⟨x4_, rfl, h⟩ := hp
  refine W.eq (g2 := F0 m 5 ls [.int x4_]) rfl ?_
  refine lv_if_eq (tgt := 32) hx hb dX12_isPlace_5 (by decide) (fun c5_ => ?_) (fun c5_ => ?_)
  · replace h := h.1 c5_
    exact cb_X12_isPlace_32 X Y (lv_sub hl [] rfl) h
  · replace h := h.2 c5_
    refine lv_iload_n hx hb dX12_isPlace_8 rfl (lv_at hl 2 rfl) ?_
    refine lv_if_lt (tgt := 32) hx hb dX12_isPlace_9 (by decide) (fun c6_ => ?_) (fun c6_ => ?_)
    · replace h := h.1 c6_
      exact cb_X12_isPlace_32 X Y (lv_sub hl [] rfl) h
    · replace h := h.2 c6_
      refine lv_iload_n hx hb dX12_isPlace_12 rfl (lv_at hl 2 rfl) ?_
      refine lv_aload_n hx hb dX12_isPlace_13 rfl (lv_at hl 0 rfl) ?_
      obtain ⟨k7_, h⟩ := h
      refine q_getP X Y kX12 25 rfl fl_X12_30 k7_ rfl dX12_isPlace_14 ?_
      refine lv_iload_n hx hb dX12_isPlace_17 rfl (lv_at hl 1 rfl) ?_
      obtain ⟨a8_, e9_, h⟩ := h
      refine q_nn [.int x1] e9_ ?_
      obtain ⟨k10_, h⟩ := h
      obtain ⟨i11_, h⟩ := h
      refine q_ild X Y k10_ i11_ dX12_isPlace_18 ?_
      refine lv_icmp_ge (tgt := 32) hx hb dX12_isPlace_19 (by decide) (fun c12_ => ?_) (fun c12_ => ?_)
      · replace h := h.1 c12_
        exact cb_X12_isPlace_32 X Y (lv_sub hl [] rfl) h
      · replace h := h.2 c12_
        refine lv_iload_n hx hb dX12_isPlace_22 rfl (lv_at hl 2 rfl) ?_
        refine lv_iconst (v := 4) hx hb dX12_isPlace_23 (by decide) ?_
        refine lv_irem hx hb dX12_isPlace_24 (by decide) ?_
        refine lv_if_ne (tgt := 32) hx hb dX12_isPlace_25 (by decide) (fun c13_ => ?_) (fun c13_ => ?_)
        · replace h := h.1 c13_
          exact cb_X12_isPlace_32 X Y (lv_sub hl [] rfl) h
        · replace h := h.2 c13_
          refine lv_iconst (v := 1) hx hb dX12_isPlace_28 (by decide) ?_
          refine lv_goto (tgt := 33) hx hb dX12_isPlace_29 (by decide) ?_
          exact cb_X12_isPlace_33 X Y (lv_sub hl [] rfl) h
-- X12_image
theorem ml_X12_471 : Cond.methodLink RX12 471 yX12_isPlace ∈ q_G := q_tb (i := 2228) (by decide +kernel) (by decide +kernel)
theorem mt_X12_isPlace : q_Mt yX12_isPlace cX12_isPlace 3 (some .boolean) 2 := ⟨q_tb (i := 2231) (by decide +kernel) (by decide +kernel), q_tb (i := 11) (by decide +kernel) (by decide +kernel), by decide +kernel, by decide +kernel, by decide +kernel⟩
theorem mi_X12_isPlace : Cond.instanceMethod yX12_isPlace ∈ q_G ∧ Cond.selects yX12_isPlace.cls yX12_isPlace yX12_isPlace ∈ q_G := ⟨q_tb (i := 2230) (by decide +kernel) (by decide +kernel), q_tp (i := 116) (q := (yX12_isPlace, 114)) (by decide +kernel) (by decide +kernel)⟩
theorem dX12_image_0 : decode cX12_image 0 = .ok (.aload_n 0, 1) := by decide +kernel
theorem dX12_image_1 : decode cX12_image 1 = .ok (.aload_n 0, 1) := by decide +kernel
theorem dX12_image_2 : decode cX12_image 2 = .ok (.getfield 443, 3) := by decide +kernel
theorem dX12_image_5 : decode cX12_image 5 = .ok (.ifCond .eq 10, 3) := by decide +kernel
theorem dX12_image_8 : decode cX12_image 8 = .ok (.aload_n 0, 1) := by decide +kernel
theorem dX12_image_9 : decode cX12_image 9 = .ok (.getfield 450, 3) := by decide +kernel
theorem dX12_image_12 : decode cX12_image 12 = .ok (.ifCond .eq 7, 3) := by decide +kernel
theorem dX12_image_15 : decode cX12_image 15 = .ok (.iconst 2, 1) := by decide +kernel
theorem dX12_image_16 : decode cX12_image 16 = .ok (.goto 17, 3) := by decide +kernel
theorem dX12_image_19 : decode cX12_image 19 = .ok (.aload_n 0, 1) := by decide +kernel
theorem dX12_image_20 : decode cX12_image 20 = .ok (.iload_n 1, 1) := by decide +kernel
theorem dX12_image_21 : decode cX12_image 21 = .ok (.iload_n 2, 1) := by decide +kernel
theorem dX12_image_22 : decode cX12_image 22 = .ok (.invokevirtual 471, 3) := by decide +kernel
theorem dX12_image_25 : decode cX12_image 25 = .ok (.ifCond .ne 7, 3) := by decide +kernel
theorem dX12_image_28 : decode cX12_image 28 = .ok (.iconst 1, 1) := by decide +kernel
theorem dX12_image_29 : decode cX12_image 29 = .ok (.goto 4, 3) := by decide +kernel
theorem dX12_image_32 : decode cX12_image 32 = .ok (.iconst 0, 1) := by decide +kernel
theorem dX12_image_33 : decode cX12_image 33 = .ok (.putfield 278, 3) := by decide +kernel
theorem dX12_image_36 : decode cX12_image 36 = .ok (.aload_n 0, 1) := by decide +kernel
theorem dX12_image_37 : decode cX12_image 37 = .ok (.getfield 278, 3) := by decide +kernel
theorem dX12_image_40 : decode cX12_image 40 = .ok (.ifCond .le 4, 3) := by decide +kernel
theorem dX12_image_43 : decode cX12_image 43 = .ok (.return_, 1) := by decide +kernel
theorem dX12_image_44 : decode cX12_image 44 = .ok (.iconst 0, 1) := by decide +kernel
theorem dX12_image_45 : decode cX12_image 45 = .ok (.istore 4, 2) := by decide +kernel
theorem dX12_image_47 : decode cX12_image 47 = .ok (.iload 4, 2) := by decide +kernel
theorem dX12_image_49 : decode cX12_image 49 = .ok (.iconst 4, 1) := by decide +kernel
theorem dX12_image_50 : decode cX12_image 50 = .ok (.if_icmp .ge 32, 3) := by decide +kernel
theorem dX12_image_53 : decode cX12_image 53 = .ok (.aload_n 0, 1) := by decide +kernel
theorem dX12_image_54 : decode cX12_image 54 = .ok (.getfield 143, 3) := by decide +kernel
theorem dX12_image_57 : decode cX12_image 57 = .ok (.sipush 8192, 3) := by decide +kernel
theorem dX12_image_60 : decode cX12_image 60 = .ok (.iload_n 1, 1) := by decide +kernel
theorem dX12_image_61 : decode cX12_image 61 = .ok (.imul, 1) := by decide +kernel
theorem dX12_image_62 : decode cX12_image 62 = .ok (.iload_n 2, 1) := by decide +kernel
theorem dX12_image_63 : decode cX12_image 63 = .ok (.iadd, 1) := by decide +kernel
theorem dX12_image_64 : decode cX12_image 64 = .ok (.iload 4, 2) := by decide +kernel
theorem dX12_image_66 : decode cX12_image 66 = .ok (.iadd, 1) := by decide +kernel
theorem dX12_image_67 : decode cX12_image 67 = .ok (.iload_n 3, 1) := by decide +kernel
theorem dX12_image_68 : decode cX12_image 68 = .ok (.bipush 8, 2) := by decide +kernel
theorem dX12_image_70 : decode cX12_image 70 = .ok (.iload 4, 2) := by decide +kernel
theorem dX12_image_72 : decode cX12_image 72 = .ok (.imul, 1) := by decide +kernel
theorem dX12_image_73 : decode cX12_image 73 = .ok (.ishr, 1) := by decide +kernel
theorem dX12_image_74 : decode cX12_image 74 = .ok (.i2b, 1) := by decide +kernel
theorem dX12_image_75 : decode cX12_image 75 = .ok (.bastore, 1) := by decide +kernel
theorem dX12_image_76 : decode cX12_image 76 = .ok (.iinc 4 1, 3) := by decide +kernel
theorem dX12_image_79 : decode cX12_image 79 = .ok (.goto (-32), 3) := by decide +kernel
theorem dX12_image_82 : decode cX12_image 82 = .ok (.return_, 1) := by decide +kernel
def wb_X12_image_47 (B47 : q_S → Nat → Int32 → Int32 → Int32 → Int32 → Prop) (S : q_S) (a0 : Nat) (x1 : Int32) (x2 : Int32) (x3 : Int32) (x4 : Int32) (Q : Option Value → q_S → Prop) : Prop := (((4 : Int32) ≤ x4 → (Q none S)) ∧ (¬ (4 : Int32) ≤ x4 → (q_K S a0 = 13 ∧ (∃ a3_ : Nat, (q_P S 2465 a0) = some a3_ ∧ (q_K S a3_ = 20 ∧ (vp_in ((((8192 : Int32) * x1) + x2) + x4) (q_N S a3_) ∧ (B47 (qs_A S a3_ ((((8192 : Int32) * x1) + x2) + x4).toNatClampNeg (vp_nar .byte ((x3 >>> (((8 : Int32) * x4) &&& 31)).toInt8.toInt32))) a0 x1 x2 x3 (x4 + 1))))))))
set_option maxHeartbeats 4000000 in
set_option maxRecDepth 100000 in
theorem cb_X12_image_47 {p : Program} {l : Launch} {e : Env} {s : State} {m : MethodId} {args : Array Value} {below : List Frame} {meth : Method} {c : Code} {D : va_G} {cy : Nat → ClassId} {lo : Nat} {B47 : q_S → Nat → Int32 → Int32 → Int32 → Int32 → Prop} {S : q_S} {a0 : Nat} {x1 : Int32} {x2 : Int32} {x3 : Int32} {x4 : Int32} {Q : Option Value → q_S → Prop} {H : Heap} {locs : List Loc} {ls : Array Slot} (X : q_X p s m args meth c RX12 cX12_image 5 none D cy lo) (hB47 : ∀ (S : q_S) (a0 : Nat) (x1 : Int32) (x2 : Int32) (x3 : Int32) (x4 : Int32) (H : Heap) (locs : List Loc) (ls : Array Slot), B47 S a0 x1 x2 x3 x4 → q_Y D cy lo s S H locs → lv_has ls 5 [(0, .ref a0), (1, .int x1), (2, .int x2), (3, .int x3), (4, .int x4)] → W p l e ({ frames := 2, cells := 0, slots := 0, locals := 43 } : Room) s m args below meth c H locs 0 0 (MQ below (q_Q D cy lo Q) args s 0 0 (fun q => lo ≤ q)) (F0 m 47 ls [])) (Y : q_Y D cy lo s S H locs) (hl : lv_has ls 5 [(0, .ref a0), (1, .int x1), (2, .int x2), (3, .int x3), (4, .int x4)]) (h : wb_X12_image_47 B47 S a0 x1 x2 x3 x4 Q) : W p l e ({ frames := 2, cells := 0, slots := 0, locals := 43 } : Room) s m args below meth c H locs 0 0 (MQ below (q_Q D cy lo Q) args s 0 0 (fun q => lo ≤ q)) (F0 m 47 ls []) := by
  have hx := X.1
  have hb := X.2.1
  unfold wb_X12_image_47 at h
  refine lv_iload hx hb dX12_image_47 (lv_at hl 4 rfl) ?_
  refine lv_iconst (v := 4) hx hb dX12_image_49 (by decide) ?_
  refine lv_icmp_ge (tgt := 82) hx hb dX12_image_50 (by decide) (fun c1_ => ?_) (fun c1_ => ?_)
  · replace h := h.1 c1_
    exact q_vret X Y (Nat.le_refl _) (Nat.le_refl _) h dX12_image_82
  · replace h := h.2 c1_
    refine lv_aload_n hx hb dX12_image_53 rfl (lv_at hl 0 rfl) ?_
    obtain ⟨k2_, h⟩ := h
    refine q_getP X Y kX12 65 rfl fl_X12_143 k2_ rfl dX12_image_54 ?_
    refine lv_sipush (v := 8192) hx hb dX12_image_57 (by decide) ?_
    refine lv_iload_n hx hb dX12_image_60 rfl (lv_at hl 1 rfl) ?_
    refine lv_imul hx hb dX12_image_61 ?_
    refine lv_iload_n hx hb dX12_image_62 rfl (lv_at hl 2 rfl) ?_
    refine lv_iadd hx hb dX12_image_63 ?_
    refine lv_iload hx hb dX12_image_64 (lv_at hl 4 rfl) ?_
    refine lv_iadd hx hb dX12_image_66 ?_
    refine lv_iload_n hx hb dX12_image_67 rfl (lv_at hl 3 rfl) ?_
    refine lv_bipush (v := 8) hx hb dX12_image_68 (by decide) ?_
    refine lv_iload hx hb dX12_image_70 (lv_at hl 4 rfl) ?_
    refine lv_imul hx hb dX12_image_72 ?_
    refine lv_ishr hx hb dX12_image_73 ?_
    refine lv_i2b hx hb dX12_image_74 rfl ?_
    obtain ⟨a3_, e4_, h⟩ := h
    refine q_nn [.int ((x3 >>> (((8 : Int32) * x4) &&& 31)).toInt8.toInt32), .int ((((8192 : Int32) * x1) + x2) + x4)] e4_ ?_
    obtain ⟨k5_, h⟩ := h
    obtain ⟨i6_, h⟩ := h
    refine q_bst X Y k5_ i6_ dX12_image_75 (fun H locs Y => ?_)
    refine lv_iinc (v := (x4 + 1)) (lv' := [(4, .int (x4 + 1)), (0, .ref a0), (1, .int x1), (2, .int x2), (3, .int x3)]) hx hb dX12_image_76 hl (k := 4) rfl (by first | rfl | decide) (by decide) (by first | rfl | simp [q_cat, q_catI, q_catJ, q_catR]) (fun ls hl => ?_)
    refine lv_goto (tgt := 47) hx hb dX12_image_79 (by decide) ?_
    exact hB47 _ _ _ _ _ _ _ _ _ h Y (lv_sub hl [1, 2, 3, 4, 0] rfl)
def wl_X12_image_47  : Nat → q_S → Nat → Int32 → Int32 → Int32 → Int32 → (Option Value → q_S → Prop) → Prop
  | 0, _, _, _, _, _, _, _ => False
  | n + 1, S, a0, x1, x2, x3, x4, Q => wb_X12_image_47 (fun S a0 x1 x2 x3 x4 => wl_X12_image_47 n S a0 x1 x2 x3 x4 Q) S a0 x1 x2 x3 x4 Q
set_option maxHeartbeats 4000000 in
set_option maxRecDepth 100000 in
theorem cl_X12_image_47 {p : Program} {l : Launch} {e : Env} {s : State} {m : MethodId} {args : Array Value} {below : List Frame} {meth : Method} {c : Code} {D : va_G} {cy : Nat → ClassId} {lo : Nat}  {Q : Option Value → q_S → Prop} (X : q_X p s m args meth c RX12 cX12_image 5 none D cy lo)  : ∀ (n : Nat) (S : q_S) (a0 : Nat) (x1 : Int32) (x2 : Int32) (x3 : Int32) (x4 : Int32) (H : Heap) (locs : List Loc) (ls : Array Slot), wl_X12_image_47 n S a0 x1 x2 x3 x4 Q → q_Y D cy lo s S H locs → lv_has ls 5 [(0, .ref a0), (1, .int x1), (2, .int x2), (3, .int x3), (4, .int x4)] → W p l e ({ frames := 2, cells := 0, slots := 0, locals := 43 } : Room) s m args below meth c H locs 0 0 (MQ below (q_Q D cy lo Q) args s 0 0 (fun q => lo ≤ q)) (F0 m 47 ls []) := by
  intro n
  induction n with
  | zero => intro S a0 x1 x2 x3 x4 H locs ls h; exact absurd h id
  | succ n ih => intro S a0 x1 x2 x3 x4 H locs ls h Y hl; exact cb_X12_image_47 X ih Y hl h
def wb_X12_image_33  (S : q_S) (a0 : Nat) (x1 : Int32) (x2 : Int32) (x3 : Int32) (as0 : Nat) (xs1 : Int32) (Q : Option Value → q_S → Prop) : Prop := q_K S as0 = 13 ∧ (q_K (qs_I S 2400 as0 xs1) a0 = 13 ∧ ((((q_I (qs_I S 2400 as0 xs1) 2400 a0) ≤ 0 → (∃ n10_ : Nat, wl_X12_image_47 n10_ (qs_I S 2400 as0 xs1) a0 x1 x2 x3 (0 : Int32) Q)) ∧ (¬ (q_I (qs_I S 2400 as0 xs1) 2400 a0) ≤ 0 → (Q none (qs_I S 2400 as0 xs1))))))
set_option maxHeartbeats 4000000 in
set_option maxRecDepth 100000 in
theorem cb_X12_image_33 {p : Program} {l : Launch} {e : Env} {s : State} {m : MethodId} {args : Array Value} {below : List Frame} {meth : Method} {c : Code} {D : va_G} {cy : Nat → ClassId} {lo : Nat}  {S : q_S} {a0 : Nat} {x1 : Int32} {x2 : Int32} {x3 : Int32} {as0 : Nat} {xs1 : Int32} {Q : Option Value → q_S → Prop} {H : Heap} {locs : List Loc} {ls : Array Slot} (X : q_X p s m args meth c RX12 cX12_image 5 none D cy lo)  (Y : q_Y D cy lo s S H locs) (hl : lv_has ls 5 [(0, .ref a0), (1, .int x1), (2, .int x2), (3, .int x3)]) (h : wb_X12_image_33 S a0 x1 x2 x3 as0 xs1 Q) : W p l e ({ frames := 2, cells := 0, slots := 0, locals := 43 } : Room) s m args below meth c H locs 0 0 (MQ below (q_Q D cy lo Q) args s 0 0 (fun q => lo ≤ q)) (F0 m 33 ls [.int xs1, .ref as0]) := by
  have hx := X.1
  have hb := X.2.1
  unfold wb_X12_image_33 at h
  obtain ⟨k7_, h⟩ := h
  refine q_putI X Y kX12 0 rfl fl_X12_278 k7_ .int rfl ⟨rfl, rfl⟩ rfl dX12_image_33 (fun H locs Y => ?_)
  refine lv_aload_n hx hb dX12_image_36 rfl (lv_at hl 0 rfl) ?_
  obtain ⟨k8_, h⟩ := h
  refine q_getI X Y kX12 0 rfl fl_X12_278 k8_ dX12_image_37 ?_
  refine lv_if_le (tgt := 44) hx hb dX12_image_40 (by decide) (fun c9_ => ?_) (fun c9_ => ?_)
  · replace h := h.1 c9_
    refine lv_iconst (v := 0) hx hb dX12_image_44 (by decide) ?_
    refine lv_istore (i := 4) (lv' := [(4, .int (0 : Int32)), (0, .ref a0), (1, .int x1), (2, .int x2), (3, .int x3)]) hx hb dX12_image_45 hl (by decide) (by first | rfl | simp [q_cat, q_catI, q_catJ, q_catR]) (fun ls hl => ?_)
    obtain ⟨n10_, h⟩ := h
    exact cl_X12_image_47 X n10_ _ _ _ _ _ _ _ _ _ h Y (lv_sub hl [1, 2, 3, 4, 0] rfl)
  · replace h := h.2 c9_
    exact q_vret X Y (Nat.le_refl _) (Nat.le_refl _) h dX12_image_43
def wb_X12_image_15  (S : q_S) (a0 : Nat) (x1 : Int32) (x2 : Int32) (x3 : Int32) (as0 : Nat) (Q : Option Value → q_S → Prop) : Prop := wb_X12_image_33 S a0 x1 x2 x3 as0 (2 : Int32) Q
set_option maxHeartbeats 4000000 in
set_option maxRecDepth 100000 in
theorem cb_X12_image_15 {p : Program} {l : Launch} {e : Env} {s : State} {m : MethodId} {args : Array Value} {below : List Frame} {meth : Method} {c : Code} {D : va_G} {cy : Nat → ClassId} {lo : Nat}  {S : q_S} {a0 : Nat} {x1 : Int32} {x2 : Int32} {x3 : Int32} {as0 : Nat} {Q : Option Value → q_S → Prop} {H : Heap} {locs : List Loc} {ls : Array Slot} (X : q_X p s m args meth c RX12 cX12_image 5 none D cy lo)  (Y : q_Y D cy lo s S H locs) (hl : lv_has ls 5 [(0, .ref a0), (1, .int x1), (2, .int x2), (3, .int x3)]) (h : wb_X12_image_15 S a0 x1 x2 x3 as0 Q) : W p l e ({ frames := 2, cells := 0, slots := 0, locals := 43 } : Room) s m args below meth c H locs 0 0 (MQ below (q_Q D cy lo Q) args s 0 0 (fun q => lo ≤ q)) (F0 m 15 ls [.ref as0]) := by
  have hx := X.1
  have hb := X.2.1
  unfold wb_X12_image_15 at h
  refine lv_iconst (v := 2) hx hb dX12_image_15 (by decide) ?_
  refine lv_goto (tgt := 33) hx hb dX12_image_16 (by decide) ?_
  exact cb_X12_image_33 X Y (lv_sub hl [0, 1, 2, 3] rfl) h
def wm_X12_image (S : q_S) (a0 : Nat) (x1 : Int32) (x2 : Int32) (x3 : Int32) (Q : Option Value → q_S → Prop) : Prop := q_K S a0 = 13 ∧ ((((q_I S 2413 a0) = 0 → (wb_X12_image_15 S a0 x1 x2 x3 a0 Q)) ∧ (¬ (q_I S 2413 a0) = 0 → ((((q_I S 2414 a0) = 0 → (wm_X12_isPlace S a0 x1 x2 (fun r14_ S15_ => ∃ x16_ : Int32, r14_ = some (.int x16_) ∧ (((¬ x16_ = 0 → (wb_X12_image_33 S15_ a0 x1 x2 x3 a0 (0 : Int32) Q)) ∧ (x16_ = 0 → (wb_X12_image_33 S15_ a0 x1 x2 x3 a0 (1 : Int32) Q))))))) ∧ (¬ (q_I S 2414 a0) = 0 → (wb_X12_image_15 S a0 x1 x2 x3 a0 Q)))))))
set_option maxHeartbeats 4000000 in
set_option maxRecDepth 100000 in
theorem cm_X12_image {l : Launch} {D : va_G} {cy : Nat → ClassId} {lo : Nat} {S : q_S} {a0 : Nat} {x1 : Int32} {x2 : Int32} {x3 : Int32} {Q : Option Value → q_S → Prop} (h : wm_X12_image S a0 x1 x2 x3 Q) : q_Met l D cy lo yX12_image cX12_image 5 none 2 43 0 0 [.ref a0, .int x1, .int x2, .int x3] S Q := by
  refine q_body (by decide) (by first | exact Nat.le_of_ble_eq_true rfl | simp [lg_sl, q_cat, q_catI, q_catJ, q_catR]) ?_
  intro p e s m below meth c ls X hnm Y hl
  have hx := X.1
  have hb := X.2.1
  have hl : lv_has ls 5 [(0, .ref a0), (1, .int x1), (2, .int x2), (3, .int x3)] := by first | exact hl | simpa [lv_args, q_cat, q_catI, q_catJ, q_catR] using hl
  generalize hargs : ([.ref a0, .int x1, .int x2, .int x3] : List Value).toArray = args at X ⊢
  unfold wm_X12_image at h
  refine lv_aload_n hx hb dX12_image_0 rfl (lv_at hl 0 rfl) ?_
  refine lv_aload_n hx hb dX12_image_1 rfl (lv_at hl 0 rfl) ?_
  obtain ⟨k11_, h⟩ := h
  refine q_getI X Y kX12 13 rfl fl_X12_443 k11_ dX12_image_2 ?_
  refine lv_if_eq (tgt := 15) hx hb dX12_image_5 (by decide) (fun c12_ => ?_) (fun c12_ => ?_)
  · replace h := h.1 c12_
    exact cb_X12_image_15 X Y (lv_sub hl [0, 1, 2, 3] rfl) h
  · replace h := h.2 c12_
    refine lv_aload_n hx hb dX12_image_8 rfl (lv_at hl 0 rfl) ?_
    refine q_getI X Y kX12 14 rfl fl_X12_450 k11_ dX12_image_9 ?_
    refine lv_if_eq (tgt := 19) hx hb dX12_image_12 (by decide) (fun c13_ => ?_) (fun c13_ => ?_)
    · replace h := h.1 c13_
      refine lv_aload_n hx hb dX12_image_19 rfl (lv_at hl 0 rfl) ?_
      refine lv_iload_n hx hb dX12_image_20 rfl (lv_at hl 1 rfl) ?_
      refine lv_iload_n hx hb dX12_image_21 rfl (lv_at hl 2 rfl) ?_
      refine q_callV X Y hl (cm_X12_isPlace h) mt_X12_isPlace mi_X12_isPlace ml_X12_471 (ci := 12) rfl k11_ (by decide) rfl rfl (by first | exact Nat.le_of_ble_eq_true rfl | simp [q_cat, q_catI, q_catJ, q_catR]) ⟨Nat.le_of_ble_eq_true rfl, Nat.le_of_ble_eq_true rfl⟩ ⟨Nat.le_of_ble_eq_true rfl, Nat.le_of_ble_eq_true rfl⟩ dX12_image_22 (fun r14_ S15_ H locs hp Y => ?_)
      obtain ⟨x16_, rfl, h⟩ := hp
      refine W.eq (g2 := F0 m 25 ls [.int x16_, .ref a0]) rfl ?_
      refine lv_if_ne (tgt := 32) hx hb dX12_image_25 (by decide) (fun c17_ => ?_) (fun c17_ => ?_)
      · replace h := h.1 c17_
        refine lv_iconst (v := 0) hx hb dX12_image_32 (by decide) ?_
        exact cb_X12_image_33 X Y (lv_sub hl [0, 1, 2, 3] rfl) h
      · replace h := h.2 c17_
        refine lv_iconst (v := 1) hx hb dX12_image_28 (by decide) ?_
        refine lv_goto (tgt := 33) hx hb dX12_image_29 (by decide) ?_
        exact cb_X12_image_33 X Y (lv_sub hl [0, 1, 2, 3] rfl) h
    · replace h := h.2 c13_
      exact cb_X12_image_15 X Y (lv_sub hl [0, 1, 2, 3] rfl) h
-- X12_input
theorem dX12_input_0 : decode cX12_input 0 = .ok (.aload_n 0, 1) := by decide +kernel
theorem dX12_input_1 : decode cX12_input 1 = .ok (.aload_n 0, 1) := by decide +kernel
theorem dX12_input_2 : decode cX12_input 2 = .ok (.getfield 443, 3) := by decide +kernel
theorem dX12_input_5 : decode cX12_input 5 = .ok (.ifCond .eq 10, 3) := by decide +kernel
theorem dX12_input_8 : decode cX12_input 8 = .ok (.aload_n 0, 1) := by decide +kernel
theorem dX12_input_9 : decode cX12_input 9 = .ok (.getfield 450, 3) := by decide +kernel
theorem dX12_input_12 : decode cX12_input 12 = .ok (.ifCond .eq 7, 3) := by decide +kernel
theorem dX12_input_15 : decode cX12_input 15 = .ok (.iconst 3, 1) := by decide +kernel
theorem dX12_input_16 : decode cX12_input 16 = .ok (.goto 20, 3) := by decide +kernel
theorem dX12_input_19 : decode cX12_input 19 = .ok (.iload_n 1, 1) := by decide +kernel
theorem dX12_input_20 : decode cX12_input 20 = .ok (.ifCond .lt 11, 3) := by decide +kernel
theorem dX12_input_23 : decode cX12_input 23 = .ok (.iload_n 1, 1) := by decide +kernel
theorem dX12_input_24 : decode cX12_input 24 = .ok (.aload_n 0, 1) := by decide +kernel
theorem dX12_input_25 : decode cX12_input 25 = .ok (.getfield 416, 3) := by decide +kernel
theorem dX12_input_28 : decode cX12_input 28 = .ok (.if_icmp .lt 7, 3) := by decide +kernel
theorem dX12_input_31 : decode cX12_input 31 = .ok (.iconst 1, 1) := by decide +kernel
theorem dX12_input_32 : decode cX12_input 32 = .ok (.goto 4, 3) := by decide +kernel
theorem dX12_input_35 : decode cX12_input 35 = .ok (.iconst 0, 1) := by decide +kernel
theorem dX12_input_36 : decode cX12_input 36 = .ok (.putfield 278, 3) := by decide +kernel
theorem dX12_input_39 : decode cX12_input 39 = .ok (.aload_n 0, 1) := by decide +kernel
theorem dX12_input_40 : decode cX12_input 40 = .ok (.getfield 278, 3) := by decide +kernel
theorem dX12_input_43 : decode cX12_input 43 = .ok (.ifCond .le 4, 3) := by decide +kernel
theorem dX12_input_46 : decode cX12_input 46 = .ok (.return_, 1) := by decide +kernel
theorem dX12_input_47 : decode cX12_input 47 = .ok (.aload_n 0, 1) := by decide +kernel
theorem dX12_input_48 : decode cX12_input 48 = .ok (.getfield 260, 3) := by decide +kernel
theorem dX12_input_51 : decode cX12_input 51 = .ok (.iload_n 1, 1) := by decide +kernel
theorem dX12_input_52 : decode cX12_input 52 = .ok (.iaload, 1) := by decide +kernel
theorem dX12_input_53 : decode cX12_input 53 = .ok (.istore 4, 2) := by decide +kernel
theorem dX12_input_55 : decode cX12_input 55 = .ok (.aload_n 0, 1) := by decide +kernel
theorem dX12_input_56 : decode cX12_input 56 = .ok (.iload_n 2, 1) := by decide +kernel
theorem dX12_input_57 : decode cX12_input 57 = .ok (.ifCond .lt 26, 3) := by decide +kernel
theorem dX12_input_60 : decode cX12_input 60 = .ok (.iload 4, 2) := by decide +kernel
theorem dX12_input_62 : decode cX12_input 62 = .ok (.ifCond .le 25, 3) := by decide +kernel
theorem dX12_input_65 : decode cX12_input 65 = .ok (.iload_n 2, 1) := by decide +kernel
theorem dX12_input_66 : decode cX12_input 66 = .ok (.aload_n 0, 1) := by decide +kernel
theorem dX12_input_67 : decode cX12_input 67 = .ok (.getfield 266, 3) := by decide +kernel
theorem dX12_input_70 : decode cX12_input 70 = .ok (.bipush 60, 2) := by decide +kernel
theorem dX12_input_72 : decode cX12_input 72 = .ok (.iload_n 1, 1) := by decide +kernel
theorem dX12_input_73 : decode cX12_input 73 = .ok (.imul, 1) := by decide +kernel
theorem dX12_input_74 : decode cX12_input 74 = .ok (.iload 4, 2) := by decide +kernel
theorem dX12_input_76 : decode cX12_input 76 = .ok (.iadd, 1) := by decide +kernel
theorem dX12_input_77 : decode cX12_input 77 = .ok (.iconst 1, 1) := by decide +kernel
theorem dX12_input_78 : decode cX12_input 78 = .ok (.isub, 1) := by decide +kernel
theorem dX12_input_79 : decode cX12_input 79 = .ok (.iaload, 1) := by decide +kernel
theorem dX12_input_80 : decode cX12_input 80 = .ok (.if_icmp .gt 7, 3) := by decide +kernel
theorem dX12_input_83 : decode cX12_input 83 = .ok (.iconst 2, 1) := by decide +kernel
theorem dX12_input_84 : decode cX12_input 84 = .ok (.goto 15, 3) := by decide +kernel
theorem dX12_input_87 : decode cX12_input 87 = .ok (.iload 4, 2) := by decide +kernel
theorem dX12_input_89 : decode cX12_input 89 = .ok (.bipush 60, 2) := by decide +kernel
theorem dX12_input_91 : decode cX12_input 91 = .ok (.if_icmp .ne 7, 3) := by decide +kernel
theorem dX12_input_94 : decode cX12_input 94 = .ok (.iconst 3, 1) := by decide +kernel
theorem dX12_input_95 : decode cX12_input 95 = .ok (.goto 4, 3) := by decide +kernel
theorem dX12_input_98 : decode cX12_input 98 = .ok (.iconst 0, 1) := by decide +kernel
theorem dX12_input_99 : decode cX12_input 99 = .ok (.putfield 278, 3) := by decide +kernel
theorem dX12_input_102 : decode cX12_input 102 = .ok (.aload_n 0, 1) := by decide +kernel
theorem dX12_input_103 : decode cX12_input 103 = .ok (.getfield 278, 3) := by decide +kernel
theorem dX12_input_106 : decode cX12_input 106 = .ok (.ifCond .le 4, 3) := by decide +kernel
theorem dX12_input_109 : decode cX12_input 109 = .ok (.return_, 1) := by decide +kernel
theorem dX12_input_110 : decode cX12_input 110 = .ok (.aload_n 0, 1) := by decide +kernel
theorem dX12_input_111 : decode cX12_input 111 = .ok (.getfield 266, 3) := by decide +kernel
theorem dX12_input_114 : decode cX12_input 114 = .ok (.bipush 60, 2) := by decide +kernel
theorem dX12_input_116 : decode cX12_input 116 = .ok (.iload_n 1, 1) := by decide +kernel
theorem dX12_input_117 : decode cX12_input 117 = .ok (.imul, 1) := by decide +kernel
theorem dX12_input_118 : decode cX12_input 118 = .ok (.iload 4, 2) := by decide +kernel
theorem dX12_input_120 : decode cX12_input 120 = .ok (.iadd, 1) := by decide +kernel
theorem dX12_input_121 : decode cX12_input 121 = .ok (.iload_n 2, 1) := by decide +kernel
theorem dX12_input_122 : decode cX12_input 122 = .ok (.iastore, 1) := by decide +kernel
theorem dX12_input_123 : decode cX12_input 123 = .ok (.aload_n 0, 1) := by decide +kernel
theorem dX12_input_124 : decode cX12_input 124 = .ok (.getfield 269, 3) := by decide +kernel
theorem dX12_input_127 : decode cX12_input 127 = .ok (.bipush 60, 2) := by decide +kernel
theorem dX12_input_129 : decode cX12_input 129 = .ok (.iload_n 1, 1) := by decide +kernel
theorem dX12_input_130 : decode cX12_input 130 = .ok (.imul, 1) := by decide +kernel
theorem dX12_input_131 : decode cX12_input 131 = .ok (.iload 4, 2) := by decide +kernel
theorem dX12_input_133 : decode cX12_input 133 = .ok (.iadd, 1) := by decide +kernel
theorem dX12_input_134 : decode cX12_input 134 = .ok (.iload_n 3, 1) := by decide +kernel
theorem dX12_input_135 : decode cX12_input 135 = .ok (.iastore, 1) := by decide +kernel
theorem dX12_input_136 : decode cX12_input 136 = .ok (.aload_n 0, 1) := by decide +kernel
theorem dX12_input_137 : decode cX12_input 137 = .ok (.getfield 260, 3) := by decide +kernel
theorem dX12_input_140 : decode cX12_input 140 = .ok (.iload_n 1, 1) := by decide +kernel
theorem dX12_input_141 : decode cX12_input 141 = .ok (.dup2, 1) := by decide +kernel
theorem dX12_input_142 : decode cX12_input 142 = .ok (.iaload, 1) := by decide +kernel
theorem dX12_input_143 : decode cX12_input 143 = .ok (.iconst 1, 1) := by decide +kernel
theorem dX12_input_144 : decode cX12_input 144 = .ok (.iadd, 1) := by decide +kernel
theorem dX12_input_145 : decode cX12_input 145 = .ok (.iastore, 1) := by decide +kernel
theorem dX12_input_146 : decode cX12_input 146 = .ok (.return_, 1) := by decide +kernel
def wb_X12_input_99  (S : q_S) (a0 : Nat) (x1 : Int32) (x2 : Int32) (x3 : Int32) (x4 : Int32) (as0 : Nat) (xs1 : Int32) (Q : Option Value → q_S → Prop) : Prop := q_K S as0 = 13 ∧ (q_K (qs_I S 2400 as0 xs1) a0 = 13 ∧ ((((q_I (qs_I S 2400 as0 xs1) 2400 a0) ≤ 0 → (∃ a4_ : Nat, (q_P (qs_I S 2400 as0 xs1) 2506 a0) = some a4_ ∧ (q_K (qs_I S 2400 as0 xs1) a4_ = 21 ∧ (vp_in (((60 : Int32) * x1) + x4) (q_N (qs_I S 2400 as0 xs1) a4_) ∧ (∃ a8_ : Nat, (q_P (qs_A (qs_I S 2400 as0 xs1) a4_ (((60 : Int32) * x1) + x4).toNatClampNeg x2) 2507 a0) = some a8_ ∧ (q_K (qs_A (qs_I S 2400 as0 xs1) a4_ (((60 : Int32) * x1) + x4).toNatClampNeg x2) a8_ = 21 ∧ (vp_in (((60 : Int32) * x1) + x4) (q_N (qs_A (qs_I S 2400 as0 xs1) a4_ (((60 : Int32) * x1) + x4).toNatClampNeg x2) a8_) ∧ (∀ S12_ : q_S, S12_ = (qs_A (qs_A (qs_I S 2400 as0 xs1) a4_ (((60 : Int32) * x1) + x4).toNatClampNeg x2) a8_ (((60 : Int32) * x1) + x4).toNatClampNeg x3) → (∃ a13_ : Nat, (q_P S12_ 2504 a0) = some a13_ ∧ (q_K S12_ a13_ = 21 ∧ (vp_in x1 (q_N S12_ a13_) ∧ (vp_in x1 (q_N S12_ a13_) ∧ (Q none (qs_A S12_ a13_ x1.toNatClampNeg ((q_A S12_ a13_ x1.toNatClampNeg) + (1 : Int32)))))))))))))))) ∧ (¬ (q_I (qs_I S 2400 as0 xs1) 2400 a0) ≤ 0 → (Q none (qs_I S 2400 as0 xs1))))))
set_option maxHeartbeats 4000000 in
set_option maxRecDepth 100000 in
theorem cb_X12_input_99 {p : Program} {l : Launch} {e : Env} {s : State} {m : MethodId} {args : Array Value} {below : List Frame} {meth : Method} {c : Code} {D : va_G} {cy : Nat → ClassId} {lo : Nat}  {S : q_S} {a0 : Nat} {x1 : Int32} {x2 : Int32} {x3 : Int32} {x4 : Int32} {as0 : Nat} {xs1 : Int32} {Q : Option Value → q_S → Prop} {H : Heap} {locs : List Loc} {ls : Array Slot} (X : q_X p s m args meth c RX12 cX12_input 5 none D cy lo)  (Y : q_Y D cy lo s S H locs) (hl : lv_has ls 5 [(0, .ref a0), (1, .int x1), (2, .int x2), (3, .int x3), (4, .int x4)]) (h : wb_X12_input_99 S a0 x1 x2 x3 x4 as0 xs1 Q) : W p l e ({ frames := 0, cells := 0, slots := 0, locals := 0 } : Room) s m args below meth c H locs 0 0 (MQ below (q_Q D cy lo Q) args s 0 0 (fun q => lo ≤ q)) (F0 m 99 ls [.int xs1, .ref as0]) := by
  have hx := X.1
  have hb := X.2.1
  unfold wb_X12_input_99 at h
  obtain ⟨k1_, h⟩ := h
  refine q_putI X Y kX12 0 rfl fl_X12_278 k1_ .int rfl ⟨rfl, rfl⟩ rfl dX12_input_99 (fun H locs Y => ?_)
  refine lv_aload_n hx hb dX12_input_102 rfl (lv_at hl 0 rfl) ?_
  obtain ⟨k2_, h⟩ := h
  refine q_getI X Y kX12 0 rfl fl_X12_278 k2_ dX12_input_103 ?_
  refine lv_if_le (tgt := 110) hx hb dX12_input_106 (by decide) (fun c3_ => ?_) (fun c3_ => ?_)
  · replace h := h.1 c3_
    refine lv_aload_n hx hb dX12_input_110 rfl (lv_at hl 0 rfl) ?_
    refine q_getP X Y kX12 106 rfl fl_X12_266 k2_ rfl dX12_input_111 ?_
    refine lv_bipush (v := 60) hx hb dX12_input_114 (by decide) ?_
    refine lv_iload_n hx hb dX12_input_116 rfl (lv_at hl 1 rfl) ?_
    refine lv_imul hx hb dX12_input_117 ?_
    refine lv_iload hx hb dX12_input_118 (lv_at hl 4 rfl) ?_
    refine lv_iadd hx hb dX12_input_120 ?_
    refine lv_iload_n hx hb dX12_input_121 rfl (lv_at hl 2 rfl) ?_
    obtain ⟨a4_, e5_, h⟩ := h
    refine q_nn [.int x2, .int (((60 : Int32) * x1) + x4)] e5_ ?_
    obtain ⟨k6_, h⟩ := h
    obtain ⟨i7_, h⟩ := h
    refine q_ist X Y k6_ i7_ dX12_input_122 (fun H locs Y => ?_)
    refine lv_aload_n hx hb dX12_input_123 rfl (lv_at hl 0 rfl) ?_
    refine q_getP X Y kX12 107 rfl fl_X12_269 k2_ rfl dX12_input_124 ?_
    refine lv_bipush (v := 60) hx hb dX12_input_127 (by decide) ?_
    refine lv_iload_n hx hb dX12_input_129 rfl (lv_at hl 1 rfl) ?_
    refine lv_imul hx hb dX12_input_130 ?_
    refine lv_iload hx hb dX12_input_131 (lv_at hl 4 rfl) ?_
    refine lv_iadd hx hb dX12_input_133 ?_
    refine lv_iload_n hx hb dX12_input_134 rfl (lv_at hl 3 rfl) ?_
    obtain ⟨a8_, e9_, h⟩ := h
    refine q_nn [.int x3, .int (((60 : Int32) * x1) + x4)] e9_ ?_
    obtain ⟨k10_, h⟩ := h
    obtain ⟨i11_, h⟩ := h
    refine q_ist X Y k10_ i11_ dX12_input_135 (fun H locs Y => ?_)
    obtain ⟨S12_, gS12_⟩ : ∃ z : q_S, z = (qs_A (qs_A (qs_I S 2400 as0 xs1) a4_ (((60 : Int32) * x1) + x4).toNatClampNeg x2) a8_ (((60 : Int32) * x1) + x4).toNatClampNeg x3) := ⟨_, rfl⟩
    replace Y : q_Y D cy lo s S12_ H locs := by rw [gS12_]; exact Y
    replace h := h S12_ gS12_
    replace k1_ : q_K S12_ as0 = 13 := by rw [gS12_]; exact k1_
    replace k2_ : q_K S12_ a0 = 13 := by rw [gS12_]; exact k2_
    replace k6_ : q_K S12_ a4_ = 21 := by rw [gS12_]; exact k6_
    replace k10_ : q_K S12_ a8_ = 21 := by rw [gS12_]; exact k10_
    refine lv_aload_n hx hb dX12_input_136 rfl (lv_at hl 0 rfl) ?_
    refine q_getP X Y kX12 104 rfl fl_X12_260 k2_ rfl dX12_input_137 ?_
    refine lv_iload_n hx hb dX12_input_140 rfl (lv_at hl 1 rfl) ?_
    refine lv_dup2_11 hx hb dX12_input_141 rfl (q_cat _) ?_
    obtain ⟨a13_, e14_, h⟩ := h
    refine q_nn [.int x1] e14_ ?_
    obtain ⟨k15_, h⟩ := h
    obtain ⟨i16_, h⟩ := h
    refine q_ild X Y k15_ i16_ dX12_input_142 ?_
    refine lv_iconst (v := 1) hx hb dX12_input_143 (by decide) ?_
    refine lv_iadd hx hb dX12_input_144 ?_
    refine q_nn [.int ((q_A S12_ a13_ x1.toNatClampNeg) + (1 : Int32)), .int x1] e14_ ?_
    obtain ⟨i17_, h⟩ := h
    refine q_ist X Y k15_ i17_ dX12_input_145 (fun H locs Y => ?_)
    exact q_vret X Y (Nat.le_refl _) (Nat.le_refl _) h dX12_input_146
  · replace h := h.2 c3_
    exact q_vret X Y (Nat.le_refl _) (Nat.le_refl _) h dX12_input_109
def wb_X12_input_83  (S : q_S) (a0 : Nat) (x1 : Int32) (x2 : Int32) (x3 : Int32) (x4 : Int32) (as0 : Nat) (Q : Option Value → q_S → Prop) : Prop := wb_X12_input_99 S a0 x1 x2 x3 x4 as0 (2 : Int32) Q
set_option maxHeartbeats 4000000 in
set_option maxRecDepth 100000 in
theorem cb_X12_input_83 {p : Program} {l : Launch} {e : Env} {s : State} {m : MethodId} {args : Array Value} {below : List Frame} {meth : Method} {c : Code} {D : va_G} {cy : Nat → ClassId} {lo : Nat}  {S : q_S} {a0 : Nat} {x1 : Int32} {x2 : Int32} {x3 : Int32} {x4 : Int32} {as0 : Nat} {Q : Option Value → q_S → Prop} {H : Heap} {locs : List Loc} {ls : Array Slot} (X : q_X p s m args meth c RX12 cX12_input 5 none D cy lo)  (Y : q_Y D cy lo s S H locs) (hl : lv_has ls 5 [(0, .ref a0), (1, .int x1), (2, .int x2), (3, .int x3), (4, .int x4)]) (h : wb_X12_input_83 S a0 x1 x2 x3 x4 as0 Q) : W p l e ({ frames := 0, cells := 0, slots := 0, locals := 0 } : Room) s m args below meth c H locs 0 0 (MQ below (q_Q D cy lo Q) args s 0 0 (fun q => lo ≤ q)) (F0 m 83 ls [.ref as0]) := by
  have hx := X.1
  have hb := X.2.1
  unfold wb_X12_input_83 at h
  refine lv_iconst (v := 2) hx hb dX12_input_83 (by decide) ?_
  refine lv_goto (tgt := 99) hx hb dX12_input_84 (by decide) ?_
  exact cb_X12_input_99 X Y (lv_sub hl [0, 1, 2, 3, 4] rfl) h
def wb_X12_input_87  (S : q_S) (a0 : Nat) (x1 : Int32) (x2 : Int32) (x3 : Int32) (x4 : Int32) (as0 : Nat) (Q : Option Value → q_S → Prop) : Prop := ((¬ x4 = (60 : Int32) → (wb_X12_input_99 S a0 x1 x2 x3 x4 as0 (0 : Int32) Q)) ∧ (x4 = (60 : Int32) → (wb_X12_input_99 S a0 x1 x2 x3 x4 as0 (3 : Int32) Q)))
set_option maxHeartbeats 4000000 in
set_option maxRecDepth 100000 in
theorem cb_X12_input_87 {p : Program} {l : Launch} {e : Env} {s : State} {m : MethodId} {args : Array Value} {below : List Frame} {meth : Method} {c : Code} {D : va_G} {cy : Nat → ClassId} {lo : Nat}  {S : q_S} {a0 : Nat} {x1 : Int32} {x2 : Int32} {x3 : Int32} {x4 : Int32} {as0 : Nat} {Q : Option Value → q_S → Prop} {H : Heap} {locs : List Loc} {ls : Array Slot} (X : q_X p s m args meth c RX12 cX12_input 5 none D cy lo)  (Y : q_Y D cy lo s S H locs) (hl : lv_has ls 5 [(0, .ref a0), (1, .int x1), (2, .int x2), (3, .int x3), (4, .int x4)]) (h : wb_X12_input_87 S a0 x1 x2 x3 x4 as0 Q) : W p l e ({ frames := 0, cells := 0, slots := 0, locals := 0 } : Room) s m args below meth c H locs 0 0 (MQ below (q_Q D cy lo Q) args s 0 0 (fun q => lo ≤ q)) (F0 m 87 ls [.ref as0]) := by
  have hx := X.1
  have hb := X.2.1
  unfold wb_X12_input_87 at h
  refine lv_iload hx hb dX12_input_87 (lv_at hl 4 rfl) ?_
  refine lv_bipush (v := 60) hx hb dX12_input_89 (by decide) ?_
  refine lv_icmp_ne (tgt := 98) hx hb dX12_input_91 (by decide) (fun c18_ => ?_) (fun c18_ => ?_)
  · replace h := h.1 c18_
    refine lv_iconst (v := 0) hx hb dX12_input_98 (by decide) ?_
    exact cb_X12_input_99 X Y (lv_sub hl [0, 1, 2, 3, 4] rfl) h
  · replace h := h.2 c18_
    refine lv_iconst (v := 3) hx hb dX12_input_94 (by decide) ?_
    refine lv_goto (tgt := 99) hx hb dX12_input_95 (by decide) ?_
    exact cb_X12_input_99 X Y (lv_sub hl [0, 1, 2, 3, 4] rfl) h
def wb_X12_input_36  (S : q_S) (a0 : Nat) (x1 : Int32) (x2 : Int32) (x3 : Int32) (as0 : Nat) (xs1 : Int32) (Q : Option Value → q_S → Prop) : Prop := q_K S as0 = 13 ∧ (q_K (qs_I S 2400 as0 xs1) a0 = 13 ∧ ((((q_I (qs_I S 2400 as0 xs1) 2400 a0) ≤ 0 → (∃ a22_ : Nat, (q_P (qs_I S 2400 as0 xs1) 2504 a0) = some a22_ ∧ (q_K (qs_I S 2400 as0 xs1) a22_ = 21 ∧ (vp_in x1 (q_N (qs_I S 2400 as0 xs1) a22_) ∧ (((x2 < 0 → (wb_X12_input_83 (qs_I S 2400 as0 xs1) a0 x1 x2 x3 (q_A (qs_I S 2400 as0 xs1) a22_ x1.toNatClampNeg) a0 Q)) ∧ (¬ x2 < 0 → ((((q_A (qs_I S 2400 as0 xs1) a22_ x1.toNatClampNeg) ≤ 0 → (wb_X12_input_87 (qs_I S 2400 as0 xs1) a0 x1 x2 x3 (q_A (qs_I S 2400 as0 xs1) a22_ x1.toNatClampNeg) a0 Q)) ∧ (¬ (q_A (qs_I S 2400 as0 xs1) a22_ x1.toNatClampNeg) ≤ 0 → (∃ a28_ : Nat, (q_P (qs_I S 2400 as0 xs1) 2506 a0) = some a28_ ∧ (q_K (qs_I S 2400 as0 xs1) a28_ = 21 ∧ (vp_in ((((60 : Int32) * x1) + (q_A (qs_I S 2400 as0 xs1) a22_ x1.toNatClampNeg)) - (1 : Int32)) (q_N (qs_I S 2400 as0 xs1) a28_) ∧ ((((q_A (qs_I S 2400 as0 xs1) a28_ ((((60 : Int32) * x1) + (q_A (qs_I S 2400 as0 xs1) a22_ x1.toNatClampNeg)) - (1 : Int32)).toNatClampNeg) < x2 → (wb_X12_input_87 (qs_I S 2400 as0 xs1) a0 x1 x2 x3 (q_A (qs_I S 2400 as0 xs1) a22_ x1.toNatClampNeg) a0 Q)) ∧ (¬ (q_A (qs_I S 2400 as0 xs1) a28_ ((((60 : Int32) * x1) + (q_A (qs_I S 2400 as0 xs1) a22_ x1.toNatClampNeg)) - (1 : Int32)).toNatClampNeg) < x2 → (wb_X12_input_83 (qs_I S 2400 as0 xs1) a0 x1 x2 x3 (q_A (qs_I S 2400 as0 xs1) a22_ x1.toNatClampNeg) a0 Q))))))))))))))))) ∧ (¬ (q_I (qs_I S 2400 as0 xs1) 2400 a0) ≤ 0 → (Q none (qs_I S 2400 as0 xs1))))))
set_option maxHeartbeats 4000000 in
set_option maxRecDepth 100000 in
theorem cb_X12_input_36 {p : Program} {l : Launch} {e : Env} {s : State} {m : MethodId} {args : Array Value} {below : List Frame} {meth : Method} {c : Code} {D : va_G} {cy : Nat → ClassId} {lo : Nat}  {S : q_S} {a0 : Nat} {x1 : Int32} {x2 : Int32} {x3 : Int32} {as0 : Nat} {xs1 : Int32} {Q : Option Value → q_S → Prop} {H : Heap} {locs : List Loc} {ls : Array Slot} (X : q_X p s m args meth c RX12 cX12_input 5 none D cy lo)  (Y : q_Y D cy lo s S H locs) (hl : lv_has ls 5 [(0, .ref a0), (1, .int x1), (2, .int x2), (3, .int x3)]) (h : wb_X12_input_36 S a0 x1 x2 x3 as0 xs1 Q) : W p l e ({ frames := 0, cells := 0, slots := 0, locals := 0 } : Room) s m args below meth c H locs 0 0 (MQ below (q_Q D cy lo Q) args s 0 0 (fun q => lo ≤ q)) (F0 m 36 ls [.int xs1, .ref as0]) := by
  have hx := X.1
  have hb := X.2.1
  unfold wb_X12_input_36 at h
  obtain ⟨k19_, h⟩ := h
  refine q_putI X Y kX12 0 rfl fl_X12_278 k19_ .int rfl ⟨rfl, rfl⟩ rfl dX12_input_36 (fun H locs Y => ?_)
  refine lv_aload_n hx hb dX12_input_39 rfl (lv_at hl 0 rfl) ?_
  obtain ⟨k20_, h⟩ := h
  refine q_getI X Y kX12 0 rfl fl_X12_278 k20_ dX12_input_40 ?_
  refine lv_if_le (tgt := 47) hx hb dX12_input_43 (by decide) (fun c21_ => ?_) (fun c21_ => ?_)
  · replace h := h.1 c21_
    refine lv_aload_n hx hb dX12_input_47 rfl (lv_at hl 0 rfl) ?_
    refine q_getP X Y kX12 104 rfl fl_X12_260 k20_ rfl dX12_input_48 ?_
    refine lv_iload_n hx hb dX12_input_51 rfl (lv_at hl 1 rfl) ?_
    obtain ⟨a22_, e23_, h⟩ := h
    refine q_nn [.int x1] e23_ ?_
    obtain ⟨k24_, h⟩ := h
    obtain ⟨i25_, h⟩ := h
    refine q_ild X Y k24_ i25_ dX12_input_52 ?_
    refine lv_istore (i := 4) (lv' := [(4, .int (q_A (qs_I S 2400 as0 xs1) a22_ x1.toNatClampNeg)), (0, .ref a0), (1, .int x1), (2, .int x2), (3, .int x3)]) hx hb dX12_input_53 hl (by decide) (by first | rfl | simp [q_cat, q_catI, q_catJ, q_catR]) (fun ls hl => ?_)
    refine lv_aload_n hx hb dX12_input_55 rfl (lv_at hl 1 rfl) ?_
    refine lv_iload_n hx hb dX12_input_56 rfl (lv_at hl 3 rfl) ?_
    refine lv_if_lt (tgt := 83) hx hb dX12_input_57 (by decide) (fun c26_ => ?_) (fun c26_ => ?_)
    · replace h := h.1 c26_
      exact cb_X12_input_83 X Y (lv_sub hl [1, 2, 3, 4, 0] rfl) h
    · replace h := h.2 c26_
      refine lv_iload hx hb dX12_input_60 (lv_at hl 0 rfl) ?_
      refine lv_if_le (tgt := 87) hx hb dX12_input_62 (by decide) (fun c27_ => ?_) (fun c27_ => ?_)
      · replace h := h.1 c27_
        exact cb_X12_input_87 X Y (lv_sub hl [1, 2, 3, 4, 0] rfl) h
      · replace h := h.2 c27_
        refine lv_iload_n hx hb dX12_input_65 rfl (lv_at hl 3 rfl) ?_
        refine lv_aload_n hx hb dX12_input_66 rfl (lv_at hl 1 rfl) ?_
        refine q_getP X Y kX12 106 rfl fl_X12_266 k20_ rfl dX12_input_67 ?_
        refine lv_bipush (v := 60) hx hb dX12_input_70 (by decide) ?_
        refine lv_iload_n hx hb dX12_input_72 rfl (lv_at hl 2 rfl) ?_
        refine lv_imul hx hb dX12_input_73 ?_
        refine lv_iload hx hb dX12_input_74 (lv_at hl 0 rfl) ?_
        refine lv_iadd hx hb dX12_input_76 ?_
        refine lv_iconst (v := 1) hx hb dX12_input_77 (by decide) ?_
        refine lv_isub hx hb dX12_input_78 ?_
        obtain ⟨a28_, e29_, h⟩ := h
        refine q_nn [.int ((((60 : Int32) * x1) + (q_A (qs_I S 2400 as0 xs1) a22_ x1.toNatClampNeg)) - (1 : Int32))] e29_ ?_
        obtain ⟨k30_, h⟩ := h
        obtain ⟨i31_, h⟩ := h
        refine q_ild X Y k30_ i31_ dX12_input_79 ?_
        refine lv_icmp_gt (tgt := 87) hx hb dX12_input_80 (by decide) (fun c32_ => ?_) (fun c32_ => ?_)
        · replace h := h.1 c32_
          exact cb_X12_input_87 X Y (lv_sub hl [1, 2, 3, 4, 0] rfl) h
        · replace h := h.2 c32_
          exact cb_X12_input_83 X Y (lv_sub hl [1, 2, 3, 4, 0] rfl) h
  · replace h := h.2 c21_
    exact q_vret X Y (Nat.le_refl _) (Nat.le_refl _) h dX12_input_46
def wb_X12_input_15  (S : q_S) (a0 : Nat) (x1 : Int32) (x2 : Int32) (x3 : Int32) (as0 : Nat) (Q : Option Value → q_S → Prop) : Prop := wb_X12_input_36 S a0 x1 x2 x3 as0 (3 : Int32) Q
set_option maxHeartbeats 4000000 in
set_option maxRecDepth 100000 in
theorem cb_X12_input_15 {p : Program} {l : Launch} {e : Env} {s : State} {m : MethodId} {args : Array Value} {below : List Frame} {meth : Method} {c : Code} {D : va_G} {cy : Nat → ClassId} {lo : Nat}  {S : q_S} {a0 : Nat} {x1 : Int32} {x2 : Int32} {x3 : Int32} {as0 : Nat} {Q : Option Value → q_S → Prop} {H : Heap} {locs : List Loc} {ls : Array Slot} (X : q_X p s m args meth c RX12 cX12_input 5 none D cy lo)  (Y : q_Y D cy lo s S H locs) (hl : lv_has ls 5 [(0, .ref a0), (1, .int x1), (2, .int x2), (3, .int x3)]) (h : wb_X12_input_15 S a0 x1 x2 x3 as0 Q) : W p l e ({ frames := 0, cells := 0, slots := 0, locals := 0 } : Room) s m args below meth c H locs 0 0 (MQ below (q_Q D cy lo Q) args s 0 0 (fun q => lo ≤ q)) (F0 m 15 ls [.ref as0]) := by
  have hx := X.1
  have hb := X.2.1
  unfold wb_X12_input_15 at h
  refine lv_iconst (v := 3) hx hb dX12_input_15 (by decide) ?_
  refine lv_goto (tgt := 36) hx hb dX12_input_16 (by decide) ?_
  exact cb_X12_input_36 X Y (lv_sub hl [0, 1, 2, 3] rfl) h
def wb_X12_input_31  (S : q_S) (a0 : Nat) (x1 : Int32) (x2 : Int32) (x3 : Int32) (as0 : Nat) (Q : Option Value → q_S → Prop) : Prop := wb_X12_input_36 S a0 x1 x2 x3 as0 (1 : Int32) Q
set_option maxHeartbeats 4000000 in
set_option maxRecDepth 100000 in
theorem cb_X12_input_31 {p : Program} {l : Launch} {e : Env} {s : State} {m : MethodId} {args : Array Value} {below : List Frame} {meth : Method} {c : Code} {D : va_G} {cy : Nat → ClassId} {lo : Nat}  {S : q_S} {a0 : Nat} {x1 : Int32} {x2 : Int32} {x3 : Int32} {as0 : Nat} {Q : Option Value → q_S → Prop} {H : Heap} {locs : List Loc} {ls : Array Slot} (X : q_X p s m args meth c RX12 cX12_input 5 none D cy lo)  (Y : q_Y D cy lo s S H locs) (hl : lv_has ls 5 [(0, .ref a0), (1, .int x1), (2, .int x2), (3, .int x3)]) (h : wb_X12_input_31 S a0 x1 x2 x3 as0 Q) : W p l e ({ frames := 0, cells := 0, slots := 0, locals := 0 } : Room) s m args below meth c H locs 0 0 (MQ below (q_Q D cy lo Q) args s 0 0 (fun q => lo ≤ q)) (F0 m 31 ls [.ref as0]) := by
  have hx := X.1
  have hb := X.2.1
  unfold wb_X12_input_31 at h
  refine lv_iconst (v := 1) hx hb dX12_input_31 (by decide) ?_
  refine lv_goto (tgt := 36) hx hb dX12_input_32 (by decide) ?_
  exact cb_X12_input_36 X Y (lv_sub hl [0, 1, 2, 3] rfl) h
def wm_X12_input (S : q_S) (a0 : Nat) (x1 : Int32) (x2 : Int32) (x3 : Int32) (Q : Option Value → q_S → Prop) : Prop := q_K S a0 = 13 ∧ ((((q_I S 2413 a0) = 0 → (wb_X12_input_15 S a0 x1 x2 x3 a0 Q)) ∧ (¬ (q_I S 2413 a0) = 0 → ((((q_I S 2414 a0) = 0 → (((x1 < 0 → (wb_X12_input_31 S a0 x1 x2 x3 a0 Q)) ∧ (¬ x1 < 0 → (((x1 < (q_I S 2418 a0) → (wb_X12_input_36 S a0 x1 x2 x3 a0 (0 : Int32) Q)) ∧ (¬ x1 < (q_I S 2418 a0) → (wb_X12_input_31 S a0 x1 x2 x3 a0 Q)))))))) ∧ (¬ (q_I S 2414 a0) = 0 → (wb_X12_input_15 S a0 x1 x2 x3 a0 Q)))))))
set_option maxHeartbeats 4000000 in
set_option maxRecDepth 100000 in
theorem cm_X12_input {l : Launch} {D : va_G} {cy : Nat → ClassId} {lo : Nat} {S : q_S} {a0 : Nat} {x1 : Int32} {x2 : Int32} {x3 : Int32} {Q : Option Value → q_S → Prop} (h : wm_X12_input S a0 x1 x2 x3 Q) : q_Met l D cy lo yX12_input cX12_input 5 none 0 0 0 0 [.ref a0, .int x1, .int x2, .int x3] S Q := by
  refine q_body (by decide) (by first | exact Nat.le_of_ble_eq_true rfl | simp [lg_sl, q_cat, q_catI, q_catJ, q_catR]) ?_
  intro p e s m below meth c ls X hnm Y hl
  have hx := X.1
  have hb := X.2.1
  have hl : lv_has ls 5 [(0, .ref a0), (1, .int x1), (2, .int x2), (3, .int x3)] := by first | exact hl | simpa [lv_args, q_cat, q_catI, q_catJ, q_catR] using hl
  generalize hargs : ([.ref a0, .int x1, .int x2, .int x3] : List Value).toArray = args at X ⊢
  unfold wm_X12_input at h
  refine lv_aload_n hx hb dX12_input_0 rfl (lv_at hl 0 rfl) ?_
  refine lv_aload_n hx hb dX12_input_1 rfl (lv_at hl 0 rfl) ?_
  obtain ⟨k33_, h⟩ := h
  refine q_getI X Y kX12 13 rfl fl_X12_443 k33_ dX12_input_2 ?_
  refine lv_if_eq (tgt := 15) hx hb dX12_input_5 (by decide) (fun c34_ => ?_) (fun c34_ => ?_)
  · replace h := h.1 c34_
    exact cb_X12_input_15 X Y (lv_sub hl [0, 1, 2, 3] rfl) h
  · replace h := h.2 c34_
    refine lv_aload_n hx hb dX12_input_8 rfl (lv_at hl 0 rfl) ?_
    refine q_getI X Y kX12 14 rfl fl_X12_450 k33_ dX12_input_9 ?_
    refine lv_if_eq (tgt := 19) hx hb dX12_input_12 (by decide) (fun c35_ => ?_) (fun c35_ => ?_)
    · replace h := h.1 c35_
      refine lv_iload_n hx hb dX12_input_19 rfl (lv_at hl 1 rfl) ?_
      refine lv_if_lt (tgt := 31) hx hb dX12_input_20 (by decide) (fun c36_ => ?_) (fun c36_ => ?_)
      · replace h := h.1 c36_
        exact cb_X12_input_31 X Y (lv_sub hl [0, 1, 2, 3] rfl) h
      · replace h := h.2 c36_
        refine lv_iload_n hx hb dX12_input_23 rfl (lv_at hl 1 rfl) ?_
        refine lv_aload_n hx hb dX12_input_24 rfl (lv_at hl 0 rfl) ?_
        refine q_getI X Y kX12 18 rfl fl_X12_416 k33_ dX12_input_25 ?_
        refine lv_icmp_lt (tgt := 35) hx hb dX12_input_28 (by decide) (fun c37_ => ?_) (fun c37_ => ?_)
        · replace h := h.1 c37_
          refine lv_iconst (v := 0) hx hb dX12_input_35 (by decide) ?_
          exact cb_X12_input_36 X Y (lv_sub hl [0, 1, 2, 3] rfl) h
        · replace h := h.2 c37_
          exact cb_X12_input_31 X Y (lv_sub hl [0, 1, 2, 3] rfl) h
    · replace h := h.2 c35_
      exact cb_X12_input_15 X Y (lv_sub hl [0, 1, 2, 3] rfl) h
-- X12_lastOf
theorem dX12_lastOf_0 : decode cX12_lastOf 0 = .ok (.bipush 16, 2) := by decide +kernel
theorem dX12_lastOf_2 : decode cX12_lastOf 2 = .ok (.iload_n 1, 1) := by decide +kernel
theorem dX12_lastOf_3 : decode cX12_lastOf 3 = .ok (.imul, 1) := by decide +kernel
theorem dX12_lastOf_4 : decode cX12_lastOf 4 = .ok (.aload_n 0, 1) := by decide +kernel
theorem dX12_lastOf_5 : decode cX12_lastOf 5 = .ok (.getfield 60, 3) := by decide +kernel
theorem dX12_lastOf_8 : decode cX12_lastOf 8 = .ok (.bipush 6, 2) := by decide +kernel
theorem dX12_lastOf_10 : decode cX12_lastOf 10 = .ok (.iload_n 1, 1) := by decide +kernel
theorem dX12_lastOf_11 : decode cX12_lastOf 11 = .ok (.imul, 1) := by decide +kernel
theorem dX12_lastOf_12 : decode cX12_lastOf 12 = .ok (.iconst 5, 1) := by decide +kernel
theorem dX12_lastOf_13 : decode cX12_lastOf 13 = .ok (.iadd, 1) := by decide +kernel
theorem dX12_lastOf_14 : decode cX12_lastOf 14 = .ok (.iaload, 1) := by decide +kernel
theorem dX12_lastOf_15 : decode cX12_lastOf 15 = .ok (.iadd, 1) := by decide +kernel
theorem dX12_lastOf_16 : decode cX12_lastOf 16 = .ok (.ireturn, 1) := by decide +kernel
def wm_X12_lastOf (S : q_S) (a0 : Nat) (x1 : Int32) (Q : Option Value → q_S → Prop) : Prop := q_K S a0 = 13 ∧ (∃ a2_ : Nat, (q_P S 2435 a0) = some a2_ ∧ (q_K S a2_ = 21 ∧ (vp_in (((6 : Int32) * x1) + (5 : Int32)) (q_N S a2_) ∧ (Q (some (.int (((16 : Int32) * x1) + (q_A S a2_ (((6 : Int32) * x1) + (5 : Int32)).toNatClampNeg)))) S))))
set_option maxHeartbeats 4000000 in
set_option maxRecDepth 100000 in
theorem cm_X12_lastOf {l : Launch} {D : va_G} {cy : Nat → ClassId} {lo : Nat} {S : q_S} {a0 : Nat} {x1 : Int32} {Q : Option Value → q_S → Prop} (h : wm_X12_lastOf S a0 x1 Q) : q_Met l D cy lo yX12_lastOf cX12_lastOf 2 (some .int) 0 0 0 0 [.ref a0, .int x1] S Q := by
  refine q_body (by decide) (by first | exact Nat.le_of_ble_eq_true rfl | simp [lg_sl, q_cat, q_catI, q_catJ, q_catR]) ?_
  intro p e s m below meth c ls X hnm Y hl
  have hx := X.1
  have hb := X.2.1
  have hl : lv_has ls 2 [(0, .ref a0), (1, .int x1)] := by first | exact hl | simpa [lv_args, q_cat, q_catI, q_catJ, q_catR] using hl
  generalize hargs : ([.ref a0, .int x1] : List Value).toArray = args at X ⊢
  unfold wm_X12_lastOf at h
  refine lv_bipush (v := 16) hx hb dX12_lastOf_0 (by decide) ?_
  refine lv_iload_n hx hb dX12_lastOf_2 rfl (lv_at hl 1 rfl) ?_
  refine lv_imul hx hb dX12_lastOf_3 ?_
  refine lv_aload_n hx hb dX12_lastOf_4 rfl (lv_at hl 0 rfl) ?_
  obtain ⟨k1_, h⟩ := h
  refine q_getP X Y kX12 35 rfl fl_X12_60 k1_ rfl dX12_lastOf_5 ?_
  refine lv_bipush (v := 6) hx hb dX12_lastOf_8 (by decide) ?_
  refine lv_iload_n hx hb dX12_lastOf_10 rfl (lv_at hl 1 rfl) ?_
  refine lv_imul hx hb dX12_lastOf_11 ?_
  refine lv_iconst (v := 5) hx hb dX12_lastOf_12 (by decide) ?_
  refine lv_iadd hx hb dX12_lastOf_13 ?_
  obtain ⟨a2_, e3_, h⟩ := h
  refine q_nn [.int (((6 : Int32) * x1) + (5 : Int32))] e3_ ?_
  obtain ⟨k4_, h⟩ := h
  obtain ⟨i5_, h⟩ := h
  refine q_ild X Y k4_ i5_ dX12_lastOf_14 ?_
  refine lv_iadd hx hb dX12_lastOf_15 ?_
  exact q_iret X Y rfl (Nat.le_refl _) (Nat.le_refl _) h dX12_lastOf_16
-- X12_partitionOf
theorem dX12_partitionOf_0 : decode cX12_partitionOf 0 = .ok (.iload_n 1, 1) := by decide +kernel
theorem dX12_partitionOf_1 : decode cX12_partitionOf 1 = .ok (.bipush 16, 2) := by decide +kernel
theorem dX12_partitionOf_3 : decode cX12_partitionOf 3 = .ok (.idiv, 1) := by decide +kernel
theorem dX12_partitionOf_4 : decode cX12_partitionOf 4 = .ok (.ireturn, 1) := by decide +kernel
def wm_X12_partitionOf (S : q_S) (a0 : Nat) (x1 : Int32) (Q : Option Value → q_S → Prop) : Prop := Q (some (.int (x1 / (16 : Int32)))) S
set_option maxHeartbeats 4000000 in
set_option maxRecDepth 100000 in
theorem cm_X12_partitionOf {l : Launch} {D : va_G} {cy : Nat → ClassId} {lo : Nat} {S : q_S} {a0 : Nat} {x1 : Int32} {Q : Option Value → q_S → Prop} (h : wm_X12_partitionOf S a0 x1 Q) : q_Met l D cy lo yX12_partitionOf cX12_partitionOf 2 (some .int) 0 0 0 0 [.ref a0, .int x1] S Q := by
  refine q_body (by decide) (by first | exact Nat.le_of_ble_eq_true rfl | simp [lg_sl, q_cat, q_catI, q_catJ, q_catR]) ?_
  intro p e s m below meth c ls X hnm Y hl
  have hx := X.1
  have hb := X.2.1
  have hl : lv_has ls 2 [(0, .ref a0), (1, .int x1)] := by first | exact hl | simpa [lv_args, q_cat, q_catI, q_catJ, q_catR] using hl
  generalize hargs : ([.ref a0, .int x1] : List Value).toArray = args at X ⊢
  unfold wm_X12_partitionOf at h
  refine lv_iload_n hx hb dX12_partitionOf_0 rfl (lv_at hl 1 rfl) ?_
  refine lv_bipush (v := 16) hx hb dX12_partitionOf_1 (by decide) ?_
  refine lv_idiv hx hb dX12_partitionOf_3 (by decide) ?_
  exact q_iret X Y rfl (Nat.le_refl _) (Nat.le_refl _) h dX12_partitionOf_4
-- X12_unlock
theorem dX12_unlock_0 : decode cX12_unlock 0 = .ok (.aload_n 0, 1) := by decide +kernel
theorem dX12_unlock_1 : decode cX12_unlock 1 = .ok (.getfield 206, 3) := by decide +kernel
theorem dX12_unlock_4 : decode cX12_unlock 4 = .ok (.iload_n 1, 1) := by decide +kernel
theorem dX12_unlock_5 : decode cX12_unlock 5 = .ok (.iaload, 1) := by decide +kernel
theorem dX12_unlock_6 : decode cX12_unlock 6 = .ok (.ifCond .le 25, 3) := by decide +kernel
theorem dX12_unlock_9 : decode cX12_unlock 9 = .ok (.aload_n 0, 1) := by decide +kernel
theorem dX12_unlock_10 : decode cX12_unlock 10 = .ok (.getfield 149, 3) := by decide +kernel
theorem dX12_unlock_13 : decode cX12_unlock 13 = .ok (.aload_n 0, 1) := by decide +kernel
theorem dX12_unlock_14 : decode cX12_unlock 14 = .ok (.getfield 209, 3) := by decide +kernel
theorem dX12_unlock_17 : decode cX12_unlock 17 = .ok (.iload_n 1, 1) := by decide +kernel
theorem dX12_unlock_18 : decode cX12_unlock 18 = .ok (.iaload, 1) := by decide +kernel
theorem dX12_unlock_19 : decode cX12_unlock 19 = .ok (.iaload, 1) := by decide +kernel
theorem dX12_unlock_20 : decode cX12_unlock 20 = .ok (.iconst 1, 1) := by decide +kernel
theorem dX12_unlock_21 : decode cX12_unlock 21 = .ok (.if_icmp .eq 10, 3) := by decide +kernel
theorem dX12_unlock_24 : decode cX12_unlock 24 = .ok (.aload_n 0, 1) := by decide +kernel
theorem dX12_unlock_25 : decode cX12_unlock 25 = .ok (.getfield 206, 3) := by decide +kernel
theorem dX12_unlock_28 : decode cX12_unlock 28 = .ok (.iload_n 1, 1) := by decide +kernel
theorem dX12_unlock_29 : decode cX12_unlock 29 = .ok (.iconst 0, 1) := by decide +kernel
theorem dX12_unlock_30 : decode cX12_unlock 30 = .ok (.iastore, 1) := by decide +kernel
theorem dX12_unlock_31 : decode cX12_unlock 31 = .ok (.return_, 1) := by decide +kernel
def wb_X12_unlock_31  (S : q_S) (Q : Option Value → q_S → Prop) : Prop := Q none S
set_option maxHeartbeats 4000000 in
set_option maxRecDepth 100000 in
theorem cb_X12_unlock_31 {p : Program} {l : Launch} {e : Env} {s : State} {m : MethodId} {args : Array Value} {below : List Frame} {meth : Method} {c : Code} {D : va_G} {cy : Nat → ClassId} {lo : Nat}  {S : q_S} {Q : Option Value → q_S → Prop} {H : Heap} {locs : List Loc} {ls : Array Slot} (X : q_X p s m args meth c RX12 cX12_unlock 2 none D cy lo)  (Y : q_Y D cy lo s S H locs) (hl : lv_has ls 2 []) (h : wb_X12_unlock_31 S Q) : W p l e ({ frames := 0, cells := 0, slots := 0, locals := 0 } : Room) s m args below meth c H locs 0 0 (MQ below (q_Q D cy lo Q) args s 0 0 (fun q => lo ≤ q)) (F0 m 31 ls []) := by
  have hx := X.1
  have hb := X.2.1
  unfold wb_X12_unlock_31 at h
  exact q_vret X Y (Nat.le_refl _) (Nat.le_refl _) h dX12_unlock_31
def wm_X12_unlock (S : q_S) (a0 : Nat) (x1 : Int32) (Q : Option Value → q_S → Prop) : Prop := q_K S a0 = 13 ∧ (∃ a2_ : Nat, (q_P S 2486 a0) = some a2_ ∧ (q_K S a2_ = 21 ∧ (vp_in x1 (q_N S a2_) ∧ ((((q_A S a2_ x1.toNatClampNeg) ≤ 0 → (wb_X12_unlock_31 S Q)) ∧ (¬ (q_A S a2_ x1.toNatClampNeg) ≤ 0 → (∃ a7_ : Nat, (q_P S 2487 a0) = some a7_ ∧ (q_K S a7_ = 21 ∧ (vp_in x1 (q_N S a7_) ∧ (∃ a11_ : Nat, (q_P S 2467 a0) = some a11_ ∧ (q_K S a11_ = 21 ∧ (vp_in (q_A S a7_ x1.toNatClampNeg) (q_N S a11_) ∧ ((((q_A S a11_ (q_A S a7_ x1.toNatClampNeg).toNatClampNeg) = (1 : Int32) → (wb_X12_unlock_31 S Q)) ∧ (¬ (q_A S a11_ (q_A S a7_ x1.toNatClampNeg).toNatClampNeg) = (1 : Int32) → (vp_in x1 (q_N S a2_) ∧ (wb_X12_unlock_31 (qs_A S a2_ x1.toNatClampNeg (0 : Int32)) Q)))))))))))))))))
set_option maxHeartbeats 4000000 in
set_option maxRecDepth 100000 in
theorem cm_X12_unlock {l : Launch} {D : va_G} {cy : Nat → ClassId} {lo : Nat} {S : q_S} {a0 : Nat} {x1 : Int32} {Q : Option Value → q_S → Prop} (h : wm_X12_unlock S a0 x1 Q) : q_Met l D cy lo yX12_unlock cX12_unlock 2 none 0 0 0 0 [.ref a0, .int x1] S Q := by
  refine q_body (by decide) (by first | exact Nat.le_of_ble_eq_true rfl | simp [lg_sl, q_cat, q_catI, q_catJ, q_catR]) ?_
  intro p e s m below meth c ls X hnm Y hl
  have hx := X.1
  have hb := X.2.1
  have hl : lv_has ls 2 [(0, .ref a0), (1, .int x1)] := by first | exact hl | simpa [lv_args, q_cat, q_catI, q_catJ, q_catR] using hl
  generalize hargs : ([.ref a0, .int x1] : List Value).toArray = args at X ⊢
  unfold wm_X12_unlock at h
  refine lv_aload_n hx hb dX12_unlock_0 rfl (lv_at hl 0 rfl) ?_
  obtain ⟨k1_, h⟩ := h
  refine q_getP X Y kX12 86 rfl fl_X12_206 k1_ rfl dX12_unlock_1 ?_
  refine lv_iload_n hx hb dX12_unlock_4 rfl (lv_at hl 1 rfl) ?_
  obtain ⟨a2_, e3_, h⟩ := h
  refine q_nn [.int x1] e3_ ?_
  obtain ⟨k4_, h⟩ := h
  obtain ⟨i5_, h⟩ := h
  refine q_ild X Y k4_ i5_ dX12_unlock_5 ?_
  refine lv_if_le (tgt := 31) hx hb dX12_unlock_6 (by decide) (fun c6_ => ?_) (fun c6_ => ?_)
  · replace h := h.1 c6_
    exact cb_X12_unlock_31 X Y (lv_sub hl [] rfl) h
  · replace h := h.2 c6_
    refine lv_aload_n hx hb dX12_unlock_9 rfl (lv_at hl 0 rfl) ?_
    refine q_getP X Y kX12 67 rfl fl_X12_149 k1_ rfl dX12_unlock_10 ?_
    refine lv_aload_n hx hb dX12_unlock_13 rfl (lv_at hl 0 rfl) ?_
    refine q_getP X Y kX12 87 rfl fl_X12_209 k1_ rfl dX12_unlock_14 ?_
    refine lv_iload_n hx hb dX12_unlock_17 rfl (lv_at hl 1 rfl) ?_
    obtain ⟨a7_, e8_, h⟩ := h
    refine q_nn [.int x1] e8_ ?_
    obtain ⟨k9_, h⟩ := h
    obtain ⟨i10_, h⟩ := h
    refine q_ild X Y k9_ i10_ dX12_unlock_18 ?_
    obtain ⟨a11_, e12_, h⟩ := h
    refine q_nn [.int (q_A S a7_ x1.toNatClampNeg)] e12_ ?_
    obtain ⟨k13_, h⟩ := h
    obtain ⟨i14_, h⟩ := h
    refine q_ild X Y k13_ i14_ dX12_unlock_19 ?_
    refine lv_iconst (v := 1) hx hb dX12_unlock_20 (by decide) ?_
    refine lv_icmp_eq (tgt := 31) hx hb dX12_unlock_21 (by decide) (fun c15_ => ?_) (fun c15_ => ?_)
    · replace h := h.1 c15_
      exact cb_X12_unlock_31 X Y (lv_sub hl [] rfl) h
    · replace h := h.2 c15_
      refine lv_aload_n hx hb dX12_unlock_24 rfl (lv_at hl 0 rfl) ?_
      refine q_getR X Y kX12 86 rfl fl_X12_206 k1_ e3_ dX12_unlock_25 ?_
      refine lv_iload_n hx hb dX12_unlock_28 rfl (lv_at hl 1 rfl) ?_
      refine lv_iconst (v := 0) hx hb dX12_unlock_29 (by decide) ?_
      obtain ⟨i16_, h⟩ := h
      refine q_ist X Y k4_ i16_ dX12_unlock_30 (fun H locs Y => ?_)
      exact cb_X12_unlock_31 X Y (lv_sub hl [] rfl) h
-- X12_sleeps
theorem ml_X12_481 : Cond.methodLink RX12 481 yX12_partitionOf ∈ q_G := q_tb (i := 2256) (by decide +kernel) (by decide +kernel)
theorem mt_X12_partitionOf : q_Mt yX12_partitionOf cX12_partitionOf 2 (some .int) 1 := ⟨q_tb (i := 2259) (by decide +kernel) (by decide +kernel), q_tb (i := 11) (by decide +kernel) (by decide +kernel), by decide +kernel, by decide +kernel, by decide +kernel⟩
theorem mi_X12_partitionOf : Cond.instanceMethod yX12_partitionOf ∈ q_G ∧ Cond.selects yX12_partitionOf.cls yX12_partitionOf yX12_partitionOf ∈ q_G := ⟨q_tb (i := 2258) (by decide +kernel) (by decide +kernel), q_tp (i := 121) (q := (yX12_partitionOf, 114)) (by decide +kernel) (by decide +kernel)⟩
theorem ml_X12_487 : Cond.methodLink RX12 487 yX12_unlock ∈ q_G := q_tb (i := 2260) (by decide +kernel) (by decide +kernel)
theorem mt_X12_unlock : q_Mt yX12_unlock cX12_unlock 2 none 1 := ⟨q_tb (i := 2263) (by decide +kernel) (by decide +kernel), q_tb (i := 11) (by decide +kernel) (by decide +kernel), by decide +kernel, by decide +kernel, by decide +kernel⟩
theorem mi_X12_unlock : Cond.instanceMethod yX12_unlock ∈ q_G ∧ Cond.selects yX12_unlock.cls yX12_unlock yX12_unlock ∈ q_G := ⟨q_tb (i := 2262) (by decide +kernel) (by decide +kernel), q_tp (i := 122) (q := (yX12_unlock, 114)) (by decide +kernel) (by decide +kernel)⟩
theorem dX12_sleeps_0 : decode cX12_sleeps 0 = .ok (.aload_n 0, 1) := by decide +kernel
theorem dX12_sleeps_1 : decode cX12_sleeps 1 = .ok (.getfield 149, 3) := by decide +kernel
theorem dX12_sleeps_4 : decode cX12_sleeps 4 = .ok (.iload_n 1, 1) := by decide +kernel
theorem dX12_sleeps_5 : decode cX12_sleeps 5 = .ok (.iconst 0, 1) := by decide +kernel
theorem dX12_sleeps_6 : decode cX12_sleeps 6 = .ok (.iastore, 1) := by decide +kernel
theorem dX12_sleeps_7 : decode cX12_sleeps 7 = .ok (.aload_n 0, 1) := by decide +kernel
theorem dX12_sleeps_8 : decode cX12_sleeps 8 = .ok (.getfield 164, 3) := by decide +kernel
theorem dX12_sleeps_11 : decode cX12_sleeps 11 = .ok (.iload_n 1, 1) := by decide +kernel
theorem dX12_sleeps_12 : decode cX12_sleeps 12 = .ok (.iconst (-1), 1) := by decide +kernel
theorem dX12_sleeps_13 : decode cX12_sleeps 13 = .ok (.iastore, 1) := by decide +kernel
theorem dX12_sleeps_14 : decode cX12_sleeps 14 = .ok (.aload_n 0, 1) := by decide +kernel
theorem dX12_sleeps_15 : decode cX12_sleeps 15 = .ok (.getfield 182, 3) := by decide +kernel
theorem dX12_sleeps_18 : decode cX12_sleeps 18 = .ok (.iload_n 1, 1) := by decide +kernel
theorem dX12_sleeps_19 : decode cX12_sleeps 19 = .ok (.iconst 0, 1) := by decide +kernel
theorem dX12_sleeps_20 : decode cX12_sleeps 20 = .ok (.iastore, 1) := by decide +kernel
theorem dX12_sleeps_21 : decode cX12_sleeps 21 = .ok (.aload_n 0, 1) := by decide +kernel
theorem dX12_sleeps_22 : decode cX12_sleeps 22 = .ok (.getfield 173, 3) := by decide +kernel
theorem dX12_sleeps_25 : decode cX12_sleeps 25 = .ok (.iload_n 1, 1) := by decide +kernel
theorem dX12_sleeps_26 : decode cX12_sleeps 26 = .ok (.iconst 0, 1) := by decide +kernel
theorem dX12_sleeps_27 : decode cX12_sleeps 27 = .ok (.bastore, 1) := by decide +kernel
theorem dX12_sleeps_28 : decode cX12_sleeps 28 = .ok (.aload_n 0, 1) := by decide +kernel
theorem dX12_sleeps_29 : decode cX12_sleeps 29 = .ok (.getfield 158, 3) := by decide +kernel
theorem dX12_sleeps_32 : decode cX12_sleeps 32 = .ok (.iload_n 1, 1) := by decide +kernel
theorem dX12_sleeps_33 : decode cX12_sleeps 33 = .ok (.iconst 0, 1) := by decide +kernel
theorem dX12_sleeps_34 : decode cX12_sleeps 34 = .ok (.bastore, 1) := by decide +kernel
theorem dX12_sleeps_35 : decode cX12_sleeps 35 = .ok (.aload_n 0, 1) := by decide +kernel
theorem dX12_sleeps_36 : decode cX12_sleeps 36 = .ok (.aload_n 0, 1) := by decide +kernel
theorem dX12_sleeps_37 : decode cX12_sleeps 37 = .ok (.iload_n 1, 1) := by decide +kernel
theorem dX12_sleeps_38 : decode cX12_sleeps 38 = .ok (.invokevirtual 481, 3) := by decide +kernel
theorem dX12_sleeps_41 : decode cX12_sleeps 41 = .ok (.invokevirtual 487, 3) := by decide +kernel
theorem dX12_sleeps_44 : decode cX12_sleeps 44 = .ok (.return_, 1) := by decide +kernel
def wm_X12_sleeps (S : q_S) (a0 : Nat) (x1 : Int32) (Q : Option Value → q_S → Prop) : Prop := q_K S a0 = 13 ∧ (∃ a2_ : Nat, (q_P S 2467 a0) = some a2_ ∧ (q_K S a2_ = 21 ∧ (vp_in x1 (q_N S a2_) ∧ (∃ a6_ : Nat, (q_P (qs_A S a2_ x1.toNatClampNeg (0 : Int32)) 2472 a0) = some a6_ ∧ (q_K (qs_A S a2_ x1.toNatClampNeg (0 : Int32)) a6_ = 21 ∧ (vp_in x1 (q_N (qs_A S a2_ x1.toNatClampNeg (0 : Int32)) a6_) ∧ (∃ a10_ : Nat, (q_P (qs_A (qs_A S a2_ x1.toNatClampNeg (0 : Int32)) a6_ x1.toNatClampNeg (-1 : Int32)) 2478 a0) = some a10_ ∧ (q_K (qs_A (qs_A S a2_ x1.toNatClampNeg (0 : Int32)) a6_ x1.toNatClampNeg (-1 : Int32)) a10_ = 21 ∧ (vp_in x1 (q_N (qs_A (qs_A S a2_ x1.toNatClampNeg (0 : Int32)) a6_ x1.toNatClampNeg (-1 : Int32)) a10_) ∧ (∀ S14_ : q_S, S14_ = (qs_A (qs_A (qs_A S a2_ x1.toNatClampNeg (0 : Int32)) a6_ x1.toNatClampNeg (-1 : Int32)) a10_ x1.toNatClampNeg (0 : Int32)) → (∃ a15_ : Nat, (q_P S14_ 2475 a0) = some a15_ ∧ (q_K S14_ a15_ = 22 ∧ (vp_in x1 (q_N S14_ a15_) ∧ (∃ a19_ : Nat, (q_P (qs_A S14_ a15_ x1.toNatClampNeg (vp_nar .boolean (0 : Int32))) 2470 a0) = some a19_ ∧ (q_K (qs_A S14_ a15_ x1.toNatClampNeg (vp_nar .boolean (0 : Int32))) a19_ = 22 ∧ (vp_in x1 (q_N (qs_A S14_ a15_ x1.toNatClampNeg (vp_nar .boolean (0 : Int32))) a19_) ∧ (wm_X12_partitionOf (qs_A (qs_A S14_ a15_ x1.toNatClampNeg (vp_nar .boolean (0 : Int32))) a19_ x1.toNatClampNeg (vp_nar .boolean (0 : Int32))) a0 x1 (fun r23_ S24_ => ∃ x25_ : Int32, r23_ = some (.int x25_) ∧ (q_K S24_ a0 = 13 ∧ (wm_X12_unlock S24_ a0 x25_ (fun r27_ S28_ => r27_ = none ∧ (Q none S28_))))))))))))))))))))))
set_option maxHeartbeats 4000000 in
set_option maxRecDepth 100000 in
theorem cm_X12_sleeps {l : Launch} {D : va_G} {cy : Nat → ClassId} {lo : Nat} {S : q_S} {a0 : Nat} {x1 : Int32} {Q : Option Value → q_S → Prop} (h : wm_X12_sleeps S a0 x1 Q) : q_Met l D cy lo yX12_sleeps cX12_sleeps 2 none 1 21 0 0 [.ref a0, .int x1] S Q := by
  refine q_body (by decide) (by first | exact Nat.le_of_ble_eq_true rfl | simp [lg_sl, q_cat, q_catI, q_catJ, q_catR]) ?_
  intro p e s m below meth c ls X hnm Y hl
  have hx := X.1
  have hb := X.2.1
  have hl : lv_has ls 2 [(0, .ref a0), (1, .int x1)] := by first | exact hl | simpa [lv_args, q_cat, q_catI, q_catJ, q_catR] using hl
  generalize hargs : ([.ref a0, .int x1] : List Value).toArray = args at X ⊢
  unfold wm_X12_sleeps at h
  refine lv_aload_n hx hb dX12_sleeps_0 rfl (lv_at hl 0 rfl) ?_
  obtain ⟨k1_, h⟩ := h
  refine q_getP X Y kX12 67 rfl fl_X12_149 k1_ rfl dX12_sleeps_1 ?_
  refine lv_iload_n hx hb dX12_sleeps_4 rfl (lv_at hl 1 rfl) ?_
  refine lv_iconst (v := 0) hx hb dX12_sleeps_5 (by decide) ?_
  obtain ⟨a2_, e3_, h⟩ := h
  refine q_nn [.int (0 : Int32), .int x1] e3_ ?_
  obtain ⟨k4_, h⟩ := h
  obtain ⟨i5_, h⟩ := h
  refine q_ist X Y k4_ i5_ dX12_sleeps_6 (fun H locs Y => ?_)
  refine lv_aload_n hx hb dX12_sleeps_7 rfl (lv_at hl 0 rfl) ?_
  refine q_getP X Y kX12 72 rfl fl_X12_164 k1_ rfl dX12_sleeps_8 ?_
  refine lv_iload_n hx hb dX12_sleeps_11 rfl (lv_at hl 1 rfl) ?_
  refine lv_iconst (v := (-1)) hx hb dX12_sleeps_12 (by decide) ?_
  obtain ⟨a6_, e7_, h⟩ := h
  refine q_nn [.int (-1 : Int32), .int x1] e7_ ?_
  obtain ⟨k8_, h⟩ := h
  obtain ⟨i9_, h⟩ := h
  refine q_ist X Y k8_ i9_ dX12_sleeps_13 (fun H locs Y => ?_)
  refine lv_aload_n hx hb dX12_sleeps_14 rfl (lv_at hl 0 rfl) ?_
  refine q_getP X Y kX12 78 rfl fl_X12_182 k1_ rfl dX12_sleeps_15 ?_
  refine lv_iload_n hx hb dX12_sleeps_18 rfl (lv_at hl 1 rfl) ?_
  refine lv_iconst (v := 0) hx hb dX12_sleeps_19 (by decide) ?_
  obtain ⟨a10_, e11_, h⟩ := h
  refine q_nn [.int (0 : Int32), .int x1] e11_ ?_
  obtain ⟨k12_, h⟩ := h
  obtain ⟨i13_, h⟩ := h
  refine q_ist X Y k12_ i13_ dX12_sleeps_20 (fun H locs Y => ?_)
  obtain ⟨S14_, gS14_⟩ : ∃ z : q_S, z = (qs_A (qs_A (qs_A S a2_ x1.toNatClampNeg (0 : Int32)) a6_ x1.toNatClampNeg (-1 : Int32)) a10_ x1.toNatClampNeg (0 : Int32)) := ⟨_, rfl⟩
  replace Y : q_Y D cy lo s S14_ H locs := by rw [gS14_]; exact Y
  replace h := h S14_ gS14_
  replace k1_ : q_K S14_ a0 = 13 := by rw [gS14_]; exact k1_
  replace k4_ : q_K S14_ a2_ = 21 := by rw [gS14_]; exact k4_
  replace k8_ : q_K S14_ a6_ = 21 := by rw [gS14_]; exact k8_
  replace k12_ : q_K S14_ a10_ = 21 := by rw [gS14_]; exact k12_
  refine lv_aload_n hx hb dX12_sleeps_21 rfl (lv_at hl 0 rfl) ?_
  refine q_getP X Y kX12 75 rfl fl_X12_173 k1_ rfl dX12_sleeps_22 ?_
  refine lv_iload_n hx hb dX12_sleeps_25 rfl (lv_at hl 1 rfl) ?_
  refine lv_iconst (v := 0) hx hb dX12_sleeps_26 (by decide) ?_
  obtain ⟨a15_, e16_, h⟩ := h
  refine q_nn [.int (0 : Int32), .int x1] e16_ ?_
  obtain ⟨k17_, h⟩ := h
  obtain ⟨i18_, h⟩ := h
  refine q_zst X Y k17_ i18_ dX12_sleeps_27 (fun H locs Y => ?_)
  refine lv_aload_n hx hb dX12_sleeps_28 rfl (lv_at hl 0 rfl) ?_
  refine q_getP X Y kX12 70 rfl fl_X12_158 k1_ rfl dX12_sleeps_29 ?_
  refine lv_iload_n hx hb dX12_sleeps_32 rfl (lv_at hl 1 rfl) ?_
  refine lv_iconst (v := 0) hx hb dX12_sleeps_33 (by decide) ?_
  obtain ⟨a19_, e20_, h⟩ := h
  refine q_nn [.int (0 : Int32), .int x1] e20_ ?_
  obtain ⟨k21_, h⟩ := h
  obtain ⟨i22_, h⟩ := h
  refine q_zst X Y k21_ i22_ dX12_sleeps_34 (fun H locs Y => ?_)
  refine lv_aload_n hx hb dX12_sleeps_35 rfl (lv_at hl 0 rfl) ?_
  refine lv_aload_n hx hb dX12_sleeps_36 rfl (lv_at hl 0 rfl) ?_
  refine lv_iload_n hx hb dX12_sleeps_37 rfl (lv_at hl 1 rfl) ?_
  refine q_callV X Y hl (cm_X12_partitionOf h) mt_X12_partitionOf mi_X12_partitionOf ml_X12_481 (ci := 12) rfl k1_ (by decide) rfl rfl (by first | exact Nat.le_of_ble_eq_true rfl | simp [q_cat, q_catI, q_catJ, q_catR]) ⟨Nat.le_of_ble_eq_true rfl, Nat.le_of_ble_eq_true rfl⟩ ⟨Nat.le_of_ble_eq_true rfl, Nat.le_of_ble_eq_true rfl⟩ dX12_sleeps_38 (fun r23_ S24_ H locs hp Y => ?_)
  obtain ⟨x25_, rfl, h⟩ := hp
  refine W.eq (g2 := F0 m 41 ls [.int x25_, .ref a0]) rfl ?_
  obtain ⟨k26_, h⟩ := h
  refine q_callV X Y hl (cm_X12_unlock h) mt_X12_unlock mi_X12_unlock ml_X12_487 (ci := 12) rfl k26_ (by decide) rfl rfl (by first | exact Nat.le_of_ble_eq_true rfl | simp [q_cat, q_catI, q_catJ, q_catR]) ⟨Nat.le_of_ble_eq_true rfl, Nat.le_of_ble_eq_true rfl⟩ ⟨Nat.le_of_ble_eq_true rfl, Nat.le_of_ble_eq_true rfl⟩ dX12_sleeps_41 (fun r27_ S28_ H locs hp Y => ?_)
  obtain ⟨rfl, h⟩ := hp
  refine W.eq (g2 := F0 m 44 ls []) rfl ?_
  exact q_vret X Y (Nat.le_refl _) (Nat.le_refl _) h dX12_sleeps_44
-- X12_isHandler
theorem dX12_isHandler_0 : decode cX12_isHandler 0 = .ok (.aload_n 0, 1) := by decide +kernel
theorem dX12_isHandler_1 : decode cX12_isHandler 1 = .ok (.getfield 82, 3) := by decide +kernel
theorem dX12_isHandler_4 : decode cX12_isHandler 4 = .ok (.aload_n 0, 1) := by decide +kernel
theorem dX12_isHandler_5 : decode cX12_isHandler 5 = .ok (.iload_n 1, 1) := by decide +kernel
theorem dX12_isHandler_6 : decode cX12_isHandler 6 = .ok (.invokevirtual 481, 3) := by decide +kernel
theorem dX12_isHandler_9 : decode cX12_isHandler 9 = .ok (.iaload, 1) := by decide +kernel
theorem dX12_isHandler_10 : decode cX12_isHandler 10 = .ok (.iload_n 1, 1) := by decide +kernel
theorem dX12_isHandler_11 : decode cX12_isHandler 11 = .ok (.if_icmp .ne 7, 3) := by decide +kernel
theorem dX12_isHandler_14 : decode cX12_isHandler 14 = .ok (.iconst 1, 1) := by decide +kernel
theorem dX12_isHandler_15 : decode cX12_isHandler 15 = .ok (.goto 4, 3) := by decide +kernel
theorem dX12_isHandler_18 : decode cX12_isHandler 18 = .ok (.iconst 0, 1) := by decide +kernel
theorem dX12_isHandler_19 : decode cX12_isHandler 19 = .ok (.ireturn, 1) := by decide +kernel
def wb_X12_isHandler_19  (S : q_S) (xs0 : Int32) (Q : Option Value → q_S → Prop) : Prop := (narrow .boolean (.int xs0) = .int xs0 ∧ Q (some (.int xs0)) S)
set_option maxHeartbeats 4000000 in
set_option maxRecDepth 100000 in
theorem cb_X12_isHandler_19 {p : Program} {l : Launch} {e : Env} {s : State} {m : MethodId} {args : Array Value} {below : List Frame} {meth : Method} {c : Code} {D : va_G} {cy : Nat → ClassId} {lo : Nat}  {S : q_S} {xs0 : Int32} {Q : Option Value → q_S → Prop} {H : Heap} {locs : List Loc} {ls : Array Slot} (X : q_X p s m args meth c RX12 cX12_isHandler 2 (some .boolean) D cy lo)  (Y : q_Y D cy lo s S H locs) (hl : lv_has ls 2 []) (h : wb_X12_isHandler_19 S xs0 Q) : W p l e ({ frames := 1, cells := 0, slots := 0, locals := 21 } : Room) s m args below meth c H locs 0 0 (MQ below (q_Q D cy lo Q) args s 0 0 (fun q => lo ≤ q)) (F0 m 19 ls [.int xs0]) := by
  have hx := X.1
  have hb := X.2.1
  unfold wb_X12_isHandler_19 at h
  exact q_iret X Y h.1 (Nat.le_refl _) (Nat.le_refl _) h.2 dX12_isHandler_19
def wm_X12_isHandler (S : q_S) (a0 : Nat) (x1 : Int32) (Q : Option Value → q_S → Prop) : Prop := q_K S a0 = 13 ∧ (wm_X12_partitionOf S a0 x1 (fun r2_ S3_ => ∃ x4_ : Int32, r2_ = some (.int x4_) ∧ (∃ a5_ : Nat, (q_P S 2442 a0) = some a5_ ∧ (q_K S3_ a5_ = 21 ∧ (vp_in x4_ (q_N S3_ a5_) ∧ (((¬ (q_A S3_ a5_ x4_.toNatClampNeg) = x1 → (wb_X12_isHandler_19 S3_ (0 : Int32) Q)) ∧ ((q_A S3_ a5_ x4_.toNatClampNeg) = x1 → (wb_X12_isHandler_19 S3_ (1 : Int32) Q)))))))))
set_option maxHeartbeats 4000000 in
set_option maxRecDepth 100000 in
theorem cm_X12_isHandler {l : Launch} {D : va_G} {cy : Nat → ClassId} {lo : Nat} {S : q_S} {a0 : Nat} {x1 : Int32} {Q : Option Value → q_S → Prop} (h : wm_X12_isHandler S a0 x1 Q) : q_Met l D cy lo yX12_isHandler cX12_isHandler 2 (some .boolean) 1 21 0 0 [.ref a0, .int x1] S Q := by
  refine q_body (by decide) (by first | exact Nat.le_of_ble_eq_true rfl | simp [lg_sl, q_cat, q_catI, q_catJ, q_catR]) ?_
  intro p e s m below meth c ls X hnm Y hl
  have hx := X.1
  have hb := X.2.1
  have hl : lv_has ls 2 [(0, .ref a0), (1, .int x1)] := by first | exact hl | simpa [lv_args, q_cat, q_catI, q_catJ, q_catR] using hl
  generalize hargs : ([.ref a0, .int x1] : List Value).toArray = args at X ⊢
  unfold wm_X12_isHandler at h
  refine lv_aload_n hx hb dX12_isHandler_0 rfl (lv_at hl 0 rfl) ?_
  obtain ⟨k1_, h⟩ := h
  refine q_getP X Y kX12 42 rfl fl_X12_82 k1_ rfl dX12_isHandler_1 ?_
  refine lv_aload_n hx hb dX12_isHandler_4 rfl (lv_at hl 0 rfl) ?_
  refine lv_iload_n hx hb dX12_isHandler_5 rfl (lv_at hl 1 rfl) ?_
  refine q_callV X Y hl (cm_X12_partitionOf h) mt_X12_partitionOf mi_X12_partitionOf ml_X12_481 (ci := 12) rfl k1_ (by decide) rfl rfl (by first | exact Nat.le_of_ble_eq_true rfl | simp [q_cat, q_catI, q_catJ, q_catR]) ⟨Nat.le_of_ble_eq_true rfl, Nat.le_of_ble_eq_true rfl⟩ ⟨Nat.le_of_ble_eq_true rfl, Nat.le_of_ble_eq_true rfl⟩ dX12_isHandler_6 (fun r2_ S3_ H locs hp Y => ?_)
  obtain ⟨x4_, rfl, h⟩ := hp
  refine W.eq (g2 := F0 m 9 ls [.int x4_, va_rf (q_P S 2442 a0)]) rfl ?_
  obtain ⟨a5_, e6_, h⟩ := h
  refine q_nn [.int x4_] e6_ ?_
  obtain ⟨k7_, h⟩ := h
  obtain ⟨i8_, h⟩ := h
  refine q_ild X Y k7_ i8_ dX12_isHandler_9 ?_
  refine lv_iload_n hx hb dX12_isHandler_10 rfl (lv_at hl 1 rfl) ?_
  refine lv_icmp_ne (tgt := 18) hx hb dX12_isHandler_11 (by decide) (fun c9_ => ?_) (fun c9_ => ?_)
  · replace h := h.1 c9_
    refine lv_iconst (v := 0) hx hb dX12_isHandler_18 (by decide) ?_
    exact cb_X12_isHandler_19 X Y (lv_sub hl [] rfl) h
  · replace h := h.2 c9_
    refine lv_iconst (v := 1) hx hb dX12_isHandler_14 (by decide) ?_
    refine lv_goto (tgt := 19) hx hb dX12_isHandler_15 (by decide) ?_
    exact cb_X12_isHandler_19 X Y (lv_sub hl [] rfl) h
-- X12_isReady
theorem dX12_isReady_0 : decode cX12_isReady 0 = .ok (.aload_n 0, 1) := by decide +kernel
theorem dX12_isReady_1 : decode cX12_isReady 1 = .ok (.getfield 149, 3) := by decide +kernel
theorem dX12_isReady_4 : decode cX12_isReady 4 = .ok (.iload_n 1, 1) := by decide +kernel
theorem dX12_isReady_5 : decode cX12_isReady 5 = .ok (.iconst 1, 1) := by decide +kernel
theorem dX12_isReady_6 : decode cX12_isReady 6 = .ok (.iastore, 1) := by decide +kernel
theorem dX12_isReady_7 : decode cX12_isReady 7 = .ok (.aload_n 0, 1) := by decide +kernel
theorem dX12_isReady_8 : decode cX12_isReady 8 = .ok (.getfield 164, 3) := by decide +kernel
theorem dX12_isReady_11 : decode cX12_isReady 11 = .ok (.iload_n 1, 1) := by decide +kernel
theorem dX12_isReady_12 : decode cX12_isReady 12 = .ok (.iconst (-1), 1) := by decide +kernel
theorem dX12_isReady_13 : decode cX12_isReady 13 = .ok (.iastore, 1) := by decide +kernel
theorem dX12_isReady_14 : decode cX12_isReady 14 = .ok (.aload_n 0, 1) := by decide +kernel
theorem dX12_isReady_15 : decode cX12_isReady 15 = .ok (.getfield 182, 3) := by decide +kernel
theorem dX12_isReady_18 : decode cX12_isReady 18 = .ok (.iload_n 1, 1) := by decide +kernel
theorem dX12_isReady_19 : decode cX12_isReady 19 = .ok (.iconst 0, 1) := by decide +kernel
theorem dX12_isReady_20 : decode cX12_isReady 20 = .ok (.iastore, 1) := by decide +kernel
theorem dX12_isReady_21 : decode cX12_isReady 21 = .ok (.aload_n 0, 1) := by decide +kernel
theorem dX12_isReady_22 : decode cX12_isReady 22 = .ok (.dup, 1) := by decide +kernel
theorem dX12_isReady_23 : decode cX12_isReady 23 = .ok (.getfield 456, 3) := by decide +kernel
theorem dX12_isReady_26 : decode cX12_isReady 26 = .ok (.iconst 1, 1) := by decide +kernel
theorem dX12_isReady_27 : decode cX12_isReady 27 = .ok (.iadd, 1) := by decide +kernel
theorem dX12_isReady_28 : decode cX12_isReady 28 = .ok (.putfield 456, 3) := by decide +kernel
theorem dX12_isReady_31 : decode cX12_isReady 31 = .ok (.aload_n 0, 1) := by decide +kernel
theorem dX12_isReady_32 : decode cX12_isReady 32 = .ok (.getfield 176, 3) := by decide +kernel
theorem dX12_isReady_35 : decode cX12_isReady 35 = .ok (.iload_n 1, 1) := by decide +kernel
theorem dX12_isReady_36 : decode cX12_isReady 36 = .ok (.aload_n 0, 1) := by decide +kernel
theorem dX12_isReady_37 : decode cX12_isReady 37 = .ok (.getfield 456, 3) := by decide +kernel
theorem dX12_isReady_40 : decode cX12_isReady 40 = .ok (.iastore, 1) := by decide +kernel
theorem dX12_isReady_41 : decode cX12_isReady 41 = .ok (.return_, 1) := by decide +kernel
def wm_X12_isReady (S : q_S) (a0 : Nat) (x1 : Int32) (Q : Option Value → q_S → Prop) : Prop := q_K S a0 = 13 ∧ (∃ a2_ : Nat, (q_P S 2467 a0) = some a2_ ∧ (q_K S a2_ = 21 ∧ (vp_in x1 (q_N S a2_) ∧ (∃ a6_ : Nat, (q_P (qs_A S a2_ x1.toNatClampNeg (1 : Int32)) 2472 a0) = some a6_ ∧ (q_K (qs_A S a2_ x1.toNatClampNeg (1 : Int32)) a6_ = 21 ∧ (vp_in x1 (q_N (qs_A S a2_ x1.toNatClampNeg (1 : Int32)) a6_) ∧ (∃ a10_ : Nat, (q_P (qs_A (qs_A S a2_ x1.toNatClampNeg (1 : Int32)) a6_ x1.toNatClampNeg (-1 : Int32)) 2478 a0) = some a10_ ∧ (q_K (qs_A (qs_A S a2_ x1.toNatClampNeg (1 : Int32)) a6_ x1.toNatClampNeg (-1 : Int32)) a10_ = 21 ∧ (vp_in x1 (q_N (qs_A (qs_A S a2_ x1.toNatClampNeg (1 : Int32)) a6_ x1.toNatClampNeg (-1 : Int32)) a10_) ∧ (∀ S14_ : q_S, S14_ = (qs_A (qs_A (qs_A S a2_ x1.toNatClampNeg (1 : Int32)) a6_ x1.toNatClampNeg (-1 : Int32)) a10_ x1.toNatClampNeg (0 : Int32)) → (∃ a15_ : Nat, (q_P (qs_I S14_ 2464 a0 ((q_I S14_ 2464 a0) + (1 : Int32))) 2476 a0) = some a15_ ∧ (q_K (qs_I S14_ 2464 a0 ((q_I S14_ 2464 a0) + (1 : Int32))) a15_ = 21 ∧ (vp_in x1 (q_N (qs_I S14_ 2464 a0 ((q_I S14_ 2464 a0) + (1 : Int32))) a15_) ∧ (∀ S19_ : q_S, S19_ = (qs_A (qs_I S14_ 2464 a0 ((q_I S14_ 2464 a0) + (1 : Int32))) a15_ x1.toNatClampNeg (q_I (qs_I S14_ 2464 a0 ((q_I S14_ 2464 a0) + (1 : Int32))) 2464 a0)) → (Q none S19_)))))))))))))))
set_option maxHeartbeats 4000000 in
set_option maxRecDepth 100000 in
theorem cm_X12_isReady {l : Launch} {D : va_G} {cy : Nat → ClassId} {lo : Nat} {S : q_S} {a0 : Nat} {x1 : Int32} {Q : Option Value → q_S → Prop} (h : wm_X12_isReady S a0 x1 Q) : q_Met l D cy lo yX12_isReady cX12_isReady 2 none 0 0 0 0 [.ref a0, .int x1] S Q := by
  refine q_body (by decide) (by first | exact Nat.le_of_ble_eq_true rfl | simp [lg_sl, q_cat, q_catI, q_catJ, q_catR]) ?_
  intro p e s m below meth c ls X hnm Y hl
  have hx := X.1
  have hb := X.2.1
  have hl : lv_has ls 2 [(0, .ref a0), (1, .int x1)] := by first | exact hl | simpa [lv_args, q_cat, q_catI, q_catJ, q_catR] using hl
  generalize hargs : ([.ref a0, .int x1] : List Value).toArray = args at X ⊢
  unfold wm_X12_isReady at h
  refine lv_aload_n hx hb dX12_isReady_0 rfl (lv_at hl 0 rfl) ?_
  obtain ⟨k1_, h⟩ := h
  refine q_getP X Y kX12 67 rfl fl_X12_149 k1_ rfl dX12_isReady_1 ?_
  refine lv_iload_n hx hb dX12_isReady_4 rfl (lv_at hl 1 rfl) ?_
  refine lv_iconst (v := 1) hx hb dX12_isReady_5 (by decide) ?_
  obtain ⟨a2_, e3_, h⟩ := h
  refine q_nn [.int (1 : Int32), .int x1] e3_ ?_
  obtain ⟨k4_, h⟩ := h
  obtain ⟨i5_, h⟩ := h
  refine q_ist X Y k4_ i5_ dX12_isReady_6 (fun H locs Y => ?_)
  refine lv_aload_n hx hb dX12_isReady_7 rfl (lv_at hl 0 rfl) ?_
  refine q_getP X Y kX12 72 rfl fl_X12_164 k1_ rfl dX12_isReady_8 ?_
  refine lv_iload_n hx hb dX12_isReady_11 rfl (lv_at hl 1 rfl) ?_
  refine lv_iconst (v := (-1)) hx hb dX12_isReady_12 (by decide) ?_
  obtain ⟨a6_, e7_, h⟩ := h
  refine q_nn [.int (-1 : Int32), .int x1] e7_ ?_
  obtain ⟨k8_, h⟩ := h
  obtain ⟨i9_, h⟩ := h
  refine q_ist X Y k8_ i9_ dX12_isReady_13 (fun H locs Y => ?_)
  refine lv_aload_n hx hb dX12_isReady_14 rfl (lv_at hl 0 rfl) ?_
  refine q_getP X Y kX12 78 rfl fl_X12_182 k1_ rfl dX12_isReady_15 ?_
  refine lv_iload_n hx hb dX12_isReady_18 rfl (lv_at hl 1 rfl) ?_
  refine lv_iconst (v := 0) hx hb dX12_isReady_19 (by decide) ?_
  obtain ⟨a10_, e11_, h⟩ := h
  refine q_nn [.int (0 : Int32), .int x1] e11_ ?_
  obtain ⟨k12_, h⟩ := h
  obtain ⟨i13_, h⟩ := h
  refine q_ist X Y k12_ i13_ dX12_isReady_20 (fun H locs Y => ?_)
  obtain ⟨S14_, gS14_⟩ : ∃ z : q_S, z = (qs_A (qs_A (qs_A S a2_ x1.toNatClampNeg (1 : Int32)) a6_ x1.toNatClampNeg (-1 : Int32)) a10_ x1.toNatClampNeg (0 : Int32)) := ⟨_, rfl⟩
  replace Y : q_Y D cy lo s S14_ H locs := by rw [gS14_]; exact Y
  replace h := h S14_ gS14_
  replace k1_ : q_K S14_ a0 = 13 := by rw [gS14_]; exact k1_
  replace k4_ : q_K S14_ a2_ = 21 := by rw [gS14_]; exact k4_
  replace k8_ : q_K S14_ a6_ = 21 := by rw [gS14_]; exact k8_
  replace k12_ : q_K S14_ a10_ = 21 := by rw [gS14_]; exact k12_
  refine lv_aload_n hx hb dX12_isReady_21 rfl (lv_at hl 0 rfl) ?_
  refine lv_dup hx hb dX12_isReady_22 rfl ?_
  refine q_getI X Y kX12 64 rfl fl_X12_456 k1_ dX12_isReady_23 ?_
  refine lv_iconst (v := 1) hx hb dX12_isReady_26 (by decide) ?_
  refine lv_iadd hx hb dX12_isReady_27 ?_
  refine q_putI X Y kX12 64 rfl fl_X12_456 k1_ .int rfl ⟨rfl, rfl⟩ rfl dX12_isReady_28 (fun H locs Y => ?_)
  refine lv_aload_n hx hb dX12_isReady_31 rfl (lv_at hl 0 rfl) ?_
  refine q_getP X Y kX12 76 rfl fl_X12_176 k1_ rfl dX12_isReady_32 ?_
  refine lv_iload_n hx hb dX12_isReady_35 rfl (lv_at hl 1 rfl) ?_
  refine lv_aload_n hx hb dX12_isReady_36 rfl (lv_at hl 0 rfl) ?_
  refine q_getI X Y kX12 64 rfl fl_X12_456 k1_ dX12_isReady_37 ?_
  obtain ⟨a15_, e16_, h⟩ := h
  refine q_nn [.int (q_I (qs_I S14_ 2464 a0 ((q_I S14_ 2464 a0) + (1 : Int32))) 2464 a0), .int x1] e16_ ?_
  obtain ⟨k17_, h⟩ := h
  obtain ⟨i18_, h⟩ := h
  refine q_ist X Y k17_ i18_ dX12_isReady_40 (fun H locs Y => ?_)
  obtain ⟨S19_, gS19_⟩ : ∃ z : q_S, z = (qs_A (qs_I S14_ 2464 a0 ((q_I S14_ 2464 a0) + (1 : Int32))) a15_ x1.toNatClampNeg (q_I (qs_I S14_ 2464 a0 ((q_I S14_ 2464 a0) + (1 : Int32))) 2464 a0)) := ⟨_, rfl⟩
  replace Y : q_Y D cy lo s S19_ H locs := by rw [gS19_]; exact Y
  replace h := h S19_ gS19_
  replace k1_ : q_K S19_ a0 = 13 := by rw [gS19_]; exact k1_
  replace k4_ : q_K S19_ a2_ = 21 := by rw [gS19_]; exact k4_
  replace k8_ : q_K S19_ a6_ = 21 := by rw [gS19_]; exact k8_
  replace k12_ : q_K S19_ a10_ = 21 := by rw [gS19_]; exact k12_
  replace k17_ : q_K S19_ a15_ = 21 := by rw [gS19_]; exact k17_
  exact q_vret X Y (Nat.le_refl _) (Nat.le_refl _) h dX12_isReady_41
-- X12_startsAt
theorem ml_X12_484 : Cond.methodLink RX12 484 yX12_isReady ∈ q_G := q_tb (i := 2272) (by decide +kernel) (by decide +kernel)
theorem mt_X12_isReady : q_Mt yX12_isReady cX12_isReady 2 none 1 := ⟨q_tb (i := 2275) (by decide +kernel) (by decide +kernel), q_tb (i := 11) (by decide +kernel) (by decide +kernel), by decide +kernel, by decide +kernel, by decide +kernel⟩
theorem mi_X12_isReady : Cond.instanceMethod yX12_isReady ∈ q_G ∧ Cond.selects yX12_isReady.cls yX12_isReady yX12_isReady ∈ q_G := ⟨q_tb (i := 2274) (by decide +kernel) (by decide +kernel), q_tp (i := 125) (q := (yX12_isReady, 114)) (by decide +kernel) (by decide +kernel)⟩
theorem dX12_startsAt_0 : decode cX12_startsAt 0 = .ok (.iconst 0, 1) := by decide +kernel
theorem dX12_startsAt_1 : decode cX12_startsAt 1 = .ok (.istore_n 3, 1) := by decide +kernel
theorem dX12_startsAt_2 : decode cX12_startsAt 2 = .ok (.iload_n 3, 1) := by decide +kernel
theorem dX12_startsAt_3 : decode cX12_startsAt 3 = .ok (.bipush 32, 2) := by decide +kernel
theorem dX12_startsAt_5 : decode cX12_startsAt 5 = .ok (.if_icmp .ge 21, 3) := by decide +kernel
theorem dX12_startsAt_8 : decode cX12_startsAt 8 = .ok (.aload_n 0, 1) := by decide +kernel
theorem dX12_startsAt_9 : decode cX12_startsAt 9 = .ok (.getfield 179, 3) := by decide +kernel
theorem dX12_startsAt_12 : decode cX12_startsAt 12 = .ok (.bipush 32, 2) := by decide +kernel
theorem dX12_startsAt_14 : decode cX12_startsAt 14 = .ok (.iload_n 1, 1) := by decide +kernel
theorem dX12_startsAt_15 : decode cX12_startsAt 15 = .ok (.imul, 1) := by decide +kernel
theorem dX12_startsAt_16 : decode cX12_startsAt 16 = .ok (.iload_n 3, 1) := by decide +kernel
theorem dX12_startsAt_17 : decode cX12_startsAt 17 = .ok (.iadd, 1) := by decide +kernel
theorem dX12_startsAt_18 : decode cX12_startsAt 18 = .ok (.iconst 0, 1) := by decide +kernel
theorem dX12_startsAt_19 : decode cX12_startsAt 19 = .ok (.iastore, 1) := by decide +kernel
theorem dX12_startsAt_20 : decode cX12_startsAt 20 = .ok (.iinc 3 1, 3) := by decide +kernel
theorem dX12_startsAt_23 : decode cX12_startsAt 23 = .ok (.goto (-21), 3) := by decide +kernel
theorem dX12_startsAt_26 : decode cX12_startsAt 26 = .ok (.aload_n 0, 1) := by decide +kernel
theorem dX12_startsAt_27 : decode cX12_startsAt 27 = .ok (.getfield 152, 3) := by decide +kernel
theorem dX12_startsAt_30 : decode cX12_startsAt 30 = .ok (.iload_n 1, 1) := by decide +kernel
theorem dX12_startsAt_31 : decode cX12_startsAt 31 = .ok (.aload_n 0, 1) := by decide +kernel
theorem dX12_startsAt_32 : decode cX12_startsAt 32 = .ok (.getfield 63, 3) := by decide +kernel
theorem dX12_startsAt_35 : decode cX12_startsAt 35 = .ok (.iload_n 1, 1) := by decide +kernel
theorem dX12_startsAt_36 : decode cX12_startsAt 36 = .ok (.iaload, 1) := by decide +kernel
theorem dX12_startsAt_37 : decode cX12_startsAt 37 = .ok (.iastore, 1) := by decide +kernel
theorem dX12_startsAt_38 : decode cX12_startsAt 38 = .ok (.aload_n 0, 1) := by decide +kernel
theorem dX12_startsAt_39 : decode cX12_startsAt 39 = .ok (.getfield 173, 3) := by decide +kernel
theorem dX12_startsAt_42 : decode cX12_startsAt 42 = .ok (.iload_n 1, 1) := by decide +kernel
theorem dX12_startsAt_43 : decode cX12_startsAt 43 = .ok (.iconst 0, 1) := by decide +kernel
theorem dX12_startsAt_44 : decode cX12_startsAt 44 = .ok (.bastore, 1) := by decide +kernel
theorem dX12_startsAt_45 : decode cX12_startsAt 45 = .ok (.aload_n 0, 1) := by decide +kernel
theorem dX12_startsAt_46 : decode cX12_startsAt 46 = .ok (.getfield 167, 3) := by decide +kernel
theorem dX12_startsAt_49 : decode cX12_startsAt 49 = .ok (.iload_n 1, 1) := by decide +kernel
theorem dX12_startsAt_50 : decode cX12_startsAt 50 = .ok (.iload_n 2, 1) := by decide +kernel
theorem dX12_startsAt_51 : decode cX12_startsAt 51 = .ok (.iastore, 1) := by decide +kernel
theorem dX12_startsAt_52 : decode cX12_startsAt 52 = .ok (.aload_n 0, 1) := by decide +kernel
theorem dX12_startsAt_53 : decode cX12_startsAt 53 = .ok (.getfield 158, 3) := by decide +kernel
theorem dX12_startsAt_56 : decode cX12_startsAt 56 = .ok (.iload_n 1, 1) := by decide +kernel
theorem dX12_startsAt_57 : decode cX12_startsAt 57 = .ok (.aload_n 0, 1) := by decide +kernel
theorem dX12_startsAt_58 : decode cX12_startsAt 58 = .ok (.getfield 72, 3) := by decide +kernel
theorem dX12_startsAt_61 : decode cX12_startsAt 61 = .ok (.iload_n 1, 1) := by decide +kernel
theorem dX12_startsAt_62 : decode cX12_startsAt 62 = .ok (.iaload, 1) := by decide +kernel
theorem dX12_startsAt_63 : decode cX12_startsAt 63 = .ok (.ifCond .le 7, 3) := by decide +kernel
theorem dX12_startsAt_66 : decode cX12_startsAt 66 = .ok (.iconst 1, 1) := by decide +kernel
theorem dX12_startsAt_67 : decode cX12_startsAt 67 = .ok (.goto 4, 3) := by decide +kernel
theorem dX12_startsAt_70 : decode cX12_startsAt 70 = .ok (.iconst 0, 1) := by decide +kernel
theorem dX12_startsAt_71 : decode cX12_startsAt 71 = .ok (.bastore, 1) := by decide +kernel
theorem dX12_startsAt_72 : decode cX12_startsAt 72 = .ok (.aload_n 0, 1) := by decide +kernel
theorem dX12_startsAt_73 : decode cX12_startsAt 73 = .ok (.getfield 161, 3) := by decide +kernel
theorem dX12_startsAt_76 : decode cX12_startsAt 76 = .ok (.iload_n 1, 1) := by decide +kernel
theorem dX12_startsAt_77 : decode cX12_startsAt 77 = .ok (.iload_n 2, 1) := by decide +kernel
theorem dX12_startsAt_78 : decode cX12_startsAt 78 = .ok (.aload_n 0, 1) := by decide +kernel
theorem dX12_startsAt_79 : decode cX12_startsAt 79 = .ok (.getfield 72, 3) := by decide +kernel
theorem dX12_startsAt_82 : decode cX12_startsAt 82 = .ok (.iload_n 1, 1) := by decide +kernel
theorem dX12_startsAt_83 : decode cX12_startsAt 83 = .ok (.iaload, 1) := by decide +kernel
theorem dX12_startsAt_84 : decode cX12_startsAt 84 = .ok (.iadd, 1) := by decide +kernel
theorem dX12_startsAt_85 : decode cX12_startsAt 85 = .ok (.iastore, 1) := by decide +kernel
theorem dX12_startsAt_86 : decode cX12_startsAt 86 = .ok (.aload_n 0, 1) := by decide +kernel
theorem dX12_startsAt_87 : decode cX12_startsAt 87 = .ok (.iload_n 1, 1) := by decide +kernel
theorem dX12_startsAt_88 : decode cX12_startsAt 88 = .ok (.invokevirtual 484, 3) := by decide +kernel
theorem dX12_startsAt_91 : decode cX12_startsAt 91 = .ok (.iload_n 2, 1) := by decide +kernel
theorem dX12_startsAt_92 : decode cX12_startsAt 92 = .ok (.aload_n 0, 1) := by decide +kernel
theorem dX12_startsAt_93 : decode cX12_startsAt 93 = .ok (.getfield 453, 3) := by decide +kernel
theorem dX12_startsAt_96 : decode cX12_startsAt 96 = .ok (.if_icmp .le 17, 3) := by decide +kernel
theorem dX12_startsAt_99 : decode cX12_startsAt 99 = .ok (.aload_n 0, 1) := by decide +kernel
theorem dX12_startsAt_100 : decode cX12_startsAt 100 = .ok (.getfield 149, 3) := by decide +kernel
theorem dX12_startsAt_103 : decode cX12_startsAt 103 = .ok (.iload_n 1, 1) := by decide +kernel
theorem dX12_startsAt_104 : decode cX12_startsAt 104 = .ok (.iconst 2, 1) := by decide +kernel
theorem dX12_startsAt_105 : decode cX12_startsAt 105 = .ok (.iastore, 1) := by decide +kernel
theorem dX12_startsAt_106 : decode cX12_startsAt 106 = .ok (.aload_n 0, 1) := by decide +kernel
theorem dX12_startsAt_107 : decode cX12_startsAt 107 = .ok (.getfield 164, 3) := by decide +kernel
theorem dX12_startsAt_110 : decode cX12_startsAt 110 = .ok (.iload_n 1, 1) := by decide +kernel
theorem dX12_startsAt_111 : decode cX12_startsAt 111 = .ok (.iload_n 2, 1) := by decide +kernel
theorem dX12_startsAt_112 : decode cX12_startsAt 112 = .ok (.iastore, 1) := by decide +kernel
theorem dX12_startsAt_113 : decode cX12_startsAt 113 = .ok (.aload_n 0, 1) := by decide +kernel
theorem dX12_startsAt_114 : decode cX12_startsAt 114 = .ok (.aload_n 0, 1) := by decide +kernel
theorem dX12_startsAt_115 : decode cX12_startsAt 115 = .ok (.iload_n 1, 1) := by decide +kernel
theorem dX12_startsAt_116 : decode cX12_startsAt 116 = .ok (.invokevirtual 481, 3) := by decide +kernel
theorem dX12_startsAt_119 : decode cX12_startsAt 119 = .ok (.invokevirtual 487, 3) := by decide +kernel
theorem dX12_startsAt_122 : decode cX12_startsAt 122 = .ok (.return_, 1) := by decide +kernel
def wb_X12_startsAt_113  (S : q_S) (a0 : Nat) (x1 : Int32) (Q : Option Value → q_S → Prop) : Prop := q_K S a0 = 13 ∧ (wm_X12_partitionOf S a0 x1 (fun r2_ S3_ => ∃ x4_ : Int32, r2_ = some (.int x4_) ∧ (q_K S3_ a0 = 13 ∧ (wm_X12_unlock S3_ a0 x4_ (fun r6_ S7_ => r6_ = none ∧ (Q none S7_))))))
set_option maxHeartbeats 4000000 in
set_option maxRecDepth 100000 in
theorem cb_X12_startsAt_113 {p : Program} {l : Launch} {e : Env} {s : State} {m : MethodId} {args : Array Value} {below : List Frame} {meth : Method} {c : Code} {D : va_G} {cy : Nat → ClassId} {lo : Nat}  {S : q_S} {a0 : Nat} {x1 : Int32} {Q : Option Value → q_S → Prop} {H : Heap} {locs : List Loc} {ls : Array Slot} (X : q_X p s m args meth c RX12 cX12_startsAt 4 none D cy lo)  (Y : q_Y D cy lo s S H locs) (hl : lv_has ls 4 [(0, .ref a0), (1, .int x1)]) (h : wb_X12_startsAt_113 S a0 x1 Q) : W p l e ({ frames := 1, cells := 0, slots := 0, locals := 21 } : Room) s m args below meth c H locs 0 0 (MQ below (q_Q D cy lo Q) args s 0 0 (fun q => lo ≤ q)) (F0 m 113 ls []) := by
  have hx := X.1
  have hb := X.2.1
  unfold wb_X12_startsAt_113 at h
  refine lv_aload_n hx hb dX12_startsAt_113 rfl (lv_at hl 0 rfl) ?_
  refine lv_aload_n hx hb dX12_startsAt_114 rfl (lv_at hl 0 rfl) ?_
  refine lv_iload_n hx hb dX12_startsAt_115 rfl (lv_at hl 1 rfl) ?_
  obtain ⟨k1_, h⟩ := h
  refine q_callV X Y hl (cm_X12_partitionOf h) mt_X12_partitionOf mi_X12_partitionOf ml_X12_481 (ci := 12) rfl k1_ (by decide) rfl rfl (by first | exact Nat.le_of_ble_eq_true rfl | simp [q_cat, q_catI, q_catJ, q_catR]) ⟨Nat.le_of_ble_eq_true rfl, Nat.le_of_ble_eq_true rfl⟩ ⟨Nat.le_of_ble_eq_true rfl, Nat.le_of_ble_eq_true rfl⟩ dX12_startsAt_116 (fun r2_ S3_ H locs hp Y => ?_)
  obtain ⟨x4_, rfl, h⟩ := hp
  refine W.eq (g2 := F0 m 119 ls [.int x4_, .ref a0]) rfl ?_
  obtain ⟨k5_, h⟩ := h
  refine q_callV X Y hl (cm_X12_unlock h) mt_X12_unlock mi_X12_unlock ml_X12_487 (ci := 12) rfl k5_ (by decide) rfl rfl (by first | exact Nat.le_of_ble_eq_true rfl | simp [q_cat, q_catI, q_catJ, q_catR]) ⟨Nat.le_of_ble_eq_true rfl, Nat.le_of_ble_eq_true rfl⟩ ⟨Nat.le_of_ble_eq_true rfl, Nat.le_of_ble_eq_true rfl⟩ dX12_startsAt_119 (fun r6_ S7_ H locs hp Y => ?_)
  obtain ⟨rfl, h⟩ := hp
  refine W.eq (g2 := F0 m 122 ls []) rfl ?_
  exact q_vret X Y (Nat.le_refl _) (Nat.le_refl _) h dX12_startsAt_122
def wb_X12_startsAt_71  (S : q_S) (a0 : Nat) (x1 : Int32) (x2 : Int32) (rs0 : Option Nat) (xs1 : Int32) (xs2 : Int32) (Q : Option Value → q_S → Prop) : Prop := ∃ a8_ : Nat, rs0 = some a8_ ∧ (q_K S a8_ = 22 ∧ (vp_in xs1 (q_N S a8_) ∧ (q_K (qs_A S a8_ xs1.toNatClampNeg (vp_nar .boolean xs2)) a0 = 13 ∧ (∃ a13_ : Nat, (q_P (qs_A S a8_ xs1.toNatClampNeg (vp_nar .boolean xs2)) 2439 a0) = some a13_ ∧ (q_K (qs_A S a8_ xs1.toNatClampNeg (vp_nar .boolean xs2)) a13_ = 21 ∧ (vp_in x1 (q_N (qs_A S a8_ xs1.toNatClampNeg (vp_nar .boolean xs2)) a13_) ∧ (∃ a17_ : Nat, (q_P (qs_A S a8_ xs1.toNatClampNeg (vp_nar .boolean xs2)) 2471 a0) = some a17_ ∧ (q_K (qs_A S a8_ xs1.toNatClampNeg (vp_nar .boolean xs2)) a17_ = 21 ∧ (vp_in x1 (q_N (qs_A S a8_ xs1.toNatClampNeg (vp_nar .boolean xs2)) a17_) ∧ (∀ S21_ : q_S, S21_ = (qs_A (qs_A S a8_ xs1.toNatClampNeg (vp_nar .boolean xs2)) a17_ x1.toNatClampNeg (x2 + (q_A (qs_A S a8_ xs1.toNatClampNeg (vp_nar .boolean xs2)) a13_ x1.toNatClampNeg))) → (wm_X12_isReady S21_ a0 x1 (fun r22_ S23_ => r22_ = none ∧ (q_K S23_ a0 = 13 ∧ (((x2 ≤ (q_I S23_ 2463 a0) → (wb_X12_startsAt_113 S23_ a0 x1 Q)) ∧ (¬ x2 ≤ (q_I S23_ 2463 a0) → (∃ a26_ : Nat, (q_P S23_ 2467 a0) = some a26_ ∧ (q_K S23_ a26_ = 21 ∧ (vp_in x1 (q_N S23_ a26_) ∧ (∃ a30_ : Nat, (q_P (qs_A S23_ a26_ x1.toNatClampNeg (2 : Int32)) 2472 a0) = some a30_ ∧ (q_K (qs_A S23_ a26_ x1.toNatClampNeg (2 : Int32)) a30_ = 21 ∧ (vp_in x1 (q_N (qs_A S23_ a26_ x1.toNatClampNeg (2 : Int32)) a30_) ∧ (wb_X12_startsAt_113 (qs_A (qs_A S23_ a26_ x1.toNatClampNeg (2 : Int32)) a30_ x1.toNatClampNeg x2) a0 x1 Q)))))))))))))))))))))))
set_option maxHeartbeats 4000000 in
set_option maxRecDepth 100000 in
theorem cb_X12_startsAt_71 {p : Program} {l : Launch} {e : Env} {s : State} {m : MethodId} {args : Array Value} {below : List Frame} {meth : Method} {c : Code} {D : va_G} {cy : Nat → ClassId} {lo : Nat}  {S : q_S} {a0 : Nat} {x1 : Int32} {x2 : Int32} {rs0 : Option Nat} {xs1 : Int32} {xs2 : Int32} {Q : Option Value → q_S → Prop} {H : Heap} {locs : List Loc} {ls : Array Slot} (X : q_X p s m args meth c RX12 cX12_startsAt 4 none D cy lo)  (Y : q_Y D cy lo s S H locs) (hl : lv_has ls 4 [(0, .ref a0), (1, .int x1), (2, .int x2)]) (h : wb_X12_startsAt_71 S a0 x1 x2 rs0 xs1 xs2 Q) : W p l e ({ frames := 1, cells := 0, slots := 0, locals := 21 } : Room) s m args below meth c H locs 0 0 (MQ below (q_Q D cy lo Q) args s 0 0 (fun q => lo ≤ q)) (F0 m 71 ls [.int xs2, .int xs1, va_rf rs0]) := by
  have hx := X.1
  have hb := X.2.1
  unfold wb_X12_startsAt_71 at h
  obtain ⟨a8_, e9_, h⟩ := h
  refine q_nn [.int xs2, .int xs1] e9_ ?_
  obtain ⟨k10_, h⟩ := h
  obtain ⟨i11_, h⟩ := h
  refine q_zst X Y k10_ i11_ dX12_startsAt_71 (fun H locs Y => ?_)
  refine lv_aload_n hx hb dX12_startsAt_72 rfl (lv_at hl 0 rfl) ?_
  obtain ⟨k12_, h⟩ := h
  refine q_getP X Y kX12 71 rfl fl_X12_161 k12_ rfl dX12_startsAt_73 ?_
  refine lv_iload_n hx hb dX12_startsAt_76 rfl (lv_at hl 1 rfl) ?_
  refine lv_iload_n hx hb dX12_startsAt_77 rfl (lv_at hl 2 rfl) ?_
  refine lv_aload_n hx hb dX12_startsAt_78 rfl (lv_at hl 0 rfl) ?_
  refine q_getP X Y kX12 39 rfl fl_X12_72 k12_ rfl dX12_startsAt_79 ?_
  refine lv_iload_n hx hb dX12_startsAt_82 rfl (lv_at hl 1 rfl) ?_
  obtain ⟨a13_, e14_, h⟩ := h
  refine q_nn [.int x1] e14_ ?_
  obtain ⟨k15_, h⟩ := h
  obtain ⟨i16_, h⟩ := h
  refine q_ild X Y k15_ i16_ dX12_startsAt_83 ?_
  refine lv_iadd hx hb dX12_startsAt_84 ?_
  obtain ⟨a17_, e18_, h⟩ := h
  refine q_nn [.int (x2 + (q_A (qs_A S a8_ xs1.toNatClampNeg (vp_nar .boolean xs2)) a13_ x1.toNatClampNeg)), .int x1] e18_ ?_
  obtain ⟨k19_, h⟩ := h
  obtain ⟨i20_, h⟩ := h
  refine q_ist X Y k19_ i20_ dX12_startsAt_85 (fun H locs Y => ?_)
  obtain ⟨S21_, gS21_⟩ : ∃ z : q_S, z = (qs_A (qs_A S a8_ xs1.toNatClampNeg (vp_nar .boolean xs2)) a17_ x1.toNatClampNeg (x2 + (q_A (qs_A S a8_ xs1.toNatClampNeg (vp_nar .boolean xs2)) a13_ x1.toNatClampNeg))) := ⟨_, rfl⟩
  replace Y : q_Y D cy lo s S21_ H locs := by rw [gS21_]; exact Y
  replace h := h S21_ gS21_
  replace k10_ : q_K S21_ a8_ = 22 := by rw [gS21_]; exact k10_
  replace k12_ : q_K S21_ a0 = 13 := by rw [gS21_]; exact k12_
  replace k15_ : q_K S21_ a13_ = 21 := by rw [gS21_]; exact k15_
  replace k19_ : q_K S21_ a17_ = 21 := by rw [gS21_]; exact k19_
  refine lv_aload_n hx hb dX12_startsAt_86 rfl (lv_at hl 0 rfl) ?_
  refine lv_iload_n hx hb dX12_startsAt_87 rfl (lv_at hl 1 rfl) ?_
  refine q_callV X Y hl (cm_X12_isReady h) mt_X12_isReady mi_X12_isReady ml_X12_484 (ci := 12) rfl k12_ (by decide) rfl rfl (by first | exact Nat.le_of_ble_eq_true rfl | simp [q_cat, q_catI, q_catJ, q_catR]) ⟨Nat.le_of_ble_eq_true rfl, Nat.le_of_ble_eq_true rfl⟩ ⟨Nat.le_of_ble_eq_true rfl, Nat.le_of_ble_eq_true rfl⟩ dX12_startsAt_88 (fun r22_ S23_ H locs hp Y => ?_)
  obtain ⟨rfl, h⟩ := hp
  refine W.eq (g2 := F0 m 91 ls []) rfl ?_
  refine lv_iload_n hx hb dX12_startsAt_91 rfl (lv_at hl 2 rfl) ?_
  refine lv_aload_n hx hb dX12_startsAt_92 rfl (lv_at hl 0 rfl) ?_
  obtain ⟨k24_, h⟩ := h
  refine q_getI X Y kX12 63 rfl fl_X12_453 k24_ dX12_startsAt_93 ?_
  refine lv_icmp_le (tgt := 113) hx hb dX12_startsAt_96 (by decide) (fun c25_ => ?_) (fun c25_ => ?_)
  · replace h := h.1 c25_
    exact cb_X12_startsAt_113 X Y (lv_sub hl [0, 1] rfl) h
  · replace h := h.2 c25_
    refine lv_aload_n hx hb dX12_startsAt_99 rfl (lv_at hl 0 rfl) ?_
    refine q_getP X Y kX12 67 rfl fl_X12_149 k24_ rfl dX12_startsAt_100 ?_
    refine lv_iload_n hx hb dX12_startsAt_103 rfl (lv_at hl 1 rfl) ?_
    refine lv_iconst (v := 2) hx hb dX12_startsAt_104 (by decide) ?_
    obtain ⟨a26_, e27_, h⟩ := h
    refine q_nn [.int (2 : Int32), .int x1] e27_ ?_
    obtain ⟨k28_, h⟩ := h
    obtain ⟨i29_, h⟩ := h
    refine q_ist X Y k28_ i29_ dX12_startsAt_105 (fun H locs Y => ?_)
    refine lv_aload_n hx hb dX12_startsAt_106 rfl (lv_at hl 0 rfl) ?_
    refine q_getP X Y kX12 72 rfl fl_X12_164 k24_ rfl dX12_startsAt_107 ?_
    refine lv_iload_n hx hb dX12_startsAt_110 rfl (lv_at hl 1 rfl) ?_
    refine lv_iload_n hx hb dX12_startsAt_111 rfl (lv_at hl 2 rfl) ?_
    obtain ⟨a30_, e31_, h⟩ := h
    refine q_nn [.int x2, .int x1] e31_ ?_
    obtain ⟨k32_, h⟩ := h
    obtain ⟨i33_, h⟩ := h
    refine q_ist X Y k32_ i33_ dX12_startsAt_112 (fun H locs Y => ?_)
    exact cb_X12_startsAt_113 X Y (lv_sub hl [0, 1] rfl) h
def wb_X12_startsAt_2 (B2 : q_S → Nat → Int32 → Int32 → Int32 → Prop) (S : q_S) (a0 : Nat) (x1 : Int32) (x2 : Int32) (x3 : Int32) (Q : Option Value → q_S → Prop) : Prop := (((32 : Int32) ≤ x3 → (q_K S a0 = 13 ∧ (∃ a36_ : Nat, (q_P S 2436 a0) = some a36_ ∧ (q_K S a36_ = 21 ∧ (vp_in x1 (q_N S a36_) ∧ (∃ a40_ : Nat, (q_P S 2468 a0) = some a40_ ∧ (q_K S a40_ = 21 ∧ (vp_in x1 (q_N S a40_) ∧ (∃ a44_ : Nat, (q_P (qs_A S a40_ x1.toNatClampNeg (q_A S a36_ x1.toNatClampNeg)) 2475 a0) = some a44_ ∧ (q_K (qs_A S a40_ x1.toNatClampNeg (q_A S a36_ x1.toNatClampNeg)) a44_ = 22 ∧ (vp_in x1 (q_N (qs_A S a40_ x1.toNatClampNeg (q_A S a36_ x1.toNatClampNeg)) a44_) ∧ (∃ a48_ : Nat, (q_P (qs_A (qs_A S a40_ x1.toNatClampNeg (q_A S a36_ x1.toNatClampNeg)) a44_ x1.toNatClampNeg (vp_nar .boolean (0 : Int32))) 2473 a0) = some a48_ ∧ (q_K (qs_A (qs_A S a40_ x1.toNatClampNeg (q_A S a36_ x1.toNatClampNeg)) a44_ x1.toNatClampNeg (vp_nar .boolean (0 : Int32))) a48_ = 21 ∧ (vp_in x1 (q_N (qs_A (qs_A S a40_ x1.toNatClampNeg (q_A S a36_ x1.toNatClampNeg)) a44_ x1.toNatClampNeg (vp_nar .boolean (0 : Int32))) a48_) ∧ (∀ S52_ : q_S, S52_ = (qs_A (qs_A (qs_A S a40_ x1.toNatClampNeg (q_A S a36_ x1.toNatClampNeg)) a44_ x1.toNatClampNeg (vp_nar .boolean (0 : Int32))) a48_ x1.toNatClampNeg x2) → (∃ a53_ : Nat, (q_P S52_ 2439 a0) = some a53_ ∧ (q_K S52_ a53_ = 21 ∧ (vp_in x1 (q_N S52_ a53_) ∧ ((((q_A S52_ a53_ x1.toNatClampNeg) ≤ 0 → (wb_X12_startsAt_71 S52_ a0 x1 x2 (q_P S52_ 2470 a0) x1 (0 : Int32) Q)) ∧ (¬ (q_A S52_ a53_ x1.toNatClampNeg) ≤ 0 → (wb_X12_startsAt_71 S52_ a0 x1 x2 (q_P S52_ 2470 a0) x1 (1 : Int32) Q)))))))))))))))))))))) ∧ (¬ (32 : Int32) ≤ x3 → (q_K S a0 = 13 ∧ (∃ a59_ : Nat, (q_P S 2477 a0) = some a59_ ∧ (q_K S a59_ = 21 ∧ (vp_in (((32 : Int32) * x1) + x3) (q_N S a59_) ∧ (B2 (qs_A S a59_ (((32 : Int32) * x1) + x3).toNatClampNeg (0 : Int32)) a0 x1 x2 (x3 + 1))))))))
set_option maxHeartbeats 4000000 in
set_option maxRecDepth 100000 in
theorem cb_X12_startsAt_2 {p : Program} {l : Launch} {e : Env} {s : State} {m : MethodId} {args : Array Value} {below : List Frame} {meth : Method} {c : Code} {D : va_G} {cy : Nat → ClassId} {lo : Nat} {B2 : q_S → Nat → Int32 → Int32 → Int32 → Prop} {S : q_S} {a0 : Nat} {x1 : Int32} {x2 : Int32} {x3 : Int32} {Q : Option Value → q_S → Prop} {H : Heap} {locs : List Loc} {ls : Array Slot} (X : q_X p s m args meth c RX12 cX12_startsAt 4 none D cy lo) (hB2 : ∀ (S : q_S) (a0 : Nat) (x1 : Int32) (x2 : Int32) (x3 : Int32) (H : Heap) (locs : List Loc) (ls : Array Slot), B2 S a0 x1 x2 x3 → q_Y D cy lo s S H locs → lv_has ls 4 [(0, .ref a0), (1, .int x1), (2, .int x2), (3, .int x3)] → W p l e ({ frames := 1, cells := 0, slots := 0, locals := 21 } : Room) s m args below meth c H locs 0 0 (MQ below (q_Q D cy lo Q) args s 0 0 (fun q => lo ≤ q)) (F0 m 2 ls [])) (Y : q_Y D cy lo s S H locs) (hl : lv_has ls 4 [(0, .ref a0), (1, .int x1), (2, .int x2), (3, .int x3)]) (h : wb_X12_startsAt_2 B2 S a0 x1 x2 x3 Q) : W p l e ({ frames := 1, cells := 0, slots := 0, locals := 21 } : Room) s m args below meth c H locs 0 0 (MQ below (q_Q D cy lo Q) args s 0 0 (fun q => lo ≤ q)) (F0 m 2 ls []) := by
  have hx := X.1
  have hb := X.2.1
  unfold wb_X12_startsAt_2 at h
  refine lv_iload_n hx hb dX12_startsAt_2 rfl (lv_at hl 3 rfl) ?_
  refine lv_bipush (v := 32) hx hb dX12_startsAt_3 (by decide) ?_
  refine lv_icmp_ge (tgt := 26) hx hb dX12_startsAt_5 (by decide) (fun c34_ => ?_) (fun c34_ => ?_)
  · replace h := h.1 c34_
    refine lv_aload_n hx hb dX12_startsAt_26 rfl (lv_at hl 0 rfl) ?_
    obtain ⟨k35_, h⟩ := h
    refine q_getP X Y kX12 68 rfl fl_X12_152 k35_ rfl dX12_startsAt_27 ?_
    refine lv_iload_n hx hb dX12_startsAt_30 rfl (lv_at hl 1 rfl) ?_
    refine lv_aload_n hx hb dX12_startsAt_31 rfl (lv_at hl 0 rfl) ?_
    refine q_getP X Y kX12 36 rfl fl_X12_63 k35_ rfl dX12_startsAt_32 ?_
    refine lv_iload_n hx hb dX12_startsAt_35 rfl (lv_at hl 1 rfl) ?_
    obtain ⟨a36_, e37_, h⟩ := h
    refine q_nn [.int x1] e37_ ?_
    obtain ⟨k38_, h⟩ := h
    obtain ⟨i39_, h⟩ := h
    refine q_ild X Y k38_ i39_ dX12_startsAt_36 ?_
    obtain ⟨a40_, e41_, h⟩ := h
    refine q_nn [.int (q_A S a36_ x1.toNatClampNeg), .int x1] e41_ ?_
    obtain ⟨k42_, h⟩ := h
    obtain ⟨i43_, h⟩ := h
    refine q_ist X Y k42_ i43_ dX12_startsAt_37 (fun H locs Y => ?_)
    refine lv_aload_n hx hb dX12_startsAt_38 rfl (lv_at hl 0 rfl) ?_
    refine q_getP X Y kX12 75 rfl fl_X12_173 k35_ rfl dX12_startsAt_39 ?_
    refine lv_iload_n hx hb dX12_startsAt_42 rfl (lv_at hl 1 rfl) ?_
    refine lv_iconst (v := 0) hx hb dX12_startsAt_43 (by decide) ?_
    obtain ⟨a44_, e45_, h⟩ := h
    refine q_nn [.int (0 : Int32), .int x1] e45_ ?_
    obtain ⟨k46_, h⟩ := h
    obtain ⟨i47_, h⟩ := h
    refine q_zst X Y k46_ i47_ dX12_startsAt_44 (fun H locs Y => ?_)
    refine lv_aload_n hx hb dX12_startsAt_45 rfl (lv_at hl 0 rfl) ?_
    refine q_getP X Y kX12 73 rfl fl_X12_167 k35_ rfl dX12_startsAt_46 ?_
    refine lv_iload_n hx hb dX12_startsAt_49 rfl (lv_at hl 1 rfl) ?_
    refine lv_iload_n hx hb dX12_startsAt_50 rfl (lv_at hl 2 rfl) ?_
    obtain ⟨a48_, e49_, h⟩ := h
    refine q_nn [.int x2, .int x1] e49_ ?_
    obtain ⟨k50_, h⟩ := h
    obtain ⟨i51_, h⟩ := h
    refine q_ist X Y k50_ i51_ dX12_startsAt_51 (fun H locs Y => ?_)
    obtain ⟨S52_, gS52_⟩ : ∃ z : q_S, z = (qs_A (qs_A (qs_A S a40_ x1.toNatClampNeg (q_A S a36_ x1.toNatClampNeg)) a44_ x1.toNatClampNeg (vp_nar .boolean (0 : Int32))) a48_ x1.toNatClampNeg x2) := ⟨_, rfl⟩
    replace Y : q_Y D cy lo s S52_ H locs := by rw [gS52_]; exact Y
    replace h := h S52_ gS52_
    replace k35_ : q_K S52_ a0 = 13 := by rw [gS52_]; exact k35_
    replace k38_ : q_K S52_ a36_ = 21 := by rw [gS52_]; exact k38_
    replace k42_ : q_K S52_ a40_ = 21 := by rw [gS52_]; exact k42_
    replace k46_ : q_K S52_ a44_ = 22 := by rw [gS52_]; exact k46_
    replace k50_ : q_K S52_ a48_ = 21 := by rw [gS52_]; exact k50_
    refine lv_aload_n hx hb dX12_startsAt_52 rfl (lv_at hl 0 rfl) ?_
    refine q_getP X Y kX12 70 rfl fl_X12_158 k35_ rfl dX12_startsAt_53 ?_
    refine lv_iload_n hx hb dX12_startsAt_56 rfl (lv_at hl 1 rfl) ?_
    refine lv_aload_n hx hb dX12_startsAt_57 rfl (lv_at hl 0 rfl) ?_
    refine q_getP X Y kX12 39 rfl fl_X12_72 k35_ rfl dX12_startsAt_58 ?_
    refine lv_iload_n hx hb dX12_startsAt_61 rfl (lv_at hl 1 rfl) ?_
    obtain ⟨a53_, e54_, h⟩ := h
    refine q_nn [.int x1] e54_ ?_
    obtain ⟨k55_, h⟩ := h
    obtain ⟨i56_, h⟩ := h
    refine q_ild X Y k55_ i56_ dX12_startsAt_62 ?_
    refine lv_if_le (tgt := 70) hx hb dX12_startsAt_63 (by decide) (fun c57_ => ?_) (fun c57_ => ?_)
    · replace h := h.1 c57_
      refine lv_iconst (v := 0) hx hb dX12_startsAt_70 (by decide) ?_
      exact cb_X12_startsAt_71 X Y (lv_sub hl [0, 1, 2] rfl) h
    · replace h := h.2 c57_
      refine lv_iconst (v := 1) hx hb dX12_startsAt_66 (by decide) ?_
      refine lv_goto (tgt := 71) hx hb dX12_startsAt_67 (by decide) ?_
      exact cb_X12_startsAt_71 X Y (lv_sub hl [0, 1, 2] rfl) h
  · replace h := h.2 c34_
    refine lv_aload_n hx hb dX12_startsAt_8 rfl (lv_at hl 0 rfl) ?_
    obtain ⟨k58_, h⟩ := h
    refine q_getP X Y kX12 77 rfl fl_X12_179 k58_ rfl dX12_startsAt_9 ?_
    refine lv_bipush (v := 32) hx hb dX12_startsAt_12 (by decide) ?_
    refine lv_iload_n hx hb dX12_startsAt_14 rfl (lv_at hl 1 rfl) ?_
    refine lv_imul hx hb dX12_startsAt_15 ?_
    refine lv_iload_n hx hb dX12_startsAt_16 rfl (lv_at hl 3 rfl) ?_
    refine lv_iadd hx hb dX12_startsAt_17 ?_
    refine lv_iconst (v := 0) hx hb dX12_startsAt_18 (by decide) ?_
    obtain ⟨a59_, e60_, h⟩ := h
    refine q_nn [.int (0 : Int32), .int (((32 : Int32) * x1) + x3)] e60_ ?_
    obtain ⟨k61_, h⟩ := h
    obtain ⟨i62_, h⟩ := h
    refine q_ist X Y k61_ i62_ dX12_startsAt_19 (fun H locs Y => ?_)
    refine lv_iinc (v := (x3 + 1)) (lv' := [(3, .int (x3 + 1)), (0, .ref a0), (1, .int x1), (2, .int x2)]) hx hb dX12_startsAt_20 hl (k := 3) rfl (by first | rfl | decide) (by decide) (by first | rfl | simp [q_cat, q_catI, q_catJ, q_catR]) (fun ls hl => ?_)
    refine lv_goto (tgt := 2) hx hb dX12_startsAt_23 (by decide) ?_
    exact hB2 _ _ _ _ _ _ _ _ h Y (lv_sub hl [1, 2, 3, 0] rfl)
def wl_X12_startsAt_2  : Nat → q_S → Nat → Int32 → Int32 → Int32 → (Option Value → q_S → Prop) → Prop
  | 0, _, _, _, _, _, _ => False
  | n + 1, S, a0, x1, x2, x3, Q => wb_X12_startsAt_2 (fun S a0 x1 x2 x3 => wl_X12_startsAt_2 n S a0 x1 x2 x3 Q) S a0 x1 x2 x3 Q
set_option maxHeartbeats 4000000 in
set_option maxRecDepth 100000 in
theorem cl_X12_startsAt_2 {p : Program} {l : Launch} {e : Env} {s : State} {m : MethodId} {args : Array Value} {below : List Frame} {meth : Method} {c : Code} {D : va_G} {cy : Nat → ClassId} {lo : Nat}  {Q : Option Value → q_S → Prop} (X : q_X p s m args meth c RX12 cX12_startsAt 4 none D cy lo)  : ∀ (n : Nat) (S : q_S) (a0 : Nat) (x1 : Int32) (x2 : Int32) (x3 : Int32) (H : Heap) (locs : List Loc) (ls : Array Slot), wl_X12_startsAt_2 n S a0 x1 x2 x3 Q → q_Y D cy lo s S H locs → lv_has ls 4 [(0, .ref a0), (1, .int x1), (2, .int x2), (3, .int x3)] → W p l e ({ frames := 1, cells := 0, slots := 0, locals := 21 } : Room) s m args below meth c H locs 0 0 (MQ below (q_Q D cy lo Q) args s 0 0 (fun q => lo ≤ q)) (F0 m 2 ls []) := by
  intro n
  induction n with
  | zero => intro S a0 x1 x2 x3 H locs ls h; exact absurd h id
  | succ n ih => intro S a0 x1 x2 x3 H locs ls h Y hl; exact cb_X12_startsAt_2 X ih Y hl h
def wm_X12_startsAt (S : q_S) (a0 : Nat) (x1 : Int32) (x2 : Int32) (Q : Option Value → q_S → Prop) : Prop := ∃ n63_ : Nat, wl_X12_startsAt_2 n63_ S a0 x1 x2 (0 : Int32) Q
set_option maxHeartbeats 4000000 in
set_option maxRecDepth 100000 in
theorem cm_X12_startsAt {l : Launch} {D : va_G} {cy : Nat → ClassId} {lo : Nat} {S : q_S} {a0 : Nat} {x1 : Int32} {x2 : Int32} {Q : Option Value → q_S → Prop} (h : wm_X12_startsAt S a0 x1 x2 Q) : q_Met l D cy lo yX12_startsAt cX12_startsAt 4 none 1 21 0 0 [.ref a0, .int x1, .int x2] S Q := by
  refine q_body (by decide) (by first | exact Nat.le_of_ble_eq_true rfl | simp [lg_sl, q_cat, q_catI, q_catJ, q_catR]) ?_
  intro p e s m below meth c ls X hnm Y hl
  have hx := X.1
  have hb := X.2.1
  have hl : lv_has ls 4 [(0, .ref a0), (1, .int x1), (2, .int x2)] := by first | exact hl | simpa [lv_args, q_cat, q_catI, q_catJ, q_catR] using hl
  generalize hargs : ([.ref a0, .int x1, .int x2] : List Value).toArray = args at X ⊢
  unfold wm_X12_startsAt at h
  refine lv_iconst (v := 0) hx hb dX12_startsAt_0 (by decide) ?_
  refine lv_istore_n (i := 3) (lv' := [(3, .int (0 : Int32)), (0, .ref a0), (1, .int x1), (2, .int x2)]) hx hb dX12_startsAt_1 rfl hl (by decide) (by first | rfl | simp [q_cat, q_catI, q_catJ, q_catR]) (fun ls hl => ?_)
  obtain ⟨n63_, h⟩ := h
  exact cl_X12_startsAt_2 X n63_ _ _ _ _ _ _ _ _ h Y (lv_sub hl [1, 2, 3, 0] rfl)
-- X12_begins
theorem ml_X12_499 : Cond.methodLink RX12 499 yX12_lastOf ∈ q_G := q_tb (i := 2248) (by decide +kernel) (by decide +kernel)
theorem mt_X12_lastOf : q_Mt yX12_lastOf cX12_lastOf 2 (some .int) 1 := ⟨q_tb (i := 2251) (by decide +kernel) (by decide +kernel), q_tb (i := 11) (by decide +kernel) (by decide +kernel), by decide +kernel, by decide +kernel, by decide +kernel⟩
theorem mi_X12_lastOf : Cond.instanceMethod yX12_lastOf ∈ q_G ∧ Cond.selects yX12_lastOf.cls yX12_lastOf yX12_lastOf ∈ q_G := ⟨q_tb (i := 2250) (by decide +kernel) (by decide +kernel), q_tp (i := 119) (q := (yX12_lastOf, 114)) (by decide +kernel) (by decide +kernel)⟩
theorem ml_X12_493 : Cond.methodLink RX12 493 yX12_isHandler ∈ q_G := q_tb (i := 2264) (by decide +kernel) (by decide +kernel)
theorem mt_X12_isHandler : q_Mt yX12_isHandler cX12_isHandler 2 (some .boolean) 1 := ⟨q_tb (i := 2267) (by decide +kernel) (by decide +kernel), q_tb (i := 11) (by decide +kernel) (by decide +kernel), by decide +kernel, by decide +kernel, by decide +kernel⟩
theorem mi_X12_isHandler : Cond.instanceMethod yX12_isHandler ∈ q_G ∧ Cond.selects yX12_isHandler.cls yX12_isHandler yX12_isHandler ∈ q_G := ⟨q_tb (i := 2266) (by decide +kernel) (by decide +kernel), q_tp (i := 123) (q := (yX12_isHandler, 114)) (by decide +kernel) (by decide +kernel)⟩
theorem ml_X12_502 : Cond.methodLink RX12 502 yX12_startsAt ∈ q_G := q_tb (i := 2268) (by decide +kernel) (by decide +kernel)
theorem mt_X12_startsAt : q_Mt yX12_startsAt cX12_startsAt 4 none 2 := ⟨q_tb (i := 2271) (by decide +kernel) (by decide +kernel), q_tb (i := 11) (by decide +kernel) (by decide +kernel), by decide +kernel, by decide +kernel, by decide +kernel⟩
theorem mi_X12_startsAt : Cond.instanceMethod yX12_startsAt ∈ q_G ∧ Cond.selects yX12_startsAt.cls yX12_startsAt yX12_startsAt ∈ q_G := ⟨q_tb (i := 2270) (by decide +kernel) (by decide +kernel), q_tp (i := 124) (q := (yX12_startsAt, 114)) (by decide +kernel) (by decide +kernel)⟩
theorem ml_X12_490 : Cond.methodLink RX12 490 yX12_sleeps ∈ q_G := q_tb (i := 2252) (by decide +kernel) (by decide +kernel)
theorem mt_X12_sleeps : q_Mt yX12_sleeps cX12_sleeps 2 none 1 := ⟨q_tb (i := 2255) (by decide +kernel) (by decide +kernel), q_tb (i := 11) (by decide +kernel) (by decide +kernel), by decide +kernel, by decide +kernel, by decide +kernel⟩
theorem mi_X12_sleeps : Cond.instanceMethod yX12_sleeps ∈ q_G ∧ Cond.selects yX12_sleeps.cls yX12_sleeps yX12_sleeps ∈ q_G := ⟨q_tb (i := 2254) (by decide +kernel) (by decide +kernel), q_tp (i := 120) (q := (yX12_sleeps, 114)) (by decide +kernel) (by decide +kernel)⟩
theorem dX12_begins_0 : decode cX12_begins 0 = .ok (.aload_n 0, 1) := by decide +kernel
theorem dX12_begins_1 : decode cX12_begins 1 = .ok (.getfield 197, 3) := by decide +kernel
theorem dX12_begins_4 : decode cX12_begins 4 = .ok (.iload_n 1, 1) := by decide +kernel
theorem dX12_begins_5 : decode cX12_begins 5 = .ok (.iconst 0, 1) := by decide +kernel
theorem dX12_begins_6 : decode cX12_begins 6 = .ok (.iastore, 1) := by decide +kernel
theorem dX12_begins_7 : decode cX12_begins 7 = .ok (.aload_n 0, 1) := by decide +kernel
theorem dX12_begins_8 : decode cX12_begins 8 = .ok (.getfield 200, 3) := by decide +kernel
theorem dX12_begins_11 : decode cX12_begins 11 = .ok (.iload_n 1, 1) := by decide +kernel
theorem dX12_begins_12 : decode cX12_begins 12 = .ok (.iload_n 2, 1) := by decide +kernel
theorem dX12_begins_13 : decode cX12_begins 13 = .ok (.iastore, 1) := by decide +kernel
theorem dX12_begins_14 : decode cX12_begins 14 = .ok (.aload_n 0, 1) := by decide +kernel
theorem dX12_begins_15 : decode cX12_begins 15 = .ok (.getfield 203, 3) := by decide +kernel
theorem dX12_begins_18 : decode cX12_begins 18 = .ok (.iload_n 1, 1) := by decide +kernel
theorem dX12_begins_19 : decode cX12_begins 19 = .ok (.dup2, 1) := by decide +kernel
theorem dX12_begins_20 : decode cX12_begins 20 = .ok (.iaload, 1) := by decide +kernel
theorem dX12_begins_21 : decode cX12_begins 21 = .ok (.iconst 1, 1) := by decide +kernel
theorem dX12_begins_22 : decode cX12_begins 22 = .ok (.iadd, 1) := by decide +kernel
theorem dX12_begins_23 : decode cX12_begins 23 = .ok (.iastore, 1) := by decide +kernel
theorem dX12_begins_24 : decode cX12_begins 24 = .ok (.aload_n 0, 1) := by decide +kernel
theorem dX12_begins_25 : decode cX12_begins 25 = .ok (.getfield 206, 3) := by decide +kernel
theorem dX12_begins_28 : decode cX12_begins 28 = .ok (.iload_n 1, 1) := by decide +kernel
theorem dX12_begins_29 : decode cX12_begins 29 = .ok (.iconst 0, 1) := by decide +kernel
theorem dX12_begins_30 : decode cX12_begins 30 = .ok (.iastore, 1) := by decide +kernel
theorem dX12_begins_31 : decode cX12_begins 31 = .ok (.aload_n 0, 1) := by decide +kernel
theorem dX12_begins_32 : decode cX12_begins 32 = .ok (.getfield 212, 3) := by decide +kernel
theorem dX12_begins_35 : decode cX12_begins 35 = .ok (.iload_n 1, 1) := by decide +kernel
theorem dX12_begins_36 : decode cX12_begins 36 = .ok (.iconst (-1), 1) := by decide +kernel
theorem dX12_begins_37 : decode cX12_begins 37 = .ok (.iastore, 1) := by decide +kernel
theorem dX12_begins_38 : decode cX12_begins 38 = .ok (.aload_n 0, 1) := by decide +kernel
theorem dX12_begins_39 : decode cX12_begins 39 = .ok (.iload_n 1, 1) := by decide +kernel
theorem dX12_begins_40 : decode cX12_begins 40 = .ok (.invokevirtual 447, 3) := by decide +kernel
theorem dX12_begins_43 : decode cX12_begins 43 = .ok (.iconst 0, 1) := by decide +kernel
theorem dX12_begins_44 : decode cX12_begins 44 = .ok (.istore 4, 2) := by decide +kernel
theorem dX12_begins_46 : decode cX12_begins 46 = .ok (.iload 4, 2) := by decide +kernel
theorem dX12_begins_48 : decode cX12_begins 48 = .ok (.aload_n 0, 1) := by decide +kernel
theorem dX12_begins_49 : decode cX12_begins 49 = .ok (.getfield 30, 3) := by decide +kernel
theorem dX12_begins_52 : decode cX12_begins 52 = .ok (.iload_n 1, 1) := by decide +kernel
theorem dX12_begins_53 : decode cX12_begins 53 = .ok (.iaload, 1) := by decide +kernel
theorem dX12_begins_54 : decode cX12_begins 54 = .ok (.if_icmp .ge 39, 3) := by decide +kernel
theorem dX12_begins_57 : decode cX12_begins 57 = .ok (.iload_n 3, 1) := by decide +kernel
theorem dX12_begins_58 : decode cX12_begins 58 = .ok (.ifCond .eq 35, 3) := by decide +kernel
theorem dX12_begins_61 : decode cX12_begins 61 = .ok (.aload_n 0, 1) := by decide +kernel
theorem dX12_begins_62 : decode cX12_begins 62 = .ok (.getfield 146, 3) := by decide +kernel
theorem dX12_begins_65 : decode cX12_begins 65 = .ok (.sipush 8192, 3) := by decide +kernel
theorem dX12_begins_68 : decode cX12_begins 68 = .ok (.iload_n 1, 1) := by decide +kernel
theorem dX12_begins_69 : decode cX12_begins 69 = .ok (.imul, 1) := by decide +kernel
theorem dX12_begins_70 : decode cX12_begins 70 = .ok (.iload 4, 2) := by decide +kernel
theorem dX12_begins_72 : decode cX12_begins 72 = .ok (.iadd, 1) := by decide +kernel
theorem dX12_begins_73 : decode cX12_begins 73 = .ok (.aload_n 0, 1) := by decide +kernel
theorem dX12_begins_74 : decode cX12_begins 74 = .ok (.getfield 143, 3) := by decide +kernel
theorem dX12_begins_77 : decode cX12_begins 77 = .ok (.sipush 8192, 3) := by decide +kernel
theorem dX12_begins_80 : decode cX12_begins 80 = .ok (.iload_n 1, 1) := by decide +kernel
theorem dX12_begins_81 : decode cX12_begins 81 = .ok (.imul, 1) := by decide +kernel
theorem dX12_begins_82 : decode cX12_begins 82 = .ok (.iload 4, 2) := by decide +kernel
theorem dX12_begins_84 : decode cX12_begins 84 = .ok (.iadd, 1) := by decide +kernel
theorem dX12_begins_85 : decode cX12_begins 85 = .ok (.baload, 1) := by decide +kernel
theorem dX12_begins_86 : decode cX12_begins 86 = .ok (.bastore, 1) := by decide +kernel
theorem dX12_begins_87 : decode cX12_begins 87 = .ok (.iinc 4 1, 3) := by decide +kernel
theorem dX12_begins_90 : decode cX12_begins 90 = .ok (.goto (-44), 3) := by decide +kernel
theorem dX12_begins_93 : decode cX12_begins 93 = .ok (.bipush 16, 2) := by decide +kernel
theorem dX12_begins_95 : decode cX12_begins 95 = .ok (.iload_n 1, 1) := by decide +kernel
theorem dX12_begins_96 : decode cX12_begins 96 = .ok (.imul, 1) := by decide +kernel
theorem dX12_begins_97 : decode cX12_begins 97 = .ok (.istore 4, 2) := by decide +kernel
theorem dX12_begins_99 : decode cX12_begins 99 = .ok (.iload 4, 2) := by decide +kernel
theorem dX12_begins_101 : decode cX12_begins 101 = .ok (.aload_n 0, 1) := by decide +kernel
theorem dX12_begins_102 : decode cX12_begins 102 = .ok (.iload_n 1, 1) := by decide +kernel
theorem dX12_begins_103 : decode cX12_begins 103 = .ok (.invokevirtual 499, 3) := by decide +kernel
theorem dX12_begins_106 : decode cX12_begins 106 = .ok (.if_icmp .ge 15, 3) := by decide +kernel
theorem dX12_begins_109 : decode cX12_begins 109 = .ok (.aload_n 0, 1) := by decide +kernel
theorem dX12_begins_110 : decode cX12_begins 110 = .ok (.iload 4, 2) := by decide +kernel
theorem dX12_begins_112 : decode cX12_begins 112 = .ok (.invokevirtual 490, 3) := by decide +kernel
theorem dX12_begins_115 : decode cX12_begins 115 = .ok (.iinc 4 1, 3) := by decide +kernel
theorem dX12_begins_118 : decode cX12_begins 118 = .ok (.goto (-19), 3) := by decide +kernel
theorem dX12_begins_121 : decode cX12_begins 121 = .ok (.bipush 16, 2) := by decide +kernel
theorem dX12_begins_123 : decode cX12_begins 123 = .ok (.iload_n 1, 1) := by decide +kernel
theorem dX12_begins_124 : decode cX12_begins 124 = .ok (.imul, 1) := by decide +kernel
theorem dX12_begins_125 : decode cX12_begins 125 = .ok (.istore 4, 2) := by decide +kernel
theorem dX12_begins_127 : decode cX12_begins 127 = .ok (.iload 4, 2) := by decide +kernel
theorem dX12_begins_129 : decode cX12_begins 129 = .ok (.aload_n 0, 1) := by decide +kernel
theorem dX12_begins_130 : decode cX12_begins 130 = .ok (.iload_n 1, 1) := by decide +kernel
theorem dX12_begins_131 : decode cX12_begins 131 = .ok (.invokevirtual 499, 3) := by decide +kernel
theorem dX12_begins_134 : decode cX12_begins 134 = .ok (.if_icmp .ge 46, 3) := by decide +kernel
theorem dX12_begins_137 : decode cX12_begins 137 = .ok (.aload_n 0, 1) := by decide +kernel
theorem dX12_begins_138 : decode cX12_begins 138 = .ok (.iload 4, 2) := by decide +kernel
theorem dX12_begins_140 : decode cX12_begins 140 = .ok (.invokevirtual 493, 3) := by decide +kernel
theorem dX12_begins_143 : decode cX12_begins 143 = .ok (.ifCond .ne 31, 3) := by decide +kernel
theorem dX12_begins_146 : decode cX12_begins 146 = .ok (.aload_n 0, 1) := by decide +kernel
theorem dX12_begins_147 : decode cX12_begins 147 = .ok (.getfield 78, 3) := by decide +kernel
theorem dX12_begins_150 : decode cX12_begins 150 = .ok (.iload 4, 2) := by decide +kernel
theorem dX12_begins_152 : decode cX12_begins 152 = .ok (.baload, 1) := by decide +kernel
theorem dX12_begins_153 : decode cX12_begins 153 = .ok (.ifCond .ne 21, 3) := by decide +kernel
theorem dX12_begins_156 : decode cX12_begins 156 = .ok (.aload_n 0, 1) := by decide +kernel
theorem dX12_begins_157 : decode cX12_begins 157 = .ok (.iload 4, 2) := by decide +kernel
theorem dX12_begins_159 : decode cX12_begins 159 = .ok (.aload_n 0, 1) := by decide +kernel
theorem dX12_begins_160 : decode cX12_begins 160 = .ok (.getfield 453, 3) := by decide +kernel
theorem dX12_begins_163 : decode cX12_begins 163 = .ok (.aload_n 0, 1) := by decide +kernel
theorem dX12_begins_164 : decode cX12_begins 164 = .ok (.getfield 75, 3) := by decide +kernel
theorem dX12_begins_167 : decode cX12_begins 167 = .ok (.iload 4, 2) := by decide +kernel
theorem dX12_begins_169 : decode cX12_begins 169 = .ok (.iaload, 1) := by decide +kernel
theorem dX12_begins_170 : decode cX12_begins 170 = .ok (.iadd, 1) := by decide +kernel
theorem dX12_begins_171 : decode cX12_begins 171 = .ok (.invokevirtual 502, 3) := by decide +kernel
theorem dX12_begins_174 : decode cX12_begins 174 = .ok (.iinc 4 1, 3) := by decide +kernel
theorem dX12_begins_177 : decode cX12_begins 177 = .ok (.goto (-50), 3) := by decide +kernel
theorem dX12_begins_180 : decode cX12_begins 180 = .ok (.return_, 1) := by decide +kernel
def wb_X12_begins_174 (B127 : q_S → Nat → Int32 → Int32 → Prop) (S : q_S) (a0 : Nat) (x1 : Int32) (x4 : Int32) (Q : Option Value → q_S → Prop) : Prop := B127 S a0 x1 (x4 + 1)
set_option maxHeartbeats 4000000 in
set_option maxRecDepth 100000 in
theorem cb_X12_begins_174 {p : Program} {l : Launch} {e : Env} {s : State} {m : MethodId} {args : Array Value} {below : List Frame} {meth : Method} {c : Code} {D : va_G} {cy : Nat → ClassId} {lo : Nat} {B127 : q_S → Nat → Int32 → Int32 → Prop} {S : q_S} {a0 : Nat} {x1 : Int32} {x4 : Int32} {Q : Option Value → q_S → Prop} {H : Heap} {locs : List Loc} {ls : Array Slot} (X : q_X p s m args meth c RX12 cX12_begins 5 none D cy lo) (hB127 : ∀ (S : q_S) (a0 : Nat) (x1 : Int32) (x4 : Int32) (H : Heap) (locs : List Loc) (ls : Array Slot), B127 S a0 x1 x4 → q_Y D cy lo s S H locs → lv_has ls 5 [(0, .ref a0), (1, .int x1), (4, .int x4)] → W p l e ({ frames := 2, cells := 0, slots := 0, locals := 44 } : Room) s m args below meth c H locs 0 0 (MQ below (q_Q D cy lo Q) args s 0 0 (fun q => lo ≤ q)) (F0 m 127 ls [])) (Y : q_Y D cy lo s S H locs) (hl : lv_has ls 5 [(0, .ref a0), (1, .int x1), (4, .int x4)]) (h : wb_X12_begins_174 B127 S a0 x1 x4 Q) : W p l e ({ frames := 2, cells := 0, slots := 0, locals := 44 } : Room) s m args below meth c H locs 0 0 (MQ below (q_Q D cy lo Q) args s 0 0 (fun q => lo ≤ q)) (F0 m 174 ls []) := by
  have hx := X.1
  have hb := X.2.1
  unfold wb_X12_begins_174 at h
  refine lv_iinc (v := (x4 + 1)) (lv' := [(4, .int (x4 + 1)), (0, .ref a0), (1, .int x1)]) hx hb dX12_begins_174 hl (k := 2) rfl (by first | rfl | decide) (by decide) (by first | rfl | simp [q_cat, q_catI, q_catJ, q_catR]) (fun ls hl => ?_)
  refine lv_goto (tgt := 127) hx hb dX12_begins_177 (by decide) ?_
  exact hB127 _ _ _ _ _ _ _ h Y (lv_sub hl [1, 2, 0] rfl)
def wb_X12_begins_127 (B127 : q_S → Nat → Int32 → Int32 → Prop) (S : q_S) (a0 : Nat) (x1 : Int32) (x4 : Int32) (Q : Option Value → q_S → Prop) : Prop := q_K S a0 = 13 ∧ (wm_X12_lastOf S a0 x1 (fun r2_ S3_ => ∃ x4_ : Int32, r2_ = some (.int x4_) ∧ (((x4_ ≤ x4 → (Q none S3_)) ∧ (¬ x4_ ≤ x4 → (q_K S3_ a0 = 13 ∧ (wm_X12_isHandler S3_ a0 x4 (fun r7_ S8_ => ∃ x9_ : Int32, r7_ = some (.int x9_) ∧ (((¬ x9_ = 0 → (wb_X12_begins_174 B127 S8_ a0 x1 x4 Q)) ∧ (x9_ = 0 → (q_K S8_ a0 = 13 ∧ (∃ a12_ : Nat, (q_P S8_ 2441 a0) = some a12_ ∧ (q_K S8_ a12_ = 22 ∧ (vp_in x4 (q_N S8_ a12_) ∧ (((¬ (q_A S8_ a12_ x4.toNatClampNeg) = 0 → (wb_X12_begins_174 B127 S8_ a0 x1 x4 Q)) ∧ ((q_A S8_ a12_ x4.toNatClampNeg) = 0 → (∃ a17_ : Nat, (q_P S8_ 2440 a0) = some a17_ ∧ (q_K S8_ a17_ = 21 ∧ (vp_in x4 (q_N S8_ a17_) ∧ (wm_X12_startsAt S8_ a0 x4 ((q_I S8_ 2463 a0) + (q_A S8_ a17_ x4.toNatClampNeg)) (fun r21_ S22_ => r21_ = none ∧ (wb_X12_begins_174 B127 S22_ a0 x1 x4 Q))))))))))))))))))))))))
set_option maxHeartbeats 4000000 in
set_option maxRecDepth 100000 in
theorem cb_X12_begins_127 {p : Program} {l : Launch} {e : Env} {s : State} {m : MethodId} {args : Array Value} {below : List Frame} {meth : Method} {c : Code} {D : va_G} {cy : Nat → ClassId} {lo : Nat} {B127 : q_S → Nat → Int32 → Int32 → Prop} {S : q_S} {a0 : Nat} {x1 : Int32} {x4 : Int32} {Q : Option Value → q_S → Prop} {H : Heap} {locs : List Loc} {ls : Array Slot} (X : q_X p s m args meth c RX12 cX12_begins 5 none D cy lo) (hB127 : ∀ (S : q_S) (a0 : Nat) (x1 : Int32) (x4 : Int32) (H : Heap) (locs : List Loc) (ls : Array Slot), B127 S a0 x1 x4 → q_Y D cy lo s S H locs → lv_has ls 5 [(0, .ref a0), (1, .int x1), (4, .int x4)] → W p l e ({ frames := 2, cells := 0, slots := 0, locals := 44 } : Room) s m args below meth c H locs 0 0 (MQ below (q_Q D cy lo Q) args s 0 0 (fun q => lo ≤ q)) (F0 m 127 ls [])) (Y : q_Y D cy lo s S H locs) (hl : lv_has ls 5 [(0, .ref a0), (1, .int x1), (4, .int x4)]) (h : wb_X12_begins_127 B127 S a0 x1 x4 Q) : W p l e ({ frames := 2, cells := 0, slots := 0, locals := 44 } : Room) s m args below meth c H locs 0 0 (MQ below (q_Q D cy lo Q) args s 0 0 (fun q => lo ≤ q)) (F0 m 127 ls []) := by
  have hx := X.1
  have hb := X.2.1
  unfold wb_X12_begins_127 at h
  refine lv_iload hx hb dX12_begins_127 (lv_at hl 2 rfl) ?_
  refine lv_aload_n hx hb dX12_begins_129 rfl (lv_at hl 0 rfl) ?_
  refine lv_iload_n hx hb dX12_begins_130 rfl (lv_at hl 1 rfl) ?_
  obtain ⟨k1_, h⟩ := h
  refine q_callV X Y hl (cm_X12_lastOf h) mt_X12_lastOf mi_X12_lastOf ml_X12_499 (ci := 12) rfl k1_ (by decide) rfl rfl (by first | exact Nat.le_of_ble_eq_true rfl | simp [q_cat, q_catI, q_catJ, q_catR]) ⟨Nat.le_of_ble_eq_true rfl, Nat.le_of_ble_eq_true rfl⟩ ⟨Nat.le_of_ble_eq_true rfl, Nat.le_of_ble_eq_true rfl⟩ dX12_begins_131 (fun r2_ S3_ H locs hp Y => ?_)
  obtain ⟨x4_, rfl, h⟩ := hp
  refine W.eq (g2 := F0 m 134 ls [.int x4_, .int x4]) rfl ?_
  refine lv_icmp_ge (tgt := 180) hx hb dX12_begins_134 (by decide) (fun c5_ => ?_) (fun c5_ => ?_)
  · replace h := h.1 c5_
    exact q_vret X Y (Nat.le_refl _) (Nat.le_refl _) h dX12_begins_180
  · replace h := h.2 c5_
    refine lv_aload_n hx hb dX12_begins_137 rfl (lv_at hl 0 rfl) ?_
    refine lv_iload hx hb dX12_begins_138 (lv_at hl 2 rfl) ?_
    obtain ⟨k6_, h⟩ := h
    refine q_callV X Y hl (cm_X12_isHandler h) mt_X12_isHandler mi_X12_isHandler ml_X12_493 (ci := 12) rfl k6_ (by decide) rfl rfl (by first | exact Nat.le_of_ble_eq_true rfl | simp [q_cat, q_catI, q_catJ, q_catR]) ⟨Nat.le_of_ble_eq_true rfl, Nat.le_of_ble_eq_true rfl⟩ ⟨Nat.le_of_ble_eq_true rfl, Nat.le_of_ble_eq_true rfl⟩ dX12_begins_140 (fun r7_ S8_ H locs hp Y => ?_)
    obtain ⟨x9_, rfl, h⟩ := hp
    refine W.eq (g2 := F0 m 143 ls [.int x9_]) rfl ?_
    refine lv_if_ne (tgt := 174) hx hb dX12_begins_143 (by decide) (fun c10_ => ?_) (fun c10_ => ?_)
    · replace h := h.1 c10_
      exact cb_X12_begins_174 X hB127 Y (lv_sub hl [0, 1, 2] rfl) h
    · replace h := h.2 c10_
      refine lv_aload_n hx hb dX12_begins_146 rfl (lv_at hl 0 rfl) ?_
      obtain ⟨k11_, h⟩ := h
      refine q_getP X Y kX12 41 rfl fl_X12_78 k11_ rfl dX12_begins_147 ?_
      refine lv_iload hx hb dX12_begins_150 (lv_at hl 2 rfl) ?_
      obtain ⟨a12_, e13_, h⟩ := h
      refine q_nn [.int x4] e13_ ?_
      obtain ⟨k14_, h⟩ := h
      obtain ⟨i15_, h⟩ := h
      refine q_zld X Y k14_ i15_ dX12_begins_152 ?_
      refine lv_if_ne (tgt := 174) hx hb dX12_begins_153 (by decide) (fun c16_ => ?_) (fun c16_ => ?_)
      · replace h := h.1 c16_
        exact cb_X12_begins_174 X hB127 Y (lv_sub hl [0, 1, 2] rfl) h
      · replace h := h.2 c16_
        refine lv_aload_n hx hb dX12_begins_156 rfl (lv_at hl 0 rfl) ?_
        refine lv_iload hx hb dX12_begins_157 (lv_at hl 2 rfl) ?_
        refine lv_aload_n hx hb dX12_begins_159 rfl (lv_at hl 0 rfl) ?_
        refine q_getI X Y kX12 63 rfl fl_X12_453 k11_ dX12_begins_160 ?_
        refine lv_aload_n hx hb dX12_begins_163 rfl (lv_at hl 0 rfl) ?_
        refine q_getP X Y kX12 40 rfl fl_X12_75 k11_ rfl dX12_begins_164 ?_
        refine lv_iload hx hb dX12_begins_167 (lv_at hl 2 rfl) ?_
        obtain ⟨a17_, e18_, h⟩ := h
        refine q_nn [.int x4] e18_ ?_
        obtain ⟨k19_, h⟩ := h
        obtain ⟨i20_, h⟩ := h
        refine q_ild X Y k19_ i20_ dX12_begins_169 ?_
        refine lv_iadd hx hb dX12_begins_170 ?_
        refine q_callV X Y hl (cm_X12_startsAt h) mt_X12_startsAt mi_X12_startsAt ml_X12_502 (ci := 12) rfl k11_ (by decide) rfl rfl (by first | exact Nat.le_of_ble_eq_true rfl | simp [q_cat, q_catI, q_catJ, q_catR]) ⟨Nat.le_of_ble_eq_true rfl, Nat.le_of_ble_eq_true rfl⟩ ⟨Nat.le_of_ble_eq_true rfl, Nat.le_of_ble_eq_true rfl⟩ dX12_begins_171 (fun r21_ S22_ H locs hp Y => ?_)
        obtain ⟨rfl, h⟩ := hp
        refine W.eq (g2 := F0 m 174 ls []) rfl ?_
        exact cb_X12_begins_174 X hB127 Y (lv_sub hl [0, 1, 2] rfl) h
def wl_X12_begins_127  : Nat → q_S → Nat → Int32 → Int32 → (Option Value → q_S → Prop) → Prop
  | 0, _, _, _, _, _ => False
  | n + 1, S, a0, x1, x4, Q => wb_X12_begins_127 (fun S a0 x1 x4 => wl_X12_begins_127 n S a0 x1 x4 Q) S a0 x1 x4 Q
set_option maxHeartbeats 4000000 in
set_option maxRecDepth 100000 in
theorem cl_X12_begins_127 {p : Program} {l : Launch} {e : Env} {s : State} {m : MethodId} {args : Array Value} {below : List Frame} {meth : Method} {c : Code} {D : va_G} {cy : Nat → ClassId} {lo : Nat}  {Q : Option Value → q_S → Prop} (X : q_X p s m args meth c RX12 cX12_begins 5 none D cy lo)  : ∀ (n : Nat) (S : q_S) (a0 : Nat) (x1 : Int32) (x4 : Int32) (H : Heap) (locs : List Loc) (ls : Array Slot), wl_X12_begins_127 n S a0 x1 x4 Q → q_Y D cy lo s S H locs → lv_has ls 5 [(0, .ref a0), (1, .int x1), (4, .int x4)] → W p l e ({ frames := 2, cells := 0, slots := 0, locals := 44 } : Room) s m args below meth c H locs 0 0 (MQ below (q_Q D cy lo Q) args s 0 0 (fun q => lo ≤ q)) (F0 m 127 ls []) := by
  intro n
  induction n with
  | zero => intro S a0 x1 x4 H locs ls h; exact absurd h id
  | succ n ih => intro S a0 x1 x4 H locs ls h Y hl; exact cb_X12_begins_127 X ih Y hl h
def wb_X12_begins_99 (B99 : q_S → Nat → Int32 → Int32 → Prop) (S : q_S) (a0 : Nat) (x1 : Int32) (x4 : Int32) (Q : Option Value → q_S → Prop) : Prop := q_K S a0 = 13 ∧ (wm_X12_lastOf S a0 x1 (fun r24_ S25_ => ∃ x26_ : Int32, r24_ = some (.int x26_) ∧ (((x26_ ≤ x4 → (∃ n28_ : Nat, wl_X12_begins_127 n28_ S25_ a0 x1 ((16 : Int32) * x1) Q)) ∧ (¬ x26_ ≤ x4 → (q_K S25_ a0 = 13 ∧ (wm_X12_sleeps S25_ a0 x4 (fun r30_ S31_ => r30_ = none ∧ (B99 S31_ a0 x1 (x4 + 1))))))))))
set_option maxHeartbeats 4000000 in
set_option maxRecDepth 100000 in
theorem cb_X12_begins_99 {p : Program} {l : Launch} {e : Env} {s : State} {m : MethodId} {args : Array Value} {below : List Frame} {meth : Method} {c : Code} {D : va_G} {cy : Nat → ClassId} {lo : Nat} {B99 : q_S → Nat → Int32 → Int32 → Prop} {S : q_S} {a0 : Nat} {x1 : Int32} {x4 : Int32} {Q : Option Value → q_S → Prop} {H : Heap} {locs : List Loc} {ls : Array Slot} (X : q_X p s m args meth c RX12 cX12_begins 5 none D cy lo) (hB99 : ∀ (S : q_S) (a0 : Nat) (x1 : Int32) (x4 : Int32) (H : Heap) (locs : List Loc) (ls : Array Slot), B99 S a0 x1 x4 → q_Y D cy lo s S H locs → lv_has ls 5 [(0, .ref a0), (1, .int x1), (4, .int x4)] → W p l e ({ frames := 2, cells := 0, slots := 0, locals := 44 } : Room) s m args below meth c H locs 0 0 (MQ below (q_Q D cy lo Q) args s 0 0 (fun q => lo ≤ q)) (F0 m 99 ls [])) (Y : q_Y D cy lo s S H locs) (hl : lv_has ls 5 [(0, .ref a0), (1, .int x1), (4, .int x4)]) (h : wb_X12_begins_99 B99 S a0 x1 x4 Q) : W p l e ({ frames := 2, cells := 0, slots := 0, locals := 44 } : Room) s m args below meth c H locs 0 0 (MQ below (q_Q D cy lo Q) args s 0 0 (fun q => lo ≤ q)) (F0 m 99 ls []) := by
  have hx := X.1
  have hb := X.2.1
  unfold wb_X12_begins_99 at h
  refine lv_iload hx hb dX12_begins_99 (lv_at hl 2 rfl) ?_
  refine lv_aload_n hx hb dX12_begins_101 rfl (lv_at hl 0 rfl) ?_
  refine lv_iload_n hx hb dX12_begins_102 rfl (lv_at hl 1 rfl) ?_
  obtain ⟨k23_, h⟩ := h
  refine q_callV X Y hl (cm_X12_lastOf h) mt_X12_lastOf mi_X12_lastOf ml_X12_499 (ci := 12) rfl k23_ (by decide) rfl rfl (by first | exact Nat.le_of_ble_eq_true rfl | simp [q_cat, q_catI, q_catJ, q_catR]) ⟨Nat.le_of_ble_eq_true rfl, Nat.le_of_ble_eq_true rfl⟩ ⟨Nat.le_of_ble_eq_true rfl, Nat.le_of_ble_eq_true rfl⟩ dX12_begins_103 (fun r24_ S25_ H locs hp Y => ?_)
  obtain ⟨x26_, rfl, h⟩ := hp
  refine W.eq (g2 := F0 m 106 ls [.int x26_, .int x4]) rfl ?_
  refine lv_icmp_ge (tgt := 121) hx hb dX12_begins_106 (by decide) (fun c27_ => ?_) (fun c27_ => ?_)
  · replace h := h.1 c27_
    refine lv_bipush (v := 16) hx hb dX12_begins_121 (by decide) ?_
    refine lv_iload_n hx hb dX12_begins_123 rfl (lv_at hl 1 rfl) ?_
    refine lv_imul hx hb dX12_begins_124 ?_
    refine lv_istore (i := 4) (lv' := [(4, .int ((16 : Int32) * x1)), (0, .ref a0), (1, .int x1)]) hx hb dX12_begins_125 hl (by decide) (by first | rfl | simp [q_cat, q_catI, q_catJ, q_catR]) (fun ls hl => ?_)
    obtain ⟨n28_, h⟩ := h
    exact cl_X12_begins_127 X n28_ _ _ _ _ _ _ _ h Y (lv_sub hl [1, 2, 0] rfl)
  · replace h := h.2 c27_
    refine lv_aload_n hx hb dX12_begins_109 rfl (lv_at hl 0 rfl) ?_
    refine lv_iload hx hb dX12_begins_110 (lv_at hl 2 rfl) ?_
    obtain ⟨k29_, h⟩ := h
    refine q_callV X Y hl (cm_X12_sleeps h) mt_X12_sleeps mi_X12_sleeps ml_X12_490 (ci := 12) rfl k29_ (by decide) rfl rfl (by first | exact Nat.le_of_ble_eq_true rfl | simp [q_cat, q_catI, q_catJ, q_catR]) ⟨Nat.le_of_ble_eq_true rfl, Nat.le_of_ble_eq_true rfl⟩ ⟨Nat.le_of_ble_eq_true rfl, Nat.le_of_ble_eq_true rfl⟩ dX12_begins_112 (fun r30_ S31_ H locs hp Y => ?_)
    obtain ⟨rfl, h⟩ := hp
    refine W.eq (g2 := F0 m 115 ls []) rfl ?_
    refine lv_iinc (v := (x4 + 1)) (lv' := [(4, .int (x4 + 1)), (0, .ref a0), (1, .int x1)]) hx hb dX12_begins_115 hl (k := 2) rfl (by first | rfl | decide) (by decide) (by first | rfl | simp [q_cat, q_catI, q_catJ, q_catR]) (fun ls hl => ?_)
    refine lv_goto (tgt := 99) hx hb dX12_begins_118 (by decide) ?_
    exact hB99 _ _ _ _ _ _ _ h Y (lv_sub hl [1, 2, 0] rfl)
def wl_X12_begins_99  : Nat → q_S → Nat → Int32 → Int32 → (Option Value → q_S → Prop) → Prop
  | 0, _, _, _, _, _ => False
  | n + 1, S, a0, x1, x4, Q => wb_X12_begins_99 (fun S a0 x1 x4 => wl_X12_begins_99 n S a0 x1 x4 Q) S a0 x1 x4 Q
set_option maxHeartbeats 4000000 in
set_option maxRecDepth 100000 in
theorem cl_X12_begins_99 {p : Program} {l : Launch} {e : Env} {s : State} {m : MethodId} {args : Array Value} {below : List Frame} {meth : Method} {c : Code} {D : va_G} {cy : Nat → ClassId} {lo : Nat}  {Q : Option Value → q_S → Prop} (X : q_X p s m args meth c RX12 cX12_begins 5 none D cy lo)  : ∀ (n : Nat) (S : q_S) (a0 : Nat) (x1 : Int32) (x4 : Int32) (H : Heap) (locs : List Loc) (ls : Array Slot), wl_X12_begins_99 n S a0 x1 x4 Q → q_Y D cy lo s S H locs → lv_has ls 5 [(0, .ref a0), (1, .int x1), (4, .int x4)] → W p l e ({ frames := 2, cells := 0, slots := 0, locals := 44 } : Room) s m args below meth c H locs 0 0 (MQ below (q_Q D cy lo Q) args s 0 0 (fun q => lo ≤ q)) (F0 m 99 ls []) := by
  intro n
  induction n with
  | zero => intro S a0 x1 x4 H locs ls h; exact absurd h id
  | succ n ih => intro S a0 x1 x4 H locs ls h Y hl; exact cb_X12_begins_99 X ih Y hl h
def wb_X12_begins_93  (S : q_S) (a0 : Nat) (x1 : Int32) (Q : Option Value → q_S → Prop) : Prop := ∃ n32_ : Nat, wl_X12_begins_99 n32_ S a0 x1 ((16 : Int32) * x1) Q
set_option maxHeartbeats 4000000 in
set_option maxRecDepth 100000 in
theorem cb_X12_begins_93 {p : Program} {l : Launch} {e : Env} {s : State} {m : MethodId} {args : Array Value} {below : List Frame} {meth : Method} {c : Code} {D : va_G} {cy : Nat → ClassId} {lo : Nat}  {S : q_S} {a0 : Nat} {x1 : Int32} {Q : Option Value → q_S → Prop} {H : Heap} {locs : List Loc} {ls : Array Slot} (X : q_X p s m args meth c RX12 cX12_begins 5 none D cy lo)  (Y : q_Y D cy lo s S H locs) (hl : lv_has ls 5 [(0, .ref a0), (1, .int x1)]) (h : wb_X12_begins_93 S a0 x1 Q) : W p l e ({ frames := 2, cells := 0, slots := 0, locals := 44 } : Room) s m args below meth c H locs 0 0 (MQ below (q_Q D cy lo Q) args s 0 0 (fun q => lo ≤ q)) (F0 m 93 ls []) := by
  have hx := X.1
  have hb := X.2.1
  unfold wb_X12_begins_93 at h
  refine lv_bipush (v := 16) hx hb dX12_begins_93 (by decide) ?_
  refine lv_iload_n hx hb dX12_begins_95 rfl (lv_at hl 1 rfl) ?_
  refine lv_imul hx hb dX12_begins_96 ?_
  refine lv_istore (i := 4) (lv' := [(4, .int ((16 : Int32) * x1)), (0, .ref a0), (1, .int x1)]) hx hb dX12_begins_97 hl (by decide) (by first | rfl | simp [q_cat, q_catI, q_catJ, q_catR]) (fun ls hl => ?_)
  obtain ⟨n32_, h⟩ := h
  exact cl_X12_begins_99 X n32_ _ _ _ _ _ _ _ h Y (lv_sub hl [1, 2, 0] rfl)
def wb_X12_begins_46 (B46 : q_S → Nat → Int32 → Int32 → Int32 → Prop) (S : q_S) (a0 : Nat) (x1 : Int32) (x3 : Int32) (x4 : Int32) (Q : Option Value → q_S → Prop) : Prop := q_K S a0 = 13 ∧ (∃ a34_ : Nat, (q_P S 2425 a0) = some a34_ ∧ (q_K S a34_ = 21 ∧ (vp_in x1 (q_N S a34_) ∧ ((((q_A S a34_ x1.toNatClampNeg) ≤ x4 → (wb_X12_begins_93 S a0 x1 Q)) ∧ (¬ (q_A S a34_ x1.toNatClampNeg) ≤ x4 → (((x3 = 0 → (wb_X12_begins_93 S a0 x1 Q)) ∧ (¬ x3 = 0 → (∃ a40_ : Nat, (q_P S 2465 a0) = some a40_ ∧ (q_K S a40_ = 20 ∧ (vp_in (((8192 : Int32) * x1) + x4) (q_N S a40_) ∧ (∃ a44_ : Nat, (q_P S 2466 a0) = some a44_ ∧ (q_K S a44_ = 20 ∧ (vp_in (((8192 : Int32) * x1) + x4) (q_N S a44_) ∧ (B46 (qs_A S a44_ (((8192 : Int32) * x1) + x4).toNatClampNeg (vp_nar .byte (q_A S a40_ (((8192 : Int32) * x1) + x4).toNatClampNeg))) a0 x1 x3 (x4 + 1)))))))))))))))))
set_option maxHeartbeats 4000000 in
set_option maxRecDepth 100000 in
theorem cb_X12_begins_46 {p : Program} {l : Launch} {e : Env} {s : State} {m : MethodId} {args : Array Value} {below : List Frame} {meth : Method} {c : Code} {D : va_G} {cy : Nat → ClassId} {lo : Nat} {B46 : q_S → Nat → Int32 → Int32 → Int32 → Prop} {S : q_S} {a0 : Nat} {x1 : Int32} {x3 : Int32} {x4 : Int32} {Q : Option Value → q_S → Prop} {H : Heap} {locs : List Loc} {ls : Array Slot} (X : q_X p s m args meth c RX12 cX12_begins 5 none D cy lo) (hB46 : ∀ (S : q_S) (a0 : Nat) (x1 : Int32) (x3 : Int32) (x4 : Int32) (H : Heap) (locs : List Loc) (ls : Array Slot), B46 S a0 x1 x3 x4 → q_Y D cy lo s S H locs → lv_has ls 5 [(0, .ref a0), (1, .int x1), (3, .int x3), (4, .int x4)] → W p l e ({ frames := 2, cells := 0, slots := 0, locals := 44 } : Room) s m args below meth c H locs 0 0 (MQ below (q_Q D cy lo Q) args s 0 0 (fun q => lo ≤ q)) (F0 m 46 ls [])) (Y : q_Y D cy lo s S H locs) (hl : lv_has ls 5 [(0, .ref a0), (1, .int x1), (3, .int x3), (4, .int x4)]) (h : wb_X12_begins_46 B46 S a0 x1 x3 x4 Q) : W p l e ({ frames := 2, cells := 0, slots := 0, locals := 44 } : Room) s m args below meth c H locs 0 0 (MQ below (q_Q D cy lo Q) args s 0 0 (fun q => lo ≤ q)) (F0 m 46 ls []) := by
  have hx := X.1
  have hb := X.2.1
  unfold wb_X12_begins_46 at h
  refine lv_iload hx hb dX12_begins_46 (lv_at hl 3 rfl) ?_
  refine lv_aload_n hx hb dX12_begins_48 rfl (lv_at hl 0 rfl) ?_
  obtain ⟨k33_, h⟩ := h
  refine q_getP X Y kX12 25 rfl fl_X12_30 k33_ rfl dX12_begins_49 ?_
  refine lv_iload_n hx hb dX12_begins_52 rfl (lv_at hl 1 rfl) ?_
  obtain ⟨a34_, e35_, h⟩ := h
  refine q_nn [.int x1] e35_ ?_
  obtain ⟨k36_, h⟩ := h
  obtain ⟨i37_, h⟩ := h
  refine q_ild X Y k36_ i37_ dX12_begins_53 ?_
  refine lv_icmp_ge (tgt := 93) hx hb dX12_begins_54 (by decide) (fun c38_ => ?_) (fun c38_ => ?_)
  · replace h := h.1 c38_
    exact cb_X12_begins_93 X Y (lv_sub hl [0, 1] rfl) h
  · replace h := h.2 c38_
    refine lv_iload_n hx hb dX12_begins_57 rfl (lv_at hl 2 rfl) ?_
    refine lv_if_eq (tgt := 93) hx hb dX12_begins_58 (by decide) (fun c39_ => ?_) (fun c39_ => ?_)
    · replace h := h.1 c39_
      exact cb_X12_begins_93 X Y (lv_sub hl [0, 1] rfl) h
    · replace h := h.2 c39_
      refine lv_aload_n hx hb dX12_begins_61 rfl (lv_at hl 0 rfl) ?_
      refine q_getP X Y kX12 66 rfl fl_X12_146 k33_ rfl dX12_begins_62 ?_
      refine lv_sipush (v := 8192) hx hb dX12_begins_65 (by decide) ?_
      refine lv_iload_n hx hb dX12_begins_68 rfl (lv_at hl 1 rfl) ?_
      refine lv_imul hx hb dX12_begins_69 ?_
      refine lv_iload hx hb dX12_begins_70 (lv_at hl 3 rfl) ?_
      refine lv_iadd hx hb dX12_begins_72 ?_
      refine lv_aload_n hx hb dX12_begins_73 rfl (lv_at hl 0 rfl) ?_
      refine q_getP X Y kX12 65 rfl fl_X12_143 k33_ rfl dX12_begins_74 ?_
      refine lv_sipush (v := 8192) hx hb dX12_begins_77 (by decide) ?_
      refine lv_iload_n hx hb dX12_begins_80 rfl (lv_at hl 1 rfl) ?_
      refine lv_imul hx hb dX12_begins_81 ?_
      refine lv_iload hx hb dX12_begins_82 (lv_at hl 3 rfl) ?_
      refine lv_iadd hx hb dX12_begins_84 ?_
      obtain ⟨a40_, e41_, h⟩ := h
      refine q_nn [.int (((8192 : Int32) * x1) + x4)] e41_ ?_
      obtain ⟨k42_, h⟩ := h
      obtain ⟨i43_, h⟩ := h
      refine q_bld X Y k42_ i43_ dX12_begins_85 ?_
      obtain ⟨a44_, e45_, h⟩ := h
      refine q_nn [.int (q_A S a40_ (((8192 : Int32) * x1) + x4).toNatClampNeg), .int (((8192 : Int32) * x1) + x4)] e45_ ?_
      obtain ⟨k46_, h⟩ := h
      obtain ⟨i47_, h⟩ := h
      refine q_bst X Y k46_ i47_ dX12_begins_86 (fun H locs Y => ?_)
      refine lv_iinc (v := (x4 + 1)) (lv' := [(4, .int (x4 + 1)), (0, .ref a0), (1, .int x1), (3, .int x3)]) hx hb dX12_begins_87 hl (k := 3) rfl (by first | rfl | decide) (by decide) (by first | rfl | simp [q_cat, q_catI, q_catJ, q_catR]) (fun ls hl => ?_)
      refine lv_goto (tgt := 46) hx hb dX12_begins_90 (by decide) ?_
      exact hB46 _ _ _ _ _ _ _ _ h Y (lv_sub hl [1, 2, 3, 0] rfl)
def wl_X12_begins_46  : Nat → q_S → Nat → Int32 → Int32 → Int32 → (Option Value → q_S → Prop) → Prop
  | 0, _, _, _, _, _, _ => False
  | n + 1, S, a0, x1, x3, x4, Q => wb_X12_begins_46 (fun S a0 x1 x3 x4 => wl_X12_begins_46 n S a0 x1 x3 x4 Q) S a0 x1 x3 x4 Q
set_option maxHeartbeats 4000000 in
set_option maxRecDepth 100000 in
theorem cl_X12_begins_46 {p : Program} {l : Launch} {e : Env} {s : State} {m : MethodId} {args : Array Value} {below : List Frame} {meth : Method} {c : Code} {D : va_G} {cy : Nat → ClassId} {lo : Nat}  {Q : Option Value → q_S → Prop} (X : q_X p s m args meth c RX12 cX12_begins 5 none D cy lo)  : ∀ (n : Nat) (S : q_S) (a0 : Nat) (x1 : Int32) (x3 : Int32) (x4 : Int32) (H : Heap) (locs : List Loc) (ls : Array Slot), wl_X12_begins_46 n S a0 x1 x3 x4 Q → q_Y D cy lo s S H locs → lv_has ls 5 [(0, .ref a0), (1, .int x1), (3, .int x3), (4, .int x4)] → W p l e ({ frames := 2, cells := 0, slots := 0, locals := 44 } : Room) s m args below meth c H locs 0 0 (MQ below (q_Q D cy lo Q) args s 0 0 (fun q => lo ≤ q)) (F0 m 46 ls []) := by
  intro n
  induction n with
  | zero => intro S a0 x1 x3 x4 H locs ls h; exact absurd h id
  | succ n ih => intro S a0 x1 x3 x4 H locs ls h Y hl; exact cb_X12_begins_46 X ih Y hl h
def wm_X12_begins (S : q_S) (a0 : Nat) (x1 : Int32) (x2 : Int32) (x3 : Int32) (Q : Option Value → q_S → Prop) : Prop := q_K S a0 = 13 ∧ (∃ a49_ : Nat, (q_P S 2483 a0) = some a49_ ∧ (q_K S a49_ = 21 ∧ (vp_in x1 (q_N S a49_) ∧ (∃ a53_ : Nat, (q_P (qs_A S a49_ x1.toNatClampNeg (0 : Int32)) 2484 a0) = some a53_ ∧ (q_K (qs_A S a49_ x1.toNatClampNeg (0 : Int32)) a53_ = 21 ∧ (vp_in x1 (q_N (qs_A S a49_ x1.toNatClampNeg (0 : Int32)) a53_) ∧ (∃ a57_ : Nat, (q_P (qs_A (qs_A S a49_ x1.toNatClampNeg (0 : Int32)) a53_ x1.toNatClampNeg x2) 2485 a0) = some a57_ ∧ (q_K (qs_A (qs_A S a49_ x1.toNatClampNeg (0 : Int32)) a53_ x1.toNatClampNeg x2) a57_ = 21 ∧ (vp_in x1 (q_N (qs_A (qs_A S a49_ x1.toNatClampNeg (0 : Int32)) a53_ x1.toNatClampNeg x2) a57_) ∧ (vp_in x1 (q_N (qs_A (qs_A S a49_ x1.toNatClampNeg (0 : Int32)) a53_ x1.toNatClampNeg x2) a57_) ∧ (∀ S62_ : q_S, S62_ = (qs_A (qs_A (qs_A S a49_ x1.toNatClampNeg (0 : Int32)) a53_ x1.toNatClampNeg x2) a57_ x1.toNatClampNeg ((q_A (qs_A (qs_A S a49_ x1.toNatClampNeg (0 : Int32)) a53_ x1.toNatClampNeg x2) a57_ x1.toNatClampNeg) + (1 : Int32))) → (∃ a63_ : Nat, (q_P S62_ 2486 a0) = some a63_ ∧ (q_K S62_ a63_ = 21 ∧ (vp_in x1 (q_N S62_ a63_) ∧ (∃ a67_ : Nat, (q_P (qs_A S62_ a63_ x1.toNatClampNeg (0 : Int32)) 2488 a0) = some a67_ ∧ (q_K (qs_A S62_ a63_ x1.toNatClampNeg (0 : Int32)) a67_ = 21 ∧ (vp_in x1 (q_N (qs_A S62_ a63_ x1.toNatClampNeg (0 : Int32)) a67_) ∧ (wm_X12_things (qs_A (qs_A S62_ a63_ x1.toNatClampNeg (0 : Int32)) a67_ x1.toNatClampNeg (-1 : Int32)) a0 x1 (fun r71_ S72_ => r71_ = none ∧ (∃ n73_ : Nat, wl_X12_begins_46 n73_ S72_ a0 x1 x3 (0 : Int32) Q))))))))))))))))))))
set_option maxHeartbeats 4000000 in
set_option maxRecDepth 100000 in
theorem cm_X12_begins {l : Launch} {D : va_G} {cy : Nat → ClassId} {lo : Nat} {S : q_S} {a0 : Nat} {x1 : Int32} {x2 : Int32} {x3 : Int32} {Q : Option Value → q_S → Prop} (h : wm_X12_begins S a0 x1 x2 x3 Q) : q_Met l D cy lo yX12_begins cX12_begins 5 none 2 44 0 0 [.ref a0, .int x1, .int x2, .int x3] S Q := by
  refine q_body (by decide) (by first | exact Nat.le_of_ble_eq_true rfl | simp [lg_sl, q_cat, q_catI, q_catJ, q_catR]) ?_
  intro p e s m below meth c ls X hnm Y hl
  have hx := X.1
  have hb := X.2.1
  have hl : lv_has ls 5 [(0, .ref a0), (1, .int x1), (2, .int x2), (3, .int x3)] := by first | exact hl | simpa [lv_args, q_cat, q_catI, q_catJ, q_catR] using hl
  generalize hargs : ([.ref a0, .int x1, .int x2, .int x3] : List Value).toArray = args at X ⊢
  unfold wm_X12_begins at h
  refine lv_aload_n hx hb dX12_begins_0 rfl (lv_at hl 0 rfl) ?_
  obtain ⟨k48_, h⟩ := h
  refine q_getP X Y kX12 83 rfl fl_X12_197 k48_ rfl dX12_begins_1 ?_
  refine lv_iload_n hx hb dX12_begins_4 rfl (lv_at hl 1 rfl) ?_
  refine lv_iconst (v := 0) hx hb dX12_begins_5 (by decide) ?_
  obtain ⟨a49_, e50_, h⟩ := h
  refine q_nn [.int (0 : Int32), .int x1] e50_ ?_
  obtain ⟨k51_, h⟩ := h
  obtain ⟨i52_, h⟩ := h
  refine q_ist X Y k51_ i52_ dX12_begins_6 (fun H locs Y => ?_)
  refine lv_aload_n hx hb dX12_begins_7 rfl (lv_at hl 0 rfl) ?_
  refine q_getP X Y kX12 84 rfl fl_X12_200 k48_ rfl dX12_begins_8 ?_
  refine lv_iload_n hx hb dX12_begins_11 rfl (lv_at hl 1 rfl) ?_
  refine lv_iload_n hx hb dX12_begins_12 rfl (lv_at hl 2 rfl) ?_
  obtain ⟨a53_, e54_, h⟩ := h
  refine q_nn [.int x2, .int x1] e54_ ?_
  obtain ⟨k55_, h⟩ := h
  obtain ⟨i56_, h⟩ := h
  refine q_ist X Y k55_ i56_ dX12_begins_13 (fun H locs Y => ?_)
  refine lv_aload_n hx hb dX12_begins_14 rfl (lv_at hl 0 rfl) ?_
  refine q_getP X Y kX12 85 rfl fl_X12_203 k48_ rfl dX12_begins_15 ?_
  refine lv_iload_n hx hb dX12_begins_18 rfl (lv_at hl 1 rfl) ?_
  refine lv_dup2_11 hx hb dX12_begins_19 rfl (q_cat _) ?_
  obtain ⟨a57_, e58_, h⟩ := h
  refine q_nn [.int x1] e58_ ?_
  obtain ⟨k59_, h⟩ := h
  obtain ⟨i60_, h⟩ := h
  refine q_ild X Y k59_ i60_ dX12_begins_20 ?_
  refine lv_iconst (v := 1) hx hb dX12_begins_21 (by decide) ?_
  refine lv_iadd hx hb dX12_begins_22 ?_
  refine q_nn [.int ((q_A (qs_A (qs_A S a49_ x1.toNatClampNeg (0 : Int32)) a53_ x1.toNatClampNeg x2) a57_ x1.toNatClampNeg) + (1 : Int32)), .int x1] e58_ ?_
  obtain ⟨i61_, h⟩ := h
  refine q_ist X Y k59_ i61_ dX12_begins_23 (fun H locs Y => ?_)
  obtain ⟨S62_, gS62_⟩ : ∃ z : q_S, z = (qs_A (qs_A (qs_A S a49_ x1.toNatClampNeg (0 : Int32)) a53_ x1.toNatClampNeg x2) a57_ x1.toNatClampNeg ((q_A (qs_A (qs_A S a49_ x1.toNatClampNeg (0 : Int32)) a53_ x1.toNatClampNeg x2) a57_ x1.toNatClampNeg) + (1 : Int32))) := ⟨_, rfl⟩
  replace Y : q_Y D cy lo s S62_ H locs := by rw [gS62_]; exact Y
  replace h := h S62_ gS62_
  replace k48_ : q_K S62_ a0 = 13 := by rw [gS62_]; exact k48_
  replace k51_ : q_K S62_ a49_ = 21 := by rw [gS62_]; exact k51_
  replace k55_ : q_K S62_ a53_ = 21 := by rw [gS62_]; exact k55_
  replace k59_ : q_K S62_ a57_ = 21 := by rw [gS62_]; exact k59_
  refine lv_aload_n hx hb dX12_begins_24 rfl (lv_at hl 0 rfl) ?_
  refine q_getP X Y kX12 86 rfl fl_X12_206 k48_ rfl dX12_begins_25 ?_
  refine lv_iload_n hx hb dX12_begins_28 rfl (lv_at hl 1 rfl) ?_
  refine lv_iconst (v := 0) hx hb dX12_begins_29 (by decide) ?_
  obtain ⟨a63_, e64_, h⟩ := h
  refine q_nn [.int (0 : Int32), .int x1] e64_ ?_
  obtain ⟨k65_, h⟩ := h
  obtain ⟨i66_, h⟩ := h
  refine q_ist X Y k65_ i66_ dX12_begins_30 (fun H locs Y => ?_)
  refine lv_aload_n hx hb dX12_begins_31 rfl (lv_at hl 0 rfl) ?_
  refine q_getP X Y kX12 88 rfl fl_X12_212 k48_ rfl dX12_begins_32 ?_
  refine lv_iload_n hx hb dX12_begins_35 rfl (lv_at hl 1 rfl) ?_
  refine lv_iconst (v := (-1)) hx hb dX12_begins_36 (by decide) ?_
  obtain ⟨a67_, e68_, h⟩ := h
  refine q_nn [.int (-1 : Int32), .int x1] e68_ ?_
  obtain ⟨k69_, h⟩ := h
  obtain ⟨i70_, h⟩ := h
  refine q_ist X Y k69_ i70_ dX12_begins_37 (fun H locs Y => ?_)
  refine lv_aload_n hx hb dX12_begins_38 rfl (lv_at hl 0 rfl) ?_
  refine lv_iload_n hx hb dX12_begins_39 rfl (lv_at hl 1 rfl) ?_
  refine q_callV X Y hl (cm_X12_things h) mt_X12_things mi_X12_things ml_X12_447 (ci := 12) rfl k48_ (by decide) rfl rfl (by first | exact Nat.le_of_ble_eq_true rfl | simp [q_cat, q_catI, q_catJ, q_catR]) ⟨Nat.le_of_ble_eq_true rfl, Nat.le_of_ble_eq_true rfl⟩ ⟨Nat.le_of_ble_eq_true rfl, Nat.le_of_ble_eq_true rfl⟩ dX12_begins_40 (fun r71_ S72_ H locs hp Y => ?_)
  obtain ⟨rfl, h⟩ := hp
  refine W.eq (g2 := F0 m 43 ls []) rfl ?_
  refine lv_iconst (v := 0) hx hb dX12_begins_43 (by decide) ?_
  refine lv_istore (i := 4) (lv' := [(4, .int (0 : Int32)), (0, .ref a0), (1, .int x1), (2, .int x2), (3, .int x3)]) hx hb dX12_begins_44 hl (by decide) (by first | rfl | simp [q_cat, q_catI, q_catJ, q_catR]) (fun ls hl => ?_)
  obtain ⟨n73_, h⟩ := h
  exact cl_X12_begins_46 X n73_ _ _ _ _ _ _ _ _ h Y (lv_sub hl [1, 2, 4, 0] rfl)
-- X12_begin
theorem ml_X12_474 : Cond.methodLink RX12 474 yX12_begins ∈ q_G := q_tb (i := 2244) (by decide +kernel) (by decide +kernel)
theorem mt_X12_begins : q_Mt yX12_begins cX12_begins 5 none 3 := ⟨q_tb (i := 2247) (by decide +kernel) (by decide +kernel), q_tb (i := 11) (by decide +kernel) (by decide +kernel), by decide +kernel, by decide +kernel, by decide +kernel⟩
theorem mi_X12_begins : Cond.instanceMethod yX12_begins ∈ q_G ∧ Cond.selects yX12_begins.cls yX12_begins yX12_begins ∈ q_G := ⟨q_tb (i := 2246) (by decide +kernel) (by decide +kernel), q_tp (i := 118) (q := (yX12_begins, 114)) (by decide +kernel) (by decide +kernel)⟩
theorem dX12_begin_0 : decode cX12_begin 0 = .ok (.aload_n 0, 1) := by decide +kernel
theorem dX12_begin_1 : decode cX12_begin 1 = .ok (.aload_n 0, 1) := by decide +kernel
theorem dX12_begin_2 : decode cX12_begin 2 = .ok (.getfield 443, 3) := by decide +kernel
theorem dX12_begin_5 : decode cX12_begin 5 = .ok (.ifCond .eq 10, 3) := by decide +kernel
theorem dX12_begin_8 : decode cX12_begin 8 = .ok (.aload_n 0, 1) := by decide +kernel
theorem dX12_begin_9 : decode cX12_begin 9 = .ok (.getfield 450, 3) := by decide +kernel
theorem dX12_begin_12 : decode cX12_begin 12 = .ok (.ifCond .eq 7, 3) := by decide +kernel
theorem dX12_begin_15 : decode cX12_begin 15 = .ok (.iconst 1, 1) := by decide +kernel
theorem dX12_begin_16 : decode cX12_begin 16 = .ok (.goto 4, 3) := by decide +kernel
theorem dX12_begin_19 : decode cX12_begin 19 = .ok (.iconst 0, 1) := by decide +kernel
theorem dX12_begin_20 : decode cX12_begin 20 = .ok (.putfield 278, 3) := by decide +kernel
theorem dX12_begin_23 : decode cX12_begin 23 = .ok (.aload_n 0, 1) := by decide +kernel
theorem dX12_begin_24 : decode cX12_begin 24 = .ok (.getfield 278, 3) := by decide +kernel
theorem dX12_begin_27 : decode cX12_begin 27 = .ok (.ifCond .le 4, 3) := by decide +kernel
theorem dX12_begin_30 : decode cX12_begin 30 = .ok (.return_, 1) := by decide +kernel
theorem dX12_begin_31 : decode cX12_begin 31 = .ok (.aload_n 0, 1) := by decide +kernel
theorem dX12_begin_32 : decode cX12_begin 32 = .ok (.iconst 1, 1) := by decide +kernel
theorem dX12_begin_33 : decode cX12_begin 33 = .ok (.putfield 450, 3) := by decide +kernel
theorem dX12_begin_36 : decode cX12_begin 36 = .ok (.iconst 0, 1) := by decide +kernel
theorem dX12_begin_37 : decode cX12_begin 37 = .ok (.istore_n 1, 1) := by decide +kernel
theorem dX12_begin_38 : decode cX12_begin 38 = .ok (.iload_n 1, 1) := by decide +kernel
theorem dX12_begin_39 : decode cX12_begin 39 = .ok (.aload_n 0, 1) := by decide +kernel
theorem dX12_begin_40 : decode cX12_begin 40 = .ok (.getfield 350, 3) := by decide +kernel
theorem dX12_begin_43 : decode cX12_begin 43 = .ok (.if_icmp .ge 16, 3) := by decide +kernel
theorem dX12_begin_46 : decode cX12_begin 46 = .ok (.aload_n 0, 1) := by decide +kernel
theorem dX12_begin_47 : decode cX12_begin 47 = .ok (.iload_n 1, 1) := by decide +kernel
theorem dX12_begin_48 : decode cX12_begin 48 = .ok (.iconst 0, 1) := by decide +kernel
theorem dX12_begin_49 : decode cX12_begin 49 = .ok (.iconst 1, 1) := by decide +kernel
theorem dX12_begin_50 : decode cX12_begin 50 = .ok (.invokevirtual 474, 3) := by decide +kernel
theorem dX12_begin_53 : decode cX12_begin 53 = .ok (.iinc 1 1, 3) := by decide +kernel
theorem dX12_begin_56 : decode cX12_begin 56 = .ok (.goto (-18), 3) := by decide +kernel
theorem dX12_begin_59 : decode cX12_begin 59 = .ok (.return_, 1) := by decide +kernel
def wb_X12_begin_38 (B38 : q_S → Nat → Int32 → Prop) (S : q_S) (a0 : Nat) (x1 : Int32) (Q : Option Value → q_S → Prop) : Prop := q_K S a0 = 13 ∧ ((((q_I S 2415 a0) ≤ x1 → (Q none S)) ∧ (¬ (q_I S 2415 a0) ≤ x1 → (wm_X12_begins S a0 x1 (0 : Int32) (1 : Int32) (fun r3_ S4_ => r3_ = none ∧ (B38 S4_ a0 (x1 + 1)))))))
set_option maxHeartbeats 4000000 in
set_option maxRecDepth 100000 in
theorem cb_X12_begin_38 {p : Program} {l : Launch} {e : Env} {s : State} {m : MethodId} {args : Array Value} {below : List Frame} {meth : Method} {c : Code} {D : va_G} {cy : Nat → ClassId} {lo : Nat} {B38 : q_S → Nat → Int32 → Prop} {S : q_S} {a0 : Nat} {x1 : Int32} {Q : Option Value → q_S → Prop} {H : Heap} {locs : List Loc} {ls : Array Slot} (X : q_X p s m args meth c RX12 cX12_begin 2 none D cy lo) (hB38 : ∀ (S : q_S) (a0 : Nat) (x1 : Int32) (H : Heap) (locs : List Loc) (ls : Array Slot), B38 S a0 x1 → q_Y D cy lo s S H locs → lv_has ls 2 [(0, .ref a0), (1, .int x1)] → W p l e ({ frames := 3, cells := 0, slots := 0, locals := 68 } : Room) s m args below meth c H locs 0 0 (MQ below (q_Q D cy lo Q) args s 0 0 (fun q => lo ≤ q)) (F0 m 38 ls [])) (Y : q_Y D cy lo s S H locs) (hl : lv_has ls 2 [(0, .ref a0), (1, .int x1)]) (h : wb_X12_begin_38 B38 S a0 x1 Q) : W p l e ({ frames := 3, cells := 0, slots := 0, locals := 68 } : Room) s m args below meth c H locs 0 0 (MQ below (q_Q D cy lo Q) args s 0 0 (fun q => lo ≤ q)) (F0 m 38 ls []) := by
  have hx := X.1
  have hb := X.2.1
  unfold wb_X12_begin_38 at h
  refine lv_iload_n hx hb dX12_begin_38 rfl (lv_at hl 1 rfl) ?_
  refine lv_aload_n hx hb dX12_begin_39 rfl (lv_at hl 0 rfl) ?_
  obtain ⟨k1_, h⟩ := h
  refine q_getI X Y kX12 15 rfl fl_X12_350 k1_ dX12_begin_40 ?_
  refine lv_icmp_ge (tgt := 59) hx hb dX12_begin_43 (by decide) (fun c2_ => ?_) (fun c2_ => ?_)
  · replace h := h.1 c2_
    exact q_vret X Y (Nat.le_refl _) (Nat.le_refl _) h dX12_begin_59
  · replace h := h.2 c2_
    refine lv_aload_n hx hb dX12_begin_46 rfl (lv_at hl 0 rfl) ?_
    refine lv_iload_n hx hb dX12_begin_47 rfl (lv_at hl 1 rfl) ?_
    refine lv_iconst (v := 0) hx hb dX12_begin_48 (by decide) ?_
    refine lv_iconst (v := 1) hx hb dX12_begin_49 (by decide) ?_
    refine q_callV X Y hl (cm_X12_begins h) mt_X12_begins mi_X12_begins ml_X12_474 (ci := 12) rfl k1_ (by decide) rfl rfl (by first | exact Nat.le_of_ble_eq_true rfl | simp [q_cat, q_catI, q_catJ, q_catR]) ⟨Nat.le_of_ble_eq_true rfl, Nat.le_of_ble_eq_true rfl⟩ ⟨Nat.le_of_ble_eq_true rfl, Nat.le_of_ble_eq_true rfl⟩ dX12_begin_50 (fun r3_ S4_ H locs hp Y => ?_)
    obtain ⟨rfl, h⟩ := hp
    refine W.eq (g2 := F0 m 53 ls []) rfl ?_
    refine lv_iinc (v := (x1 + 1)) (lv' := [(1, .int (x1 + 1)), (0, .ref a0)]) hx hb dX12_begin_53 hl (k := 1) rfl (by first | rfl | decide) (by decide) (by first | rfl | simp [q_cat, q_catI, q_catJ, q_catR]) (fun ls hl => ?_)
    refine lv_goto (tgt := 38) hx hb dX12_begin_56 (by decide) ?_
    exact hB38 _ _ _ _ _ _ h Y (lv_sub hl [1, 0] rfl)
def wl_X12_begin_38  : Nat → q_S → Nat → Int32 → (Option Value → q_S → Prop) → Prop
  | 0, _, _, _, _ => False
  | n + 1, S, a0, x1, Q => wb_X12_begin_38 (fun S a0 x1 => wl_X12_begin_38 n S a0 x1 Q) S a0 x1 Q
set_option maxHeartbeats 4000000 in
set_option maxRecDepth 100000 in
theorem cl_X12_begin_38 {p : Program} {l : Launch} {e : Env} {s : State} {m : MethodId} {args : Array Value} {below : List Frame} {meth : Method} {c : Code} {D : va_G} {cy : Nat → ClassId} {lo : Nat}  {Q : Option Value → q_S → Prop} (X : q_X p s m args meth c RX12 cX12_begin 2 none D cy lo)  : ∀ (n : Nat) (S : q_S) (a0 : Nat) (x1 : Int32) (H : Heap) (locs : List Loc) (ls : Array Slot), wl_X12_begin_38 n S a0 x1 Q → q_Y D cy lo s S H locs → lv_has ls 2 [(0, .ref a0), (1, .int x1)] → W p l e ({ frames := 3, cells := 0, slots := 0, locals := 68 } : Room) s m args below meth c H locs 0 0 (MQ below (q_Q D cy lo Q) args s 0 0 (fun q => lo ≤ q)) (F0 m 38 ls []) := by
  intro n
  induction n with
  | zero => intro S a0 x1 H locs ls h; exact absurd h id
  | succ n ih => intro S a0 x1 H locs ls h Y hl; exact cb_X12_begin_38 X ih Y hl h
def wb_X12_begin_20  (S : q_S) (a0 : Nat) (as0 : Nat) (xs1 : Int32) (Q : Option Value → q_S → Prop) : Prop := q_K S as0 = 13 ∧ (q_K (qs_I S 2400 as0 xs1) a0 = 13 ∧ ((((q_I (qs_I S 2400 as0 xs1) 2400 a0) ≤ 0 → (∃ n8_ : Nat, wl_X12_begin_38 n8_ (qs_I (qs_I S 2400 as0 xs1) 2414 a0 (1 : Int32)) a0 (0 : Int32) Q)) ∧ (¬ (q_I (qs_I S 2400 as0 xs1) 2400 a0) ≤ 0 → (Q none (qs_I S 2400 as0 xs1))))))
set_option maxHeartbeats 4000000 in
set_option maxRecDepth 100000 in
theorem cb_X12_begin_20 {p : Program} {l : Launch} {e : Env} {s : State} {m : MethodId} {args : Array Value} {below : List Frame} {meth : Method} {c : Code} {D : va_G} {cy : Nat → ClassId} {lo : Nat}  {S : q_S} {a0 : Nat} {as0 : Nat} {xs1 : Int32} {Q : Option Value → q_S → Prop} {H : Heap} {locs : List Loc} {ls : Array Slot} (X : q_X p s m args meth c RX12 cX12_begin 2 none D cy lo)  (Y : q_Y D cy lo s S H locs) (hl : lv_has ls 2 [(0, .ref a0)]) (h : wb_X12_begin_20 S a0 as0 xs1 Q) : W p l e ({ frames := 3, cells := 0, slots := 0, locals := 68 } : Room) s m args below meth c H locs 0 0 (MQ below (q_Q D cy lo Q) args s 0 0 (fun q => lo ≤ q)) (F0 m 20 ls [.int xs1, .ref as0]) := by
  have hx := X.1
  have hb := X.2.1
  unfold wb_X12_begin_20 at h
  obtain ⟨k5_, h⟩ := h
  refine q_putI X Y kX12 0 rfl fl_X12_278 k5_ .int rfl ⟨rfl, rfl⟩ rfl dX12_begin_20 (fun H locs Y => ?_)
  refine lv_aload_n hx hb dX12_begin_23 rfl (lv_at hl 0 rfl) ?_
  obtain ⟨k6_, h⟩ := h
  refine q_getI X Y kX12 0 rfl fl_X12_278 k6_ dX12_begin_24 ?_
  refine lv_if_le (tgt := 31) hx hb dX12_begin_27 (by decide) (fun c7_ => ?_) (fun c7_ => ?_)
  · replace h := h.1 c7_
    refine lv_aload_n hx hb dX12_begin_31 rfl (lv_at hl 0 rfl) ?_
    refine lv_iconst (v := 1) hx hb dX12_begin_32 (by decide) ?_
    refine q_putI X Y kX12 14 rfl fl_X12_450 k6_ .boolean rfl ⟨rfl, rfl⟩ rfl dX12_begin_33 (fun H locs Y => ?_)
    refine lv_iconst (v := 0) hx hb dX12_begin_36 (by decide) ?_
    refine lv_istore_n (i := 1) (lv' := [(1, .int (0 : Int32)), (0, .ref a0)]) hx hb dX12_begin_37 rfl hl (by decide) (by first | rfl | simp [q_cat, q_catI, q_catJ, q_catR]) (fun ls hl => ?_)
    obtain ⟨n8_, h⟩ := h
    exact cl_X12_begin_38 X n8_ _ _ _ _ _ _ h Y (lv_sub hl [1, 0] rfl)
  · replace h := h.2 c7_
    exact q_vret X Y (Nat.le_refl _) (Nat.le_refl _) h dX12_begin_30
def wb_X12_begin_15  (S : q_S) (a0 : Nat) (as0 : Nat) (Q : Option Value → q_S → Prop) : Prop := wb_X12_begin_20 S a0 as0 (1 : Int32) Q
set_option maxHeartbeats 4000000 in
set_option maxRecDepth 100000 in
theorem cb_X12_begin_15 {p : Program} {l : Launch} {e : Env} {s : State} {m : MethodId} {args : Array Value} {below : List Frame} {meth : Method} {c : Code} {D : va_G} {cy : Nat → ClassId} {lo : Nat}  {S : q_S} {a0 : Nat} {as0 : Nat} {Q : Option Value → q_S → Prop} {H : Heap} {locs : List Loc} {ls : Array Slot} (X : q_X p s m args meth c RX12 cX12_begin 2 none D cy lo)  (Y : q_Y D cy lo s S H locs) (hl : lv_has ls 2 [(0, .ref a0)]) (h : wb_X12_begin_15 S a0 as0 Q) : W p l e ({ frames := 3, cells := 0, slots := 0, locals := 68 } : Room) s m args below meth c H locs 0 0 (MQ below (q_Q D cy lo Q) args s 0 0 (fun q => lo ≤ q)) (F0 m 15 ls [.ref as0]) := by
  have hx := X.1
  have hb := X.2.1
  unfold wb_X12_begin_15 at h
  refine lv_iconst (v := 1) hx hb dX12_begin_15 (by decide) ?_
  refine lv_goto (tgt := 20) hx hb dX12_begin_16 (by decide) ?_
  exact cb_X12_begin_20 X Y (lv_sub hl [0] rfl) h
def wm_X12_begin (S : q_S) (a0 : Nat) (Q : Option Value → q_S → Prop) : Prop := q_K S a0 = 13 ∧ ((((q_I S 2413 a0) = 0 → (wb_X12_begin_15 S a0 a0 Q)) ∧ (¬ (q_I S 2413 a0) = 0 → ((((q_I S 2414 a0) = 0 → (wb_X12_begin_20 S a0 a0 (0 : Int32) Q)) ∧ (¬ (q_I S 2414 a0) = 0 → (wb_X12_begin_15 S a0 a0 Q)))))))
set_option maxHeartbeats 4000000 in
set_option maxRecDepth 100000 in
theorem cm_X12_begin {l : Launch} {D : va_G} {cy : Nat → ClassId} {lo : Nat} {S : q_S} {a0 : Nat} {Q : Option Value → q_S → Prop} (h : wm_X12_begin S a0 Q) : q_Met l D cy lo yX12_begin cX12_begin 2 none 3 68 0 0 [.ref a0] S Q := by
  refine q_body (by decide) (by first | exact Nat.le_of_ble_eq_true rfl | simp [lg_sl, q_cat, q_catI, q_catJ, q_catR]) ?_
  intro p e s m below meth c ls X hnm Y hl
  have hx := X.1
  have hb := X.2.1
  have hl : lv_has ls 2 [(0, .ref a0)] := by first | exact hl | simpa [lv_args, q_cat, q_catI, q_catJ, q_catR] using hl
  generalize hargs : ([.ref a0] : List Value).toArray = args at X ⊢
  unfold wm_X12_begin at h
  refine lv_aload_n hx hb dX12_begin_0 rfl (lv_at hl 0 rfl) ?_
  refine lv_aload_n hx hb dX12_begin_1 rfl (lv_at hl 0 rfl) ?_
  obtain ⟨k9_, h⟩ := h
  refine q_getI X Y kX12 13 rfl fl_X12_443 k9_ dX12_begin_2 ?_
  refine lv_if_eq (tgt := 15) hx hb dX12_begin_5 (by decide) (fun c10_ => ?_) (fun c10_ => ?_)
  · replace h := h.1 c10_
    exact cb_X12_begin_15 X Y (lv_sub hl [0] rfl) h
  · replace h := h.2 c10_
    refine lv_aload_n hx hb dX12_begin_8 rfl (lv_at hl 0 rfl) ?_
    refine q_getI X Y kX12 14 rfl fl_X12_450 k9_ dX12_begin_9 ?_
    refine lv_if_eq (tgt := 19) hx hb dX12_begin_12 (by decide) (fun c11_ => ?_) (fun c11_ => ?_)
    · replace h := h.1 c11_
      refine lv_iconst (v := 0) hx hb dX12_begin_19 (by decide) ?_
      exact cb_X12_begin_20 X Y (lv_sub hl [0] rfl) h
    · replace h := h.2 c11_
      exact cb_X12_begin_15 X Y (lv_sub hl [0] rfl) h
-- X12_traced
theorem dX12_traced_0 : decode cX12_traced 0 = .ok (.iconst 0, 1) := by decide +kernel
theorem dX12_traced_1 : decode cX12_traced 1 = .ok (.istore_n 3, 1) := by decide +kernel
theorem dX12_traced_2 : decode cX12_traced 2 = .ok (.iload_n 3, 1) := by decide +kernel
theorem dX12_traced_3 : decode cX12_traced 3 = .ok (.aload_n 0, 1) := by decide +kernel
theorem dX12_traced_4 : decode cX12_traced 4 = .ok (.getfield 127, 3) := by decide +kernel
theorem dX12_traced_7 : decode cX12_traced 7 = .ok (.iload_n 1, 1) := by decide +kernel
theorem dX12_traced_8 : decode cX12_traced 8 = .ok (.iaload, 1) := by decide +kernel
theorem dX12_traced_9 : decode cX12_traced 9 = .ok (.if_icmp .ge 90, 3) := by decide +kernel
theorem dX12_traced_12 : decode cX12_traced 12 = .ok (.aload_n 0, 1) := by decide +kernel
theorem dX12_traced_13 : decode cX12_traced 13 = .ok (.getfield 130, 3) := by decide +kernel
theorem dX12_traced_16 : decode cX12_traced 16 = .ok (.iconst 4, 1) := by decide +kernel
theorem dX12_traced_17 : decode cX12_traced 17 = .ok (.iload_n 1, 1) := by decide +kernel
theorem dX12_traced_18 : decode cX12_traced 18 = .ok (.imul, 1) := by decide +kernel
theorem dX12_traced_19 : decode cX12_traced 19 = .ok (.iload_n 3, 1) := by decide +kernel
theorem dX12_traced_20 : decode cX12_traced 20 = .ok (.iadd, 1) := by decide +kernel
theorem dX12_traced_21 : decode cX12_traced 21 = .ok (.iaload, 1) := by decide +kernel
theorem dX12_traced_22 : decode cX12_traced 22 = .ok (.bipush (-2), 2) := by decide +kernel
theorem dX12_traced_24 : decode cX12_traced 24 = .ok (.if_icmp .eq 6, 3) := by decide +kernel
theorem dX12_traced_27 : decode cX12_traced 27 = .ok (.goto 66, 3) := by decide +kernel
theorem dX12_traced_30 : decode cX12_traced 30 = .ok (.aload_n 0, 1) := by decide +kernel
theorem dX12_traced_31 : decode cX12_traced 31 = .ok (.getfield 459, 3) := by decide +kernel
theorem dX12_traced_34 : decode cX12_traced 34 = .ok (.sipush 300, 3) := by decide +kernel
theorem dX12_traced_37 : decode cX12_traced 37 = .ok (.if_icmp .ge 46, 3) := by decide +kernel
theorem dX12_traced_40 : decode cX12_traced 40 = .ok (.aload_n 0, 1) := by decide +kernel
theorem dX12_traced_41 : decode cX12_traced 41 = .ok (.getfield 272, 3) := by decide +kernel
theorem dX12_traced_44 : decode cX12_traced 44 = .ok (.iconst 3, 1) := by decide +kernel
theorem dX12_traced_45 : decode cX12_traced 45 = .ok (.aload_n 0, 1) := by decide +kernel
theorem dX12_traced_46 : decode cX12_traced 46 = .ok (.getfield 459, 3) := by decide +kernel
theorem dX12_traced_49 : decode cX12_traced 49 = .ok (.imul, 1) := by decide +kernel
theorem dX12_traced_50 : decode cX12_traced 50 = .ok (.aload_n 0, 1) := by decide +kernel
theorem dX12_traced_51 : decode cX12_traced 51 = .ok (.getfield 453, 3) := by decide +kernel
theorem dX12_traced_54 : decode cX12_traced 54 = .ok (.iastore, 1) := by decide +kernel
theorem dX12_traced_55 : decode cX12_traced 55 = .ok (.aload_n 0, 1) := by decide +kernel
theorem dX12_traced_56 : decode cX12_traced 56 = .ok (.getfield 272, 3) := by decide +kernel
theorem dX12_traced_59 : decode cX12_traced 59 = .ok (.iconst 3, 1) := by decide +kernel
theorem dX12_traced_60 : decode cX12_traced 60 = .ok (.aload_n 0, 1) := by decide +kernel
theorem dX12_traced_61 : decode cX12_traced 61 = .ok (.getfield 459, 3) := by decide +kernel
theorem dX12_traced_64 : decode cX12_traced 64 = .ok (.imul, 1) := by decide +kernel
theorem dX12_traced_65 : decode cX12_traced 65 = .ok (.iconst 1, 1) := by decide +kernel
theorem dX12_traced_66 : decode cX12_traced 66 = .ok (.iadd, 1) := by decide +kernel
theorem dX12_traced_67 : decode cX12_traced 67 = .ok (.iload_n 1, 1) := by decide +kernel
theorem dX12_traced_68 : decode cX12_traced 68 = .ok (.iastore, 1) := by decide +kernel
theorem dX12_traced_69 : decode cX12_traced 69 = .ok (.aload_n 0, 1) := by decide +kernel
theorem dX12_traced_70 : decode cX12_traced 70 = .ok (.getfield 272, 3) := by decide +kernel
theorem dX12_traced_73 : decode cX12_traced 73 = .ok (.iconst 3, 1) := by decide +kernel
theorem dX12_traced_74 : decode cX12_traced 74 = .ok (.aload_n 0, 1) := by decide +kernel
theorem dX12_traced_75 : decode cX12_traced 75 = .ok (.getfield 459, 3) := by decide +kernel
theorem dX12_traced_78 : decode cX12_traced 78 = .ok (.imul, 1) := by decide +kernel
theorem dX12_traced_79 : decode cX12_traced 79 = .ok (.iconst 2, 1) := by decide +kernel
theorem dX12_traced_80 : decode cX12_traced 80 = .ok (.iadd, 1) := by decide +kernel
theorem dX12_traced_81 : decode cX12_traced 81 = .ok (.iload_n 2, 1) := by decide +kernel
theorem dX12_traced_82 : decode cX12_traced 82 = .ok (.iastore, 1) := by decide +kernel
theorem dX12_traced_83 : decode cX12_traced 83 = .ok (.aload_n 0, 1) := by decide +kernel
theorem dX12_traced_84 : decode cX12_traced 84 = .ok (.dup, 1) := by decide +kernel
theorem dX12_traced_85 : decode cX12_traced 85 = .ok (.getfield 459, 3) := by decide +kernel
theorem dX12_traced_88 : decode cX12_traced 88 = .ok (.iconst 1, 1) := by decide +kernel
theorem dX12_traced_89 : decode cX12_traced 89 = .ok (.iadd, 1) := by decide +kernel
theorem dX12_traced_90 : decode cX12_traced 90 = .ok (.putfield 459, 3) := by decide +kernel
theorem dX12_traced_93 : decode cX12_traced 93 = .ok (.iinc 3 1, 3) := by decide +kernel
theorem dX12_traced_96 : decode cX12_traced 96 = .ok (.goto (-94), 3) := by decide +kernel
theorem dX12_traced_99 : decode cX12_traced 99 = .ok (.return_, 1) := by decide +kernel
def wb_X12_traced_93 (B2 : q_S → Nat → Int32 → Int32 → Int32 → Prop) (S : q_S) (a0 : Nat) (x1 : Int32) (x2 : Int32) (x3 : Int32) (Q : Option Value → q_S → Prop) : Prop := B2 S a0 x1 x2 (x3 + 1)
set_option maxHeartbeats 4000000 in
set_option maxRecDepth 100000 in
theorem cb_X12_traced_93 {p : Program} {l : Launch} {e : Env} {s : State} {m : MethodId} {args : Array Value} {below : List Frame} {meth : Method} {c : Code} {D : va_G} {cy : Nat → ClassId} {lo : Nat} {B2 : q_S → Nat → Int32 → Int32 → Int32 → Prop} {S : q_S} {a0 : Nat} {x1 : Int32} {x2 : Int32} {x3 : Int32} {Q : Option Value → q_S → Prop} {H : Heap} {locs : List Loc} {ls : Array Slot} (X : q_X p s m args meth c RX12 cX12_traced 4 none D cy lo) (hB2 : ∀ (S : q_S) (a0 : Nat) (x1 : Int32) (x2 : Int32) (x3 : Int32) (H : Heap) (locs : List Loc) (ls : Array Slot), B2 S a0 x1 x2 x3 → q_Y D cy lo s S H locs → lv_has ls 4 [(0, .ref a0), (1, .int x1), (2, .int x2), (3, .int x3)] → W p l e ({ frames := 0, cells := 0, slots := 0, locals := 0 } : Room) s m args below meth c H locs 0 0 (MQ below (q_Q D cy lo Q) args s 0 0 (fun q => lo ≤ q)) (F0 m 2 ls [])) (Y : q_Y D cy lo s S H locs) (hl : lv_has ls 4 [(0, .ref a0), (1, .int x1), (2, .int x2), (3, .int x3)]) (h : wb_X12_traced_93 B2 S a0 x1 x2 x3 Q) : W p l e ({ frames := 0, cells := 0, slots := 0, locals := 0 } : Room) s m args below meth c H locs 0 0 (MQ below (q_Q D cy lo Q) args s 0 0 (fun q => lo ≤ q)) (F0 m 93 ls []) := by
  have hx := X.1
  have hb := X.2.1
  unfold wb_X12_traced_93 at h
  refine lv_iinc (v := (x3 + 1)) (lv' := [(3, .int (x3 + 1)), (0, .ref a0), (1, .int x1), (2, .int x2)]) hx hb dX12_traced_93 hl (k := 3) rfl (by first | rfl | decide) (by decide) (by first | rfl | simp [q_cat, q_catI, q_catJ, q_catR]) (fun ls hl => ?_)
  refine lv_goto (tgt := 2) hx hb dX12_traced_96 (by decide) ?_
  exact hB2 _ _ _ _ _ _ _ _ h Y (lv_sub hl [1, 2, 3, 0] rfl)
def wb_X12_traced_83 (B2 : q_S → Nat → Int32 → Int32 → Int32 → Prop) (S : q_S) (a0 : Nat) (x1 : Int32) (x2 : Int32) (x3 : Int32) (Q : Option Value → q_S → Prop) : Prop := q_K S a0 = 13 ∧ (wb_X12_traced_93 B2 (qs_I S 2508 a0 ((q_I S 2508 a0) + (1 : Int32))) a0 x1 x2 x3 Q)
set_option maxHeartbeats 4000000 in
set_option maxRecDepth 100000 in
theorem cb_X12_traced_83 {p : Program} {l : Launch} {e : Env} {s : State} {m : MethodId} {args : Array Value} {below : List Frame} {meth : Method} {c : Code} {D : va_G} {cy : Nat → ClassId} {lo : Nat} {B2 : q_S → Nat → Int32 → Int32 → Int32 → Prop} {S : q_S} {a0 : Nat} {x1 : Int32} {x2 : Int32} {x3 : Int32} {Q : Option Value → q_S → Prop} {H : Heap} {locs : List Loc} {ls : Array Slot} (X : q_X p s m args meth c RX12 cX12_traced 4 none D cy lo) (hB2 : ∀ (S : q_S) (a0 : Nat) (x1 : Int32) (x2 : Int32) (x3 : Int32) (H : Heap) (locs : List Loc) (ls : Array Slot), B2 S a0 x1 x2 x3 → q_Y D cy lo s S H locs → lv_has ls 4 [(0, .ref a0), (1, .int x1), (2, .int x2), (3, .int x3)] → W p l e ({ frames := 0, cells := 0, slots := 0, locals := 0 } : Room) s m args below meth c H locs 0 0 (MQ below (q_Q D cy lo Q) args s 0 0 (fun q => lo ≤ q)) (F0 m 2 ls [])) (Y : q_Y D cy lo s S H locs) (hl : lv_has ls 4 [(0, .ref a0), (1, .int x1), (2, .int x2), (3, .int x3)]) (h : wb_X12_traced_83 B2 S a0 x1 x2 x3 Q) : W p l e ({ frames := 0, cells := 0, slots := 0, locals := 0 } : Room) s m args below meth c H locs 0 0 (MQ below (q_Q D cy lo Q) args s 0 0 (fun q => lo ≤ q)) (F0 m 83 ls []) := by
  have hx := X.1
  have hb := X.2.1
  unfold wb_X12_traced_83 at h
  refine lv_aload_n hx hb dX12_traced_83 rfl (lv_at hl 0 rfl) ?_
  refine lv_dup hx hb dX12_traced_84 rfl ?_
  obtain ⟨k1_, h⟩ := h
  refine q_getI X Y kX12 108 rfl fl_X12_459 k1_ dX12_traced_85 ?_
  refine lv_iconst (v := 1) hx hb dX12_traced_88 (by decide) ?_
  refine lv_iadd hx hb dX12_traced_89 ?_
  refine q_putI X Y kX12 108 rfl fl_X12_459 k1_ .int rfl ⟨rfl, rfl⟩ rfl dX12_traced_90 (fun H locs Y => ?_)
  exact cb_X12_traced_93 X hB2 Y (lv_sub hl [0, 1, 2, 3] rfl) h
def wb_X12_traced_2 (B2 : q_S → Nat → Int32 → Int32 → Int32 → Prop) (S : q_S) (a0 : Nat) (x1 : Int32) (x2 : Int32) (x3 : Int32) (Q : Option Value → q_S → Prop) : Prop := q_K S a0 = 13 ∧ (∃ a3_ : Nat, (q_P S 2458 a0) = some a3_ ∧ (q_K S a3_ = 21 ∧ (vp_in x1 (q_N S a3_) ∧ ((((q_A S a3_ x1.toNatClampNeg) ≤ x3 → (Q none S)) ∧ (¬ (q_A S a3_ x1.toNatClampNeg) ≤ x3 → (∃ a8_ : Nat, (q_P S 2459 a0) = some a8_ ∧ (q_K S a8_ = 21 ∧ (vp_in (((4 : Int32) * x1) + x3) (q_N S a8_) ∧ ((((q_A S a8_ (((4 : Int32) * x1) + x3).toNatClampNeg) = (-2 : Int32) → ((((300 : Int32) ≤ (q_I S 2508 a0) → (wb_X12_traced_83 B2 S a0 x1 x2 x3 Q)) ∧ (¬ (300 : Int32) ≤ (q_I S 2508 a0) → (∃ a14_ : Nat, (q_P S 2511 a0) = some a14_ ∧ (q_K S a14_ = 21 ∧ (vp_in ((3 : Int32) * (q_I S 2508 a0)) (q_N S a14_) ∧ (∃ a18_ : Nat, (q_P (qs_A S a14_ ((3 : Int32) * (q_I S 2508 a0)).toNatClampNeg (q_I S 2463 a0)) 2511 a0) = some a18_ ∧ (q_K (qs_A S a14_ ((3 : Int32) * (q_I S 2508 a0)).toNatClampNeg (q_I S 2463 a0)) a18_ = 21 ∧ (vp_in (((3 : Int32) * (q_I (qs_A S a14_ ((3 : Int32) * (q_I S 2508 a0)).toNatClampNeg (q_I S 2463 a0)) 2508 a0)) + (1 : Int32)) (q_N (qs_A S a14_ ((3 : Int32) * (q_I S 2508 a0)).toNatClampNeg (q_I S 2463 a0)) a18_) ∧ (∀ S22_ : q_S, S22_ = (qs_A (qs_A S a14_ ((3 : Int32) * (q_I S 2508 a0)).toNatClampNeg (q_I S 2463 a0)) a18_ (((3 : Int32) * (q_I (qs_A S a14_ ((3 : Int32) * (q_I S 2508 a0)).toNatClampNeg (q_I S 2463 a0)) 2508 a0)) + (1 : Int32)).toNatClampNeg x1) → (∃ a23_ : Nat, (q_P S22_ 2511 a0) = some a23_ ∧ (q_K S22_ a23_ = 21 ∧ (vp_in (((3 : Int32) * (q_I S22_ 2508 a0)) + (2 : Int32)) (q_N S22_ a23_) ∧ (wb_X12_traced_83 B2 (qs_A S22_ a23_ (((3 : Int32) * (q_I S22_ 2508 a0)) + (2 : Int32)).toNatClampNeg x2) a0 x1 x2 x3 Q))))))))))))))) ∧ (¬ (q_A S a8_ (((4 : Int32) * x1) + x3).toNatClampNeg) = (-2 : Int32) → (wb_X12_traced_93 B2 S a0 x1 x2 x3 Q)))))))))))))
set_option maxHeartbeats 4000000 in
set_option maxRecDepth 100000 in
theorem cb_X12_traced_2 {p : Program} {l : Launch} {e : Env} {s : State} {m : MethodId} {args : Array Value} {below : List Frame} {meth : Method} {c : Code} {D : va_G} {cy : Nat → ClassId} {lo : Nat} {B2 : q_S → Nat → Int32 → Int32 → Int32 → Prop} {S : q_S} {a0 : Nat} {x1 : Int32} {x2 : Int32} {x3 : Int32} {Q : Option Value → q_S → Prop} {H : Heap} {locs : List Loc} {ls : Array Slot} (X : q_X p s m args meth c RX12 cX12_traced 4 none D cy lo) (hB2 : ∀ (S : q_S) (a0 : Nat) (x1 : Int32) (x2 : Int32) (x3 : Int32) (H : Heap) (locs : List Loc) (ls : Array Slot), B2 S a0 x1 x2 x3 → q_Y D cy lo s S H locs → lv_has ls 4 [(0, .ref a0), (1, .int x1), (2, .int x2), (3, .int x3)] → W p l e ({ frames := 0, cells := 0, slots := 0, locals := 0 } : Room) s m args below meth c H locs 0 0 (MQ below (q_Q D cy lo Q) args s 0 0 (fun q => lo ≤ q)) (F0 m 2 ls [])) (Y : q_Y D cy lo s S H locs) (hl : lv_has ls 4 [(0, .ref a0), (1, .int x1), (2, .int x2), (3, .int x3)]) (h : wb_X12_traced_2 B2 S a0 x1 x2 x3 Q) : W p l e ({ frames := 0, cells := 0, slots := 0, locals := 0 } : Room) s m args below meth c H locs 0 0 (MQ below (q_Q D cy lo Q) args s 0 0 (fun q => lo ≤ q)) (F0 m 2 ls []) := by
  have hx := X.1
  have hb := X.2.1
  unfold wb_X12_traced_2 at h
  refine lv_iload_n hx hb dX12_traced_2 rfl (lv_at hl 3 rfl) ?_
  refine lv_aload_n hx hb dX12_traced_3 rfl (lv_at hl 0 rfl) ?_
  obtain ⟨k2_, h⟩ := h
  refine q_getP X Y kX12 58 rfl fl_X12_127 k2_ rfl dX12_traced_4 ?_
  refine lv_iload_n hx hb dX12_traced_7 rfl (lv_at hl 1 rfl) ?_
  obtain ⟨a3_, e4_, h⟩ := h
  refine q_nn [.int x1] e4_ ?_
  obtain ⟨k5_, h⟩ := h
  obtain ⟨i6_, h⟩ := h
  refine q_ild X Y k5_ i6_ dX12_traced_8 ?_
  refine lv_icmp_ge (tgt := 99) hx hb dX12_traced_9 (by decide) (fun c7_ => ?_) (fun c7_ => ?_)
  · replace h := h.1 c7_
    exact q_vret X Y (Nat.le_refl _) (Nat.le_refl _) h dX12_traced_99
  · replace h := h.2 c7_
    refine lv_aload_n hx hb dX12_traced_12 rfl (lv_at hl 0 rfl) ?_
    refine q_getP X Y kX12 59 rfl fl_X12_130 k2_ rfl dX12_traced_13 ?_
    refine lv_iconst (v := 4) hx hb dX12_traced_16 (by decide) ?_
    refine lv_iload_n hx hb dX12_traced_17 rfl (lv_at hl 1 rfl) ?_
    refine lv_imul hx hb dX12_traced_18 ?_
    refine lv_iload_n hx hb dX12_traced_19 rfl (lv_at hl 3 rfl) ?_
    refine lv_iadd hx hb dX12_traced_20 ?_
    obtain ⟨a8_, e9_, h⟩ := h
    refine q_nn [.int (((4 : Int32) * x1) + x3)] e9_ ?_
    obtain ⟨k10_, h⟩ := h
    obtain ⟨i11_, h⟩ := h
    refine q_ild X Y k10_ i11_ dX12_traced_21 ?_
    refine lv_bipush (v := (-2)) hx hb dX12_traced_22 (by decide) ?_
    refine lv_icmp_eq (tgt := 30) hx hb dX12_traced_24 (by decide) (fun c12_ => ?_) (fun c12_ => ?_)
    · replace h := h.1 c12_
      refine lv_aload_n hx hb dX12_traced_30 rfl (lv_at hl 0 rfl) ?_
      refine q_getI X Y kX12 108 rfl fl_X12_459 k2_ dX12_traced_31 ?_
      refine lv_sipush (v := 300) hx hb dX12_traced_34 (by decide) ?_
      refine lv_icmp_ge (tgt := 83) hx hb dX12_traced_37 (by decide) (fun c13_ => ?_) (fun c13_ => ?_)
      · replace h := h.1 c13_
        exact cb_X12_traced_83 X hB2 Y (lv_sub hl [0, 1, 2, 3] rfl) h
      · replace h := h.2 c13_
        refine lv_aload_n hx hb dX12_traced_40 rfl (lv_at hl 0 rfl) ?_
        refine q_getP X Y kX12 111 rfl fl_X12_272 k2_ rfl dX12_traced_41 ?_
        refine lv_iconst (v := 3) hx hb dX12_traced_44 (by decide) ?_
        refine lv_aload_n hx hb dX12_traced_45 rfl (lv_at hl 0 rfl) ?_
        refine q_getI X Y kX12 108 rfl fl_X12_459 k2_ dX12_traced_46 ?_
        refine lv_imul hx hb dX12_traced_49 ?_
        refine lv_aload_n hx hb dX12_traced_50 rfl (lv_at hl 0 rfl) ?_
        refine q_getI X Y kX12 63 rfl fl_X12_453 k2_ dX12_traced_51 ?_
        obtain ⟨a14_, e15_, h⟩ := h
        refine q_nn [.int (q_I S 2463 a0), .int ((3 : Int32) * (q_I S 2508 a0))] e15_ ?_
        obtain ⟨k16_, h⟩ := h
        obtain ⟨i17_, h⟩ := h
        refine q_ist X Y k16_ i17_ dX12_traced_54 (fun H locs Y => ?_)
        refine lv_aload_n hx hb dX12_traced_55 rfl (lv_at hl 0 rfl) ?_
        refine q_getP X Y kX12 111 rfl fl_X12_272 k2_ rfl dX12_traced_56 ?_
        refine lv_iconst (v := 3) hx hb dX12_traced_59 (by decide) ?_
        refine lv_aload_n hx hb dX12_traced_60 rfl (lv_at hl 0 rfl) ?_
        refine q_getI X Y kX12 108 rfl fl_X12_459 k2_ dX12_traced_61 ?_
        refine lv_imul hx hb dX12_traced_64 ?_
        refine lv_iconst (v := 1) hx hb dX12_traced_65 (by decide) ?_
        refine lv_iadd hx hb dX12_traced_66 ?_
        refine lv_iload_n hx hb dX12_traced_67 rfl (lv_at hl 1 rfl) ?_
        obtain ⟨a18_, e19_, h⟩ := h
        refine q_nn [.int x1, .int (((3 : Int32) * (q_I (qs_A S a14_ ((3 : Int32) * (q_I S 2508 a0)).toNatClampNeg (q_I S 2463 a0)) 2508 a0)) + (1 : Int32))] e19_ ?_
        obtain ⟨k20_, h⟩ := h
        obtain ⟨i21_, h⟩ := h
        refine q_ist X Y k20_ i21_ dX12_traced_68 (fun H locs Y => ?_)
        obtain ⟨S22_, gS22_⟩ : ∃ z : q_S, z = (qs_A (qs_A S a14_ ((3 : Int32) * (q_I S 2508 a0)).toNatClampNeg (q_I S 2463 a0)) a18_ (((3 : Int32) * (q_I (qs_A S a14_ ((3 : Int32) * (q_I S 2508 a0)).toNatClampNeg (q_I S 2463 a0)) 2508 a0)) + (1 : Int32)).toNatClampNeg x1) := ⟨_, rfl⟩
        replace Y : q_Y D cy lo s S22_ H locs := by rw [gS22_]; exact Y
        replace h := h S22_ gS22_
        replace k2_ : q_K S22_ a0 = 13 := by rw [gS22_]; exact k2_
        replace k5_ : q_K S22_ a3_ = 21 := by rw [gS22_]; exact k5_
        replace k10_ : q_K S22_ a8_ = 21 := by rw [gS22_]; exact k10_
        replace k16_ : q_K S22_ a14_ = 21 := by rw [gS22_]; exact k16_
        replace k20_ : q_K S22_ a18_ = 21 := by rw [gS22_]; exact k20_
        refine lv_aload_n hx hb dX12_traced_69 rfl (lv_at hl 0 rfl) ?_
        refine q_getP X Y kX12 111 rfl fl_X12_272 k2_ rfl dX12_traced_70 ?_
        refine lv_iconst (v := 3) hx hb dX12_traced_73 (by decide) ?_
        refine lv_aload_n hx hb dX12_traced_74 rfl (lv_at hl 0 rfl) ?_
        refine q_getI X Y kX12 108 rfl fl_X12_459 k2_ dX12_traced_75 ?_
        refine lv_imul hx hb dX12_traced_78 ?_
        refine lv_iconst (v := 2) hx hb dX12_traced_79 (by decide) ?_
        refine lv_iadd hx hb dX12_traced_80 ?_
        refine lv_iload_n hx hb dX12_traced_81 rfl (lv_at hl 2 rfl) ?_
        obtain ⟨a23_, e24_, h⟩ := h
        refine q_nn [.int x2, .int (((3 : Int32) * (q_I S22_ 2508 a0)) + (2 : Int32))] e24_ ?_
        obtain ⟨k25_, h⟩ := h
        obtain ⟨i26_, h⟩ := h
        refine q_ist X Y k25_ i26_ dX12_traced_82 (fun H locs Y => ?_)
        exact cb_X12_traced_83 X hB2 Y (lv_sub hl [0, 1, 2, 3] rfl) h
    · replace h := h.2 c12_
      refine lv_goto (tgt := 93) hx hb dX12_traced_27 (by decide) ?_
      exact cb_X12_traced_93 X hB2 Y (lv_sub hl [0, 1, 2, 3] rfl) h
def wl_X12_traced_2  : Nat → q_S → Nat → Int32 → Int32 → Int32 → (Option Value → q_S → Prop) → Prop
  | 0, _, _, _, _, _, _ => False
  | n + 1, S, a0, x1, x2, x3, Q => wb_X12_traced_2 (fun S a0 x1 x2 x3 => wl_X12_traced_2 n S a0 x1 x2 x3 Q) S a0 x1 x2 x3 Q
set_option maxHeartbeats 4000000 in
set_option maxRecDepth 100000 in
theorem cl_X12_traced_2 {p : Program} {l : Launch} {e : Env} {s : State} {m : MethodId} {args : Array Value} {below : List Frame} {meth : Method} {c : Code} {D : va_G} {cy : Nat → ClassId} {lo : Nat}  {Q : Option Value → q_S → Prop} (X : q_X p s m args meth c RX12 cX12_traced 4 none D cy lo)  : ∀ (n : Nat) (S : q_S) (a0 : Nat) (x1 : Int32) (x2 : Int32) (x3 : Int32) (H : Heap) (locs : List Loc) (ls : Array Slot), wl_X12_traced_2 n S a0 x1 x2 x3 Q → q_Y D cy lo s S H locs → lv_has ls 4 [(0, .ref a0), (1, .int x1), (2, .int x2), (3, .int x3)] → W p l e ({ frames := 0, cells := 0, slots := 0, locals := 0 } : Room) s m args below meth c H locs 0 0 (MQ below (q_Q D cy lo Q) args s 0 0 (fun q => lo ≤ q)) (F0 m 2 ls []) := by
  intro n
  induction n with
  | zero => intro S a0 x1 x2 x3 H locs ls h; exact absurd h id
  | succ n ih => intro S a0 x1 x2 x3 H locs ls h Y hl; exact cb_X12_traced_2 X ih Y hl h
def wm_X12_traced (S : q_S) (a0 : Nat) (x1 : Int32) (x2 : Int32) (Q : Option Value → q_S → Prop) : Prop := ∃ n27_ : Nat, wl_X12_traced_2 n27_ S a0 x1 x2 (0 : Int32) Q
set_option maxHeartbeats 4000000 in
set_option maxRecDepth 100000 in
theorem cm_X12_traced {l : Launch} {D : va_G} {cy : Nat → ClassId} {lo : Nat} {S : q_S} {a0 : Nat} {x1 : Int32} {x2 : Int32} {Q : Option Value → q_S → Prop} (h : wm_X12_traced S a0 x1 x2 Q) : q_Met l D cy lo yX12_traced cX12_traced 4 none 0 0 0 0 [.ref a0, .int x1, .int x2] S Q := by
  refine q_body (by decide) (by first | exact Nat.le_of_ble_eq_true rfl | simp [lg_sl, q_cat, q_catI, q_catJ, q_catR]) ?_
  intro p e s m below meth c ls X hnm Y hl
  have hx := X.1
  have hb := X.2.1
  have hl : lv_has ls 4 [(0, .ref a0), (1, .int x1), (2, .int x2)] := by first | exact hl | simpa [lv_args, q_cat, q_catI, q_catJ, q_catR] using hl
  generalize hargs : ([.ref a0, .int x1, .int x2] : List Value).toArray = args at X ⊢
  unfold wm_X12_traced at h
  refine lv_iconst (v := 0) hx hb dX12_traced_0 (by decide) ?_
  refine lv_istore_n (i := 3) (lv' := [(3, .int (0 : Int32)), (0, .ref a0), (1, .int x1), (2, .int x2)]) hx hb dX12_traced_1 rfl hl (by decide) (by first | rfl | simp [q_cat, q_catI, q_catJ, q_catR]) (fun ls hl => ?_)
  obtain ⟨n27_, h⟩ := h
  exact cl_X12_traced_2 X n27_ _ _ _ _ _ _ _ _ h Y (lv_sub hl [1, 2, 3, 0] rfl)
-- X12_sample
theorem dX12_sample_0 : decode cX12_sample 0 = .ok (.aload_n 0, 1) := by decide +kernel
theorem dX12_sample_1 : decode cX12_sample 1 = .ok (.getfield 242, 3) := by decide +kernel
theorem dX12_sample_4 : decode cX12_sample 4 = .ok (.iload_n 1, 1) := by decide +kernel
theorem dX12_sample_5 : decode cX12_sample 5 = .ok (.iconst 1, 1) := by decide +kernel
theorem dX12_sample_6 : decode cX12_sample 6 = .ok (.bastore, 1) := by decide +kernel
theorem dX12_sample_7 : decode cX12_sample 7 = .ok (.aload_n 0, 1) := by decide +kernel
theorem dX12_sample_8 : decode cX12_sample 8 = .ok (.getfield 245, 3) := by decide +kernel
theorem dX12_sample_11 : decode cX12_sample 11 = .ok (.iload_n 1, 1) := by decide +kernel
theorem dX12_sample_12 : decode cX12_sample 12 = .ok (.iload_n 2, 1) := by decide +kernel
theorem dX12_sample_13 : decode cX12_sample 13 = .ok (.iastore, 1) := by decide +kernel
theorem dX12_sample_14 : decode cX12_sample 14 = .ok (.aload_n 0, 1) := by decide +kernel
theorem dX12_sample_15 : decode cX12_sample 15 = .ok (.getfield 248, 3) := by decide +kernel
theorem dX12_sample_18 : decode cX12_sample 18 = .ok (.iload_n 1, 1) := by decide +kernel
theorem dX12_sample_19 : decode cX12_sample 19 = .ok (.aload_n 0, 1) := by decide +kernel
theorem dX12_sample_20 : decode cX12_sample 20 = .ok (.getfield 453, 3) := by decide +kernel
theorem dX12_sample_23 : decode cX12_sample 23 = .ok (.iastore, 1) := by decide +kernel
theorem dX12_sample_24 : decode cX12_sample 24 = .ok (.return_, 1) := by decide +kernel
def wm_X12_sample (S : q_S) (a0 : Nat) (x1 : Int32) (x2 : Int32) (Q : Option Value → q_S → Prop) : Prop := q_K S a0 = 13 ∧ (∃ a2_ : Nat, (q_P S 2498 a0) = some a2_ ∧ (q_K S a2_ = 22 ∧ (vp_in x1 (q_N S a2_) ∧ (∃ a6_ : Nat, (q_P (qs_A S a2_ x1.toNatClampNeg (vp_nar .boolean (1 : Int32))) 2499 a0) = some a6_ ∧ (q_K (qs_A S a2_ x1.toNatClampNeg (vp_nar .boolean (1 : Int32))) a6_ = 21 ∧ (vp_in x1 (q_N (qs_A S a2_ x1.toNatClampNeg (vp_nar .boolean (1 : Int32))) a6_) ∧ (∃ a10_ : Nat, (q_P (qs_A (qs_A S a2_ x1.toNatClampNeg (vp_nar .boolean (1 : Int32))) a6_ x1.toNatClampNeg x2) 2500 a0) = some a10_ ∧ (q_K (qs_A (qs_A S a2_ x1.toNatClampNeg (vp_nar .boolean (1 : Int32))) a6_ x1.toNatClampNeg x2) a10_ = 21 ∧ (vp_in x1 (q_N (qs_A (qs_A S a2_ x1.toNatClampNeg (vp_nar .boolean (1 : Int32))) a6_ x1.toNatClampNeg x2) a10_) ∧ (∀ S14_ : q_S, S14_ = (qs_A (qs_A (qs_A S a2_ x1.toNatClampNeg (vp_nar .boolean (1 : Int32))) a6_ x1.toNatClampNeg x2) a10_ x1.toNatClampNeg (q_I (qs_A (qs_A S a2_ x1.toNatClampNeg (vp_nar .boolean (1 : Int32))) a6_ x1.toNatClampNeg x2) 2463 a0)) → (Q none S14_)))))))))))
set_option maxHeartbeats 4000000 in
set_option maxRecDepth 100000 in
theorem cm_X12_sample {l : Launch} {D : va_G} {cy : Nat → ClassId} {lo : Nat} {S : q_S} {a0 : Nat} {x1 : Int32} {x2 : Int32} {Q : Option Value → q_S → Prop} (h : wm_X12_sample S a0 x1 x2 Q) : q_Met l D cy lo yX12_sample cX12_sample 3 none 0 0 0 0 [.ref a0, .int x1, .int x2] S Q := by
  refine q_body (by decide) (by first | exact Nat.le_of_ble_eq_true rfl | simp [lg_sl, q_cat, q_catI, q_catJ, q_catR]) ?_
  intro p e s m below meth c ls X hnm Y hl
  have hx := X.1
  have hb := X.2.1
  have hl : lv_has ls 3 [(0, .ref a0), (1, .int x1), (2, .int x2)] := by first | exact hl | simpa [lv_args, q_cat, q_catI, q_catJ, q_catR] using hl
  generalize hargs : ([.ref a0, .int x1, .int x2] : List Value).toArray = args at X ⊢
  unfold wm_X12_sample at h
  refine lv_aload_n hx hb dX12_sample_0 rfl (lv_at hl 0 rfl) ?_
  obtain ⟨k1_, h⟩ := h
  refine q_getP X Y kX12 98 rfl fl_X12_242 k1_ rfl dX12_sample_1 ?_
  refine lv_iload_n hx hb dX12_sample_4 rfl (lv_at hl 1 rfl) ?_
  refine lv_iconst (v := 1) hx hb dX12_sample_5 (by decide) ?_
  obtain ⟨a2_, e3_, h⟩ := h
  refine q_nn [.int (1 : Int32), .int x1] e3_ ?_
  obtain ⟨k4_, h⟩ := h
  obtain ⟨i5_, h⟩ := h
  refine q_zst X Y k4_ i5_ dX12_sample_6 (fun H locs Y => ?_)
  refine lv_aload_n hx hb dX12_sample_7 rfl (lv_at hl 0 rfl) ?_
  refine q_getP X Y kX12 99 rfl fl_X12_245 k1_ rfl dX12_sample_8 ?_
  refine lv_iload_n hx hb dX12_sample_11 rfl (lv_at hl 1 rfl) ?_
  refine lv_iload_n hx hb dX12_sample_12 rfl (lv_at hl 2 rfl) ?_
  obtain ⟨a6_, e7_, h⟩ := h
  refine q_nn [.int x2, .int x1] e7_ ?_
  obtain ⟨k8_, h⟩ := h
  obtain ⟨i9_, h⟩ := h
  refine q_ist X Y k8_ i9_ dX12_sample_13 (fun H locs Y => ?_)
  refine lv_aload_n hx hb dX12_sample_14 rfl (lv_at hl 0 rfl) ?_
  refine q_getP X Y kX12 100 rfl fl_X12_248 k1_ rfl dX12_sample_15 ?_
  refine lv_iload_n hx hb dX12_sample_18 rfl (lv_at hl 1 rfl) ?_
  refine lv_aload_n hx hb dX12_sample_19 rfl (lv_at hl 0 rfl) ?_
  refine q_getI X Y kX12 63 rfl fl_X12_453 k1_ dX12_sample_20 ?_
  obtain ⟨a10_, e11_, h⟩ := h
  refine q_nn [.int (q_I (qs_A (qs_A S a2_ x1.toNatClampNeg (vp_nar .boolean (1 : Int32))) a6_ x1.toNatClampNeg x2) 2463 a0), .int x1] e11_ ?_
  obtain ⟨k12_, h⟩ := h
  obtain ⟨i13_, h⟩ := h
  refine q_ist X Y k12_ i13_ dX12_sample_23 (fun H locs Y => ?_)
  obtain ⟨S14_, gS14_⟩ : ∃ z : q_S, z = (qs_A (qs_A (qs_A S a2_ x1.toNatClampNeg (vp_nar .boolean (1 : Int32))) a6_ x1.toNatClampNeg x2) a10_ x1.toNatClampNeg (q_I (qs_A (qs_A S a2_ x1.toNatClampNeg (vp_nar .boolean (1 : Int32))) a6_ x1.toNatClampNeg x2) 2463 a0)) := ⟨_, rfl⟩
  replace Y : q_Y D cy lo s S14_ H locs := by rw [gS14_]; exact Y
  replace h := h S14_ gS14_
  replace k1_ : q_K S14_ a0 = 13 := by rw [gS14_]; exact k1_
  replace k4_ : q_K S14_ a2_ = 22 := by rw [gS14_]; exact k4_
  replace k8_ : q_K S14_ a6_ = 21 := by rw [gS14_]; exact k8_
  replace k12_ : q_K S14_ a10_ = 21 := by rw [gS14_]; exact k12_
  exact q_vret X Y (Nat.le_refl _) (Nat.le_refl _) h dX12_sample_24
-- X12_waiter
theorem dX12_waiter_0 : decode cX12_waiter 0 = .ok (.iconst (-1), 1) := by decide +kernel
theorem dX12_waiter_1 : decode cX12_waiter 1 = .ok (.istore 4, 2) := by decide +kernel
theorem dX12_waiter_3 : decode cX12_waiter 3 = .ok (.iconst 0, 1) := by decide +kernel
theorem dX12_waiter_4 : decode cX12_waiter 4 = .ok (.istore 5, 2) := by decide +kernel
theorem dX12_waiter_6 : decode cX12_waiter 6 = .ok (.iload 5, 2) := by decide +kernel
theorem dX12_waiter_8 : decode cX12_waiter 8 = .ok (.sipush 256, 3) := by decide +kernel
theorem dX12_waiter_11 : decode cX12_waiter 11 = .ok (.if_icmp .ge 125, 3) := by decide +kernel
theorem dX12_waiter_14 : decode cX12_waiter 14 = .ok (.aload_n 0, 1) := by decide +kernel
theorem dX12_waiter_15 : decode cX12_waiter 15 = .ok (.getfield 149, 3) := by decide +kernel
theorem dX12_waiter_18 : decode cX12_waiter 18 = .ok (.iload 5, 2) := by decide +kernel
theorem dX12_waiter_20 : decode cX12_waiter 20 = .ok (.iaload, 1) := by decide +kernel
theorem dX12_waiter_21 : decode cX12_waiter 21 = .ok (.iconst 2, 1) := by decide +kernel
theorem dX12_waiter_22 : decode cX12_waiter 22 = .ok (.if_icmp .ne 108, 3) := by decide +kernel
theorem dX12_waiter_25 : decode cX12_waiter 25 = .ok (.aload_n 0, 1) := by decide +kernel
theorem dX12_waiter_26 : decode cX12_waiter 26 = .ok (.getfield 182, 3) := by decide +kernel
theorem dX12_waiter_29 : decode cX12_waiter 29 = .ok (.iload 5, 2) := by decide +kernel
theorem dX12_waiter_31 : decode cX12_waiter 31 = .ok (.iaload, 1) := by decide +kernel
theorem dX12_waiter_32 : decode cX12_waiter 32 = .ok (.iload_n 1, 1) := by decide +kernel
theorem dX12_waiter_33 : decode cX12_waiter 33 = .ok (.if_icmp .ne 97, 3) := by decide +kernel
theorem dX12_waiter_36 : decode cX12_waiter 36 = .ok (.aload_n 0, 1) := by decide +kernel
theorem dX12_waiter_37 : decode cX12_waiter 37 = .ok (.getfield 185, 3) := by decide +kernel
theorem dX12_waiter_40 : decode cX12_waiter 40 = .ok (.iload 5, 2) := by decide +kernel
theorem dX12_waiter_42 : decode cX12_waiter 42 = .ok (.iaload, 1) := by decide +kernel
theorem dX12_waiter_43 : decode cX12_waiter 43 = .ok (.iload_n 2, 1) := by decide +kernel
theorem dX12_waiter_44 : decode cX12_waiter 44 = .ok (.if_icmp .eq 6, 3) := by decide +kernel
theorem dX12_waiter_47 : decode cX12_waiter 47 = .ok (.goto 83, 3) := by decide +kernel
theorem dX12_waiter_50 : decode cX12_waiter 50 = .ok (.iload 4, 2) := by decide +kernel
theorem dX12_waiter_52 : decode cX12_waiter 52 = .ok (.iconst (-1), 1) := by decide +kernel
theorem dX12_waiter_53 : decode cX12_waiter 53 = .ok (.if_icmp .eq 61, 3) := by decide +kernel
theorem dX12_waiter_56 : decode cX12_waiter 56 = .ok (.iload_n 3, 1) := by decide +kernel
theorem dX12_waiter_57 : decode cX12_waiter 57 = .ok (.ifCond .ne 20, 3) := by decide +kernel
theorem dX12_waiter_60 : decode cX12_waiter 60 = .ok (.aload_n 0, 1) := by decide +kernel
theorem dX12_waiter_61 : decode cX12_waiter 61 = .ok (.getfield 155, 3) := by decide +kernel
theorem dX12_waiter_64 : decode cX12_waiter 64 = .ok (.iload 5, 2) := by decide +kernel
theorem dX12_waiter_66 : decode cX12_waiter 66 = .ok (.iaload, 1) := by decide +kernel
theorem dX12_waiter_67 : decode cX12_waiter 67 = .ok (.aload_n 0, 1) := by decide +kernel
theorem dX12_waiter_68 : decode cX12_waiter 68 = .ok (.getfield 155, 3) := by decide +kernel
theorem dX12_waiter_71 : decode cX12_waiter 71 = .ok (.iload 4, 2) := by decide +kernel
theorem dX12_waiter_73 : decode cX12_waiter 73 = .ok (.iaload, 1) := by decide +kernel
theorem dX12_waiter_74 : decode cX12_waiter 74 = .ok (.if_icmp .ne 23, 3) := by decide +kernel
theorem dX12_waiter_77 : decode cX12_waiter 77 = .ok (.aload_n 0, 1) := by decide +kernel
theorem dX12_waiter_78 : decode cX12_waiter 78 = .ok (.getfield 191, 3) := by decide +kernel
theorem dX12_waiter_81 : decode cX12_waiter 81 = .ok (.iload 5, 2) := by decide +kernel
theorem dX12_waiter_83 : decode cX12_waiter 83 = .ok (.iaload, 1) := by decide +kernel
theorem dX12_waiter_84 : decode cX12_waiter 84 = .ok (.aload_n 0, 1) := by decide +kernel
theorem dX12_waiter_85 : decode cX12_waiter 85 = .ok (.getfield 191, 3) := by decide +kernel
theorem dX12_waiter_88 : decode cX12_waiter 88 = .ok (.iload 4, 2) := by decide +kernel
theorem dX12_waiter_90 : decode cX12_waiter 90 = .ok (.iaload, 1) := by decide +kernel
theorem dX12_waiter_91 : decode cX12_waiter 91 = .ok (.if_icmp .ge 27, 3) := by decide +kernel
theorem dX12_waiter_94 : decode cX12_waiter 94 = .ok (.goto 20, 3) := by decide +kernel
theorem dX12_waiter_97 : decode cX12_waiter 97 = .ok (.aload_n 0, 1) := by decide +kernel
theorem dX12_waiter_98 : decode cX12_waiter 98 = .ok (.getfield 155, 3) := by decide +kernel
theorem dX12_waiter_101 : decode cX12_waiter 101 = .ok (.iload 5, 2) := by decide +kernel
theorem dX12_waiter_103 : decode cX12_waiter 103 = .ok (.iaload, 1) := by decide +kernel
theorem dX12_waiter_104 : decode cX12_waiter 104 = .ok (.aload_n 0, 1) := by decide +kernel
theorem dX12_waiter_105 : decode cX12_waiter 105 = .ok (.getfield 155, 3) := by decide +kernel
theorem dX12_waiter_108 : decode cX12_waiter 108 = .ok (.iload 4, 2) := by decide +kernel
theorem dX12_waiter_110 : decode cX12_waiter 110 = .ok (.iaload, 1) := by decide +kernel
theorem dX12_waiter_111 : decode cX12_waiter 111 = .ok (.if_icmp .le 7, 3) := by decide +kernel
theorem dX12_waiter_114 : decode cX12_waiter 114 = .ok (.iconst 1, 1) := by decide +kernel
theorem dX12_waiter_115 : decode cX12_waiter 115 = .ok (.goto 4, 3) := by decide +kernel
theorem dX12_waiter_118 : decode cX12_waiter 118 = .ok (.iconst 0, 1) := by decide +kernel
theorem dX12_waiter_119 : decode cX12_waiter 119 = .ok (.istore 6, 2) := by decide +kernel
theorem dX12_waiter_121 : decode cX12_waiter 121 = .ok (.iload 6, 2) := by decide +kernel
theorem dX12_waiter_123 : decode cX12_waiter 123 = .ok (.ifCond .eq 7, 3) := by decide +kernel
theorem dX12_waiter_126 : decode cX12_waiter 126 = .ok (.iload 5, 2) := by decide +kernel
theorem dX12_waiter_128 : decode cX12_waiter 128 = .ok (.istore 4, 2) := by decide +kernel
theorem dX12_waiter_130 : decode cX12_waiter 130 = .ok (.iinc 5 1, 3) := by decide +kernel
theorem dX12_waiter_133 : decode cX12_waiter 133 = .ok (.goto (-127), 3) := by decide +kernel
theorem dX12_waiter_136 : decode cX12_waiter 136 = .ok (.iload 4, 2) := by decide +kernel
theorem dX12_waiter_138 : decode cX12_waiter 138 = .ok (.ireturn, 1) := by decide +kernel
def wb_X12_waiter_130 (B6 : q_S → Nat → Int32 → Int32 → Int32 → Int32 → Int32 → Prop) (S : q_S) (a0 : Nat) (x1 : Int32) (x2 : Int32) (x3 : Int32) (x4 : Int32) (x5 : Int32) (Q : Option Value → q_S → Prop) : Prop := B6 S a0 x1 x2 x3 x4 (x5 + 1)
set_option maxHeartbeats 4000000 in
set_option maxRecDepth 100000 in
theorem cb_X12_waiter_130 {p : Program} {l : Launch} {e : Env} {s : State} {m : MethodId} {args : Array Value} {below : List Frame} {meth : Method} {c : Code} {D : va_G} {cy : Nat → ClassId} {lo : Nat} {B6 : q_S → Nat → Int32 → Int32 → Int32 → Int32 → Int32 → Prop} {S : q_S} {a0 : Nat} {x1 : Int32} {x2 : Int32} {x3 : Int32} {x4 : Int32} {x5 : Int32} {Q : Option Value → q_S → Prop} {H : Heap} {locs : List Loc} {ls : Array Slot} (X : q_X p s m args meth c RX12 cX12_waiter 7 (some .int) D cy lo) (hB6 : ∀ (S : q_S) (a0 : Nat) (x1 : Int32) (x2 : Int32) (x3 : Int32) (x4 : Int32) (x5 : Int32) (H : Heap) (locs : List Loc) (ls : Array Slot), B6 S a0 x1 x2 x3 x4 x5 → q_Y D cy lo s S H locs → lv_has ls 7 [(0, .ref a0), (1, .int x1), (2, .int x2), (3, .int x3), (4, .int x4), (5, .int x5)] → W p l e ({ frames := 0, cells := 0, slots := 0, locals := 0 } : Room) s m args below meth c H locs 0 0 (MQ below (q_Q D cy lo Q) args s 0 0 (fun q => lo ≤ q)) (F0 m 6 ls [])) (Y : q_Y D cy lo s S H locs) (hl : lv_has ls 7 [(0, .ref a0), (1, .int x1), (2, .int x2), (3, .int x3), (4, .int x4), (5, .int x5)]) (h : wb_X12_waiter_130 B6 S a0 x1 x2 x3 x4 x5 Q) : W p l e ({ frames := 0, cells := 0, slots := 0, locals := 0 } : Room) s m args below meth c H locs 0 0 (MQ below (q_Q D cy lo Q) args s 0 0 (fun q => lo ≤ q)) (F0 m 130 ls []) := by
  have hx := X.1
  have hb := X.2.1
  unfold wb_X12_waiter_130 at h
  refine lv_iinc (v := (x5 + 1)) (lv' := [(5, .int (x5 + 1)), (0, .ref a0), (1, .int x1), (2, .int x2), (3, .int x3), (4, .int x4)]) hx hb dX12_waiter_130 hl (k := 5) rfl (by first | rfl | decide) (by decide) (by first | rfl | simp [q_cat, q_catI, q_catJ, q_catR]) (fun ls hl => ?_)
  refine lv_goto (tgt := 6) hx hb dX12_waiter_133 (by decide) ?_
  exact hB6 _ _ _ _ _ _ _ _ _ _ h Y (lv_sub hl [1, 2, 3, 4, 5, 0] rfl)
def wb_X12_waiter_119 (B6 : q_S → Nat → Int32 → Int32 → Int32 → Int32 → Int32 → Prop) (S : q_S) (a0 : Nat) (x1 : Int32) (x2 : Int32) (x3 : Int32) (x4 : Int32) (x5 : Int32) (xs0 : Int32) (Q : Option Value → q_S → Prop) : Prop := ((xs0 = 0 → (wb_X12_waiter_130 B6 S a0 x1 x2 x3 x4 x5 Q)) ∧ (¬ xs0 = 0 → (wb_X12_waiter_130 B6 S a0 x1 x2 x3 x5 x5 Q)))
set_option maxHeartbeats 4000000 in
set_option maxRecDepth 100000 in
theorem cb_X12_waiter_119 {p : Program} {l : Launch} {e : Env} {s : State} {m : MethodId} {args : Array Value} {below : List Frame} {meth : Method} {c : Code} {D : va_G} {cy : Nat → ClassId} {lo : Nat} {B6 : q_S → Nat → Int32 → Int32 → Int32 → Int32 → Int32 → Prop} {S : q_S} {a0 : Nat} {x1 : Int32} {x2 : Int32} {x3 : Int32} {x4 : Int32} {x5 : Int32} {xs0 : Int32} {Q : Option Value → q_S → Prop} {H : Heap} {locs : List Loc} {ls : Array Slot} (X : q_X p s m args meth c RX12 cX12_waiter 7 (some .int) D cy lo) (hB6 : ∀ (S : q_S) (a0 : Nat) (x1 : Int32) (x2 : Int32) (x3 : Int32) (x4 : Int32) (x5 : Int32) (H : Heap) (locs : List Loc) (ls : Array Slot), B6 S a0 x1 x2 x3 x4 x5 → q_Y D cy lo s S H locs → lv_has ls 7 [(0, .ref a0), (1, .int x1), (2, .int x2), (3, .int x3), (4, .int x4), (5, .int x5)] → W p l e ({ frames := 0, cells := 0, slots := 0, locals := 0 } : Room) s m args below meth c H locs 0 0 (MQ below (q_Q D cy lo Q) args s 0 0 (fun q => lo ≤ q)) (F0 m 6 ls [])) (Y : q_Y D cy lo s S H locs) (hl : lv_has ls 7 [(0, .ref a0), (1, .int x1), (2, .int x2), (3, .int x3), (4, .int x4), (5, .int x5)]) (h : wb_X12_waiter_119 B6 S a0 x1 x2 x3 x4 x5 xs0 Q) : W p l e ({ frames := 0, cells := 0, slots := 0, locals := 0 } : Room) s m args below meth c H locs 0 0 (MQ below (q_Q D cy lo Q) args s 0 0 (fun q => lo ≤ q)) (F0 m 119 ls [.int xs0]) := by
  have hx := X.1
  have hb := X.2.1
  unfold wb_X12_waiter_119 at h
  refine lv_istore (i := 6) (lv' := [(6, .int xs0), (0, .ref a0), (1, .int x1), (2, .int x2), (3, .int x3), (4, .int x4), (5, .int x5)]) hx hb dX12_waiter_119 hl (by decide) (by first | rfl | simp [q_cat, q_catI, q_catJ, q_catR]) (fun ls hl => ?_)
  refine lv_iload hx hb dX12_waiter_121 (lv_at hl 0 rfl) ?_
  refine lv_if_eq (tgt := 130) hx hb dX12_waiter_123 (by decide) (fun c1_ => ?_) (fun c1_ => ?_)
  · replace h := h.1 c1_
    exact cb_X12_waiter_130 X hB6 Y (lv_sub hl [1, 2, 3, 4, 5, 6] rfl) h
  · replace h := h.2 c1_
    refine lv_iload hx hb dX12_waiter_126 (lv_at hl 6 rfl) ?_
    refine lv_istore (i := 4) (lv' := [(4, .int x5), (6, .int xs0), (0, .ref a0), (1, .int x1), (2, .int x2), (3, .int x3), (5, .int x5)]) hx hb dX12_waiter_128 hl (by decide) (by first | rfl | simp [q_cat, q_catI, q_catJ, q_catR]) (fun ls hl => ?_)
    exact cb_X12_waiter_130 X hB6 Y (lv_sub hl [2, 3, 4, 5, 0, 6] rfl) h
def wb_X12_waiter_114 (B6 : q_S → Nat → Int32 → Int32 → Int32 → Int32 → Int32 → Prop) (S : q_S) (a0 : Nat) (x1 : Int32) (x2 : Int32) (x3 : Int32) (x4 : Int32) (x5 : Int32) (Q : Option Value → q_S → Prop) : Prop := wb_X12_waiter_119 B6 S a0 x1 x2 x3 x4 x5 (1 : Int32) Q
set_option maxHeartbeats 4000000 in
set_option maxRecDepth 100000 in
theorem cb_X12_waiter_114 {p : Program} {l : Launch} {e : Env} {s : State} {m : MethodId} {args : Array Value} {below : List Frame} {meth : Method} {c : Code} {D : va_G} {cy : Nat → ClassId} {lo : Nat} {B6 : q_S → Nat → Int32 → Int32 → Int32 → Int32 → Int32 → Prop} {S : q_S} {a0 : Nat} {x1 : Int32} {x2 : Int32} {x3 : Int32} {x4 : Int32} {x5 : Int32} {Q : Option Value → q_S → Prop} {H : Heap} {locs : List Loc} {ls : Array Slot} (X : q_X p s m args meth c RX12 cX12_waiter 7 (some .int) D cy lo) (hB6 : ∀ (S : q_S) (a0 : Nat) (x1 : Int32) (x2 : Int32) (x3 : Int32) (x4 : Int32) (x5 : Int32) (H : Heap) (locs : List Loc) (ls : Array Slot), B6 S a0 x1 x2 x3 x4 x5 → q_Y D cy lo s S H locs → lv_has ls 7 [(0, .ref a0), (1, .int x1), (2, .int x2), (3, .int x3), (4, .int x4), (5, .int x5)] → W p l e ({ frames := 0, cells := 0, slots := 0, locals := 0 } : Room) s m args below meth c H locs 0 0 (MQ below (q_Q D cy lo Q) args s 0 0 (fun q => lo ≤ q)) (F0 m 6 ls [])) (Y : q_Y D cy lo s S H locs) (hl : lv_has ls 7 [(0, .ref a0), (1, .int x1), (2, .int x2), (3, .int x3), (4, .int x4), (5, .int x5)]) (h : wb_X12_waiter_114 B6 S a0 x1 x2 x3 x4 x5 Q) : W p l e ({ frames := 0, cells := 0, slots := 0, locals := 0 } : Room) s m args below meth c H locs 0 0 (MQ below (q_Q D cy lo Q) args s 0 0 (fun q => lo ≤ q)) (F0 m 114 ls []) := by
  have hx := X.1
  have hb := X.2.1
  unfold wb_X12_waiter_114 at h
  refine lv_iconst (v := 1) hx hb dX12_waiter_114 (by decide) ?_
  refine lv_goto (tgt := 119) hx hb dX12_waiter_115 (by decide) ?_
  exact cb_X12_waiter_119 X hB6 Y (lv_sub hl [0, 1, 2, 3, 4, 5] rfl) h
def wb_X12_waiter_118 (B6 : q_S → Nat → Int32 → Int32 → Int32 → Int32 → Int32 → Prop) (S : q_S) (a0 : Nat) (x1 : Int32) (x2 : Int32) (x3 : Int32) (x4 : Int32) (x5 : Int32) (Q : Option Value → q_S → Prop) : Prop := wb_X12_waiter_119 B6 S a0 x1 x2 x3 x4 x5 (0 : Int32) Q
set_option maxHeartbeats 4000000 in
set_option maxRecDepth 100000 in
theorem cb_X12_waiter_118 {p : Program} {l : Launch} {e : Env} {s : State} {m : MethodId} {args : Array Value} {below : List Frame} {meth : Method} {c : Code} {D : va_G} {cy : Nat → ClassId} {lo : Nat} {B6 : q_S → Nat → Int32 → Int32 → Int32 → Int32 → Int32 → Prop} {S : q_S} {a0 : Nat} {x1 : Int32} {x2 : Int32} {x3 : Int32} {x4 : Int32} {x5 : Int32} {Q : Option Value → q_S → Prop} {H : Heap} {locs : List Loc} {ls : Array Slot} (X : q_X p s m args meth c RX12 cX12_waiter 7 (some .int) D cy lo) (hB6 : ∀ (S : q_S) (a0 : Nat) (x1 : Int32) (x2 : Int32) (x3 : Int32) (x4 : Int32) (x5 : Int32) (H : Heap) (locs : List Loc) (ls : Array Slot), B6 S a0 x1 x2 x3 x4 x5 → q_Y D cy lo s S H locs → lv_has ls 7 [(0, .ref a0), (1, .int x1), (2, .int x2), (3, .int x3), (4, .int x4), (5, .int x5)] → W p l e ({ frames := 0, cells := 0, slots := 0, locals := 0 } : Room) s m args below meth c H locs 0 0 (MQ below (q_Q D cy lo Q) args s 0 0 (fun q => lo ≤ q)) (F0 m 6 ls [])) (Y : q_Y D cy lo s S H locs) (hl : lv_has ls 7 [(0, .ref a0), (1, .int x1), (2, .int x2), (3, .int x3), (4, .int x4), (5, .int x5)]) (h : wb_X12_waiter_118 B6 S a0 x1 x2 x3 x4 x5 Q) : W p l e ({ frames := 0, cells := 0, slots := 0, locals := 0 } : Room) s m args below meth c H locs 0 0 (MQ below (q_Q D cy lo Q) args s 0 0 (fun q => lo ≤ q)) (F0 m 118 ls []) := by
  have hx := X.1
  have hb := X.2.1
  unfold wb_X12_waiter_118 at h
  refine lv_iconst (v := 0) hx hb dX12_waiter_118 (by decide) ?_
  exact cb_X12_waiter_119 X hB6 Y (lv_sub hl [0, 1, 2, 3, 4, 5] rfl) h
def wb_X12_waiter_77 (B6 : q_S → Nat → Int32 → Int32 → Int32 → Int32 → Int32 → Prop) (S : q_S) (a0 : Nat) (x1 : Int32) (x2 : Int32) (x3 : Int32) (x4 : Int32) (x5 : Int32) (Q : Option Value → q_S → Prop) : Prop := q_K S a0 = 13 ∧ (∃ a3_ : Nat, (q_P S 2481 a0) = some a3_ ∧ (q_K S a3_ = 21 ∧ (vp_in x5 (q_N S a3_) ∧ (vp_in x4 (q_N S a3_) ∧ ((((q_A S a3_ x4.toNatClampNeg) ≤ (q_A S a3_ x5.toNatClampNeg) → (wb_X12_waiter_118 B6 S a0 x1 x2 x3 x4 x5 Q)) ∧ (¬ (q_A S a3_ x4.toNatClampNeg) ≤ (q_A S a3_ x5.toNatClampNeg) → (wb_X12_waiter_114 B6 S a0 x1 x2 x3 x4 x5 Q))))))))
set_option maxHeartbeats 4000000 in
set_option maxRecDepth 100000 in
theorem cb_X12_waiter_77 {p : Program} {l : Launch} {e : Env} {s : State} {m : MethodId} {args : Array Value} {below : List Frame} {meth : Method} {c : Code} {D : va_G} {cy : Nat → ClassId} {lo : Nat} {B6 : q_S → Nat → Int32 → Int32 → Int32 → Int32 → Int32 → Prop} {S : q_S} {a0 : Nat} {x1 : Int32} {x2 : Int32} {x3 : Int32} {x4 : Int32} {x5 : Int32} {Q : Option Value → q_S → Prop} {H : Heap} {locs : List Loc} {ls : Array Slot} (X : q_X p s m args meth c RX12 cX12_waiter 7 (some .int) D cy lo) (hB6 : ∀ (S : q_S) (a0 : Nat) (x1 : Int32) (x2 : Int32) (x3 : Int32) (x4 : Int32) (x5 : Int32) (H : Heap) (locs : List Loc) (ls : Array Slot), B6 S a0 x1 x2 x3 x4 x5 → q_Y D cy lo s S H locs → lv_has ls 7 [(0, .ref a0), (1, .int x1), (2, .int x2), (3, .int x3), (4, .int x4), (5, .int x5)] → W p l e ({ frames := 0, cells := 0, slots := 0, locals := 0 } : Room) s m args below meth c H locs 0 0 (MQ below (q_Q D cy lo Q) args s 0 0 (fun q => lo ≤ q)) (F0 m 6 ls [])) (Y : q_Y D cy lo s S H locs) (hl : lv_has ls 7 [(0, .ref a0), (1, .int x1), (2, .int x2), (3, .int x3), (4, .int x4), (5, .int x5)]) (h : wb_X12_waiter_77 B6 S a0 x1 x2 x3 x4 x5 Q) : W p l e ({ frames := 0, cells := 0, slots := 0, locals := 0 } : Room) s m args below meth c H locs 0 0 (MQ below (q_Q D cy lo Q) args s 0 0 (fun q => lo ≤ q)) (F0 m 77 ls []) := by
  have hx := X.1
  have hb := X.2.1
  unfold wb_X12_waiter_77 at h
  refine lv_aload_n hx hb dX12_waiter_77 rfl (lv_at hl 0 rfl) ?_
  obtain ⟨k2_, h⟩ := h
  refine q_getP X Y kX12 81 rfl fl_X12_191 k2_ rfl dX12_waiter_78 ?_
  refine lv_iload hx hb dX12_waiter_81 (lv_at hl 5 rfl) ?_
  obtain ⟨a3_, e4_, h⟩ := h
  refine q_nn [.int x5] e4_ ?_
  obtain ⟨k5_, h⟩ := h
  obtain ⟨i6_, h⟩ := h
  refine q_ild X Y k5_ i6_ dX12_waiter_83 ?_
  refine lv_aload_n hx hb dX12_waiter_84 rfl (lv_at hl 0 rfl) ?_
  refine q_getR X Y kX12 81 rfl fl_X12_191 k2_ e4_ dX12_waiter_85 ?_
  refine lv_iload hx hb dX12_waiter_88 (lv_at hl 4 rfl) ?_
  obtain ⟨i7_, h⟩ := h
  refine q_ild X Y k5_ i7_ dX12_waiter_90 ?_
  refine lv_icmp_ge (tgt := 118) hx hb dX12_waiter_91 (by decide) (fun c8_ => ?_) (fun c8_ => ?_)
  · replace h := h.1 c8_
    exact cb_X12_waiter_118 X hB6 Y (lv_sub hl [0, 1, 2, 3, 4, 5] rfl) h
  · replace h := h.2 c8_
    refine lv_goto (tgt := 114) hx hb dX12_waiter_94 (by decide) ?_
    exact cb_X12_waiter_114 X hB6 Y (lv_sub hl [0, 1, 2, 3, 4, 5] rfl) h
def wb_X12_waiter_6 (B6 : q_S → Nat → Int32 → Int32 → Int32 → Int32 → Int32 → Prop) (S : q_S) (a0 : Nat) (x1 : Int32) (x2 : Int32) (x3 : Int32) (x4 : Int32) (x5 : Int32) (Q : Option Value → q_S → Prop) : Prop := (((256 : Int32) ≤ x5 → (Q (some (.int x4)) S)) ∧ (¬ (256 : Int32) ≤ x5 → (q_K S a0 = 13 ∧ (∃ a11_ : Nat, (q_P S 2467 a0) = some a11_ ∧ (q_K S a11_ = 21 ∧ (vp_in x5 (q_N S a11_) ∧ (((¬ (q_A S a11_ x5.toNatClampNeg) = (2 : Int32) → (wb_X12_waiter_130 B6 S a0 x1 x2 x3 x4 x5 Q)) ∧ ((q_A S a11_ x5.toNatClampNeg) = (2 : Int32) → (∃ a16_ : Nat, (q_P S 2478 a0) = some a16_ ∧ (q_K S a16_ = 21 ∧ (vp_in x5 (q_N S a16_) ∧ (((¬ (q_A S a16_ x5.toNatClampNeg) = x1 → (wb_X12_waiter_130 B6 S a0 x1 x2 x3 x4 x5 Q)) ∧ ((q_A S a16_ x5.toNatClampNeg) = x1 → (∃ a21_ : Nat, (q_P S 2479 a0) = some a21_ ∧ (q_K S a21_ = 21 ∧ (vp_in x5 (q_N S a21_) ∧ ((((q_A S a21_ x5.toNatClampNeg) = x2 → (((x4 = (-1 : Int32) → (wb_X12_waiter_114 B6 S a0 x1 x2 x3 x4 x5 Q)) ∧ (¬ x4 = (-1 : Int32) → (((¬ x3 = 0 → (wb_X12_waiter_77 B6 S a0 x1 x2 x3 x4 x5 Q)) ∧ (x3 = 0 → (∃ a28_ : Nat, (q_P S 2469 a0) = some a28_ ∧ (q_K S a28_ = 21 ∧ (vp_in x5 (q_N S a28_) ∧ (vp_in x4 (q_N S a28_) ∧ (((¬ (q_A S a28_ x5.toNatClampNeg) = (q_A S a28_ x4.toNatClampNeg) → (vp_in x5 (q_N S a28_) ∧ (vp_in x4 (q_N S a28_) ∧ ((((q_A S a28_ x5.toNatClampNeg) ≤ (q_A S a28_ x4.toNatClampNeg) → (wb_X12_waiter_118 B6 S a0 x1 x2 x3 x4 x5 Q)) ∧ (¬ (q_A S a28_ x5.toNatClampNeg) ≤ (q_A S a28_ x4.toNatClampNeg) → (wb_X12_waiter_114 B6 S a0 x1 x2 x3 x4 x5 Q))))))) ∧ ((q_A S a28_ x5.toNatClampNeg) = (q_A S a28_ x4.toNatClampNeg) → (wb_X12_waiter_77 B6 S a0 x1 x2 x3 x4 x5 Q))))))))))))))) ∧ (¬ (q_A S a21_ x5.toNatClampNeg) = x2 → (wb_X12_waiter_130 B6 S a0 x1 x2 x3 x4 x5 Q))))))))))))))))))))))
set_option maxHeartbeats 4000000 in
set_option maxRecDepth 100000 in
theorem cb_X12_waiter_6 {p : Program} {l : Launch} {e : Env} {s : State} {m : MethodId} {args : Array Value} {below : List Frame} {meth : Method} {c : Code} {D : va_G} {cy : Nat → ClassId} {lo : Nat} {B6 : q_S → Nat → Int32 → Int32 → Int32 → Int32 → Int32 → Prop} {S : q_S} {a0 : Nat} {x1 : Int32} {x2 : Int32} {x3 : Int32} {x4 : Int32} {x5 : Int32} {Q : Option Value → q_S → Prop} {H : Heap} {locs : List Loc} {ls : Array Slot} (X : q_X p s m args meth c RX12 cX12_waiter 7 (some .int) D cy lo) (hB6 : ∀ (S : q_S) (a0 : Nat) (x1 : Int32) (x2 : Int32) (x3 : Int32) (x4 : Int32) (x5 : Int32) (H : Heap) (locs : List Loc) (ls : Array Slot), B6 S a0 x1 x2 x3 x4 x5 → q_Y D cy lo s S H locs → lv_has ls 7 [(0, .ref a0), (1, .int x1), (2, .int x2), (3, .int x3), (4, .int x4), (5, .int x5)] → W p l e ({ frames := 0, cells := 0, slots := 0, locals := 0 } : Room) s m args below meth c H locs 0 0 (MQ below (q_Q D cy lo Q) args s 0 0 (fun q => lo ≤ q)) (F0 m 6 ls [])) (Y : q_Y D cy lo s S H locs) (hl : lv_has ls 7 [(0, .ref a0), (1, .int x1), (2, .int x2), (3, .int x3), (4, .int x4), (5, .int x5)]) (h : wb_X12_waiter_6 B6 S a0 x1 x2 x3 x4 x5 Q) : W p l e ({ frames := 0, cells := 0, slots := 0, locals := 0 } : Room) s m args below meth c H locs 0 0 (MQ below (q_Q D cy lo Q) args s 0 0 (fun q => lo ≤ q)) (F0 m 6 ls []) := by
  have hx := X.1
  have hb := X.2.1
  unfold wb_X12_waiter_6 at h
  refine lv_iload hx hb dX12_waiter_6 (lv_at hl 5 rfl) ?_
  refine lv_sipush (v := 256) hx hb dX12_waiter_8 (by decide) ?_
  refine lv_icmp_ge (tgt := 136) hx hb dX12_waiter_11 (by decide) (fun c9_ => ?_) (fun c9_ => ?_)
  · replace h := h.1 c9_
    refine lv_iload hx hb dX12_waiter_136 (lv_at hl 4 rfl) ?_
    exact q_iret X Y rfl (Nat.le_refl _) (Nat.le_refl _) h dX12_waiter_138
  · replace h := h.2 c9_
    refine lv_aload_n hx hb dX12_waiter_14 rfl (lv_at hl 0 rfl) ?_
    obtain ⟨k10_, h⟩ := h
    refine q_getP X Y kX12 67 rfl fl_X12_149 k10_ rfl dX12_waiter_15 ?_
    refine lv_iload hx hb dX12_waiter_18 (lv_at hl 5 rfl) ?_
    obtain ⟨a11_, e12_, h⟩ := h
    refine q_nn [.int x5] e12_ ?_
    obtain ⟨k13_, h⟩ := h
    obtain ⟨i14_, h⟩ := h
    refine q_ild X Y k13_ i14_ dX12_waiter_20 ?_
    refine lv_iconst (v := 2) hx hb dX12_waiter_21 (by decide) ?_
    refine lv_icmp_ne (tgt := 130) hx hb dX12_waiter_22 (by decide) (fun c15_ => ?_) (fun c15_ => ?_)
    · replace h := h.1 c15_
      exact cb_X12_waiter_130 X hB6 Y (lv_sub hl [0, 1, 2, 3, 4, 5] rfl) h
    · replace h := h.2 c15_
      refine lv_aload_n hx hb dX12_waiter_25 rfl (lv_at hl 0 rfl) ?_
      refine q_getP X Y kX12 78 rfl fl_X12_182 k10_ rfl dX12_waiter_26 ?_
      refine lv_iload hx hb dX12_waiter_29 (lv_at hl 5 rfl) ?_
      obtain ⟨a16_, e17_, h⟩ := h
      refine q_nn [.int x5] e17_ ?_
      obtain ⟨k18_, h⟩ := h
      obtain ⟨i19_, h⟩ := h
      refine q_ild X Y k18_ i19_ dX12_waiter_31 ?_
      refine lv_iload_n hx hb dX12_waiter_32 rfl (lv_at hl 1 rfl) ?_
      refine lv_icmp_ne (tgt := 130) hx hb dX12_waiter_33 (by decide) (fun c20_ => ?_) (fun c20_ => ?_)
      · replace h := h.1 c20_
        exact cb_X12_waiter_130 X hB6 Y (lv_sub hl [0, 1, 2, 3, 4, 5] rfl) h
      · replace h := h.2 c20_
        refine lv_aload_n hx hb dX12_waiter_36 rfl (lv_at hl 0 rfl) ?_
        refine q_getP X Y kX12 79 rfl fl_X12_185 k10_ rfl dX12_waiter_37 ?_
        refine lv_iload hx hb dX12_waiter_40 (lv_at hl 5 rfl) ?_
        obtain ⟨a21_, e22_, h⟩ := h
        refine q_nn [.int x5] e22_ ?_
        obtain ⟨k23_, h⟩ := h
        obtain ⟨i24_, h⟩ := h
        refine q_ild X Y k23_ i24_ dX12_waiter_42 ?_
        refine lv_iload_n hx hb dX12_waiter_43 rfl (lv_at hl 2 rfl) ?_
        refine lv_icmp_eq (tgt := 50) hx hb dX12_waiter_44 (by decide) (fun c25_ => ?_) (fun c25_ => ?_)
        · replace h := h.1 c25_
          refine lv_iload hx hb dX12_waiter_50 (lv_at hl 4 rfl) ?_
          refine lv_iconst (v := (-1)) hx hb dX12_waiter_52 (by decide) ?_
          refine lv_icmp_eq (tgt := 114) hx hb dX12_waiter_53 (by decide) (fun c26_ => ?_) (fun c26_ => ?_)
          · replace h := h.1 c26_
            exact cb_X12_waiter_114 X hB6 Y (lv_sub hl [0, 1, 2, 3, 4, 5] rfl) h
          · replace h := h.2 c26_
            refine lv_iload_n hx hb dX12_waiter_56 rfl (lv_at hl 3 rfl) ?_
            refine lv_if_ne (tgt := 77) hx hb dX12_waiter_57 (by decide) (fun c27_ => ?_) (fun c27_ => ?_)
            · replace h := h.1 c27_
              exact cb_X12_waiter_77 X hB6 Y (lv_sub hl [0, 1, 2, 3, 4, 5] rfl) h
            · replace h := h.2 c27_
              refine lv_aload_n hx hb dX12_waiter_60 rfl (lv_at hl 0 rfl) ?_
              refine q_getP X Y kX12 69 rfl fl_X12_155 k10_ rfl dX12_waiter_61 ?_
              refine lv_iload hx hb dX12_waiter_64 (lv_at hl 5 rfl) ?_
              obtain ⟨a28_, e29_, h⟩ := h
              refine q_nn [.int x5] e29_ ?_
              obtain ⟨k30_, h⟩ := h
              obtain ⟨i31_, h⟩ := h
              refine q_ild X Y k30_ i31_ dX12_waiter_66 ?_
              refine lv_aload_n hx hb dX12_waiter_67 rfl (lv_at hl 0 rfl) ?_
              refine q_getR X Y kX12 69 rfl fl_X12_155 k10_ e29_ dX12_waiter_68 ?_
              refine lv_iload hx hb dX12_waiter_71 (lv_at hl 4 rfl) ?_
              obtain ⟨i32_, h⟩ := h
              refine q_ild X Y k30_ i32_ dX12_waiter_73 ?_
              refine lv_icmp_ne (tgt := 97) hx hb dX12_waiter_74 (by decide) (fun c33_ => ?_) (fun c33_ => ?_)
              · replace h := h.1 c33_
                refine lv_aload_n hx hb dX12_waiter_97 rfl (lv_at hl 0 rfl) ?_
                refine q_getR X Y kX12 69 rfl fl_X12_155 k10_ e29_ dX12_waiter_98 ?_
                refine lv_iload hx hb dX12_waiter_101 (lv_at hl 5 rfl) ?_
                obtain ⟨i34_, h⟩ := h
                refine q_ild X Y k30_ i34_ dX12_waiter_103 ?_
                refine lv_aload_n hx hb dX12_waiter_104 rfl (lv_at hl 0 rfl) ?_
                refine q_getR X Y kX12 69 rfl fl_X12_155 k10_ e29_ dX12_waiter_105 ?_
                refine lv_iload hx hb dX12_waiter_108 (lv_at hl 4 rfl) ?_
                obtain ⟨i35_, h⟩ := h
                refine q_ild X Y k30_ i35_ dX12_waiter_110 ?_
                refine lv_icmp_le (tgt := 118) hx hb dX12_waiter_111 (by decide) (fun c36_ => ?_) (fun c36_ => ?_)
                · replace h := h.1 c36_
                  exact cb_X12_waiter_118 X hB6 Y (lv_sub hl [0, 1, 2, 3, 4, 5] rfl) h
                · replace h := h.2 c36_
                  exact cb_X12_waiter_114 X hB6 Y (lv_sub hl [0, 1, 2, 3, 4, 5] rfl) h
              · replace h := h.2 c33_
                exact cb_X12_waiter_77 X hB6 Y (lv_sub hl [0, 1, 2, 3, 4, 5] rfl) h
        · replace h := h.2 c25_
          refine lv_goto (tgt := 130) hx hb dX12_waiter_47 (by decide) ?_
          exact cb_X12_waiter_130 X hB6 Y (lv_sub hl [0, 1, 2, 3, 4, 5] rfl) h
def wl_X12_waiter_6  : Nat → q_S → Nat → Int32 → Int32 → Int32 → Int32 → Int32 → (Option Value → q_S → Prop) → Prop
  | 0, _, _, _, _, _, _, _, _ => False
  | n + 1, S, a0, x1, x2, x3, x4, x5, Q => wb_X12_waiter_6 (fun S a0 x1 x2 x3 x4 x5 => wl_X12_waiter_6 n S a0 x1 x2 x3 x4 x5 Q) S a0 x1 x2 x3 x4 x5 Q
set_option maxHeartbeats 4000000 in
set_option maxRecDepth 100000 in
theorem cl_X12_waiter_6 {p : Program} {l : Launch} {e : Env} {s : State} {m : MethodId} {args : Array Value} {below : List Frame} {meth : Method} {c : Code} {D : va_G} {cy : Nat → ClassId} {lo : Nat}  {Q : Option Value → q_S → Prop} (X : q_X p s m args meth c RX12 cX12_waiter 7 (some .int) D cy lo)  : ∀ (n : Nat) (S : q_S) (a0 : Nat) (x1 : Int32) (x2 : Int32) (x3 : Int32) (x4 : Int32) (x5 : Int32) (H : Heap) (locs : List Loc) (ls : Array Slot), wl_X12_waiter_6 n S a0 x1 x2 x3 x4 x5 Q → q_Y D cy lo s S H locs → lv_has ls 7 [(0, .ref a0), (1, .int x1), (2, .int x2), (3, .int x3), (4, .int x4), (5, .int x5)] → W p l e ({ frames := 0, cells := 0, slots := 0, locals := 0 } : Room) s m args below meth c H locs 0 0 (MQ below (q_Q D cy lo Q) args s 0 0 (fun q => lo ≤ q)) (F0 m 6 ls []) := by
  intro n
  induction n with
  | zero => intro S a0 x1 x2 x3 x4 x5 H locs ls h; exact absurd h id
  | succ n ih => intro S a0 x1 x2 x3 x4 x5 H locs ls h Y hl; exact cb_X12_waiter_6 X ih Y hl h
def wm_X12_waiter (S : q_S) (a0 : Nat) (x1 : Int32) (x2 : Int32) (x3 : Int32) (Q : Option Value → q_S → Prop) : Prop := ∃ n37_ : Nat, wl_X12_waiter_6 n37_ S a0 x1 x2 x3 (-1 : Int32) (0 : Int32) Q
set_option maxHeartbeats 4000000 in
set_option maxRecDepth 100000 in
theorem cm_X12_waiter {l : Launch} {D : va_G} {cy : Nat → ClassId} {lo : Nat} {S : q_S} {a0 : Nat} {x1 : Int32} {x2 : Int32} {x3 : Int32} {Q : Option Value → q_S → Prop} (h : wm_X12_waiter S a0 x1 x2 x3 Q) : q_Met l D cy lo yX12_waiter cX12_waiter 7 (some .int) 0 0 0 0 [.ref a0, .int x1, .int x2, .int x3] S Q := by
  refine q_body (by decide) (by first | exact Nat.le_of_ble_eq_true rfl | simp [lg_sl, q_cat, q_catI, q_catJ, q_catR]) ?_
  intro p e s m below meth c ls X hnm Y hl
  have hx := X.1
  have hb := X.2.1
  have hl : lv_has ls 7 [(0, .ref a0), (1, .int x1), (2, .int x2), (3, .int x3)] := by first | exact hl | simpa [lv_args, q_cat, q_catI, q_catJ, q_catR] using hl
  generalize hargs : ([.ref a0, .int x1, .int x2, .int x3] : List Value).toArray = args at X ⊢
  unfold wm_X12_waiter at h
  refine lv_iconst (v := (-1)) hx hb dX12_waiter_0 (by decide) ?_
  refine lv_istore (i := 4) (lv' := [(4, .int (-1 : Int32)), (0, .ref a0), (1, .int x1), (2, .int x2), (3, .int x3)]) hx hb dX12_waiter_1 hl (by decide) (by first | rfl | simp [q_cat, q_catI, q_catJ, q_catR]) (fun ls hl => ?_)
  refine lv_iconst (v := 0) hx hb dX12_waiter_3 (by decide) ?_
  refine lv_istore (i := 5) (lv' := [(5, .int (0 : Int32)), (4, .int (-1 : Int32)), (0, .ref a0), (1, .int x1), (2, .int x2), (3, .int x3)]) hx hb dX12_waiter_4 hl (by decide) (by first | rfl | simp [q_cat, q_catI, q_catJ, q_catR]) (fun ls hl => ?_)
  obtain ⟨n37_, h⟩ := h
  exact cl_X12_waiter_6 X n37_ _ _ _ _ _ _ _ _ _ _ h Y (lv_sub hl [2, 3, 4, 5, 1, 0] rfl)
-- X12_answer
theorem dX12_answer_0 : decode cX12_answer 0 = .ok (.aload_n 0, 1) := by decide +kernel
theorem dX12_answer_1 : decode cX12_answer 1 = .ok (.getfield 179, 3) := by decide +kernel
theorem dX12_answer_4 : decode cX12_answer 4 = .ok (.bipush 32, 2) := by decide +kernel
theorem dX12_answer_6 : decode cX12_answer 6 = .ok (.iload_n 1, 1) := by decide +kernel
theorem dX12_answer_7 : decode cX12_answer 7 = .ok (.imul, 1) := by decide +kernel
theorem dX12_answer_8 : decode cX12_answer 8 = .ok (.bipush 10, 2) := by decide +kernel
theorem dX12_answer_10 : decode cX12_answer 10 = .ok (.iadd, 1) := by decide +kernel
theorem dX12_answer_11 : decode cX12_answer 11 = .ok (.iload_n 2, 1) := by decide +kernel
theorem dX12_answer_12 : decode cX12_answer 12 = .ok (.iastore, 1) := by decide +kernel
theorem dX12_answer_13 : decode cX12_answer 13 = .ok (.return_, 1) := by decide +kernel
def wm_X12_answer (S : q_S) (a0 : Nat) (x1 : Int32) (x2 : Int32) (Q : Option Value → q_S → Prop) : Prop := q_K S a0 = 13 ∧ (∃ a2_ : Nat, (q_P S 2477 a0) = some a2_ ∧ (q_K S a2_ = 21 ∧ (vp_in (((32 : Int32) * x1) + (10 : Int32)) (q_N S a2_) ∧ (Q none (qs_A S a2_ (((32 : Int32) * x1) + (10 : Int32)).toNatClampNeg x2)))))
set_option maxHeartbeats 4000000 in
set_option maxRecDepth 100000 in
theorem cm_X12_answer {l : Launch} {D : va_G} {cy : Nat → ClassId} {lo : Nat} {S : q_S} {a0 : Nat} {x1 : Int32} {x2 : Int32} {Q : Option Value → q_S → Prop} (h : wm_X12_answer S a0 x1 x2 Q) : q_Met l D cy lo yX12_answer cX12_answer 3 none 0 0 0 0 [.ref a0, .int x1, .int x2] S Q := by
  refine q_body (by decide) (by first | exact Nat.le_of_ble_eq_true rfl | simp [lg_sl, q_cat, q_catI, q_catJ, q_catR]) ?_
  intro p e s m below meth c ls X hnm Y hl
  have hx := X.1
  have hb := X.2.1
  have hl : lv_has ls 3 [(0, .ref a0), (1, .int x1), (2, .int x2)] := by first | exact hl | simpa [lv_args, q_cat, q_catI, q_catJ, q_catR] using hl
  generalize hargs : ([.ref a0, .int x1, .int x2] : List Value).toArray = args at X ⊢
  unfold wm_X12_answer at h
  refine lv_aload_n hx hb dX12_answer_0 rfl (lv_at hl 0 rfl) ?_
  obtain ⟨k1_, h⟩ := h
  refine q_getP X Y kX12 77 rfl fl_X12_179 k1_ rfl dX12_answer_1 ?_
  refine lv_bipush (v := 32) hx hb dX12_answer_4 (by decide) ?_
  refine lv_iload_n hx hb dX12_answer_6 rfl (lv_at hl 1 rfl) ?_
  refine lv_imul hx hb dX12_answer_7 ?_
  refine lv_bipush (v := 10) hx hb dX12_answer_8 (by decide) ?_
  refine lv_iadd hx hb dX12_answer_10 ?_
  refine lv_iload_n hx hb dX12_answer_11 rfl (lv_at hl 2 rfl) ?_
  obtain ⟨a2_, e3_, h⟩ := h
  refine q_nn [.int x2, .int (((32 : Int32) * x1) + (10 : Int32))] e3_ ?_
  obtain ⟨k4_, h⟩ := h
  obtain ⟨i5_, h⟩ := h
  refine q_ist X Y k4_ i5_ dX12_answer_12 (fun H locs Y => ?_)
  exact q_vret X Y (Nat.le_refl _) (Nat.le_refl _) h dX12_answer_13
-- X12_gets
theorem ml_X12_506 : Cond.methodLink RX12 506 yX12_answer ∈ q_G := q_tb (i := 2308) (by decide +kernel) (by decide +kernel)
theorem mt_X12_answer : q_Mt yX12_answer cX12_answer 3 none 2 := ⟨q_tb (i := 2311) (by decide +kernel) (by decide +kernel), q_tb (i := 11) (by decide +kernel) (by decide +kernel), by decide +kernel, by decide +kernel, by decide +kernel⟩
theorem mi_X12_answer : Cond.instanceMethod yX12_answer ∈ q_G ∧ Cond.selects yX12_answer.cls yX12_answer yX12_answer ∈ q_G := ⟨q_tb (i := 2310) (by decide +kernel) (by decide +kernel), q_tp (i := 133) (q := (yX12_answer, 114)) (by decide +kernel) (by decide +kernel)⟩
theorem dX12_gets_0 : decode cX12_gets 0 = .ok (.aload_n 0, 1) := by decide +kernel
theorem dX12_gets_1 : decode cX12_gets 1 = .ok (.iload_n 1, 1) := by decide +kernel
theorem dX12_gets_2 : decode cX12_gets 2 = .ok (.iconst 0, 1) := by decide +kernel
theorem dX12_gets_3 : decode cX12_gets 3 = .ok (.invokevirtual 506, 3) := by decide +kernel
theorem dX12_gets_6 : decode cX12_gets 6 = .ok (.aload_n 0, 1) := by decide +kernel
theorem dX12_gets_7 : decode cX12_gets 7 = .ok (.iload_n 1, 1) := by decide +kernel
theorem dX12_gets_8 : decode cX12_gets 8 = .ok (.invokevirtual 484, 3) := by decide +kernel
theorem dX12_gets_11 : decode cX12_gets 11 = .ok (.return_, 1) := by decide +kernel
def wm_X12_gets (S : q_S) (a0 : Nat) (x1 : Int32) (Q : Option Value → q_S → Prop) : Prop := q_K S a0 = 13 ∧ (wm_X12_answer S a0 x1 (0 : Int32) (fun r2_ S3_ => r2_ = none ∧ (q_K S3_ a0 = 13 ∧ (wm_X12_isReady S3_ a0 x1 (fun r5_ S6_ => r5_ = none ∧ (Q none S6_))))))
set_option maxHeartbeats 4000000 in
set_option maxRecDepth 100000 in
theorem cm_X12_gets {l : Launch} {D : va_G} {cy : Nat → ClassId} {lo : Nat} {S : q_S} {a0 : Nat} {x1 : Int32} {Q : Option Value → q_S → Prop} (h : wm_X12_gets S a0 x1 Q) : q_Met l D cy lo yX12_gets cX12_gets 2 none 1 22 0 0 [.ref a0, .int x1] S Q := by
  refine q_body (by decide) (by first | exact Nat.le_of_ble_eq_true rfl | simp [lg_sl, q_cat, q_catI, q_catJ, q_catR]) ?_
  intro p e s m below meth c ls X hnm Y hl
  have hx := X.1
  have hb := X.2.1
  have hl : lv_has ls 2 [(0, .ref a0), (1, .int x1)] := by first | exact hl | simpa [lv_args, q_cat, q_catI, q_catJ, q_catR] using hl
  generalize hargs : ([.ref a0, .int x1] : List Value).toArray = args at X ⊢
  unfold wm_X12_gets at h
  refine lv_aload_n hx hb dX12_gets_0 rfl (lv_at hl 0 rfl) ?_
  refine lv_iload_n hx hb dX12_gets_1 rfl (lv_at hl 1 rfl) ?_
  refine lv_iconst (v := 0) hx hb dX12_gets_2 (by decide) ?_
  obtain ⟨k1_, h⟩ := h
  refine q_callV X Y hl (cm_X12_answer h) mt_X12_answer mi_X12_answer ml_X12_506 (ci := 12) rfl k1_ (by decide) rfl rfl (by first | exact Nat.le_of_ble_eq_true rfl | simp [q_cat, q_catI, q_catJ, q_catR]) ⟨Nat.le_of_ble_eq_true rfl, Nat.le_of_ble_eq_true rfl⟩ ⟨Nat.le_of_ble_eq_true rfl, Nat.le_of_ble_eq_true rfl⟩ dX12_gets_3 (fun r2_ S3_ H locs hp Y => ?_)
  obtain ⟨rfl, h⟩ := hp
  refine W.eq (g2 := F0 m 6 ls []) rfl ?_
  refine lv_aload_n hx hb dX12_gets_6 rfl (lv_at hl 0 rfl) ?_
  refine lv_iload_n hx hb dX12_gets_7 rfl (lv_at hl 1 rfl) ?_
  obtain ⟨k4_, h⟩ := h
  refine q_callV X Y hl (cm_X12_isReady h) mt_X12_isReady mi_X12_isReady ml_X12_484 (ci := 12) rfl k4_ (by decide) rfl rfl (by first | exact Nat.le_of_ble_eq_true rfl | simp [q_cat, q_catI, q_catJ, q_catR]) ⟨Nat.le_of_ble_eq_true rfl, Nat.le_of_ble_eq_true rfl⟩ ⟨Nat.le_of_ble_eq_true rfl, Nat.le_of_ble_eq_true rfl⟩ dX12_gets_8 (fun r5_ S6_ H locs hp Y => ?_)
  obtain ⟨rfl, h⟩ := hp
  refine W.eq (g2 := F0 m 11 ls []) rfl ?_
  exact q_vret X Y (Nat.le_refl _) (Nat.le_refl _) h dX12_gets_11
-- X12_passes
theorem ml_X12_540 : Cond.methodLink RX12 540 yX12_waiter ∈ q_G := q_tb (i := 2300) (by decide +kernel) (by decide +kernel)
theorem mt_X12_waiter : q_Mt yX12_waiter cX12_waiter 7 (some .int) 3 := ⟨q_tb (i := 2303) (by decide +kernel) (by decide +kernel), q_tb (i := 11) (by decide +kernel) (by decide +kernel), by decide +kernel, by decide +kernel, by decide +kernel⟩
theorem mi_X12_waiter : Cond.instanceMethod yX12_waiter ∈ q_G ∧ Cond.selects yX12_waiter.cls yX12_waiter yX12_waiter ∈ q_G := ⟨q_tb (i := 2302) (by decide +kernel) (by decide +kernel), q_tp (i := 131) (q := (yX12_waiter, 114)) (by decide +kernel) (by decide +kernel)⟩
theorem ml_X12_543 : Cond.methodLink RX12 543 yX12_gets ∈ q_G := q_tb (i := 2304) (by decide +kernel) (by decide +kernel)
theorem mt_X12_gets : q_Mt yX12_gets cX12_gets 2 none 1 := ⟨q_tb (i := 2307) (by decide +kernel) (by decide +kernel), q_tb (i := 11) (by decide +kernel) (by decide +kernel), by decide +kernel, by decide +kernel, by decide +kernel⟩
theorem mi_X12_gets : Cond.instanceMethod yX12_gets ∈ q_G ∧ Cond.selects yX12_gets.cls yX12_gets yX12_gets ∈ q_G := ⟨q_tb (i := 2306) (by decide +kernel) (by decide +kernel), q_tp (i := 132) (q := (yX12_gets, 114)) (by decide +kernel) (by decide +kernel)⟩
theorem dX12_passes_0 : decode cX12_passes 0 = .ok (.aload_n 0, 1) := by decide +kernel
theorem dX12_passes_1 : decode cX12_passes 1 = .ok (.bipush 6, 2) := by decide +kernel
theorem dX12_passes_3 : decode cX12_passes 3 = .ok (.iload_n 1, 1) := by decide +kernel
theorem dX12_passes_4 : decode cX12_passes 4 = .ok (.aload_n 0, 1) := by decide +kernel
theorem dX12_passes_5 : decode cX12_passes 5 = .ok (.getfield 121, 3) := by decide +kernel
theorem dX12_passes_8 : decode cX12_passes 8 = .ok (.iload_n 1, 1) := by decide +kernel
theorem dX12_passes_9 : decode cX12_passes 9 = .ok (.baload, 1) := by decide +kernel
theorem dX12_passes_10 : decode cX12_passes 10 = .ok (.invokevirtual 540, 3) := by decide +kernel
theorem dX12_passes_13 : decode cX12_passes 13 = .ok (.istore_n 3, 1) := by decide +kernel
theorem dX12_passes_14 : decode cX12_passes 14 = .ok (.iload_n 3, 1) := by decide +kernel
theorem dX12_passes_15 : decode cX12_passes 15 = .ok (.iconst (-1), 1) := by decide +kernel
theorem dX12_passes_16 : decode cX12_passes 16 = .ok (.if_icmp .eq 23, 3) := by decide +kernel
theorem dX12_passes_19 : decode cX12_passes 19 = .ok (.aload_n 0, 1) := by decide +kernel
theorem dX12_passes_20 : decode cX12_passes 20 = .ok (.getfield 179, 3) := by decide +kernel
theorem dX12_passes_23 : decode cX12_passes 23 = .ok (.bipush 32, 2) := by decide +kernel
theorem dX12_passes_25 : decode cX12_passes 25 = .ok (.iload_n 3, 1) := by decide +kernel
theorem dX12_passes_26 : decode cX12_passes 26 = .ok (.imul, 1) := by decide +kernel
theorem dX12_passes_27 : decode cX12_passes 27 = .ok (.bipush 11, 2) := by decide +kernel
theorem dX12_passes_29 : decode cX12_passes 29 = .ok (.iadd, 1) := by decide +kernel
theorem dX12_passes_30 : decode cX12_passes 30 = .ok (.iload_n 2, 1) := by decide +kernel
theorem dX12_passes_31 : decode cX12_passes 31 = .ok (.iastore, 1) := by decide +kernel
theorem dX12_passes_32 : decode cX12_passes 32 = .ok (.aload_n 0, 1) := by decide +kernel
theorem dX12_passes_33 : decode cX12_passes 33 = .ok (.iload_n 3, 1) := by decide +kernel
theorem dX12_passes_34 : decode cX12_passes 34 = .ok (.invokevirtual 543, 3) := by decide +kernel
theorem dX12_passes_37 : decode cX12_passes 37 = .ok (.iconst 1, 1) := by decide +kernel
theorem dX12_passes_38 : decode cX12_passes 38 = .ok (.ireturn, 1) := by decide +kernel
theorem dX12_passes_39 : decode cX12_passes 39 = .ok (.aload_n 0, 1) := by decide +kernel
theorem dX12_passes_40 : decode cX12_passes 40 = .ok (.getfield 251, 3) := by decide +kernel
theorem dX12_passes_43 : decode cX12_passes 43 = .ok (.iload_n 1, 1) := by decide +kernel
theorem dX12_passes_44 : decode cX12_passes 44 = .ok (.iaload, 1) := by decide +kernel
theorem dX12_passes_45 : decode cX12_passes 45 = .ok (.aload_n 0, 1) := by decide +kernel
theorem dX12_passes_46 : decode cX12_passes 46 = .ok (.getfield 118, 3) := by decide +kernel
theorem dX12_passes_49 : decode cX12_passes 49 = .ok (.iload_n 1, 1) := by decide +kernel
theorem dX12_passes_50 : decode cX12_passes 50 = .ok (.iaload, 1) := by decide +kernel
theorem dX12_passes_51 : decode cX12_passes 51 = .ok (.if_icmp .ne 5, 3) := by decide +kernel
theorem dX12_passes_54 : decode cX12_passes 54 = .ok (.iconst 0, 1) := by decide +kernel
theorem dX12_passes_55 : decode cX12_passes 55 = .ok (.ireturn, 1) := by decide +kernel
theorem dX12_passes_56 : decode cX12_passes 56 = .ok (.aload_n 0, 1) := by decide +kernel
theorem dX12_passes_57 : decode cX12_passes 57 = .ok (.getfield 254, 3) := by decide +kernel
theorem dX12_passes_60 : decode cX12_passes 60 = .ok (.bipush 32, 2) := by decide +kernel
theorem dX12_passes_62 : decode cX12_passes 62 = .ok (.iload_n 1, 1) := by decide +kernel
theorem dX12_passes_63 : decode cX12_passes 63 = .ok (.imul, 1) := by decide +kernel
theorem dX12_passes_64 : decode cX12_passes 64 = .ok (.aload_n 0, 1) := by decide +kernel
theorem dX12_passes_65 : decode cX12_passes 65 = .ok (.getfield 251, 3) := by decide +kernel
theorem dX12_passes_68 : decode cX12_passes 68 = .ok (.iload_n 1, 1) := by decide +kernel
theorem dX12_passes_69 : decode cX12_passes 69 = .ok (.iaload, 1) := by decide +kernel
theorem dX12_passes_70 : decode cX12_passes 70 = .ok (.iadd, 1) := by decide +kernel
theorem dX12_passes_71 : decode cX12_passes 71 = .ok (.iload_n 2, 1) := by decide +kernel
theorem dX12_passes_72 : decode cX12_passes 72 = .ok (.iastore, 1) := by decide +kernel
theorem dX12_passes_73 : decode cX12_passes 73 = .ok (.aload_n 0, 1) := by decide +kernel
theorem dX12_passes_74 : decode cX12_passes 74 = .ok (.getfield 251, 3) := by decide +kernel
theorem dX12_passes_77 : decode cX12_passes 77 = .ok (.iload_n 1, 1) := by decide +kernel
theorem dX12_passes_78 : decode cX12_passes 78 = .ok (.dup2, 1) := by decide +kernel
theorem dX12_passes_79 : decode cX12_passes 79 = .ok (.iaload, 1) := by decide +kernel
theorem dX12_passes_80 : decode cX12_passes 80 = .ok (.iconst 1, 1) := by decide +kernel
theorem dX12_passes_81 : decode cX12_passes 81 = .ok (.iadd, 1) := by decide +kernel
theorem dX12_passes_82 : decode cX12_passes 82 = .ok (.iastore, 1) := by decide +kernel
theorem dX12_passes_83 : decode cX12_passes 83 = .ok (.iconst 1, 1) := by decide +kernel
theorem dX12_passes_84 : decode cX12_passes 84 = .ok (.ireturn, 1) := by decide +kernel
def wm_X12_passes (S : q_S) (a0 : Nat) (x1 : Int32) (x2 : Int32) (Q : Option Value → q_S → Prop) : Prop := q_K S a0 = 13 ∧ (∃ a2_ : Nat, (q_P S 2456 a0) = some a2_ ∧ (q_K S a2_ = 22 ∧ (vp_in x1 (q_N S a2_) ∧ (wm_X12_waiter S a0 (6 : Int32) x1 (q_A S a2_ x1.toNatClampNeg) (fun r6_ S7_ => ∃ x8_ : Int32, r6_ = some (.int x8_) ∧ (((x8_ = (-1 : Int32) → (q_K S7_ a0 = 13 ∧ (∃ a11_ : Nat, (q_P S7_ 2501 a0) = some a11_ ∧ (q_K S7_ a11_ = 21 ∧ (vp_in x1 (q_N S7_ a11_) ∧ (∃ a15_ : Nat, (q_P S7_ 2455 a0) = some a15_ ∧ (q_K S7_ a15_ = 21 ∧ (vp_in x1 (q_N S7_ a15_) ∧ (((¬ (q_A S7_ a11_ x1.toNatClampNeg) = (q_A S7_ a15_ x1.toNatClampNeg) → (vp_in x1 (q_N S7_ a11_) ∧ (∃ a21_ : Nat, (q_P S7_ 2502 a0) = some a21_ ∧ (q_K S7_ a21_ = 21 ∧ (vp_in (((32 : Int32) * x1) + (q_A S7_ a11_ x1.toNatClampNeg)) (q_N S7_ a21_) ∧ (∃ a25_ : Nat, (q_P (qs_A S7_ a21_ (((32 : Int32) * x1) + (q_A S7_ a11_ x1.toNatClampNeg)).toNatClampNeg x2) 2501 a0) = some a25_ ∧ (q_K (qs_A S7_ a21_ (((32 : Int32) * x1) + (q_A S7_ a11_ x1.toNatClampNeg)).toNatClampNeg x2) a25_ = 21 ∧ (vp_in x1 (q_N (qs_A S7_ a21_ (((32 : Int32) * x1) + (q_A S7_ a11_ x1.toNatClampNeg)).toNatClampNeg x2) a25_) ∧ (vp_in x1 (q_N (qs_A S7_ a21_ (((32 : Int32) * x1) + (q_A S7_ a11_ x1.toNatClampNeg)).toNatClampNeg x2) a25_) ∧ (∀ S30_ : q_S, S30_ = (qs_A (qs_A S7_ a21_ (((32 : Int32) * x1) + (q_A S7_ a11_ x1.toNatClampNeg)).toNatClampNeg x2) a25_ x1.toNatClampNeg ((q_A (qs_A S7_ a21_ (((32 : Int32) * x1) + (q_A S7_ a11_ x1.toNatClampNeg)).toNatClampNeg x2) a25_ x1.toNatClampNeg) + (1 : Int32))) → (Q (some (.int (1 : Int32))) S30_))))))))))) ∧ ((q_A S7_ a11_ x1.toNatClampNeg) = (q_A S7_ a15_ x1.toNatClampNeg) → (Q (some (.int (0 : Int32))) S7_)))))))))))) ∧ (¬ x8_ = (-1 : Int32) → (q_K S7_ a0 = 13 ∧ (∃ a32_ : Nat, (q_P S7_ 2477 a0) = some a32_ ∧ (q_K S7_ a32_ = 21 ∧ (vp_in (((32 : Int32) * x8_) + (11 : Int32)) (q_N S7_ a32_) ∧ (wm_X12_gets (qs_A S7_ a32_ (((32 : Int32) * x8_) + (11 : Int32)).toNatClampNeg x2) a0 x8_ (fun r36_ S37_ => r36_ = none ∧ (Q (some (.int (1 : Int32))) S37_)))))))))))))))
set_option maxHeartbeats 4000000 in
set_option maxRecDepth 100000 in
theorem cm_X12_passes {l : Launch} {D : va_G} {cy : Nat → ClassId} {lo : Nat} {S : q_S} {a0 : Nat} {x1 : Int32} {x2 : Int32} {Q : Option Value → q_S → Prop} (h : wm_X12_passes S a0 x1 x2 Q) : q_Met l D cy lo yX12_passes cX12_passes 4 (some .boolean) 2 43 0 0 [.ref a0, .int x1, .int x2] S Q := by
  refine q_body (by decide) (by first | exact Nat.le_of_ble_eq_true rfl | simp [lg_sl, q_cat, q_catI, q_catJ, q_catR]) ?_
  intro p e s m below meth c ls X hnm Y hl
  have hx := X.1
  have hb := X.2.1
  have hl : lv_has ls 4 [(0, .ref a0), (1, .int x1), (2, .int x2)] := by first | exact hl | simpa [lv_args, q_cat, q_catI, q_catJ, q_catR] using hl
  generalize hargs : ([.ref a0, .int x1, .int x2] : List Value).toArray = args at X ⊢
  unfold wm_X12_passes at h
  refine lv_aload_n hx hb dX12_passes_0 rfl (lv_at hl 0 rfl) ?_
  refine lv_bipush (v := 6) hx hb dX12_passes_1 (by decide) ?_
  refine lv_iload_n hx hb dX12_passes_3 rfl (lv_at hl 1 rfl) ?_
  refine lv_aload_n hx hb dX12_passes_4 rfl (lv_at hl 0 rfl) ?_
  obtain ⟨k1_, h⟩ := h
  refine q_getP X Y kX12 56 rfl fl_X12_121 k1_ rfl dX12_passes_5 ?_
  refine lv_iload_n hx hb dX12_passes_8 rfl (lv_at hl 1 rfl) ?_
  obtain ⟨a2_, e3_, h⟩ := h
  refine q_nn [.int x1] e3_ ?_
  obtain ⟨k4_, h⟩ := h
  obtain ⟨i5_, h⟩ := h
  refine q_zld X Y k4_ i5_ dX12_passes_9 ?_
  refine q_callV X Y hl (cm_X12_waiter h) mt_X12_waiter mi_X12_waiter ml_X12_540 (ci := 12) rfl k1_ (by decide) rfl rfl (by first | exact Nat.le_of_ble_eq_true rfl | simp [q_cat, q_catI, q_catJ, q_catR]) ⟨Nat.le_of_ble_eq_true rfl, Nat.le_of_ble_eq_true rfl⟩ ⟨Nat.le_of_ble_eq_true rfl, Nat.le_of_ble_eq_true rfl⟩ dX12_passes_10 (fun r6_ S7_ H locs hp Y => ?_)
  obtain ⟨x8_, rfl, h⟩ := hp
  refine W.eq (g2 := F0 m 13 ls [.int x8_]) rfl ?_
  refine lv_istore_n (i := 3) (lv' := [(3, .int x8_), (0, .ref a0), (1, .int x1), (2, .int x2)]) hx hb dX12_passes_13 rfl hl (by decide) (by first | rfl | simp [q_cat, q_catI, q_catJ, q_catR]) (fun ls hl => ?_)
  refine lv_iload_n hx hb dX12_passes_14 rfl (lv_at hl 0 rfl) ?_
  refine lv_iconst (v := (-1)) hx hb dX12_passes_15 (by decide) ?_
  refine lv_icmp_eq (tgt := 39) hx hb dX12_passes_16 (by decide) (fun c9_ => ?_) (fun c9_ => ?_)
  · replace h := h.1 c9_
    refine lv_aload_n hx hb dX12_passes_39 rfl (lv_at hl 1 rfl) ?_
    obtain ⟨k10_, h⟩ := h
    refine q_getP X Y kX12 101 rfl fl_X12_251 k10_ rfl dX12_passes_40 ?_
    refine lv_iload_n hx hb dX12_passes_43 rfl (lv_at hl 2 rfl) ?_
    obtain ⟨a11_, e12_, h⟩ := h
    refine q_nn [.int x1] e12_ ?_
    obtain ⟨k13_, h⟩ := h
    obtain ⟨i14_, h⟩ := h
    refine q_ild X Y k13_ i14_ dX12_passes_44 ?_
    refine lv_aload_n hx hb dX12_passes_45 rfl (lv_at hl 1 rfl) ?_
    refine q_getP X Y kX12 55 rfl fl_X12_118 k10_ rfl dX12_passes_46 ?_
    refine lv_iload_n hx hb dX12_passes_49 rfl (lv_at hl 2 rfl) ?_
    obtain ⟨a15_, e16_, h⟩ := h
    refine q_nn [.int x1] e16_ ?_
    obtain ⟨k17_, h⟩ := h
    obtain ⟨i18_, h⟩ := h
    refine q_ild X Y k17_ i18_ dX12_passes_50 ?_
    refine lv_icmp_ne (tgt := 56) hx hb dX12_passes_51 (by decide) (fun c19_ => ?_) (fun c19_ => ?_)
    · replace h := h.1 c19_
      refine lv_aload_n hx hb dX12_passes_56 rfl (lv_at hl 1 rfl) ?_
      refine q_getP X Y kX12 102 rfl fl_X12_254 k10_ rfl dX12_passes_57 ?_
      refine lv_bipush (v := 32) hx hb dX12_passes_60 (by decide) ?_
      refine lv_iload_n hx hb dX12_passes_62 rfl (lv_at hl 2 rfl) ?_
      refine lv_imul hx hb dX12_passes_63 ?_
      refine lv_aload_n hx hb dX12_passes_64 rfl (lv_at hl 1 rfl) ?_
      refine q_getR X Y kX12 101 rfl fl_X12_251 k10_ e12_ dX12_passes_65 ?_
      refine lv_iload_n hx hb dX12_passes_68 rfl (lv_at hl 2 rfl) ?_
      obtain ⟨i20_, h⟩ := h
      refine q_ild X Y k13_ i20_ dX12_passes_69 ?_
      refine lv_iadd hx hb dX12_passes_70 ?_
      refine lv_iload_n hx hb dX12_passes_71 rfl (lv_at hl 3 rfl) ?_
      obtain ⟨a21_, e22_, h⟩ := h
      refine q_nn [.int x2, .int (((32 : Int32) * x1) + (q_A S7_ a11_ x1.toNatClampNeg))] e22_ ?_
      obtain ⟨k23_, h⟩ := h
      obtain ⟨i24_, h⟩ := h
      refine q_ist X Y k23_ i24_ dX12_passes_72 (fun H locs Y => ?_)
      refine lv_aload_n hx hb dX12_passes_73 rfl (lv_at hl 1 rfl) ?_
      refine q_getP X Y kX12 101 rfl fl_X12_251 k10_ rfl dX12_passes_74 ?_
      refine lv_iload_n hx hb dX12_passes_77 rfl (lv_at hl 2 rfl) ?_
      refine lv_dup2_11 hx hb dX12_passes_78 rfl (q_cat _) ?_
      obtain ⟨a25_, e26_, h⟩ := h
      refine q_nn [.int x1] e26_ ?_
      obtain ⟨k27_, h⟩ := h
      obtain ⟨i28_, h⟩ := h
      refine q_ild X Y k27_ i28_ dX12_passes_79 ?_
      refine lv_iconst (v := 1) hx hb dX12_passes_80 (by decide) ?_
      refine lv_iadd hx hb dX12_passes_81 ?_
      refine q_nn [.int ((q_A (qs_A S7_ a21_ (((32 : Int32) * x1) + (q_A S7_ a11_ x1.toNatClampNeg)).toNatClampNeg x2) a25_ x1.toNatClampNeg) + (1 : Int32)), .int x1] e26_ ?_
      obtain ⟨i29_, h⟩ := h
      refine q_ist X Y k27_ i29_ dX12_passes_82 (fun H locs Y => ?_)
      obtain ⟨S30_, gS30_⟩ : ∃ z : q_S, z = (qs_A (qs_A S7_ a21_ (((32 : Int32) * x1) + (q_A S7_ a11_ x1.toNatClampNeg)).toNatClampNeg x2) a25_ x1.toNatClampNeg ((q_A (qs_A S7_ a21_ (((32 : Int32) * x1) + (q_A S7_ a11_ x1.toNatClampNeg)).toNatClampNeg x2) a25_ x1.toNatClampNeg) + (1 : Int32))) := ⟨_, rfl⟩
      replace Y : q_Y D cy lo s S30_ H locs := by rw [gS30_]; exact Y
      replace h := h S30_ gS30_
      replace k10_ : q_K S30_ a0 = 13 := by rw [gS30_]; exact k10_
      replace k13_ : q_K S30_ a11_ = 21 := by rw [gS30_]; exact k13_
      replace k17_ : q_K S30_ a15_ = 21 := by rw [gS30_]; exact k17_
      replace k23_ : q_K S30_ a21_ = 21 := by rw [gS30_]; exact k23_
      replace k27_ : q_K S30_ a25_ = 21 := by rw [gS30_]; exact k27_
      refine lv_iconst (v := 1) hx hb dX12_passes_83 (by decide) ?_
      exact q_iret X Y rfl (Nat.le_refl _) (Nat.le_refl _) h dX12_passes_84
    · replace h := h.2 c19_
      refine lv_iconst (v := 0) hx hb dX12_passes_54 (by decide) ?_
      exact q_iret X Y rfl (Nat.le_refl _) (Nat.le_refl _) h dX12_passes_55
  · replace h := h.2 c9_
    refine lv_aload_n hx hb dX12_passes_19 rfl (lv_at hl 1 rfl) ?_
    obtain ⟨k31_, h⟩ := h
    refine q_getP X Y kX12 77 rfl fl_X12_179 k31_ rfl dX12_passes_20 ?_
    refine lv_bipush (v := 32) hx hb dX12_passes_23 (by decide) ?_
    refine lv_iload_n hx hb dX12_passes_25 rfl (lv_at hl 0 rfl) ?_
    refine lv_imul hx hb dX12_passes_26 ?_
    refine lv_bipush (v := 11) hx hb dX12_passes_27 (by decide) ?_
    refine lv_iadd hx hb dX12_passes_29 ?_
    refine lv_iload_n hx hb dX12_passes_30 rfl (lv_at hl 3 rfl) ?_
    obtain ⟨a32_, e33_, h⟩ := h
    refine q_nn [.int x2, .int (((32 : Int32) * x8_) + (11 : Int32))] e33_ ?_
    obtain ⟨k34_, h⟩ := h
    obtain ⟨i35_, h⟩ := h
    refine q_ist X Y k34_ i35_ dX12_passes_31 (fun H locs Y => ?_)
    refine lv_aload_n hx hb dX12_passes_32 rfl (lv_at hl 1 rfl) ?_
    refine lv_iload_n hx hb dX12_passes_33 rfl (lv_at hl 0 rfl) ?_
    refine q_callV X Y hl (cm_X12_gets h) mt_X12_gets mi_X12_gets ml_X12_543 (ci := 12) rfl k31_ (by decide) rfl rfl (by first | exact Nat.le_of_ble_eq_true rfl | simp [q_cat, q_catI, q_catJ, q_catR]) ⟨Nat.le_of_ble_eq_true rfl, Nat.le_of_ble_eq_true rfl⟩ ⟨Nat.le_of_ble_eq_true rfl, Nat.le_of_ble_eq_true rfl⟩ dX12_passes_34 (fun r36_ S37_ H locs hp Y => ?_)
    obtain ⟨rfl, h⟩ := hp
    refine W.eq (g2 := F0 m 37 ls []) rfl ?_
    refine lv_iconst (v := 1) hx hb dX12_passes_37 (by decide) ?_
    exact q_iret X Y rfl (Nat.le_refl _) (Nat.le_refl _) h dX12_passes_38
