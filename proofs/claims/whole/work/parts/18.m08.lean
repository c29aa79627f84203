-- X12_thrown
theorem fl_X12_278 : Cond.fieldLink RX12 278 "PartitionWorksModel" "thrown" "I" ∈ q_G := q_tb (i := 1734) (by decide +kernel) (by decide +kernel)
theorem dX12_thrown_0 : decode cX12_thrown 0 = .ok (.aload_n 0, 1) := by decide +kernel
theorem dX12_thrown_1 : decode cX12_thrown 1 = .ok (.getfield 278, 3) := by decide +kernel
theorem dX12_thrown_4 : decode cX12_thrown 4 = .ok (.ireturn, 1) := by decide +kernel
def wm_X12_thrown (S : q_S) (a0 : Nat) (Q : Option Value → q_S → Prop) : Prop := q_K S a0 = 13 ∧ (Q (some (.int (q_I S 2400 a0))) S)
set_option maxHeartbeats 4000000 in
set_option maxRecDepth 100000 in
theorem cm_X12_thrown {l : Launch} {D : va_G} {cy : Nat → ClassId} {lo : Nat} {S : q_S} {a0 : Nat} {Q : Option Value → q_S → Prop} (h : wm_X12_thrown S a0 Q) : q_Met l D cy lo yX12_thrown cX12_thrown 1 (some .int) 0 0 0 0 [.ref a0] S Q := by
  refine q_body (by decide) (by first | exact Nat.le_of_ble_eq_true rfl | simp [lg_sl, q_cat, q_catI, q_catJ, q_catR]) ?_
  intro p e s m below meth c ls X hnm Y hl
  have hx := X.1
  have hb := X.2.1
  have hl : lv_has ls 1 [(0, .ref a0)] := by first | exact hl | simpa [lv_args, q_cat, q_catI, q_catJ, q_catR] using hl
  generalize hargs : ([.ref a0] : List Value).toArray = args at X ⊢
  unfold wm_X12_thrown at h
  refine lv_aload_n hx hb dX12_thrown_0 rfl (lv_at hl 0 rfl) ?_
  obtain ⟨k1_, h⟩ := h
  refine q_getI X Y kX12 0 rfl fl_X12_278 k1_ dX12_thrown_1 ?_
  exact q_iret X Y rfl (Nat.le_refl _) (Nat.le_refl _) h dX12_thrown_4
-- X12_isLetter
theorem dX12_isLetter_0 : decode cX12_isLetter 0 = .ok (.iload_n 1, 1) := by decide +kernel
theorem dX12_isLetter_1 : decode cX12_isLetter 1 = .ok (.bipush 97, 2) := by decide +kernel
theorem dX12_isLetter_3 : decode cX12_isLetter 3 = .ok (.if_icmp .lt 13, 3) := by decide +kernel
theorem dX12_isLetter_6 : decode cX12_isLetter 6 = .ok (.iload_n 1, 1) := by decide +kernel
theorem dX12_isLetter_7 : decode cX12_isLetter 7 = .ok (.bipush 122, 2) := by decide +kernel
theorem dX12_isLetter_9 : decode cX12_isLetter 9 = .ok (.if_icmp .gt 7, 3) := by decide +kernel
theorem dX12_isLetter_12 : decode cX12_isLetter 12 = .ok (.iconst 1, 1) := by decide +kernel
theorem dX12_isLetter_13 : decode cX12_isLetter 13 = .ok (.goto 4, 3) := by decide +kernel
theorem dX12_isLetter_16 : decode cX12_isLetter 16 = .ok (.iconst 0, 1) := by decide +kernel
theorem dX12_isLetter_17 : decode cX12_isLetter 17 = .ok (.ireturn, 1) := by decide +kernel
def wb_X12_isLetter_17  (S : q_S) (xs0 : Int32) (Q : Option Value → q_S → Prop) : Prop := (narrow .boolean (.int xs0) = .int xs0 ∧ Q (some (.int xs0)) S)
set_option maxHeartbeats 4000000 in
set_option maxRecDepth 100000 in
theorem cb_X12_isLetter_17 {p : Program} {l : Launch} {e : Env} {s : State} {m : MethodId} {args : Array Value} {below : List Frame} {meth : Method} {c : Code} {D : va_G} {cy : Nat → ClassId} {lo : Nat}  {S : q_S} {xs0 : Int32} {Q : Option Value → q_S → Prop} {H : Heap} {locs : List Loc} {ls : Array Slot} (X : q_X p s m args meth c RX12 cX12_isLetter 2 (some .boolean) D cy lo)  (Y : q_Y D cy lo s S H locs) (hl : lv_has ls 2 []) (h : wb_X12_isLetter_17 S xs0 Q) : W p l e ({ frames := 0, cells := 0, slots := 0, locals := 0 } : Room) s m args below meth c H locs 0 0 (MQ below (q_Q D cy lo Q) args s 0 0 (fun q => lo ≤ q)) (F0 m 17 ls [.int xs0]) := by
  have hx := X.1
  have hb := X.2.1
  unfold wb_X12_isLetter_17 at h
  exact q_iret X Y h.1 (Nat.le_refl _) (Nat.le_refl _) h.2 dX12_isLetter_17
def wb_X12_isLetter_16  (S : q_S) (Q : Option Value → q_S → Prop) : Prop := wb_X12_isLetter_17 S (0 : Int32) Q
set_option maxHeartbeats 4000000 in
set_option maxRecDepth 100000 in
theorem cb_X12_isLetter_16 {p : Program} {l : Launch} {e : Env} {s : State} {m : MethodId} {args : Array Value} {below : List Frame} {meth : Method} {c : Code} {D : va_G} {cy : Nat → ClassId} {lo : Nat}  {S : q_S} {Q : Option Value → q_S → Prop} {H : Heap} {locs : List Loc} {ls : Array Slot} (X : q_X p s m args meth c RX12 cX12_isLetter 2 (some .boolean) D cy lo)  (Y : q_Y D cy lo s S H locs) (hl : lv_has ls 2 []) (h : wb_X12_isLetter_16 S Q) : W p l e ({ frames := 0, cells := 0, slots := 0, locals := 0 } : Room) s m args below meth c H locs 0 0 (MQ below (q_Q D cy lo Q) args s 0 0 (fun q => lo ≤ q)) (F0 m 16 ls []) := by
  have hx := X.1
  have hb := X.2.1
  unfold wb_X12_isLetter_16 at h
  refine lv_iconst (v := 0) hx hb dX12_isLetter_16 (by decide) ?_
  exact cb_X12_isLetter_17 X Y (lv_sub hl [] rfl) h
def wm_X12_isLetter (S : q_S) (a0 : Nat) (x1 : Int32) (Q : Option Value → q_S → Prop) : Prop := ((x1 < (97 : Int32) → (wb_X12_isLetter_16 S Q)) ∧ (¬ x1 < (97 : Int32) → ((((122 : Int32) < x1 → (wb_X12_isLetter_16 S Q)) ∧ (¬ (122 : Int32) < x1 → (wb_X12_isLetter_17 S (1 : Int32) Q))))))
set_option maxHeartbeats 4000000 in
set_option maxRecDepth 100000 in
theorem cm_X12_isLetter {l : Launch} {D : va_G} {cy : Nat → ClassId} {lo : Nat} {S : q_S} {a0 : Nat} {x1 : Int32} {Q : Option Value → q_S → Prop} (h : wm_X12_isLetter S a0 x1 Q) : q_Met l D cy lo yX12_isLetter cX12_isLetter 2 (some .boolean) 0 0 0 0 [.ref a0, .int x1] S Q := by
  refine q_body (by decide) (by first | exact Nat.le_of_ble_eq_true rfl | simp [lg_sl, q_cat, q_catI, q_catJ, q_catR]) ?_
  intro p e s m below meth c ls X hnm Y hl
  have hx := X.1
  have hb := X.2.1
  have hl : lv_has ls 2 [(0, .ref a0), (1, .int x1)] := by first | exact hl | simpa [lv_args, q_cat, q_catI, q_catJ, q_catR] using hl
  generalize hargs : ([.ref a0, .int x1] : List Value).toArray = args at X ⊢
  unfold wm_X12_isLetter at h
  refine lv_iload_n hx hb dX12_isLetter_0 rfl (lv_at hl 1 rfl) ?_
  refine lv_bipush (v := 97) hx hb dX12_isLetter_1 (by decide) ?_
  refine lv_icmp_lt (tgt := 16) hx hb dX12_isLetter_3 (by decide) (fun c1_ => ?_) (fun c1_ => ?_)
  · replace h := h.1 c1_
    exact cb_X12_isLetter_16 X Y (lv_sub hl [] rfl) h
  · replace h := h.2 c1_
    refine lv_iload_n hx hb dX12_isLetter_6 rfl (lv_at hl 1 rfl) ?_
    refine lv_bipush (v := 122) hx hb dX12_isLetter_7 (by decide) ?_
    refine lv_icmp_gt (tgt := 16) hx hb dX12_isLetter_9 (by decide) (fun c2_ => ?_) (fun c2_ => ?_)
    · replace h := h.1 c2_
      exact cb_X12_isLetter_16 X Y (lv_sub hl [] rfl) h
    · replace h := h.2 c2_
      refine lv_iconst (v := 1) hx hb dX12_isLetter_12 (by decide) ?_
      refine lv_goto (tgt := 17) hx hb dX12_isLetter_13 (by decide) ?_
      exact cb_X12_isLetter_17 X Y (lv_sub hl [] rfl) h
-- X12_isDigit
theorem dX12_isDigit_0 : decode cX12_isDigit 0 = .ok (.iload_n 1, 1) := by decide +kernel
theorem dX12_isDigit_1 : decode cX12_isDigit 1 = .ok (.bipush 48, 2) := by decide +kernel
theorem dX12_isDigit_3 : decode cX12_isDigit 3 = .ok (.if_icmp .lt 13, 3) := by decide +kernel
theorem dX12_isDigit_6 : decode cX12_isDigit 6 = .ok (.iload_n 1, 1) := by decide +kernel
theorem dX12_isDigit_7 : decode cX12_isDigit 7 = .ok (.bipush 57, 2) := by decide +kernel
theorem dX12_isDigit_9 : decode cX12_isDigit 9 = .ok (.if_icmp .gt 7, 3) := by decide +kernel
theorem dX12_isDigit_12 : decode cX12_isDigit 12 = .ok (.iconst 1, 1) := by decide +kernel
theorem dX12_isDigit_13 : decode cX12_isDigit 13 = .ok (.goto 4, 3) := by decide +kernel
theorem dX12_isDigit_16 : decode cX12_isDigit 16 = .ok (.iconst 0, 1) := by decide +kernel
theorem dX12_isDigit_17 : decode cX12_isDigit 17 = .ok (.ireturn, 1) := by decide +kernel
def wb_X12_isDigit_17  (S : q_S) (xs0 : Int32) (Q : Option Value → q_S → Prop) : Prop := (narrow .boolean (.int xs0) = .int xs0 ∧ Q (some (.int xs0)) S)
set_option maxHeartbeats 4000000 in
set_option maxRecDepth 100000 in
theorem cb_X12_isDigit_17 {p : Program} {l : Launch} {e : Env} {s : State} {m : MethodId} {args : Array Value} {below : List Frame} {meth : Method} {c : Code} {D : va_G} {cy : Nat → ClassId} {lo : Nat}  {S : q_S} {xs0 : Int32} {Q : Option Value → q_S → Prop} {H : Heap} {locs : List Loc} {ls : Array Slot} (X : q_X p s m args meth c RX12 cX12_isDigit 2 (some .boolean) D cy lo)  (Y : q_Y D cy lo s S H locs) (hl : lv_has ls 2 []) (h : wb_X12_isDigit_17 S xs0 Q) : W p l e ({ frames := 0, cells := 0, slots := 0, locals := 0 } : Room) s m args below meth c H locs 0 0 (MQ below (q_Q D cy lo Q) args s 0 0 (fun q => lo ≤ q)) (F0 m 17 ls [.int xs0]) := by
  have hx := X.1
  have hb := X.2.1
  unfold wb_X12_isDigit_17 at h
  exact q_iret X Y h.1 (Nat.le_refl _) (Nat.le_refl _) h.2 dX12_isDigit_17
def wb_X12_isDigit_16  (S : q_S) (Q : Option Value → q_S → Prop) : Prop := wb_X12_isDigit_17 S (0 : Int32) Q
set_option maxHeartbeats 4000000 in
set_option maxRecDepth 100000 in
theorem cb_X12_isDigit_16 {p : Program} {l : Launch} {e : Env} {s : State} {m : MethodId} {args : Array Value} {below : List Frame} {meth : Method} {c : Code} {D : va_G} {cy : Nat → ClassId} {lo : Nat}  {S : q_S} {Q : Option Value → q_S → Prop} {H : Heap} {locs : List Loc} {ls : Array Slot} (X : q_X p s m args meth c RX12 cX12_isDigit 2 (some .boolean) D cy lo)  (Y : q_Y D cy lo s S H locs) (hl : lv_has ls 2 []) (h : wb_X12_isDigit_16 S Q) : W p l e ({ frames := 0, cells := 0, slots := 0, locals := 0 } : Room) s m args below meth c H locs 0 0 (MQ below (q_Q D cy lo Q) args s 0 0 (fun q => lo ≤ q)) (F0 m 16 ls []) := by
  have hx := X.1
  have hb := X.2.1
  unfold wb_X12_isDigit_16 at h
  refine lv_iconst (v := 0) hx hb dX12_isDigit_16 (by decide) ?_
  exact cb_X12_isDigit_17 X Y (lv_sub hl [] rfl) h
def wm_X12_isDigit (S : q_S) (a0 : Nat) (x1 : Int32) (Q : Option Value → q_S → Prop) : Prop := ((x1 < (48 : Int32) → (wb_X12_isDigit_16 S Q)) ∧ (¬ x1 < (48 : Int32) → ((((57 : Int32) < x1 → (wb_X12_isDigit_16 S Q)) ∧ (¬ (57 : Int32) < x1 → (wb_X12_isDigit_17 S (1 : Int32) Q))))))
set_option maxHeartbeats 4000000 in
set_option maxRecDepth 100000 in
theorem cm_X12_isDigit {l : Launch} {D : va_G} {cy : Nat → ClassId} {lo : Nat} {S : q_S} {a0 : Nat} {x1 : Int32} {Q : Option Value → q_S → Prop} (h : wm_X12_isDigit S a0 x1 Q) : q_Met l D cy lo yX12_isDigit cX12_isDigit 2 (some .boolean) 0 0 0 0 [.ref a0, .int x1] S Q := by
  refine q_body (by decide) (by first | exact Nat.le_of_ble_eq_true rfl | simp [lg_sl, q_cat, q_catI, q_catJ, q_catR]) ?_
  intro p e s m below meth c ls X hnm Y hl
  have hx := X.1
  have hb := X.2.1
  have hl : lv_has ls 2 [(0, .ref a0), (1, .int x1)] := by first | exact hl | simpa [lv_args, q_cat, q_catI, q_catJ, q_catR] using hl
  generalize hargs : ([.ref a0, .int x1] : List Value).toArray = args at X ⊢
  unfold wm_X12_isDigit at h
  refine lv_iload_n hx hb dX12_isDigit_0 rfl (lv_at hl 1 rfl) ?_
  refine lv_bipush (v := 48) hx hb dX12_isDigit_1 (by decide) ?_
  refine lv_icmp_lt (tgt := 16) hx hb dX12_isDigit_3 (by decide) (fun c1_ => ?_) (fun c1_ => ?_)
  · replace h := h.1 c1_
    exact cb_X12_isDigit_16 X Y (lv_sub hl [] rfl) h
  · replace h := h.2 c1_
    refine lv_iload_n hx hb dX12_isDigit_6 rfl (lv_at hl 1 rfl) ?_
    refine lv_bipush (v := 57) hx hb dX12_isDigit_7 (by decide) ?_
    refine lv_icmp_gt (tgt := 16) hx hb dX12_isDigit_9 (by decide) (fun c2_ => ?_) (fun c2_ => ?_)
    · replace h := h.1 c2_
      exact cb_X12_isDigit_16 X Y (lv_sub hl [] rfl) h
    · replace h := h.2 c2_
      refine lv_iconst (v := 1) hx hb dX12_isDigit_12 (by decide) ?_
      refine lv_goto (tgt := 17) hx hb dX12_isDigit_13 (by decide) ?_
      exact cb_X12_isDigit_17 X Y (lv_sub hl [] rfl) h
-- X12_byteAt
theorem fl_X12_281 : Cond.fieldLink RX12 281 "PartitionWorksModel" "length" "I" ∈ q_G := q_tb (i := 1738) (by decide +kernel) (by decide +kernel)
theorem dX12_byteAt_0 : decode cX12_byteAt 0 = .ok (.iload_n 1, 1) := by decide +kernel
theorem dX12_byteAt_1 : decode cX12_byteAt 1 = .ok (.aload_n 0, 1) := by decide +kernel
theorem dX12_byteAt_2 : decode cX12_byteAt 2 = .ok (.getfield 281, 3) := by decide +kernel
theorem dX12_byteAt_5 : decode cX12_byteAt 5 = .ok (.if_icmp .ge 12, 3) := by decide +kernel
theorem dX12_byteAt_8 : decode cX12_byteAt 8 = .ok (.aload_n 0, 1) := by decide +kernel
theorem dX12_byteAt_9 : decode cX12_byteAt 9 = .ok (.getfield 13, 3) := by decide +kernel
theorem dX12_byteAt_12 : decode cX12_byteAt 12 = .ok (.iload_n 1, 1) := by decide +kernel
theorem dX12_byteAt_13 : decode cX12_byteAt 13 = .ok (.baload, 1) := by decide +kernel
theorem dX12_byteAt_14 : decode cX12_byteAt 14 = .ok (.goto 4, 3) := by decide +kernel
theorem dX12_byteAt_17 : decode cX12_byteAt 17 = .ok (.iconst (-1), 1) := by decide +kernel
theorem dX12_byteAt_18 : decode cX12_byteAt 18 = .ok (.ireturn, 1) := by decide +kernel
def wb_X12_byteAt_18  (S : q_S) (xs0 : Int32) (Q : Option Value → q_S → Prop) : Prop := Q (some (.int xs0)) S
set_option maxHeartbeats 4000000 in
set_option maxRecDepth 100000 in
theorem cb_X12_byteAt_18 {p : Program} {l : Launch} {e : Env} {s : State} {m : MethodId} {args : Array Value} {below : List Frame} {meth : Method} {c : Code} {D : va_G} {cy : Nat → ClassId} {lo : Nat}  {S : q_S} {xs0 : Int32} {Q : Option Value → q_S → Prop} {H : Heap} {locs : List Loc} {ls : Array Slot} (X : q_X p s m args meth c RX12 cX12_byteAt 2 (some .int) D cy lo)  (Y : q_Y D cy lo s S H locs) (hl : lv_has ls 2 []) (h : wb_X12_byteAt_18 S xs0 Q) : W p l e ({ frames := 0, cells := 0, slots := 0, locals := 0 } : Room) s m args below meth c H locs 0 0 (MQ below (q_Q D cy lo Q) args s 0 0 (fun q => lo ≤ q)) (F0 m 18 ls [.int xs0]) := by
  have hx := X.1
  have hb := X.2.1
  unfold wb_X12_byteAt_18 at h
  exact q_iret X Y rfl (Nat.le_refl _) (Nat.le_refl _) h dX12_byteAt_18
def wm_X12_byteAt (S : q_S) (a0 : Nat) (x1 : Int32) (Q : Option Value → q_S → Prop) : Prop := q_K S a0 = 13 ∧ ((((q_I S 2404 a0) ≤ x1 → (wb_X12_byteAt_18 S (-1 : Int32) Q)) ∧ (¬ (q_I S 2404 a0) ≤ x1 → (∃ a3_ : Nat, (q_P S 2402 a0) = some a3_ ∧ (q_K S a3_ = 20 ∧ (vp_in x1 (q_N S a3_) ∧ (wb_X12_byteAt_18 S (q_A S a3_ x1.toNatClampNeg) Q)))))))
set_option maxHeartbeats 4000000 in
set_option maxRecDepth 100000 in
theorem cm_X12_byteAt {l : Launch} {D : va_G} {cy : Nat → ClassId} {lo : Nat} {S : q_S} {a0 : Nat} {x1 : Int32} {Q : Option Value → q_S → Prop} (h : wm_X12_byteAt S a0 x1 Q) : q_Met l D cy lo yX12_byteAt cX12_byteAt 2 (some .int) 0 0 0 0 [.ref a0, .int x1] S Q := by
  refine q_body (by decide) (by first | exact Nat.le_of_ble_eq_true rfl | simp [lg_sl, q_cat, q_catI, q_catJ, q_catR]) ?_
  intro p e s m below meth c ls X hnm Y hl
  have hx := X.1
  have hb := X.2.1
  have hl : lv_has ls 2 [(0, .ref a0), (1, .int x1)] := by first | exact hl | simpa [lv_args, q_cat, q_catI, q_catJ, q_catR] using hl
  generalize hargs : ([.ref a0, .int x1] : List Value).toArray = args at X ⊢
  unfold wm_X12_byteAt at h
  refine lv_iload_n hx hb dX12_byteAt_0 rfl (lv_at hl 1 rfl) ?_
  refine lv_aload_n hx hb dX12_byteAt_1 rfl (lv_at hl 0 rfl) ?_
  obtain ⟨k1_, h⟩ := h
  refine q_getI X Y kX12 4 rfl fl_X12_281 k1_ dX12_byteAt_2 ?_
  refine lv_icmp_ge (tgt := 17) hx hb dX12_byteAt_5 (by decide) (fun c2_ => ?_) (fun c2_ => ?_)
  · replace h := h.1 c2_
    refine lv_iconst (v := (-1)) hx hb dX12_byteAt_17 (by decide) ?_
    exact cb_X12_byteAt_18 X Y (lv_sub hl [] rfl) h
  · replace h := h.2 c2_
    refine lv_aload_n hx hb dX12_byteAt_8 rfl (lv_at hl 0 rfl) ?_
    refine q_getP X Y kX12 2 rfl fl_X12_13 k1_ rfl dX12_byteAt_9 ?_
    refine lv_iload_n hx hb dX12_byteAt_12 rfl (lv_at hl 1 rfl) ?_
    obtain ⟨a3_, e4_, h⟩ := h
    refine q_nn [.int x1] e4_ ?_
    obtain ⟨k5_, h⟩ := h
    obtain ⟨i6_, h⟩ := h
    refine q_bld X Y k5_ i6_ dX12_byteAt_13 ?_
    refine lv_goto (tgt := 18) hx hb dX12_byteAt_14 (by decide) ?_
    exact cb_X12_byteAt_18 X Y (lv_sub hl [] rfl) h
-- X12_numberOf
theorem fl_X12_307 : Cond.fieldLink RX12 307 "PartitionWorksModel" "size" "I" ∈ q_G := q_tb (i := 1744) (by decide +kernel) (by decide +kernel)
theorem ml_X12_324 : Cond.methodLink RX12 324 yJ0_charAt_5068e ∈ q_G := q_tb (i := 2120) (by decide +kernel) (by decide +kernel)
theorem fl_X12_290 : Cond.fieldLink RX12 290 "PartitionWorksModel" "begin" "I" ∈ q_G := q_tb (i := 1743) (by decide +kernel) (by decide +kernel)
theorem ml_X12_319 : Cond.methodLink RX12 319 yJ0_length_8abf5 ∈ q_G := q_tb (i := 2119) (by decide +kernel) (by decide +kernel)
theorem dX12_numberOf_0 : decode cX12_numberOf 0 = .ok (.iconst 0, 1) := by decide +kernel
theorem dX12_numberOf_1 : decode cX12_numberOf 1 = .ok (.istore_n 2, 1) := by decide +kernel
theorem dX12_numberOf_2 : decode cX12_numberOf 2 = .ok (.iconst 1, 1) := by decide +kernel
theorem dX12_numberOf_3 : decode cX12_numberOf 3 = .ok (.istore_n 3, 1) := by decide +kernel
theorem dX12_numberOf_4 : decode cX12_numberOf 4 = .ok (.iload_n 3, 1) := by decide +kernel
theorem dX12_numberOf_5 : decode cX12_numberOf 5 = .ok (.aload_n 1, 1) := by decide +kernel
theorem dX12_numberOf_6 : decode cX12_numberOf 6 = .ok (.invokevirtual 319, 3) := by decide +kernel
theorem dX12_numberOf_9 : decode cX12_numberOf 9 = .ok (.if_icmp .ge 112, 3) := by decide +kernel
theorem dX12_numberOf_12 : decode cX12_numberOf 12 = .ok (.iload_n 3, 1) := by decide +kernel
theorem dX12_numberOf_13 : decode cX12_numberOf 13 = .ok (.istore 4, 2) := by decide +kernel
theorem dX12_numberOf_15 : decode cX12_numberOf 15 = .ok (.aload_n 1, 1) := by decide +kernel
theorem dX12_numberOf_16 : decode cX12_numberOf 16 = .ok (.iload 4, 2) := by decide +kernel
theorem dX12_numberOf_18 : decode cX12_numberOf 18 = .ok (.invokevirtual 324, 3) := by decide +kernel
theorem dX12_numberOf_21 : decode cX12_numberOf 21 = .ok (.bipush 32, 2) := by decide +kernel
theorem dX12_numberOf_23 : decode cX12_numberOf 23 = .ok (.if_icmp .eq 9, 3) := by decide +kernel
theorem dX12_numberOf_26 : decode cX12_numberOf 26 = .ok (.iinc 4 1, 3) := by decide +kernel
theorem dX12_numberOf_29 : decode cX12_numberOf 29 = .ok (.goto (-14), 3) := by decide +kernel
theorem dX12_numberOf_32 : decode cX12_numberOf 32 = .ok (.iload 4, 2) := by decide +kernel
theorem dX12_numberOf_34 : decode cX12_numberOf 34 = .ok (.iload_n 3, 1) := by decide +kernel
theorem dX12_numberOf_35 : decode cX12_numberOf 35 = .ok (.isub, 1) := by decide +kernel
theorem dX12_numberOf_36 : decode cX12_numberOf 36 = .ok (.aload_n 0, 1) := by decide +kernel
theorem dX12_numberOf_37 : decode cX12_numberOf 37 = .ok (.getfield 307, 3) := by decide +kernel
theorem dX12_numberOf_40 : decode cX12_numberOf 40 = .ok (.if_icmp .ne 7, 3) := by decide +kernel
theorem dX12_numberOf_43 : decode cX12_numberOf 43 = .ok (.iconst 1, 1) := by decide +kernel
theorem dX12_numberOf_44 : decode cX12_numberOf 44 = .ok (.goto 4, 3) := by decide +kernel
theorem dX12_numberOf_47 : decode cX12_numberOf 47 = .ok (.iconst 0, 1) := by decide +kernel
theorem dX12_numberOf_48 : decode cX12_numberOf 48 = .ok (.istore 5, 2) := by decide +kernel
theorem dX12_numberOf_50 : decode cX12_numberOf 50 = .ok (.iconst 0, 1) := by decide +kernel
theorem dX12_numberOf_51 : decode cX12_numberOf 51 = .ok (.istore 6, 2) := by decide +kernel
theorem dX12_numberOf_53 : decode cX12_numberOf 53 = .ok (.iload 6, 2) := by decide +kernel
theorem dX12_numberOf_55 : decode cX12_numberOf 55 = .ok (.aload_n 0, 1) := by decide +kernel
theorem dX12_numberOf_56 : decode cX12_numberOf 56 = .ok (.getfield 307, 3) := by decide +kernel
theorem dX12_numberOf_59 : decode cX12_numberOf 59 = .ok (.if_icmp .ge 44, 3) := by decide +kernel
theorem dX12_numberOf_62 : decode cX12_numberOf 62 = .ok (.iload 5, 2) := by decide +kernel
theorem dX12_numberOf_64 : decode cX12_numberOf 64 = .ok (.ifCond .eq 39, 3) := by decide +kernel
theorem dX12_numberOf_67 : decode cX12_numberOf 67 = .ok (.aload_n 1, 1) := by decide +kernel
theorem dX12_numberOf_68 : decode cX12_numberOf 68 = .ok (.iload_n 3, 1) := by decide +kernel
theorem dX12_numberOf_69 : decode cX12_numberOf 69 = .ok (.iload 6, 2) := by decide +kernel
theorem dX12_numberOf_71 : decode cX12_numberOf 71 = .ok (.iadd, 1) := by decide +kernel
theorem dX12_numberOf_72 : decode cX12_numberOf 72 = .ok (.invokevirtual 324, 3) := by decide +kernel
theorem dX12_numberOf_75 : decode cX12_numberOf 75 = .ok (.aload_n 0, 1) := by decide +kernel
theorem dX12_numberOf_76 : decode cX12_numberOf 76 = .ok (.getfield 13, 3) := by decide +kernel
theorem dX12_numberOf_79 : decode cX12_numberOf 79 = .ok (.aload_n 0, 1) := by decide +kernel
theorem dX12_numberOf_80 : decode cX12_numberOf 80 = .ok (.getfield 290, 3) := by decide +kernel
theorem dX12_numberOf_83 : decode cX12_numberOf 83 = .ok (.iload 6, 2) := by decide +kernel
theorem dX12_numberOf_85 : decode cX12_numberOf 85 = .ok (.iadd, 1) := by decide +kernel
theorem dX12_numberOf_86 : decode cX12_numberOf 86 = .ok (.baload, 1) := by decide +kernel
theorem dX12_numberOf_87 : decode cX12_numberOf 87 = .ok (.if_icmp .ne 7, 3) := by decide +kernel
theorem dX12_numberOf_90 : decode cX12_numberOf 90 = .ok (.iconst 1, 1) := by decide +kernel
theorem dX12_numberOf_91 : decode cX12_numberOf 91 = .ok (.goto 4, 3) := by decide +kernel
theorem dX12_numberOf_94 : decode cX12_numberOf 94 = .ok (.iconst 0, 1) := by decide +kernel
theorem dX12_numberOf_95 : decode cX12_numberOf 95 = .ok (.istore 5, 2) := by decide +kernel
theorem dX12_numberOf_97 : decode cX12_numberOf 97 = .ok (.iinc 6 1, 3) := by decide +kernel
theorem dX12_numberOf_100 : decode cX12_numberOf 100 = .ok (.goto (-47), 3) := by decide +kernel
theorem dX12_numberOf_103 : decode cX12_numberOf 103 = .ok (.iload 5, 2) := by decide +kernel
theorem dX12_numberOf_105 : decode cX12_numberOf 105 = .ok (.ifCond .eq 5, 3) := by decide +kernel
theorem dX12_numberOf_108 : decode cX12_numberOf 108 = .ok (.iload_n 2, 1) := by decide +kernel
theorem dX12_numberOf_109 : decode cX12_numberOf 109 = .ok (.ireturn, 1) := by decide +kernel
theorem dX12_numberOf_110 : decode cX12_numberOf 110 = .ok (.iinc 2 1, 3) := by decide +kernel
theorem dX12_numberOf_113 : decode cX12_numberOf 113 = .ok (.iload 4, 2) := by decide +kernel
theorem dX12_numberOf_115 : decode cX12_numberOf 115 = .ok (.iconst 1, 1) := by decide +kernel
theorem dX12_numberOf_116 : decode cX12_numberOf 116 = .ok (.iadd, 1) := by decide +kernel
theorem dX12_numberOf_117 : decode cX12_numberOf 117 = .ok (.istore_n 3, 1) := by decide +kernel
theorem dX12_numberOf_118 : decode cX12_numberOf 118 = .ok (.goto (-114), 3) := by decide +kernel
theorem dX12_numberOf_121 : decode cX12_numberOf 121 = .ok (.iconst (-1), 1) := by decide +kernel
theorem dX12_numberOf_122 : decode cX12_numberOf 122 = .ok (.ireturn, 1) := by decide +kernel
def wb_X12_numberOf_95 (B4 : q_S → Nat → Option Nat → Int32 → Int32 → Prop) (B53 : q_S → Nat → Option Nat → Int32 → Int32 → Int32 → Int32 → Int32 → Prop) (S : q_S) (a0 : Nat) (r1 : Option Nat) (x2 : Int32) (x3 : Int32) (x4 : Int32) (x6 : Int32) (xs0 : Int32) (Q : Option Value → q_S → Prop) : Prop := B53 S a0 r1 x2 x3 x4 xs0 (x6 + 1)
set_option maxHeartbeats 4000000 in
set_option maxRecDepth 100000 in
theorem cb_X12_numberOf_95 {p : Program} {l : Launch} {e : Env} {s : State} {m : MethodId} {args : Array Value} {below : List Frame} {meth : Method} {c : Code} {D : va_G} {cy : Nat → ClassId} {lo : Nat} {B4 : q_S → Nat → Option Nat → Int32 → Int32 → Prop} {B53 : q_S → Nat → Option Nat → Int32 → Int32 → Int32 → Int32 → Int32 → Prop} {S : q_S} {a0 : Nat} {r1 : Option Nat} {x2 : Int32} {x3 : Int32} {x4 : Int32} {x6 : Int32} {xs0 : Int32} {Q : Option Value → q_S → Prop} {H : Heap} {locs : List Loc} {ls : Array Slot} (X : q_X p s m args meth c RX12 cX12_numberOf 7 (some .int) D cy lo) (hB4 : ∀ (S : q_S) (a0 : Nat) (r1 : Option Nat) (x2 : Int32) (x3 : Int32) (H : Heap) (locs : List Loc) (ls : Array Slot), B4 S a0 r1 x2 x3 → q_Y D cy lo s S H locs → lv_has ls 7 [(0, .ref a0), (1, va_rf r1), (2, .int x2), (3, .int x3)] → W p l e ({ frames := 4, cells := 0, slots := 0, locals := 85 } : Room) s m args below meth c H locs 0 0 (MQ below (q_Q D cy lo Q) args s 0 0 (fun q => lo ≤ q)) (F0 m 4 ls [])) (hB53 : ∀ (S : q_S) (a0 : Nat) (r1 : Option Nat) (x2 : Int32) (x3 : Int32) (x4 : Int32) (x5 : Int32) (x6 : Int32) (H : Heap) (locs : List Loc) (ls : Array Slot), B53 S a0 r1 x2 x3 x4 x5 x6 → q_Y D cy lo s S H locs → lv_has ls 7 [(0, .ref a0), (1, va_rf r1), (2, .int x2), (3, .int x3), (4, .int x4), (5, .int x5), (6, .int x6)] → W p l e ({ frames := 4, cells := 0, slots := 0, locals := 85 } : Room) s m args below meth c H locs 0 0 (MQ below (q_Q D cy lo Q) args s 0 0 (fun q => lo ≤ q)) (F0 m 53 ls [])) (Y : q_Y D cy lo s S H locs) (hl : lv_has ls 7 [(0, .ref a0), (1, va_rf r1), (2, .int x2), (3, .int x3), (4, .int x4), (6, .int x6)]) (h : wb_X12_numberOf_95 B4 B53 S a0 r1 x2 x3 x4 x6 xs0 Q) : W p l e ({ frames := 4, cells := 0, slots := 0, locals := 85 } : Room) s m args below meth c H locs 0 0 (MQ below (q_Q D cy lo Q) args s 0 0 (fun q => lo ≤ q)) (F0 m 95 ls [.int xs0]) := by
  have hx := X.1
  have hb := X.2.1
  unfold wb_X12_numberOf_95 at h
  refine lv_istore (i := 5) (lv' := [(5, .int xs0), (0, .ref a0), (1, va_rf r1), (2, .int x2), (3, .int x3), (4, .int x4), (6, .int x6)]) hx hb dX12_numberOf_95 hl (by decide) (by first | rfl | simp [q_cat, q_catI, q_catJ, q_catR]) (fun ls hl => ?_)
  refine lv_iinc (v := (x6 + 1)) (lv' := [(6, .int (x6 + 1)), (5, .int xs0), (0, .ref a0), (1, va_rf r1), (2, .int x2), (3, .int x3), (4, .int x4)]) hx hb dX12_numberOf_97 hl (k := 6) rfl (by first | rfl | decide) (by decide) (by first | rfl | simp [q_cat, q_catI, q_catJ, q_catR]) (fun ls hl => ?_)
  refine lv_goto (tgt := 53) hx hb dX12_numberOf_100 (by decide) ?_
  exact hB53 _ _ _ _ _ _ _ _ _ _ _ h Y (lv_sub hl [2, 3, 4, 5, 6, 1, 0] rfl)
def wb_X12_numberOf_103 (B4 : q_S → Nat → Option Nat → Int32 → Int32 → Prop) (S : q_S) (a0 : Nat) (r1 : Option Nat) (x2 : Int32) (x4 : Int32) (x5 : Int32) (Q : Option Value → q_S → Prop) : Prop := ((x5 = 0 → (B4 S a0 r1 (x2 + 1) (x4 + (1 : Int32)))) ∧ (¬ x5 = 0 → (Q (some (.int x2)) S)))
set_option maxHeartbeats 4000000 in
set_option maxRecDepth 100000 in
theorem cb_X12_numberOf_103 {p : Program} {l : Launch} {e : Env} {s : State} {m : MethodId} {args : Array Value} {below : List Frame} {meth : Method} {c : Code} {D : va_G} {cy : Nat → ClassId} {lo : Nat} {B4 : q_S → Nat → Option Nat → Int32 → Int32 → Prop} {S : q_S} {a0 : Nat} {r1 : Option Nat} {x2 : Int32} {x4 : Int32} {x5 : Int32} {Q : Option Value → q_S → Prop} {H : Heap} {locs : List Loc} {ls : Array Slot} (X : q_X p s m args meth c RX12 cX12_numberOf 7 (some .int) D cy lo) (hB4 : ∀ (S : q_S) (a0 : Nat) (r1 : Option Nat) (x2 : Int32) (x3 : Int32) (H : Heap) (locs : List Loc) (ls : Array Slot), B4 S a0 r1 x2 x3 → q_Y D cy lo s S H locs → lv_has ls 7 [(0, .ref a0), (1, va_rf r1), (2, .int x2), (3, .int x3)] → W p l e ({ frames := 4, cells := 0, slots := 0, locals := 85 } : Room) s m args below meth c H locs 0 0 (MQ below (q_Q D cy lo Q) args s 0 0 (fun q => lo ≤ q)) (F0 m 4 ls [])) (Y : q_Y D cy lo s S H locs) (hl : lv_has ls 7 [(0, .ref a0), (1, va_rf r1), (2, .int x2), (4, .int x4), (5, .int x5)]) (h : wb_X12_numberOf_103 B4 S a0 r1 x2 x4 x5 Q) : W p l e ({ frames := 4, cells := 0, slots := 0, locals := 85 } : Room) s m args below meth c H locs 0 0 (MQ below (q_Q D cy lo Q) args s 0 0 (fun q => lo ≤ q)) (F0 m 103 ls []) := by
  have hx := X.1
  have hb := X.2.1
  unfold wb_X12_numberOf_103 at h
  refine lv_iload hx hb dX12_numberOf_103 (lv_at hl 4 rfl) ?_
  refine lv_if_eq (tgt := 110) hx hb dX12_numberOf_105 (by decide) (fun c1_ => ?_) (fun c1_ => ?_)
  · replace h := h.1 c1_
    refine lv_iinc (v := (x2 + 1)) (lv' := [(2, .int (x2 + 1)), (0, .ref a0), (1, va_rf r1), (4, .int x4), (5, .int x5)]) hx hb dX12_numberOf_110 hl (k := 2) rfl (by first | rfl | decide) (by decide) (by first | rfl | simp [q_cat, q_catI, q_catJ, q_catR]) (fun ls hl => ?_)
    refine lv_iload hx hb dX12_numberOf_113 (lv_at hl 3 rfl) ?_
    refine lv_iconst (v := 1) hx hb dX12_numberOf_115 (by decide) ?_
    refine lv_iadd hx hb dX12_numberOf_116 ?_
    refine lv_istore_n (i := 3) (lv' := [(3, .int (x4 + (1 : Int32))), (2, .int (x2 + 1)), (0, .ref a0), (1, va_rf r1), (4, .int x4), (5, .int x5)]) hx hb dX12_numberOf_117 rfl hl (by decide) (by first | rfl | simp [q_cat, q_catI, q_catJ, q_catR]) (fun ls hl => ?_)
    refine lv_goto (tgt := 4) hx hb dX12_numberOf_118 (by decide) ?_
    exact hB4 _ _ _ _ _ _ _ _ h Y (lv_sub hl [2, 3, 1, 0] rfl)
  · replace h := h.2 c1_
    refine lv_iload_n hx hb dX12_numberOf_108 rfl (lv_at hl 2 rfl) ?_
    exact q_iret X Y rfl (Nat.le_refl _) (Nat.le_refl _) h dX12_numberOf_109
def wb_X12_numberOf_53 (B4 : q_S → Nat → Option Nat → Int32 → Int32 → Prop) (B53 : q_S → Nat → Option Nat → Int32 → Int32 → Int32 → Int32 → Int32 → Prop) (S : q_S) (a0 : Nat) (r1 : Option Nat) (x2 : Int32) (x3 : Int32) (x4 : Int32) (x5 : Int32) (x6 : Int32) (Q : Option Value → q_S → Prop) : Prop := q_K S a0 = 13 ∧ ((((q_I S 2410 a0) ≤ x6 → (wb_X12_numberOf_103 B4 S a0 r1 x2 x4 x5 Q)) ∧ (¬ (q_I S 2410 a0) ≤ x6 → (((x5 = 0 → (wb_X12_numberOf_103 B4 S a0 r1 x2 x4 x5 Q)) ∧ (¬ x5 = 0 → (∃ a5_ : Nat, r1 = some a5_ ∧ (q_K S a5_ = 30 ∧ (wm_J0_charAt_5068e S a5_ (x3 + x6) (fun r8_ S9_ => ∃ x10_ : Int32, r8_ = some (.int x10_) ∧ (q_K S9_ a0 = 13 ∧ (∃ a12_ : Nat, (q_P S9_ 2402 a0) = some a12_ ∧ (q_K S9_ a12_ = 20 ∧ (vp_in ((q_I S9_ 2409 a0) + x6) (q_N S9_ a12_) ∧ (((¬ x10_ = (q_A S9_ a12_ ((q_I S9_ 2409 a0) + x6).toNatClampNeg) → (wb_X12_numberOf_95 B4 B53 S9_ a0 r1 x2 x3 x4 x6 (0 : Int32) Q)) ∧ (x10_ = (q_A S9_ a12_ ((q_I S9_ 2409 a0) + x6).toNatClampNeg) → (wb_X12_numberOf_95 B4 B53 S9_ a0 r1 x2 x3 x4 x6 (1 : Int32) Q))))))))))))))))))
set_option maxHeartbeats 4000000 in
set_option maxRecDepth 100000 in
theorem cb_X12_numberOf_53 {p : Program} {l : Launch} {e : Env} {s : State} {m : MethodId} {args : Array Value} {below : List Frame} {meth : Method} {c : Code} {D : va_G} {cy : Nat → ClassId} {lo : Nat} {B4 : q_S → Nat → Option Nat → Int32 → Int32 → Prop} {B53 : q_S → Nat → Option Nat → Int32 → Int32 → Int32 → Int32 → Int32 → Prop} {S : q_S} {a0 : Nat} {r1 : Option Nat} {x2 : Int32} {x3 : Int32} {x4 : Int32} {x5 : Int32} {x6 : Int32} {Q : Option Value → q_S → Prop} {H : Heap} {locs : List Loc} {ls : Array Slot} (X : q_X p s m args meth c RX12 cX12_numberOf 7 (some .int) D cy lo) (hB4 : ∀ (S : q_S) (a0 : Nat) (r1 : Option Nat) (x2 : Int32) (x3 : Int32) (H : Heap) (locs : List Loc) (ls : Array Slot), B4 S a0 r1 x2 x3 → q_Y D cy lo s S H locs → lv_has ls 7 [(0, .ref a0), (1, va_rf r1), (2, .int x2), (3, .int x3)] → W p l e ({ frames := 4, cells := 0, slots := 0, locals := 85 } : Room) s m args below meth c H locs 0 0 (MQ below (q_Q D cy lo Q) args s 0 0 (fun q => lo ≤ q)) (F0 m 4 ls [])) (hB53 : ∀ (S : q_S) (a0 : Nat) (r1 : Option Nat) (x2 : Int32) (x3 : Int32) (x4 : Int32) (x5 : Int32) (x6 : Int32) (H : Heap) (locs : List Loc) (ls : Array Slot), B53 S a0 r1 x2 x3 x4 x5 x6 → q_Y D cy lo s S H locs → lv_has ls 7 [(0, .ref a0), (1, va_rf r1), (2, .int x2), (3, .int x3), (4, .int x4), (5, .int x5), (6, .int x6)] → W p l e ({ frames := 4, cells := 0, slots := 0, locals := 85 } : Room) s m args below meth c H locs 0 0 (MQ below (q_Q D cy lo Q) args s 0 0 (fun q => lo ≤ q)) (F0 m 53 ls [])) (Y : q_Y D cy lo s S H locs) (hl : lv_has ls 7 [(0, .ref a0), (1, va_rf r1), (2, .int x2), (3, .int x3), (4, .int x4), (5, .int x5), (6, .int x6)]) (h : wb_X12_numberOf_53 B4 B53 S a0 r1 x2 x3 x4 x5 x6 Q) : W p l e ({ frames := 4, cells := 0, slots := 0, locals := 85 } : Room) s m args below meth c H locs 0 0 (MQ below (q_Q D cy lo Q) args s 0 0 (fun q => lo ≤ q)) (F0 m 53 ls []) := by
  have hx := X.1
  have hb := X.2.1
  unfold wb_X12_numberOf_53 at h
  refine lv_iload hx hb dX12_numberOf_53 (lv_at hl 6 rfl) ?_
  refine lv_aload_n hx hb dX12_numberOf_55 rfl (lv_at hl 0 rfl) ?_
  obtain ⟨k2_, h⟩ := h
  refine q_getI X Y kX12 10 rfl fl_X12_307 k2_ dX12_numberOf_56 ?_
  refine lv_icmp_ge (tgt := 103) hx hb dX12_numberOf_59 (by decide) (fun c3_ => ?_) (fun c3_ => ?_)
  · replace h := h.1 c3_
    exact cb_X12_numberOf_103 X hB4 Y (lv_sub hl [0, 1, 2, 4, 5] rfl) h
  · replace h := h.2 c3_
    refine lv_iload hx hb dX12_numberOf_62 (lv_at hl 5 rfl) ?_
    refine lv_if_eq (tgt := 103) hx hb dX12_numberOf_64 (by decide) (fun c4_ => ?_) (fun c4_ => ?_)
    · replace h := h.1 c4_
      exact cb_X12_numberOf_103 X hB4 Y (lv_sub hl [0, 1, 2, 4, 5] rfl) h
    · replace h := h.2 c4_
      refine q_aload_n hx hb dX12_numberOf_67 rfl (lv_at hl 1 rfl) ?_
      refine lv_iload_n hx hb dX12_numberOf_68 rfl (lv_at hl 3 rfl) ?_
      refine lv_iload hx hb dX12_numberOf_69 (lv_at hl 6 rfl) ?_
      refine lv_iadd hx hb dX12_numberOf_71 ?_
      obtain ⟨a5_, e6_, h⟩ := h
      refine q_nn [.int (x3 + x6)] e6_ ?_
      obtain ⟨k7_, h⟩ := h
      refine q_callT X Y hl (cm_J0_charAt_5068e h) mt_J0_charAt_5068e mi_J0_charAt_5068e ml_X12_324 rfl k7_ rfl rfl (by first | exact Nat.le_of_ble_eq_true rfl | simp [q_cat, q_catI, q_catJ, q_catR]) ⟨Nat.le_of_ble_eq_true rfl, Nat.le_of_ble_eq_true rfl⟩ ⟨Nat.le_of_ble_eq_true rfl, Nat.le_of_ble_eq_true rfl⟩ dX12_numberOf_72 (fun r8_ S9_ H locs hp Y => ?_)
      obtain ⟨x10_, rfl, h⟩ := hp
      refine W.eq (g2 := F0 m 75 ls [.int x10_]) rfl ?_
      refine lv_aload_n hx hb dX12_numberOf_75 rfl (lv_at hl 0 rfl) ?_
      obtain ⟨k11_, h⟩ := h
      refine q_getP X Y kX12 2 rfl fl_X12_13 k11_ rfl dX12_numberOf_76 ?_
      refine lv_aload_n hx hb dX12_numberOf_79 rfl (lv_at hl 0 rfl) ?_
      refine q_getI X Y kX12 9 rfl fl_X12_290 k11_ dX12_numberOf_80 ?_
      refine lv_iload hx hb dX12_numberOf_83 (lv_at hl 6 rfl) ?_
      refine lv_iadd hx hb dX12_numberOf_85 ?_
      obtain ⟨a12_, e13_, h⟩ := h
      refine q_nn [.int ((q_I S9_ 2409 a0) + x6)] e13_ ?_
      obtain ⟨k14_, h⟩ := h
      obtain ⟨i15_, h⟩ := h
      refine q_bld X Y k14_ i15_ dX12_numberOf_86 ?_
      refine lv_icmp_ne (tgt := 94) hx hb dX12_numberOf_87 (by decide) (fun c16_ => ?_) (fun c16_ => ?_)
      · replace h := h.1 c16_
        refine lv_iconst (v := 0) hx hb dX12_numberOf_94 (by decide) ?_
        exact cb_X12_numberOf_95 X hB4 hB53 Y (lv_sub hl [0, 1, 2, 3, 4, 6] rfl) h
      · replace h := h.2 c16_
        refine lv_iconst (v := 1) hx hb dX12_numberOf_90 (by decide) ?_
        refine lv_goto (tgt := 95) hx hb dX12_numberOf_91 (by decide) ?_
        exact cb_X12_numberOf_95 X hB4 hB53 Y (lv_sub hl [0, 1, 2, 3, 4, 6] rfl) h
def wl_X12_numberOf_53 (B4 : q_S → Nat → Option Nat → Int32 → Int32 → Prop) : Nat → q_S → Nat → Option Nat → Int32 → Int32 → Int32 → Int32 → Int32 → (Option Value → q_S → Prop) → Prop
  | 0, _, _, _, _, _, _, _, _, _ => False
  | n + 1, S, a0, r1, x2, x3, x4, x5, x6, Q => wb_X12_numberOf_53 B4 (fun S a0 r1 x2 x3 x4 x5 x6 => wl_X12_numberOf_53 B4 n S a0 r1 x2 x3 x4 x5 x6 Q) S a0 r1 x2 x3 x4 x5 x6 Q
set_option maxHeartbeats 4000000 in
set_option maxRecDepth 100000 in
theorem cl_X12_numberOf_53 {p : Program} {l : Launch} {e : Env} {s : State} {m : MethodId} {args : Array Value} {below : List Frame} {meth : Method} {c : Code} {D : va_G} {cy : Nat → ClassId} {lo : Nat} {B4 : q_S → Nat → Option Nat → Int32 → Int32 → Prop} {Q : Option Value → q_S → Prop} (X : q_X p s m args meth c RX12 cX12_numberOf 7 (some .int) D cy lo) (hB4 : ∀ (S : q_S) (a0 : Nat) (r1 : Option Nat) (x2 : Int32) (x3 : Int32) (H : Heap) (locs : List Loc) (ls : Array Slot), B4 S a0 r1 x2 x3 → q_Y D cy lo s S H locs → lv_has ls 7 [(0, .ref a0), (1, va_rf r1), (2, .int x2), (3, .int x3)] → W p l e ({ frames := 4, cells := 0, slots := 0, locals := 85 } : Room) s m args below meth c H locs 0 0 (MQ below (q_Q D cy lo Q) args s 0 0 (fun q => lo ≤ q)) (F0 m 4 ls [])) : ∀ (n : Nat) (S : q_S) (a0 : Nat) (r1 : Option Nat) (x2 : Int32) (x3 : Int32) (x4 : Int32) (x5 : Int32) (x6 : Int32) (H : Heap) (locs : List Loc) (ls : Array Slot), wl_X12_numberOf_53 B4 n S a0 r1 x2 x3 x4 x5 x6 Q → q_Y D cy lo s S H locs → lv_has ls 7 [(0, .ref a0), (1, va_rf r1), (2, .int x2), (3, .int x3), (4, .int x4), (5, .int x5), (6, .int x6)] → W p l e ({ frames := 4, cells := 0, slots := 0, locals := 85 } : Room) s m args below meth c H locs 0 0 (MQ below (q_Q D cy lo Q) args s 0 0 (fun q => lo ≤ q)) (F0 m 53 ls []) := by
  intro n
  induction n with
  | zero => intro S a0 r1 x2 x3 x4 x5 x6 H locs ls h; exact absurd h id
  | succ n ih => intro S a0 r1 x2 x3 x4 x5 x6 H locs ls h Y hl; exact cb_X12_numberOf_53 X hB4 ih Y hl h
def wb_X12_numberOf_48 (B4 : q_S → Nat → Option Nat → Int32 → Int32 → Prop) (S : q_S) (a0 : Nat) (r1 : Option Nat) (x2 : Int32) (x3 : Int32) (x4 : Int32) (xs0 : Int32) (Q : Option Value → q_S → Prop) : Prop := ∃ n17_ : Nat, wl_X12_numberOf_53 B4 n17_ S a0 r1 x2 x3 x4 xs0 (0 : Int32) Q
set_option maxHeartbeats 4000000 in
set_option maxRecDepth 100000 in
theorem cb_X12_numberOf_48 {p : Program} {l : Launch} {e : Env} {s : State} {m : MethodId} {args : Array Value} {below : List Frame} {meth : Method} {c : Code} {D : va_G} {cy : Nat → ClassId} {lo : Nat} {B4 : q_S → Nat → Option Nat → Int32 → Int32 → Prop} {S : q_S} {a0 : Nat} {r1 : Option Nat} {x2 : Int32} {x3 : Int32} {x4 : Int32} {xs0 : Int32} {Q : Option Value → q_S → Prop} {H : Heap} {locs : List Loc} {ls : Array Slot} (X : q_X p s m args meth c RX12 cX12_numberOf 7 (some .int) D cy lo) (hB4 : ∀ (S : q_S) (a0 : Nat) (r1 : Option Nat) (x2 : Int32) (x3 : Int32) (H : Heap) (locs : List Loc) (ls : Array Slot), B4 S a0 r1 x2 x3 → q_Y D cy lo s S H locs → lv_has ls 7 [(0, .ref a0), (1, va_rf r1), (2, .int x2), (3, .int x3)] → W p l e ({ frames := 4, cells := 0, slots := 0, locals := 85 } : Room) s m args below meth c H locs 0 0 (MQ below (q_Q D cy lo Q) args s 0 0 (fun q => lo ≤ q)) (F0 m 4 ls [])) (Y : q_Y D cy lo s S H locs) (hl : lv_has ls 7 [(0, .ref a0), (1, va_rf r1), (2, .int x2), (3, .int x3), (4, .int x4)]) (h : wb_X12_numberOf_48 B4 S a0 r1 x2 x3 x4 xs0 Q) : W p l e ({ frames := 4, cells := 0, slots := 0, locals := 85 } : Room) s m args below meth c H locs 0 0 (MQ below (q_Q D cy lo Q) args s 0 0 (fun q => lo ≤ q)) (F0 m 48 ls [.int xs0]) := by
  have hx := X.1
  have hb := X.2.1
  unfold wb_X12_numberOf_48 at h
  refine lv_istore (i := 5) (lv' := [(5, .int xs0), (0, .ref a0), (1, va_rf r1), (2, .int x2), (3, .int x3), (4, .int x4)]) hx hb dX12_numberOf_48 hl (by decide) (by first | rfl | simp [q_cat, q_catI, q_catJ, q_catR]) (fun ls hl => ?_)
  refine lv_iconst (v := 0) hx hb dX12_numberOf_50 (by decide) ?_
  refine lv_istore (i := 6) (lv' := [(6, .int (0 : Int32)), (5, .int xs0), (0, .ref a0), (1, va_rf r1), (2, .int x2), (3, .int x3), (4, .int x4)]) hx hb dX12_numberOf_51 hl (by decide) (by first | rfl | simp [q_cat, q_catI, q_catJ, q_catR]) (fun ls hl => ?_)
  obtain ⟨n17_, h⟩ := h
  exact cl_X12_numberOf_53 X hB4 n17_ _ _ _ _ _ _ _ _ _ _ _ h Y (lv_sub hl [2, 3, 4, 5, 6, 1, 0] rfl)
def wb_X12_numberOf_15 (B4 : q_S → Nat → Option Nat → Int32 → Int32 → Prop) (B15 : q_S → Nat → Option Nat → Int32 → Int32 → Int32 → Prop) (S : q_S) (a0 : Nat) (r1 : Option Nat) (x2 : Int32) (x3 : Int32) (x4 : Int32) (Q : Option Value → q_S → Prop) : Prop := ∃ a18_ : Nat, r1 = some a18_ ∧ (q_K S a18_ = 30 ∧ (wm_J0_charAt_5068e S a18_ x4 (fun r21_ S22_ => ∃ x23_ : Int32, r21_ = some (.int x23_) ∧ (((x23_ = (32 : Int32) → (q_K S22_ a0 = 13 ∧ (((¬ (x4 - x3) = (q_I S22_ 2410 a0) → (wb_X12_numberOf_48 B4 S22_ a0 r1 x2 x3 x4 (0 : Int32) Q)) ∧ ((x4 - x3) = (q_I S22_ 2410 a0) → (wb_X12_numberOf_48 B4 S22_ a0 r1 x2 x3 x4 (1 : Int32) Q)))))) ∧ (¬ x23_ = (32 : Int32) → (B15 S22_ a0 r1 x2 x3 (x4 + 1))))))))
set_option maxHeartbeats 4000000 in
set_option maxRecDepth 100000 in
theorem cb_X12_numberOf_15 {p : Program} {l : Launch} {e : Env} {s : State} {m : MethodId} {args : Array Value} {below : List Frame} {meth : Method} {c : Code} {D : va_G} {cy : Nat → ClassId} {lo : Nat} {B4 : q_S → Nat → Option Nat → Int32 → Int32 → Prop} {B15 : q_S → Nat → Option Nat → Int32 → Int32 → Int32 → Prop} {S : q_S} {a0 : Nat} {r1 : Option Nat} {x2 : Int32} {x3 : Int32} {x4 : Int32} {Q : Option Value → q_S → Prop} {H : Heap} {locs : List Loc} {ls : Array Slot} (X : q_X p s m args meth c RX12 cX12_numberOf 7 (some .int) D cy lo) (hB4 : ∀ (S : q_S) (a0 : Nat) (r1 : Option Nat) (x2 : Int32) (x3 : Int32) (H : Heap) (locs : List Loc) (ls : Array Slot), B4 S a0 r1 x2 x3 → q_Y D cy lo s S H locs → lv_has ls 7 [(0, .ref a0), (1, va_rf r1), (2, .int x2), (3, .int x3)] → W p l e ({ frames := 4, cells := 0, slots := 0, locals := 85 } : Room) s m args below meth c H locs 0 0 (MQ below (q_Q D cy lo Q) args s 0 0 (fun q => lo ≤ q)) (F0 m 4 ls [])) (hB15 : ∀ (S : q_S) (a0 : Nat) (r1 : Option Nat) (x2 : Int32) (x3 : Int32) (x4 : Int32) (H : Heap) (locs : List Loc) (ls : Array Slot), B15 S a0 r1 x2 x3 x4 → q_Y D cy lo s S H locs → lv_has ls 7 [(0, .ref a0), (1, va_rf r1), (2, .int x2), (3, .int x3), (4, .int x4)] → W p l e ({ frames := 4, cells := 0, slots := 0, locals := 85 } : Room) s m args below meth c H locs 0 0 (MQ below (q_Q D cy lo Q) args s 0 0 (fun q => lo ≤ q)) (F0 m 15 ls [])) (Y : q_Y D cy lo s S H locs) (hl : lv_has ls 7 [(0, .ref a0), (1, va_rf r1), (2, .int x2), (3, .int x3), (4, .int x4)]) (h : wb_X12_numberOf_15 B4 B15 S a0 r1 x2 x3 x4 Q) : W p l e ({ frames := 4, cells := 0, slots := 0, locals := 85 } : Room) s m args below meth c H locs 0 0 (MQ below (q_Q D cy lo Q) args s 0 0 (fun q => lo ≤ q)) (F0 m 15 ls []) := by
  have hx := X.1
  have hb := X.2.1
  unfold wb_X12_numberOf_15 at h
  refine q_aload_n hx hb dX12_numberOf_15 rfl (lv_at hl 1 rfl) ?_
  refine lv_iload hx hb dX12_numberOf_16 (lv_at hl 4 rfl) ?_
  obtain ⟨a18_, e19_, h⟩ := h
  refine q_nn [.int x4] e19_ ?_
  obtain ⟨k20_, h⟩ := h
  refine q_callT X Y hl (cm_J0_charAt_5068e h) mt_J0_charAt_5068e mi_J0_charAt_5068e ml_X12_324 rfl k20_ rfl rfl (by first | exact Nat.le_of_ble_eq_true rfl | simp [q_cat, q_catI, q_catJ, q_catR]) ⟨Nat.le_of_ble_eq_true rfl, Nat.le_of_ble_eq_true rfl⟩ ⟨Nat.le_of_ble_eq_true rfl, Nat.le_of_ble_eq_true rfl⟩ dX12_numberOf_18 (fun r21_ S22_ H locs hp Y => ?_)
  obtain ⟨x23_, rfl, h⟩ := hp
  refine W.eq (g2 := F0 m 21 ls [.int x23_]) rfl ?_
  refine lv_bipush (v := 32) hx hb dX12_numberOf_21 (by decide) ?_
  refine lv_icmp_eq (tgt := 32) hx hb dX12_numberOf_23 (by decide) (fun c24_ => ?_) (fun c24_ => ?_)
  · replace h := h.1 c24_
    refine lv_iload hx hb dX12_numberOf_32 (lv_at hl 4 rfl) ?_
    refine lv_iload_n hx hb dX12_numberOf_34 rfl (lv_at hl 3 rfl) ?_
    refine lv_isub hx hb dX12_numberOf_35 ?_
    refine lv_aload_n hx hb dX12_numberOf_36 rfl (lv_at hl 0 rfl) ?_
    obtain ⟨k25_, h⟩ := h
    refine q_getI X Y kX12 10 rfl fl_X12_307 k25_ dX12_numberOf_37 ?_
    refine lv_icmp_ne (tgt := 47) hx hb dX12_numberOf_40 (by decide) (fun c26_ => ?_) (fun c26_ => ?_)
    · replace h := h.1 c26_
      refine lv_iconst (v := 0) hx hb dX12_numberOf_47 (by decide) ?_
      exact cb_X12_numberOf_48 X hB4 Y (lv_sub hl [0, 1, 2, 3, 4] rfl) h
    · replace h := h.2 c26_
      refine lv_iconst (v := 1) hx hb dX12_numberOf_43 (by decide) ?_
      refine lv_goto (tgt := 48) hx hb dX12_numberOf_44 (by decide) ?_
      exact cb_X12_numberOf_48 X hB4 Y (lv_sub hl [0, 1, 2, 3, 4] rfl) h
  · replace h := h.2 c24_
    refine lv_iinc (v := (x4 + 1)) (lv' := [(4, .int (x4 + 1)), (0, .ref a0), (1, va_rf r1), (2, .int x2), (3, .int x3)]) hx hb dX12_numberOf_26 hl (k := 4) rfl (by first | rfl | decide) (by decide) (by first | rfl | simp [q_cat, q_catI, q_catJ, q_catR]) (fun ls hl => ?_)
    refine lv_goto (tgt := 15) hx hb dX12_numberOf_29 (by decide) ?_
    exact hB15 _ _ _ _ _ _ _ _ _ h Y (lv_sub hl [1, 2, 3, 4, 0] rfl)
def wl_X12_numberOf_15 (B4 : q_S → Nat → Option Nat → Int32 → Int32 → Prop) : Nat → q_S → Nat → Option Nat → Int32 → Int32 → Int32 → (Option Value → q_S → Prop) → Prop
  | 0, _, _, _, _, _, _, _ => False
  | n + 1, S, a0, r1, x2, x3, x4, Q => wb_X12_numberOf_15 B4 (fun S a0 r1 x2 x3 x4 => wl_X12_numberOf_15 B4 n S a0 r1 x2 x3 x4 Q) S a0 r1 x2 x3 x4 Q
set_option maxHeartbeats 4000000 in
set_option maxRecDepth 100000 in
theorem cl_X12_numberOf_15 {p : Program} {l : Launch} {e : Env} {s : State} {m : MethodId} {args : Array Value} {below : List Frame} {meth : Method} {c : Code} {D : va_G} {cy : Nat → ClassId} {lo : Nat} {B4 : q_S → Nat → Option Nat → Int32 → Int32 → Prop} {Q : Option Value → q_S → Prop} (X : q_X p s m args meth c RX12 cX12_numberOf 7 (some .int) D cy lo) (hB4 : ∀ (S : q_S) (a0 : Nat) (r1 : Option Nat) (x2 : Int32) (x3 : Int32) (H : Heap) (locs : List Loc) (ls : Array Slot), B4 S a0 r1 x2 x3 → q_Y D cy lo s S H locs → lv_has ls 7 [(0, .ref a0), (1, va_rf r1), (2, .int x2), (3, .int x3)] → W p l e ({ frames := 4, cells := 0, slots := 0, locals := 85 } : Room) s m args below meth c H locs 0 0 (MQ below (q_Q D cy lo Q) args s 0 0 (fun q => lo ≤ q)) (F0 m 4 ls [])) : ∀ (n : Nat) (S : q_S) (a0 : Nat) (r1 : Option Nat) (x2 : Int32) (x3 : Int32) (x4 : Int32) (H : Heap) (locs : List Loc) (ls : Array Slot), wl_X12_numberOf_15 B4 n S a0 r1 x2 x3 x4 Q → q_Y D cy lo s S H locs → lv_has ls 7 [(0, .ref a0), (1, va_rf r1), (2, .int x2), (3, .int x3), (4, .int x4)] → W p l e ({ frames := 4, cells := 0, slots := 0, locals := 85 } : Room) s m args below meth c H locs 0 0 (MQ below (q_Q D cy lo Q) args s 0 0 (fun q => lo ≤ q)) (F0 m 15 ls []) := by
  intro n
  induction n with
  | zero => intro S a0 r1 x2 x3 x4 H locs ls h; exact absurd h id
  | succ n ih => intro S a0 r1 x2 x3 x4 H locs ls h Y hl; exact cb_X12_numberOf_15 X hB4 ih Y hl h
def wb_X12_numberOf_4 (B4 : q_S → Nat → Option Nat → Int32 → Int32 → Prop) (S : q_S) (a0 : Nat) (r1 : Option Nat) (x2 : Int32) (x3 : Int32) (Q : Option Value → q_S → Prop) : Prop := ∃ a27_ : Nat, r1 = some a27_ ∧ (q_K S a27_ = 30 ∧ (wm_J0_length_8abf5 S a27_ (fun r30_ S31_ => ∃ x32_ : Int32, r30_ = some (.int x32_) ∧ (((x32_ ≤ x3 → (Q (some (.int (-1 : Int32))) S31_)) ∧ (¬ x32_ ≤ x3 → (∃ n34_ : Nat, wl_X12_numberOf_15 B4 n34_ S31_ a0 r1 x2 x3 x3 Q)))))))
set_option maxHeartbeats 4000000 in
set_option maxRecDepth 100000 in
theorem cb_X12_numberOf_4 {p : Program} {l : Launch} {e : Env} {s : State} {m : MethodId} {args : Array Value} {below : List Frame} {meth : Method} {c : Code} {D : va_G} {cy : Nat → ClassId} {lo : Nat} {B4 : q_S → Nat → Option Nat → Int32 → Int32 → Prop} {S : q_S} {a0 : Nat} {r1 : Option Nat} {x2 : Int32} {x3 : Int32} {Q : Option Value → q_S → Prop} {H : Heap} {locs : List Loc} {ls : Array Slot} (X : q_X p s m args meth c RX12 cX12_numberOf 7 (some .int) D cy lo) (hB4 : ∀ (S : q_S) (a0 : Nat) (r1 : Option Nat) (x2 : Int32) (x3 : Int32) (H : Heap) (locs : List Loc) (ls : Array Slot), B4 S a0 r1 x2 x3 → q_Y D cy lo s S H locs → lv_has ls 7 [(0, .ref a0), (1, va_rf r1), (2, .int x2), (3, .int x3)] → W p l e ({ frames := 4, cells := 0, slots := 0, locals := 85 } : Room) s m args below meth c H locs 0 0 (MQ below (q_Q D cy lo Q) args s 0 0 (fun q => lo ≤ q)) (F0 m 4 ls [])) (Y : q_Y D cy lo s S H locs) (hl : lv_has ls 7 [(0, .ref a0), (1, va_rf r1), (2, .int x2), (3, .int x3)]) (h : wb_X12_numberOf_4 B4 S a0 r1 x2 x3 Q) : W p l e ({ frames := 4, cells := 0, slots := 0, locals := 85 } : Room) s m args below meth c H locs 0 0 (MQ below (q_Q D cy lo Q) args s 0 0 (fun q => lo ≤ q)) (F0 m 4 ls []) := by
  have hx := X.1
  have hb := X.2.1
  unfold wb_X12_numberOf_4 at h
  refine lv_iload_n hx hb dX12_numberOf_4 rfl (lv_at hl 3 rfl) ?_
  refine q_aload_n hx hb dX12_numberOf_5 rfl (lv_at hl 1 rfl) ?_
  obtain ⟨a27_, e28_, h⟩ := h
  refine q_nn [] e28_ ?_
  obtain ⟨k29_, h⟩ := h
  refine q_callT X Y hl (cm_J0_length_8abf5 h) mt_J0_length_8abf5 mi_J0_length_8abf5 ml_X12_319 rfl k29_ rfl rfl (by first | exact Nat.le_of_ble_eq_true rfl | simp [q_cat, q_catI, q_catJ, q_catR]) ⟨Nat.le_of_ble_eq_true rfl, Nat.le_of_ble_eq_true rfl⟩ ⟨Nat.le_of_ble_eq_true rfl, Nat.le_of_ble_eq_true rfl⟩ dX12_numberOf_6 (fun r30_ S31_ H locs hp Y => ?_)
  obtain ⟨x32_, rfl, h⟩ := hp
  refine W.eq (g2 := F0 m 9 ls [.int x32_, .int x3]) rfl ?_
  refine lv_icmp_ge (tgt := 121) hx hb dX12_numberOf_9 (by decide) (fun c33_ => ?_) (fun c33_ => ?_)
  · replace h := h.1 c33_
    refine lv_iconst (v := (-1)) hx hb dX12_numberOf_121 (by decide) ?_
    exact q_iret X Y rfl (Nat.le_refl _) (Nat.le_refl _) h dX12_numberOf_122
  · replace h := h.2 c33_
    refine lv_iload_n hx hb dX12_numberOf_12 rfl (lv_at hl 3 rfl) ?_
    refine lv_istore (i := 4) (lv' := [(4, .int x3), (0, .ref a0), (1, va_rf r1), (2, .int x2), (3, .int x3)]) hx hb dX12_numberOf_13 hl (by decide) (by first | rfl | simp [q_cat, q_catI, q_catJ, q_catR]) (fun ls hl => ?_)
    obtain ⟨n34_, h⟩ := h
    exact cl_X12_numberOf_15 X hB4 n34_ _ _ _ _ _ _ _ _ _ h Y (lv_sub hl [1, 2, 3, 4, 0] rfl)
def wl_X12_numberOf_4  : Nat → q_S → Nat → Option Nat → Int32 → Int32 → (Option Value → q_S → Prop) → Prop
  | 0, _, _, _, _, _, _ => False
  | n + 1, S, a0, r1, x2, x3, Q => wb_X12_numberOf_4 (fun S a0 r1 x2 x3 => wl_X12_numberOf_4 n S a0 r1 x2 x3 Q) S a0 r1 x2 x3 Q
set_option maxHeartbeats 4000000 in
set_option maxRecDepth 100000 in
theorem cl_X12_numberOf_4 {p : Program} {l : Launch} {e : Env} {s : State} {m : MethodId} {args : Array Value} {below : List Frame} {meth : Method} {c : Code} {D : va_G} {cy : Nat → ClassId} {lo : Nat}  {Q : Option Value → q_S → Prop} (X : q_X p s m args meth c RX12 cX12_numberOf 7 (some .int) D cy lo)  : ∀ (n : Nat) (S : q_S) (a0 : Nat) (r1 : Option Nat) (x2 : Int32) (x3 : Int32) (H : Heap) (locs : List Loc) (ls : Array Slot), wl_X12_numberOf_4 n S a0 r1 x2 x3 Q → q_Y D cy lo s S H locs → lv_has ls 7 [(0, .ref a0), (1, va_rf r1), (2, .int x2), (3, .int x3)] → W p l e ({ frames := 4, cells := 0, slots := 0, locals := 85 } : Room) s m args below meth c H locs 0 0 (MQ below (q_Q D cy lo Q) args s 0 0 (fun q => lo ≤ q)) (F0 m 4 ls []) := by
  intro n
  induction n with
  | zero => intro S a0 r1 x2 x3 H locs ls h; exact absurd h id
  | succ n ih => intro S a0 r1 x2 x3 H locs ls h Y hl; exact cb_X12_numberOf_4 X ih Y hl h
def wm_X12_numberOf (S : q_S) (a0 : Nat) (r1 : Option Nat) (Q : Option Value → q_S → Prop) : Prop := ∃ n35_ : Nat, wl_X12_numberOf_4 n35_ S a0 r1 (0 : Int32) (1 : Int32) Q
set_option maxHeartbeats 4000000 in
set_option maxRecDepth 100000 in
theorem cm_X12_numberOf {l : Launch} {D : va_G} {cy : Nat → ClassId} {lo : Nat} {S : q_S} {a0 : Nat} {r1 : Option Nat} {Q : Option Value → q_S → Prop} (h : wm_X12_numberOf S a0 r1 Q) : q_Met l D cy lo yX12_numberOf cX12_numberOf 7 (some .int) 4 85 0 0 [.ref a0, va_rf r1] S Q := by
  refine q_body (by decide) (by first | exact Nat.le_of_ble_eq_true rfl | simp [lg_sl, q_cat, q_catI, q_catJ, q_catR]) ?_
  intro p e s m below meth c ls X hnm Y hl
  have hx := X.1
  have hb := X.2.1
  have hl : lv_has ls 7 [(0, .ref a0), (1, va_rf r1)] := by first | exact hl | simpa [lv_args, q_cat, q_catI, q_catJ, q_catR] using hl
  generalize hargs : ([.ref a0, va_rf r1] : List Value).toArray = args at X ⊢
  unfold wm_X12_numberOf at h
  refine lv_iconst (v := 0) hx hb dX12_numberOf_0 (by decide) ?_
  refine lv_istore_n (i := 2) (lv' := [(2, .int (0 : Int32)), (0, .ref a0), (1, va_rf r1)]) hx hb dX12_numberOf_1 rfl hl (by decide) (by first | rfl | simp [q_cat, q_catI, q_catJ, q_catR]) (fun ls hl => ?_)
  refine lv_iconst (v := 1) hx hb dX12_numberOf_2 (by decide) ?_
  refine lv_istore_n (i := 3) (lv' := [(3, .int (1 : Int32)), (2, .int (0 : Int32)), (0, .ref a0), (1, va_rf r1)]) hx hb dX12_numberOf_3 rfl hl (by decide) (by first | rfl | simp [q_cat, q_catI, q_catJ, q_catR]) (fun ls hl => ?_)
  obtain ⟨n35_, h⟩ := h
  exact cl_X12_numberOf_4 X n35_ _ _ _ _ _ _ _ _ h Y (lv_sub hl [2, 3, 1, 0] rfl)
-- X12_next
theorem fl_X12_284 : Cond.fieldLink RX12 284 "PartitionWorksModel" "at" "I" ∈ q_G := q_tb (i := 1739) (by decide +kernel) (by decide +kernel)
theorem fl_X12_297 : Cond.fieldLink RX12 297 "PartitionWorksModel" "kind" "I" ∈ q_G := q_tb (i := 1740) (by decide +kernel) (by decide +kernel)
theorem ml_X12_293 : Cond.methodLink RX12 293 yX12_byteAt ∈ q_G := q_tb (i := 2102) (by decide +kernel) (by decide +kernel)
theorem mt_X12_byteAt : q_Mt yX12_byteAt cX12_byteAt 2 (some .int) 1 := ⟨q_tb (i := 2105) (by decide +kernel) (by decide +kernel), q_tb (i := 11) (by decide +kernel) (by decide +kernel), by decide +kernel, by decide +kernel, by decide +kernel⟩
theorem mi_X12_byteAt : Cond.instanceMethod yX12_byteAt ∈ q_G ∧ Cond.selects yX12_byteAt.cls yX12_byteAt yX12_byteAt ∈ q_G := ⟨q_tb (i := 2104) (by decide +kernel) (by decide +kernel), q_tp (i := 88) (q := (yX12_byteAt, 114)) (by decide +kernel) (by decide +kernel)⟩
theorem ml_X12_300 : Cond.methodLink RX12 300 yX12_isLetter ∈ q_G := q_tb (i := 2106) (by decide +kernel) (by decide +kernel)
theorem mt_X12_isLetter : q_Mt yX12_isLetter cX12_isLetter 2 (some .boolean) 1 := ⟨q_tb (i := 2109) (by decide +kernel) (by decide +kernel), q_tb (i := 11) (by decide +kernel) (by decide +kernel), by decide +kernel, by decide +kernel, by decide +kernel⟩
theorem mi_X12_isLetter : Cond.instanceMethod yX12_isLetter ∈ q_G ∧ Cond.selects yX12_isLetter.cls yX12_isLetter yX12_isLetter ∈ q_G := ⟨q_tb (i := 2108) (by decide +kernel) (by decide +kernel), q_tp (i := 89) (q := (yX12_isLetter, 114)) (by decide +kernel) (by decide +kernel)⟩
theorem ml_X12_304 : Cond.methodLink RX12 304 yX12_isDigit ∈ q_G := q_tb (i := 2110) (by decide +kernel) (by decide +kernel)
theorem mt_X12_isDigit : q_Mt yX12_isDigit cX12_isDigit 2 (some .boolean) 1 := ⟨q_tb (i := 2113) (by decide +kernel) (by decide +kernel), q_tb (i := 11) (by decide +kernel) (by decide +kernel), by decide +kernel, by decide +kernel, by decide +kernel⟩
theorem mi_X12_isDigit : Cond.instanceMethod yX12_isDigit ∈ q_G ∧ Cond.selects yX12_isDigit.cls yX12_isDigit yX12_isDigit ∈ q_G := ⟨q_tb (i := 2112) (by decide +kernel) (by decide +kernel), q_tp (i := 90) (q := (yX12_isDigit, 114)) (by decide +kernel) (by decide +kernel)⟩
theorem ml_X12_312 : Cond.methodLink RX12 312 yX12_numberOf ∈ q_G := q_tb (i := 2115) (by decide +kernel) (by decide +kernel)
theorem mt_X12_numberOf : q_Mt yX12_numberOf cX12_numberOf 7 (some .int) 1 := ⟨q_tb (i := 2118) (by decide +kernel) (by decide +kernel), q_tb (i := 11) (by decide +kernel) (by decide +kernel), by decide +kernel, by decide +kernel, by decide +kernel⟩
theorem mi_X12_numberOf : Cond.instanceMethod yX12_numberOf ∈ q_G ∧ Cond.selects yX12_numberOf.cls yX12_numberOf yX12_numberOf ∈ q_G := ⟨q_tb (i := 2117) (by decide +kernel) (by decide +kernel), q_tp (i := 91) (q := (yX12_numberOf, 114)) (by decide +kernel) (by decide +kernel)⟩
theorem fl_X12_316 : Cond.fieldLink RX12 316 "PartitionWorksModel" "value" "I" ∈ q_G := q_tb (i := 1742) (by decide +kernel) (by decide +kernel)
theorem fl_X12_287 : Cond.fieldLink RX12 287 "PartitionWorksModel" "place" "I" ∈ q_G := q_tb (i := 1741) (by decide +kernel) (by decide +kernel)
theorem dX12_next_0 : decode cX12_next 0 = .ok (.aload_n 0, 1) := by decide +kernel
theorem dX12_next_1 : decode cX12_next 1 = .ok (.getfield 284, 3) := by decide +kernel
theorem dX12_next_4 : decode cX12_next 4 = .ok (.aload_n 0, 1) := by decide +kernel
theorem dX12_next_5 : decode cX12_next 5 = .ok (.getfield 281, 3) := by decide +kernel
theorem dX12_next_8 : decode cX12_next 8 = .ok (.if_icmp .ge 44, 3) := by decide +kernel
theorem dX12_next_11 : decode cX12_next 11 = .ok (.aload_n 0, 1) := by decide +kernel
theorem dX12_next_12 : decode cX12_next 12 = .ok (.getfield 13, 3) := by decide +kernel
theorem dX12_next_15 : decode cX12_next 15 = .ok (.aload_n 0, 1) := by decide +kernel
theorem dX12_next_16 : decode cX12_next 16 = .ok (.getfield 284, 3) := by decide +kernel
theorem dX12_next_19 : decode cX12_next 19 = .ok (.baload, 1) := by decide +kernel
theorem dX12_next_20 : decode cX12_next 20 = .ok (.bipush 32, 2) := by decide +kernel
theorem dX12_next_22 : decode cX12_next 22 = .ok (.if_icmp .eq 17, 3) := by decide +kernel
theorem dX12_next_25 : decode cX12_next 25 = .ok (.aload_n 0, 1) := by decide +kernel
theorem dX12_next_26 : decode cX12_next 26 = .ok (.getfield 13, 3) := by decide +kernel
theorem dX12_next_29 : decode cX12_next 29 = .ok (.aload_n 0, 1) := by decide +kernel
theorem dX12_next_30 : decode cX12_next 30 = .ok (.getfield 284, 3) := by decide +kernel
theorem dX12_next_33 : decode cX12_next 33 = .ok (.baload, 1) := by decide +kernel
theorem dX12_next_34 : decode cX12_next 34 = .ok (.bipush 10, 2) := by decide +kernel
theorem dX12_next_36 : decode cX12_next 36 = .ok (.if_icmp .ne 16, 3) := by decide +kernel
theorem dX12_next_39 : decode cX12_next 39 = .ok (.aload_n 0, 1) := by decide +kernel
theorem dX12_next_40 : decode cX12_next 40 = .ok (.dup, 1) := by decide +kernel
theorem dX12_next_41 : decode cX12_next 41 = .ok (.getfield 284, 3) := by decide +kernel
theorem dX12_next_44 : decode cX12_next 44 = .ok (.iconst 1, 1) := by decide +kernel
theorem dX12_next_45 : decode cX12_next 45 = .ok (.iadd, 1) := by decide +kernel
theorem dX12_next_46 : decode cX12_next 46 = .ok (.putfield 284, 3) := by decide +kernel
theorem dX12_next_49 : decode cX12_next 49 = .ok (.goto (-49), 3) := by decide +kernel
theorem dX12_next_52 : decode cX12_next 52 = .ok (.aload_n 0, 1) := by decide +kernel
theorem dX12_next_53 : decode cX12_next 53 = .ok (.aload_n 0, 1) := by decide +kernel
theorem dX12_next_54 : decode cX12_next 54 = .ok (.getfield 284, 3) := by decide +kernel
theorem dX12_next_57 : decode cX12_next 57 = .ok (.putfield 287, 3) := by decide +kernel
theorem dX12_next_60 : decode cX12_next 60 = .ok (.aload_n 0, 1) := by decide +kernel
theorem dX12_next_61 : decode cX12_next 61 = .ok (.aload_n 0, 1) := by decide +kernel
theorem dX12_next_62 : decode cX12_next 62 = .ok (.getfield 284, 3) := by decide +kernel
theorem dX12_next_65 : decode cX12_next 65 = .ok (.putfield 290, 3) := by decide +kernel
theorem dX12_next_68 : decode cX12_next 68 = .ok (.aload_n 0, 1) := by decide +kernel
theorem dX12_next_69 : decode cX12_next 69 = .ok (.aload_n 0, 1) := by decide +kernel
theorem dX12_next_70 : decode cX12_next 70 = .ok (.getfield 284, 3) := by decide +kernel
theorem dX12_next_73 : decode cX12_next 73 = .ok (.invokevirtual 293, 3) := by decide +kernel
theorem dX12_next_76 : decode cX12_next 76 = .ok (.istore_n 1, 1) := by decide +kernel
theorem dX12_next_77 : decode cX12_next 77 = .ok (.aload_n 0, 1) := by decide +kernel
theorem dX12_next_78 : decode cX12_next 78 = .ok (.getfield 284, 3) := by decide +kernel
theorem dX12_next_81 : decode cX12_next 81 = .ok (.aload_n 0, 1) := by decide +kernel
theorem dX12_next_82 : decode cX12_next 82 = .ok (.getfield 281, 3) := by decide +kernel
theorem dX12_next_85 : decode cX12_next 85 = .ok (.if_icmp .lt 11, 3) := by decide +kernel
theorem dX12_next_88 : decode cX12_next 88 = .ok (.aload_n 0, 1) := by decide +kernel
theorem dX12_next_89 : decode cX12_next 89 = .ok (.iconst 0, 1) := by decide +kernel
theorem dX12_next_90 : decode cX12_next 90 = .ok (.putfield 297, 3) := by decide +kernel
theorem dX12_next_93 : decode cX12_next 93 = .ok (.goto 297, 3) := by decide +kernel
theorem dX12_next_96 : decode cX12_next 96 = .ok (.aload_n 0, 1) := by decide +kernel
theorem dX12_next_97 : decode cX12_next 97 = .ok (.iload_n 1, 1) := by decide +kernel
theorem dX12_next_98 : decode cX12_next 98 = .ok (.invokevirtual 300, 3) := by decide +kernel
theorem dX12_next_101 : decode cX12_next 101 = .ok (.ifCond .eq 102, 3) := by decide +kernel
theorem dX12_next_104 : decode cX12_next 104 = .ok (.aload_n 0, 1) := by decide +kernel
theorem dX12_next_105 : decode cX12_next 105 = .ok (.aload_n 0, 1) := by decide +kernel
theorem dX12_next_106 : decode cX12_next 106 = .ok (.aload_n 0, 1) := by decide +kernel
theorem dX12_next_107 : decode cX12_next 107 = .ok (.getfield 284, 3) := by decide +kernel
theorem dX12_next_110 : decode cX12_next 110 = .ok (.invokevirtual 293, 3) := by decide +kernel
theorem dX12_next_113 : decode cX12_next 113 = .ok (.invokevirtual 300, 3) := by decide +kernel
theorem dX12_next_116 : decode cX12_next 116 = .ok (.ifCond .ne 18, 3) := by decide +kernel
theorem dX12_next_119 : decode cX12_next 119 = .ok (.aload_n 0, 1) := by decide +kernel
theorem dX12_next_120 : decode cX12_next 120 = .ok (.aload_n 0, 1) := by decide +kernel
theorem dX12_next_121 : decode cX12_next 121 = .ok (.aload_n 0, 1) := by decide +kernel
theorem dX12_next_122 : decode cX12_next 122 = .ok (.getfield 284, 3) := by decide +kernel
theorem dX12_next_125 : decode cX12_next 125 = .ok (.invokevirtual 293, 3) := by decide +kernel
theorem dX12_next_128 : decode cX12_next 128 = .ok (.invokevirtual 304, 3) := by decide +kernel
theorem dX12_next_131 : decode cX12_next 131 = .ok (.ifCond .eq 16, 3) := by decide +kernel
theorem dX12_next_134 : decode cX12_next 134 = .ok (.aload_n 0, 1) := by decide +kernel
theorem dX12_next_135 : decode cX12_next 135 = .ok (.dup, 1) := by decide +kernel
theorem dX12_next_136 : decode cX12_next 136 = .ok (.getfield 284, 3) := by decide +kernel
theorem dX12_next_139 : decode cX12_next 139 = .ok (.iconst 1, 1) := by decide +kernel
theorem dX12_next_140 : decode cX12_next 140 = .ok (.iadd, 1) := by decide +kernel
theorem dX12_next_141 : decode cX12_next 141 = .ok (.putfield 284, 3) := by decide +kernel
theorem dX12_next_144 : decode cX12_next 144 = .ok (.goto (-40), 3) := by decide +kernel
theorem dX12_next_147 : decode cX12_next 147 = .ok (.aload_n 0, 1) := by decide +kernel
theorem dX12_next_148 : decode cX12_next 148 = .ok (.aload_n 0, 1) := by decide +kernel
theorem dX12_next_149 : decode cX12_next 149 = .ok (.getfield 284, 3) := by decide +kernel
theorem dX12_next_152 : decode cX12_next 152 = .ok (.aload_n 0, 1) := by decide +kernel
theorem dX12_next_153 : decode cX12_next 153 = .ok (.getfield 290, 3) := by decide +kernel
theorem dX12_next_156 : decode cX12_next 156 = .ok (.isub, 1) := by decide +kernel
theorem dX12_next_157 : decode cX12_next 157 = .ok (.putfield 307, 3) := by decide +kernel
theorem dX12_next_160 : decode cX12_next 160 = .ok (.aload_n 0, 1) := by decide +kernel
theorem dX12_next_161 : decode cX12_next 161 = .ok (.aload_n 0, 1) := by decide +kernel
theorem dX12_next_162 : decode cX12_next 162 = .ok (.ldc_w 310, 3) := by decide +kernel
theorem dX12_next_165 : decode cX12_next 165 = .ok (.invokevirtual 312, 3) := by decide +kernel
theorem dX12_next_168 : decode cX12_next 168 = .ok (.putfield 316, 3) := by decide +kernel
theorem dX12_next_171 : decode cX12_next 171 = .ok (.aload_n 0, 1) := by decide +kernel
theorem dX12_next_172 : decode cX12_next 172 = .ok (.aload_n 0, 1) := by decide +kernel
theorem dX12_next_173 : decode cX12_next 173 = .ok (.getfield 307, 3) := by decide +kernel
theorem dX12_next_176 : decode cX12_next 176 = .ok (.bipush 12, 2) := by decide +kernel
theorem dX12_next_178 : decode cX12_next 178 = .ok (.if_icmp .le 7, 3) := by decide +kernel
theorem dX12_next_181 : decode cX12_next 181 = .ok (.iconst 5, 1) := by decide +kernel
theorem dX12_next_182 : decode cX12_next 182 = .ok (.goto 15, 3) := by decide +kernel
theorem dX12_next_185 : decode cX12_next 185 = .ok (.aload_n 0, 1) := by decide +kernel
theorem dX12_next_186 : decode cX12_next 186 = .ok (.getfield 316, 3) := by decide +kernel
theorem dX12_next_189 : decode cX12_next 189 = .ok (.ifCond .lt 7, 3) := by decide +kernel
theorem dX12_next_192 : decode cX12_next 192 = .ok (.iconst 4, 1) := by decide +kernel
theorem dX12_next_193 : decode cX12_next 193 = .ok (.goto 4, 3) := by decide +kernel
theorem dX12_next_196 : decode cX12_next 196 = .ok (.iconst 1, 1) := by decide +kernel
theorem dX12_next_197 : decode cX12_next 197 = .ok (.putfield 297, 3) := by decide +kernel
theorem dX12_next_200 : decode cX12_next 200 = .ok (.goto 190, 3) := by decide +kernel
theorem dX12_next_203 : decode cX12_next 203 = .ok (.aload_n 0, 1) := by decide +kernel
theorem dX12_next_204 : decode cX12_next 204 = .ok (.iload_n 1, 1) := by decide +kernel
theorem dX12_next_205 : decode cX12_next 205 = .ok (.invokevirtual 304, 3) := by decide +kernel
theorem dX12_next_208 : decode cX12_next 208 = .ok (.ifCond .eq 106, 3) := by decide +kernel
theorem dX12_next_211 : decode cX12_next 211 = .ok (.aload_n 0, 1) := by decide +kernel
theorem dX12_next_212 : decode cX12_next 212 = .ok (.iconst 0, 1) := by decide +kernel
theorem dX12_next_213 : decode cX12_next 213 = .ok (.putfield 316, 3) := by decide +kernel
theorem dX12_next_216 : decode cX12_next 216 = .ok (.aload_n 0, 1) := by decide +kernel
theorem dX12_next_217 : decode cX12_next 217 = .ok (.aload_n 0, 1) := by decide +kernel
theorem dX12_next_218 : decode cX12_next 218 = .ok (.aload_n 0, 1) := by decide +kernel
theorem dX12_next_219 : decode cX12_next 219 = .ok (.getfield 284, 3) := by decide +kernel
theorem dX12_next_222 : decode cX12_next 222 = .ok (.invokevirtual 293, 3) := by decide +kernel
theorem dX12_next_225 : decode cX12_next 225 = .ok (.invokevirtual 304, 3) := by decide +kernel
theorem dX12_next_228 : decode cX12_next 228 = .ok (.ifCond .eq 60, 3) := by decide +kernel
theorem dX12_next_231 : decode cX12_next 231 = .ok (.aload_n 0, 1) := by decide +kernel
theorem dX12_next_232 : decode cX12_next 232 = .ok (.aload_n 0, 1) := by decide +kernel
theorem dX12_next_233 : decode cX12_next 233 = .ok (.getfield 284, 3) := by decide +kernel
theorem dX12_next_236 : decode cX12_next 236 = .ok (.aload_n 0, 1) := by decide +kernel
theorem dX12_next_237 : decode cX12_next 237 = .ok (.getfield 290, 3) := by decide +kernel
theorem dX12_next_240 : decode cX12_next 240 = .ok (.isub, 1) := by decide +kernel
theorem dX12_next_241 : decode cX12_next 241 = .ok (.bipush 6, 2) := by decide +kernel
theorem dX12_next_243 : decode cX12_next 243 = .ok (.if_icmp .ge 25, 3) := by decide +kernel
theorem dX12_next_246 : decode cX12_next 246 = .ok (.bipush 10, 2) := by decide +kernel
theorem dX12_next_248 : decode cX12_next 248 = .ok (.aload_n 0, 1) := by decide +kernel
theorem dX12_next_249 : decode cX12_next 249 = .ok (.getfield 316, 3) := by decide +kernel
theorem dX12_next_252 : decode cX12_next 252 = .ok (.imul, 1) := by decide +kernel
theorem dX12_next_253 : decode cX12_next 253 = .ok (.aload_n 0, 1) := by decide +kernel
theorem dX12_next_254 : decode cX12_next 254 = .ok (.aload_n 0, 1) := by decide +kernel
theorem dX12_next_255 : decode cX12_next 255 = .ok (.getfield 284, 3) := by decide +kernel
theorem dX12_next_258 : decode cX12_next 258 = .ok (.invokevirtual 293, 3) := by decide +kernel
theorem dX12_next_261 : decode cX12_next 261 = .ok (.iadd, 1) := by decide +kernel
theorem dX12_next_262 : decode cX12_next 262 = .ok (.bipush 48, 2) := by decide +kernel
theorem dX12_next_264 : decode cX12_next 264 = .ok (.isub, 1) := by decide +kernel
theorem dX12_next_265 : decode cX12_next 265 = .ok (.goto 7, 3) := by decide +kernel
theorem dX12_next_268 : decode cX12_next 268 = .ok (.aload_n 0, 1) := by decide +kernel
theorem dX12_next_269 : decode cX12_next 269 = .ok (.getfield 316, 3) := by decide +kernel
theorem dX12_next_272 : decode cX12_next 272 = .ok (.putfield 316, 3) := by decide +kernel
theorem dX12_next_275 : decode cX12_next 275 = .ok (.aload_n 0, 1) := by decide +kernel
theorem dX12_next_276 : decode cX12_next 276 = .ok (.dup, 1) := by decide +kernel
theorem dX12_next_277 : decode cX12_next 277 = .ok (.getfield 284, 3) := by decide +kernel
theorem dX12_next_280 : decode cX12_next 280 = .ok (.iconst 1, 1) := by decide +kernel
theorem dX12_next_281 : decode cX12_next 281 = .ok (.iadd, 1) := by decide +kernel
theorem dX12_next_282 : decode cX12_next 282 = .ok (.putfield 284, 3) := by decide +kernel
theorem dX12_next_285 : decode cX12_next 285 = .ok (.goto (-69), 3) := by decide +kernel
theorem dX12_next_288 : decode cX12_next 288 = .ok (.aload_n 0, 1) := by decide +kernel
theorem dX12_next_289 : decode cX12_next 289 = .ok (.aload_n 0, 1) := by decide +kernel
theorem dX12_next_290 : decode cX12_next 290 = .ok (.getfield 284, 3) := by decide +kernel
theorem dX12_next_293 : decode cX12_next 293 = .ok (.aload_n 0, 1) := by decide +kernel
theorem dX12_next_294 : decode cX12_next 294 = .ok (.getfield 290, 3) := by decide +kernel
theorem dX12_next_297 : decode cX12_next 297 = .ok (.isub, 1) := by decide +kernel
theorem dX12_next_298 : decode cX12_next 298 = .ok (.bipush 6, 2) := by decide +kernel
theorem dX12_next_300 : decode cX12_next 300 = .ok (.if_icmp .le 7, 3) := by decide +kernel
theorem dX12_next_303 : decode cX12_next 303 = .ok (.iconst 5, 1) := by decide +kernel
theorem dX12_next_304 : decode cX12_next 304 = .ok (.goto 4, 3) := by decide +kernel
theorem dX12_next_307 : decode cX12_next 307 = .ok (.iconst 2, 1) := by decide +kernel
theorem dX12_next_308 : decode cX12_next 308 = .ok (.putfield 297, 3) := by decide +kernel
theorem dX12_next_311 : decode cX12_next 311 = .ok (.goto 79, 3) := by decide +kernel
theorem dX12_next_314 : decode cX12_next 314 = .ok (.iload_n 1, 1) := by decide +kernel
theorem dX12_next_315 : decode cX12_next 315 = .ok (.bipush 123, 2) := by decide +kernel
theorem dX12_next_317 : decode cX12_next 317 = .ok (.if_icmp .eq 39, 3) := by decide +kernel
theorem dX12_next_320 : decode cX12_next 320 = .ok (.iload_n 1, 1) := by decide +kernel
theorem dX12_next_321 : decode cX12_next 321 = .ok (.bipush 125, 2) := by decide +kernel
theorem dX12_next_323 : decode cX12_next 323 = .ok (.if_icmp .eq 33, 3) := by decide +kernel
theorem dX12_next_326 : decode cX12_next 326 = .ok (.iload_n 1, 1) := by decide +kernel
theorem dX12_next_327 : decode cX12_next 327 = .ok (.bipush 59, 2) := by decide +kernel
theorem dX12_next_329 : decode cX12_next 329 = .ok (.if_icmp .eq 27, 3) := by decide +kernel
theorem dX12_next_332 : decode cX12_next 332 = .ok (.iload_n 1, 1) := by decide +kernel
theorem dX12_next_333 : decode cX12_next 333 = .ok (.bipush 58, 2) := by decide +kernel
theorem dX12_next_335 : decode cX12_next 335 = .ok (.if_icmp .eq 21, 3) := by decide +kernel
theorem dX12_next_338 : decode cX12_next 338 = .ok (.iload_n 1, 1) := by decide +kernel
theorem dX12_next_339 : decode cX12_next 339 = .ok (.bipush 46, 2) := by decide +kernel
theorem dX12_next_341 : decode cX12_next 341 = .ok (.if_icmp .eq 15, 3) := by decide +kernel
theorem dX12_next_344 : decode cX12_next 344 = .ok (.iload_n 1, 1) := by decide +kernel
theorem dX12_next_345 : decode cX12_next 345 = .ok (.bipush 44, 2) := by decide +kernel
theorem dX12_next_347 : decode cX12_next 347 = .ok (.if_icmp .eq 9, 3) := by decide +kernel
theorem dX12_next_350 : decode cX12_next 350 = .ok (.iload_n 1, 1) := by decide +kernel
theorem dX12_next_351 : decode cX12_next 351 = .ok (.bipush 62, 2) := by decide +kernel
theorem dX12_next_353 : decode cX12_next 353 = .ok (.if_icmp .ne 7, 3) := by decide +kernel
theorem dX12_next_356 : decode cX12_next 356 = .ok (.iconst 1, 1) := by decide +kernel
theorem dX12_next_357 : decode cX12_next 357 = .ok (.goto 4, 3) := by decide +kernel
theorem dX12_next_360 : decode cX12_next 360 = .ok (.iconst 0, 1) := by decide +kernel
theorem dX12_next_361 : decode cX12_next 361 = .ok (.istore_n 2, 1) := by decide +kernel
theorem dX12_next_362 : decode cX12_next 362 = .ok (.aload_n 0, 1) := by decide +kernel
theorem dX12_next_363 : decode cX12_next 363 = .ok (.iload_n 2, 1) := by decide +kernel
theorem dX12_next_364 : decode cX12_next 364 = .ok (.ifCond .eq 7, 3) := by decide +kernel
theorem dX12_next_367 : decode cX12_next 367 = .ok (.iconst 3, 1) := by decide +kernel
theorem dX12_next_368 : decode cX12_next 368 = .ok (.goto 4, 3) := by decide +kernel
theorem dX12_next_371 : decode cX12_next 371 = .ok (.iconst 5, 1) := by decide +kernel
theorem dX12_next_372 : decode cX12_next 372 = .ok (.putfield 297, 3) := by decide +kernel
theorem dX12_next_375 : decode cX12_next 375 = .ok (.aload_n 0, 1) := by decide +kernel
theorem dX12_next_376 : decode cX12_next 376 = .ok (.iload_n 1, 1) := by decide +kernel
theorem dX12_next_377 : decode cX12_next 377 = .ok (.putfield 316, 3) := by decide +kernel
theorem dX12_next_380 : decode cX12_next 380 = .ok (.aload_n 0, 1) := by decide +kernel
theorem dX12_next_381 : decode cX12_next 381 = .ok (.dup, 1) := by decide +kernel
theorem dX12_next_382 : decode cX12_next 382 = .ok (.getfield 284, 3) := by decide +kernel
theorem dX12_next_385 : decode cX12_next 385 = .ok (.iconst 1, 1) := by decide +kernel
theorem dX12_next_386 : decode cX12_next 386 = .ok (.iadd, 1) := by decide +kernel
theorem dX12_next_387 : decode cX12_next 387 = .ok (.putfield 284, 3) := by decide +kernel
theorem dX12_next_390 : decode cX12_next 390 = .ok (.return_, 1) := by decide +kernel
def wb_X12_next_39 (B0 : q_S → Nat → Prop) (S : q_S) (a0 : Nat) (Q : Option Value → q_S → Prop) : Prop := q_K S a0 = 13 ∧ (B0 (qs_I S 2405 a0 ((q_I S 2405 a0) + (1 : Int32))) a0)
set_option maxHeartbeats 4000000 in
set_option maxRecDepth 100000 in
theorem cb_X12_next_39 {p : Program} {l : Launch} {e : Env} {s : State} {m : MethodId} {args : Array Value} {below : List Frame} {meth : Method} {c : Code} {D : va_G} {cy : Nat → ClassId} {lo : Nat} {B0 : q_S → Nat → Prop} {S : q_S} {a0 : Nat} {Q : Option Value → q_S → Prop} {H : Heap} {locs : List Loc} {ls : Array Slot} (X : q_X p s m args meth c RX12 cX12_next 3 none D cy lo) (hB0 : ∀ (S : q_S) (a0 : Nat) (H : Heap) (locs : List Loc) (ls : Array Slot), B0 S a0 → q_Y D cy lo s S H locs → lv_has ls 3 [(0, .ref a0)] → W p l e ({ frames := 5, cells := 0, slots := 0, locals := 111 } : Room) s m args below meth c H locs 0 0 (MQ below (q_Q D cy lo Q) args s 0 0 (fun q => lo ≤ q)) (F0 m 0 ls [])) (Y : q_Y D cy lo s S H locs) (hl : lv_has ls 3 [(0, .ref a0)]) (h : wb_X12_next_39 B0 S a0 Q) : W p l e ({ frames := 5, cells := 0, slots := 0, locals := 111 } : Room) s m args below meth c H locs 0 0 (MQ below (q_Q D cy lo Q) args s 0 0 (fun q => lo ≤ q)) (F0 m 39 ls []) := by
  have hx := X.1
  have hb := X.2.1
  unfold wb_X12_next_39 at h
  refine lv_aload_n hx hb dX12_next_39 rfl (lv_at hl 0 rfl) ?_
  refine lv_dup hx hb dX12_next_40 rfl ?_
  obtain ⟨k1_, h⟩ := h
  refine q_getI X Y kX12 5 rfl fl_X12_284 k1_ dX12_next_41 ?_
  refine lv_iconst (v := 1) hx hb dX12_next_44 (by decide) ?_
  refine lv_iadd hx hb dX12_next_45 ?_
  refine q_putI X Y kX12 5 rfl fl_X12_284 k1_ .int rfl ⟨rfl, rfl⟩ rfl dX12_next_46 (fun H locs Y => ?_)
  refine lv_goto (tgt := 0) hx hb dX12_next_49 (by decide) ?_
  exact hB0 _ _ _ _ _ h Y (lv_sub hl [0] rfl)
def wb_X12_next_390  (S : q_S) (Q : Option Value → q_S → Prop) : Prop := Q none S
set_option maxHeartbeats 4000000 in
set_option maxRecDepth 100000 in
theorem cb_X12_next_390 {p : Program} {l : Launch} {e : Env} {s : State} {m : MethodId} {args : Array Value} {below : List Frame} {meth : Method} {c : Code} {D : va_G} {cy : Nat → ClassId} {lo : Nat}  {S : q_S} {Q : Option Value → q_S → Prop} {H : Heap} {locs : List Loc} {ls : Array Slot} (X : q_X p s m args meth c RX12 cX12_next 3 none D cy lo)  (Y : q_Y D cy lo s S H locs) (hl : lv_has ls 3 []) (h : wb_X12_next_390 S Q) : W p l e ({ frames := 5, cells := 0, slots := 0, locals := 111 } : Room) s m args below meth c H locs 0 0 (MQ below (q_Q D cy lo Q) args s 0 0 (fun q => lo ≤ q)) (F0 m 390 ls []) := by
  have hx := X.1
  have hb := X.2.1
  unfold wb_X12_next_390 at h
  exact q_vret X Y (Nat.le_refl _) (Nat.le_refl _) h dX12_next_390
def wb_X12_next_134 (B104 : q_S → Nat → Prop) (S : q_S) (a0 : Nat) (Q : Option Value → q_S → Prop) : Prop := q_K S a0 = 13 ∧ (B104 (qs_I S 2405 a0 ((q_I S 2405 a0) + (1 : Int32))) a0)
set_option maxHeartbeats 4000000 in
set_option maxRecDepth 100000 in
theorem cb_X12_next_134 {p : Program} {l : Launch} {e : Env} {s : State} {m : MethodId} {args : Array Value} {below : List Frame} {meth : Method} {c : Code} {D : va_G} {cy : Nat → ClassId} {lo : Nat} {B104 : q_S → Nat → Prop} {S : q_S} {a0 : Nat} {Q : Option Value → q_S → Prop} {H : Heap} {locs : List Loc} {ls : Array Slot} (X : q_X p s m args meth c RX12 cX12_next 3 none D cy lo) (hB104 : ∀ (S : q_S) (a0 : Nat) (H : Heap) (locs : List Loc) (ls : Array Slot), B104 S a0 → q_Y D cy lo s S H locs → lv_has ls 3 [(0, .ref a0)] → W p l e ({ frames := 5, cells := 0, slots := 0, locals := 111 } : Room) s m args below meth c H locs 0 0 (MQ below (q_Q D cy lo Q) args s 0 0 (fun q => lo ≤ q)) (F0 m 104 ls [])) (Y : q_Y D cy lo s S H locs) (hl : lv_has ls 3 [(0, .ref a0)]) (h : wb_X12_next_134 B104 S a0 Q) : W p l e ({ frames := 5, cells := 0, slots := 0, locals := 111 } : Room) s m args below meth c H locs 0 0 (MQ below (q_Q D cy lo Q) args s 0 0 (fun q => lo ≤ q)) (F0 m 134 ls []) := by
  have hx := X.1
  have hb := X.2.1
  unfold wb_X12_next_134 at h
  refine lv_aload_n hx hb dX12_next_134 rfl (lv_at hl 0 rfl) ?_
  refine lv_dup hx hb dX12_next_135 rfl ?_
  obtain ⟨k2_, h⟩ := h
  refine q_getI X Y kX12 5 rfl fl_X12_284 k2_ dX12_next_136 ?_
  refine lv_iconst (v := 1) hx hb dX12_next_139 (by decide) ?_
  refine lv_iadd hx hb dX12_next_140 ?_
  refine q_putI X Y kX12 5 rfl fl_X12_284 k2_ .int rfl ⟨rfl, rfl⟩ rfl dX12_next_141 (fun H locs Y => ?_)
  refine lv_goto (tgt := 104) hx hb dX12_next_144 (by decide) ?_
  exact hB104 _ _ _ _ _ h Y (lv_sub hl [0] rfl)
def wb_X12_next_197  (S : q_S) (as0 : Nat) (xs1 : Int32) (Q : Option Value → q_S → Prop) : Prop := q_K S as0 = 13 ∧ (wb_X12_next_390 (qs_I S 2406 as0 xs1) Q)
set_option maxHeartbeats 4000000 in
set_option maxRecDepth 100000 in
theorem cb_X12_next_197 {p : Program} {l : Launch} {e : Env} {s : State} {m : MethodId} {args : Array Value} {below : List Frame} {meth : Method} {c : Code} {D : va_G} {cy : Nat → ClassId} {lo : Nat}  {S : q_S} {as0 : Nat} {xs1 : Int32} {Q : Option Value → q_S → Prop} {H : Heap} {locs : List Loc} {ls : Array Slot} (X : q_X p s m args meth c RX12 cX12_next 3 none D cy lo)  (Y : q_Y D cy lo s S H locs) (hl : lv_has ls 3 []) (h : wb_X12_next_197 S as0 xs1 Q) : W p l e ({ frames := 5, cells := 0, slots := 0, locals := 111 } : Room) s m args below meth c H locs 0 0 (MQ below (q_Q D cy lo Q) args s 0 0 (fun q => lo ≤ q)) (F0 m 197 ls [.int xs1, .ref as0]) := by
  have hx := X.1
  have hb := X.2.1
  unfold wb_X12_next_197 at h
  obtain ⟨k3_, h⟩ := h
  refine q_putI X Y kX12 6 rfl fl_X12_297 k3_ .int rfl ⟨rfl, rfl⟩ rfl dX12_next_197 (fun H locs Y => ?_)
  refine lv_goto (tgt := 390) hx hb dX12_next_200 (by decide) ?_
  exact cb_X12_next_390 X Y (lv_sub hl [] rfl) h
def wb_X12_next_104 (B104 : q_S → Nat → Prop) (S : q_S) (a0 : Nat) (Q : Option Value → q_S → Prop) : Prop := q_K S a0 = 13 ∧ (wm_X12_byteAt S a0 (q_I S 2405 a0) (fun r5_ S6_ => ∃ x7_ : Int32, r5_ = some (.int x7_) ∧ (q_K S6_ a0 = 13 ∧ (wm_X12_isLetter S6_ a0 x7_ (fun r9_ S10_ => ∃ x11_ : Int32, r9_ = some (.int x11_) ∧ (((¬ x11_ = 0 → (wb_X12_next_134 B104 S10_ a0 Q)) ∧ (x11_ = 0 → (q_K S10_ a0 = 13 ∧ (wm_X12_byteAt S10_ a0 (q_I S10_ 2405 a0) (fun r14_ S15_ => ∃ x16_ : Int32, r14_ = some (.int x16_) ∧ (q_K S15_ a0 = 13 ∧ (wm_X12_isDigit S15_ a0 x16_ (fun r18_ S19_ => ∃ x20_ : Int32, r18_ = some (.int x20_) ∧ (((x20_ = 0 → (q_K S19_ a0 = 13 ∧ (∀ b23_ : Nat, q_K (qs_I S19_ 2410 a0 ((q_I S19_ 2405 a0) - (q_I S19_ 2409 a0))) b23_ = 30 → q_N (qs_I S19_ 2410 a0 ((q_I S19_ 2405 a0) - (q_I S19_ 2409 a0))) b23_ = 12 → (wm_X12_numberOf (qs_I S19_ 2410 a0 ((q_I S19_ 2405 a0) - (q_I S19_ 2409 a0))) a0 (some b23_) (fun r26_ S27_ => ∃ x28_ : Int32, r26_ = some (.int x28_) ∧ (q_K S27_ a0 = 13 ∧ ((((q_I (qs_I S27_ 2408 a0 x28_) 2410 a0) ≤ (12 : Int32) → ((((q_I (qs_I S27_ 2408 a0 x28_) 2408 a0) < 0 → (wb_X12_next_197 (qs_I S27_ 2408 a0 x28_) a0 (1 : Int32) Q)) ∧ (¬ (q_I (qs_I S27_ 2408 a0 x28_) 2408 a0) < 0 → (wb_X12_next_197 (qs_I S27_ 2408 a0 x28_) a0 (4 : Int32) Q))))) ∧ (¬ (q_I (qs_I S27_ 2408 a0 x28_) 2410 a0) ≤ (12 : Int32) → (wb_X12_next_197 (qs_I S27_ 2408 a0 x28_) a0 (5 : Int32) Q)))))))))) ∧ (¬ x20_ = 0 → (wb_X12_next_134 B104 S19_ a0 Q))))))))))))))))))
set_option maxHeartbeats 4000000 in
set_option maxRecDepth 100000 in
theorem cb_X12_next_104 {p : Program} {l : Launch} {e : Env} {s : State} {m : MethodId} {args : Array Value} {below : List Frame} {meth : Method} {c : Code} {D : va_G} {cy : Nat → ClassId} {lo : Nat} {B104 : q_S → Nat → Prop} {S : q_S} {a0 : Nat} {Q : Option Value → q_S → Prop} {H : Heap} {locs : List Loc} {ls : Array Slot} (X : q_X p s m args meth c RX12 cX12_next 3 none D cy lo) (hB104 : ∀ (S : q_S) (a0 : Nat) (H : Heap) (locs : List Loc) (ls : Array Slot), B104 S a0 → q_Y D cy lo s S H locs → lv_has ls 3 [(0, .ref a0)] → W p l e ({ frames := 5, cells := 0, slots := 0, locals := 111 } : Room) s m args below meth c H locs 0 0 (MQ below (q_Q D cy lo Q) args s 0 0 (fun q => lo ≤ q)) (F0 m 104 ls [])) (Y : q_Y D cy lo s S H locs) (hl : lv_has ls 3 [(0, .ref a0)]) (h : wb_X12_next_104 B104 S a0 Q) : W p l e ({ frames := 5, cells := 0, slots := 0, locals := 111 } : Room) s m args below meth c H locs 0 0 (MQ below (q_Q D cy lo Q) args s 0 0 (fun q => lo ≤ q)) (F0 m 104 ls []) := by
  have hx := X.1
  have hb := X.2.1
  unfold wb_X12_next_104 at h
  refine lv_aload_n hx hb dX12_next_104 rfl (lv_at hl 0 rfl) ?_
  refine lv_aload_n hx hb dX12_next_105 rfl (lv_at hl 0 rfl) ?_
  refine lv_aload_n hx hb dX12_next_106 rfl (lv_at hl 0 rfl) ?_
  obtain ⟨k4_, h⟩ := h
  refine q_getI X Y kX12 5 rfl fl_X12_284 k4_ dX12_next_107 ?_
  refine q_callV X Y hl (cm_X12_byteAt h) mt_X12_byteAt mi_X12_byteAt ml_X12_293 (ci := 12) rfl k4_ (by decide) rfl rfl (by first | exact Nat.le_of_ble_eq_true rfl | simp [q_cat, q_catI, q_catJ, q_catR]) ⟨Nat.le_of_ble_eq_true rfl, Nat.le_of_ble_eq_true rfl⟩ ⟨Nat.le_of_ble_eq_true rfl, Nat.le_of_ble_eq_true rfl⟩ dX12_next_110 (fun r5_ S6_ H locs hp Y => ?_)
  obtain ⟨x7_, rfl, h⟩ := hp
  refine W.eq (g2 := F0 m 113 ls [.int x7_, .ref a0]) rfl ?_
  obtain ⟨k8_, h⟩ := h
  refine q_callV X Y hl (cm_X12_isLetter h) mt_X12_isLetter mi_X12_isLetter ml_X12_300 (ci := 12) rfl k8_ (by decide) rfl rfl (by first | exact Nat.le_of_ble_eq_true rfl | simp [q_cat, q_catI, q_catJ, q_catR]) ⟨Nat.le_of_ble_eq_true rfl, Nat.le_of_ble_eq_true rfl⟩ ⟨Nat.le_of_ble_eq_true rfl, Nat.le_of_ble_eq_true rfl⟩ dX12_next_113 (fun r9_ S10_ H locs hp Y => ?_)
  obtain ⟨x11_, rfl, h⟩ := hp
  refine W.eq (g2 := F0 m 116 ls [.int x11_]) rfl ?_
  refine lv_if_ne (tgt := 134) hx hb dX12_next_116 (by decide) (fun c12_ => ?_) (fun c12_ => ?_)
  · replace h := h.1 c12_
    exact cb_X12_next_134 X hB104 Y (lv_sub hl [0] rfl) h
  · replace h := h.2 c12_
    refine lv_aload_n hx hb dX12_next_119 rfl (lv_at hl 0 rfl) ?_
    refine lv_aload_n hx hb dX12_next_120 rfl (lv_at hl 0 rfl) ?_
    refine lv_aload_n hx hb dX12_next_121 rfl (lv_at hl 0 rfl) ?_
    obtain ⟨k13_, h⟩ := h
    refine q_getI X Y kX12 5 rfl fl_X12_284 k13_ dX12_next_122 ?_
    refine q_callV X Y hl (cm_X12_byteAt h) mt_X12_byteAt mi_X12_byteAt ml_X12_293 (ci := 12) rfl k13_ (by decide) rfl rfl (by first | exact Nat.le_of_ble_eq_true rfl | simp [q_cat, q_catI, q_catJ, q_catR]) ⟨Nat.le_of_ble_eq_true rfl, Nat.le_of_ble_eq_true rfl⟩ ⟨Nat.le_of_ble_eq_true rfl, Nat.le_of_ble_eq_true rfl⟩ dX12_next_125 (fun r14_ S15_ H locs hp Y => ?_)
    obtain ⟨x16_, rfl, h⟩ := hp
    refine W.eq (g2 := F0 m 128 ls [.int x16_, .ref a0]) rfl ?_
    obtain ⟨k17_, h⟩ := h
    refine q_callV X Y hl (cm_X12_isDigit h) mt_X12_isDigit mi_X12_isDigit ml_X12_304 (ci := 12) rfl k17_ (by decide) rfl rfl (by first | exact Nat.le_of_ble_eq_true rfl | simp [q_cat, q_catI, q_catJ, q_catR]) ⟨Nat.le_of_ble_eq_true rfl, Nat.le_of_ble_eq_true rfl⟩ ⟨Nat.le_of_ble_eq_true rfl, Nat.le_of_ble_eq_true rfl⟩ dX12_next_128 (fun r18_ S19_ H locs hp Y => ?_)
    obtain ⟨x20_, rfl, h⟩ := hp
    refine W.eq (g2 := F0 m 131 ls [.int x20_]) rfl ?_
    refine lv_if_eq (tgt := 147) hx hb dX12_next_131 (by decide) (fun c21_ => ?_) (fun c21_ => ?_)
    · replace h := h.1 c21_
      refine lv_aload_n hx hb dX12_next_147 rfl (lv_at hl 0 rfl) ?_
      refine lv_aload_n hx hb dX12_next_148 rfl (lv_at hl 0 rfl) ?_
      obtain ⟨k22_, h⟩ := h
      refine q_getI X Y kX12 5 rfl fl_X12_284 k22_ dX12_next_149 ?_
      refine lv_aload_n hx hb dX12_next_152 rfl (lv_at hl 0 rfl) ?_
      refine q_getI X Y kX12 9 rfl fl_X12_290 k22_ dX12_next_153 ?_
      refine lv_isub hx hb dX12_next_156 ?_
      refine q_putI X Y kX12 10 rfl fl_X12_307 k22_ .int rfl ⟨rfl, rfl⟩ rfl dX12_next_157 (fun H locs Y => ?_)
      refine lv_aload_n hx hb dX12_next_160 rfl (lv_at hl 0 rfl) ?_
      refine lv_aload_n hx hb dX12_next_161 rfl (lv_at hl 0 rfl) ?_
      refine q_ldcsw X Y 12 rfl (by decide) dX12_next_162 (fun b23_ k24_ k25_ => ?_)
      replace h := h b23_ k24_ k25_
      refine q_callV X Y hl (cm_X12_numberOf h) mt_X12_numberOf mi_X12_numberOf ml_X12_312 (ci := 12) rfl k22_ (by decide) rfl rfl (by first | exact Nat.le_of_ble_eq_true rfl | simp [q_cat, q_catI, q_catJ, q_catR]) ⟨Nat.le_of_ble_eq_true rfl, Nat.le_of_ble_eq_true rfl⟩ ⟨Nat.le_of_ble_eq_true rfl, Nat.le_of_ble_eq_true rfl⟩ dX12_next_165 (fun r26_ S27_ H locs hp Y => ?_)
      obtain ⟨x28_, rfl, h⟩ := hp
      refine W.eq (g2 := F0 m 168 ls [.int x28_, .ref a0]) rfl ?_
      obtain ⟨k29_, h⟩ := h
      refine q_putI X Y kX12 8 rfl fl_X12_316 k29_ .int rfl ⟨rfl, rfl⟩ rfl dX12_next_168 (fun H locs Y => ?_)
      refine lv_aload_n hx hb dX12_next_171 rfl (lv_at hl 0 rfl) ?_
      refine lv_aload_n hx hb dX12_next_172 rfl (lv_at hl 0 rfl) ?_
      refine q_getI X Y kX12 10 rfl fl_X12_307 k29_ dX12_next_173 ?_
      refine lv_bipush (v := 12) hx hb dX12_next_176 (by decide) ?_
      refine lv_icmp_le (tgt := 185) hx hb dX12_next_178 (by decide) (fun c30_ => ?_) (fun c30_ => ?_)
      · replace h := h.1 c30_
        refine lv_aload_n hx hb dX12_next_185 rfl (lv_at hl 0 rfl) ?_
        refine q_getI X Y kX12 8 rfl fl_X12_316 k29_ dX12_next_186 ?_
        refine lv_if_lt (tgt := 196) hx hb dX12_next_189 (by decide) (fun c31_ => ?_) (fun c31_ => ?_)
        · replace h := h.1 c31_
          refine lv_iconst (v := 1) hx hb dX12_next_196 (by decide) ?_
          exact cb_X12_next_197 X Y (lv_sub hl [] rfl) h
        · replace h := h.2 c31_
          refine lv_iconst (v := 4) hx hb dX12_next_192 (by decide) ?_
          refine lv_goto (tgt := 197) hx hb dX12_next_193 (by decide) ?_
          exact cb_X12_next_197 X Y (lv_sub hl [] rfl) h
      · replace h := h.2 c30_
        refine lv_iconst (v := 5) hx hb dX12_next_181 (by decide) ?_
        refine lv_goto (tgt := 197) hx hb dX12_next_182 (by decide) ?_
        exact cb_X12_next_197 X Y (lv_sub hl [] rfl) h
    · replace h := h.2 c21_
      exact cb_X12_next_134 X hB104 Y (lv_sub hl [0] rfl) h
def wl_X12_next_104  : Nat → q_S → Nat → (Option Value → q_S → Prop) → Prop
  | 0, _, _, _ => False
  | n + 1, S, a0, Q => wb_X12_next_104 (fun S a0 => wl_X12_next_104 n S a0 Q) S a0 Q
set_option maxHeartbeats 4000000 in
set_option maxRecDepth 100000 in
theorem cl_X12_next_104 {p : Program} {l : Launch} {e : Env} {s : State} {m : MethodId} {args : Array Value} {below : List Frame} {meth : Method} {c : Code} {D : va_G} {cy : Nat → ClassId} {lo : Nat}  {Q : Option Value → q_S → Prop} (X : q_X p s m args meth c RX12 cX12_next 3 none D cy lo)  : ∀ (n : Nat) (S : q_S) (a0 : Nat) (H : Heap) (locs : List Loc) (ls : Array Slot), wl_X12_next_104 n S a0 Q → q_Y D cy lo s S H locs → lv_has ls 3 [(0, .ref a0)] → W p l e ({ frames := 5, cells := 0, slots := 0, locals := 111 } : Room) s m args below meth c H locs 0 0 (MQ below (q_Q D cy lo Q) args s 0 0 (fun q => lo ≤ q)) (F0 m 104 ls []) := by
  intro n
  induction n with
  | zero => intro S a0 H locs ls h; exact absurd h id
  | succ n ih => intro S a0 H locs ls h Y hl; exact cb_X12_next_104 X ih Y hl h
def wb_X12_next_272 (B216 : q_S → Nat → Prop) (S : q_S) (a0 : Nat) (as0 : Nat) (xs1 : Int32) (Q : Option Value → q_S → Prop) : Prop := q_K S as0 = 13 ∧ (q_K (qs_I S 2408 as0 xs1) a0 = 13 ∧ (∀ S34_ : q_S, S34_ = (qs_I (qs_I S 2408 as0 xs1) 2405 a0 ((q_I (qs_I S 2408 as0 xs1) 2405 a0) + (1 : Int32))) → (B216 S34_ a0)))
set_option maxHeartbeats 4000000 in
set_option maxRecDepth 100000 in
theorem cb_X12_next_272 {p : Program} {l : Launch} {e : Env} {s : State} {m : MethodId} {args : Array Value} {below : List Frame} {meth : Method} {c : Code} {D : va_G} {cy : Nat → ClassId} {lo : Nat} {B216 : q_S → Nat → Prop} {S : q_S} {a0 : Nat} {as0 : Nat} {xs1 : Int32} {Q : Option Value → q_S → Prop} {H : Heap} {locs : List Loc} {ls : Array Slot} (X : q_X p s m args meth c RX12 cX12_next 3 none D cy lo) (hB216 : ∀ (S : q_S) (a0 : Nat) (H : Heap) (locs : List Loc) (ls : Array Slot), B216 S a0 → q_Y D cy lo s S H locs → lv_has ls 3 [(0, .ref a0)] → W p l e ({ frames := 5, cells := 0, slots := 0, locals := 111 } : Room) s m args below meth c H locs 0 0 (MQ below (q_Q D cy lo Q) args s 0 0 (fun q => lo ≤ q)) (F0 m 216 ls [])) (Y : q_Y D cy lo s S H locs) (hl : lv_has ls 3 [(0, .ref a0)]) (h : wb_X12_next_272 B216 S a0 as0 xs1 Q) : W p l e ({ frames := 5, cells := 0, slots := 0, locals := 111 } : Room) s m args below meth c H locs 0 0 (MQ below (q_Q D cy lo Q) args s 0 0 (fun q => lo ≤ q)) (F0 m 272 ls [.int xs1, .ref as0]) := by
  have hx := X.1
  have hb := X.2.1
  unfold wb_X12_next_272 at h
  obtain ⟨k32_, h⟩ := h
  refine q_putI X Y kX12 8 rfl fl_X12_316 k32_ .int rfl ⟨rfl, rfl⟩ rfl dX12_next_272 (fun H locs Y => ?_)
  refine lv_aload_n hx hb dX12_next_275 rfl (lv_at hl 0 rfl) ?_
  refine lv_dup hx hb dX12_next_276 rfl ?_
  obtain ⟨k33_, h⟩ := h
  refine q_getI X Y kX12 5 rfl fl_X12_284 k33_ dX12_next_277 ?_
  refine lv_iconst (v := 1) hx hb dX12_next_280 (by decide) ?_
  refine lv_iadd hx hb dX12_next_281 ?_
  refine q_putI X Y kX12 5 rfl fl_X12_284 k33_ .int rfl ⟨rfl, rfl⟩ rfl dX12_next_282 (fun H locs Y => ?_)
  obtain ⟨S34_, gS34_⟩ : ∃ z : q_S, z = (qs_I (qs_I S 2408 as0 xs1) 2405 a0 ((q_I (qs_I S 2408 as0 xs1) 2405 a0) + (1 : Int32))) := ⟨_, rfl⟩
  replace Y : q_Y D cy lo s S34_ H locs := by rw [gS34_]; exact Y
  replace h := h S34_ gS34_
  replace k32_ : q_K S34_ as0 = 13 := by rw [gS34_]; exact k32_
  replace k33_ : q_K S34_ a0 = 13 := by rw [gS34_]; exact k33_
  refine lv_goto (tgt := 216) hx hb dX12_next_285 (by decide) ?_
  exact hB216 _ _ _ _ _ h Y (lv_sub hl [0] rfl)
def wb_X12_next_308  (S : q_S) (as0 : Nat) (xs1 : Int32) (Q : Option Value → q_S → Prop) : Prop := q_K S as0 = 13 ∧ (wb_X12_next_390 (qs_I S 2406 as0 xs1) Q)
set_option maxHeartbeats 4000000 in
set_option maxRecDepth 100000 in
theorem cb_X12_next_308 {p : Program} {l : Launch} {e : Env} {s : State} {m : MethodId} {args : Array Value} {below : List Frame} {meth : Method} {c : Code} {D : va_G} {cy : Nat → ClassId} {lo : Nat}  {S : q_S} {as0 : Nat} {xs1 : Int32} {Q : Option Value → q_S → Prop} {H : Heap} {locs : List Loc} {ls : Array Slot} (X : q_X p s m args meth c RX12 cX12_next 3 none D cy lo)  (Y : q_Y D cy lo s S H locs) (hl : lv_has ls 3 []) (h : wb_X12_next_308 S as0 xs1 Q) : W p l e ({ frames := 5, cells := 0, slots := 0, locals := 111 } : Room) s m args below meth c H locs 0 0 (MQ below (q_Q D cy lo Q) args s 0 0 (fun q => lo ≤ q)) (F0 m 308 ls [.int xs1, .ref as0]) := by
  have hx := X.1
  have hb := X.2.1
  unfold wb_X12_next_308 at h
  obtain ⟨k35_, h⟩ := h
  refine q_putI X Y kX12 6 rfl fl_X12_297 k35_ .int rfl ⟨rfl, rfl⟩ rfl dX12_next_308 (fun H locs Y => ?_)
  refine lv_goto (tgt := 390) hx hb dX12_next_311 (by decide) ?_
  exact cb_X12_next_390 X Y (lv_sub hl [] rfl) h
def wb_X12_next_216 (B216 : q_S → Nat → Prop) (S : q_S) (a0 : Nat) (Q : Option Value → q_S → Prop) : Prop := q_K S a0 = 13 ∧ (wm_X12_byteAt S a0 (q_I S 2405 a0) (fun r37_ S38_ => ∃ x39_ : Int32, r37_ = some (.int x39_) ∧ (q_K S38_ a0 = 13 ∧ (wm_X12_isDigit S38_ a0 x39_ (fun r41_ S42_ => ∃ x43_ : Int32, r41_ = some (.int x43_) ∧ (((x43_ = 0 → (q_K S42_ a0 = 13 ∧ (((((q_I S42_ 2405 a0) - (q_I S42_ 2409 a0)) ≤ (6 : Int32) → (wb_X12_next_308 S42_ a0 (2 : Int32) Q)) ∧ (¬ ((q_I S42_ 2405 a0) - (q_I S42_ 2409 a0)) ≤ (6 : Int32) → (wb_X12_next_308 S42_ a0 (5 : Int32) Q)))))) ∧ (¬ x43_ = 0 → (q_K S42_ a0 = 13 ∧ ((((6 : Int32) ≤ ((q_I S42_ 2405 a0) - (q_I S42_ 2409 a0)) → (wb_X12_next_272 B216 S42_ a0 a0 (q_I S42_ 2408 a0) Q)) ∧ (¬ (6 : Int32) ≤ ((q_I S42_ 2405 a0) - (q_I S42_ 2409 a0)) → (wm_X12_byteAt S42_ a0 (q_I S42_ 2405 a0) (fun r49_ S50_ => ∃ x51_ : Int32, r49_ = some (.int x51_) ∧ (wb_X12_next_272 B216 S50_ a0 a0 ((((10 : Int32) * (q_I S42_ 2408 a0)) + x51_) - (48 : Int32)) Q)))))))))))))))
set_option maxHeartbeats 4000000 in
set_option maxRecDepth 100000 in
theorem cb_X12_next_216 {p : Program} {l : Launch} {e : Env} {s : State} {m : MethodId} {args : Array Value} {below : List Frame} {meth : Method} {c : Code} {D : va_G} {cy : Nat → ClassId} {lo : Nat} {B216 : q_S → Nat → Prop} {S : q_S} {a0 : Nat} {Q : Option Value → q_S → Prop} {H : Heap} {locs : List Loc} {ls : Array Slot} (X : q_X p s m args meth c RX12 cX12_next 3 none D cy lo) (hB216 : ∀ (S : q_S) (a0 : Nat) (H : Heap) (locs : List Loc) (ls : Array Slot), B216 S a0 → q_Y D cy lo s S H locs → lv_has ls 3 [(0, .ref a0)] → W p l e ({ frames := 5, cells := 0, slots := 0, locals := 111 } : Room) s m args below meth c H locs 0 0 (MQ below (q_Q D cy lo Q) args s 0 0 (fun q => lo ≤ q)) (F0 m 216 ls [])) (Y : q_Y D cy lo s S H locs) (hl : lv_has ls 3 [(0, .ref a0)]) (h : wb_X12_next_216 B216 S a0 Q) : W p l e ({ frames := 5, cells := 0, slots := 0, locals := 111 } : Room) s m args below meth c H locs 0 0 (MQ below (q_Q D cy lo Q) args s 0 0 (fun q => lo ≤ q)) (F0 m 216 ls []) := by
  have hx := X.1
  have hb := X.2.1
  unfold wb_X12_next_216 at h
  refine lv_aload_n hx hb dX12_next_216 rfl (lv_at hl 0 rfl) ?_
  refine lv_aload_n hx hb dX12_next_217 rfl (lv_at hl 0 rfl) ?_
  refine lv_aload_n hx hb dX12_next_218 rfl (lv_at hl 0 rfl) ?_
  obtain ⟨k36_, h⟩ := h
  refine q_getI X Y kX12 5 rfl fl_X12_284 k36_ dX12_next_219 ?_
  refine q_callV X Y hl (cm_X12_byteAt h) mt_X12_byteAt mi_X12_byteAt ml_X12_293 (ci := 12) rfl k36_ (by decide) rfl rfl (by first | exact Nat.le_of_ble_eq_true rfl | simp [q_cat, q_catI, q_catJ, q_catR]) ⟨Nat.le_of_ble_eq_true rfl, Nat.le_of_ble_eq_true rfl⟩ ⟨Nat.le_of_ble_eq_true rfl, Nat.le_of_ble_eq_true rfl⟩ dX12_next_222 (fun r37_ S38_ H locs hp Y => ?_)
  obtain ⟨x39_, rfl, h⟩ := hp
  refine W.eq (g2 := F0 m 225 ls [.int x39_, .ref a0]) rfl ?_
  obtain ⟨k40_, h⟩ := h
  refine q_callV X Y hl (cm_X12_isDigit h) mt_X12_isDigit mi_X12_isDigit ml_X12_304 (ci := 12) rfl k40_ (by decide) rfl rfl (by first | exact Nat.le_of_ble_eq_true rfl | simp [q_cat, q_catI, q_catJ, q_catR]) ⟨Nat.le_of_ble_eq_true rfl, Nat.le_of_ble_eq_true rfl⟩ ⟨Nat.le_of_ble_eq_true rfl, Nat.le_of_ble_eq_true rfl⟩ dX12_next_225 (fun r41_ S42_ H locs hp Y => ?_)
  obtain ⟨x43_, rfl, h⟩ := hp
  refine W.eq (g2 := F0 m 228 ls [.int x43_]) rfl ?_
  refine lv_if_eq (tgt := 288) hx hb dX12_next_228 (by decide) (fun c44_ => ?_) (fun c44_ => ?_)
  · replace h := h.1 c44_
    refine lv_aload_n hx hb dX12_next_288 rfl (lv_at hl 0 rfl) ?_
    refine lv_aload_n hx hb dX12_next_289 rfl (lv_at hl 0 rfl) ?_
    obtain ⟨k45_, h⟩ := h
    refine q_getI X Y kX12 5 rfl fl_X12_284 k45_ dX12_next_290 ?_
    refine lv_aload_n hx hb dX12_next_293 rfl (lv_at hl 0 rfl) ?_
    refine q_getI X Y kX12 9 rfl fl_X12_290 k45_ dX12_next_294 ?_
    refine lv_isub hx hb dX12_next_297 ?_
    refine lv_bipush (v := 6) hx hb dX12_next_298 (by decide) ?_
    refine lv_icmp_le (tgt := 307) hx hb dX12_next_300 (by decide) (fun c46_ => ?_) (fun c46_ => ?_)
    · replace h := h.1 c46_
      refine lv_iconst (v := 2) hx hb dX12_next_307 (by decide) ?_
      exact cb_X12_next_308 X Y (lv_sub hl [] rfl) h
    · replace h := h.2 c46_
      refine lv_iconst (v := 5) hx hb dX12_next_303 (by decide) ?_
      refine lv_goto (tgt := 308) hx hb dX12_next_304 (by decide) ?_
      exact cb_X12_next_308 X Y (lv_sub hl [] rfl) h
  · replace h := h.2 c44_
    refine lv_aload_n hx hb dX12_next_231 rfl (lv_at hl 0 rfl) ?_
    refine lv_aload_n hx hb dX12_next_232 rfl (lv_at hl 0 rfl) ?_
    obtain ⟨k47_, h⟩ := h
    refine q_getI X Y kX12 5 rfl fl_X12_284 k47_ dX12_next_233 ?_
    refine lv_aload_n hx hb dX12_next_236 rfl (lv_at hl 0 rfl) ?_
    refine q_getI X Y kX12 9 rfl fl_X12_290 k47_ dX12_next_237 ?_
    refine lv_isub hx hb dX12_next_240 ?_
    refine lv_bipush (v := 6) hx hb dX12_next_241 (by decide) ?_
    refine lv_icmp_ge (tgt := 268) hx hb dX12_next_243 (by decide) (fun c48_ => ?_) (fun c48_ => ?_)
    · replace h := h.1 c48_
      refine lv_aload_n hx hb dX12_next_268 rfl (lv_at hl 0 rfl) ?_
      refine q_getI X Y kX12 8 rfl fl_X12_316 k47_ dX12_next_269 ?_
      exact cb_X12_next_272 X hB216 Y (lv_sub hl [0] rfl) h
    · replace h := h.2 c48_
      refine lv_bipush (v := 10) hx hb dX12_next_246 (by decide) ?_
      refine lv_aload_n hx hb dX12_next_248 rfl (lv_at hl 0 rfl) ?_
      refine q_getI X Y kX12 8 rfl fl_X12_316 k47_ dX12_next_249 ?_
      refine lv_imul hx hb dX12_next_252 ?_
      refine lv_aload_n hx hb dX12_next_253 rfl (lv_at hl 0 rfl) ?_
      refine lv_aload_n hx hb dX12_next_254 rfl (lv_at hl 0 rfl) ?_
      refine q_getI X Y kX12 5 rfl fl_X12_284 k47_ dX12_next_255 ?_
      refine q_callV X Y hl (cm_X12_byteAt h) mt_X12_byteAt mi_X12_byteAt ml_X12_293 (ci := 12) rfl k47_ (by decide) rfl rfl (by first | exact Nat.le_of_ble_eq_true rfl | simp [q_cat, q_catI, q_catJ, q_catR]) ⟨Nat.le_of_ble_eq_true rfl, Nat.le_of_ble_eq_true rfl⟩ ⟨Nat.le_of_ble_eq_true rfl, Nat.le_of_ble_eq_true rfl⟩ dX12_next_258 (fun r49_ S50_ H locs hp Y => ?_)
      obtain ⟨x51_, rfl, h⟩ := hp
      refine W.eq (g2 := F0 m 261 ls [.int x51_, .int ((10 : Int32) * (q_I S42_ 2408 a0)), .ref a0]) rfl ?_
      refine lv_iadd hx hb dX12_next_261 ?_
      refine lv_bipush (v := 48) hx hb dX12_next_262 (by decide) ?_
      refine lv_isub hx hb dX12_next_264 ?_
      refine lv_goto (tgt := 272) hx hb dX12_next_265 (by decide) ?_
      exact cb_X12_next_272 X hB216 Y (lv_sub hl [0] rfl) h
def wl_X12_next_216  : Nat → q_S → Nat → (Option Value → q_S → Prop) → Prop
  | 0, _, _, _ => False
  | n + 1, S, a0, Q => wb_X12_next_216 (fun S a0 => wl_X12_next_216 n S a0 Q) S a0 Q
set_option maxHeartbeats 4000000 in
set_option maxRecDepth 100000 in
theorem cl_X12_next_216 {p : Program} {l : Launch} {e : Env} {s : State} {m : MethodId} {args : Array Value} {below : List Frame} {meth : Method} {c : Code} {D : va_G} {cy : Nat → ClassId} {lo : Nat}  {Q : Option Value → q_S → Prop} (X : q_X p s m args meth c RX12 cX12_next 3 none D cy lo)  : ∀ (n : Nat) (S : q_S) (a0 : Nat) (H : Heap) (locs : List Loc) (ls : Array Slot), wl_X12_next_216 n S a0 Q → q_Y D cy lo s S H locs → lv_has ls 3 [(0, .ref a0)] → W p l e ({ frames := 5, cells := 0, slots := 0, locals := 111 } : Room) s m args below meth c H locs 0 0 (MQ below (q_Q D cy lo Q) args s 0 0 (fun q => lo ≤ q)) (F0 m 216 ls []) := by
  intro n
  induction n with
  | zero => intro S a0 H locs ls h; exact absurd h id
  | succ n ih => intro S a0 H locs ls h Y hl; exact cb_X12_next_216 X ih Y hl h
def wb_X12_next_372  (S : q_S) (a0 : Nat) (x1 : Int32) (as0 : Nat) (xs1 : Int32) (Q : Option Value → q_S → Prop) : Prop := q_K S as0 = 13 ∧ (q_K (qs_I S 2406 as0 xs1) a0 = 13 ∧ (∀ S54_ : q_S, S54_ = (qs_I (qs_I (qs_I S 2406 as0 xs1) 2408 a0 x1) 2405 a0 ((q_I (qs_I (qs_I S 2406 as0 xs1) 2408 a0 x1) 2405 a0) + (1 : Int32))) → (wb_X12_next_390 S54_ Q)))
set_option maxHeartbeats 4000000 in
set_option maxRecDepth 100000 in
theorem cb_X12_next_372 {p : Program} {l : Launch} {e : Env} {s : State} {m : MethodId} {args : Array Value} {below : List Frame} {meth : Method} {c : Code} {D : va_G} {cy : Nat → ClassId} {lo : Nat}  {S : q_S} {a0 : Nat} {x1 : Int32} {as0 : Nat} {xs1 : Int32} {Q : Option Value → q_S → Prop} {H : Heap} {locs : List Loc} {ls : Array Slot} (X : q_X p s m args meth c RX12 cX12_next 3 none D cy lo)  (Y : q_Y D cy lo s S H locs) (hl : lv_has ls 3 [(0, .ref a0), (1, .int x1)]) (h : wb_X12_next_372 S a0 x1 as0 xs1 Q) : W p l e ({ frames := 5, cells := 0, slots := 0, locals := 111 } : Room) s m args below meth c H locs 0 0 (MQ below (q_Q D cy lo Q) args s 0 0 (fun q => lo ≤ q)) (F0 m 372 ls [.int xs1, .ref as0]) := by
  have hx := X.1
  have hb := X.2.1
  unfold wb_X12_next_372 at h
  obtain ⟨k52_, h⟩ := h
  refine q_putI X Y kX12 6 rfl fl_X12_297 k52_ .int rfl ⟨rfl, rfl⟩ rfl dX12_next_372 (fun H locs Y => ?_)
  refine lv_aload_n hx hb dX12_next_375 rfl (lv_at hl 0 rfl) ?_
  refine lv_iload_n hx hb dX12_next_376 rfl (lv_at hl 1 rfl) ?_
  obtain ⟨k53_, h⟩ := h
  refine q_putI X Y kX12 8 rfl fl_X12_316 k53_ .int rfl ⟨rfl, rfl⟩ rfl dX12_next_377 (fun H locs Y => ?_)
  refine lv_aload_n hx hb dX12_next_380 rfl (lv_at hl 0 rfl) ?_
  refine lv_dup hx hb dX12_next_381 rfl ?_
  refine q_getI X Y kX12 5 rfl fl_X12_284 k53_ dX12_next_382 ?_
  refine lv_iconst (v := 1) hx hb dX12_next_385 (by decide) ?_
  refine lv_iadd hx hb dX12_next_386 ?_
  refine q_putI X Y kX12 5 rfl fl_X12_284 k53_ .int rfl ⟨rfl, rfl⟩ rfl dX12_next_387 (fun H locs Y => ?_)
  obtain ⟨S54_, gS54_⟩ : ∃ z : q_S, z = (qs_I (qs_I (qs_I S 2406 as0 xs1) 2408 a0 x1) 2405 a0 ((q_I (qs_I (qs_I S 2406 as0 xs1) 2408 a0 x1) 2405 a0) + (1 : Int32))) := ⟨_, rfl⟩
  replace Y : q_Y D cy lo s S54_ H locs := by rw [gS54_]; exact Y
  replace h := h S54_ gS54_
  replace k52_ : q_K S54_ as0 = 13 := by rw [gS54_]; exact k52_
  replace k53_ : q_K S54_ a0 = 13 := by rw [gS54_]; exact k53_
  exact cb_X12_next_390 X Y (lv_sub hl [] rfl) h
def wb_X12_next_361  (S : q_S) (a0 : Nat) (x1 : Int32) (xs0 : Int32) (Q : Option Value → q_S → Prop) : Prop := ((xs0 = 0 → (wb_X12_next_372 S a0 x1 a0 (5 : Int32) Q)) ∧ (¬ xs0 = 0 → (wb_X12_next_372 S a0 x1 a0 (3 : Int32) Q)))
set_option maxHeartbeats 4000000 in
set_option maxRecDepth 100000 in
theorem cb_X12_next_361 {p : Program} {l : Launch} {e : Env} {s : State} {m : MethodId} {args : Array Value} {below : List Frame} {meth : Method} {c : Code} {D : va_G} {cy : Nat → ClassId} {lo : Nat}  {S : q_S} {a0 : Nat} {x1 : Int32} {xs0 : Int32} {Q : Option Value → q_S → Prop} {H : Heap} {locs : List Loc} {ls : Array Slot} (X : q_X p s m args meth c RX12 cX12_next 3 none D cy lo)  (Y : q_Y D cy lo s S H locs) (hl : lv_has ls 3 [(0, .ref a0), (1, .int x1)]) (h : wb_X12_next_361 S a0 x1 xs0 Q) : W p l e ({ frames := 5, cells := 0, slots := 0, locals := 111 } : Room) s m args below meth c H locs 0 0 (MQ below (q_Q D cy lo Q) args s 0 0 (fun q => lo ≤ q)) (F0 m 361 ls [.int xs0]) := by
  have hx := X.1
  have hb := X.2.1
  unfold wb_X12_next_361 at h
  refine lv_istore_n (i := 2) (lv' := [(2, .int xs0), (0, .ref a0), (1, .int x1)]) hx hb dX12_next_361 rfl hl (by decide) (by first | rfl | simp [q_cat, q_catI, q_catJ, q_catR]) (fun ls hl => ?_)
  refine lv_aload_n hx hb dX12_next_362 rfl (lv_at hl 1 rfl) ?_
  refine lv_iload_n hx hb dX12_next_363 rfl (lv_at hl 0 rfl) ?_
  refine lv_if_eq (tgt := 371) hx hb dX12_next_364 (by decide) (fun c55_ => ?_) (fun c55_ => ?_)
  · replace h := h.1 c55_
    refine lv_iconst (v := 5) hx hb dX12_next_371 (by decide) ?_
    exact cb_X12_next_372 X Y (lv_sub hl [1, 2] rfl) h
  · replace h := h.2 c55_
    refine lv_iconst (v := 3) hx hb dX12_next_367 (by decide) ?_
    refine lv_goto (tgt := 372) hx hb dX12_next_368 (by decide) ?_
    exact cb_X12_next_372 X Y (lv_sub hl [1, 2] rfl) h
def wb_X12_next_356  (S : q_S) (a0 : Nat) (x1 : Int32) (Q : Option Value → q_S → Prop) : Prop := wb_X12_next_361 S a0 x1 (1 : Int32) Q
set_option maxHeartbeats 4000000 in
set_option maxRecDepth 100000 in
theorem cb_X12_next_356 {p : Program} {l : Launch} {e : Env} {s : State} {m : MethodId} {args : Array Value} {below : List Frame} {meth : Method} {c : Code} {D : va_G} {cy : Nat → ClassId} {lo : Nat}  {S : q_S} {a0 : Nat} {x1 : Int32} {Q : Option Value → q_S → Prop} {H : Heap} {locs : List Loc} {ls : Array Slot} (X : q_X p s m args meth c RX12 cX12_next 3 none D cy lo)  (Y : q_Y D cy lo s S H locs) (hl : lv_has ls 3 [(0, .ref a0), (1, .int x1)]) (h : wb_X12_next_356 S a0 x1 Q) : W p l e ({ frames := 5, cells := 0, slots := 0, locals := 111 } : Room) s m args below meth c H locs 0 0 (MQ below (q_Q D cy lo Q) args s 0 0 (fun q => lo ≤ q)) (F0 m 356 ls []) := by
  have hx := X.1
  have hb := X.2.1
  unfold wb_X12_next_356 at h
  refine lv_iconst (v := 1) hx hb dX12_next_356 (by decide) ?_
  refine lv_goto (tgt := 361) hx hb dX12_next_357 (by decide) ?_
  exact cb_X12_next_361 X Y (lv_sub hl [0, 1] rfl) h
def wb_X12_next_52  (S : q_S) (a0 : Nat) (Q : Option Value → q_S → Prop) : Prop := q_K S a0 = 13 ∧ (∀ S57_ : q_S, S57_ = (qs_I (qs_I S 2407 a0 (q_I S 2405 a0)) 2409 a0 (q_I (qs_I S 2407 a0 (q_I S 2405 a0)) 2405 a0)) → (wm_X12_byteAt S57_ a0 (q_I S57_ 2405 a0) (fun r58_ S59_ => ∃ x60_ : Int32, r58_ = some (.int x60_) ∧ (q_K S59_ a0 = 13 ∧ ((((q_I S59_ 2405 a0) < (q_I S59_ 2404 a0) → (wm_X12_isLetter S59_ a0 x60_ (fun r63_ S64_ => ∃ x65_ : Int32, r63_ = some (.int x65_) ∧ (((x65_ = 0 → (q_K S64_ a0 = 13 ∧ (wm_X12_isDigit S64_ a0 x60_ (fun r68_ S69_ => ∃ x70_ : Int32, r68_ = some (.int x70_) ∧ (((x70_ = 0 → (((x60_ = (123 : Int32) → (wb_X12_next_356 S69_ a0 x60_ Q)) ∧ (¬ x60_ = (123 : Int32) → (((x60_ = (125 : Int32) → (wb_X12_next_356 S69_ a0 x60_ Q)) ∧ (¬ x60_ = (125 : Int32) → (((x60_ = (59 : Int32) → (wb_X12_next_356 S69_ a0 x60_ Q)) ∧ (¬ x60_ = (59 : Int32) → (((x60_ = (58 : Int32) → (wb_X12_next_356 S69_ a0 x60_ Q)) ∧ (¬ x60_ = (58 : Int32) → (((x60_ = (46 : Int32) → (wb_X12_next_356 S69_ a0 x60_ Q)) ∧ (¬ x60_ = (46 : Int32) → (((x60_ = (44 : Int32) → (wb_X12_next_356 S69_ a0 x60_ Q)) ∧ (¬ x60_ = (44 : Int32) → (((¬ x60_ = (62 : Int32) → (wb_X12_next_361 S69_ a0 x60_ (0 : Int32) Q)) ∧ (x60_ = (62 : Int32) → (wb_X12_next_356 S69_ a0 x60_ Q))))))))))))))))))))))) ∧ (¬ x70_ = 0 → (q_K S69_ a0 = 13 ∧ (∃ n80_ : Nat, wl_X12_next_216 n80_ (qs_I S69_ 2408 a0 (0 : Int32)) a0 Q))))))))) ∧ (¬ x65_ = 0 → (∃ n81_ : Nat, wl_X12_next_104 n81_ S64_ a0 Q))))))) ∧ (¬ (q_I S59_ 2405 a0) < (q_I S59_ 2404 a0) → (wb_X12_next_390 (qs_I S59_ 2406 a0 (0 : Int32)) Q))))))))
set_option maxHeartbeats 4000000 in
set_option maxRecDepth 100000 in
theorem cb_X12_next_52 {p : Program} {l : Launch} {e : Env} {s : State} {m : MethodId} {args : Array Value} {below : List Frame} {meth : Method} {c : Code} {D : va_G} {cy : Nat → ClassId} {lo : Nat}  {S : q_S} {a0 : Nat} {Q : Option Value → q_S → Prop} {H : Heap} {locs : List Loc} {ls : Array Slot} (X : q_X p s m args meth c RX12 cX12_next 3 none D cy lo)  (Y : q_Y D cy lo s S H locs) (hl : lv_has ls 3 [(0, .ref a0)]) (h : wb_X12_next_52 S a0 Q) : W p l e ({ frames := 5, cells := 0, slots := 0, locals := 111 } : Room) s m args below meth c H locs 0 0 (MQ below (q_Q D cy lo Q) args s 0 0 (fun q => lo ≤ q)) (F0 m 52 ls []) := by
  have hx := X.1
  have hb := X.2.1
  unfold wb_X12_next_52 at h
  refine lv_aload_n hx hb dX12_next_52 rfl (lv_at hl 0 rfl) ?_
  refine lv_aload_n hx hb dX12_next_53 rfl (lv_at hl 0 rfl) ?_
  obtain ⟨k56_, h⟩ := h
  refine q_getI X Y kX12 5 rfl fl_X12_284 k56_ dX12_next_54 ?_
  refine q_putI X Y kX12 7 rfl fl_X12_287 k56_ .int rfl ⟨rfl, rfl⟩ rfl dX12_next_57 (fun H locs Y => ?_)
  refine lv_aload_n hx hb dX12_next_60 rfl (lv_at hl 0 rfl) ?_
  refine lv_aload_n hx hb dX12_next_61 rfl (lv_at hl 0 rfl) ?_
  refine q_getI X Y kX12 5 rfl fl_X12_284 k56_ dX12_next_62 ?_
  refine q_putI X Y kX12 9 rfl fl_X12_290 k56_ .int rfl ⟨rfl, rfl⟩ rfl dX12_next_65 (fun H locs Y => ?_)
  obtain ⟨S57_, gS57_⟩ : ∃ z : q_S, z = (qs_I (qs_I S 2407 a0 (q_I S 2405 a0)) 2409 a0 (q_I (qs_I S 2407 a0 (q_I S 2405 a0)) 2405 a0)) := ⟨_, rfl⟩
  replace Y : q_Y D cy lo s S57_ H locs := by rw [gS57_]; exact Y
  replace h := h S57_ gS57_
  replace k56_ : q_K S57_ a0 = 13 := by rw [gS57_]; exact k56_
  refine lv_aload_n hx hb dX12_next_68 rfl (lv_at hl 0 rfl) ?_
  refine lv_aload_n hx hb dX12_next_69 rfl (lv_at hl 0 rfl) ?_
  refine q_getI X Y kX12 5 rfl fl_X12_284 k56_ dX12_next_70 ?_
  refine q_callV X Y hl (cm_X12_byteAt h) mt_X12_byteAt mi_X12_byteAt ml_X12_293 (ci := 12) rfl k56_ (by decide) rfl rfl (by first | exact Nat.le_of_ble_eq_true rfl | simp [q_cat, q_catI, q_catJ, q_catR]) ⟨Nat.le_of_ble_eq_true rfl, Nat.le_of_ble_eq_true rfl⟩ ⟨Nat.le_of_ble_eq_true rfl, Nat.le_of_ble_eq_true rfl⟩ dX12_next_73 (fun r58_ S59_ H locs hp Y => ?_)
  obtain ⟨x60_, rfl, h⟩ := hp
  refine W.eq (g2 := F0 m 76 ls [.int x60_]) rfl ?_
  refine lv_istore_n (i := 1) (lv' := [(1, .int x60_), (0, .ref a0)]) hx hb dX12_next_76 rfl hl (by decide) (by first | rfl | simp [q_cat, q_catI, q_catJ, q_catR]) (fun ls hl => ?_)
  refine lv_aload_n hx hb dX12_next_77 rfl (lv_at hl 1 rfl) ?_
  obtain ⟨k61_, h⟩ := h
  refine q_getI X Y kX12 5 rfl fl_X12_284 k61_ dX12_next_78 ?_
  refine lv_aload_n hx hb dX12_next_81 rfl (lv_at hl 1 rfl) ?_
  refine q_getI X Y kX12 4 rfl fl_X12_281 k61_ dX12_next_82 ?_
  refine lv_icmp_lt (tgt := 96) hx hb dX12_next_85 (by decide) (fun c62_ => ?_) (fun c62_ => ?_)
  · replace h := h.1 c62_
    refine lv_aload_n hx hb dX12_next_96 rfl (lv_at hl 1 rfl) ?_
    refine lv_iload_n hx hb dX12_next_97 rfl (lv_at hl 0 rfl) ?_
    refine q_callV X Y hl (cm_X12_isLetter h) mt_X12_isLetter mi_X12_isLetter ml_X12_300 (ci := 12) rfl k61_ (by decide) rfl rfl (by first | exact Nat.le_of_ble_eq_true rfl | simp [q_cat, q_catI, q_catJ, q_catR]) ⟨Nat.le_of_ble_eq_true rfl, Nat.le_of_ble_eq_true rfl⟩ ⟨Nat.le_of_ble_eq_true rfl, Nat.le_of_ble_eq_true rfl⟩ dX12_next_98 (fun r63_ S64_ H locs hp Y => ?_)
    obtain ⟨x65_, rfl, h⟩ := hp
    refine W.eq (g2 := F0 m 101 ls [.int x65_]) rfl ?_
    refine lv_if_eq (tgt := 203) hx hb dX12_next_101 (by decide) (fun c66_ => ?_) (fun c66_ => ?_)
    · replace h := h.1 c66_
      refine lv_aload_n hx hb dX12_next_203 rfl (lv_at hl 1 rfl) ?_
      refine lv_iload_n hx hb dX12_next_204 rfl (lv_at hl 0 rfl) ?_
      obtain ⟨k67_, h⟩ := h
      refine q_callV X Y hl (cm_X12_isDigit h) mt_X12_isDigit mi_X12_isDigit ml_X12_304 (ci := 12) rfl k67_ (by decide) rfl rfl (by first | exact Nat.le_of_ble_eq_true rfl | simp [q_cat, q_catI, q_catJ, q_catR]) ⟨Nat.le_of_ble_eq_true rfl, Nat.le_of_ble_eq_true rfl⟩ ⟨Nat.le_of_ble_eq_true rfl, Nat.le_of_ble_eq_true rfl⟩ dX12_next_205 (fun r68_ S69_ H locs hp Y => ?_)
      obtain ⟨x70_, rfl, h⟩ := hp
      refine W.eq (g2 := F0 m 208 ls [.int x70_]) rfl ?_
      refine lv_if_eq (tgt := 314) hx hb dX12_next_208 (by decide) (fun c71_ => ?_) (fun c71_ => ?_)
      · replace h := h.1 c71_
        refine lv_iload_n hx hb dX12_next_314 rfl (lv_at hl 0 rfl) ?_
        refine lv_bipush (v := 123) hx hb dX12_next_315 (by decide) ?_
        refine lv_icmp_eq (tgt := 356) hx hb dX12_next_317 (by decide) (fun c72_ => ?_) (fun c72_ => ?_)
        · replace h := h.1 c72_
          exact cb_X12_next_356 X Y (lv_sub hl [1, 0] rfl) h
        · replace h := h.2 c72_
          refine lv_iload_n hx hb dX12_next_320 rfl (lv_at hl 0 rfl) ?_
          refine lv_bipush (v := 125) hx hb dX12_next_321 (by decide) ?_
          refine lv_icmp_eq (tgt := 356) hx hb dX12_next_323 (by decide) (fun c73_ => ?_) (fun c73_ => ?_)
          · replace h := h.1 c73_
            exact cb_X12_next_356 X Y (lv_sub hl [1, 0] rfl) h
          · replace h := h.2 c73_
            refine lv_iload_n hx hb dX12_next_326 rfl (lv_at hl 0 rfl) ?_
            refine lv_bipush (v := 59) hx hb dX12_next_327 (by decide) ?_
            refine lv_icmp_eq (tgt := 356) hx hb dX12_next_329 (by decide) (fun c74_ => ?_) (fun c74_ => ?_)
            · replace h := h.1 c74_
              exact cb_X12_next_356 X Y (lv_sub hl [1, 0] rfl) h
            · replace h := h.2 c74_
              refine lv_iload_n hx hb dX12_next_332 rfl (lv_at hl 0 rfl) ?_
              refine lv_bipush (v := 58) hx hb dX12_next_333 (by decide) ?_
              refine lv_icmp_eq (tgt := 356) hx hb dX12_next_335 (by decide) (fun c75_ => ?_) (fun c75_ => ?_)
              · replace h := h.1 c75_
                exact cb_X12_next_356 X Y (lv_sub hl [1, 0] rfl) h
              · replace h := h.2 c75_
                refine lv_iload_n hx hb dX12_next_338 rfl (lv_at hl 0 rfl) ?_
                refine lv_bipush (v := 46) hx hb dX12_next_339 (by decide) ?_
                refine lv_icmp_eq (tgt := 356) hx hb dX12_next_341 (by decide) (fun c76_ => ?_) (fun c76_ => ?_)
                · replace h := h.1 c76_
                  exact cb_X12_next_356 X Y (lv_sub hl [1, 0] rfl) h
                · replace h := h.2 c76_
                  refine lv_iload_n hx hb dX12_next_344 rfl (lv_at hl 0 rfl) ?_
                  refine lv_bipush (v := 44) hx hb dX12_next_345 (by decide) ?_
                  refine lv_icmp_eq (tgt := 356) hx hb dX12_next_347 (by decide) (fun c77_ => ?_) (fun c77_ => ?_)
                  · replace h := h.1 c77_
                    exact cb_X12_next_356 X Y (lv_sub hl [1, 0] rfl) h
                  · replace h := h.2 c77_
                    refine lv_iload_n hx hb dX12_next_350 rfl (lv_at hl 0 rfl) ?_
                    refine lv_bipush (v := 62) hx hb dX12_next_351 (by decide) ?_
                    refine lv_icmp_ne (tgt := 360) hx hb dX12_next_353 (by decide) (fun c78_ => ?_) (fun c78_ => ?_)
                    · replace h := h.1 c78_
                      refine lv_iconst (v := 0) hx hb dX12_next_360 (by decide) ?_
                      exact cb_X12_next_361 X Y (lv_sub hl [1, 0] rfl) h
                    · replace h := h.2 c78_
                      exact cb_X12_next_356 X Y (lv_sub hl [1, 0] rfl) h
      · replace h := h.2 c71_
        refine lv_aload_n hx hb dX12_next_211 rfl (lv_at hl 1 rfl) ?_
        refine lv_iconst (v := 0) hx hb dX12_next_212 (by decide) ?_
        obtain ⟨k79_, h⟩ := h
        refine q_putI X Y kX12 8 rfl fl_X12_316 k79_ .int rfl ⟨rfl, rfl⟩ rfl dX12_next_213 (fun H locs Y => ?_)
        obtain ⟨n80_, h⟩ := h
        exact cl_X12_next_216 X n80_ _ _ _ _ _ h Y (lv_sub hl [1] rfl)
    · replace h := h.2 c66_
      obtain ⟨n81_, h⟩ := h
      exact cl_X12_next_104 X n81_ _ _ _ _ _ h Y (lv_sub hl [1] rfl)
  · replace h := h.2 c62_
    refine lv_aload_n hx hb dX12_next_88 rfl (lv_at hl 1 rfl) ?_
    refine lv_iconst (v := 0) hx hb dX12_next_89 (by decide) ?_
    refine q_putI X Y kX12 6 rfl fl_X12_297 k61_ .int rfl ⟨rfl, rfl⟩ rfl dX12_next_90 (fun H locs Y => ?_)
    refine lv_goto (tgt := 390) hx hb dX12_next_93 (by decide) ?_
    exact cb_X12_next_390 X Y (lv_sub hl [] rfl) h
def wb_X12_next_0 (B0 : q_S → Nat → Prop) (S : q_S) (a0 : Nat) (Q : Option Value → q_S → Prop) : Prop := q_K S a0 = 13 ∧ ((((q_I S 2404 a0) ≤ (q_I S 2405 a0) → (wb_X12_next_52 S a0 Q)) ∧ (¬ (q_I S 2404 a0) ≤ (q_I S 2405 a0) → (∃ a84_ : Nat, (q_P S 2402 a0) = some a84_ ∧ (q_K S a84_ = 20 ∧ (vp_in (q_I S 2405 a0) (q_N S a84_) ∧ ((((q_A S a84_ (q_I S 2405 a0).toNatClampNeg) = (32 : Int32) → (wb_X12_next_39 B0 S a0 Q)) ∧ (¬ (q_A S a84_ (q_I S 2405 a0).toNatClampNeg) = (32 : Int32) → (vp_in (q_I S 2405 a0) (q_N S a84_) ∧ (((¬ (q_A S a84_ (q_I S 2405 a0).toNatClampNeg) = (10 : Int32) → (wb_X12_next_52 S a0 Q)) ∧ ((q_A S a84_ (q_I S 2405 a0).toNatClampNeg) = (10 : Int32) → (wb_X12_next_39 B0 S a0 Q))))))))))))))
set_option maxHeartbeats 4000000 in
set_option maxRecDepth 100000 in
theorem cb_X12_next_0 {p : Program} {l : Launch} {e : Env} {s : State} {m : MethodId} {args : Array Value} {below : List Frame} {meth : Method} {c : Code} {D : va_G} {cy : Nat → ClassId} {lo : Nat} {B0 : q_S → Nat → Prop} {S : q_S} {a0 : Nat} {Q : Option Value → q_S → Prop} {H : Heap} {locs : List Loc} {ls : Array Slot} (X : q_X p s m args meth c RX12 cX12_next 3 none D cy lo) (hB0 : ∀ (S : q_S) (a0 : Nat) (H : Heap) (locs : List Loc) (ls : Array Slot), B0 S a0 → q_Y D cy lo s S H locs → lv_has ls 3 [(0, .ref a0)] → W p l e ({ frames := 5, cells := 0, slots := 0, locals := 111 } : Room) s m args below meth c H locs 0 0 (MQ below (q_Q D cy lo Q) args s 0 0 (fun q => lo ≤ q)) (F0 m 0 ls [])) (Y : q_Y D cy lo s S H locs) (hl : lv_has ls 3 [(0, .ref a0)]) (h : wb_X12_next_0 B0 S a0 Q) : W p l e ({ frames := 5, cells := 0, slots := 0, locals := 111 } : Room) s m args below meth c H locs 0 0 (MQ below (q_Q D cy lo Q) args s 0 0 (fun q => lo ≤ q)) (F0 m 0 ls []) := by
  have hx := X.1
  have hb := X.2.1
  unfold wb_X12_next_0 at h
  refine lv_aload_n hx hb dX12_next_0 rfl (lv_at hl 0 rfl) ?_
  obtain ⟨k82_, h⟩ := h
  refine q_getI X Y kX12 5 rfl fl_X12_284 k82_ dX12_next_1 ?_
  refine lv_aload_n hx hb dX12_next_4 rfl (lv_at hl 0 rfl) ?_
  refine q_getI X Y kX12 4 rfl fl_X12_281 k82_ dX12_next_5 ?_
  refine lv_icmp_ge (tgt := 52) hx hb dX12_next_8 (by decide) (fun c83_ => ?_) (fun c83_ => ?_)
  · replace h := h.1 c83_
    exact cb_X12_next_52 X Y (lv_sub hl [0] rfl) h
  · replace h := h.2 c83_
    refine lv_aload_n hx hb dX12_next_11 rfl (lv_at hl 0 rfl) ?_
    refine q_getP X Y kX12 2 rfl fl_X12_13 k82_ rfl dX12_next_12 ?_
    refine lv_aload_n hx hb dX12_next_15 rfl (lv_at hl 0 rfl) ?_
    refine q_getI X Y kX12 5 rfl fl_X12_284 k82_ dX12_next_16 ?_
    obtain ⟨a84_, e85_, h⟩ := h
    refine q_nn [.int (q_I S 2405 a0)] e85_ ?_
    obtain ⟨k86_, h⟩ := h
    obtain ⟨i87_, h⟩ := h
    refine q_bld X Y k86_ i87_ dX12_next_19 ?_
    refine lv_bipush (v := 32) hx hb dX12_next_20 (by decide) ?_
    refine lv_icmp_eq (tgt := 39) hx hb dX12_next_22 (by decide) (fun c88_ => ?_) (fun c88_ => ?_)
    · replace h := h.1 c88_
      exact cb_X12_next_39 X hB0 Y (lv_sub hl [0] rfl) h
    · replace h := h.2 c88_
      refine lv_aload_n hx hb dX12_next_25 rfl (lv_at hl 0 rfl) ?_
      refine q_getR X Y kX12 2 rfl fl_X12_13 k82_ e85_ dX12_next_26 ?_
      refine lv_aload_n hx hb dX12_next_29 rfl (lv_at hl 0 rfl) ?_
      refine q_getI X Y kX12 5 rfl fl_X12_284 k82_ dX12_next_30 ?_
      obtain ⟨i89_, h⟩ := h
      refine q_bld X Y k86_ i89_ dX12_next_33 ?_
      refine lv_bipush (v := 10) hx hb dX12_next_34 (by decide) ?_
      refine lv_icmp_ne (tgt := 52) hx hb dX12_next_36 (by decide) (fun c90_ => ?_) (fun c90_ => ?_)
      · replace h := h.1 c90_
        exact cb_X12_next_52 X Y (lv_sub hl [0] rfl) h
      · replace h := h.2 c90_
        exact cb_X12_next_39 X hB0 Y (lv_sub hl [0] rfl) h
def wl_X12_next_0  : Nat → q_S → Nat → (Option Value → q_S → Prop) → Prop
  | 0, _, _, _ => False
  | n + 1, S, a0, Q => wb_X12_next_0 (fun S a0 => wl_X12_next_0 n S a0 Q) S a0 Q
set_option maxHeartbeats 4000000 in
set_option maxRecDepth 100000 in
theorem cl_X12_next_0 {p : Program} {l : Launch} {e : Env} {s : State} {m : MethodId} {args : Array Value} {below : List Frame} {meth : Method} {c : Code} {D : va_G} {cy : Nat → ClassId} {lo : Nat}  {Q : Option Value → q_S → Prop} (X : q_X p s m args meth c RX12 cX12_next 3 none D cy lo)  : ∀ (n : Nat) (S : q_S) (a0 : Nat) (H : Heap) (locs : List Loc) (ls : Array Slot), wl_X12_next_0 n S a0 Q → q_Y D cy lo s S H locs → lv_has ls 3 [(0, .ref a0)] → W p l e ({ frames := 5, cells := 0, slots := 0, locals := 111 } : Room) s m args below meth c H locs 0 0 (MQ below (q_Q D cy lo Q) args s 0 0 (fun q => lo ≤ q)) (F0 m 0 ls []) := by
  intro n
  induction n with
  | zero => intro S a0 H locs ls h; exact absurd h id
  | succ n ih => intro S a0 H locs ls h Y hl; exact cb_X12_next_0 X ih Y hl h
def wm_X12_next (S : q_S) (a0 : Nat) (Q : Option Value → q_S → Prop) : Prop := ∃ n91_ : Nat, wl_X12_next_0 n91_ S a0 Q
set_option maxHeartbeats 4000000 in
set_option maxRecDepth 100000 in
theorem cm_X12_next {l : Launch} {D : va_G} {cy : Nat → ClassId} {lo : Nat} {S : q_S} {a0 : Nat} {Q : Option Value → q_S → Prop} (h : wm_X12_next S a0 Q) : q_Met l D cy lo yX12_next cX12_next 3 none 5 111 0 0 [.ref a0] S Q := by
  refine q_body (by decide) (by first | exact Nat.le_of_ble_eq_true rfl | simp [lg_sl, q_cat, q_catI, q_catJ, q_catR]) ?_
  intro p e s m below meth c ls X hnm Y hl
  have hx := X.1
  have hb := X.2.1
  have hl : lv_has ls 3 [(0, .ref a0)] := by first | exact hl | simpa [lv_args, q_cat, q_catI, q_catJ, q_catR] using hl
  generalize hargs : ([.ref a0] : List Value).toArray = args at X ⊢
  unfold wm_X12_next at h
  obtain ⟨n91_, h⟩ := h
  exact cl_X12_next_0 X n91_ _ _ _ _ _ h Y (lv_sub hl [0] rfl)
-- X12_fail
theorem fl_X12_328 : Cond.fieldLink RX12 328 "PartitionWorksModel" "fault" "I" ∈ q_G := q_tb (i := 1745) (by decide +kernel) (by decide +kernel)
theorem dX12_fail_0 : decode cX12_fail 0 = .ok (.aload_n 0, 1) := by decide +kernel
theorem dX12_fail_1 : decode cX12_fail 1 = .ok (.getfield 328, 3) := by decide +kernel
theorem dX12_fail_4 : decode cX12_fail 4 = .ok (.ifCond .ne 13, 3) := by decide +kernel
theorem dX12_fail_7 : decode cX12_fail 7 = .ok (.aload_n 0, 1) := by decide +kernel
theorem dX12_fail_8 : decode cX12_fail 8 = .ok (.iload_n 1, 1) := by decide +kernel
theorem dX12_fail_9 : decode cX12_fail 9 = .ok (.putfield 328, 3) := by decide +kernel
theorem dX12_fail_12 : decode cX12_fail 12 = .ok (.aload_n 0, 1) := by decide +kernel
theorem dX12_fail_13 : decode cX12_fail 13 = .ok (.iload_n 2, 1) := by decide +kernel
theorem dX12_fail_14 : decode cX12_fail 14 = .ok (.putfield 16, 3) := by decide +kernel
theorem dX12_fail_17 : decode cX12_fail 17 = .ok (.iconst 0, 1) := by decide +kernel
theorem dX12_fail_18 : decode cX12_fail 18 = .ok (.ireturn, 1) := by decide +kernel
def wb_X12_fail_17  (S : q_S) (Q : Option Value → q_S → Prop) : Prop := Q (some (.int (0 : Int32))) S
set_option maxHeartbeats 4000000 in
set_option maxRecDepth 100000 in
theorem cb_X12_fail_17 {p : Program} {l : Launch} {e : Env} {s : State} {m : MethodId} {args : Array Value} {below : List Frame} {meth : Method} {c : Code} {D : va_G} {cy : Nat → ClassId} {lo : Nat}  {S : q_S} {Q : Option Value → q_S → Prop} {H : Heap} {locs : List Loc} {ls : Array Slot} (X : q_X p s m args meth c RX12 cX12_fail 3 (some .boolean) D cy lo)  (Y : q_Y D cy lo s S H locs) (hl : lv_has ls 3 []) (h : wb_X12_fail_17 S Q) : W p l e ({ frames := 0, cells := 0, slots := 0, locals := 0 } : Room) s m args below meth c H locs 0 0 (MQ below (q_Q D cy lo Q) args s 0 0 (fun q => lo ≤ q)) (F0 m 17 ls []) := by
  have hx := X.1
  have hb := X.2.1
  unfold wb_X12_fail_17 at h
  refine lv_iconst (v := 0) hx hb dX12_fail_17 (by decide) ?_
  exact q_iret X Y rfl (Nat.le_refl _) (Nat.le_refl _) h dX12_fail_18
def wm_X12_fail (S : q_S) (a0 : Nat) (x1 : Int32) (x2 : Int32) (Q : Option Value → q_S → Prop) : Prop := q_K S a0 = 13 ∧ (((¬ (q_I S 2411 a0) = 0 → (wb_X12_fail_17 S Q)) ∧ ((q_I S 2411 a0) = 0 → (wb_X12_fail_17 (qs_I (qs_I S 2411 a0 x1) 2412 a0 x2) Q))))
set_option maxHeartbeats 4000000 in
set_option maxRecDepth 100000 in
theorem cm_X12_fail {l : Launch} {D : va_G} {cy : Nat → ClassId} {lo : Nat} {S : q_S} {a0 : Nat} {x1 : Int32} {x2 : Int32} {Q : Option Value → q_S → Prop} (h : wm_X12_fail S a0 x1 x2 Q) : q_Met l D cy lo yX12_fail cX12_fail 3 (some .boolean) 0 0 0 0 [.ref a0, .int x1, .int x2] S Q := by
  refine q_body (by decide) (by first | exact Nat.le_of_ble_eq_true rfl | simp [lg_sl, q_cat, q_catI, q_catJ, q_catR]) ?_
  intro p e s m below meth c ls X hnm Y hl
  have hx := X.1
  have hb := X.2.1
  have hl : lv_has ls 3 [(0, .ref a0), (1, .int x1), (2, .int x2)] := by first | exact hl | simpa [lv_args, q_cat, q_catI, q_catJ, q_catR] using hl
  generalize hargs : ([.ref a0, .int x1, .int x2] : List Value).toArray = args at X ⊢
  unfold wm_X12_fail at h
  refine lv_aload_n hx hb dX12_fail_0 rfl (lv_at hl 0 rfl) ?_
  obtain ⟨k1_, h⟩ := h
  refine q_getI X Y kX12 11 rfl fl_X12_328 k1_ dX12_fail_1 ?_
  refine lv_if_ne (tgt := 17) hx hb dX12_fail_4 (by decide) (fun c2_ => ?_) (fun c2_ => ?_)
  · replace h := h.1 c2_
    exact cb_X12_fail_17 X Y (lv_sub hl [] rfl) h
  · replace h := h.2 c2_
    refine lv_aload_n hx hb dX12_fail_7 rfl (lv_at hl 0 rfl) ?_
    refine lv_iload_n hx hb dX12_fail_8 rfl (lv_at hl 1 rfl) ?_
    refine q_putI X Y kX12 11 rfl fl_X12_328 k1_ .int rfl ⟨rfl, rfl⟩ rfl dX12_fail_9 (fun H locs Y => ?_)
    refine lv_aload_n hx hb dX12_fail_12 rfl (lv_at hl 0 rfl) ?_
    refine lv_iload_n hx hb dX12_fail_13 rfl (lv_at hl 2 rfl) ?_
    refine q_putI X Y kX12 12 rfl fl_X12_16 k1_ .int rfl ⟨rfl, rfl⟩ rfl dX12_fail_14 (fun H locs Y => ?_)
    exact cb_X12_fail_17 X Y (lv_sub hl [] rfl) h
-- X12_failHere
theorem ml_X12_331 : Cond.methodLink RX12 331 yX12_fail ∈ q_G := q_tb (i := 2133) (by decide +kernel) (by decide +kernel)
theorem mt_X12_fail : q_Mt yX12_fail cX12_fail 3 (some .boolean) 2 := ⟨q_tb (i := 2136) (by decide +kernel) (by decide +kernel), q_tb (i := 11) (by decide +kernel) (by decide +kernel), by decide +kernel, by decide +kernel, by decide +kernel⟩
theorem mi_X12_fail : Cond.instanceMethod yX12_fail ∈ q_G ∧ Cond.selects yX12_fail.cls yX12_fail yX12_fail ∈ q_G := ⟨q_tb (i := 2135) (by decide +kernel) (by decide +kernel), q_tp (i := 95) (q := (yX12_fail, 114)) (by decide +kernel) (by decide +kernel)⟩
theorem dX12_failHere_0 : decode cX12_failHere 0 = .ok (.aload_n 0, 1) := by decide +kernel
theorem dX12_failHere_1 : decode cX12_failHere 1 = .ok (.aload_n 0, 1) := by decide +kernel
theorem dX12_failHere_2 : decode cX12_failHere 2 = .ok (.getfield 297, 3) := by decide +kernel
theorem dX12_failHere_5 : decode cX12_failHere 5 = .ok (.iconst 5, 1) := by decide +kernel
theorem dX12_failHere_6 : decode cX12_failHere 6 = .ok (.if_icmp .ne 7, 3) := by decide +kernel
theorem dX12_failHere_9 : decode cX12_failHere 9 = .ok (.iconst 2, 1) := by decide +kernel
theorem dX12_failHere_10 : decode cX12_failHere 10 = .ok (.goto 4, 3) := by decide +kernel
theorem dX12_failHere_13 : decode cX12_failHere 13 = .ok (.iload_n 1, 1) := by decide +kernel
theorem dX12_failHere_14 : decode cX12_failHere 14 = .ok (.aload_n 0, 1) := by decide +kernel
theorem dX12_failHere_15 : decode cX12_failHere 15 = .ok (.getfield 287, 3) := by decide +kernel
theorem dX12_failHere_18 : decode cX12_failHere 18 = .ok (.invokevirtual 331, 3) := by decide +kernel
theorem dX12_failHere_21 : decode cX12_failHere 21 = .ok (.ireturn, 1) := by decide +kernel
def wb_X12_failHere_14  (S : q_S) (a0 : Nat) (as0 : Nat) (xs1 : Int32) (Q : Option Value → q_S → Prop) : Prop := q_K S a0 = 13 ∧ (q_K S as0 = 13 ∧ (wm_X12_fail S as0 xs1 (q_I S 2407 a0) (fun r3_ S4_ => ∃ x5_ : Int32, r3_ = some (.int x5_) ∧ ((narrow .boolean (.int x5_) = .int x5_ ∧ Q (some (.int x5_)) S4_)))))
set_option maxHeartbeats 4000000 in
set_option maxRecDepth 100000 in
theorem cb_X12_failHere_14 {p : Program} {l : Launch} {e : Env} {s : State} {m : MethodId} {args : Array Value} {below : List Frame} {meth : Method} {c : Code} {D : va_G} {cy : Nat → ClassId} {lo : Nat}  {S : q_S} {a0 : Nat} {as0 : Nat} {xs1 : Int32} {Q : Option Value → q_S → Prop} {H : Heap} {locs : List Loc} {ls : Array Slot} (X : q_X p s m args meth c RX12 cX12_failHere 2 (some .boolean) D cy lo)  (Y : q_Y D cy lo s S H locs) (hl : lv_has ls 2 [(0, .ref a0)]) (h : wb_X12_failHere_14 S a0 as0 xs1 Q) : W p l e ({ frames := 1, cells := 0, slots := 0, locals := 22 } : Room) s m args below meth c H locs 0 0 (MQ below (q_Q D cy lo Q) args s 0 0 (fun q => lo ≤ q)) (F0 m 14 ls [.int xs1, .ref as0]) := by
  have hx := X.1
  have hb := X.2.1
  unfold wb_X12_failHere_14 at h
  refine lv_aload_n hx hb dX12_failHere_14 rfl (lv_at hl 0 rfl) ?_
  obtain ⟨k1_, h⟩ := h
  refine q_getI X Y kX12 7 rfl fl_X12_287 k1_ dX12_failHere_15 ?_
  obtain ⟨k2_, h⟩ := h
  refine q_callV X Y hl (cm_X12_fail h) mt_X12_fail mi_X12_fail ml_X12_331 (ci := 12) rfl k2_ (by decide) rfl rfl (by first | exact Nat.le_of_ble_eq_true rfl | simp [q_cat, q_catI, q_catJ, q_catR]) ⟨Nat.le_of_ble_eq_true rfl, Nat.le_of_ble_eq_true rfl⟩ ⟨Nat.le_of_ble_eq_true rfl, Nat.le_of_ble_eq_true rfl⟩ dX12_failHere_18 (fun r3_ S4_ H locs hp Y => ?_)
  obtain ⟨x5_, rfl, h⟩ := hp
  refine W.eq (g2 := F0 m 21 ls [.int x5_]) rfl ?_
  exact q_iret X Y h.1 (Nat.le_refl _) (Nat.le_refl _) h.2 dX12_failHere_21
def wm_X12_failHere (S : q_S) (a0 : Nat) (x1 : Int32) (Q : Option Value → q_S → Prop) : Prop := q_K S a0 = 13 ∧ (((¬ (q_I S 2406 a0) = (5 : Int32) → (wb_X12_failHere_14 S a0 a0 x1 Q)) ∧ ((q_I S 2406 a0) = (5 : Int32) → (wb_X12_failHere_14 S a0 a0 (2 : Int32) Q))))
set_option maxHeartbeats 4000000 in
set_option maxRecDepth 100000 in
theorem cm_X12_failHere {l : Launch} {D : va_G} {cy : Nat → ClassId} {lo : Nat} {S : q_S} {a0 : Nat} {x1 : Int32} {Q : Option Value → q_S → Prop} (h : wm_X12_failHere S a0 x1 Q) : q_Met l D cy lo yX12_failHere cX12_failHere 2 (some .boolean) 1 22 0 0 [.ref a0, .int x1] S Q := by
  refine q_body (by decide) (by first | exact Nat.le_of_ble_eq_true rfl | simp [lg_sl, q_cat, q_catI, q_catJ, q_catR]) ?_
  intro p e s m below meth c ls X hnm Y hl
  have hx := X.1
  have hb := X.2.1
  have hl : lv_has ls 2 [(0, .ref a0), (1, .int x1)] := by first | exact hl | simpa [lv_args, q_cat, q_catI, q_catJ, q_catR] using hl
  generalize hargs : ([.ref a0, .int x1] : List Value).toArray = args at X ⊢
  unfold wm_X12_failHere at h
  refine lv_aload_n hx hb dX12_failHere_0 rfl (lv_at hl 0 rfl) ?_
  refine lv_aload_n hx hb dX12_failHere_1 rfl (lv_at hl 0 rfl) ?_
  obtain ⟨k6_, h⟩ := h
  refine q_getI X Y kX12 6 rfl fl_X12_297 k6_ dX12_failHere_2 ?_
  refine lv_iconst (v := 5) hx hb dX12_failHere_5 (by decide) ?_
  refine lv_icmp_ne (tgt := 13) hx hb dX12_failHere_6 (by decide) (fun c7_ => ?_) (fun c7_ => ?_)
  · replace h := h.1 c7_
    refine lv_iload_n hx hb dX12_failHere_13 rfl (lv_at hl 1 rfl) ?_
    exact cb_X12_failHere_14 X Y (lv_sub hl [0] rfl) h
  · replace h := h.2 c7_
    refine lv_iconst (v := 2) hx hb dX12_failHere_9 (by decide) ?_
    refine lv_goto (tgt := 14) hx hb dX12_failHere_10 (by decide) ?_
    exact cb_X12_failHere_14 X Y (lv_sub hl [0] rfl) h
-- X12_isKey
theorem dX12_isKey_0 : decode cX12_isKey 0 = .ok (.aload_n 0, 1) := by decide +kernel
theorem dX12_isKey_1 : decode cX12_isKey 1 = .ok (.getfield 328, 3) := by decide +kernel
theorem dX12_isKey_4 : decode cX12_isKey 4 = .ok (.ifCond .ne 23, 3) := by decide +kernel
theorem dX12_isKey_7 : decode cX12_isKey 7 = .ok (.aload_n 0, 1) := by decide +kernel
theorem dX12_isKey_8 : decode cX12_isKey 8 = .ok (.getfield 297, 3) := by decide +kernel
theorem dX12_isKey_11 : decode cX12_isKey 11 = .ok (.iconst 4, 1) := by decide +kernel
theorem dX12_isKey_12 : decode cX12_isKey 12 = .ok (.if_icmp .ne 15, 3) := by decide +kernel
theorem dX12_isKey_15 : decode cX12_isKey 15 = .ok (.aload_n 0, 1) := by decide +kernel
theorem dX12_isKey_16 : decode cX12_isKey 16 = .ok (.getfield 316, 3) := by decide +kernel
theorem dX12_isKey_19 : decode cX12_isKey 19 = .ok (.iload_n 1, 1) := by decide +kernel
theorem dX12_isKey_20 : decode cX12_isKey 20 = .ok (.if_icmp .ne 7, 3) := by decide +kernel
theorem dX12_isKey_23 : decode cX12_isKey 23 = .ok (.iconst 1, 1) := by decide +kernel
theorem dX12_isKey_24 : decode cX12_isKey 24 = .ok (.goto 4, 3) := by decide +kernel
theorem dX12_isKey_27 : decode cX12_isKey 27 = .ok (.iconst 0, 1) := by decide +kernel
theorem dX12_isKey_28 : decode cX12_isKey 28 = .ok (.ireturn, 1) := by decide +kernel
def wb_X12_isKey_28  (S : q_S) (xs0 : Int32) (Q : Option Value → q_S → Prop) : Prop := (narrow .boolean (.int xs0) = .int xs0 ∧ Q (some (.int xs0)) S)
set_option maxHeartbeats 4000000 in
set_option maxRecDepth 100000 in
theorem cb_X12_isKey_28 {p : Program} {l : Launch} {e : Env} {s : State} {m : MethodId} {args : Array Value} {below : List Frame} {meth : Method} {c : Code} {D : va_G} {cy : Nat → ClassId} {lo : Nat}  {S : q_S} {xs0 : Int32} {Q : Option Value → q_S → Prop} {H : Heap} {locs : List Loc} {ls : Array Slot} (X : q_X p s m args meth c RX12 cX12_isKey 2 (some .boolean) D cy lo)  (Y : q_Y D cy lo s S H locs) (hl : lv_has ls 2 []) (h : wb_X12_isKey_28 S xs0 Q) : W p l e ({ frames := 0, cells := 0, slots := 0, locals := 0 } : Room) s m args below meth c H locs 0 0 (MQ below (q_Q D cy lo Q) args s 0 0 (fun q => lo ≤ q)) (F0 m 28 ls [.int xs0]) := by
  have hx := X.1
  have hb := X.2.1
  unfold wb_X12_isKey_28 at h
  exact q_iret X Y h.1 (Nat.le_refl _) (Nat.le_refl _) h.2 dX12_isKey_28
def wb_X12_isKey_27  (S : q_S) (Q : Option Value → q_S → Prop) : Prop := wb_X12_isKey_28 S (0 : Int32) Q
set_option maxHeartbeats 4000000 in
set_option maxRecDepth 100000 in
theorem cb_X12_isKey_27 {p : Program} {l : Launch} {e : Env} {s : State} {m : MethodId} {args : Array Value} {below : List Frame} {meth : Method} {c : Code} {D : va_G} {cy : Nat → ClassId} {lo : Nat}  {S : q_S} {Q : Option Value → q_S → Prop} {H : Heap} {locs : List Loc} {ls : Array Slot} (X : q_X p s m args meth c RX12 cX12_isKey 2 (some .boolean) D cy lo)  (Y : q_Y D cy lo s S H locs) (hl : lv_has ls 2 []) (h : wb_X12_isKey_27 S Q) : W p l e ({ frames := 0, cells := 0, slots := 0, locals := 0 } : Room) s m args below meth c H locs 0 0 (MQ below (q_Q D cy lo Q) args s 0 0 (fun q => lo ≤ q)) (F0 m 27 ls []) := by
  have hx := X.1
  have hb := X.2.1
  unfold wb_X12_isKey_27 at h
  refine lv_iconst (v := 0) hx hb dX12_isKey_27 (by decide) ?_
  exact cb_X12_isKey_28 X Y (lv_sub hl [] rfl) h
def wm_X12_isKey (S : q_S) (a0 : Nat) (x1 : Int32) (Q : Option Value → q_S → Prop) : Prop := q_K S a0 = 13 ∧ (((¬ (q_I S 2411 a0) = 0 → (wb_X12_isKey_27 S Q)) ∧ ((q_I S 2411 a0) = 0 → (((¬ (q_I S 2406 a0) = (4 : Int32) → (wb_X12_isKey_27 S Q)) ∧ ((q_I S 2406 a0) = (4 : Int32) → (((¬ (q_I S 2408 a0) = x1 → (wb_X12_isKey_27 S Q)) ∧ ((q_I S 2408 a0) = x1 → (wb_X12_isKey_28 S (1 : Int32) Q))))))))))
set_option maxHeartbeats 4000000 in
set_option maxRecDepth 100000 in
theorem cm_X12_isKey {l : Launch} {D : va_G} {cy : Nat → ClassId} {lo : Nat} {S : q_S} {a0 : Nat} {x1 : Int32} {Q : Option Value → q_S → Prop} (h : wm_X12_isKey S a0 x1 Q) : q_Met l D cy lo yX12_isKey cX12_isKey 2 (some .boolean) 0 0 0 0 [.ref a0, .int x1] S Q := by
  refine q_body (by decide) (by first | exact Nat.le_of_ble_eq_true rfl | simp [lg_sl, q_cat, q_catI, q_catJ, q_catR]) ?_
  intro p e s m below meth c ls X hnm Y hl
  have hx := X.1
  have hb := X.2.1
  have hl : lv_has ls 2 [(0, .ref a0), (1, .int x1)] := by first | exact hl | simpa [lv_args, q_cat, q_catI, q_catJ, q_catR] using hl
  generalize hargs : ([.ref a0, .int x1] : List Value).toArray = args at X ⊢
  unfold wm_X12_isKey at h
  refine lv_aload_n hx hb dX12_isKey_0 rfl (lv_at hl 0 rfl) ?_
  obtain ⟨k1_, h⟩ := h
  refine q_getI X Y kX12 11 rfl fl_X12_328 k1_ dX12_isKey_1 ?_
  refine lv_if_ne (tgt := 27) hx hb dX12_isKey_4 (by decide) (fun c2_ => ?_) (fun c2_ => ?_)
  · replace h := h.1 c2_
    exact cb_X12_isKey_27 X Y (lv_sub hl [] rfl) h
  · replace h := h.2 c2_
    refine lv_aload_n hx hb dX12_isKey_7 rfl (lv_at hl 0 rfl) ?_
    refine q_getI X Y kX12 6 rfl fl_X12_297 k1_ dX12_isKey_8 ?_
    refine lv_iconst (v := 4) hx hb dX12_isKey_11 (by decide) ?_
    refine lv_icmp_ne (tgt := 27) hx hb dX12_isKey_12 (by decide) (fun c3_ => ?_) (fun c3_ => ?_)
    · replace h := h.1 c3_
      exact cb_X12_isKey_27 X Y (lv_sub hl [] rfl) h
    · replace h := h.2 c3_
      refine lv_aload_n hx hb dX12_isKey_15 rfl (lv_at hl 0 rfl) ?_
      refine q_getI X Y kX12 8 rfl fl_X12_316 k1_ dX12_isKey_16 ?_
      refine lv_iload_n hx hb dX12_isKey_19 rfl (lv_at hl 1 rfl) ?_
      refine lv_icmp_ne (tgt := 27) hx hb dX12_isKey_20 (by decide) (fun c4_ => ?_) (fun c4_ => ?_)
      · replace h := h.1 c4_
        exact cb_X12_isKey_27 X Y (lv_sub hl [] rfl) h
      · replace h := h.2 c4_
        refine lv_iconst (v := 1) hx hb dX12_isKey_23 (by decide) ?_
        refine lv_goto (tgt := 28) hx hb dX12_isKey_24 (by decide) ?_
        exact cb_X12_isKey_28 X Y (lv_sub hl [] rfl) h
-- X12_isSign
theorem dX12_isSign_0 : decode cX12_isSign 0 = .ok (.aload_n 0, 1) := by decide +kernel
theorem dX12_isSign_1 : decode cX12_isSign 1 = .ok (.getfield 328, 3) := by decide +kernel
theorem dX12_isSign_4 : decode cX12_isSign 4 = .ok (.ifCond .ne 23, 3) := by decide +kernel
theorem dX12_isSign_7 : decode cX12_isSign 7 = .ok (.aload_n 0, 1) := by decide +kernel
theorem dX12_isSign_8 : decode cX12_isSign 8 = .ok (.getfield 297, 3) := by decide +kernel
theorem dX12_isSign_11 : decode cX12_isSign 11 = .ok (.iconst 3, 1) := by decide +kernel
theorem dX12_isSign_12 : decode cX12_isSign 12 = .ok (.if_icmp .ne 15, 3) := by decide +kernel
theorem dX12_isSign_15 : decode cX12_isSign 15 = .ok (.aload_n 0, 1) := by decide +kernel
theorem dX12_isSign_16 : decode cX12_isSign 16 = .ok (.getfield 316, 3) := by decide +kernel
theorem dX12_isSign_19 : decode cX12_isSign 19 = .ok (.iload_n 1, 1) := by decide +kernel
theorem dX12_isSign_20 : decode cX12_isSign 20 = .ok (.if_icmp .ne 7, 3) := by decide +kernel
theorem dX12_isSign_23 : decode cX12_isSign 23 = .ok (.iconst 1, 1) := by decide +kernel
theorem dX12_isSign_24 : decode cX12_isSign 24 = .ok (.goto 4, 3) := by decide +kernel
theorem dX12_isSign_27 : decode cX12_isSign 27 = .ok (.iconst 0, 1) := by decide +kernel
theorem dX12_isSign_28 : decode cX12_isSign 28 = .ok (.ireturn, 1) := by decide +kernel
def wb_X12_isSign_28  (S : q_S) (xs0 : Int32) (Q : Option Value → q_S → Prop) : Prop := (narrow .boolean (.int xs0) = .int xs0 ∧ Q (some (.int xs0)) S)
set_option maxHeartbeats 4000000 in
set_option maxRecDepth 100000 in
theorem cb_X12_isSign_28 {p : Program} {l : Launch} {e : Env} {s : State} {m : MethodId} {args : Array Value} {below : List Frame} {meth : Method} {c : Code} {D : va_G} {cy : Nat → ClassId} {lo : Nat}  {S : q_S} {xs0 : Int32} {Q : Option Value → q_S → Prop} {H : Heap} {locs : List Loc} {ls : Array Slot} (X : q_X p s m args meth c RX12 cX12_isSign 2 (some .boolean) D cy lo)  (Y : q_Y D cy lo s S H locs) (hl : lv_has ls 2 []) (h : wb_X12_isSign_28 S xs0 Q) : W p l e ({ frames := 0, cells := 0, slots := 0, locals := 0 } : Room) s m args below meth c H locs 0 0 (MQ below (q_Q D cy lo Q) args s 0 0 (fun q => lo ≤ q)) (F0 m 28 ls [.int xs0]) := by
  have hx := X.1
  have hb := X.2.1
  unfold wb_X12_isSign_28 at h
  exact q_iret X Y h.1 (Nat.le_refl _) (Nat.le_refl _) h.2 dX12_isSign_28
def wb_X12_isSign_27  (S : q_S) (Q : Option Value → q_S → Prop) : Prop := wb_X12_isSign_28 S (0 : Int32) Q
set_option maxHeartbeats 4000000 in
set_option maxRecDepth 100000 in
theorem cb_X12_isSign_27 {p : Program} {l : Launch} {e : Env} {s : State} {m : MethodId} {args : Array Value} {below : List Frame} {meth : Method} {c : Code} {D : va_G} {cy : Nat → ClassId} {lo : Nat}  {S : q_S} {Q : Option Value → q_S → Prop} {H : Heap} {locs : List Loc} {ls : Array Slot} (X : q_X p s m args meth c RX12 cX12_isSign 2 (some .boolean) D cy lo)  (Y : q_Y D cy lo s S H locs) (hl : lv_has ls 2 []) (h : wb_X12_isSign_27 S Q) : W p l e ({ frames := 0, cells := 0, slots := 0, locals := 0 } : Room) s m args below meth c H locs 0 0 (MQ below (q_Q D cy lo Q) args s 0 0 (fun q => lo ≤ q)) (F0 m 27 ls []) := by
  have hx := X.1
  have hb := X.2.1
  unfold wb_X12_isSign_27 at h
  refine lv_iconst (v := 0) hx hb dX12_isSign_27 (by decide) ?_
  exact cb_X12_isSign_28 X Y (lv_sub hl [] rfl) h
def wm_X12_isSign (S : q_S) (a0 : Nat) (x1 : Int32) (Q : Option Value → q_S → Prop) : Prop := q_K S a0 = 13 ∧ (((¬ (q_I S 2411 a0) = 0 → (wb_X12_isSign_27 S Q)) ∧ ((q_I S 2411 a0) = 0 → (((¬ (q_I S 2406 a0) = (3 : Int32) → (wb_X12_isSign_27 S Q)) ∧ ((q_I S 2406 a0) = (3 : Int32) → (((¬ (q_I S 2408 a0) = x1 → (wb_X12_isSign_27 S Q)) ∧ ((q_I S 2408 a0) = x1 → (wb_X12_isSign_28 S (1 : Int32) Q))))))))))
set_option maxHeartbeats 4000000 in
set_option maxRecDepth 100000 in
theorem cm_X12_isSign {l : Launch} {D : va_G} {cy : Nat → ClassId} {lo : Nat} {S : q_S} {a0 : Nat} {x1 : Int32} {Q : Option Value → q_S → Prop} (h : wm_X12_isSign S a0 x1 Q) : q_Met l D cy lo yX12_isSign cX12_isSign 2 (some .boolean) 0 0 0 0 [.ref a0, .int x1] S Q := by
  refine q_body (by decide) (by first | exact Nat.le_of_ble_eq_true rfl | simp [lg_sl, q_cat, q_catI, q_catJ, q_catR]) ?_
  intro p e s m below meth c ls X hnm Y hl
  have hx := X.1
  have hb := X.2.1
  have hl : lv_has ls 2 [(0, .ref a0), (1, .int x1)] := by first | exact hl | simpa [lv_args, q_cat, q_catI, q_catJ, q_catR] using hl
  generalize hargs : ([.ref a0, .int x1] : List Value).toArray = args at X ⊢
  unfold wm_X12_isSign at h
  refine lv_aload_n hx hb dX12_isSign_0 rfl (lv_at hl 0 rfl) ?_
  obtain ⟨k1_, h⟩ := h
  refine q_getI X Y kX12 11 rfl fl_X12_328 k1_ dX12_isSign_1 ?_
  refine lv_if_ne (tgt := 27) hx hb dX12_isSign_4 (by decide) (fun c2_ => ?_) (fun c2_ => ?_)
  · replace h := h.1 c2_
    exact cb_X12_isSign_27 X Y (lv_sub hl [] rfl) h
  · replace h := h.2 c2_
    refine lv_aload_n hx hb dX12_isSign_7 rfl (lv_at hl 0 rfl) ?_
    refine q_getI X Y kX12 6 rfl fl_X12_297 k1_ dX12_isSign_8 ?_
    refine lv_iconst (v := 3) hx hb dX12_isSign_11 (by decide) ?_
    refine lv_icmp_ne (tgt := 27) hx hb dX12_isSign_12 (by decide) (fun c3_ => ?_) (fun c3_ => ?_)
    · replace h := h.1 c3_
      exact cb_X12_isSign_27 X Y (lv_sub hl [] rfl) h
    · replace h := h.2 c3_
      refine lv_aload_n hx hb dX12_isSign_15 rfl (lv_at hl 0 rfl) ?_
      refine q_getI X Y kX12 8 rfl fl_X12_316 k1_ dX12_isSign_16 ?_
      refine lv_iload_n hx hb dX12_isSign_19 rfl (lv_at hl 1 rfl) ?_
      refine lv_icmp_ne (tgt := 27) hx hb dX12_isSign_20 (by decide) (fun c4_ => ?_) (fun c4_ => ?_)
      · replace h := h.1 c4_
        exact cb_X12_isSign_27 X Y (lv_sub hl [] rfl) h
      · replace h := h.2 c4_
        refine lv_iconst (v := 1) hx hb dX12_isSign_23 (by decide) ?_
        refine lv_goto (tgt := 28) hx hb dX12_isSign_24 (by decide) ?_
        exact cb_X12_isSign_28 X Y (lv_sub hl [] rfl) h
-- X12_sign
theorem ml_X12_335 : Cond.methodLink RX12 335 yX12_isSign ∈ q_G := q_tb (i := 2153) (by decide +kernel) (by decide +kernel)
theorem mt_X12_isSign : q_Mt yX12_isSign cX12_isSign 2 (some .boolean) 1 := ⟨q_tb (i := 2156) (by decide +kernel) (by decide +kernel), q_tb (i := 11) (by decide +kernel) (by decide +kernel), by decide +kernel, by decide +kernel, by decide +kernel⟩
theorem mi_X12_isSign : Cond.instanceMethod yX12_isSign ∈ q_G ∧ Cond.selects yX12_isSign.cls yX12_isSign yX12_isSign ∈ q_G := ⟨q_tb (i := 2155) (by decide +kernel) (by decide +kernel), q_tp (i := 100) (q := (yX12_isSign, 114)) (by decide +kernel) (by decide +kernel)⟩
theorem ml_X12_341 : Cond.methodLink RX12 341 yX12_next ∈ q_G := q_tb (i := 2098) (by decide +kernel) (by decide +kernel)
theorem mt_X12_next : q_Mt yX12_next cX12_next 3 none 0 := ⟨q_tb (i := 2101) (by decide +kernel) (by decide +kernel), q_tb (i := 11) (by decide +kernel) (by decide +kernel), by decide +kernel, by decide +kernel, by decide +kernel⟩
theorem mi_X12_next : Cond.instanceMethod yX12_next ∈ q_G ∧ Cond.selects yX12_next.cls yX12_next yX12_next ∈ q_G := ⟨q_tb (i := 2100) (by decide +kernel) (by decide +kernel), q_tp (i := 87) (q := (yX12_next, 114)) (by decide +kernel) (by decide +kernel)⟩
theorem ml_X12_338 : Cond.methodLink RX12 338 yX12_failHere ∈ q_G := q_tb (i := 2129) (by decide +kernel) (by decide +kernel)
theorem mt_X12_failHere : q_Mt yX12_failHere cX12_failHere 2 (some .boolean) 1 := ⟨q_tb (i := 2132) (by decide +kernel) (by decide +kernel), q_tb (i := 11) (by decide +kernel) (by decide +kernel), by decide +kernel, by decide +kernel, by decide +kernel⟩
theorem mi_X12_failHere : Cond.instanceMethod yX12_failHere ∈ q_G ∧ Cond.selects yX12_failHere.cls yX12_failHere yX12_failHere ∈ q_G := ⟨q_tb (i := 2131) (by decide +kernel) (by decide +kernel), q_tp (i := 94) (q := (yX12_failHere, 114)) (by decide +kernel) (by decide +kernel)⟩
theorem dX12_sign_0 : decode cX12_sign 0 = .ok (.aload_n 0, 1) := by decide +kernel
theorem dX12_sign_1 : decode cX12_sign 1 = .ok (.getfield 328, 3) := by decide +kernel
theorem dX12_sign_4 : decode cX12_sign 4 = .ok (.ifCond .le 5, 3) := by decide +kernel
theorem dX12_sign_7 : decode cX12_sign 7 = .ok (.iconst 0, 1) := by decide +kernel
theorem dX12_sign_8 : decode cX12_sign 8 = .ok (.ireturn, 1) := by decide +kernel
theorem dX12_sign_9 : decode cX12_sign 9 = .ok (.aload_n 0, 1) := by decide +kernel
theorem dX12_sign_10 : decode cX12_sign 10 = .ok (.iload_n 1, 1) := by decide +kernel
theorem dX12_sign_11 : decode cX12_sign 11 = .ok (.invokevirtual 335, 3) := by decide +kernel
theorem dX12_sign_14 : decode cX12_sign 14 = .ok (.ifCond .ne 9, 3) := by decide +kernel
theorem dX12_sign_17 : decode cX12_sign 17 = .ok (.aload_n 0, 1) := by decide +kernel
theorem dX12_sign_18 : decode cX12_sign 18 = .ok (.iconst 1, 1) := by decide +kernel
theorem dX12_sign_19 : decode cX12_sign 19 = .ok (.invokevirtual 338, 3) := by decide +kernel
theorem dX12_sign_22 : decode cX12_sign 22 = .ok (.ireturn, 1) := by decide +kernel
theorem dX12_sign_23 : decode cX12_sign 23 = .ok (.aload_n 0, 1) := by decide +kernel
theorem dX12_sign_24 : decode cX12_sign 24 = .ok (.invokevirtual 341, 3) := by decide +kernel
theorem dX12_sign_27 : decode cX12_sign 27 = .ok (.iconst 1, 1) := by decide +kernel
theorem dX12_sign_28 : decode cX12_sign 28 = .ok (.ireturn, 1) := by decide +kernel
def wm_X12_sign (S : q_S) (a0 : Nat) (x1 : Int32) (Q : Option Value → q_S → Prop) : Prop := q_K S a0 = 13 ∧ ((((q_I S 2411 a0) ≤ 0 → (wm_X12_isSign S a0 x1 (fun r3_ S4_ => ∃ x5_ : Int32, r3_ = some (.int x5_) ∧ (((¬ x5_ = 0 → (q_K S4_ a0 = 13 ∧ (wm_X12_next S4_ a0 (fun r8_ S9_ => r8_ = none ∧ (Q (some (.int (1 : Int32))) S9_))))) ∧ (x5_ = 0 → (q_K S4_ a0 = 13 ∧ (wm_X12_failHere S4_ a0 (1 : Int32) (fun r11_ S12_ => ∃ x13_ : Int32, r11_ = some (.int x13_) ∧ ((narrow .boolean (.int x13_) = .int x13_ ∧ Q (some (.int x13_)) S12_))))))))))) ∧ (¬ (q_I S 2411 a0) ≤ 0 → (Q (some (.int (0 : Int32))) S))))
set_option maxHeartbeats 4000000 in
set_option maxRecDepth 100000 in
theorem cm_X12_sign {l : Launch} {D : va_G} {cy : Nat → ClassId} {lo : Nat} {S : q_S} {a0 : Nat} {x1 : Int32} {Q : Option Value → q_S → Prop} (h : wm_X12_sign S a0 x1 Q) : q_Met l D cy lo yX12_sign cX12_sign 2 (some .boolean) 6 133 0 0 [.ref a0, .int x1] S Q := by
  refine q_body (by decide) (by first | exact Nat.le_of_ble_eq_true rfl | simp [lg_sl, q_cat, q_catI, q_catJ, q_catR]) ?_
  intro p e s m below meth c ls X hnm Y hl
  have hx := X.1
  have hb := X.2.1
  have hl : lv_has ls 2 [(0, .ref a0), (1, .int x1)] := by first | exact hl | simpa [lv_args, q_cat, q_catI, q_catJ, q_catR] using hl
  generalize hargs : ([.ref a0, .int x1] : List Value).toArray = args at X ⊢
  unfold wm_X12_sign at h
  refine lv_aload_n hx hb dX12_sign_0 rfl (lv_at hl 0 rfl) ?_
  obtain ⟨k1_, h⟩ := h
  refine q_getI X Y kX12 11 rfl fl_X12_328 k1_ dX12_sign_1 ?_
  refine lv_if_le (tgt := 9) hx hb dX12_sign_4 (by decide) (fun c2_ => ?_) (fun c2_ => ?_)
  · replace h := h.1 c2_
    refine lv_aload_n hx hb dX12_sign_9 rfl (lv_at hl 0 rfl) ?_
    refine lv_iload_n hx hb dX12_sign_10 rfl (lv_at hl 1 rfl) ?_
    refine q_callV X Y hl (cm_X12_isSign h) mt_X12_isSign mi_X12_isSign ml_X12_335 (ci := 12) rfl k1_ (by decide) rfl rfl (by first | exact Nat.le_of_ble_eq_true rfl | simp [q_cat, q_catI, q_catJ, q_catR]) ⟨Nat.le_of_ble_eq_true rfl, Nat.le_of_ble_eq_true rfl⟩ ⟨Nat.le_of_ble_eq_true rfl, Nat.le_of_ble_eq_true rfl⟩ dX12_sign_11 (fun r3_ S4_ H locs hp Y => ?_)
    obtain ⟨x5_, rfl, h⟩ := hp
    refine W.eq (g2 := F0 m 14 ls [.int x5_]) rfl ?_
    refine lv_if_ne (tgt := 23) hx hb dX12_sign_14 (by decide) (fun c6_ => ?_) (fun c6_ => ?_)
    · replace h := h.1 c6_
      refine lv_aload_n hx hb dX12_sign_23 rfl (lv_at hl 0 rfl) ?_
      obtain ⟨k7_, h⟩ := h
      refine q_callV X Y hl (cm_X12_next h) mt_X12_next mi_X12_next ml_X12_341 (ci := 12) rfl k7_ (by decide) rfl rfl (by first | exact Nat.le_of_ble_eq_true rfl | simp [q_cat, q_catI, q_catJ, q_catR]) ⟨Nat.le_of_ble_eq_true rfl, Nat.le_of_ble_eq_true rfl⟩ ⟨Nat.le_of_ble_eq_true rfl, Nat.le_of_ble_eq_true rfl⟩ dX12_sign_24 (fun r8_ S9_ H locs hp Y => ?_)
      obtain ⟨rfl, h⟩ := hp
      refine W.eq (g2 := F0 m 27 ls []) rfl ?_
      refine lv_iconst (v := 1) hx hb dX12_sign_27 (by decide) ?_
      exact q_iret X Y rfl (Nat.le_refl _) (Nat.le_refl _) h dX12_sign_28
    · replace h := h.2 c6_
      refine lv_aload_n hx hb dX12_sign_17 rfl (lv_at hl 0 rfl) ?_
      refine lv_iconst (v := 1) hx hb dX12_sign_18 (by decide) ?_
      obtain ⟨k10_, h⟩ := h
      refine q_callV X Y hl (cm_X12_failHere h) mt_X12_failHere mi_X12_failHere ml_X12_338 (ci := 12) rfl k10_ (by decide) rfl rfl (by first | exact Nat.le_of_ble_eq_true rfl | simp [q_cat, q_catI, q_catJ, q_catR]) ⟨Nat.le_of_ble_eq_true rfl, Nat.le_of_ble_eq_true rfl⟩ ⟨Nat.le_of_ble_eq_true rfl, Nat.le_of_ble_eq_true rfl⟩ dX12_sign_19 (fun r11_ S12_ H locs hp Y => ?_)
      obtain ⟨x13_, rfl, h⟩ := hp
      refine W.eq (g2 := F0 m 22 ls [.int x13_]) rfl ?_
      exact q_iret X Y h.1 (Nat.le_refl _) (Nat.le_refl _) h.2 dX12_sign_22
  · replace h := h.2 c2_
    refine lv_iconst (v := 0) hx hb dX12_sign_7 (by decide) ?_
    exact q_iret X Y rfl (Nat.le_refl _) (Nat.le_refl _) h dX12_sign_8
-- X12_key
theorem ml_X12_344 : Cond.methodLink RX12 344 yX12_isKey ∈ q_G := q_tb (i := 2121) (by decide +kernel) (by decide +kernel)
theorem mt_X12_isKey : q_Mt yX12_isKey cX12_isKey 2 (some .boolean) 1 := ⟨q_tb (i := 2124) (by decide +kernel) (by decide +kernel), q_tb (i := 11) (by decide +kernel) (by decide +kernel), by decide +kernel, by decide +kernel, by decide +kernel⟩
theorem mi_X12_isKey : Cond.instanceMethod yX12_isKey ∈ q_G ∧ Cond.selects yX12_isKey.cls yX12_isKey yX12_isKey ∈ q_G := ⟨q_tb (i := 2123) (by decide +kernel) (by decide +kernel), q_tp (i := 92) (q := (yX12_isKey, 114)) (by decide +kernel) (by decide +kernel)⟩
theorem dX12_key_0 : decode cX12_key 0 = .ok (.aload_n 0, 1) := by decide +kernel
theorem dX12_key_1 : decode cX12_key 1 = .ok (.getfield 328, 3) := by decide +kernel
theorem dX12_key_4 : decode cX12_key 4 = .ok (.ifCond .le 5, 3) := by decide +kernel
theorem dX12_key_7 : decode cX12_key 7 = .ok (.iconst 0, 1) := by decide +kernel
theorem dX12_key_8 : decode cX12_key 8 = .ok (.ireturn, 1) := by decide +kernel
theorem dX12_key_9 : decode cX12_key 9 = .ok (.aload_n 0, 1) := by decide +kernel
theorem dX12_key_10 : decode cX12_key 10 = .ok (.iload_n 1, 1) := by decide +kernel
theorem dX12_key_11 : decode cX12_key 11 = .ok (.invokevirtual 344, 3) := by decide +kernel
theorem dX12_key_14 : decode cX12_key 14 = .ok (.ifCond .ne 9, 3) := by decide +kernel
theorem dX12_key_17 : decode cX12_key 17 = .ok (.aload_n 0, 1) := by decide +kernel
theorem dX12_key_18 : decode cX12_key 18 = .ok (.iconst 1, 1) := by decide +kernel
theorem dX12_key_19 : decode cX12_key 19 = .ok (.invokevirtual 338, 3) := by decide +kernel
theorem dX12_key_22 : decode cX12_key 22 = .ok (.ireturn, 1) := by decide +kernel
theorem dX12_key_23 : decode cX12_key 23 = .ok (.aload_n 0, 1) := by decide +kernel
theorem dX12_key_24 : decode cX12_key 24 = .ok (.invokevirtual 341, 3) := by decide +kernel
theorem dX12_key_27 : decode cX12_key 27 = .ok (.iconst 1, 1) := by decide +kernel
theorem dX12_key_28 : decode cX12_key 28 = .ok (.ireturn, 1) := by decide +kernel
def wm_X12_key (S : q_S) (a0 : Nat) (x1 : Int32) (Q : Option Value → q_S → Prop) : Prop := q_K S a0 = 13 ∧ ((((q_I S 2411 a0) ≤ 0 → (wm_X12_isKey S a0 x1 (fun r3_ S4_ => ∃ x5_ : Int32, r3_ = some (.int x5_) ∧ (((¬ x5_ = 0 → (q_K S4_ a0 = 13 ∧ (wm_X12_next S4_ a0 (fun r8_ S9_ => r8_ = none ∧ (Q (some (.int (1 : Int32))) S9_))))) ∧ (x5_ = 0 → (q_K S4_ a0 = 13 ∧ (wm_X12_failHere S4_ a0 (1 : Int32) (fun r11_ S12_ => ∃ x13_ : Int32, r11_ = some (.int x13_) ∧ ((narrow .boolean (.int x13_) = .int x13_ ∧ Q (some (.int x13_)) S12_))))))))))) ∧ (¬ (q_I S 2411 a0) ≤ 0 → (Q (some (.int (0 : Int32))) S))))
set_option maxHeartbeats 4000000 in
set_option maxRecDepth 100000 in
theorem cm_X12_key {l : Launch} {D : va_G} {cy : Nat → ClassId} {lo : Nat} {S : q_S} {a0 : Nat} {x1 : Int32} {Q : Option Value → q_S → Prop} (h : wm_X12_key S a0 x1 Q) : q_Met l D cy lo yX12_key cX12_key 2 (some .boolean) 6 133 0 0 [.ref a0, .int x1] S Q := by
  refine q_body (by decide) (by first | exact Nat.le_of_ble_eq_true rfl | simp [lg_sl, q_cat, q_catI, q_catJ, q_catR]) ?_
  intro p e s m below meth c ls X hnm Y hl
  have hx := X.1
  have hb := X.2.1
  have hl : lv_has ls 2 [(0, .ref a0), (1, .int x1)] := by first | exact hl | simpa [lv_args, q_cat, q_catI, q_catJ, q_catR] using hl
  generalize hargs : ([.ref a0, .int x1] : List Value).toArray = args at X ⊢
  unfold wm_X12_key at h
  refine lv_aload_n hx hb dX12_key_0 rfl (lv_at hl 0 rfl) ?_
  obtain ⟨k1_, h⟩ := h
  refine q_getI X Y kX12 11 rfl fl_X12_328 k1_ dX12_key_1 ?_
  refine lv_if_le (tgt := 9) hx hb dX12_key_4 (by decide) (fun c2_ => ?_) (fun c2_ => ?_)
  · replace h := h.1 c2_
    refine lv_aload_n hx hb dX12_key_9 rfl (lv_at hl 0 rfl) ?_
    refine lv_iload_n hx hb dX12_key_10 rfl (lv_at hl 1 rfl) ?_
    refine q_callV X Y hl (cm_X12_isKey h) mt_X12_isKey mi_X12_isKey ml_X12_344 (ci := 12) rfl k1_ (by decide) rfl rfl (by first | exact Nat.le_of_ble_eq_true rfl | simp [q_cat, q_catI, q_catJ, q_catR]) ⟨Nat.le_of_ble_eq_true rfl, Nat.le_of_ble_eq_true rfl⟩ ⟨Nat.le_of_ble_eq_true rfl, Nat.le_of_ble_eq_true rfl⟩ dX12_key_11 (fun r3_ S4_ H locs hp Y => ?_)
    obtain ⟨x5_, rfl, h⟩ := hp
    refine W.eq (g2 := F0 m 14 ls [.int x5_]) rfl ?_
    refine lv_if_ne (tgt := 23) hx hb dX12_key_14 (by decide) (fun c6_ => ?_) (fun c6_ => ?_)
    · replace h := h.1 c6_
      refine lv_aload_n hx hb dX12_key_23 rfl (lv_at hl 0 rfl) ?_
      obtain ⟨k7_, h⟩ := h
      refine q_callV X Y hl (cm_X12_next h) mt_X12_next mi_X12_next ml_X12_341 (ci := 12) rfl k7_ (by decide) rfl rfl (by first | exact Nat.le_of_ble_eq_true rfl | simp [q_cat, q_catI, q_catJ, q_catR]) ⟨Nat.le_of_ble_eq_true rfl, Nat.le_of_ble_eq_true rfl⟩ ⟨Nat.le_of_ble_eq_true rfl, Nat.le_of_ble_eq_true rfl⟩ dX12_key_24 (fun r8_ S9_ H locs hp Y => ?_)
      obtain ⟨rfl, h⟩ := hp
      refine W.eq (g2 := F0 m 27 ls []) rfl ?_
      refine lv_iconst (v := 1) hx hb dX12_key_27 (by decide) ?_
      exact q_iret X Y rfl (Nat.le_refl _) (Nat.le_refl _) h dX12_key_28
    · replace h := h.2 c6_
      refine lv_aload_n hx hb dX12_key_17 rfl (lv_at hl 0 rfl) ?_
      refine lv_iconst (v := 1) hx hb dX12_key_18 (by decide) ?_
      obtain ⟨k10_, h⟩ := h
      refine q_callV X Y hl (cm_X12_failHere h) mt_X12_failHere mi_X12_failHere ml_X12_338 (ci := 12) rfl k10_ (by decide) rfl rfl (by first | exact Nat.le_of_ble_eq_true rfl | simp [q_cat, q_catI, q_catJ, q_catR]) ⟨Nat.le_of_ble_eq_true rfl, Nat.le_of_ble_eq_true rfl⟩ ⟨Nat.le_of_ble_eq_true rfl, Nat.le_of_ble_eq_true rfl⟩ dX12_key_19 (fun r11_ S12_ H locs hp Y => ?_)
      obtain ⟨x13_, rfl, h⟩ := hp
      refine W.eq (g2 := F0 m 22 ls [.int x13_]) rfl ?_
      exact q_iret X Y h.1 (Nat.le_refl _) (Nat.le_refl _) h.2 dX12_key_22
  · replace h := h.2 c2_
    refine lv_iconst (v := 0) hx hb dX12_key_7 (by decide) ?_
    exact q_iret X Y rfl (Nat.le_refl _) (Nat.le_refl _) h dX12_key_8
-- X12_number
theorem dX12_number_0 : decode cX12_number 0 = .ok (.aload_n 0, 1) := by decide +kernel
theorem dX12_number_1 : decode cX12_number 1 = .ok (.getfield 328, 3) := by decide +kernel
theorem dX12_number_4 : decode cX12_number 4 = .ok (.ifCond .le 5, 3) := by decide +kernel
theorem dX12_number_7 : decode cX12_number 7 = .ok (.iconst 0, 1) := by decide +kernel
theorem dX12_number_8 : decode cX12_number 8 = .ok (.ireturn, 1) := by decide +kernel
theorem dX12_number_9 : decode cX12_number 9 = .ok (.aload_n 0, 1) := by decide +kernel
theorem dX12_number_10 : decode cX12_number 10 = .ok (.getfield 297, 3) := by decide +kernel
theorem dX12_number_13 : decode cX12_number 13 = .ok (.iconst 2, 1) := by decide +kernel
theorem dX12_number_14 : decode cX12_number 14 = .ok (.if_icmp .eq 11, 3) := by decide +kernel
theorem dX12_number_17 : decode cX12_number 17 = .ok (.aload_n 0, 1) := by decide +kernel
theorem dX12_number_18 : decode cX12_number 18 = .ok (.iconst 1, 1) := by decide +kernel
theorem dX12_number_19 : decode cX12_number 19 = .ok (.invokevirtual 338, 3) := by decide +kernel
theorem dX12_number_22 : decode cX12_number 22 = .ok (.pop, 1) := by decide +kernel
theorem dX12_number_23 : decode cX12_number 23 = .ok (.iconst 0, 1) := by decide +kernel
theorem dX12_number_24 : decode cX12_number 24 = .ok (.ireturn, 1) := by decide +kernel
theorem dX12_number_25 : decode cX12_number 25 = .ok (.aload_n 0, 1) := by decide +kernel
theorem dX12_number_26 : decode cX12_number 26 = .ok (.getfield 316, 3) := by decide +kernel
theorem dX12_number_29 : decode cX12_number 29 = .ok (.istore 4, 2) := by decide +kernel
theorem dX12_number_31 : decode cX12_number 31 = .ok (.iload 4, 2) := by decide +kernel
theorem dX12_number_33 : decode cX12_number 33 = .ok (.iload_n 1, 1) := by decide +kernel
theorem dX12_number_34 : decode cX12_number 34 = .ok (.if_icmp .lt 16, 3) := by decide +kernel
theorem dX12_number_37 : decode cX12_number 37 = .ok (.iload 4, 2) := by decide +kernel
theorem dX12_number_39 : decode cX12_number 39 = .ok (.iload_n 2, 1) := by decide +kernel
theorem dX12_number_40 : decode cX12_number 40 = .ok (.if_icmp .gt 10, 3) := by decide +kernel
theorem dX12_number_43 : decode cX12_number 43 = .ok (.iload 4, 2) := by decide +kernel
theorem dX12_number_45 : decode cX12_number 45 = .ok (.iload_n 3, 1) := by decide +kernel
theorem dX12_number_46 : decode cX12_number 46 = .ok (.irem, 1) := by decide +kernel
theorem dX12_number_47 : decode cX12_number 47 = .ok (.ifCond .eq 16, 3) := by decide +kernel
theorem dX12_number_50 : decode cX12_number 50 = .ok (.aload_n 0, 1) := by decide +kernel
theorem dX12_number_51 : decode cX12_number 51 = .ok (.iconst 5, 1) := by decide +kernel
theorem dX12_number_52 : decode cX12_number 52 = .ok (.aload_n 0, 1) := by decide +kernel
theorem dX12_number_53 : decode cX12_number 53 = .ok (.getfield 287, 3) := by decide +kernel
theorem dX12_number_56 : decode cX12_number 56 = .ok (.invokevirtual 331, 3) := by decide +kernel
theorem dX12_number_59 : decode cX12_number 59 = .ok (.pop, 1) := by decide +kernel
theorem dX12_number_60 : decode cX12_number 60 = .ok (.goto 7, 3) := by decide +kernel
theorem dX12_number_63 : decode cX12_number 63 = .ok (.aload_n 0, 1) := by decide +kernel
theorem dX12_number_64 : decode cX12_number 64 = .ok (.invokevirtual 341, 3) := by decide +kernel
theorem dX12_number_67 : decode cX12_number 67 = .ok (.iload 4, 2) := by decide +kernel
theorem dX12_number_69 : decode cX12_number 69 = .ok (.ireturn, 1) := by decide +kernel
def wb_X12_number_67  (S : q_S) (x4 : Int32) (Q : Option Value → q_S → Prop) : Prop := Q (some (.int x4)) S
set_option maxHeartbeats 4000000 in
set_option maxRecDepth 100000 in
theorem cb_X12_number_67 {p : Program} {l : Launch} {e : Env} {s : State} {m : MethodId} {args : Array Value} {below : List Frame} {meth : Method} {c : Code} {D : va_G} {cy : Nat → ClassId} {lo : Nat}  {S : q_S} {x4 : Int32} {Q : Option Value → q_S → Prop} {H : Heap} {locs : List Loc} {ls : Array Slot} (X : q_X p s m args meth c RX12 cX12_number 5 (some .int) D cy lo)  (Y : q_Y D cy lo s S H locs) (hl : lv_has ls 5 [(4, .int x4)]) (h : wb_X12_number_67 S x4 Q) : W p l e ({ frames := 6, cells := 0, slots := 0, locals := 133 } : Room) s m args below meth c H locs 0 0 (MQ below (q_Q D cy lo Q) args s 0 0 (fun q => lo ≤ q)) (F0 m 67 ls []) := by
  have hx := X.1
  have hb := X.2.1
  unfold wb_X12_number_67 at h
  refine lv_iload hx hb dX12_number_67 (lv_at hl 0 rfl) ?_
  exact q_iret X Y rfl (Nat.le_refl _) (Nat.le_refl _) h dX12_number_69
def wb_X12_number_50  (S : q_S) (a0 : Nat) (x4 : Int32) (Q : Option Value → q_S → Prop) : Prop := q_K S a0 = 13 ∧ (wm_X12_fail S a0 (5 : Int32) (q_I S 2407 a0) (fun r2_ S3_ => ∃ x4_ : Int32, r2_ = some (.int x4_) ∧ (wb_X12_number_67 S3_ x4 Q)))
set_option maxHeartbeats 4000000 in
set_option maxRecDepth 100000 in
theorem cb_X12_number_50 {p : Program} {l : Launch} {e : Env} {s : State} {m : MethodId} {args : Array Value} {below : List Frame} {meth : Method} {c : Code} {D : va_G} {cy : Nat → ClassId} {lo : Nat}  {S : q_S} {a0 : Nat} {x4 : Int32} {Q : Option Value → q_S → Prop} {H : Heap} {locs : List Loc} {ls : Array Slot} (X : q_X p s m args meth c RX12 cX12_number 5 (some .int) D cy lo)  (Y : q_Y D cy lo s S H locs) (hl : lv_has ls 5 [(0, .ref a0), (4, .int x4)]) (h : wb_X12_number_50 S a0 x4 Q) : W p l e ({ frames := 6, cells := 0, slots := 0, locals := 133 } : Room) s m args below meth c H locs 0 0 (MQ below (q_Q D cy lo Q) args s 0 0 (fun q => lo ≤ q)) (F0 m 50 ls []) := by
  have hx := X.1
  have hb := X.2.1
  unfold wb_X12_number_50 at h
  refine lv_aload_n hx hb dX12_number_50 rfl (lv_at hl 0 rfl) ?_
  refine lv_iconst (v := 5) hx hb dX12_number_51 (by decide) ?_
  refine lv_aload_n hx hb dX12_number_52 rfl (lv_at hl 0 rfl) ?_
  obtain ⟨k1_, h⟩ := h
  refine q_getI X Y kX12 7 rfl fl_X12_287 k1_ dX12_number_53 ?_
  refine q_callV X Y hl (cm_X12_fail h) mt_X12_fail mi_X12_fail ml_X12_331 (ci := 12) rfl k1_ (by decide) rfl rfl (by first | exact Nat.le_of_ble_eq_true rfl | simp [q_cat, q_catI, q_catJ, q_catR]) ⟨Nat.le_of_ble_eq_true rfl, Nat.le_of_ble_eq_true rfl⟩ ⟨Nat.le_of_ble_eq_true rfl, Nat.le_of_ble_eq_true rfl⟩ dX12_number_56 (fun r2_ S3_ H locs hp Y => ?_)
  obtain ⟨x4_, rfl, h⟩ := hp
  refine W.eq (g2 := F0 m 59 ls [.int x4_]) rfl ?_
  refine lv_pop hx hb dX12_number_59 rfl ?_
  refine lv_goto (tgt := 67) hx hb dX12_number_60 (by decide) ?_
  exact cb_X12_number_67 X Y (lv_sub hl [1] rfl) h
def wm_X12_number (S : q_S) (a0 : Nat) (x1 : Int32) (x2 : Int32) (x3 : Int32) (Q : Option Value → q_S → Prop) : Prop := q_K S a0 = 13 ∧ ((((q_I S 2411 a0) ≤ 0 → ((((q_I S 2406 a0) = (2 : Int32) → ((((q_I S 2408 a0) < x1 → (wb_X12_number_50 S a0 (q_I S 2408 a0) Q)) ∧ (¬ (q_I S 2408 a0) < x1 → (((x2 < (q_I S 2408 a0) → (wb_X12_number_50 S a0 (q_I S 2408 a0) Q)) ∧ (¬ x2 < (q_I S 2408 a0) → ((¬ x3 = 0) ∧ (((((q_I S 2408 a0) - (q_I S 2408 a0) / x3 * x3) = 0 → (wm_X12_next S a0 (fun r12_ S13_ => r12_ = none ∧ (wb_X12_number_67 S13_ (q_I S 2408 a0) Q)))) ∧ (¬ ((q_I S 2408 a0) - (q_I S 2408 a0) / x3 * x3) = 0 → (wb_X12_number_50 S a0 (q_I S 2408 a0) Q)))))))))))) ∧ (¬ (q_I S 2406 a0) = (2 : Int32) → (wm_X12_failHere S a0 (1 : Int32) (fun r14_ S15_ => ∃ x16_ : Int32, r14_ = some (.int x16_) ∧ (Q (some (.int (0 : Int32))) S15_))))))) ∧ (¬ (q_I S 2411 a0) ≤ 0 → (Q (some (.int (0 : Int32))) S))))
set_option maxHeartbeats 4000000 in
set_option maxRecDepth 100000 in
theorem cm_X12_number {l : Launch} {D : va_G} {cy : Nat → ClassId} {lo : Nat} {S : q_S} {a0 : Nat} {x1 : Int32} {x2 : Int32} {x3 : Int32} {Q : Option Value → q_S → Prop} (h : wm_X12_number S a0 x1 x2 x3 Q) : q_Met l D cy lo yX12_number cX12_number 5 (some .int) 6 133 0 0 [.ref a0, .int x1, .int x2, .int x3] S Q := by
  refine q_body (by decide) (by first | exact Nat.le_of_ble_eq_true rfl | simp [lg_sl, q_cat, q_catI, q_catJ, q_catR]) ?_
  intro p e s m below meth c ls X hnm Y hl
  have hx := X.1
  have hb := X.2.1
  have hl : lv_has ls 5 [(0, .ref a0), (1, .int x1), (2, .int x2), (3, .int x3)] := by first | exact hl | simpa [lv_args, q_cat, q_catI, q_catJ, q_catR] using hl
  generalize hargs : ([.ref a0, .int x1, .int x2, .int x3] : List Value).toArray = args at X ⊢
  unfold wm_X12_number at h
  refine lv_aload_n hx hb dX12_number_0 rfl (lv_at hl 0 rfl) ?_
  obtain ⟨k5_, h⟩ := h
  refine q_getI X Y kX12 11 rfl fl_X12_328 k5_ dX12_number_1 ?_
  refine lv_if_le (tgt := 9) hx hb dX12_number_4 (by decide) (fun c6_ => ?_) (fun c6_ => ?_)
  · replace h := h.1 c6_
    refine lv_aload_n hx hb dX12_number_9 rfl (lv_at hl 0 rfl) ?_
    refine q_getI X Y kX12 6 rfl fl_X12_297 k5_ dX12_number_10 ?_
    refine lv_iconst (v := 2) hx hb dX12_number_13 (by decide) ?_
    refine lv_icmp_eq (tgt := 25) hx hb dX12_number_14 (by decide) (fun c7_ => ?_) (fun c7_ => ?_)
    · replace h := h.1 c7_
      refine lv_aload_n hx hb dX12_number_25 rfl (lv_at hl 0 rfl) ?_
      refine q_getI X Y kX12 8 rfl fl_X12_316 k5_ dX12_number_26 ?_
      refine lv_istore (i := 4) (lv' := [(4, .int (q_I S 2408 a0)), (0, .ref a0), (1, .int x1), (2, .int x2), (3, .int x3)]) hx hb dX12_number_29 hl (by decide) (by first | rfl | simp [q_cat, q_catI, q_catJ, q_catR]) (fun ls hl => ?_)
      refine lv_iload hx hb dX12_number_31 (lv_at hl 0 rfl) ?_
      refine lv_iload_n hx hb dX12_number_33 rfl (lv_at hl 2 rfl) ?_
      refine lv_icmp_lt (tgt := 50) hx hb dX12_number_34 (by decide) (fun c8_ => ?_) (fun c8_ => ?_)
      · replace h := h.1 c8_
        exact cb_X12_number_50 X Y (lv_sub hl [1, 0] rfl) h
      · replace h := h.2 c8_
        refine lv_iload hx hb dX12_number_37 (lv_at hl 0 rfl) ?_
        refine lv_iload_n hx hb dX12_number_39 rfl (lv_at hl 3 rfl) ?_
        refine lv_icmp_gt (tgt := 50) hx hb dX12_number_40 (by decide) (fun c9_ => ?_) (fun c9_ => ?_)
        · replace h := h.1 c9_
          exact cb_X12_number_50 X Y (lv_sub hl [1, 0] rfl) h
        · replace h := h.2 c9_
          refine lv_iload hx hb dX12_number_43 (lv_at hl 0 rfl) ?_
          refine lv_iload_n hx hb dX12_number_45 rfl (lv_at hl 4 rfl) ?_
          obtain ⟨z10_, h⟩ := h
          refine lv_irem hx hb dX12_number_46 z10_ ?_
          refine lv_if_eq (tgt := 63) hx hb dX12_number_47 (by decide) (fun c11_ => ?_) (fun c11_ => ?_)
          · replace h := h.1 c11_
            refine lv_aload_n hx hb dX12_number_63 rfl (lv_at hl 1 rfl) ?_
            refine q_callV X Y hl (cm_X12_next h) mt_X12_next mi_X12_next ml_X12_341 (ci := 12) rfl k5_ (by decide) rfl rfl (by first | exact Nat.le_of_ble_eq_true rfl | simp [q_cat, q_catI, q_catJ, q_catR]) ⟨Nat.le_of_ble_eq_true rfl, Nat.le_of_ble_eq_true rfl⟩ ⟨Nat.le_of_ble_eq_true rfl, Nat.le_of_ble_eq_true rfl⟩ dX12_number_64 (fun r12_ S13_ H locs hp Y => ?_)
            obtain ⟨rfl, h⟩ := hp
            refine W.eq (g2 := F0 m 67 ls []) rfl ?_
            exact cb_X12_number_67 X Y (lv_sub hl [0] rfl) h
          · replace h := h.2 c11_
            exact cb_X12_number_50 X Y (lv_sub hl [1, 0] rfl) h
    · replace h := h.2 c7_
      refine lv_aload_n hx hb dX12_number_17 rfl (lv_at hl 0 rfl) ?_
      refine lv_iconst (v := 1) hx hb dX12_number_18 (by decide) ?_
      refine q_callV X Y hl (cm_X12_failHere h) mt_X12_failHere mi_X12_failHere ml_X12_338 (ci := 12) rfl k5_ (by decide) rfl rfl (by first | exact Nat.le_of_ble_eq_true rfl | simp [q_cat, q_catI, q_catJ, q_catR]) ⟨Nat.le_of_ble_eq_true rfl, Nat.le_of_ble_eq_true rfl⟩ ⟨Nat.le_of_ble_eq_true rfl, Nat.le_of_ble_eq_true rfl⟩ dX12_number_19 (fun r14_ S15_ H locs hp Y => ?_)
      obtain ⟨x16_, rfl, h⟩ := hp
      refine W.eq (g2 := F0 m 22 ls [.int x16_]) rfl ?_
      refine lv_pop hx hb dX12_number_22 rfl ?_
      refine lv_iconst (v := 0) hx hb dX12_number_23 (by decide) ?_
      exact q_iret X Y rfl (Nat.le_refl _) (Nat.le_refl _) h dX12_number_24
  · replace h := h.2 c6_
    refine lv_iconst (v := 0) hx hb dX12_number_7 (by decide) ?_
    exact q_iret X Y rfl (Nat.le_refl _) (Nat.le_refl _) h dX12_number_8
-- X12_isLike
theorem dX12_isLike_0 : decode cX12_isLike 0 = .ok (.iload_n 2, 1) := by decide +kernel
theorem dX12_isLike_1 : decode cX12_isLike 1 = .ok (.aload_n 0, 1) := by decide +kernel
theorem dX12_isLike_2 : decode cX12_isLike 2 = .ok (.getfield 307, 3) := by decide +kernel
theorem dX12_isLike_5 : decode cX12_isLike 5 = .ok (.if_icmp .ne 7, 3) := by decide +kernel
theorem dX12_isLike_8 : decode cX12_isLike 8 = .ok (.iconst 1, 1) := by decide +kernel
theorem dX12_isLike_9 : decode cX12_isLike 9 = .ok (.goto 4, 3) := by decide +kernel
theorem dX12_isLike_12 : decode cX12_isLike 12 = .ok (.iconst 0, 1) := by decide +kernel
theorem dX12_isLike_13 : decode cX12_isLike 13 = .ok (.istore_n 3, 1) := by decide +kernel
theorem dX12_isLike_14 : decode cX12_isLike 14 = .ok (.iconst 0, 1) := by decide +kernel
theorem dX12_isLike_15 : decode cX12_isLike 15 = .ok (.istore 4, 2) := by decide +kernel
theorem dX12_isLike_17 : decode cX12_isLike 17 = .ok (.iload 4, 2) := by decide +kernel
theorem dX12_isLike_19 : decode cX12_isLike 19 = .ok (.iload_n 2, 1) := by decide +kernel
theorem dX12_isLike_20 : decode cX12_isLike 20 = .ok (.if_icmp .ge 43, 3) := by decide +kernel
theorem dX12_isLike_23 : decode cX12_isLike 23 = .ok (.iload_n 3, 1) := by decide +kernel
theorem dX12_isLike_24 : decode cX12_isLike 24 = .ok (.ifCond .eq 39, 3) := by decide +kernel
theorem dX12_isLike_27 : decode cX12_isLike 27 = .ok (.aload_n 0, 1) := by decide +kernel
theorem dX12_isLike_28 : decode cX12_isLike 28 = .ok (.getfield 20, 3) := by decide +kernel
theorem dX12_isLike_31 : decode cX12_isLike 31 = .ok (.iload_n 1, 1) := by decide +kernel
theorem dX12_isLike_32 : decode cX12_isLike 32 = .ok (.iload 4, 2) := by decide +kernel
theorem dX12_isLike_34 : decode cX12_isLike 34 = .ok (.iadd, 1) := by decide +kernel
theorem dX12_isLike_35 : decode cX12_isLike 35 = .ok (.baload, 1) := by decide +kernel
theorem dX12_isLike_36 : decode cX12_isLike 36 = .ok (.aload_n 0, 1) := by decide +kernel
theorem dX12_isLike_37 : decode cX12_isLike 37 = .ok (.getfield 13, 3) := by decide +kernel
theorem dX12_isLike_40 : decode cX12_isLike 40 = .ok (.aload_n 0, 1) := by decide +kernel
theorem dX12_isLike_41 : decode cX12_isLike 41 = .ok (.getfield 290, 3) := by decide +kernel
theorem dX12_isLike_44 : decode cX12_isLike 44 = .ok (.iload 4, 2) := by decide +kernel
theorem dX12_isLike_46 : decode cX12_isLike 46 = .ok (.iadd, 1) := by decide +kernel
theorem dX12_isLike_47 : decode cX12_isLike 47 = .ok (.baload, 1) := by decide +kernel
theorem dX12_isLike_48 : decode cX12_isLike 48 = .ok (.if_icmp .ne 7, 3) := by decide +kernel
theorem dX12_isLike_51 : decode cX12_isLike 51 = .ok (.iconst 1, 1) := by decide +kernel
theorem dX12_isLike_52 : decode cX12_isLike 52 = .ok (.goto 4, 3) := by decide +kernel
theorem dX12_isLike_55 : decode cX12_isLike 55 = .ok (.iconst 0, 1) := by decide +kernel
theorem dX12_isLike_56 : decode cX12_isLike 56 = .ok (.istore_n 3, 1) := by decide +kernel
theorem dX12_isLike_57 : decode cX12_isLike 57 = .ok (.iinc 4 1, 3) := by decide +kernel
theorem dX12_isLike_60 : decode cX12_isLike 60 = .ok (.goto (-43), 3) := by decide +kernel
theorem dX12_isLike_63 : decode cX12_isLike 63 = .ok (.iload_n 3, 1) := by decide +kernel
theorem dX12_isLike_64 : decode cX12_isLike 64 = .ok (.ireturn, 1) := by decide +kernel
def wb_X12_isLike_56 (B17 : q_S → Nat → Int32 → Int32 → Int32 → Int32 → Prop) (S : q_S) (a0 : Nat) (x1 : Int32) (x2 : Int32) (x4 : Int32) (xs0 : Int32) (Q : Option Value → q_S → Prop) : Prop := B17 S a0 x1 x2 xs0 (x4 + 1)
set_option maxHeartbeats 4000000 in
set_option maxRecDepth 100000 in
theorem cb_X12_isLike_56 {p : Program} {l : Launch} {e : Env} {s : State} {m : MethodId} {args : Array Value} {below : List Frame} {meth : Method} {c : Code} {D : va_G} {cy : Nat → ClassId} {lo : Nat} {B17 : q_S → Nat → Int32 → Int32 → Int32 → Int32 → Prop} {S : q_S} {a0 : Nat} {x1 : Int32} {x2 : Int32} {x4 : Int32} {xs0 : Int32} {Q : Option Value → q_S → Prop} {H : Heap} {locs : List Loc} {ls : Array Slot} (X : q_X p s m args meth c RX12 cX12_isLike 5 (some .boolean) D cy lo) (hB17 : ∀ (S : q_S) (a0 : Nat) (x1 : Int32) (x2 : Int32) (x3 : Int32) (x4 : Int32) (H : Heap) (locs : List Loc) (ls : Array Slot), B17 S a0 x1 x2 x3 x4 → q_Y D cy lo s S H locs → lv_has ls 5 [(0, .ref a0), (1, .int x1), (2, .int x2), (3, .int x3), (4, .int x4)] → W p l e ({ frames := 0, cells := 0, slots := 0, locals := 0 } : Room) s m args below meth c H locs 0 0 (MQ below (q_Q D cy lo Q) args s 0 0 (fun q => lo ≤ q)) (F0 m 17 ls [])) (Y : q_Y D cy lo s S H locs) (hl : lv_has ls 5 [(0, .ref a0), (1, .int x1), (2, .int x2), (4, .int x4)]) (h : wb_X12_isLike_56 B17 S a0 x1 x2 x4 xs0 Q) : W p l e ({ frames := 0, cells := 0, slots := 0, locals := 0 } : Room) s m args below meth c H locs 0 0 (MQ below (q_Q D cy lo Q) args s 0 0 (fun q => lo ≤ q)) (F0 m 56 ls [.int xs0]) := by
  have hx := X.1
  have hb := X.2.1
  unfold wb_X12_isLike_56 at h
  refine lv_istore_n (i := 3) (lv' := [(3, .int xs0), (0, .ref a0), (1, .int x1), (2, .int x2), (4, .int x4)]) hx hb dX12_isLike_56 rfl hl (by decide) (by first | rfl | simp [q_cat, q_catI, q_catJ, q_catR]) (fun ls hl => ?_)
  refine lv_iinc (v := (x4 + 1)) (lv' := [(4, .int (x4 + 1)), (3, .int xs0), (0, .ref a0), (1, .int x1), (2, .int x2)]) hx hb dX12_isLike_57 hl (k := 4) rfl (by first | rfl | decide) (by decide) (by first | rfl | simp [q_cat, q_catI, q_catJ, q_catR]) (fun ls hl => ?_)
  refine lv_goto (tgt := 17) hx hb dX12_isLike_60 (by decide) ?_
  exact hB17 _ _ _ _ _ _ _ _ _ h Y (lv_sub hl [2, 3, 4, 1, 0] rfl)
def wb_X12_isLike_63  (S : q_S) (x3 : Int32) (Q : Option Value → q_S → Prop) : Prop := (narrow .boolean (.int x3) = .int x3 ∧ Q (some (.int x3)) S)
set_option maxHeartbeats 4000000 in
set_option maxRecDepth 100000 in
theorem cb_X12_isLike_63 {p : Program} {l : Launch} {e : Env} {s : State} {m : MethodId} {args : Array Value} {below : List Frame} {meth : Method} {c : Code} {D : va_G} {cy : Nat → ClassId} {lo : Nat}  {S : q_S} {x3 : Int32} {Q : Option Value → q_S → Prop} {H : Heap} {locs : List Loc} {ls : Array Slot} (X : q_X p s m args meth c RX12 cX12_isLike 5 (some .boolean) D cy lo)  (Y : q_Y D cy lo s S H locs) (hl : lv_has ls 5 [(3, .int x3)]) (h : wb_X12_isLike_63 S x3 Q) : W p l e ({ frames := 0, cells := 0, slots := 0, locals := 0 } : Room) s m args below meth c H locs 0 0 (MQ below (q_Q D cy lo Q) args s 0 0 (fun q => lo ≤ q)) (F0 m 63 ls []) := by
  have hx := X.1
  have hb := X.2.1
  unfold wb_X12_isLike_63 at h
  refine lv_iload_n hx hb dX12_isLike_63 rfl (lv_at hl 0 rfl) ?_
  exact q_iret X Y h.1 (Nat.le_refl _) (Nat.le_refl _) h.2 dX12_isLike_64
def wb_X12_isLike_17 (B17 : q_S → Nat → Int32 → Int32 → Int32 → Int32 → Prop) (S : q_S) (a0 : Nat) (x1 : Int32) (x2 : Int32) (x3 : Int32) (x4 : Int32) (Q : Option Value → q_S → Prop) : Prop := ((x2 ≤ x4 → (wb_X12_isLike_63 S x3 Q)) ∧ (¬ x2 ≤ x4 → (((x3 = 0 → (wb_X12_isLike_63 S x3 Q)) ∧ (¬ x3 = 0 → (q_K S a0 = 13 ∧ (∃ a4_ : Nat, (q_P S 2421 a0) = some a4_ ∧ (q_K S a4_ = 20 ∧ (vp_in (x1 + x4) (q_N S a4_) ∧ (∃ a8_ : Nat, (q_P S 2402 a0) = some a8_ ∧ (q_K S a8_ = 20 ∧ (vp_in ((q_I S 2409 a0) + x4) (q_N S a8_) ∧ (((¬ (q_A S a4_ (x1 + x4).toNatClampNeg) = (q_A S a8_ ((q_I S 2409 a0) + x4).toNatClampNeg) → (wb_X12_isLike_56 B17 S a0 x1 x2 x4 (0 : Int32) Q)) ∧ ((q_A S a4_ (x1 + x4).toNatClampNeg) = (q_A S a8_ ((q_I S 2409 a0) + x4).toNatClampNeg) → (wb_X12_isLike_56 B17 S a0 x1 x2 x4 (1 : Int32) Q))))))))))))))))
set_option maxHeartbeats 4000000 in
set_option maxRecDepth 100000 in
theorem cb_X12_isLike_17 {p : Program} {l : Launch} {e : Env} {s : State} {m : MethodId} {args : Array Value} {below : List Frame} {meth : Method} {c : Code} {D : va_G} {cy : Nat → ClassId} {lo : Nat} {B17 : q_S → Nat → Int32 → Int32 → Int32 → Int32 → Prop} {S : q_S} {a0 : Nat} {x1 : Int32} {x2 : Int32} {x3 : Int32} {x4 : Int32} {Q : Option Value → q_S → Prop} {H : Heap} {locs : List Loc} {ls : Array Slot} (X : q_X p s m args meth c RX12 cX12_isLike 5 (some .boolean) D cy lo) (hB17 : ∀ (S : q_S) (a0 : Nat) (x1 : Int32) (x2 : Int32) (x3 : Int32) (x4 : Int32) (H : Heap) (locs : List Loc) (ls : Array Slot), B17 S a0 x1 x2 x3 x4 → q_Y D cy lo s S H locs → lv_has ls 5 [(0, .ref a0), (1, .int x1), (2, .int x2), (3, .int x3), (4, .int x4)] → W p l e ({ frames := 0, cells := 0, slots := 0, locals := 0 } : Room) s m args below meth c H locs 0 0 (MQ below (q_Q D cy lo Q) args s 0 0 (fun q => lo ≤ q)) (F0 m 17 ls [])) (Y : q_Y D cy lo s S H locs) (hl : lv_has ls 5 [(0, .ref a0), (1, .int x1), (2, .int x2), (3, .int x3), (4, .int x4)]) (h : wb_X12_isLike_17 B17 S a0 x1 x2 x3 x4 Q) : W p l e ({ frames := 0, cells := 0, slots := 0, locals := 0 } : Room) s m args below meth c H locs 0 0 (MQ below (q_Q D cy lo Q) args s 0 0 (fun q => lo ≤ q)) (F0 m 17 ls []) := by
  have hx := X.1
  have hb := X.2.1
  unfold wb_X12_isLike_17 at h
  refine lv_iload hx hb dX12_isLike_17 (lv_at hl 4 rfl) ?_
  refine lv_iload_n hx hb dX12_isLike_19 rfl (lv_at hl 2 rfl) ?_
  refine lv_icmp_ge (tgt := 63) hx hb dX12_isLike_20 (by decide) (fun c1_ => ?_) (fun c1_ => ?_)
  · replace h := h.1 c1_
    exact cb_X12_isLike_63 X Y (lv_sub hl [3] rfl) h
  · replace h := h.2 c1_
    refine lv_iload_n hx hb dX12_isLike_23 rfl (lv_at hl 3 rfl) ?_
    refine lv_if_eq (tgt := 63) hx hb dX12_isLike_24 (by decide) (fun c2_ => ?_) (fun c2_ => ?_)
    · replace h := h.1 c2_
      exact cb_X12_isLike_63 X Y (lv_sub hl [3] rfl) h
    · replace h := h.2 c2_
      refine lv_aload_n hx hb dX12_isLike_27 rfl (lv_at hl 0 rfl) ?_
      obtain ⟨k3_, h⟩ := h
      refine q_getP X Y kX12 21 rfl fl_X12_20 k3_ rfl dX12_isLike_28 ?_
      refine lv_iload_n hx hb dX12_isLike_31 rfl (lv_at hl 1 rfl) ?_
      refine lv_iload hx hb dX12_isLike_32 (lv_at hl 4 rfl) ?_
      refine lv_iadd hx hb dX12_isLike_34 ?_
      obtain ⟨a4_, e5_, h⟩ := h
      refine q_nn [.int (x1 + x4)] e5_ ?_
      obtain ⟨k6_, h⟩ := h
      obtain ⟨i7_, h⟩ := h
      refine q_bld X Y k6_ i7_ dX12_isLike_35 ?_
      refine lv_aload_n hx hb dX12_isLike_36 rfl (lv_at hl 0 rfl) ?_
      refine q_getP X Y kX12 2 rfl fl_X12_13 k3_ rfl dX12_isLike_37 ?_
      refine lv_aload_n hx hb dX12_isLike_40 rfl (lv_at hl 0 rfl) ?_
      refine q_getI X Y kX12 9 rfl fl_X12_290 k3_ dX12_isLike_41 ?_
      refine lv_iload hx hb dX12_isLike_44 (lv_at hl 4 rfl) ?_
      refine lv_iadd hx hb dX12_isLike_46 ?_
      obtain ⟨a8_, e9_, h⟩ := h
      refine q_nn [.int ((q_I S 2409 a0) + x4)] e9_ ?_
      obtain ⟨k10_, h⟩ := h
      obtain ⟨i11_, h⟩ := h
      refine q_bld X Y k10_ i11_ dX12_isLike_47 ?_
      refine lv_icmp_ne (tgt := 55) hx hb dX12_isLike_48 (by decide) (fun c12_ => ?_) (fun c12_ => ?_)
      · replace h := h.1 c12_
        refine lv_iconst (v := 0) hx hb dX12_isLike_55 (by decide) ?_
        exact cb_X12_isLike_56 X hB17 Y (lv_sub hl [0, 1, 2, 4] rfl) h
      · replace h := h.2 c12_
        refine lv_iconst (v := 1) hx hb dX12_isLike_51 (by decide) ?_
        refine lv_goto (tgt := 56) hx hb dX12_isLike_52 (by decide) ?_
        exact cb_X12_isLike_56 X hB17 Y (lv_sub hl [0, 1, 2, 4] rfl) h
def wl_X12_isLike_17  : Nat → q_S → Nat → Int32 → Int32 → Int32 → Int32 → (Option Value → q_S → Prop) → Prop
  | 0, _, _, _, _, _, _, _ => False
  | n + 1, S, a0, x1, x2, x3, x4, Q => wb_X12_isLike_17 (fun S a0 x1 x2 x3 x4 => wl_X12_isLike_17 n S a0 x1 x2 x3 x4 Q) S a0 x1 x2 x3 x4 Q
set_option maxHeartbeats 4000000 in
set_option maxRecDepth 100000 in
theorem cl_X12_isLike_17 {p : Program} {l : Launch} {e : Env} {s : State} {m : MethodId} {args : Array Value} {below : List Frame} {meth : Method} {c : Code} {D : va_G} {cy : Nat → ClassId} {lo : Nat}  {Q : Option Value → q_S → Prop} (X : q_X p s m args meth c RX12 cX12_isLike 5 (some .boolean) D cy lo)  : ∀ (n : Nat) (S : q_S) (a0 : Nat) (x1 : Int32) (x2 : Int32) (x3 : Int32) (x4 : Int32) (H : Heap) (locs : List Loc) (ls : Array Slot), wl_X12_isLike_17 n S a0 x1 x2 x3 x4 Q → q_Y D cy lo s S H locs → lv_has ls 5 [(0, .ref a0), (1, .int x1), (2, .int x2), (3, .int x3), (4, .int x4)] → W p l e ({ frames := 0, cells := 0, slots := 0, locals := 0 } : Room) s m args below meth c H locs 0 0 (MQ below (q_Q D cy lo Q) args s 0 0 (fun q => lo ≤ q)) (F0 m 17 ls []) := by
  intro n
  induction n with
  | zero => intro S a0 x1 x2 x3 x4 H locs ls h; exact absurd h id
  | succ n ih => intro S a0 x1 x2 x3 x4 H locs ls h Y hl; exact cb_X12_isLike_17 X ih Y hl h
def wb_X12_isLike_13  (S : q_S) (a0 : Nat) (x1 : Int32) (x2 : Int32) (xs0 : Int32) (Q : Option Value → q_S → Prop) : Prop := ∃ n13_ : Nat, wl_X12_isLike_17 n13_ S a0 x1 x2 xs0 (0 : Int32) Q
set_option maxHeartbeats 4000000 in
set_option maxRecDepth 100000 in
theorem cb_X12_isLike_13 {p : Program} {l : Launch} {e : Env} {s : State} {m : MethodId} {args : Array Value} {below : List Frame} {meth : Method} {c : Code} {D : va_G} {cy : Nat → ClassId} {lo : Nat}  {S : q_S} {a0 : Nat} {x1 : Int32} {x2 : Int32} {xs0 : Int32} {Q : Option Value → q_S → Prop} {H : Heap} {locs : List Loc} {ls : Array Slot} (X : q_X p s m args meth c RX12 cX12_isLike 5 (some .boolean) D cy lo)  (Y : q_Y D cy lo s S H locs) (hl : lv_has ls 5 [(0, .ref a0), (1, .int x1), (2, .int x2)]) (h : wb_X12_isLike_13 S a0 x1 x2 xs0 Q) : W p l e ({ frames := 0, cells := 0, slots := 0, locals := 0 } : Room) s m args below meth c H locs 0 0 (MQ below (q_Q D cy lo Q) args s 0 0 (fun q => lo ≤ q)) (F0 m 13 ls [.int xs0]) := by
  have hx := X.1
  have hb := X.2.1
  unfold wb_X12_isLike_13 at h
  refine lv_istore_n (i := 3) (lv' := [(3, .int xs0), (0, .ref a0), (1, .int x1), (2, .int x2)]) hx hb dX12_isLike_13 rfl hl (by decide) (by first | rfl | simp [q_cat, q_catI, q_catJ, q_catR]) (fun ls hl => ?_)
  refine lv_iconst (v := 0) hx hb dX12_isLike_14 (by decide) ?_
  refine lv_istore (i := 4) (lv' := [(4, .int (0 : Int32)), (3, .int xs0), (0, .ref a0), (1, .int x1), (2, .int x2)]) hx hb dX12_isLike_15 hl (by decide) (by first | rfl | simp [q_cat, q_catI, q_catJ, q_catR]) (fun ls hl => ?_)
  obtain ⟨n13_, h⟩ := h
  exact cl_X12_isLike_17 X n13_ _ _ _ _ _ _ _ _ _ h Y (lv_sub hl [2, 3, 4, 1, 0] rfl)
def wm_X12_isLike (S : q_S) (a0 : Nat) (x1 : Int32) (x2 : Int32) (Q : Option Value → q_S → Prop) : Prop := q_K S a0 = 13 ∧ (((¬ x2 = (q_I S 2410 a0) → (wb_X12_isLike_13 S a0 x1 x2 (0 : Int32) Q)) ∧ (x2 = (q_I S 2410 a0) → (wb_X12_isLike_13 S a0 x1 x2 (1 : Int32) Q))))
set_option maxHeartbeats 4000000 in
set_option maxRecDepth 100000 in
theorem cm_X12_isLike {l : Launch} {D : va_G} {cy : Nat → ClassId} {lo : Nat} {S : q_S} {a0 : Nat} {x1 : Int32} {x2 : Int32} {Q : Option Value → q_S → Prop} (h : wm_X12_isLike S a0 x1 x2 Q) : q_Met l D cy lo yX12_isLike cX12_isLike 5 (some .boolean) 0 0 0 0 [.ref a0, .int x1, .int x2] S Q := by
  refine q_body (by decide) (by first | exact Nat.le_of_ble_eq_true rfl | simp [lg_sl, q_cat, q_catI, q_catJ, q_catR]) ?_
  intro p e s m below meth c ls X hnm Y hl
  have hx := X.1
  have hb := X.2.1
  have hl : lv_has ls 5 [(0, .ref a0), (1, .int x1), (2, .int x2)] := by first | exact hl | simpa [lv_args, q_cat, q_catI, q_catJ, q_catR] using hl
  generalize hargs : ([.ref a0, .int x1, .int x2] : List Value).toArray = args at X ⊢
  unfold wm_X12_isLike at h
  refine lv_iload_n hx hb dX12_isLike_0 rfl (lv_at hl 2 rfl) ?_
  refine lv_aload_n hx hb dX12_isLike_1 rfl (lv_at hl 0 rfl) ?_
  obtain ⟨k14_, h⟩ := h
  refine q_getI X Y kX12 10 rfl fl_X12_307 k14_ dX12_isLike_2 ?_
  refine lv_icmp_ne (tgt := 12) hx hb dX12_isLike_5 (by decide) (fun c15_ => ?_) (fun c15_ => ?_)
  · replace h := h.1 c15_
    refine lv_iconst (v := 0) hx hb dX12_isLike_12 (by decide) ?_
    exact cb_X12_isLike_13 X Y (lv_sub hl [0, 1, 2] rfl) h
  · replace h := h.2 c15_
    refine lv_iconst (v := 1) hx hb dX12_isLike_8 (by decide) ?_
    refine lv_goto (tgt := 13) hx hb dX12_isLike_9 (by decide) ?_
    exact cb_X12_isLike_13 X Y (lv_sub hl [0, 1, 2] rfl) h
-- X12_keep
theorem fl_X12_347 : Cond.fieldLink RX12 347 "PartitionWorksModel" "lettersMany" "I" ∈ q_G := q_tb (i := 1756) (by decide +kernel) (by decide +kernel)
theorem dX12_keep_0 : decode cX12_keep 0 = .ok (.iconst 0, 1) := by decide +kernel
theorem dX12_keep_1 : decode cX12_keep 1 = .ok (.istore_n 1, 1) := by decide +kernel
theorem dX12_keep_2 : decode cX12_keep 2 = .ok (.iload_n 1, 1) := by decide +kernel
theorem dX12_keep_3 : decode cX12_keep 3 = .ok (.aload_n 0, 1) := by decide +kernel
theorem dX12_keep_4 : decode cX12_keep 4 = .ok (.getfield 307, 3) := by decide +kernel
theorem dX12_keep_7 : decode cX12_keep 7 = .ok (.if_icmp .ge 31, 3) := by decide +kernel
theorem dX12_keep_10 : decode cX12_keep 10 = .ok (.aload_n 0, 1) := by decide +kernel
theorem dX12_keep_11 : decode cX12_keep 11 = .ok (.getfield 20, 3) := by decide +kernel
theorem dX12_keep_14 : decode cX12_keep 14 = .ok (.aload_n 0, 1) := by decide +kernel
theorem dX12_keep_15 : decode cX12_keep 15 = .ok (.getfield 347, 3) := by decide +kernel
theorem dX12_keep_18 : decode cX12_keep 18 = .ok (.iload_n 1, 1) := by decide +kernel
theorem dX12_keep_19 : decode cX12_keep 19 = .ok (.iadd, 1) := by decide +kernel
theorem dX12_keep_20 : decode cX12_keep 20 = .ok (.aload_n 0, 1) := by decide +kernel
theorem dX12_keep_21 : decode cX12_keep 21 = .ok (.getfield 13, 3) := by decide +kernel
theorem dX12_keep_24 : decode cX12_keep 24 = .ok (.aload_n 0, 1) := by decide +kernel
theorem dX12_keep_25 : decode cX12_keep 25 = .ok (.getfield 290, 3) := by decide +kernel
theorem dX12_keep_28 : decode cX12_keep 28 = .ok (.iload_n 1, 1) := by decide +kernel
theorem dX12_keep_29 : decode cX12_keep 29 = .ok (.iadd, 1) := by decide +kernel
theorem dX12_keep_30 : decode cX12_keep 30 = .ok (.baload, 1) := by decide +kernel
theorem dX12_keep_31 : decode cX12_keep 31 = .ok (.bastore, 1) := by decide +kernel
theorem dX12_keep_32 : decode cX12_keep 32 = .ok (.iinc 1 1, 3) := by decide +kernel
theorem dX12_keep_35 : decode cX12_keep 35 = .ok (.goto (-33), 3) := by decide +kernel
theorem dX12_keep_38 : decode cX12_keep 38 = .ok (.aload_n 0, 1) := by decide +kernel
theorem dX12_keep_39 : decode cX12_keep 39 = .ok (.dup, 1) := by decide +kernel
theorem dX12_keep_40 : decode cX12_keep 40 = .ok (.getfield 347, 3) := by decide +kernel
theorem dX12_keep_43 : decode cX12_keep 43 = .ok (.aload_n 0, 1) := by decide +kernel
theorem dX12_keep_44 : decode cX12_keep 44 = .ok (.getfield 307, 3) := by decide +kernel
theorem dX12_keep_47 : decode cX12_keep 47 = .ok (.iadd, 1) := by decide +kernel
theorem dX12_keep_48 : decode cX12_keep 48 = .ok (.putfield 347, 3) := by decide +kernel
theorem dX12_keep_51 : decode cX12_keep 51 = .ok (.aload_n 0, 1) := by decide +kernel
theorem dX12_keep_52 : decode cX12_keep 52 = .ok (.getfield 347, 3) := by decide +kernel
theorem dX12_keep_55 : decode cX12_keep 55 = .ok (.aload_n 0, 1) := by decide +kernel
theorem dX12_keep_56 : decode cX12_keep 56 = .ok (.getfield 307, 3) := by decide +kernel
theorem dX12_keep_59 : decode cX12_keep 59 = .ok (.isub, 1) := by decide +kernel
theorem dX12_keep_60 : decode cX12_keep 60 = .ok (.ireturn, 1) := by decide +kernel
def wb_X12_keep_2 (B2 : q_S → Nat → Int32 → Prop) (S : q_S) (a0 : Nat) (x1 : Int32) (Q : Option Value → q_S → Prop) : Prop := q_K S a0 = 13 ∧ ((((q_I S 2410 a0) ≤ x1 → (Q (some (.int ((q_I (qs_I S 2422 a0 ((q_I S 2422 a0) + (q_I S 2410 a0))) 2422 a0) - (q_I (qs_I S 2422 a0 ((q_I S 2422 a0) + (q_I S 2410 a0))) 2410 a0)))) (qs_I S 2422 a0 ((q_I S 2422 a0) + (q_I S 2410 a0))))) ∧ (¬ (q_I S 2410 a0) ≤ x1 → (∃ a3_ : Nat, (q_P S 2402 a0) = some a3_ ∧ (q_K S a3_ = 20 ∧ (vp_in ((q_I S 2409 a0) + x1) (q_N S a3_) ∧ (∃ a7_ : Nat, (q_P S 2421 a0) = some a7_ ∧ (q_K S a7_ = 20 ∧ (vp_in ((q_I S 2422 a0) + x1) (q_N S a7_) ∧ (B2 (qs_A S a7_ ((q_I S 2422 a0) + x1).toNatClampNeg (vp_nar .byte (q_A S a3_ ((q_I S 2409 a0) + x1).toNatClampNeg))) a0 (x1 + 1)))))))))))
set_option maxHeartbeats 4000000 in
set_option maxRecDepth 100000 in
theorem cb_X12_keep_2 {p : Program} {l : Launch} {e : Env} {s : State} {m : MethodId} {args : Array Value} {below : List Frame} {meth : Method} {c : Code} {D : va_G} {cy : Nat → ClassId} {lo : Nat} {B2 : q_S → Nat → Int32 → Prop} {S : q_S} {a0 : Nat} {x1 : Int32} {Q : Option Value → q_S → Prop} {H : Heap} {locs : List Loc} {ls : Array Slot} (X : q_X p s m args meth c RX12 cX12_keep 2 (some .int) D cy lo) (hB2 : ∀ (S : q_S) (a0 : Nat) (x1 : Int32) (H : Heap) (locs : List Loc) (ls : Array Slot), B2 S a0 x1 → q_Y D cy lo s S H locs → lv_has ls 2 [(0, .ref a0), (1, .int x1)] → W p l e ({ frames := 0, cells := 0, slots := 0, locals := 0 } : Room) s m args below meth c H locs 0 0 (MQ below (q_Q D cy lo Q) args s 0 0 (fun q => lo ≤ q)) (F0 m 2 ls [])) (Y : q_Y D cy lo s S H locs) (hl : lv_has ls 2 [(0, .ref a0), (1, .int x1)]) (h : wb_X12_keep_2 B2 S a0 x1 Q) : W p l e ({ frames := 0, cells := 0, slots := 0, locals := 0 } : Room) s m args below meth c H locs 0 0 (MQ below (q_Q D cy lo Q) args s 0 0 (fun q => lo ≤ q)) (F0 m 2 ls []) := by
  have hx := X.1
  have hb := X.2.1
  unfold wb_X12_keep_2 at h
  refine lv_iload_n hx hb dX12_keep_2 rfl (lv_at hl 1 rfl) ?_
  refine lv_aload_n hx hb dX12_keep_3 rfl (lv_at hl 0 rfl) ?_
  obtain ⟨k1_, h⟩ := h
  refine q_getI X Y kX12 10 rfl fl_X12_307 k1_ dX12_keep_4 ?_
  refine lv_icmp_ge (tgt := 38) hx hb dX12_keep_7 (by decide) (fun c2_ => ?_) (fun c2_ => ?_)
  · replace h := h.1 c2_
    refine lv_aload_n hx hb dX12_keep_38 rfl (lv_at hl 0 rfl) ?_
    refine lv_dup hx hb dX12_keep_39 rfl ?_
    refine q_getI X Y kX12 22 rfl fl_X12_347 k1_ dX12_keep_40 ?_
    refine lv_aload_n hx hb dX12_keep_43 rfl (lv_at hl 0 rfl) ?_
    refine q_getI X Y kX12 10 rfl fl_X12_307 k1_ dX12_keep_44 ?_
    refine lv_iadd hx hb dX12_keep_47 ?_
    refine q_putI X Y kX12 22 rfl fl_X12_347 k1_ .int rfl ⟨rfl, rfl⟩ rfl dX12_keep_48 (fun H locs Y => ?_)
    refine lv_aload_n hx hb dX12_keep_51 rfl (lv_at hl 0 rfl) ?_
    refine q_getI X Y kX12 22 rfl fl_X12_347 k1_ dX12_keep_52 ?_
    refine lv_aload_n hx hb dX12_keep_55 rfl (lv_at hl 0 rfl) ?_
    refine q_getI X Y kX12 10 rfl fl_X12_307 k1_ dX12_keep_56 ?_
    refine lv_isub hx hb dX12_keep_59 ?_
    exact q_iret X Y rfl (Nat.le_refl _) (Nat.le_refl _) h dX12_keep_60
  · replace h := h.2 c2_
    refine lv_aload_n hx hb dX12_keep_10 rfl (lv_at hl 0 rfl) ?_
    refine q_getP X Y kX12 21 rfl fl_X12_20 k1_ rfl dX12_keep_11 ?_
    refine lv_aload_n hx hb dX12_keep_14 rfl (lv_at hl 0 rfl) ?_
    refine q_getI X Y kX12 22 rfl fl_X12_347 k1_ dX12_keep_15 ?_
    refine lv_iload_n hx hb dX12_keep_18 rfl (lv_at hl 1 rfl) ?_
    refine lv_iadd hx hb dX12_keep_19 ?_
    refine lv_aload_n hx hb dX12_keep_20 rfl (lv_at hl 0 rfl) ?_
    refine q_getP X Y kX12 2 rfl fl_X12_13 k1_ rfl dX12_keep_21 ?_
    refine lv_aload_n hx hb dX12_keep_24 rfl (lv_at hl 0 rfl) ?_
    refine q_getI X Y kX12 9 rfl fl_X12_290 k1_ dX12_keep_25 ?_
    refine lv_iload_n hx hb dX12_keep_28 rfl (lv_at hl 1 rfl) ?_
    refine lv_iadd hx hb dX12_keep_29 ?_
    obtain ⟨a3_, e4_, h⟩ := h
    refine q_nn [.int ((q_I S 2409 a0) + x1)] e4_ ?_
    obtain ⟨k5_, h⟩ := h
    obtain ⟨i6_, h⟩ := h
    refine q_bld X Y k5_ i6_ dX12_keep_30 ?_
    obtain ⟨a7_, e8_, h⟩ := h
    refine q_nn [.int (q_A S a3_ ((q_I S 2409 a0) + x1).toNatClampNeg), .int ((q_I S 2422 a0) + x1)] e8_ ?_
    obtain ⟨k9_, h⟩ := h
    obtain ⟨i10_, h⟩ := h
    refine q_bst X Y k9_ i10_ dX12_keep_31 (fun H locs Y => ?_)
    refine lv_iinc (v := (x1 + 1)) (lv' := [(1, .int (x1 + 1)), (0, .ref a0)]) hx hb dX12_keep_32 hl (k := 1) rfl (by first | rfl | decide) (by decide) (by first | rfl | simp [q_cat, q_catI, q_catJ, q_catR]) (fun ls hl => ?_)
    refine lv_goto (tgt := 2) hx hb dX12_keep_35 (by decide) ?_
    exact hB2 _ _ _ _ _ _ h Y (lv_sub hl [1, 0] rfl)
def wl_X12_keep_2  : Nat → q_S → Nat → Int32 → (Option Value → q_S → Prop) → Prop
  | 0, _, _, _, _ => False
  | n + 1, S, a0, x1, Q => wb_X12_keep_2 (fun S a0 x1 => wl_X12_keep_2 n S a0 x1 Q) S a0 x1 Q
set_option maxHeartbeats 4000000 in
set_option maxRecDepth 100000 in
theorem cl_X12_keep_2 {p : Program} {l : Launch} {e : Env} {s : State} {m : MethodId} {args : Array Value} {below : List Frame} {meth : Method} {c : Code} {D : va_G} {cy : Nat → ClassId} {lo : Nat}  {Q : Option Value → q_S → Prop} (X : q_X p s m args meth c RX12 cX12_keep 2 (some .int) D cy lo)  : ∀ (n : Nat) (S : q_S) (a0 : Nat) (x1 : Int32) (H : Heap) (locs : List Loc) (ls : Array Slot), wl_X12_keep_2 n S a0 x1 Q → q_Y D cy lo s S H locs → lv_has ls 2 [(0, .ref a0), (1, .int x1)] → W p l e ({ frames := 0, cells := 0, slots := 0, locals := 0 } : Room) s m args below meth c H locs 0 0 (MQ below (q_Q D cy lo Q) args s 0 0 (fun q => lo ≤ q)) (F0 m 2 ls []) := by
  intro n
  induction n with
  | zero => intro S a0 x1 H locs ls h; exact absurd h id
  | succ n ih => intro S a0 x1 H locs ls h Y hl; exact cb_X12_keep_2 X ih Y hl h
def wm_X12_keep (S : q_S) (a0 : Nat) (Q : Option Value → q_S → Prop) : Prop := ∃ n11_ : Nat, wl_X12_keep_2 n11_ S a0 (0 : Int32) Q
set_option maxHeartbeats 4000000 in
set_option maxRecDepth 100000 in
theorem cm_X12_keep {l : Launch} {D : va_G} {cy : Nat → ClassId} {lo : Nat} {S : q_S} {a0 : Nat} {Q : Option Value → q_S → Prop} (h : wm_X12_keep S a0 Q) : q_Met l D cy lo yX12_keep cX12_keep 2 (some .int) 0 0 0 0 [.ref a0] S Q := by
  refine q_body (by decide) (by first | exact Nat.le_of_ble_eq_true rfl | simp [lg_sl, q_cat, q_catI, q_catJ, q_catR]) ?_
  intro p e s m below meth c ls X hnm Y hl
  have hx := X.1
  have hb := X.2.1
  have hl : lv_has ls 2 [(0, .ref a0)] := by first | exact hl | simpa [lv_args, q_cat, q_catI, q_catJ, q_catR] using hl
  generalize hargs : ([.ref a0] : List Value).toArray = args at X ⊢
  unfold wm_X12_keep at h
  refine lv_iconst (v := 0) hx hb dX12_keep_0 (by decide) ?_
  refine lv_istore_n (i := 1) (lv' := [(1, .int (0 : Int32)), (0, .ref a0)]) hx hb dX12_keep_1 rfl hl (by decide) (by first | rfl | simp [q_cat, q_catI, q_catJ, q_catR]) (fun ls hl => ?_)
  obtain ⟨n11_, h⟩ := h
  exact cl_X12_keep_2 X n11_ _ _ _ _ _ _ h Y (lv_sub hl [1, 0] rfl)
-- X12_partitionNamed
theorem fl_X12_350 : Cond.fieldLink RX12 350 "PartitionWorksModel" "partitions" "I" ∈ q_G := q_tb (i := 1749) (by decide +kernel) (by decide +kernel)
theorem ml_X12_353 : Cond.methodLink RX12 353 yX12_isLike ∈ q_G := q_tb (i := 2141) (by decide +kernel) (by decide +kernel)
theorem mt_X12_isLike : q_Mt yX12_isLike cX12_isLike 5 (some .boolean) 2 := ⟨q_tb (i := 2144) (by decide +kernel) (by decide +kernel), q_tb (i := 11) (by decide +kernel) (by decide +kernel), by decide +kernel, by decide +kernel, by decide +kernel⟩
theorem mi_X12_isLike : Cond.instanceMethod yX12_isLike ∈ q_G ∧ Cond.selects yX12_isLike.cls yX12_isLike yX12_isLike ∈ q_G := ⟨q_tb (i := 2143) (by decide +kernel) (by decide +kernel), q_tp (i := 97) (q := (yX12_isLike, 114)) (by decide +kernel) (by decide +kernel)⟩
theorem dX12_partitionNamed_0 : decode cX12_partitionNamed 0 = .ok (.iconst 0, 1) := by decide +kernel
theorem dX12_partitionNamed_1 : decode cX12_partitionNamed 1 = .ok (.istore_n 1, 1) := by decide +kernel
theorem dX12_partitionNamed_2 : decode cX12_partitionNamed 2 = .ok (.iload_n 1, 1) := by decide +kernel
theorem dX12_partitionNamed_3 : decode cX12_partitionNamed 3 = .ok (.aload_n 0, 1) := by decide +kernel
theorem dX12_partitionNamed_4 : decode cX12_partitionNamed 4 = .ok (.getfield 350, 3) := by decide +kernel
theorem dX12_partitionNamed_7 : decode cX12_partitionNamed 7 = .ok (.if_icmp .ge 30, 3) := by decide +kernel
theorem dX12_partitionNamed_10 : decode cX12_partitionNamed 10 = .ok (.aload_n 0, 1) := by decide +kernel
theorem dX12_partitionNamed_11 : decode cX12_partitionNamed 11 = .ok (.aload_n 0, 1) := by decide +kernel
theorem dX12_partitionNamed_12 : decode cX12_partitionNamed 12 = .ok (.getfield 23, 3) := by decide +kernel
theorem dX12_partitionNamed_15 : decode cX12_partitionNamed 15 = .ok (.iload_n 1, 1) := by decide +kernel
theorem dX12_partitionNamed_16 : decode cX12_partitionNamed 16 = .ok (.iaload, 1) := by decide +kernel
theorem dX12_partitionNamed_17 : decode cX12_partitionNamed 17 = .ok (.aload_n 0, 1) := by decide +kernel
theorem dX12_partitionNamed_18 : decode cX12_partitionNamed 18 = .ok (.getfield 27, 3) := by decide +kernel
theorem dX12_partitionNamed_21 : decode cX12_partitionNamed 21 = .ok (.iload_n 1, 1) := by decide +kernel
theorem dX12_partitionNamed_22 : decode cX12_partitionNamed 22 = .ok (.iaload, 1) := by decide +kernel
theorem dX12_partitionNamed_23 : decode cX12_partitionNamed 23 = .ok (.invokevirtual 353, 3) := by decide +kernel
theorem dX12_partitionNamed_26 : decode cX12_partitionNamed 26 = .ok (.ifCond .eq 5, 3) := by decide +kernel
theorem dX12_partitionNamed_29 : decode cX12_partitionNamed 29 = .ok (.iload_n 1, 1) := by decide +kernel
theorem dX12_partitionNamed_30 : decode cX12_partitionNamed 30 = .ok (.ireturn, 1) := by decide +kernel
theorem dX12_partitionNamed_31 : decode cX12_partitionNamed 31 = .ok (.iinc 1 1, 3) := by decide +kernel
theorem dX12_partitionNamed_34 : decode cX12_partitionNamed 34 = .ok (.goto (-32), 3) := by decide +kernel
theorem dX12_partitionNamed_37 : decode cX12_partitionNamed 37 = .ok (.iconst (-1), 1) := by decide +kernel
theorem dX12_partitionNamed_38 : decode cX12_partitionNamed 38 = .ok (.ireturn, 1) := by decide +kernel
def wb_X12_partitionNamed_2 (B2 : q_S → Nat → Int32 → Prop) (S : q_S) (a0 : Nat) (x1 : Int32) (Q : Option Value → q_S → Prop) : Prop := q_K S a0 = 13 ∧ ((((q_I S 2415 a0) ≤ x1 → (Q (some (.int (-1 : Int32))) S)) ∧ (¬ (q_I S 2415 a0) ≤ x1 → (∃ a3_ : Nat, (q_P S 2423 a0) = some a3_ ∧ (q_K S a3_ = 21 ∧ (vp_in x1 (q_N S a3_) ∧ (∃ a7_ : Nat, (q_P S 2424 a0) = some a7_ ∧ (q_K S a7_ = 21 ∧ (vp_in x1 (q_N S a7_) ∧ (wm_X12_isLike S a0 (q_A S a3_ x1.toNatClampNeg) (q_A S a7_ x1.toNatClampNeg) (fun r11_ S12_ => ∃ x13_ : Int32, r11_ = some (.int x13_) ∧ (((x13_ = 0 → (B2 S12_ a0 (x1 + 1))) ∧ (¬ x13_ = 0 → (Q (some (.int x1)) S12_)))))))))))))))
set_option maxHeartbeats 4000000 in
set_option maxRecDepth 100000 in
theorem cb_X12_partitionNamed_2 {p : Program} {l : Launch} {e : Env} {s : State} {m : MethodId} {args : Array Value} {below : List Frame} {meth : Method} {c : Code} {D : va_G} {cy : Nat → ClassId} {lo : Nat} {B2 : q_S → Nat → Int32 → Prop} {S : q_S} {a0 : Nat} {x1 : Int32} {Q : Option Value → q_S → Prop} {H : Heap} {locs : List Loc} {ls : Array Slot} (X : q_X p s m args meth c RX12 cX12_partitionNamed 2 (some .int) D cy lo) (hB2 : ∀ (S : q_S) (a0 : Nat) (x1 : Int32) (H : Heap) (locs : List Loc) (ls : Array Slot), B2 S a0 x1 → q_Y D cy lo s S H locs → lv_has ls 2 [(0, .ref a0), (1, .int x1)] → W p l e ({ frames := 1, cells := 0, slots := 0, locals := 24 } : Room) s m args below meth c H locs 0 0 (MQ below (q_Q D cy lo Q) args s 0 0 (fun q => lo ≤ q)) (F0 m 2 ls [])) (Y : q_Y D cy lo s S H locs) (hl : lv_has ls 2 [(0, .ref a0), (1, .int x1)]) (h : wb_X12_partitionNamed_2 B2 S a0 x1 Q) : W p l e ({ frames := 1, cells := 0, slots := 0, locals := 24 } : Room) s m args below meth c H locs 0 0 (MQ below (q_Q D cy lo Q) args s 0 0 (fun q => lo ≤ q)) (F0 m 2 ls []) := by
  have hx := X.1
  have hb := X.2.1
  unfold wb_X12_partitionNamed_2 at h
  refine lv_iload_n hx hb dX12_partitionNamed_2 rfl (lv_at hl 1 rfl) ?_
  refine lv_aload_n hx hb dX12_partitionNamed_3 rfl (lv_at hl 0 rfl) ?_
  obtain ⟨k1_, h⟩ := h
  refine q_getI X Y kX12 15 rfl fl_X12_350 k1_ dX12_partitionNamed_4 ?_
  refine lv_icmp_ge (tgt := 37) hx hb dX12_partitionNamed_7 (by decide) (fun c2_ => ?_) (fun c2_ => ?_)
  · replace h := h.1 c2_
    refine lv_iconst (v := (-1)) hx hb dX12_partitionNamed_37 (by decide) ?_
    exact q_iret X Y rfl (Nat.le_refl _) (Nat.le_refl _) h dX12_partitionNamed_38
  · replace h := h.2 c2_
    refine lv_aload_n hx hb dX12_partitionNamed_10 rfl (lv_at hl 0 rfl) ?_
    refine lv_aload_n hx hb dX12_partitionNamed_11 rfl (lv_at hl 0 rfl) ?_
    refine q_getP X Y kX12 23 rfl fl_X12_23 k1_ rfl dX12_partitionNamed_12 ?_
    refine lv_iload_n hx hb dX12_partitionNamed_15 rfl (lv_at hl 1 rfl) ?_
    obtain ⟨a3_, e4_, h⟩ := h
    refine q_nn [.int x1] e4_ ?_
    obtain ⟨k5_, h⟩ := h
    obtain ⟨i6_, h⟩ := h
    refine q_ild X Y k5_ i6_ dX12_partitionNamed_16 ?_
    refine lv_aload_n hx hb dX12_partitionNamed_17 rfl (lv_at hl 0 rfl) ?_
    refine q_getP X Y kX12 24 rfl fl_X12_27 k1_ rfl dX12_partitionNamed_18 ?_
    refine lv_iload_n hx hb dX12_partitionNamed_21 rfl (lv_at hl 1 rfl) ?_
    obtain ⟨a7_, e8_, h⟩ := h
    refine q_nn [.int x1] e8_ ?_
    obtain ⟨k9_, h⟩ := h
    obtain ⟨i10_, h⟩ := h
    refine q_ild X Y k9_ i10_ dX12_partitionNamed_22 ?_
    refine q_callV X Y hl (cm_X12_isLike h) mt_X12_isLike mi_X12_isLike ml_X12_353 (ci := 12) rfl k1_ (by decide) rfl rfl (by first | exact Nat.le_of_ble_eq_true rfl | simp [q_cat, q_catI, q_catJ, q_catR]) ⟨Nat.le_of_ble_eq_true rfl, Nat.le_of_ble_eq_true rfl⟩ ⟨Nat.le_of_ble_eq_true rfl, Nat.le_of_ble_eq_true rfl⟩ dX12_partitionNamed_23 (fun r11_ S12_ H locs hp Y => ?_)
    obtain ⟨x13_, rfl, h⟩ := hp
    refine W.eq (g2 := F0 m 26 ls [.int x13_]) rfl ?_
    refine lv_if_eq (tgt := 31) hx hb dX12_partitionNamed_26 (by decide) (fun c14_ => ?_) (fun c14_ => ?_)
    · replace h := h.1 c14_
      refine lv_iinc (v := (x1 + 1)) (lv' := [(1, .int (x1 + 1)), (0, .ref a0)]) hx hb dX12_partitionNamed_31 hl (k := 1) rfl (by first | rfl | decide) (by decide) (by first | rfl | simp [q_cat, q_catI, q_catJ, q_catR]) (fun ls hl => ?_)
      refine lv_goto (tgt := 2) hx hb dX12_partitionNamed_34 (by decide) ?_
      exact hB2 _ _ _ _ _ _ h Y (lv_sub hl [1, 0] rfl)
    · replace h := h.2 c14_
      refine lv_iload_n hx hb dX12_partitionNamed_29 rfl (lv_at hl 1 rfl) ?_
      exact q_iret X Y rfl (Nat.le_refl _) (Nat.le_refl _) h dX12_partitionNamed_30
def wl_X12_partitionNamed_2  : Nat → q_S → Nat → Int32 → (Option Value → q_S → Prop) → Prop
  | 0, _, _, _, _ => False
  | n + 1, S, a0, x1, Q => wb_X12_partitionNamed_2 (fun S a0 x1 => wl_X12_partitionNamed_2 n S a0 x1 Q) S a0 x1 Q
set_option maxHeartbeats 4000000 in
set_option maxRecDepth 100000 in
theorem cl_X12_partitionNamed_2 {p : Program} {l : Launch} {e : Env} {s : State} {m : MethodId} {args : Array Value} {below : List Frame} {meth : Method} {c : Code} {D : va_G} {cy : Nat → ClassId} {lo : Nat}  {Q : Option Value → q_S → Prop} (X : q_X p s m args meth c RX12 cX12_partitionNamed 2 (some .int) D cy lo)  : ∀ (n : Nat) (S : q_S) (a0 : Nat) (x1 : Int32) (H : Heap) (locs : List Loc) (ls : Array Slot), wl_X12_partitionNamed_2 n S a0 x1 Q → q_Y D cy lo s S H locs → lv_has ls 2 [(0, .ref a0), (1, .int x1)] → W p l e ({ frames := 1, cells := 0, slots := 0, locals := 24 } : Room) s m args below meth c H locs 0 0 (MQ below (q_Q D cy lo Q) args s 0 0 (fun q => lo ≤ q)) (F0 m 2 ls []) := by
  intro n
  induction n with
  | zero => intro S a0 x1 H locs ls h; exact absurd h id
  | succ n ih => intro S a0 x1 H locs ls h Y hl; exact cb_X12_partitionNamed_2 X ih Y hl h
def wm_X12_partitionNamed (S : q_S) (a0 : Nat) (Q : Option Value → q_S → Prop) : Prop := ∃ n15_ : Nat, wl_X12_partitionNamed_2 n15_ S a0 (0 : Int32) Q
set_option maxHeartbeats 4000000 in
set_option maxRecDepth 100000 in
theorem cm_X12_partitionNamed {l : Launch} {D : va_G} {cy : Nat → ClassId} {lo : Nat} {S : q_S} {a0 : Nat} {Q : Option Value → q_S → Prop} (h : wm_X12_partitionNamed S a0 Q) : q_Met l D cy lo yX12_partitionNamed cX12_partitionNamed 2 (some .int) 1 24 0 0 [.ref a0] S Q := by
  refine q_body (by decide) (by first | exact Nat.le_of_ble_eq_true rfl | simp [lg_sl, q_cat, q_catI, q_catJ, q_catR]) ?_
  intro p e s m below meth c ls X hnm Y hl
  have hx := X.1
  have hb := X.2.1
  have hl : lv_has ls 2 [(0, .ref a0)] := by first | exact hl | simpa [lv_args, q_cat, q_catI, q_catJ, q_catR] using hl
  generalize hargs : ([.ref a0] : List Value).toArray = args at X ⊢
  unfold wm_X12_partitionNamed at h
  refine lv_iconst (v := 0) hx hb dX12_partitionNamed_0 (by decide) ?_
  refine lv_istore_n (i := 1) (lv' := [(1, .int (0 : Int32)), (0, .ref a0)]) hx hb dX12_partitionNamed_1 rfl hl (by decide) (by first | rfl | simp [q_cat, q_catI, q_catJ, q_catR]) (fun ls hl => ?_)
  obtain ⟨n15_, h⟩ := h
  exact cl_X12_partitionNamed_2 X n15_ _ _ _ _ _ _ h Y (lv_sub hl [1, 0] rfl)
-- X12_thingNamed
theorem dX12_thingNamed_0 : decode cX12_thingNamed 0 = .ok (.bipush 64, 2) := by decide +kernel
theorem dX12_thingNamed_2 : decode cX12_thingNamed 2 = .ok (.iload_n 1, 1) := by decide +kernel
theorem dX12_thingNamed_3 : decode cX12_thingNamed 3 = .ok (.imul, 1) := by decide +kernel
theorem dX12_thingNamed_4 : decode cX12_thingNamed 4 = .ok (.istore_n 2, 1) := by decide +kernel
theorem dX12_thingNamed_5 : decode cX12_thingNamed 5 = .ok (.iload_n 2, 1) := by decide +kernel
theorem dX12_thingNamed_6 : decode cX12_thingNamed 6 = .ok (.bipush 64, 2) := by decide +kernel
theorem dX12_thingNamed_8 : decode cX12_thingNamed 8 = .ok (.iload_n 1, 1) := by decide +kernel
theorem dX12_thingNamed_9 : decode cX12_thingNamed 9 = .ok (.imul, 1) := by decide +kernel
theorem dX12_thingNamed_10 : decode cX12_thingNamed 10 = .ok (.aload_n 0, 1) := by decide +kernel
theorem dX12_thingNamed_11 : decode cX12_thingNamed 11 = .ok (.getfield 45, 3) := by decide +kernel
theorem dX12_thingNamed_14 : decode cX12_thingNamed 14 = .ok (.iload_n 1, 1) := by decide +kernel
theorem dX12_thingNamed_15 : decode cX12_thingNamed 15 = .ok (.iaload, 1) := by decide +kernel
theorem dX12_thingNamed_16 : decode cX12_thingNamed 16 = .ok (.iadd, 1) := by decide +kernel
theorem dX12_thingNamed_17 : decode cX12_thingNamed 17 = .ok (.if_icmp .ge 30, 3) := by decide +kernel
theorem dX12_thingNamed_20 : decode cX12_thingNamed 20 = .ok (.aload_n 0, 1) := by decide +kernel
theorem dX12_thingNamed_21 : decode cX12_thingNamed 21 = .ok (.aload_n 0, 1) := by decide +kernel
theorem dX12_thingNamed_22 : decode cX12_thingNamed 22 = .ok (.getfield 48, 3) := by decide +kernel
theorem dX12_thingNamed_25 : decode cX12_thingNamed 25 = .ok (.iload_n 2, 1) := by decide +kernel
theorem dX12_thingNamed_26 : decode cX12_thingNamed 26 = .ok (.iaload, 1) := by decide +kernel
theorem dX12_thingNamed_27 : decode cX12_thingNamed 27 = .ok (.aload_n 0, 1) := by decide +kernel
theorem dX12_thingNamed_28 : decode cX12_thingNamed 28 = .ok (.getfield 51, 3) := by decide +kernel
theorem dX12_thingNamed_31 : decode cX12_thingNamed 31 = .ok (.iload_n 2, 1) := by decide +kernel
theorem dX12_thingNamed_32 : decode cX12_thingNamed 32 = .ok (.iaload, 1) := by decide +kernel
theorem dX12_thingNamed_33 : decode cX12_thingNamed 33 = .ok (.invokevirtual 353, 3) := by decide +kernel
theorem dX12_thingNamed_36 : decode cX12_thingNamed 36 = .ok (.ifCond .eq 5, 3) := by decide +kernel
theorem dX12_thingNamed_39 : decode cX12_thingNamed 39 = .ok (.iload_n 2, 1) := by decide +kernel
theorem dX12_thingNamed_40 : decode cX12_thingNamed 40 = .ok (.ireturn, 1) := by decide +kernel
theorem dX12_thingNamed_41 : decode cX12_thingNamed 41 = .ok (.iinc 2 1, 3) := by decide +kernel
theorem dX12_thingNamed_44 : decode cX12_thingNamed 44 = .ok (.goto (-39), 3) := by decide +kernel
theorem dX12_thingNamed_47 : decode cX12_thingNamed 47 = .ok (.iconst (-1), 1) := by decide +kernel
theorem dX12_thingNamed_48 : decode cX12_thingNamed 48 = .ok (.ireturn, 1) := by decide +kernel
def wb_X12_thingNamed_5 (B5 : q_S → Nat → Int32 → Int32 → Prop) (S : q_S) (a0 : Nat) (x1 : Int32) (x2 : Int32) (Q : Option Value → q_S → Prop) : Prop := q_K S a0 = 13 ∧ (∃ a2_ : Nat, (q_P S 2430 a0) = some a2_ ∧ (q_K S a2_ = 21 ∧ (vp_in x1 (q_N S a2_) ∧ ((((((64 : Int32) * x1) + (q_A S a2_ x1.toNatClampNeg)) ≤ x2 → (Q (some (.int (-1 : Int32))) S)) ∧ (¬ (((64 : Int32) * x1) + (q_A S a2_ x1.toNatClampNeg)) ≤ x2 → (∃ a7_ : Nat, (q_P S 2431 a0) = some a7_ ∧ (q_K S a7_ = 21 ∧ (vp_in x2 (q_N S a7_) ∧ (∃ a11_ : Nat, (q_P S 2432 a0) = some a11_ ∧ (q_K S a11_ = 21 ∧ (vp_in x2 (q_N S a11_) ∧ (wm_X12_isLike S a0 (q_A S a7_ x2.toNatClampNeg) (q_A S a11_ x2.toNatClampNeg) (fun r15_ S16_ => ∃ x17_ : Int32, r15_ = some (.int x17_) ∧ (((x17_ = 0 → (B5 S16_ a0 x1 (x2 + 1))) ∧ (¬ x17_ = 0 → (Q (some (.int x2)) S16_))))))))))))))))))
set_option maxHeartbeats 4000000 in
set_option maxRecDepth 100000 in
theorem cb_X12_thingNamed_5 {p : Program} {l : Launch} {e : Env} {s : State} {m : MethodId} {args : Array Value} {below : List Frame} {meth : Method} {c : Code} {D : va_G} {cy : Nat → ClassId} {lo : Nat} {B5 : q_S → Nat → Int32 → Int32 → Prop} {S : q_S} {a0 : Nat} {x1 : Int32} {x2 : Int32} {Q : Option Value → q_S → Prop} {H : Heap} {locs : List Loc} {ls : Array Slot} (X : q_X p s m args meth c RX12 cX12_thingNamed 3 (some .int) D cy lo) (hB5 : ∀ (S : q_S) (a0 : Nat) (x1 : Int32) (x2 : Int32) (H : Heap) (locs : List Loc) (ls : Array Slot), B5 S a0 x1 x2 → q_Y D cy lo s S H locs → lv_has ls 3 [(0, .ref a0), (1, .int x1), (2, .int x2)] → W p l e ({ frames := 1, cells := 0, slots := 0, locals := 24 } : Room) s m args below meth c H locs 0 0 (MQ below (q_Q D cy lo Q) args s 0 0 (fun q => lo ≤ q)) (F0 m 5 ls [])) (Y : q_Y D cy lo s S H locs) (hl : lv_has ls 3 [(0, .ref a0), (1, .int x1), (2, .int x2)]) (h : wb_X12_thingNamed_5 B5 S a0 x1 x2 Q) : W p l e ({ frames := 1, cells := 0, slots := 0, locals := 24 } : Room) s m args below meth c H locs 0 0 (MQ below (q_Q D cy lo Q) args s 0 0 (fun q => lo ≤ q)) (F0 m 5 ls []) := by
  have hx := X.1
  have hb := X.2.1
  unfold wb_X12_thingNamed_5 at h
  refine lv_iload_n hx hb dX12_thingNamed_5 rfl (lv_at hl 2 rfl) ?_
  refine lv_bipush (v := 64) hx hb dX12_thingNamed_6 (by decide) ?_
  refine lv_iload_n hx hb dX12_thingNamed_8 rfl (lv_at hl 1 rfl) ?_
  refine lv_imul hx hb dX12_thingNamed_9 ?_
  refine lv_aload_n hx hb dX12_thingNamed_10 rfl (lv_at hl 0 rfl) ?_
  obtain ⟨k1_, h⟩ := h
  refine q_getP X Y kX12 30 rfl fl_X12_45 k1_ rfl dX12_thingNamed_11 ?_
  refine lv_iload_n hx hb dX12_thingNamed_14 rfl (lv_at hl 1 rfl) ?_
  obtain ⟨a2_, e3_, h⟩ := h
  refine q_nn [.int x1] e3_ ?_
  obtain ⟨k4_, h⟩ := h
  obtain ⟨i5_, h⟩ := h
  refine q_ild X Y k4_ i5_ dX12_thingNamed_15 ?_
  refine lv_iadd hx hb dX12_thingNamed_16 ?_
  refine lv_icmp_ge (tgt := 47) hx hb dX12_thingNamed_17 (by decide) (fun c6_ => ?_) (fun c6_ => ?_)
  · replace h := h.1 c6_
    refine lv_iconst (v := (-1)) hx hb dX12_thingNamed_47 (by decide) ?_
    exact q_iret X Y rfl (Nat.le_refl _) (Nat.le_refl _) h dX12_thingNamed_48
  · replace h := h.2 c6_
    refine lv_aload_n hx hb dX12_thingNamed_20 rfl (lv_at hl 0 rfl) ?_
    refine lv_aload_n hx hb dX12_thingNamed_21 rfl (lv_at hl 0 rfl) ?_
    refine q_getP X Y kX12 31 rfl fl_X12_48 k1_ rfl dX12_thingNamed_22 ?_
    refine lv_iload_n hx hb dX12_thingNamed_25 rfl (lv_at hl 2 rfl) ?_
    obtain ⟨a7_, e8_, h⟩ := h
    refine q_nn [.int x2] e8_ ?_
    obtain ⟨k9_, h⟩ := h
    obtain ⟨i10_, h⟩ := h
    refine q_ild X Y k9_ i10_ dX12_thingNamed_26 ?_
    refine lv_aload_n hx hb dX12_thingNamed_27 rfl (lv_at hl 0 rfl) ?_
    refine q_getP X Y kX12 32 rfl fl_X12_51 k1_ rfl dX12_thingNamed_28 ?_
    refine lv_iload_n hx hb dX12_thingNamed_31 rfl (lv_at hl 2 rfl) ?_
    obtain ⟨a11_, e12_, h⟩ := h
    refine q_nn [.int x2] e12_ ?_
    obtain ⟨k13_, h⟩ := h
    obtain ⟨i14_, h⟩ := h
    refine q_ild X Y k13_ i14_ dX12_thingNamed_32 ?_
    refine q_callV X Y hl (cm_X12_isLike h) mt_X12_isLike mi_X12_isLike ml_X12_353 (ci := 12) rfl k1_ (by decide) rfl rfl (by first | exact Nat.le_of_ble_eq_true rfl | simp [q_cat, q_catI, q_catJ, q_catR]) ⟨Nat.le_of_ble_eq_true rfl, Nat.le_of_ble_eq_true rfl⟩ ⟨Nat.le_of_ble_eq_true rfl, Nat.le_of_ble_eq_true rfl⟩ dX12_thingNamed_33 (fun r15_ S16_ H locs hp Y => ?_)
    obtain ⟨x17_, rfl, h⟩ := hp
    refine W.eq (g2 := F0 m 36 ls [.int x17_]) rfl ?_
    refine lv_if_eq (tgt := 41) hx hb dX12_thingNamed_36 (by decide) (fun c18_ => ?_) (fun c18_ => ?_)
    · replace h := h.1 c18_
      refine lv_iinc (v := (x2 + 1)) (lv' := [(2, .int (x2 + 1)), (0, .ref a0), (1, .int x1)]) hx hb dX12_thingNamed_41 hl (k := 2) rfl (by first | rfl | decide) (by decide) (by first | rfl | simp [q_cat, q_catI, q_catJ, q_catR]) (fun ls hl => ?_)
      refine lv_goto (tgt := 5) hx hb dX12_thingNamed_44 (by decide) ?_
      exact hB5 _ _ _ _ _ _ _ h Y (lv_sub hl [1, 2, 0] rfl)
    · replace h := h.2 c18_
      refine lv_iload_n hx hb dX12_thingNamed_39 rfl (lv_at hl 2 rfl) ?_
      exact q_iret X Y rfl (Nat.le_refl _) (Nat.le_refl _) h dX12_thingNamed_40
def wl_X12_thingNamed_5  : Nat → q_S → Nat → Int32 → Int32 → (Option Value → q_S → Prop) → Prop
  | 0, _, _, _, _, _ => False
  | n + 1, S, a0, x1, x2, Q => wb_X12_thingNamed_5 (fun S a0 x1 x2 => wl_X12_thingNamed_5 n S a0 x1 x2 Q) S a0 x1 x2 Q
set_option maxHeartbeats 4000000 in
set_option maxRecDepth 100000 in
theorem cl_X12_thingNamed_5 {p : Program} {l : Launch} {e : Env} {s : State} {m : MethodId} {args : Array Value} {below : List Frame} {meth : Method} {c : Code} {D : va_G} {cy : Nat → ClassId} {lo : Nat}  {Q : Option Value → q_S → Prop} (X : q_X p s m args meth c RX12 cX12_thingNamed 3 (some .int) D cy lo)  : ∀ (n : Nat) (S : q_S) (a0 : Nat) (x1 : Int32) (x2 : Int32) (H : Heap) (locs : List Loc) (ls : Array Slot), wl_X12_thingNamed_5 n S a0 x1 x2 Q → q_Y D cy lo s S H locs → lv_has ls 3 [(0, .ref a0), (1, .int x1), (2, .int x2)] → W p l e ({ frames := 1, cells := 0, slots := 0, locals := 24 } : Room) s m args below meth c H locs 0 0 (MQ below (q_Q D cy lo Q) args s 0 0 (fun q => lo ≤ q)) (F0 m 5 ls []) := by
  intro n
  induction n with
  | zero => intro S a0 x1 x2 H locs ls h; exact absurd h id
  | succ n ih => intro S a0 x1 x2 H locs ls h Y hl; exact cb_X12_thingNamed_5 X ih Y hl h
def wm_X12_thingNamed (S : q_S) (a0 : Nat) (x1 : Int32) (Q : Option Value → q_S → Prop) : Prop := ∃ n19_ : Nat, wl_X12_thingNamed_5 n19_ S a0 x1 ((64 : Int32) * x1) Q
set_option maxHeartbeats 4000000 in
set_option maxRecDepth 100000 in
theorem cm_X12_thingNamed {l : Launch} {D : va_G} {cy : Nat → ClassId} {lo : Nat} {S : q_S} {a0 : Nat} {x1 : Int32} {Q : Option Value → q_S → Prop} (h : wm_X12_thingNamed S a0 x1 Q) : q_Met l D cy lo yX12_thingNamed cX12_thingNamed 3 (some .int) 1 24 0 0 [.ref a0, .int x1] S Q := by
  refine q_body (by decide) (by first | exact Nat.le_of_ble_eq_true rfl | simp [lg_sl, q_cat, q_catI, q_catJ, q_catR]) ?_
  intro p e s m below meth c ls X hnm Y hl
  have hx := X.1
  have hb := X.2.1
  have hl : lv_has ls 3 [(0, .ref a0), (1, .int x1)] := by first | exact hl | simpa [lv_args, q_cat, q_catI, q_catJ, q_catR] using hl
  generalize hargs : ([.ref a0, .int x1] : List Value).toArray = args at X ⊢
  unfold wm_X12_thingNamed at h
  refine lv_bipush (v := 64) hx hb dX12_thingNamed_0 (by decide) ?_
  refine lv_iload_n hx hb dX12_thingNamed_2 rfl (lv_at hl 1 rfl) ?_
  refine lv_imul hx hb dX12_thingNamed_3 ?_
  refine lv_istore_n (i := 2) (lv' := [(2, .int ((64 : Int32) * x1)), (0, .ref a0), (1, .int x1)]) hx hb dX12_thingNamed_4 rfl hl (by decide) (by first | rfl | simp [q_cat, q_catI, q_catJ, q_catR]) (fun ls hl => ?_)
  obtain ⟨n19_, h⟩ := h
  exact cl_X12_thingNamed_5 X n19_ _ _ _ _ _ _ _ h Y (lv_sub hl [1, 2, 0] rfl)
-- X12_newThing
theorem ml_X12_356 : Cond.methodLink RX12 356 yX12_thingNamed ∈ q_G := q_tb (i := 2181) (by decide +kernel) (by decide +kernel)
theorem mt_X12_thingNamed : q_Mt yX12_thingNamed cX12_thingNamed 3 (some .int) 1 := ⟨q_tb (i := 2184) (by decide +kernel) (by decide +kernel), q_tb (i := 11) (by decide +kernel) (by decide +kernel), by decide +kernel, by decide +kernel, by decide +kernel⟩
theorem mi_X12_thingNamed : Cond.instanceMethod yX12_thingNamed ∈ q_G ∧ Cond.selects yX12_thingNamed.cls yX12_thingNamed yX12_thingNamed ∈ q_G := ⟨q_tb (i := 2183) (by decide +kernel) (by decide +kernel), q_tp (i := 107) (q := (yX12_thingNamed, 114)) (by decide +kernel) (by decide +kernel)⟩
theorem ml_X12_359 : Cond.methodLink RX12 359 yX12_keep ∈ q_G := q_tb (i := 2145) (by decide +kernel) (by decide +kernel)
theorem mt_X12_keep : q_Mt yX12_keep cX12_keep 2 (some .int) 0 := ⟨q_tb (i := 2148) (by decide +kernel) (by decide +kernel), q_tb (i := 11) (by decide +kernel) (by decide +kernel), by decide +kernel, by decide +kernel, by decide +kernel⟩
theorem mi_X12_keep : Cond.instanceMethod yX12_keep ∈ q_G ∧ Cond.selects yX12_keep.cls yX12_keep yX12_keep ∈ q_G := ⟨q_tb (i := 2147) (by decide +kernel) (by decide +kernel), q_tp (i := 98) (q := (yX12_keep, 114)) (by decide +kernel) (by decide +kernel)⟩
theorem dX12_newThing_0 : decode cX12_newThing 0 = .ok (.aload_n 0, 1) := by decide +kernel
theorem dX12_newThing_1 : decode cX12_newThing 1 = .ok (.getfield 328, 3) := by decide +kernel
theorem dX12_newThing_4 : decode cX12_newThing 4 = .ok (.ifCond .le 5, 3) := by decide +kernel
theorem dX12_newThing_7 : decode cX12_newThing 7 = .ok (.iconst 0, 1) := by decide +kernel
theorem dX12_newThing_8 : decode cX12_newThing 8 = .ok (.ireturn, 1) := by decide +kernel
theorem dX12_newThing_9 : decode cX12_newThing 9 = .ok (.aload_n 0, 1) := by decide +kernel
theorem dX12_newThing_10 : decode cX12_newThing 10 = .ok (.invokevirtual 341, 3) := by decide +kernel
theorem dX12_newThing_13 : decode cX12_newThing 13 = .ok (.aload_n 0, 1) := by decide +kernel
theorem dX12_newThing_14 : decode cX12_newThing 14 = .ok (.getfield 60, 3) := by decide +kernel
theorem dX12_newThing_17 : decode cX12_newThing 17 = .ok (.bipush 6, 2) := by decide +kernel
theorem dX12_newThing_19 : decode cX12_newThing 19 = .ok (.iload_n 1, 1) := by decide +kernel
theorem dX12_newThing_20 : decode cX12_newThing 20 = .ok (.imul, 1) := by decide +kernel
theorem dX12_newThing_21 : decode cX12_newThing 21 = .ok (.iload_n 2, 1) := by decide +kernel
theorem dX12_newThing_22 : decode cX12_newThing 22 = .ok (.iadd, 1) := by decide +kernel
theorem dX12_newThing_23 : decode cX12_newThing 23 = .ok (.iaload, 1) := by decide +kernel
theorem dX12_newThing_24 : decode cX12_newThing 24 = .ok (.istore 4, 2) := by decide +kernel
theorem dX12_newThing_26 : decode cX12_newThing 26 = .ok (.iload 4, 2) := by decide +kernel
theorem dX12_newThing_28 : decode cX12_newThing 28 = .ok (.iload_n 3, 1) := by decide +kernel
theorem dX12_newThing_29 : decode cX12_newThing 29 = .ok (.if_icmp .ne 11, 3) := by decide +kernel
theorem dX12_newThing_32 : decode cX12_newThing 32 = .ok (.aload_n 0, 1) := by decide +kernel
theorem dX12_newThing_33 : decode cX12_newThing 33 = .ok (.iconst 4, 1) := by decide +kernel
theorem dX12_newThing_34 : decode cX12_newThing 34 = .ok (.invokevirtual 338, 3) := by decide +kernel
theorem dX12_newThing_37 : decode cX12_newThing 37 = .ok (.pop, 1) := by decide +kernel
theorem dX12_newThing_38 : decode cX12_newThing 38 = .ok (.iconst 0, 1) := by decide +kernel
theorem dX12_newThing_39 : decode cX12_newThing 39 = .ok (.ireturn, 1) := by decide +kernel
theorem dX12_newThing_40 : decode cX12_newThing 40 = .ok (.aload_n 0, 1) := by decide +kernel
theorem dX12_newThing_41 : decode cX12_newThing 41 = .ok (.getfield 297, 3) := by decide +kernel
theorem dX12_newThing_44 : decode cX12_newThing 44 = .ok (.iconst 1, 1) := by decide +kernel
theorem dX12_newThing_45 : decode cX12_newThing 45 = .ok (.if_icmp .eq 11, 3) := by decide +kernel
theorem dX12_newThing_48 : decode cX12_newThing 48 = .ok (.aload_n 0, 1) := by decide +kernel
theorem dX12_newThing_49 : decode cX12_newThing 49 = .ok (.iconst 1, 1) := by decide +kernel
theorem dX12_newThing_50 : decode cX12_newThing 50 = .ok (.invokevirtual 338, 3) := by decide +kernel
theorem dX12_newThing_53 : decode cX12_newThing 53 = .ok (.pop, 1) := by decide +kernel
theorem dX12_newThing_54 : decode cX12_newThing 54 = .ok (.iconst 0, 1) := by decide +kernel
theorem dX12_newThing_55 : decode cX12_newThing 55 = .ok (.ireturn, 1) := by decide +kernel
theorem dX12_newThing_56 : decode cX12_newThing 56 = .ok (.aload_n 0, 1) := by decide +kernel
theorem dX12_newThing_57 : decode cX12_newThing 57 = .ok (.iload_n 1, 1) := by decide +kernel
theorem dX12_newThing_58 : decode cX12_newThing 58 = .ok (.invokevirtual 356, 3) := by decide +kernel
theorem dX12_newThing_61 : decode cX12_newThing 61 = .ok (.iconst (-1), 1) := by decide +kernel
theorem dX12_newThing_62 : decode cX12_newThing 62 = .ok (.if_icmp .eq 15, 3) := by decide +kernel
theorem dX12_newThing_65 : decode cX12_newThing 65 = .ok (.aload_n 0, 1) := by decide +kernel
theorem dX12_newThing_66 : decode cX12_newThing 66 = .ok (.iconst 3, 1) := by decide +kernel
theorem dX12_newThing_67 : decode cX12_newThing 67 = .ok (.aload_n 0, 1) := by decide +kernel
theorem dX12_newThing_68 : decode cX12_newThing 68 = .ok (.getfield 287, 3) := by decide +kernel
theorem dX12_newThing_71 : decode cX12_newThing 71 = .ok (.invokevirtual 331, 3) := by decide +kernel
theorem dX12_newThing_74 : decode cX12_newThing 74 = .ok (.pop, 1) := by decide +kernel
theorem dX12_newThing_75 : decode cX12_newThing 75 = .ok (.iconst 0, 1) := by decide +kernel
theorem dX12_newThing_76 : decode cX12_newThing 76 = .ok (.ireturn, 1) := by decide +kernel
theorem dX12_newThing_77 : decode cX12_newThing 77 = .ok (.bipush 64, 2) := by decide +kernel
theorem dX12_newThing_79 : decode cX12_newThing 79 = .ok (.iload_n 1, 1) := by decide +kernel
theorem dX12_newThing_80 : decode cX12_newThing 80 = .ok (.imul, 1) := by decide +kernel
theorem dX12_newThing_81 : decode cX12_newThing 81 = .ok (.aload_n 0, 1) := by decide +kernel
theorem dX12_newThing_82 : decode cX12_newThing 82 = .ok (.getfield 45, 3) := by decide +kernel
theorem dX12_newThing_85 : decode cX12_newThing 85 = .ok (.iload_n 1, 1) := by decide +kernel
theorem dX12_newThing_86 : decode cX12_newThing 86 = .ok (.iaload, 1) := by decide +kernel
theorem dX12_newThing_87 : decode cX12_newThing 87 = .ok (.iadd, 1) := by decide +kernel
theorem dX12_newThing_88 : decode cX12_newThing 88 = .ok (.istore 5, 2) := by decide +kernel
theorem dX12_newThing_90 : decode cX12_newThing 90 = .ok (.aload_n 0, 1) := by decide +kernel
theorem dX12_newThing_91 : decode cX12_newThing 91 = .ok (.getfield 48, 3) := by decide +kernel
theorem dX12_newThing_94 : decode cX12_newThing 94 = .ok (.iload 5, 2) := by decide +kernel
theorem dX12_newThing_96 : decode cX12_newThing 96 = .ok (.aload_n 0, 1) := by decide +kernel
theorem dX12_newThing_97 : decode cX12_newThing 97 = .ok (.invokevirtual 359, 3) := by decide +kernel
theorem dX12_newThing_100 : decode cX12_newThing 100 = .ok (.iastore, 1) := by decide +kernel
theorem dX12_newThing_101 : decode cX12_newThing 101 = .ok (.aload_n 0, 1) := by decide +kernel
theorem dX12_newThing_102 : decode cX12_newThing 102 = .ok (.getfield 51, 3) := by decide +kernel
theorem dX12_newThing_105 : decode cX12_newThing 105 = .ok (.iload 5, 2) := by decide +kernel
theorem dX12_newThing_107 : decode cX12_newThing 107 = .ok (.aload_n 0, 1) := by decide +kernel
theorem dX12_newThing_108 : decode cX12_newThing 108 = .ok (.getfield 307, 3) := by decide +kernel
theorem dX12_newThing_111 : decode cX12_newThing 111 = .ok (.iastore, 1) := by decide +kernel
theorem dX12_newThing_112 : decode cX12_newThing 112 = .ok (.aload_n 0, 1) := by decide +kernel
theorem dX12_newThing_113 : decode cX12_newThing 113 = .ok (.getfield 54, 3) := by decide +kernel
theorem dX12_newThing_116 : decode cX12_newThing 116 = .ok (.iload 5, 2) := by decide +kernel
theorem dX12_newThing_118 : decode cX12_newThing 118 = .ok (.iload_n 2, 1) := by decide +kernel
theorem dX12_newThing_119 : decode cX12_newThing 119 = .ok (.iastore, 1) := by decide +kernel
theorem dX12_newThing_120 : decode cX12_newThing 120 = .ok (.aload_n 0, 1) := by decide +kernel
theorem dX12_newThing_121 : decode cX12_newThing 121 = .ok (.getfield 57, 3) := by decide +kernel
theorem dX12_newThing_124 : decode cX12_newThing 124 = .ok (.iload 5, 2) := by decide +kernel
theorem dX12_newThing_126 : decode cX12_newThing 126 = .ok (.iload 4, 2) := by decide +kernel
theorem dX12_newThing_128 : decode cX12_newThing 128 = .ok (.iastore, 1) := by decide +kernel
theorem dX12_newThing_129 : decode cX12_newThing 129 = .ok (.aload_n 0, 1) := by decide +kernel
theorem dX12_newThing_130 : decode cX12_newThing 130 = .ok (.getfield 45, 3) := by decide +kernel
theorem dX12_newThing_133 : decode cX12_newThing 133 = .ok (.iload_n 1, 1) := by decide +kernel
theorem dX12_newThing_134 : decode cX12_newThing 134 = .ok (.dup2, 1) := by decide +kernel
theorem dX12_newThing_135 : decode cX12_newThing 135 = .ok (.iaload, 1) := by decide +kernel
theorem dX12_newThing_136 : decode cX12_newThing 136 = .ok (.iconst 1, 1) := by decide +kernel
theorem dX12_newThing_137 : decode cX12_newThing 137 = .ok (.iadd, 1) := by decide +kernel
theorem dX12_newThing_138 : decode cX12_newThing 138 = .ok (.iastore, 1) := by decide +kernel
theorem dX12_newThing_139 : decode cX12_newThing 139 = .ok (.aload_n 0, 1) := by decide +kernel
theorem dX12_newThing_140 : decode cX12_newThing 140 = .ok (.getfield 60, 3) := by decide +kernel
theorem dX12_newThing_143 : decode cX12_newThing 143 = .ok (.bipush 6, 2) := by decide +kernel
theorem dX12_newThing_145 : decode cX12_newThing 145 = .ok (.iload_n 1, 1) := by decide +kernel
theorem dX12_newThing_146 : decode cX12_newThing 146 = .ok (.imul, 1) := by decide +kernel
theorem dX12_newThing_147 : decode cX12_newThing 147 = .ok (.iload_n 2, 1) := by decide +kernel
theorem dX12_newThing_148 : decode cX12_newThing 148 = .ok (.iadd, 1) := by decide +kernel
theorem dX12_newThing_149 : decode cX12_newThing 149 = .ok (.dup2, 1) := by decide +kernel
theorem dX12_newThing_150 : decode cX12_newThing 150 = .ok (.iaload, 1) := by decide +kernel
theorem dX12_newThing_151 : decode cX12_newThing 151 = .ok (.iconst 1, 1) := by decide +kernel
theorem dX12_newThing_152 : decode cX12_newThing 152 = .ok (.iadd, 1) := by decide +kernel
theorem dX12_newThing_153 : decode cX12_newThing 153 = .ok (.iastore, 1) := by decide +kernel
theorem dX12_newThing_154 : decode cX12_newThing 154 = .ok (.aload_n 0, 1) := by decide +kernel
theorem dX12_newThing_155 : decode cX12_newThing 155 = .ok (.invokevirtual 341, 3) := by decide +kernel
theorem dX12_newThing_158 : decode cX12_newThing 158 = .ok (.iload 4, 2) := by decide +kernel
theorem dX12_newThing_160 : decode cX12_newThing 160 = .ok (.ireturn, 1) := by decide +kernel
def wm_X12_newThing (S : q_S) (a0 : Nat) (x1 : Int32) (x2 : Int32) (x3 : Int32) (Q : Option Value → q_S → Prop) : Prop := q_K S a0 = 13 ∧ ((((q_I S 2411 a0) ≤ 0 → (wm_X12_next S a0 (fun r3_ S4_ => r3_ = none ∧ (q_K S4_ a0 = 13 ∧ (∃ a6_ : Nat, (q_P S4_ 2435 a0) = some a6_ ∧ (q_K S4_ a6_ = 21 ∧ (vp_in (((6 : Int32) * x1) + x2) (q_N S4_ a6_) ∧ (((¬ (q_A S4_ a6_ (((6 : Int32) * x1) + x2).toNatClampNeg) = x3 → ((((q_I S4_ 2406 a0) = (1 : Int32) → (wm_X12_thingNamed S4_ a0 x1 (fun r12_ S13_ => ∃ x14_ : Int32, r12_ = some (.int x14_) ∧ (((x14_ = (-1 : Int32) → (q_K S13_ a0 = 13 ∧ (∃ a17_ : Nat, (q_P S13_ 2430 a0) = some a17_ ∧ (q_K S13_ a17_ = 21 ∧ (vp_in x1 (q_N S13_ a17_) ∧ (wm_X12_keep S13_ a0 (fun r21_ S22_ => ∃ x23_ : Int32, r21_ = some (.int x23_) ∧ (∃ a24_ : Nat, (q_P S13_ 2431 a0) = some a24_ ∧ (q_K S22_ a24_ = 21 ∧ (vp_in (((64 : Int32) * x1) + (q_A S13_ a17_ x1.toNatClampNeg)) (q_N S22_ a24_) ∧ (q_K (qs_A S22_ a24_ (((64 : Int32) * x1) + (q_A S13_ a17_ x1.toNatClampNeg)).toNatClampNeg x23_) a0 = 13 ∧ (∃ a29_ : Nat, (q_P (qs_A S22_ a24_ (((64 : Int32) * x1) + (q_A S13_ a17_ x1.toNatClampNeg)).toNatClampNeg x23_) 2432 a0) = some a29_ ∧ (q_K (qs_A S22_ a24_ (((64 : Int32) * x1) + (q_A S13_ a17_ x1.toNatClampNeg)).toNatClampNeg x23_) a29_ = 21 ∧ (vp_in (((64 : Int32) * x1) + (q_A S13_ a17_ x1.toNatClampNeg)) (q_N (qs_A S22_ a24_ (((64 : Int32) * x1) + (q_A S13_ a17_ x1.toNatClampNeg)).toNatClampNeg x23_) a29_) ∧ (∀ S33_ : q_S, S33_ = (qs_A (qs_A S22_ a24_ (((64 : Int32) * x1) + (q_A S13_ a17_ x1.toNatClampNeg)).toNatClampNeg x23_) a29_ (((64 : Int32) * x1) + (q_A S13_ a17_ x1.toNatClampNeg)).toNatClampNeg (q_I (qs_A S22_ a24_ (((64 : Int32) * x1) + (q_A S13_ a17_ x1.toNatClampNeg)).toNatClampNeg x23_) 2410 a0)) → (∃ a34_ : Nat, (q_P S33_ 2433 a0) = some a34_ ∧ (q_K S33_ a34_ = 21 ∧ (vp_in (((64 : Int32) * x1) + (q_A S13_ a17_ x1.toNatClampNeg)) (q_N S33_ a34_) ∧ (∃ a38_ : Nat, (q_P (qs_A S33_ a34_ (((64 : Int32) * x1) + (q_A S13_ a17_ x1.toNatClampNeg)).toNatClampNeg x2) 2434 a0) = some a38_ ∧ (q_K (qs_A S33_ a34_ (((64 : Int32) * x1) + (q_A S13_ a17_ x1.toNatClampNeg)).toNatClampNeg x2) a38_ = 21 ∧ (vp_in (((64 : Int32) * x1) + (q_A S13_ a17_ x1.toNatClampNeg)) (q_N (qs_A S33_ a34_ (((64 : Int32) * x1) + (q_A S13_ a17_ x1.toNatClampNeg)).toNatClampNeg x2) a38_) ∧ (∃ a42_ : Nat, (q_P (qs_A (qs_A S33_ a34_ (((64 : Int32) * x1) + (q_A S13_ a17_ x1.toNatClampNeg)).toNatClampNeg x2) a38_ (((64 : Int32) * x1) + (q_A S13_ a17_ x1.toNatClampNeg)).toNatClampNeg (q_A S4_ a6_ (((6 : Int32) * x1) + x2).toNatClampNeg)) 2430 a0) = some a42_ ∧ (q_K (qs_A (qs_A S33_ a34_ (((64 : Int32) * x1) + (q_A S13_ a17_ x1.toNatClampNeg)).toNatClampNeg x2) a38_ (((64 : Int32) * x1) + (q_A S13_ a17_ x1.toNatClampNeg)).toNatClampNeg (q_A S4_ a6_ (((6 : Int32) * x1) + x2).toNatClampNeg)) a42_ = 21 ∧ (vp_in x1 (q_N (qs_A (qs_A S33_ a34_ (((64 : Int32) * x1) + (q_A S13_ a17_ x1.toNatClampNeg)).toNatClampNeg x2) a38_ (((64 : Int32) * x1) + (q_A S13_ a17_ x1.toNatClampNeg)).toNatClampNeg (q_A S4_ a6_ (((6 : Int32) * x1) + x2).toNatClampNeg)) a42_) ∧ (vp_in x1 (q_N (qs_A (qs_A S33_ a34_ (((64 : Int32) * x1) + (q_A S13_ a17_ x1.toNatClampNeg)).toNatClampNeg x2) a38_ (((64 : Int32) * x1) + (q_A S13_ a17_ x1.toNatClampNeg)).toNatClampNeg (q_A S4_ a6_ (((6 : Int32) * x1) + x2).toNatClampNeg)) a42_) ∧ (∀ S47_ : q_S, S47_ = (qs_A (qs_A (qs_A S33_ a34_ (((64 : Int32) * x1) + (q_A S13_ a17_ x1.toNatClampNeg)).toNatClampNeg x2) a38_ (((64 : Int32) * x1) + (q_A S13_ a17_ x1.toNatClampNeg)).toNatClampNeg (q_A S4_ a6_ (((6 : Int32) * x1) + x2).toNatClampNeg)) a42_ x1.toNatClampNeg ((q_A (qs_A (qs_A S33_ a34_ (((64 : Int32) * x1) + (q_A S13_ a17_ x1.toNatClampNeg)).toNatClampNeg x2) a38_ (((64 : Int32) * x1) + (q_A S13_ a17_ x1.toNatClampNeg)).toNatClampNeg (q_A S4_ a6_ (((6 : Int32) * x1) + x2).toNatClampNeg)) a42_ x1.toNatClampNeg) + (1 : Int32))) → (∃ a48_ : Nat, (q_P S47_ 2435 a0) = some a48_ ∧ (q_K S47_ a48_ = 21 ∧ (vp_in (((6 : Int32) * x1) + x2) (q_N S47_ a48_) ∧ (vp_in (((6 : Int32) * x1) + x2) (q_N S47_ a48_) ∧ (wm_X12_next (qs_A S47_ a48_ (((6 : Int32) * x1) + x2).toNatClampNeg ((q_A S47_ a48_ (((6 : Int32) * x1) + x2).toNatClampNeg) + (1 : Int32))) a0 (fun r53_ S54_ => r53_ = none ∧ (Q (some (.int (q_A S4_ a6_ (((6 : Int32) * x1) + x2).toNatClampNeg))) S54_))))))))))))))))))))))))))))))))) ∧ (¬ x14_ = (-1 : Int32) → (q_K S13_ a0 = 13 ∧ (wm_X12_fail S13_ a0 (3 : Int32) (q_I S13_ 2407 a0) (fun r56_ S57_ => ∃ x58_ : Int32, r56_ = some (.int x58_) ∧ (Q (some (.int (0 : Int32))) S57_)))))))))) ∧ (¬ (q_I S4_ 2406 a0) = (1 : Int32) → (wm_X12_failHere S4_ a0 (1 : Int32) (fun r59_ S60_ => ∃ x61_ : Int32, r59_ = some (.int x61_) ∧ (Q (some (.int (0 : Int32))) S60_))))))) ∧ ((q_A S4_ a6_ (((6 : Int32) * x1) + x2).toNatClampNeg) = x3 → (wm_X12_failHere S4_ a0 (4 : Int32) (fun r62_ S63_ => ∃ x64_ : Int32, r62_ = some (.int x64_) ∧ (Q (some (.int (0 : Int32))) S63_))))))))))))) ∧ (¬ (q_I S 2411 a0) ≤ 0 → (Q (some (.int (0 : Int32))) S))))
set_option maxHeartbeats 4000000 in
set_option maxRecDepth 100000 in
theorem cm_X12_newThing {l : Launch} {D : va_G} {cy : Nat → ClassId} {lo : Nat} {S : q_S} {a0 : Nat} {x1 : Int32} {x2 : Int32} {x3 : Int32} {Q : Option Value → q_S → Prop} (h : wm_X12_newThing S a0 x1 x2 x3 Q) : q_Met l D cy lo yX12_newThing cX12_newThing 6 (some .int) 6 133 0 0 [.ref a0, .int x1, .int x2, .int x3] S Q := by
  refine q_body (by decide) (by first | exact Nat.le_of_ble_eq_true rfl | simp [lg_sl, q_cat, q_catI, q_catJ, q_catR]) ?_
  intro p e s m below meth c ls X hnm Y hl
  have hx := X.1
  have hb := X.2.1
  have hl : lv_has ls 6 [(0, .ref a0), (1, .int x1), (2, .int x2), (3, .int x3)] := by first | exact hl | simpa [lv_args, q_cat, q_catI, q_catJ, q_catR] using hl
  generalize hargs : ([.ref a0, .int x1, .int x2, .int x3] : List Value).toArray = args at X ⊢
  unfold wm_X12_newThing at h
  refine lv_aload_n hx hb dX12_newThing_0 rfl (lv_at hl 0 rfl) ?_
  obtain ⟨k1_, h⟩ := h
  refine q_getI X Y kX12 11 rfl fl_X12_328 k1_ dX12_newThing_1 ?_
  refine lv_if_le (tgt := 9) hx hb dX12_newThing_4 (by decide) (fun c2_ => ?_) (fun c2_ => ?_)
  · replace h := h.1 c2_
    refine lv_aload_n hx hb dX12_newThing_9 rfl (lv_at hl 0 rfl) ?_
    refine q_callV X Y hl (cm_X12_next h) mt_X12_next mi_X12_next ml_X12_341 (ci := 12) rfl k1_ (by decide) rfl rfl (by first | exact Nat.le_of_ble_eq_true rfl | simp [q_cat, q_catI, q_catJ, q_catR]) ⟨Nat.le_of_ble_eq_true rfl, Nat.le_of_ble_eq_true rfl⟩ ⟨Nat.le_of_ble_eq_true rfl, Nat.le_of_ble_eq_true rfl⟩ dX12_newThing_10 (fun r3_ S4_ H locs hp Y => ?_)
    obtain ⟨rfl, h⟩ := hp
    refine W.eq (g2 := F0 m 13 ls []) rfl ?_
    refine lv_aload_n hx hb dX12_newThing_13 rfl (lv_at hl 0 rfl) ?_
    obtain ⟨k5_, h⟩ := h
    refine q_getP X Y kX12 35 rfl fl_X12_60 k5_ rfl dX12_newThing_14 ?_
    refine lv_bipush (v := 6) hx hb dX12_newThing_17 (by decide) ?_
    refine lv_iload_n hx hb dX12_newThing_19 rfl (lv_at hl 1 rfl) ?_
    refine lv_imul hx hb dX12_newThing_20 ?_
    refine lv_iload_n hx hb dX12_newThing_21 rfl (lv_at hl 2 rfl) ?_
    refine lv_iadd hx hb dX12_newThing_22 ?_
    obtain ⟨a6_, e7_, h⟩ := h
    refine q_nn [.int (((6 : Int32) * x1) + x2)] e7_ ?_
    obtain ⟨k8_, h⟩ := h
    obtain ⟨i9_, h⟩ := h
    refine q_ild X Y k8_ i9_ dX12_newThing_23 ?_
    refine lv_istore (i := 4) (lv' := [(4, .int (q_A S4_ a6_ (((6 : Int32) * x1) + x2).toNatClampNeg)), (0, .ref a0), (1, .int x1), (2, .int x2), (3, .int x3)]) hx hb dX12_newThing_24 hl (by decide) (by first | rfl | simp [q_cat, q_catI, q_catJ, q_catR]) (fun ls hl => ?_)
    refine lv_iload hx hb dX12_newThing_26 (lv_at hl 0 rfl) ?_
    refine lv_iload_n hx hb dX12_newThing_28 rfl (lv_at hl 4 rfl) ?_
    refine lv_icmp_ne (tgt := 40) hx hb dX12_newThing_29 (by decide) (fun c10_ => ?_) (fun c10_ => ?_)
    · replace h := h.1 c10_
      refine lv_aload_n hx hb dX12_newThing_40 rfl (lv_at hl 1 rfl) ?_
      refine q_getI X Y kX12 6 rfl fl_X12_297 k5_ dX12_newThing_41 ?_
      refine lv_iconst (v := 1) hx hb dX12_newThing_44 (by decide) ?_
      refine lv_icmp_eq (tgt := 56) hx hb dX12_newThing_45 (by decide) (fun c11_ => ?_) (fun c11_ => ?_)
      · replace h := h.1 c11_
        refine lv_aload_n hx hb dX12_newThing_56 rfl (lv_at hl 1 rfl) ?_
        refine lv_iload_n hx hb dX12_newThing_57 rfl (lv_at hl 2 rfl) ?_
        refine q_callV X Y hl (cm_X12_thingNamed h) mt_X12_thingNamed mi_X12_thingNamed ml_X12_356 (ci := 12) rfl k5_ (by decide) rfl rfl (by first | exact Nat.le_of_ble_eq_true rfl | simp [q_cat, q_catI, q_catJ, q_catR]) ⟨Nat.le_of_ble_eq_true rfl, Nat.le_of_ble_eq_true rfl⟩ ⟨Nat.le_of_ble_eq_true rfl, Nat.le_of_ble_eq_true rfl⟩ dX12_newThing_58 (fun r12_ S13_ H locs hp Y => ?_)
        obtain ⟨x14_, rfl, h⟩ := hp
        refine W.eq (g2 := F0 m 61 ls [.int x14_]) rfl ?_
        refine lv_iconst (v := (-1)) hx hb dX12_newThing_61 (by decide) ?_
        refine lv_icmp_eq (tgt := 77) hx hb dX12_newThing_62 (by decide) (fun c15_ => ?_) (fun c15_ => ?_)
        · replace h := h.1 c15_
          refine lv_bipush (v := 64) hx hb dX12_newThing_77 (by decide) ?_
          refine lv_iload_n hx hb dX12_newThing_79 rfl (lv_at hl 2 rfl) ?_
          refine lv_imul hx hb dX12_newThing_80 ?_
          refine lv_aload_n hx hb dX12_newThing_81 rfl (lv_at hl 1 rfl) ?_
          obtain ⟨k16_, h⟩ := h
          refine q_getP X Y kX12 30 rfl fl_X12_45 k16_ rfl dX12_newThing_82 ?_
          refine lv_iload_n hx hb dX12_newThing_85 rfl (lv_at hl 2 rfl) ?_
          obtain ⟨a17_, e18_, h⟩ := h
          refine q_nn [.int x1] e18_ ?_
          obtain ⟨k19_, h⟩ := h
          obtain ⟨i20_, h⟩ := h
          refine q_ild X Y k19_ i20_ dX12_newThing_86 ?_
          refine lv_iadd hx hb dX12_newThing_87 ?_
          refine lv_istore (i := 5) (lv' := [(5, .int (((64 : Int32) * x1) + (q_A S13_ a17_ x1.toNatClampNeg))), (4, .int (q_A S4_ a6_ (((6 : Int32) * x1) + x2).toNatClampNeg)), (0, .ref a0), (1, .int x1), (2, .int x2), (3, .int x3)]) hx hb dX12_newThing_88 hl (by decide) (by first | rfl | simp [q_cat, q_catI, q_catJ, q_catR]) (fun ls hl => ?_)
          refine lv_aload_n hx hb dX12_newThing_90 rfl (lv_at hl 2 rfl) ?_
          refine q_getP X Y kX12 31 rfl fl_X12_48 k16_ rfl dX12_newThing_91 ?_
          refine lv_iload hx hb dX12_newThing_94 (lv_at hl 0 rfl) ?_
          refine lv_aload_n hx hb dX12_newThing_96 rfl (lv_at hl 2 rfl) ?_
          refine q_callV X Y hl (cm_X12_keep h) mt_X12_keep mi_X12_keep ml_X12_359 (ci := 12) rfl k16_ (by decide) rfl rfl (by first | exact Nat.le_of_ble_eq_true rfl | simp [q_cat, q_catI, q_catJ, q_catR]) ⟨Nat.le_of_ble_eq_true rfl, Nat.le_of_ble_eq_true rfl⟩ ⟨Nat.le_of_ble_eq_true rfl, Nat.le_of_ble_eq_true rfl⟩ dX12_newThing_97 (fun r21_ S22_ H locs hp Y => ?_)
          obtain ⟨x23_, rfl, h⟩ := hp
          refine W.eq (g2 := F0 m 100 ls [.int x23_, .int (((64 : Int32) * x1) + (q_A S13_ a17_ x1.toNatClampNeg)), va_rf (q_P S13_ 2431 a0)]) rfl ?_
          obtain ⟨a24_, e25_, h⟩ := h
          refine q_nn [.int x23_, .int (((64 : Int32) * x1) + (q_A S13_ a17_ x1.toNatClampNeg))] e25_ ?_
          obtain ⟨k26_, h⟩ := h
          obtain ⟨i27_, h⟩ := h
          refine q_ist X Y k26_ i27_ dX12_newThing_100 (fun H locs Y => ?_)
          refine lv_aload_n hx hb dX12_newThing_101 rfl (lv_at hl 2 rfl) ?_
          obtain ⟨k28_, h⟩ := h
          refine q_getP X Y kX12 32 rfl fl_X12_51 k28_ rfl dX12_newThing_102 ?_
          refine lv_iload hx hb dX12_newThing_105 (lv_at hl 0 rfl) ?_
          refine lv_aload_n hx hb dX12_newThing_107 rfl (lv_at hl 2 rfl) ?_
          refine q_getI X Y kX12 10 rfl fl_X12_307 k28_ dX12_newThing_108 ?_
          obtain ⟨a29_, e30_, h⟩ := h
          refine q_nn [.int (q_I (qs_A S22_ a24_ (((64 : Int32) * x1) + (q_A S13_ a17_ x1.toNatClampNeg)).toNatClampNeg x23_) 2410 a0), .int (((64 : Int32) * x1) + (q_A S13_ a17_ x1.toNatClampNeg))] e30_ ?_
          obtain ⟨k31_, h⟩ := h
          obtain ⟨i32_, h⟩ := h
          refine q_ist X Y k31_ i32_ dX12_newThing_111 (fun H locs Y => ?_)
          obtain ⟨S33_, gS33_⟩ : ∃ z : q_S, z = (qs_A (qs_A S22_ a24_ (((64 : Int32) * x1) + (q_A S13_ a17_ x1.toNatClampNeg)).toNatClampNeg x23_) a29_ (((64 : Int32) * x1) + (q_A S13_ a17_ x1.toNatClampNeg)).toNatClampNeg (q_I (qs_A S22_ a24_ (((64 : Int32) * x1) + (q_A S13_ a17_ x1.toNatClampNeg)).toNatClampNeg x23_) 2410 a0)) := ⟨_, rfl⟩
          replace Y : q_Y D cy lo s S33_ H locs := by rw [gS33_]; exact Y
          replace h := h S33_ gS33_
          replace k26_ : q_K S33_ a24_ = 21 := by rw [gS33_]; exact k26_
          replace k28_ : q_K S33_ a0 = 13 := by rw [gS33_]; exact k28_
          replace k31_ : q_K S33_ a29_ = 21 := by rw [gS33_]; exact k31_
          refine lv_aload_n hx hb dX12_newThing_112 rfl (lv_at hl 2 rfl) ?_
          refine q_getP X Y kX12 33 rfl fl_X12_54 k28_ rfl dX12_newThing_113 ?_
          refine lv_iload hx hb dX12_newThing_116 (lv_at hl 0 rfl) ?_
          refine lv_iload_n hx hb dX12_newThing_118 rfl (lv_at hl 4 rfl) ?_
          obtain ⟨a34_, e35_, h⟩ := h
          refine q_nn [.int x2, .int (((64 : Int32) * x1) + (q_A S13_ a17_ x1.toNatClampNeg))] e35_ ?_
          obtain ⟨k36_, h⟩ := h
          obtain ⟨i37_, h⟩ := h
          refine q_ist X Y k36_ i37_ dX12_newThing_119 (fun H locs Y => ?_)
          refine lv_aload_n hx hb dX12_newThing_120 rfl (lv_at hl 2 rfl) ?_
          refine q_getP X Y kX12 34 rfl fl_X12_57 k28_ rfl dX12_newThing_121 ?_
          refine lv_iload hx hb dX12_newThing_124 (lv_at hl 0 rfl) ?_
          refine lv_iload hx hb dX12_newThing_126 (lv_at hl 1 rfl) ?_
          obtain ⟨a38_, e39_, h⟩ := h
          refine q_nn [.int (q_A S4_ a6_ (((6 : Int32) * x1) + x2).toNatClampNeg), .int (((64 : Int32) * x1) + (q_A S13_ a17_ x1.toNatClampNeg))] e39_ ?_
          obtain ⟨k40_, h⟩ := h
          obtain ⟨i41_, h⟩ := h
          refine q_ist X Y k40_ i41_ dX12_newThing_128 (fun H locs Y => ?_)
          refine lv_aload_n hx hb dX12_newThing_129 rfl (lv_at hl 2 rfl) ?_
          refine q_getP X Y kX12 30 rfl fl_X12_45 k28_ rfl dX12_newThing_130 ?_
          refine lv_iload_n hx hb dX12_newThing_133 rfl (lv_at hl 3 rfl) ?_
          refine lv_dup2_11 hx hb dX12_newThing_134 rfl (q_cat _) ?_
          obtain ⟨a42_, e43_, h⟩ := h
          refine q_nn [.int x1] e43_ ?_
          obtain ⟨k44_, h⟩ := h
          obtain ⟨i45_, h⟩ := h
          refine q_ild X Y k44_ i45_ dX12_newThing_135 ?_
          refine lv_iconst (v := 1) hx hb dX12_newThing_136 (by decide) ?_
          refine lv_iadd hx hb dX12_newThing_137 ?_
          refine q_nn [.int ((q_A (qs_A (qs_A S33_ a34_ (((64 : Int32) * x1) + (q_A S13_ a17_ x1.toNatClampNeg)).toNatClampNeg x2) a38_ (((64 : Int32) * x1) + (q_A S13_ a17_ x1.toNatClampNeg)).toNatClampNeg (q_A S4_ a6_ (((6 : Int32) * x1) + x2).toNatClampNeg)) a42_ x1.toNatClampNeg) + (1 : Int32)), .int x1] e43_ ?_
          obtain ⟨i46_, h⟩ := h
          refine q_ist X Y k44_ i46_ dX12_newThing_138 (fun H locs Y => ?_)
          obtain ⟨S47_, gS47_⟩ : ∃ z : q_S, z = (qs_A (qs_A (qs_A S33_ a34_ (((64 : Int32) * x1) + (q_A S13_ a17_ x1.toNatClampNeg)).toNatClampNeg x2) a38_ (((64 : Int32) * x1) + (q_A S13_ a17_ x1.toNatClampNeg)).toNatClampNeg (q_A S4_ a6_ (((6 : Int32) * x1) + x2).toNatClampNeg)) a42_ x1.toNatClampNeg ((q_A (qs_A (qs_A S33_ a34_ (((64 : Int32) * x1) + (q_A S13_ a17_ x1.toNatClampNeg)).toNatClampNeg x2) a38_ (((64 : Int32) * x1) + (q_A S13_ a17_ x1.toNatClampNeg)).toNatClampNeg (q_A S4_ a6_ (((6 : Int32) * x1) + x2).toNatClampNeg)) a42_ x1.toNatClampNeg) + (1 : Int32))) := ⟨_, rfl⟩
          replace Y : q_Y D cy lo s S47_ H locs := by rw [gS47_]; exact Y
          replace h := h S47_ gS47_
          replace k26_ : q_K S47_ a24_ = 21 := by rw [gS47_]; exact k26_
          replace k28_ : q_K S47_ a0 = 13 := by rw [gS47_]; exact k28_
          replace k31_ : q_K S47_ a29_ = 21 := by rw [gS47_]; exact k31_
          replace k36_ : q_K S47_ a34_ = 21 := by rw [gS47_]; exact k36_
          replace k40_ : q_K S47_ a38_ = 21 := by rw [gS47_]; exact k40_
          replace k44_ : q_K S47_ a42_ = 21 := by rw [gS47_]; exact k44_
          refine lv_aload_n hx hb dX12_newThing_139 rfl (lv_at hl 2 rfl) ?_
          refine q_getP X Y kX12 35 rfl fl_X12_60 k28_ rfl dX12_newThing_140 ?_
          refine lv_bipush (v := 6) hx hb dX12_newThing_143 (by decide) ?_
          refine lv_iload_n hx hb dX12_newThing_145 rfl (lv_at hl 3 rfl) ?_
          refine lv_imul hx hb dX12_newThing_146 ?_
          refine lv_iload_n hx hb dX12_newThing_147 rfl (lv_at hl 4 rfl) ?_
          refine lv_iadd hx hb dX12_newThing_148 ?_
          refine lv_dup2_11 hx hb dX12_newThing_149 rfl (q_cat _) ?_
          obtain ⟨a48_, e49_, h⟩ := h
          refine q_nn [.int (((6 : Int32) * x1) + x2)] e49_ ?_
          obtain ⟨k50_, h⟩ := h
          obtain ⟨i51_, h⟩ := h
          refine q_ild X Y k50_ i51_ dX12_newThing_150 ?_
          refine lv_iconst (v := 1) hx hb dX12_newThing_151 (by decide) ?_
          refine lv_iadd hx hb dX12_newThing_152 ?_
          refine q_nn [.int ((q_A S47_ a48_ (((6 : Int32) * x1) + x2).toNatClampNeg) + (1 : Int32)), .int (((6 : Int32) * x1) + x2)] e49_ ?_
          obtain ⟨i52_, h⟩ := h
          refine q_ist X Y k50_ i52_ dX12_newThing_153 (fun H locs Y => ?_)
          refine lv_aload_n hx hb dX12_newThing_154 rfl (lv_at hl 2 rfl) ?_
          refine q_callV X Y hl (cm_X12_next h) mt_X12_next mi_X12_next ml_X12_341 (ci := 12) rfl k28_ (by decide) rfl rfl (by first | exact Nat.le_of_ble_eq_true rfl | simp [q_cat, q_catI, q_catJ, q_catR]) ⟨Nat.le_of_ble_eq_true rfl, Nat.le_of_ble_eq_true rfl⟩ ⟨Nat.le_of_ble_eq_true rfl, Nat.le_of_ble_eq_true rfl⟩ dX12_newThing_155 (fun r53_ S54_ H locs hp Y => ?_)
          obtain ⟨rfl, h⟩ := hp
          refine W.eq (g2 := F0 m 158 ls []) rfl ?_
          refine lv_iload hx hb dX12_newThing_158 (lv_at hl 1 rfl) ?_
          exact q_iret X Y rfl (Nat.le_refl _) (Nat.le_refl _) h dX12_newThing_160
        · replace h := h.2 c15_
          refine lv_aload_n hx hb dX12_newThing_65 rfl (lv_at hl 1 rfl) ?_
          refine lv_iconst (v := 3) hx hb dX12_newThing_66 (by decide) ?_
          refine lv_aload_n hx hb dX12_newThing_67 rfl (lv_at hl 1 rfl) ?_
          obtain ⟨k55_, h⟩ := h
          refine q_getI X Y kX12 7 rfl fl_X12_287 k55_ dX12_newThing_68 ?_
          refine q_callV X Y hl (cm_X12_fail h) mt_X12_fail mi_X12_fail ml_X12_331 (ci := 12) rfl k55_ (by decide) rfl rfl (by first | exact Nat.le_of_ble_eq_true rfl | simp [q_cat, q_catI, q_catJ, q_catR]) ⟨Nat.le_of_ble_eq_true rfl, Nat.le_of_ble_eq_true rfl⟩ ⟨Nat.le_of_ble_eq_true rfl, Nat.le_of_ble_eq_true rfl⟩ dX12_newThing_71 (fun r56_ S57_ H locs hp Y => ?_)
          obtain ⟨x58_, rfl, h⟩ := hp
          refine W.eq (g2 := F0 m 74 ls [.int x58_]) rfl ?_
          refine lv_pop hx hb dX12_newThing_74 rfl ?_
          refine lv_iconst (v := 0) hx hb dX12_newThing_75 (by decide) ?_
          exact q_iret X Y rfl (Nat.le_refl _) (Nat.le_refl _) h dX12_newThing_76
      · replace h := h.2 c11_
        refine lv_aload_n hx hb dX12_newThing_48 rfl (lv_at hl 1 rfl) ?_
        refine lv_iconst (v := 1) hx hb dX12_newThing_49 (by decide) ?_
        refine q_callV X Y hl (cm_X12_failHere h) mt_X12_failHere mi_X12_failHere ml_X12_338 (ci := 12) rfl k5_ (by decide) rfl rfl (by first | exact Nat.le_of_ble_eq_true rfl | simp [q_cat, q_catI, q_catJ, q_catR]) ⟨Nat.le_of_ble_eq_true rfl, Nat.le_of_ble_eq_true rfl⟩ ⟨Nat.le_of_ble_eq_true rfl, Nat.le_of_ble_eq_true rfl⟩ dX12_newThing_50 (fun r59_ S60_ H locs hp Y => ?_)
        obtain ⟨x61_, rfl, h⟩ := hp
        refine W.eq (g2 := F0 m 53 ls [.int x61_]) rfl ?_
        refine lv_pop hx hb dX12_newThing_53 rfl ?_
        refine lv_iconst (v := 0) hx hb dX12_newThing_54 (by decide) ?_
        exact q_iret X Y rfl (Nat.le_refl _) (Nat.le_refl _) h dX12_newThing_55
    · replace h := h.2 c10_
      refine lv_aload_n hx hb dX12_newThing_32 rfl (lv_at hl 1 rfl) ?_
      refine lv_iconst (v := 4) hx hb dX12_newThing_33 (by decide) ?_
      refine q_callV X Y hl (cm_X12_failHere h) mt_X12_failHere mi_X12_failHere ml_X12_338 (ci := 12) rfl k5_ (by decide) rfl rfl (by first | exact Nat.le_of_ble_eq_true rfl | simp [q_cat, q_catI, q_catJ, q_catR]) ⟨Nat.le_of_ble_eq_true rfl, Nat.le_of_ble_eq_true rfl⟩ ⟨Nat.le_of_ble_eq_true rfl, Nat.le_of_ble_eq_true rfl⟩ dX12_newThing_34 (fun r62_ S63_ H locs hp Y => ?_)
      obtain ⟨x64_, rfl, h⟩ := hp
      refine W.eq (g2 := F0 m 37 ls [.int x64_]) rfl ?_
      refine lv_pop hx hb dX12_newThing_37 rfl ?_
      refine lv_iconst (v := 0) hx hb dX12_newThing_38 (by decide) ?_
      exact q_iret X Y rfl (Nat.le_refl _) (Nat.le_refl _) h dX12_newThing_39
  · replace h := h.2 c2_
    refine lv_iconst (v := 0) hx hb dX12_newThing_7 (by decide) ?_
    exact q_iret X Y rfl (Nat.le_refl _) (Nat.le_refl _) h dX12_newThing_8
-- X12_readRegions
theorem ml_X12_365 : Cond.methodLink RX12 365 yX12_sign ∈ q_G := q_tb (i := 2149) (by decide +kernel) (by decide +kernel)
theorem mt_X12_sign : q_Mt yX12_sign cX12_sign 2 (some .boolean) 1 := ⟨q_tb (i := 2152) (by decide +kernel) (by decide +kernel), q_tb (i := 11) (by decide +kernel) (by decide +kernel), by decide +kernel, by decide +kernel, by decide +kernel⟩
theorem mi_X12_sign : Cond.instanceMethod yX12_sign ∈ q_G ∧ Cond.selects yX12_sign.cls yX12_sign yX12_sign ∈ q_G := ⟨q_tb (i := 2151) (by decide +kernel) (by decide +kernel), q_tp (i := 99) (q := (yX12_sign, 114)) (by decide +kernel) (by decide +kernel)⟩
theorem ml_X12_371 : Cond.methodLink RX12 371 yX12_number ∈ q_G := q_tb (i := 2161) (by decide +kernel) (by decide +kernel)
theorem mt_X12_number : q_Mt yX12_number cX12_number 5 (some .int) 3 := ⟨q_tb (i := 2164) (by decide +kernel) (by decide +kernel), q_tb (i := 11) (by decide +kernel) (by decide +kernel), by decide +kernel, by decide +kernel, by decide +kernel⟩
theorem mi_X12_number : Cond.instanceMethod yX12_number ∈ q_G ∧ Cond.selects yX12_number.cls yX12_number yX12_number ∈ q_G := ⟨q_tb (i := 2163) (by decide +kernel) (by decide +kernel), q_tp (i := 102) (q := (yX12_number, 114)) (by decide +kernel) (by decide +kernel)⟩
theorem dX12_readRegions_0 : decode cX12_readRegions 0 = .ok (.aload_n 0, 1) := by decide +kernel
theorem dX12_readRegions_1 : decode cX12_readRegions 1 = .ok (.getfield 33, 3) := by decide +kernel
theorem dX12_readRegions_4 : decode cX12_readRegions 4 = .ok (.iload_n 1, 1) := by decide +kernel
theorem dX12_readRegions_5 : decode cX12_readRegions 5 = .ok (.iconst 0, 1) := by decide +kernel
theorem dX12_readRegions_6 : decode cX12_readRegions 6 = .ok (.iastore, 1) := by decide +kernel
theorem dX12_readRegions_7 : decode cX12_readRegions 7 = .ok (.aload_n 0, 1) := by decide +kernel
theorem dX12_readRegions_8 : decode cX12_readRegions 8 = .ok (.iconst 2, 1) := by decide +kernel
theorem dX12_readRegions_9 : decode cX12_readRegions 9 = .ok (.invokevirtual 344, 3) := by decide +kernel
theorem dX12_readRegions_12 : decode cX12_readRegions 12 = .ok (.ifCond .ne 46, 3) := by decide +kernel
theorem dX12_readRegions_15 : decode cX12_readRegions 15 = .ok (.aload_n 0, 1) := by decide +kernel
theorem dX12_readRegions_16 : decode cX12_readRegions 16 = .ok (.getfield 33, 3) := by decide +kernel
theorem dX12_readRegions_19 : decode cX12_readRegions 19 = .ok (.iload_n 1, 1) := by decide +kernel
theorem dX12_readRegions_20 : decode cX12_readRegions 20 = .ok (.iconst 1, 1) := by decide +kernel
theorem dX12_readRegions_21 : decode cX12_readRegions 21 = .ok (.iastore, 1) := by decide +kernel
theorem dX12_readRegions_22 : decode cX12_readRegions 22 = .ok (.aload_n 0, 1) := by decide +kernel
theorem dX12_readRegions_23 : decode cX12_readRegions 23 = .ok (.getfield 36, 3) := by decide +kernel
theorem dX12_readRegions_26 : decode cX12_readRegions 26 = .ok (.bipush 6, 2) := by decide +kernel
theorem dX12_readRegions_28 : decode cX12_readRegions 28 = .ok (.iload_n 1, 1) := by decide +kernel
theorem dX12_readRegions_29 : decode cX12_readRegions 29 = .ok (.imul, 1) := by decide +kernel
theorem dX12_readRegions_30 : decode cX12_readRegions 30 = .ok (.iconst 0, 1) := by decide +kernel
theorem dX12_readRegions_31 : decode cX12_readRegions 31 = .ok (.iastore, 1) := by decide +kernel
theorem dX12_readRegions_32 : decode cX12_readRegions 32 = .ok (.aload_n 0, 1) := by decide +kernel
theorem dX12_readRegions_33 : decode cX12_readRegions 33 = .ok (.getfield 39, 3) := by decide +kernel
theorem dX12_readRegions_36 : decode cX12_readRegions 36 = .ok (.bipush 6, 2) := by decide +kernel
theorem dX12_readRegions_38 : decode cX12_readRegions 38 = .ok (.iload_n 1, 1) := by decide +kernel
theorem dX12_readRegions_39 : decode cX12_readRegions 39 = .ok (.imul, 1) := by decide +kernel
theorem dX12_readRegions_40 : decode cX12_readRegions 40 = .ok (.aload_n 0, 1) := by decide +kernel
theorem dX12_readRegions_41 : decode cX12_readRegions 41 = .ok (.getfield 30, 3) := by decide +kernel
theorem dX12_readRegions_44 : decode cX12_readRegions 44 = .ok (.iload_n 1, 1) := by decide +kernel
theorem dX12_readRegions_45 : decode cX12_readRegions 45 = .ok (.iaload, 1) := by decide +kernel
theorem dX12_readRegions_46 : decode cX12_readRegions 46 = .ok (.iastore, 1) := by decide +kernel
theorem dX12_readRegions_47 : decode cX12_readRegions 47 = .ok (.aload_n 0, 1) := by decide +kernel
theorem dX12_readRegions_48 : decode cX12_readRegions 48 = .ok (.getfield 42, 3) := by decide +kernel
theorem dX12_readRegions_51 : decode cX12_readRegions 51 = .ok (.bipush 6, 2) := by decide +kernel
theorem dX12_readRegions_53 : decode cX12_readRegions 53 = .ok (.iload_n 1, 1) := by decide +kernel
theorem dX12_readRegions_54 : decode cX12_readRegions 54 = .ok (.imul, 1) := by decide +kernel
theorem dX12_readRegions_55 : decode cX12_readRegions 55 = .ok (.iconst 3, 1) := by decide +kernel
theorem dX12_readRegions_56 : decode cX12_readRegions 56 = .ok (.iastore, 1) := by decide +kernel
theorem dX12_readRegions_57 : decode cX12_readRegions 57 = .ok (.return_, 1) := by decide +kernel
theorem dX12_readRegions_58 : decode cX12_readRegions 58 = .ok (.aload_n 0, 1) := by decide +kernel
theorem dX12_readRegions_59 : decode cX12_readRegions 59 = .ok (.getfield 287, 3) := by decide +kernel
theorem dX12_readRegions_62 : decode cX12_readRegions 62 = .ok (.istore_n 2, 1) := by decide +kernel
theorem dX12_readRegions_63 : decode cX12_readRegions 63 = .ok (.aload_n 0, 1) := by decide +kernel
theorem dX12_readRegions_64 : decode cX12_readRegions 64 = .ok (.invokevirtual 341, 3) := by decide +kernel
theorem dX12_readRegions_67 : decode cX12_readRegions 67 = .ok (.aload_n 0, 1) := by decide +kernel
theorem dX12_readRegions_68 : decode cX12_readRegions 68 = .ok (.bipush 123, 2) := by decide +kernel
theorem dX12_readRegions_70 : decode cX12_readRegions 70 = .ok (.invokevirtual 365, 3) := by decide +kernel
theorem dX12_readRegions_73 : decode cX12_readRegions 73 = .ok (.pop, 1) := by decide +kernel
theorem dX12_readRegions_74 : decode cX12_readRegions 74 = .ok (.iconst 0, 1) := by decide +kernel
theorem dX12_readRegions_75 : decode cX12_readRegions 75 = .ok (.istore_n 3, 1) := by decide +kernel
theorem dX12_readRegions_76 : decode cX12_readRegions 76 = .ok (.aload_n 0, 1) := by decide +kernel
theorem dX12_readRegions_77 : decode cX12_readRegions 77 = .ok (.getfield 328, 3) := by decide +kernel
theorem dX12_readRegions_80 : decode cX12_readRegions 80 = .ok (.ifCond .ne 175, 3) := by decide +kernel
theorem dX12_readRegions_83 : decode cX12_readRegions 83 = .ok (.aload_n 0, 1) := by decide +kernel
theorem dX12_readRegions_84 : decode cX12_readRegions 84 = .ok (.getfield 33, 3) := by decide +kernel
theorem dX12_readRegions_87 : decode cX12_readRegions 87 = .ok (.iload_n 1, 1) := by decide +kernel
theorem dX12_readRegions_88 : decode cX12_readRegions 88 = .ok (.iaload, 1) := by decide +kernel
theorem dX12_readRegions_89 : decode cX12_readRegions 89 = .ok (.ifCond .eq 12, 3) := by decide +kernel
theorem dX12_readRegions_92 : decode cX12_readRegions 92 = .ok (.aload_n 0, 1) := by decide +kernel
theorem dX12_readRegions_93 : decode cX12_readRegions 93 = .ok (.bipush 125, 2) := by decide +kernel
theorem dX12_readRegions_95 : decode cX12_readRegions 95 = .ok (.invokevirtual 335, 3) := by decide +kernel
theorem dX12_readRegions_98 : decode cX12_readRegions 98 = .ok (.ifCond .ne 157, 3) := by decide +kernel
theorem dX12_readRegions_101 : decode cX12_readRegions 101 = .ok (.aload_n 0, 1) := by decide +kernel
theorem dX12_readRegions_102 : decode cX12_readRegions 102 = .ok (.getfield 33, 3) := by decide +kernel
theorem dX12_readRegions_105 : decode cX12_readRegions 105 = .ok (.iload_n 1, 1) := by decide +kernel
theorem dX12_readRegions_106 : decode cX12_readRegions 106 = .ok (.iaload, 1) := by decide +kernel
theorem dX12_readRegions_107 : decode cX12_readRegions 107 = .ok (.bipush 6, 2) := by decide +kernel
theorem dX12_readRegions_109 : decode cX12_readRegions 109 = .ok (.if_icmp .ne 10, 3) := by decide +kernel
theorem dX12_readRegions_112 : decode cX12_readRegions 112 = .ok (.aload_n 0, 1) := by decide +kernel
theorem dX12_readRegions_113 : decode cX12_readRegions 113 = .ok (.iconst 4, 1) := by decide +kernel
theorem dX12_readRegions_114 : decode cX12_readRegions 114 = .ok (.invokevirtual 338, 3) := by decide +kernel
theorem dX12_readRegions_117 : decode cX12_readRegions 117 = .ok (.pop, 1) := by decide +kernel
theorem dX12_readRegions_118 : decode cX12_readRegions 118 = .ok (.return_, 1) := by decide +kernel
theorem dX12_readRegions_119 : decode cX12_readRegions 119 = .ok (.bipush 6, 2) := by decide +kernel
theorem dX12_readRegions_121 : decode cX12_readRegions 121 = .ok (.iload_n 1, 1) := by decide +kernel
theorem dX12_readRegions_122 : decode cX12_readRegions 122 = .ok (.imul, 1) := by decide +kernel
theorem dX12_readRegions_123 : decode cX12_readRegions 123 = .ok (.aload_n 0, 1) := by decide +kernel
theorem dX12_readRegions_124 : decode cX12_readRegions 124 = .ok (.getfield 33, 3) := by decide +kernel
theorem dX12_readRegions_127 : decode cX12_readRegions 127 = .ok (.iload_n 1, 1) := by decide +kernel
theorem dX12_readRegions_128 : decode cX12_readRegions 128 = .ok (.iaload, 1) := by decide +kernel
theorem dX12_readRegions_129 : decode cX12_readRegions 129 = .ok (.iadd, 1) := by decide +kernel
theorem dX12_readRegions_130 : decode cX12_readRegions 130 = .ok (.istore 4, 2) := by decide +kernel
theorem dX12_readRegions_132 : decode cX12_readRegions 132 = .ok (.aload_n 0, 1) := by decide +kernel
theorem dX12_readRegions_133 : decode cX12_readRegions 133 = .ok (.bipush 64, 2) := by decide +kernel
theorem dX12_readRegions_135 : decode cX12_readRegions 135 = .ok (.aload_n 0, 1) := by decide +kernel
theorem dX12_readRegions_136 : decode cX12_readRegions 136 = .ok (.getfield 30, 3) := by decide +kernel
theorem dX12_readRegions_139 : decode cX12_readRegions 139 = .ok (.iload_n 1, 1) := by decide +kernel
theorem dX12_readRegions_140 : decode cX12_readRegions 140 = .ok (.iaload, 1) := by decide +kernel
theorem dX12_readRegions_141 : decode cX12_readRegions 141 = .ok (.iload_n 3, 1) := by decide +kernel
theorem dX12_readRegions_142 : decode cX12_readRegions 142 = .ok (.isub, 1) := by decide +kernel
theorem dX12_readRegions_143 : decode cX12_readRegions 143 = .ok (.bipush 64, 2) := by decide +kernel
theorem dX12_readRegions_145 : decode cX12_readRegions 145 = .ok (.invokevirtual 371, 3) := by decide +kernel
theorem dX12_readRegions_148 : decode cX12_readRegions 148 = .ok (.istore 5, 2) := by decide +kernel
theorem dX12_readRegions_150 : decode cX12_readRegions 150 = .ok (.aload_n 0, 1) := by decide +kernel
theorem dX12_readRegions_151 : decode cX12_readRegions 151 = .ok (.getfield 328, 3) := by decide +kernel
theorem dX12_readRegions_154 : decode cX12_readRegions 154 = .ok (.ifCond .ne 34, 3) := by decide +kernel
theorem dX12_readRegions_157 : decode cX12_readRegions 157 = .ok (.aload_n 0, 1) := by decide +kernel
theorem dX12_readRegions_158 : decode cX12_readRegions 158 = .ok (.getfield 297, 3) := by decide +kernel
theorem dX12_readRegions_161 : decode cX12_readRegions 161 = .ok (.iconst 4, 1) := by decide +kernel
theorem dX12_readRegions_162 : decode cX12_readRegions 162 = .ok (.if_icmp .ne 20, 3) := by decide +kernel
theorem dX12_readRegions_165 : decode cX12_readRegions 165 = .ok (.aload_n 0, 1) := by decide +kernel
theorem dX12_readRegions_166 : decode cX12_readRegions 166 = .ok (.getfield 316, 3) := by decide +kernel
theorem dX12_readRegions_169 : decode cX12_readRegions 169 = .ok (.iconst 3, 1) := by decide +kernel
theorem dX12_readRegions_170 : decode cX12_readRegions 170 = .ok (.if_icmp .lt 12, 3) := by decide +kernel
theorem dX12_readRegions_173 : decode cX12_readRegions 173 = .ok (.aload_n 0, 1) := by decide +kernel
theorem dX12_readRegions_174 : decode cX12_readRegions 174 = .ok (.getfield 316, 3) := by decide +kernel
theorem dX12_readRegions_177 : decode cX12_readRegions 177 = .ok (.bipush 6, 2) := by decide +kernel
theorem dX12_readRegions_179 : decode cX12_readRegions 179 = .ok (.if_icmp .le 9, 3) := by decide +kernel
theorem dX12_readRegions_182 : decode cX12_readRegions 182 = .ok (.aload_n 0, 1) := by decide +kernel
theorem dX12_readRegions_183 : decode cX12_readRegions 183 = .ok (.iconst 1, 1) := by decide +kernel
theorem dX12_readRegions_184 : decode cX12_readRegions 184 = .ok (.invokevirtual 338, 3) := by decide +kernel
theorem dX12_readRegions_187 : decode cX12_readRegions 187 = .ok (.pop, 1) := by decide +kernel
theorem dX12_readRegions_188 : decode cX12_readRegions 188 = .ok (.aload_n 0, 1) := by decide +kernel
theorem dX12_readRegions_189 : decode cX12_readRegions 189 = .ok (.getfield 328, 3) := by decide +kernel
theorem dX12_readRegions_192 : decode cX12_readRegions 192 = .ok (.ifCond .le 4, 3) := by decide +kernel
theorem dX12_readRegions_195 : decode cX12_readRegions 195 = .ok (.return_, 1) := by decide +kernel
theorem dX12_readRegions_196 : decode cX12_readRegions 196 = .ok (.aload_n 0, 1) := by decide +kernel
theorem dX12_readRegions_197 : decode cX12_readRegions 197 = .ok (.getfield 36, 3) := by decide +kernel
theorem dX12_readRegions_200 : decode cX12_readRegions 200 = .ok (.iload 4, 2) := by decide +kernel
theorem dX12_readRegions_202 : decode cX12_readRegions 202 = .ok (.iload_n 3, 1) := by decide +kernel
theorem dX12_readRegions_203 : decode cX12_readRegions 203 = .ok (.iastore, 1) := by decide +kernel
theorem dX12_readRegions_204 : decode cX12_readRegions 204 = .ok (.aload_n 0, 1) := by decide +kernel
theorem dX12_readRegions_205 : decode cX12_readRegions 205 = .ok (.getfield 39, 3) := by decide +kernel
theorem dX12_readRegions_208 : decode cX12_readRegions 208 = .ok (.iload 4, 2) := by decide +kernel
theorem dX12_readRegions_210 : decode cX12_readRegions 210 = .ok (.iload 5, 2) := by decide +kernel
theorem dX12_readRegions_212 : decode cX12_readRegions 212 = .ok (.iastore, 1) := by decide +kernel
theorem dX12_readRegions_213 : decode cX12_readRegions 213 = .ok (.aload_n 0, 1) := by decide +kernel
theorem dX12_readRegions_214 : decode cX12_readRegions 214 = .ok (.getfield 42, 3) := by decide +kernel
theorem dX12_readRegions_217 : decode cX12_readRegions 217 = .ok (.iload 4, 2) := by decide +kernel
theorem dX12_readRegions_219 : decode cX12_readRegions 219 = .ok (.aload_n 0, 1) := by decide +kernel
theorem dX12_readRegions_220 : decode cX12_readRegions 220 = .ok (.getfield 316, 3) := by decide +kernel
theorem dX12_readRegions_223 : decode cX12_readRegions 223 = .ok (.iconst 3, 1) := by decide +kernel
theorem dX12_readRegions_224 : decode cX12_readRegions 224 = .ok (.isub, 1) := by decide +kernel
theorem dX12_readRegions_225 : decode cX12_readRegions 225 = .ok (.iastore, 1) := by decide +kernel
theorem dX12_readRegions_226 : decode cX12_readRegions 226 = .ok (.aload_n 0, 1) := by decide +kernel
theorem dX12_readRegions_227 : decode cX12_readRegions 227 = .ok (.getfield 33, 3) := by decide +kernel
theorem dX12_readRegions_230 : decode cX12_readRegions 230 = .ok (.iload_n 1, 1) := by decide +kernel
theorem dX12_readRegions_231 : decode cX12_readRegions 231 = .ok (.dup2, 1) := by decide +kernel
theorem dX12_readRegions_232 : decode cX12_readRegions 232 = .ok (.iaload, 1) := by decide +kernel
theorem dX12_readRegions_233 : decode cX12_readRegions 233 = .ok (.iconst 1, 1) := by decide +kernel
theorem dX12_readRegions_234 : decode cX12_readRegions 234 = .ok (.iadd, 1) := by decide +kernel
theorem dX12_readRegions_235 : decode cX12_readRegions 235 = .ok (.iastore, 1) := by decide +kernel
theorem dX12_readRegions_236 : decode cX12_readRegions 236 = .ok (.iload_n 3, 1) := by decide +kernel
theorem dX12_readRegions_237 : decode cX12_readRegions 237 = .ok (.iload 5, 2) := by decide +kernel
theorem dX12_readRegions_239 : decode cX12_readRegions 239 = .ok (.iadd, 1) := by decide +kernel
theorem dX12_readRegions_240 : decode cX12_readRegions 240 = .ok (.istore_n 3, 1) := by decide +kernel
theorem dX12_readRegions_241 : decode cX12_readRegions 241 = .ok (.aload_n 0, 1) := by decide +kernel
theorem dX12_readRegions_242 : decode cX12_readRegions 242 = .ok (.invokevirtual 341, 3) := by decide +kernel
theorem dX12_readRegions_245 : decode cX12_readRegions 245 = .ok (.aload_n 0, 1) := by decide +kernel
theorem dX12_readRegions_246 : decode cX12_readRegions 246 = .ok (.bipush 59, 2) := by decide +kernel
theorem dX12_readRegions_248 : decode cX12_readRegions 248 = .ok (.invokevirtual 365, 3) := by decide +kernel
theorem dX12_readRegions_251 : decode cX12_readRegions 251 = .ok (.pop, 1) := by decide +kernel
theorem dX12_readRegions_252 : decode cX12_readRegions 252 = .ok (.goto (-176), 3) := by decide +kernel
theorem dX12_readRegions_255 : decode cX12_readRegions 255 = .ok (.aload_n 0, 1) := by decide +kernel
theorem dX12_readRegions_256 : decode cX12_readRegions 256 = .ok (.getfield 328, 3) := by decide +kernel
theorem dX12_readRegions_259 : decode cX12_readRegions 259 = .ok (.ifCond .ne 21, 3) := by decide +kernel
theorem dX12_readRegions_262 : decode cX12_readRegions 262 = .ok (.iload_n 3, 1) := by decide +kernel
theorem dX12_readRegions_263 : decode cX12_readRegions 263 = .ok (.aload_n 0, 1) := by decide +kernel
theorem dX12_readRegions_264 : decode cX12_readRegions 264 = .ok (.getfield 30, 3) := by decide +kernel
theorem dX12_readRegions_267 : decode cX12_readRegions 267 = .ok (.iload_n 1, 1) := by decide +kernel
theorem dX12_readRegions_268 : decode cX12_readRegions 268 = .ok (.iaload, 1) := by decide +kernel
theorem dX12_readRegions_269 : decode cX12_readRegions 269 = .ok (.if_icmp .eq 11, 3) := by decide +kernel
theorem dX12_readRegions_272 : decode cX12_readRegions 272 = .ok (.aload_n 0, 1) := by decide +kernel
theorem dX12_readRegions_273 : decode cX12_readRegions 273 = .ok (.bipush 7, 2) := by decide +kernel
theorem dX12_readRegions_275 : decode cX12_readRegions 275 = .ok (.iload_n 2, 1) := by decide +kernel
theorem dX12_readRegions_276 : decode cX12_readRegions 276 = .ok (.invokevirtual 331, 3) := by decide +kernel
theorem dX12_readRegions_279 : decode cX12_readRegions 279 = .ok (.pop, 1) := by decide +kernel
theorem dX12_readRegions_280 : decode cX12_readRegions 280 = .ok (.aload_n 0, 1) := by decide +kernel
theorem dX12_readRegions_281 : decode cX12_readRegions 281 = .ok (.bipush 125, 2) := by decide +kernel
theorem dX12_readRegions_283 : decode cX12_readRegions 283 = .ok (.invokevirtual 365, 3) := by decide +kernel
theorem dX12_readRegions_286 : decode cX12_readRegions 286 = .ok (.pop, 1) := by decide +kernel
theorem dX12_readRegions_287 : decode cX12_readRegions 287 = .ok (.return_, 1) := by decide +kernel
def wb_X12_readRegions_188 (B76 : q_S → Nat → Int32 → Int32 → Int32 → Prop) (S : q_S) (a0 : Nat) (x1 : Int32) (x2 : Int32) (x3 : Int32) (x4 : Int32) (x5 : Int32) (Q : Option Value → q_S → Prop) : Prop := q_K S a0 = 13 ∧ ((((q_I S 2411 a0) ≤ 0 → (∃ a3_ : Nat, (q_P S 2427 a0) = some a3_ ∧ (q_K S a3_ = 21 ∧ (vp_in x4 (q_N S a3_) ∧ (∃ a7_ : Nat, (q_P (qs_A S a3_ x4.toNatClampNeg x3) 2428 a0) = some a7_ ∧ (q_K (qs_A S a3_ x4.toNatClampNeg x3) a7_ = 21 ∧ (vp_in x4 (q_N (qs_A S a3_ x4.toNatClampNeg x3) a7_) ∧ (∃ a11_ : Nat, (q_P (qs_A (qs_A S a3_ x4.toNatClampNeg x3) a7_ x4.toNatClampNeg x5) 2429 a0) = some a11_ ∧ (q_K (qs_A (qs_A S a3_ x4.toNatClampNeg x3) a7_ x4.toNatClampNeg x5) a11_ = 21 ∧ (vp_in x4 (q_N (qs_A (qs_A S a3_ x4.toNatClampNeg x3) a7_ x4.toNatClampNeg x5) a11_) ∧ (∀ S15_ : q_S, S15_ = (qs_A (qs_A (qs_A S a3_ x4.toNatClampNeg x3) a7_ x4.toNatClampNeg x5) a11_ x4.toNatClampNeg ((q_I (qs_A (qs_A S a3_ x4.toNatClampNeg x3) a7_ x4.toNatClampNeg x5) 2408 a0) - (3 : Int32))) → (∃ a16_ : Nat, (q_P S15_ 2426 a0) = some a16_ ∧ (q_K S15_ a16_ = 21 ∧ (vp_in x1 (q_N S15_ a16_) ∧ (vp_in x1 (q_N S15_ a16_) ∧ (wm_X12_next (qs_A S15_ a16_ x1.toNatClampNeg ((q_A S15_ a16_ x1.toNatClampNeg) + (1 : Int32))) a0 (fun r21_ S22_ => r21_ = none ∧ (q_K S22_ a0 = 13 ∧ (wm_X12_sign S22_ a0 (59 : Int32) (fun r24_ S25_ => ∃ x26_ : Int32, r24_ = some (.int x26_) ∧ (B76 S25_ a0 x1 x2 (x3 + x5)))))))))))))))))))))) ∧ (¬ (q_I S 2411 a0) ≤ 0 → (Q none S))))
set_option maxHeartbeats 4000000 in
set_option maxRecDepth 100000 in
theorem cb_X12_readRegions_188 {p : Program} {l : Launch} {e : Env} {s : State} {m : MethodId} {args : Array Value} {below : List Frame} {meth : Method} {c : Code} {D : va_G} {cy : Nat → ClassId} {lo : Nat} {B76 : q_S → Nat → Int32 → Int32 → Int32 → Prop} {S : q_S} {a0 : Nat} {x1 : Int32} {x2 : Int32} {x3 : Int32} {x4 : Int32} {x5 : Int32} {Q : Option Value → q_S → Prop} {H : Heap} {locs : List Loc} {ls : Array Slot} (X : q_X p s m args meth c RX12 cX12_readRegions 6 none D cy lo) (hB76 : ∀ (S : q_S) (a0 : Nat) (x1 : Int32) (x2 : Int32) (x3 : Int32) (H : Heap) (locs : List Loc) (ls : Array Slot), B76 S a0 x1 x2 x3 → q_Y D cy lo s S H locs → lv_has ls 6 [(0, .ref a0), (1, .int x1), (2, .int x2), (3, .int x3)] → W p l e ({ frames := 7, cells := 0, slots := 0, locals := 157 } : Room) s m args below meth c H locs 0 0 (MQ below (q_Q D cy lo Q) args s 0 0 (fun q => lo ≤ q)) (F0 m 76 ls [])) (Y : q_Y D cy lo s S H locs) (hl : lv_has ls 6 [(0, .ref a0), (1, .int x1), (2, .int x2), (3, .int x3), (4, .int x4), (5, .int x5)]) (h : wb_X12_readRegions_188 B76 S a0 x1 x2 x3 x4 x5 Q) : W p l e ({ frames := 7, cells := 0, slots := 0, locals := 157 } : Room) s m args below meth c H locs 0 0 (MQ below (q_Q D cy lo Q) args s 0 0 (fun q => lo ≤ q)) (F0 m 188 ls []) := by
  have hx := X.1
  have hb := X.2.1
  unfold wb_X12_readRegions_188 at h
  refine lv_aload_n hx hb dX12_readRegions_188 rfl (lv_at hl 0 rfl) ?_
  obtain ⟨k1_, h⟩ := h
  refine q_getI X Y kX12 11 rfl fl_X12_328 k1_ dX12_readRegions_189 ?_
  refine lv_if_le (tgt := 196) hx hb dX12_readRegions_192 (by decide) (fun c2_ => ?_) (fun c2_ => ?_)
  · replace h := h.1 c2_
    refine lv_aload_n hx hb dX12_readRegions_196 rfl (lv_at hl 0 rfl) ?_
    refine q_getP X Y kX12 27 rfl fl_X12_36 k1_ rfl dX12_readRegions_197 ?_
    refine lv_iload hx hb dX12_readRegions_200 (lv_at hl 4 rfl) ?_
    refine lv_iload_n hx hb dX12_readRegions_202 rfl (lv_at hl 3 rfl) ?_
    obtain ⟨a3_, e4_, h⟩ := h
    refine q_nn [.int x3, .int x4] e4_ ?_
    obtain ⟨k5_, h⟩ := h
    obtain ⟨i6_, h⟩ := h
    refine q_ist X Y k5_ i6_ dX12_readRegions_203 (fun H locs Y => ?_)
    refine lv_aload_n hx hb dX12_readRegions_204 rfl (lv_at hl 0 rfl) ?_
    refine q_getP X Y kX12 28 rfl fl_X12_39 k1_ rfl dX12_readRegions_205 ?_
    refine lv_iload hx hb dX12_readRegions_208 (lv_at hl 4 rfl) ?_
    refine lv_iload hx hb dX12_readRegions_210 (lv_at hl 5 rfl) ?_
    obtain ⟨a7_, e8_, h⟩ := h
    refine q_nn [.int x5, .int x4] e8_ ?_
    obtain ⟨k9_, h⟩ := h
    obtain ⟨i10_, h⟩ := h
    refine q_ist X Y k9_ i10_ dX12_readRegions_212 (fun H locs Y => ?_)
    refine lv_aload_n hx hb dX12_readRegions_213 rfl (lv_at hl 0 rfl) ?_
    refine q_getP X Y kX12 29 rfl fl_X12_42 k1_ rfl dX12_readRegions_214 ?_
    refine lv_iload hx hb dX12_readRegions_217 (lv_at hl 4 rfl) ?_
    refine lv_aload_n hx hb dX12_readRegions_219 rfl (lv_at hl 0 rfl) ?_
    refine q_getI X Y kX12 8 rfl fl_X12_316 k1_ dX12_readRegions_220 ?_
    refine lv_iconst (v := 3) hx hb dX12_readRegions_223 (by decide) ?_
    refine lv_isub hx hb dX12_readRegions_224 ?_
    obtain ⟨a11_, e12_, h⟩ := h
    refine q_nn [.int ((q_I (qs_A (qs_A S a3_ x4.toNatClampNeg x3) a7_ x4.toNatClampNeg x5) 2408 a0) - (3 : Int32)), .int x4] e12_ ?_
    obtain ⟨k13_, h⟩ := h
    obtain ⟨i14_, h⟩ := h
    refine q_ist X Y k13_ i14_ dX12_readRegions_225 (fun H locs Y => ?_)
    obtain ⟨S15_, gS15_⟩ : ∃ z : q_S, z = (qs_A (qs_A (qs_A S a3_ x4.toNatClampNeg x3) a7_ x4.toNatClampNeg x5) a11_ x4.toNatClampNeg ((q_I (qs_A (qs_A S a3_ x4.toNatClampNeg x3) a7_ x4.toNatClampNeg x5) 2408 a0) - (3 : Int32))) := ⟨_, rfl⟩
    replace Y : q_Y D cy lo s S15_ H locs := by rw [gS15_]; exact Y
    replace h := h S15_ gS15_
    replace k1_ : q_K S15_ a0 = 13 := by rw [gS15_]; exact k1_
    replace k5_ : q_K S15_ a3_ = 21 := by rw [gS15_]; exact k5_
    replace k9_ : q_K S15_ a7_ = 21 := by rw [gS15_]; exact k9_
    replace k13_ : q_K S15_ a11_ = 21 := by rw [gS15_]; exact k13_
    refine lv_aload_n hx hb dX12_readRegions_226 rfl (lv_at hl 0 rfl) ?_
    refine q_getP X Y kX12 26 rfl fl_X12_33 k1_ rfl dX12_readRegions_227 ?_
    refine lv_iload_n hx hb dX12_readRegions_230 rfl (lv_at hl 1 rfl) ?_
    refine lv_dup2_11 hx hb dX12_readRegions_231 rfl (q_cat _) ?_
    obtain ⟨a16_, e17_, h⟩ := h
    refine q_nn [.int x1] e17_ ?_
    obtain ⟨k18_, h⟩ := h
    obtain ⟨i19_, h⟩ := h
    refine q_ild X Y k18_ i19_ dX12_readRegions_232 ?_
    refine lv_iconst (v := 1) hx hb dX12_readRegions_233 (by decide) ?_
    refine lv_iadd hx hb dX12_readRegions_234 ?_
    refine q_nn [.int ((q_A S15_ a16_ x1.toNatClampNeg) + (1 : Int32)), .int x1] e17_ ?_
    obtain ⟨i20_, h⟩ := h
    refine q_ist X Y k18_ i20_ dX12_readRegions_235 (fun H locs Y => ?_)
    refine lv_iload_n hx hb dX12_readRegions_236 rfl (lv_at hl 3 rfl) ?_
    refine lv_iload hx hb dX12_readRegions_237 (lv_at hl 5 rfl) ?_
    refine lv_iadd hx hb dX12_readRegions_239 ?_
    refine lv_istore_n (i := 3) (lv' := [(3, .int (x3 + x5)), (0, .ref a0), (1, .int x1), (2, .int x2), (4, .int x4), (5, .int x5)]) hx hb dX12_readRegions_240 rfl hl (by decide) (by first | rfl | simp [q_cat, q_catI, q_catJ, q_catR]) (fun ls hl => ?_)
    refine lv_aload_n hx hb dX12_readRegions_241 rfl (lv_at hl 1 rfl) ?_
    refine q_callV X Y hl (cm_X12_next h) mt_X12_next mi_X12_next ml_X12_341 (ci := 12) rfl k1_ (by decide) rfl rfl (by first | exact Nat.le_of_ble_eq_true rfl | simp [q_cat, q_catI, q_catJ, q_catR]) ⟨Nat.le_of_ble_eq_true rfl, Nat.le_of_ble_eq_true rfl⟩ ⟨Nat.le_of_ble_eq_true rfl, Nat.le_of_ble_eq_true rfl⟩ dX12_readRegions_242 (fun r21_ S22_ H locs hp Y => ?_)
    obtain ⟨rfl, h⟩ := hp
    refine W.eq (g2 := F0 m 245 ls []) rfl ?_
    refine lv_aload_n hx hb dX12_readRegions_245 rfl (lv_at hl 1 rfl) ?_
    refine lv_bipush (v := 59) hx hb dX12_readRegions_246 (by decide) ?_
    obtain ⟨k23_, h⟩ := h
    refine q_callV X Y hl (cm_X12_sign h) mt_X12_sign mi_X12_sign ml_X12_365 (ci := 12) rfl k23_ (by decide) rfl rfl (by first | exact Nat.le_of_ble_eq_true rfl | simp [q_cat, q_catI, q_catJ, q_catR]) ⟨Nat.le_of_ble_eq_true rfl, Nat.le_of_ble_eq_true rfl⟩ ⟨Nat.le_of_ble_eq_true rfl, Nat.le_of_ble_eq_true rfl⟩ dX12_readRegions_248 (fun r24_ S25_ H locs hp Y => ?_)
    obtain ⟨x26_, rfl, h⟩ := hp
    refine W.eq (g2 := F0 m 251 ls [.int x26_]) rfl ?_
    refine lv_pop hx hb dX12_readRegions_251 rfl ?_
    refine lv_goto (tgt := 76) hx hb dX12_readRegions_252 (by decide) ?_
    exact hB76 _ _ _ _ _ _ _ _ h Y (lv_sub hl [1, 2, 3, 0] rfl)
  · replace h := h.2 c2_
    exact q_vret X Y (Nat.le_refl _) (Nat.le_refl _) h dX12_readRegions_195
def wb_X12_readRegions_182 (B76 : q_S → Nat → Int32 → Int32 → Int32 → Prop) (S : q_S) (a0 : Nat) (x1 : Int32) (x2 : Int32) (x3 : Int32) (x4 : Int32) (x5 : Int32) (Q : Option Value → q_S → Prop) : Prop := q_K S a0 = 13 ∧ (wm_X12_failHere S a0 (1 : Int32) (fun r28_ S29_ => ∃ x30_ : Int32, r28_ = some (.int x30_) ∧ (wb_X12_readRegions_188 B76 S29_ a0 x1 x2 x3 x4 x5 Q)))
set_option maxHeartbeats 4000000 in
set_option maxRecDepth 100000 in
theorem cb_X12_readRegions_182 {p : Program} {l : Launch} {e : Env} {s : State} {m : MethodId} {args : Array Value} {below : List Frame} {meth : Method} {c : Code} {D : va_G} {cy : Nat → ClassId} {lo : Nat} {B76 : q_S → Nat → Int32 → Int32 → Int32 → Prop} {S : q_S} {a0 : Nat} {x1 : Int32} {x2 : Int32} {x3 : Int32} {x4 : Int32} {x5 : Int32} {Q : Option Value → q_S → Prop} {H : Heap} {locs : List Loc} {ls : Array Slot} (X : q_X p s m args meth c RX12 cX12_readRegions 6 none D cy lo) (hB76 : ∀ (S : q_S) (a0 : Nat) (x1 : Int32) (x2 : Int32) (x3 : Int32) (H : Heap) (locs : List Loc) (ls : Array Slot), B76 S a0 x1 x2 x3 → q_Y D cy lo s S H locs → lv_has ls 6 [(0, .ref a0), (1, .int x1), (2, .int x2), (3, .int x3)] → W p l e ({ frames := 7, cells := 0, slots := 0, locals := 157 } : Room) s m args below meth c H locs 0 0 (MQ below (q_Q D cy lo Q) args s 0 0 (fun q => lo ≤ q)) (F0 m 76 ls [])) (Y : q_Y D cy lo s S H locs) (hl : lv_has ls 6 [(0, .ref a0), (1, .int x1), (2, .int x2), (3, .int x3), (4, .int x4), (5, .int x5)]) (h : wb_X12_readRegions_182 B76 S a0 x1 x2 x3 x4 x5 Q) : W p l e ({ frames := 7, cells := 0, slots := 0, locals := 157 } : Room) s m args below meth c H locs 0 0 (MQ below (q_Q D cy lo Q) args s 0 0 (fun q => lo ≤ q)) (F0 m 182 ls []) := by
  have hx := X.1
  have hb := X.2.1
  unfold wb_X12_readRegions_182 at h
  refine lv_aload_n hx hb dX12_readRegions_182 rfl (lv_at hl 0 rfl) ?_
  refine lv_iconst (v := 1) hx hb dX12_readRegions_183 (by decide) ?_
  obtain ⟨k27_, h⟩ := h
  refine q_callV X Y hl (cm_X12_failHere h) mt_X12_failHere mi_X12_failHere ml_X12_338 (ci := 12) rfl k27_ (by decide) rfl rfl (by first | exact Nat.le_of_ble_eq_true rfl | simp [q_cat, q_catI, q_catJ, q_catR]) ⟨Nat.le_of_ble_eq_true rfl, Nat.le_of_ble_eq_true rfl⟩ ⟨Nat.le_of_ble_eq_true rfl, Nat.le_of_ble_eq_true rfl⟩ dX12_readRegions_184 (fun r28_ S29_ H locs hp Y => ?_)
  obtain ⟨x30_, rfl, h⟩ := hp
  refine W.eq (g2 := F0 m 187 ls [.int x30_]) rfl ?_
  refine lv_pop hx hb dX12_readRegions_187 rfl ?_
  exact cb_X12_readRegions_188 X hB76 Y (lv_sub hl [0, 1, 2, 3, 4, 5] rfl) h
def wb_X12_readRegions_101 (B76 : q_S → Nat → Int32 → Int32 → Int32 → Prop) (S : q_S) (a0 : Nat) (x1 : Int32) (x2 : Int32) (x3 : Int32) (Q : Option Value → q_S → Prop) : Prop := q_K S a0 = 13 ∧ (∃ a32_ : Nat, (q_P S 2426 a0) = some a32_ ∧ (q_K S a32_ = 21 ∧ (vp_in x1 (q_N S a32_) ∧ (((¬ (q_A S a32_ x1.toNatClampNeg) = (6 : Int32) → (vp_in x1 (q_N S a32_) ∧ (∃ a38_ : Nat, (q_P S 2425 a0) = some a38_ ∧ (q_K S a38_ = 21 ∧ (vp_in x1 (q_N S a38_) ∧ (wm_X12_number S a0 (64 : Int32) ((q_A S a38_ x1.toNatClampNeg) - x3) (64 : Int32) (fun r42_ S43_ => ∃ x44_ : Int32, r42_ = some (.int x44_) ∧ (q_K S43_ a0 = 13 ∧ (((¬ (q_I S43_ 2411 a0) = 0 → (wb_X12_readRegions_188 B76 S43_ a0 x1 x2 x3 (((6 : Int32) * x1) + (q_A S a32_ x1.toNatClampNeg)) x44_ Q)) ∧ ((q_I S43_ 2411 a0) = 0 → (((¬ (q_I S43_ 2406 a0) = (4 : Int32) → (wb_X12_readRegions_182 B76 S43_ a0 x1 x2 x3 (((6 : Int32) * x1) + (q_A S a32_ x1.toNatClampNeg)) x44_ Q)) ∧ ((q_I S43_ 2406 a0) = (4 : Int32) → ((((q_I S43_ 2408 a0) < (3 : Int32) → (wb_X12_readRegions_182 B76 S43_ a0 x1 x2 x3 (((6 : Int32) * x1) + (q_A S a32_ x1.toNatClampNeg)) x44_ Q)) ∧ (¬ (q_I S43_ 2408 a0) < (3 : Int32) → ((((q_I S43_ 2408 a0) ≤ (6 : Int32) → (wb_X12_readRegions_188 B76 S43_ a0 x1 x2 x3 (((6 : Int32) * x1) + (q_A S a32_ x1.toNatClampNeg)) x44_ Q)) ∧ (¬ (q_I S43_ 2408 a0) ≤ (6 : Int32) → (wb_X12_readRegions_182 B76 S43_ a0 x1 x2 x3 (((6 : Int32) * x1) + (q_A S a32_ x1.toNatClampNeg)) x44_ Q))))))))))))))))))))) ∧ ((q_A S a32_ x1.toNatClampNeg) = (6 : Int32) → (wm_X12_failHere S a0 (4 : Int32) (fun r50_ S51_ => ∃ x52_ : Int32, r50_ = some (.int x52_) ∧ (Q none S51_)))))))))
set_option maxHeartbeats 4000000 in
set_option maxRecDepth 100000 in
theorem cb_X12_readRegions_101 {p : Program} {l : Launch} {e : Env} {s : State} {m : MethodId} {args : Array Value} {below : List Frame} {meth : Method} {c : Code} {D : va_G} {cy : Nat → ClassId} {lo : Nat} {B76 : q_S → Nat → Int32 → Int32 → Int32 → Prop} {S : q_S} {a0 : Nat} {x1 : Int32} {x2 : Int32} {x3 : Int32} {Q : Option Value → q_S → Prop} {H : Heap} {locs : List Loc} {ls : Array Slot} (X : q_X p s m args meth c RX12 cX12_readRegions 6 none D cy lo) (hB76 : ∀ (S : q_S) (a0 : Nat) (x1 : Int32) (x2 : Int32) (x3 : Int32) (H : Heap) (locs : List Loc) (ls : Array Slot), B76 S a0 x1 x2 x3 → q_Y D cy lo s S H locs → lv_has ls 6 [(0, .ref a0), (1, .int x1), (2, .int x2), (3, .int x3)] → W p l e ({ frames := 7, cells := 0, slots := 0, locals := 157 } : Room) s m args below meth c H locs 0 0 (MQ below (q_Q D cy lo Q) args s 0 0 (fun q => lo ≤ q)) (F0 m 76 ls [])) (Y : q_Y D cy lo s S H locs) (hl : lv_has ls 6 [(0, .ref a0), (1, .int x1), (2, .int x2), (3, .int x3)]) (h : wb_X12_readRegions_101 B76 S a0 x1 x2 x3 Q) : W p l e ({ frames := 7, cells := 0, slots := 0, locals := 157 } : Room) s m args below meth c H locs 0 0 (MQ below (q_Q D cy lo Q) args s 0 0 (fun q => lo ≤ q)) (F0 m 101 ls []) := by
  have hx := X.1
  have hb := X.2.1
  unfold wb_X12_readRegions_101 at h
  refine lv_aload_n hx hb dX12_readRegions_101 rfl (lv_at hl 0 rfl) ?_
  obtain ⟨k31_, h⟩ := h
  refine q_getP X Y kX12 26 rfl fl_X12_33 k31_ rfl dX12_readRegions_102 ?_
  refine lv_iload_n hx hb dX12_readRegions_105 rfl (lv_at hl 1 rfl) ?_
  obtain ⟨a32_, e33_, h⟩ := h
  refine q_nn [.int x1] e33_ ?_
  obtain ⟨k34_, h⟩ := h
  obtain ⟨i35_, h⟩ := h
  refine q_ild X Y k34_ i35_ dX12_readRegions_106 ?_
  refine lv_bipush (v := 6) hx hb dX12_readRegions_107 (by decide) ?_
  refine lv_icmp_ne (tgt := 119) hx hb dX12_readRegions_109 (by decide) (fun c36_ => ?_) (fun c36_ => ?_)
  · replace h := h.1 c36_
    refine lv_bipush (v := 6) hx hb dX12_readRegions_119 (by decide) ?_
    refine lv_iload_n hx hb dX12_readRegions_121 rfl (lv_at hl 1 rfl) ?_
    refine lv_imul hx hb dX12_readRegions_122 ?_
    refine lv_aload_n hx hb dX12_readRegions_123 rfl (lv_at hl 0 rfl) ?_
    refine q_getR X Y kX12 26 rfl fl_X12_33 k31_ e33_ dX12_readRegions_124 ?_
    refine lv_iload_n hx hb dX12_readRegions_127 rfl (lv_at hl 1 rfl) ?_
    obtain ⟨i37_, h⟩ := h
    refine q_ild X Y k34_ i37_ dX12_readRegions_128 ?_
    refine lv_iadd hx hb dX12_readRegions_129 ?_
    refine lv_istore (i := 4) (lv' := [(4, .int (((6 : Int32) * x1) + (q_A S a32_ x1.toNatClampNeg))), (0, .ref a0), (1, .int x1), (2, .int x2), (3, .int x3)]) hx hb dX12_readRegions_130 hl (by decide) (by first | rfl | simp [q_cat, q_catI, q_catJ, q_catR]) (fun ls hl => ?_)
    refine lv_aload_n hx hb dX12_readRegions_132 rfl (lv_at hl 1 rfl) ?_
    refine lv_bipush (v := 64) hx hb dX12_readRegions_133 (by decide) ?_
    refine lv_aload_n hx hb dX12_readRegions_135 rfl (lv_at hl 1 rfl) ?_
    refine q_getP X Y kX12 25 rfl fl_X12_30 k31_ rfl dX12_readRegions_136 ?_
    refine lv_iload_n hx hb dX12_readRegions_139 rfl (lv_at hl 2 rfl) ?_
    obtain ⟨a38_, e39_, h⟩ := h
    refine q_nn [.int x1] e39_ ?_
    obtain ⟨k40_, h⟩ := h
    obtain ⟨i41_, h⟩ := h
    refine q_ild X Y k40_ i41_ dX12_readRegions_140 ?_
    refine lv_iload_n hx hb dX12_readRegions_141 rfl (lv_at hl 4 rfl) ?_
    refine lv_isub hx hb dX12_readRegions_142 ?_
    refine lv_bipush (v := 64) hx hb dX12_readRegions_143 (by decide) ?_
    refine q_callV X Y hl (cm_X12_number h) mt_X12_number mi_X12_number ml_X12_371 (ci := 12) rfl k31_ (by decide) rfl rfl (by first | exact Nat.le_of_ble_eq_true rfl | simp [q_cat, q_catI, q_catJ, q_catR]) ⟨Nat.le_of_ble_eq_true rfl, Nat.le_of_ble_eq_true rfl⟩ ⟨Nat.le_of_ble_eq_true rfl, Nat.le_of_ble_eq_true rfl⟩ dX12_readRegions_145 (fun r42_ S43_ H locs hp Y => ?_)
    obtain ⟨x44_, rfl, h⟩ := hp
    refine W.eq (g2 := F0 m 148 ls [.int x44_]) rfl ?_
    refine lv_istore (i := 5) (lv' := [(5, .int x44_), (4, .int (((6 : Int32) * x1) + (q_A S a32_ x1.toNatClampNeg))), (0, .ref a0), (1, .int x1), (2, .int x2), (3, .int x3)]) hx hb dX12_readRegions_148 hl (by decide) (by first | rfl | simp [q_cat, q_catI, q_catJ, q_catR]) (fun ls hl => ?_)
    refine lv_aload_n hx hb dX12_readRegions_150 rfl (lv_at hl 2 rfl) ?_
    obtain ⟨k45_, h⟩ := h
    refine q_getI X Y kX12 11 rfl fl_X12_328 k45_ dX12_readRegions_151 ?_
    refine lv_if_ne (tgt := 188) hx hb dX12_readRegions_154 (by decide) (fun c46_ => ?_) (fun c46_ => ?_)
    · replace h := h.1 c46_
      exact cb_X12_readRegions_188 X hB76 Y (lv_sub hl [2, 3, 4, 5, 1, 0] rfl) h
    · replace h := h.2 c46_
      refine lv_aload_n hx hb dX12_readRegions_157 rfl (lv_at hl 2 rfl) ?_
      refine q_getI X Y kX12 6 rfl fl_X12_297 k45_ dX12_readRegions_158 ?_
      refine lv_iconst (v := 4) hx hb dX12_readRegions_161 (by decide) ?_
      refine lv_icmp_ne (tgt := 182) hx hb dX12_readRegions_162 (by decide) (fun c47_ => ?_) (fun c47_ => ?_)
      · replace h := h.1 c47_
        exact cb_X12_readRegions_182 X hB76 Y (lv_sub hl [2, 3, 4, 5, 1, 0] rfl) h
      · replace h := h.2 c47_
        refine lv_aload_n hx hb dX12_readRegions_165 rfl (lv_at hl 2 rfl) ?_
        refine q_getI X Y kX12 8 rfl fl_X12_316 k45_ dX12_readRegions_166 ?_
        refine lv_iconst (v := 3) hx hb dX12_readRegions_169 (by decide) ?_
        refine lv_icmp_lt (tgt := 182) hx hb dX12_readRegions_170 (by decide) (fun c48_ => ?_) (fun c48_ => ?_)
        · replace h := h.1 c48_
          exact cb_X12_readRegions_182 X hB76 Y (lv_sub hl [2, 3, 4, 5, 1, 0] rfl) h
        · replace h := h.2 c48_
          refine lv_aload_n hx hb dX12_readRegions_173 rfl (lv_at hl 2 rfl) ?_
          refine q_getI X Y kX12 8 rfl fl_X12_316 k45_ dX12_readRegions_174 ?_
          refine lv_bipush (v := 6) hx hb dX12_readRegions_177 (by decide) ?_
          refine lv_icmp_le (tgt := 188) hx hb dX12_readRegions_179 (by decide) (fun c49_ => ?_) (fun c49_ => ?_)
          · replace h := h.1 c49_
            exact cb_X12_readRegions_188 X hB76 Y (lv_sub hl [2, 3, 4, 5, 1, 0] rfl) h
          · replace h := h.2 c49_
            exact cb_X12_readRegions_182 X hB76 Y (lv_sub hl [2, 3, 4, 5, 1, 0] rfl) h
  · replace h := h.2 c36_
    refine lv_aload_n hx hb dX12_readRegions_112 rfl (lv_at hl 0 rfl) ?_
    refine lv_iconst (v := 4) hx hb dX12_readRegions_113 (by decide) ?_
    refine q_callV X Y hl (cm_X12_failHere h) mt_X12_failHere mi_X12_failHere ml_X12_338 (ci := 12) rfl k31_ (by decide) rfl rfl (by first | exact Nat.le_of_ble_eq_true rfl | simp [q_cat, q_catI, q_catJ, q_catR]) ⟨Nat.le_of_ble_eq_true rfl, Nat.le_of_ble_eq_true rfl⟩ ⟨Nat.le_of_ble_eq_true rfl, Nat.le_of_ble_eq_true rfl⟩ dX12_readRegions_114 (fun r50_ S51_ H locs hp Y => ?_)
    obtain ⟨x52_, rfl, h⟩ := hp
    refine W.eq (g2 := F0 m 117 ls [.int x52_]) rfl ?_
    refine lv_pop hx hb dX12_readRegions_117 rfl ?_
    exact q_vret X Y (Nat.le_refl _) (Nat.le_refl _) h dX12_readRegions_118
def wb_X12_readRegions_280  (S : q_S) (a0 : Nat) (Q : Option Value → q_S → Prop) : Prop := q_K S a0 = 13 ∧ (wm_X12_sign S a0 (125 : Int32) (fun r54_ S55_ => ∃ x56_ : Int32, r54_ = some (.int x56_) ∧ (Q none S55_)))
set_option maxHeartbeats 4000000 in
set_option maxRecDepth 100000 in
theorem cb_X12_readRegions_280 {p : Program} {l : Launch} {e : Env} {s : State} {m : MethodId} {args : Array Value} {below : List Frame} {meth : Method} {c : Code} {D : va_G} {cy : Nat → ClassId} {lo : Nat}  {S : q_S} {a0 : Nat} {Q : Option Value → q_S → Prop} {H : Heap} {locs : List Loc} {ls : Array Slot} (X : q_X p s m args meth c RX12 cX12_readRegions 6 none D cy lo)  (Y : q_Y D cy lo s S H locs) (hl : lv_has ls 6 [(0, .ref a0)]) (h : wb_X12_readRegions_280 S a0 Q) : W p l e ({ frames := 7, cells := 0, slots := 0, locals := 157 } : Room) s m args below meth c H locs 0 0 (MQ below (q_Q D cy lo Q) args s 0 0 (fun q => lo ≤ q)) (F0 m 280 ls []) := by
  have hx := X.1
  have hb := X.2.1
  unfold wb_X12_readRegions_280 at h
  refine lv_aload_n hx hb dX12_readRegions_280 rfl (lv_at hl 0 rfl) ?_
  refine lv_bipush (v := 125) hx hb dX12_readRegions_281 (by decide) ?_
  obtain ⟨k53_, h⟩ := h
  refine q_callV X Y hl (cm_X12_sign h) mt_X12_sign mi_X12_sign ml_X12_365 (ci := 12) rfl k53_ (by decide) rfl rfl (by first | exact Nat.le_of_ble_eq_true rfl | simp [q_cat, q_catI, q_catJ, q_catR]) ⟨Nat.le_of_ble_eq_true rfl, Nat.le_of_ble_eq_true rfl⟩ ⟨Nat.le_of_ble_eq_true rfl, Nat.le_of_ble_eq_true rfl⟩ dX12_readRegions_283 (fun r54_ S55_ H locs hp Y => ?_)
  obtain ⟨x56_, rfl, h⟩ := hp
  refine W.eq (g2 := F0 m 286 ls [.int x56_]) rfl ?_
  refine lv_pop hx hb dX12_readRegions_286 rfl ?_
  exact q_vret X Y (Nat.le_refl _) (Nat.le_refl _) h dX12_readRegions_287
def wb_X12_readRegions_255  (S : q_S) (a0 : Nat) (x1 : Int32) (x2 : Int32) (x3 : Int32) (Q : Option Value → q_S → Prop) : Prop := q_K S a0 = 13 ∧ (((¬ (q_I S 2411 a0) = 0 → (wb_X12_readRegions_280 S a0 Q)) ∧ ((q_I S 2411 a0) = 0 → (∃ a59_ : Nat, (q_P S 2425 a0) = some a59_ ∧ (q_K S a59_ = 21 ∧ (vp_in x1 (q_N S a59_) ∧ (((x3 = (q_A S a59_ x1.toNatClampNeg) → (wb_X12_readRegions_280 S a0 Q)) ∧ (¬ x3 = (q_A S a59_ x1.toNatClampNeg) → (wm_X12_fail S a0 (7 : Int32) x2 (fun r64_ S65_ => ∃ x66_ : Int32, r64_ = some (.int x66_) ∧ (wb_X12_readRegions_280 S65_ a0 Q))))))))))))
set_option maxHeartbeats 4000000 in
set_option maxRecDepth 100000 in
theorem cb_X12_readRegions_255 {p : Program} {l : Launch} {e : Env} {s : State} {m : MethodId} {args : Array Value} {below : List Frame} {meth : Method} {c : Code} {D : va_G} {cy : Nat → ClassId} {lo : Nat}  {S : q_S} {a0 : Nat} {x1 : Int32} {x2 : Int32} {x3 : Int32} {Q : Option Value → q_S → Prop} {H : Heap} {locs : List Loc} {ls : Array Slot} (X : q_X p s m args meth c RX12 cX12_readRegions 6 none D cy lo)  (Y : q_Y D cy lo s S H locs) (hl : lv_has ls 6 [(0, .ref a0), (1, .int x1), (2, .int x2), (3, .int x3)]) (h : wb_X12_readRegions_255 S a0 x1 x2 x3 Q) : W p l e ({ frames := 7, cells := 0, slots := 0, locals := 157 } : Room) s m args below meth c H locs 0 0 (MQ below (q_Q D cy lo Q) args s 0 0 (fun q => lo ≤ q)) (F0 m 255 ls []) := by
  have hx := X.1
  have hb := X.2.1
  unfold wb_X12_readRegions_255 at h
  refine lv_aload_n hx hb dX12_readRegions_255 rfl (lv_at hl 0 rfl) ?_
  obtain ⟨k57_, h⟩ := h
  refine q_getI X Y kX12 11 rfl fl_X12_328 k57_ dX12_readRegions_256 ?_
  refine lv_if_ne (tgt := 280) hx hb dX12_readRegions_259 (by decide) (fun c58_ => ?_) (fun c58_ => ?_)
  · replace h := h.1 c58_
    exact cb_X12_readRegions_280 X Y (lv_sub hl [0] rfl) h
  · replace h := h.2 c58_
    refine lv_iload_n hx hb dX12_readRegions_262 rfl (lv_at hl 3 rfl) ?_
    refine lv_aload_n hx hb dX12_readRegions_263 rfl (lv_at hl 0 rfl) ?_
    refine q_getP X Y kX12 25 rfl fl_X12_30 k57_ rfl dX12_readRegions_264 ?_
    refine lv_iload_n hx hb dX12_readRegions_267 rfl (lv_at hl 1 rfl) ?_
    obtain ⟨a59_, e60_, h⟩ := h
    refine q_nn [.int x1] e60_ ?_
    obtain ⟨k61_, h⟩ := h
    obtain ⟨i62_, h⟩ := h
    refine q_ild X Y k61_ i62_ dX12_readRegions_268 ?_
    refine lv_icmp_eq (tgt := 280) hx hb dX12_readRegions_269 (by decide) (fun c63_ => ?_) (fun c63_ => ?_)
    · replace h := h.1 c63_
      exact cb_X12_readRegions_280 X Y (lv_sub hl [0] rfl) h
    · replace h := h.2 c63_
      refine lv_aload_n hx hb dX12_readRegions_272 rfl (lv_at hl 0 rfl) ?_
      refine lv_bipush (v := 7) hx hb dX12_readRegions_273 (by decide) ?_
      refine lv_iload_n hx hb dX12_readRegions_275 rfl (lv_at hl 2 rfl) ?_
      refine q_callV X Y hl (cm_X12_fail h) mt_X12_fail mi_X12_fail ml_X12_331 (ci := 12) rfl k57_ (by decide) rfl rfl (by first | exact Nat.le_of_ble_eq_true rfl | simp [q_cat, q_catI, q_catJ, q_catR]) ⟨Nat.le_of_ble_eq_true rfl, Nat.le_of_ble_eq_true rfl⟩ ⟨Nat.le_of_ble_eq_true rfl, Nat.le_of_ble_eq_true rfl⟩ dX12_readRegions_276 (fun r64_ S65_ H locs hp Y => ?_)
      obtain ⟨x66_, rfl, h⟩ := hp
      refine W.eq (g2 := F0 m 279 ls [.int x66_]) rfl ?_
      refine lv_pop hx hb dX12_readRegions_279 rfl ?_
      exact cb_X12_readRegions_280 X Y (lv_sub hl [0] rfl) h
def wb_X12_readRegions_76 (B76 : q_S → Nat → Int32 → Int32 → Int32 → Prop) (S : q_S) (a0 : Nat) (x1 : Int32) (x2 : Int32) (x3 : Int32) (Q : Option Value → q_S → Prop) : Prop := q_K S a0 = 13 ∧ (((¬ (q_I S 2411 a0) = 0 → (wb_X12_readRegions_255 S a0 x1 x2 x3 Q)) ∧ ((q_I S 2411 a0) = 0 → (∃ a69_ : Nat, (q_P S 2426 a0) = some a69_ ∧ (q_K S a69_ = 21 ∧ (vp_in x1 (q_N S a69_) ∧ ((((q_A S a69_ x1.toNatClampNeg) = 0 → (wb_X12_readRegions_101 B76 S a0 x1 x2 x3 Q)) ∧ (¬ (q_A S a69_ x1.toNatClampNeg) = 0 → (wm_X12_isSign S a0 (125 : Int32) (fun r74_ S75_ => ∃ x76_ : Int32, r74_ = some (.int x76_) ∧ (((¬ x76_ = 0 → (wb_X12_readRegions_255 S75_ a0 x1 x2 x3 Q)) ∧ (x76_ = 0 → (wb_X12_readRegions_101 B76 S75_ a0 x1 x2 x3 Q)))))))))))))))
set_option maxHeartbeats 4000000 in
set_option maxRecDepth 100000 in
theorem cb_X12_readRegions_76 {p : Program} {l : Launch} {e : Env} {s : State} {m : MethodId} {args : Array Value} {below : List Frame} {meth : Method} {c : Code} {D : va_G} {cy : Nat → ClassId} {lo : Nat} {B76 : q_S → Nat → Int32 → Int32 → Int32 → Prop} {S : q_S} {a0 : Nat} {x1 : Int32} {x2 : Int32} {x3 : Int32} {Q : Option Value → q_S → Prop} {H : Heap} {locs : List Loc} {ls : Array Slot} (X : q_X p s m args meth c RX12 cX12_readRegions 6 none D cy lo) (hB76 : ∀ (S : q_S) (a0 : Nat) (x1 : Int32) (x2 : Int32) (x3 : Int32) (H : Heap) (locs : List Loc) (ls : Array Slot), B76 S a0 x1 x2 x3 → q_Y D cy lo s S H locs → lv_has ls 6 [(0, .ref a0), (1, .int x1), (2, .int x2), (3, .int x3)] → W p l e ({ frames := 7, cells := 0, slots := 0, locals := 157 } : Room) s m args below meth c H locs 0 0 (MQ below (q_Q D cy lo Q) args s 0 0 (fun q => lo ≤ q)) (F0 m 76 ls [])) (Y : q_Y D cy lo s S H locs) (hl : lv_has ls 6 [(0, .ref a0), (1, .int x1), (2, .int x2), (3, .int x3)]) (h : wb_X12_readRegions_76 B76 S a0 x1 x2 x3 Q) : W p l e ({ frames := 7, cells := 0, slots := 0, locals := 157 } : Room) s m args below meth c H locs 0 0 (MQ below (q_Q D cy lo Q) args s 0 0 (fun q => lo ≤ q)) (F0 m 76 ls []) := by
  have hx := X.1
  have hb := X.2.1
  unfold wb_X12_readRegions_76 at h
  refine lv_aload_n hx hb dX12_readRegions_76 rfl (lv_at hl 0 rfl) ?_
  obtain ⟨k67_, h⟩ := h
  refine q_getI X Y kX12 11 rfl fl_X12_328 k67_ dX12_readRegions_77 ?_
  refine lv_if_ne (tgt := 255) hx hb dX12_readRegions_80 (by decide) (fun c68_ => ?_) (fun c68_ => ?_)
  · replace h := h.1 c68_
    exact cb_X12_readRegions_255 X Y (lv_sub hl [0, 1, 2, 3] rfl) h
  · replace h := h.2 c68_
    refine lv_aload_n hx hb dX12_readRegions_83 rfl (lv_at hl 0 rfl) ?_
    refine q_getP X Y kX12 26 rfl fl_X12_33 k67_ rfl dX12_readRegions_84 ?_
    refine lv_iload_n hx hb dX12_readRegions_87 rfl (lv_at hl 1 rfl) ?_
    obtain ⟨a69_, e70_, h⟩ := h
    refine q_nn [.int x1] e70_ ?_
    obtain ⟨k71_, h⟩ := h
    obtain ⟨i72_, h⟩ := h
    refine q_ild X Y k71_ i72_ dX12_readRegions_88 ?_
    refine lv_if_eq (tgt := 101) hx hb dX12_readRegions_89 (by decide) (fun c73_ => ?_) (fun c73_ => ?_)
    · replace h := h.1 c73_
      exact cb_X12_readRegions_101 X hB76 Y (lv_sub hl [0, 1, 2, 3] rfl) h
    · replace h := h.2 c73_
      refine lv_aload_n hx hb dX12_readRegions_92 rfl (lv_at hl 0 rfl) ?_
      refine lv_bipush (v := 125) hx hb dX12_readRegions_93 (by decide) ?_
      refine q_callV X Y hl (cm_X12_isSign h) mt_X12_isSign mi_X12_isSign ml_X12_335 (ci := 12) rfl k67_ (by decide) rfl rfl (by first | exact Nat.le_of_ble_eq_true rfl | simp [q_cat, q_catI, q_catJ, q_catR]) ⟨Nat.le_of_ble_eq_true rfl, Nat.le_of_ble_eq_true rfl⟩ ⟨Nat.le_of_ble_eq_true rfl, Nat.le_of_ble_eq_true rfl⟩ dX12_readRegions_95 (fun r74_ S75_ H locs hp Y => ?_)
      obtain ⟨x76_, rfl, h⟩ := hp
      refine W.eq (g2 := F0 m 98 ls [.int x76_]) rfl ?_
      refine lv_if_ne (tgt := 255) hx hb dX12_readRegions_98 (by decide) (fun c77_ => ?_) (fun c77_ => ?_)
      · replace h := h.1 c77_
        exact cb_X12_readRegions_255 X Y (lv_sub hl [0, 1, 2, 3] rfl) h
      · replace h := h.2 c77_
        exact cb_X12_readRegions_101 X hB76 Y (lv_sub hl [0, 1, 2, 3] rfl) h
def wl_X12_readRegions_76  : Nat → q_S → Nat → Int32 → Int32 → Int32 → (Option Value → q_S → Prop) → Prop
  | 0, _, _, _, _, _, _ => False
  | n + 1, S, a0, x1, x2, x3, Q => wb_X12_readRegions_76 (fun S a0 x1 x2 x3 => wl_X12_readRegions_76 n S a0 x1 x2 x3 Q) S a0 x1 x2 x3 Q
set_option maxHeartbeats 4000000 in
set_option maxRecDepth 100000 in
theorem cl_X12_readRegions_76 {p : Program} {l : Launch} {e : Env} {s : State} {m : MethodId} {args : Array Value} {below : List Frame} {meth : Method} {c : Code} {D : va_G} {cy : Nat → ClassId} {lo : Nat}  {Q : Option Value → q_S → Prop} (X : q_X p s m args meth c RX12 cX12_readRegions 6 none D cy lo)  : ∀ (n : Nat) (S : q_S) (a0 : Nat) (x1 : Int32) (x2 : Int32) (x3 : Int32) (H : Heap) (locs : List Loc) (ls : Array Slot), wl_X12_readRegions_76 n S a0 x1 x2 x3 Q → q_Y D cy lo s S H locs → lv_has ls 6 [(0, .ref a0), (1, .int x1), (2, .int x2), (3, .int x3)] → W p l e ({ frames := 7, cells := 0, slots := 0, locals := 157 } : Room) s m args below meth c H locs 0 0 (MQ below (q_Q D cy lo Q) args s 0 0 (fun q => lo ≤ q)) (F0 m 76 ls []) := by
  intro n
  induction n with
  | zero => intro S a0 x1 x2 x3 H locs ls h; exact absurd h id
  | succ n ih => intro S a0 x1 x2 x3 H locs ls h Y hl; exact cb_X12_readRegions_76 X ih Y hl h
def wm_X12_readRegions (S : q_S) (a0 : Nat) (x1 : Int32) (Q : Option Value → q_S → Prop) : Prop := q_K S a0 = 13 ∧ (∃ a79_ : Nat, (q_P S 2426 a0) = some a79_ ∧ (q_K S a79_ = 21 ∧ (vp_in x1 (q_N S a79_) ∧ (wm_X12_isKey (qs_A S a79_ x1.toNatClampNeg (0 : Int32)) a0 (2 : Int32) (fun r83_ S84_ => ∃ x85_ : Int32, r83_ = some (.int x85_) ∧ (((¬ x85_ = 0 → (q_K S84_ a0 = 13 ∧ (wm_X12_next S84_ a0 (fun r88_ S89_ => r88_ = none ∧ (q_K S89_ a0 = 13 ∧ (wm_X12_sign S89_ a0 (123 : Int32) (fun r91_ S92_ => ∃ x93_ : Int32, r91_ = some (.int x93_) ∧ (∃ n94_ : Nat, wl_X12_readRegions_76 n94_ S92_ a0 x1 (q_I S84_ 2407 a0) (0 : Int32) Q)))))))) ∧ (x85_ = 0 → (q_K S84_ a0 = 13 ∧ (∃ a96_ : Nat, (q_P S84_ 2426 a0) = some a96_ ∧ (q_K S84_ a96_ = 21 ∧ (vp_in x1 (q_N S84_ a96_) ∧ (∃ a100_ : Nat, (q_P (qs_A S84_ a96_ x1.toNatClampNeg (1 : Int32)) 2427 a0) = some a100_ ∧ (q_K (qs_A S84_ a96_ x1.toNatClampNeg (1 : Int32)) a100_ = 21 ∧ (vp_in ((6 : Int32) * x1) (q_N (qs_A S84_ a96_ x1.toNatClampNeg (1 : Int32)) a100_) ∧ (∃ a104_ : Nat, (q_P (qs_A (qs_A S84_ a96_ x1.toNatClampNeg (1 : Int32)) a100_ ((6 : Int32) * x1).toNatClampNeg (0 : Int32)) 2425 a0) = some a104_ ∧ (q_K (qs_A (qs_A S84_ a96_ x1.toNatClampNeg (1 : Int32)) a100_ ((6 : Int32) * x1).toNatClampNeg (0 : Int32)) a104_ = 21 ∧ (vp_in x1 (q_N (qs_A (qs_A S84_ a96_ x1.toNatClampNeg (1 : Int32)) a100_ ((6 : Int32) * x1).toNatClampNeg (0 : Int32)) a104_) ∧ (∃ a108_ : Nat, (q_P (qs_A (qs_A S84_ a96_ x1.toNatClampNeg (1 : Int32)) a100_ ((6 : Int32) * x1).toNatClampNeg (0 : Int32)) 2428 a0) = some a108_ ∧ (q_K (qs_A (qs_A S84_ a96_ x1.toNatClampNeg (1 : Int32)) a100_ ((6 : Int32) * x1).toNatClampNeg (0 : Int32)) a108_ = 21 ∧ (vp_in ((6 : Int32) * x1) (q_N (qs_A (qs_A S84_ a96_ x1.toNatClampNeg (1 : Int32)) a100_ ((6 : Int32) * x1).toNatClampNeg (0 : Int32)) a108_) ∧ (∀ S112_ : q_S, S112_ = (qs_A (qs_A (qs_A S84_ a96_ x1.toNatClampNeg (1 : Int32)) a100_ ((6 : Int32) * x1).toNatClampNeg (0 : Int32)) a108_ ((6 : Int32) * x1).toNatClampNeg (q_A (qs_A (qs_A S84_ a96_ x1.toNatClampNeg (1 : Int32)) a100_ ((6 : Int32) * x1).toNatClampNeg (0 : Int32)) a104_ x1.toNatClampNeg)) → (∃ a113_ : Nat, (q_P S112_ 2429 a0) = some a113_ ∧ (q_K S112_ a113_ = 21 ∧ (vp_in ((6 : Int32) * x1) (q_N S112_ a113_) ∧ (Q none (qs_A S112_ a113_ ((6 : Int32) * x1).toNatClampNeg (3 : Int32))))))))))))))))))))))))))))
set_option maxHeartbeats 4000000 in
set_option maxRecDepth 100000 in
theorem cm_X12_readRegions {l : Launch} {D : va_G} {cy : Nat → ClassId} {lo : Nat} {S : q_S} {a0 : Nat} {x1 : Int32} {Q : Option Value → q_S → Prop} (h : wm_X12_readRegions S a0 x1 Q) : q_Met l D cy lo yX12_readRegions cX12_readRegions 6 none 7 157 0 0 [.ref a0, .int x1] S Q := by
  refine q_body (by decide) (by first | exact Nat.le_of_ble_eq_true rfl | simp [lg_sl, q_cat, q_catI, q_catJ, q_catR]) ?_
  intro p e s m below meth c ls X hnm Y hl
  have hx := X.1
  have hb := X.2.1
  have hl : lv_has ls 6 [(0, .ref a0), (1, .int x1)] := by first | exact hl | simpa [lv_args, q_cat, q_catI, q_catJ, q_catR] using hl
  generalize hargs : ([.ref a0, .int x1] : List Value).toArray = args at X ⊢
  unfold wm_X12_readRegions at h
  refine lv_aload_n hx hb dX12_readRegions_0 rfl (lv_at hl 0 rfl) ?_
  obtain ⟨k78_, h⟩ := h
  refine q_getP X Y kX12 26 rfl fl_X12_33 k78_ rfl dX12_readRegions_1 ?_
  refine lv_iload_n hx hb dX12_readRegions_4 rfl (lv_at hl 1 rfl) ?_
  refine lv_iconst (v := 0) hx hb dX12_readRegions_5 (by decide) ?_
  obtain ⟨a79_, e80_, h⟩ := h
  refine q_nn [.int (0 : Int32), .int x1] e80_ ?_
  obtain ⟨k81_, h⟩ := h
  obtain ⟨i82_, h⟩ := h
  refine q_ist X Y k81_ i82_ dX12_readRegions_6 (fun H locs Y => ?_)
  refine lv_aload_n hx hb dX12_readRegions_7 rfl (lv_at hl 0 rfl) ?_
  refine lv_iconst (v := 2) hx hb dX12_readRegions_8 (by decide) ?_
  refine q_callV X Y hl (cm_X12_isKey h) mt_X12_isKey mi_X12_isKey ml_X12_344 (ci := 12) rfl k78_ (by decide) rfl rfl (by first | exact Nat.le_of_ble_eq_true rfl | simp [q_cat, q_catI, q_catJ, q_catR]) ⟨Nat.le_of_ble_eq_true rfl, Nat.le_of_ble_eq_true rfl⟩ ⟨Nat.le_of_ble_eq_true rfl, Nat.le_of_ble_eq_true rfl⟩ dX12_readRegions_9 (fun r83_ S84_ H locs hp Y => ?_)
  obtain ⟨x85_, rfl, h⟩ := hp
  refine W.eq (g2 := F0 m 12 ls [.int x85_]) rfl ?_
  refine lv_if_ne (tgt := 58) hx hb dX12_readRegions_12 (by decide) (fun c86_ => ?_) (fun c86_ => ?_)
  · replace h := h.1 c86_
    refine lv_aload_n hx hb dX12_readRegions_58 rfl (lv_at hl 0 rfl) ?_
    obtain ⟨k87_, h⟩ := h
    refine q_getI X Y kX12 7 rfl fl_X12_287 k87_ dX12_readRegions_59 ?_
    refine lv_istore_n (i := 2) (lv' := [(2, .int (q_I S84_ 2407 a0)), (0, .ref a0), (1, .int x1)]) hx hb dX12_readRegions_62 rfl hl (by decide) (by first | rfl | simp [q_cat, q_catI, q_catJ, q_catR]) (fun ls hl => ?_)
    refine lv_aload_n hx hb dX12_readRegions_63 rfl (lv_at hl 1 rfl) ?_
    refine q_callV X Y hl (cm_X12_next h) mt_X12_next mi_X12_next ml_X12_341 (ci := 12) rfl k87_ (by decide) rfl rfl (by first | exact Nat.le_of_ble_eq_true rfl | simp [q_cat, q_catI, q_catJ, q_catR]) ⟨Nat.le_of_ble_eq_true rfl, Nat.le_of_ble_eq_true rfl⟩ ⟨Nat.le_of_ble_eq_true rfl, Nat.le_of_ble_eq_true rfl⟩ dX12_readRegions_64 (fun r88_ S89_ H locs hp Y => ?_)
    obtain ⟨rfl, h⟩ := hp
    refine W.eq (g2 := F0 m 67 ls []) rfl ?_
    refine lv_aload_n hx hb dX12_readRegions_67 rfl (lv_at hl 1 rfl) ?_
    refine lv_bipush (v := 123) hx hb dX12_readRegions_68 (by decide) ?_
    obtain ⟨k90_, h⟩ := h
    refine q_callV X Y hl (cm_X12_sign h) mt_X12_sign mi_X12_sign ml_X12_365 (ci := 12) rfl k90_ (by decide) rfl rfl (by first | exact Nat.le_of_ble_eq_true rfl | simp [q_cat, q_catI, q_catJ, q_catR]) ⟨Nat.le_of_ble_eq_true rfl, Nat.le_of_ble_eq_true rfl⟩ ⟨Nat.le_of_ble_eq_true rfl, Nat.le_of_ble_eq_true rfl⟩ dX12_readRegions_70 (fun r91_ S92_ H locs hp Y => ?_)
    obtain ⟨x93_, rfl, h⟩ := hp
    refine W.eq (g2 := F0 m 73 ls [.int x93_]) rfl ?_
    refine lv_pop hx hb dX12_readRegions_73 rfl ?_
    refine lv_iconst (v := 0) hx hb dX12_readRegions_74 (by decide) ?_
    refine lv_istore_n (i := 3) (lv' := [(3, .int (0 : Int32)), (2, .int (q_I S84_ 2407 a0)), (0, .ref a0), (1, .int x1)]) hx hb dX12_readRegions_75 rfl hl (by decide) (by first | rfl | simp [q_cat, q_catI, q_catJ, q_catR]) (fun ls hl => ?_)
    obtain ⟨n94_, h⟩ := h
    exact cl_X12_readRegions_76 X n94_ _ _ _ _ _ _ _ _ h Y (lv_sub hl [2, 3, 1, 0] rfl)
  · replace h := h.2 c86_
    refine lv_aload_n hx hb dX12_readRegions_15 rfl (lv_at hl 0 rfl) ?_
    obtain ⟨k95_, h⟩ := h
    refine q_getP X Y kX12 26 rfl fl_X12_33 k95_ rfl dX12_readRegions_16 ?_
    refine lv_iload_n hx hb dX12_readRegions_19 rfl (lv_at hl 1 rfl) ?_
    refine lv_iconst (v := 1) hx hb dX12_readRegions_20 (by decide) ?_
    obtain ⟨a96_, e97_, h⟩ := h
    refine q_nn [.int (1 : Int32), .int x1] e97_ ?_
    obtain ⟨k98_, h⟩ := h
    obtain ⟨i99_, h⟩ := h
    refine q_ist X Y k98_ i99_ dX12_readRegions_21 (fun H locs Y => ?_)
    refine lv_aload_n hx hb dX12_readRegions_22 rfl (lv_at hl 0 rfl) ?_
    refine q_getP X Y kX12 27 rfl fl_X12_36 k95_ rfl dX12_readRegions_23 ?_
    refine lv_bipush (v := 6) hx hb dX12_readRegions_26 (by decide) ?_
    refine lv_iload_n hx hb dX12_readRegions_28 rfl (lv_at hl 1 rfl) ?_
    refine lv_imul hx hb dX12_readRegions_29 ?_
    refine lv_iconst (v := 0) hx hb dX12_readRegions_30 (by decide) ?_
    obtain ⟨a100_, e101_, h⟩ := h
    refine q_nn [.int (0 : Int32), .int ((6 : Int32) * x1)] e101_ ?_
    obtain ⟨k102_, h⟩ := h
    obtain ⟨i103_, h⟩ := h
    refine q_ist X Y k102_ i103_ dX12_readRegions_31 (fun H locs Y => ?_)
    refine lv_aload_n hx hb dX12_readRegions_32 rfl (lv_at hl 0 rfl) ?_
    refine q_getP X Y kX12 28 rfl fl_X12_39 k95_ rfl dX12_readRegions_33 ?_
    refine lv_bipush (v := 6) hx hb dX12_readRegions_36 (by decide) ?_
    refine lv_iload_n hx hb dX12_readRegions_38 rfl (lv_at hl 1 rfl) ?_
    refine lv_imul hx hb dX12_readRegions_39 ?_
    refine lv_aload_n hx hb dX12_readRegions_40 rfl (lv_at hl 0 rfl) ?_
    refine q_getP X Y kX12 25 rfl fl_X12_30 k95_ rfl dX12_readRegions_41 ?_
    refine lv_iload_n hx hb dX12_readRegions_44 rfl (lv_at hl 1 rfl) ?_
    obtain ⟨a104_, e105_, h⟩ := h
    refine q_nn [.int x1] e105_ ?_
    obtain ⟨k106_, h⟩ := h
    obtain ⟨i107_, h⟩ := h
    refine q_ild X Y k106_ i107_ dX12_readRegions_45 ?_
    obtain ⟨a108_, e109_, h⟩ := h
    refine q_nn [.int (q_A (qs_A (qs_A S84_ a96_ x1.toNatClampNeg (1 : Int32)) a100_ ((6 : Int32) * x1).toNatClampNeg (0 : Int32)) a104_ x1.toNatClampNeg), .int ((6 : Int32) * x1)] e109_ ?_
    obtain ⟨k110_, h⟩ := h
    obtain ⟨i111_, h⟩ := h
    refine q_ist X Y k110_ i111_ dX12_readRegions_46 (fun H locs Y => ?_)
    obtain ⟨S112_, gS112_⟩ : ∃ z : q_S, z = (qs_A (qs_A (qs_A S84_ a96_ x1.toNatClampNeg (1 : Int32)) a100_ ((6 : Int32) * x1).toNatClampNeg (0 : Int32)) a108_ ((6 : Int32) * x1).toNatClampNeg (q_A (qs_A (qs_A S84_ a96_ x1.toNatClampNeg (1 : Int32)) a100_ ((6 : Int32) * x1).toNatClampNeg (0 : Int32)) a104_ x1.toNatClampNeg)) := ⟨_, rfl⟩
    replace Y : q_Y D cy lo s S112_ H locs := by rw [gS112_]; exact Y
    replace h := h S112_ gS112_
    replace k95_ : q_K S112_ a0 = 13 := by rw [gS112_]; exact k95_
    replace k98_ : q_K S112_ a96_ = 21 := by rw [gS112_]; exact k98_
    replace k102_ : q_K S112_ a100_ = 21 := by rw [gS112_]; exact k102_
    replace k106_ : q_K S112_ a104_ = 21 := by rw [gS112_]; exact k106_
    replace k110_ : q_K S112_ a108_ = 21 := by rw [gS112_]; exact k110_
    refine lv_aload_n hx hb dX12_readRegions_47 rfl (lv_at hl 0 rfl) ?_
    refine q_getP X Y kX12 29 rfl fl_X12_42 k95_ rfl dX12_readRegions_48 ?_
    refine lv_bipush (v := 6) hx hb dX12_readRegions_51 (by decide) ?_
    refine lv_iload_n hx hb dX12_readRegions_53 rfl (lv_at hl 1 rfl) ?_
    refine lv_imul hx hb dX12_readRegions_54 ?_
    refine lv_iconst (v := 3) hx hb dX12_readRegions_55 (by decide) ?_
    obtain ⟨a113_, e114_, h⟩ := h
    refine q_nn [.int (3 : Int32), .int ((6 : Int32) * x1)] e114_ ?_
    obtain ⟨k115_, h⟩ := h
    obtain ⟨i116_, h⟩ := h
    refine q_ist X Y k115_ i116_ dX12_readRegions_56 (fun H locs Y => ?_)
    exact q_vret X Y (Nat.le_refl _) (Nat.le_refl _) h dX12_readRegions_57
