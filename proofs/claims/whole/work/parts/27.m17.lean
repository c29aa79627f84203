-- X12_wordAt
theorem dX12_wordAt_0 : decode cX12_wordAt 0 = .ok (.aload_n 0, 1) := by decide +kernel
theorem dX12_wordAt_1 : decode cX12_wordAt 1 = .ok (.iconst 0, 1) := by decide +kernel
theorem dX12_wordAt_2 : decode cX12_wordAt 2 = .ok (.putfield 278, 3) := by decide +kernel
theorem dX12_wordAt_5 : decode cX12_wordAt 5 = .ok (.aload_n 0, 1) := by decide +kernel
theorem dX12_wordAt_6 : decode cX12_wordAt 6 = .ok (.iload_n 1, 1) := by decide +kernel
theorem dX12_wordAt_7 : decode cX12_wordAt 7 = .ok (.invokevirtual 666, 3) := by decide +kernel
theorem dX12_wordAt_10 : decode cX12_wordAt 10 = .ok (.ifCond .eq 16, 3) := by decide +kernel
theorem dX12_wordAt_13 : decode cX12_wordAt 13 = .ok (.iload_n 2, 1) := by decide +kernel
theorem dX12_wordAt_14 : decode cX12_wordAt 14 = .ok (.ifCond .lt 12, 3) := by decide +kernel
theorem dX12_wordAt_17 : decode cX12_wordAt 17 = .ok (.iload_n 2, 1) := by decide +kernel
theorem dX12_wordAt_18 : decode cX12_wordAt 18 = .ok (.aload_n 0, 1) := by decide +kernel
theorem dX12_wordAt_19 : decode cX12_wordAt 19 = .ok (.iload_n 1, 1) := by decide +kernel
theorem dX12_wordAt_20 : decode cX12_wordAt 20 = .ok (.invokevirtual 651, 3) := by decide +kernel
theorem dX12_wordAt_23 : decode cX12_wordAt 23 = .ok (.if_icmp .lt 5, 3) := by decide +kernel
theorem dX12_wordAt_26 : decode cX12_wordAt 26 = .ok (.iconst 0, 1) := by decide +kernel
theorem dX12_wordAt_27 : decode cX12_wordAt 27 = .ok (.ireturn, 1) := by decide +kernel
theorem dX12_wordAt_28 : decode cX12_wordAt 28 = .ok (.aload_n 0, 1) := by decide +kernel
theorem dX12_wordAt_29 : decode cX12_wordAt 29 = .ok (.getfield 115, 3) := by decide +kernel
theorem dX12_wordAt_32 : decode cX12_wordAt 32 = .ok (.iload_n 1, 1) := by decide +kernel
theorem dX12_wordAt_33 : decode cX12_wordAt 33 = .ok (.baload, 1) := by decide +kernel
theorem dX12_wordAt_34 : decode cX12_wordAt 34 = .ok (.ifCond .eq 17, 3) := by decide +kernel
theorem dX12_wordAt_37 : decode cX12_wordAt 37 = .ok (.aload_n 0, 1) := by decide +kernel
theorem dX12_wordAt_38 : decode cX12_wordAt 38 = .ok (.getfield 254, 3) := by decide +kernel
theorem dX12_wordAt_41 : decode cX12_wordAt 41 = .ok (.bipush 32, 2) := by decide +kernel
theorem dX12_wordAt_43 : decode cX12_wordAt 43 = .ok (.iload_n 1, 1) := by decide +kernel
theorem dX12_wordAt_44 : decode cX12_wordAt 44 = .ok (.imul, 1) := by decide +kernel
theorem dX12_wordAt_45 : decode cX12_wordAt 45 = .ok (.iload_n 2, 1) := by decide +kernel
theorem dX12_wordAt_46 : decode cX12_wordAt 46 = .ok (.iadd, 1) := by decide +kernel
theorem dX12_wordAt_47 : decode cX12_wordAt 47 = .ok (.iaload, 1) := by decide +kernel
theorem dX12_wordAt_48 : decode cX12_wordAt 48 = .ok (.goto 9, 3) := by decide +kernel
theorem dX12_wordAt_51 : decode cX12_wordAt 51 = .ok (.aload_n 0, 1) := by decide +kernel
theorem dX12_wordAt_52 : decode cX12_wordAt 52 = .ok (.getfield 245, 3) := by decide +kernel
theorem dX12_wordAt_55 : decode cX12_wordAt 55 = .ok (.iload_n 1, 1) := by decide +kernel
theorem dX12_wordAt_56 : decode cX12_wordAt 56 = .ok (.iaload, 1) := by decide +kernel
theorem dX12_wordAt_57 : decode cX12_wordAt 57 = .ok (.ireturn, 1) := by decide +kernel
def wb_X12_wordAt_26  (S : q_S) (Q : Option Value → q_S → Prop) : Prop := Q (some (.int (0 : Int32))) S
set_option maxHeartbeats 4000000 in
set_option maxRecDepth 100000 in
theorem cb_X12_wordAt_26 {p : Program} {l : Launch} {e : Env} {s : State} {m : MethodId} {args : Array Value} {below : List Frame} {meth : Method} {c : Code} {D : va_G} {cy : Nat → ClassId} {lo : Nat}  {S : q_S} {Q : Option Value → q_S → Prop} {H : Heap} {locs : List Loc} {ls : Array Slot} (X : q_X p s m args meth c RX12 cX12_wordAt 3 (some .int) D cy lo)  (Y : q_Y D cy lo s S H locs) (hl : lv_has ls 3 []) (h : wb_X12_wordAt_26 S Q) : W p l e ({ frames := 1, cells := 0, slots := 0, locals := 21 } : Room) s m args below meth c H locs 0 0 (MQ below (q_Q D cy lo Q) args s 0 0 (fun q => lo ≤ q)) (F0 m 26 ls []) := by
  have hx := X.1
  have hb := X.2.1
  unfold wb_X12_wordAt_26 at h
  refine lv_iconst (v := 0) hx hb dX12_wordAt_26 (by decide) ?_
  exact q_iret X Y rfl (Nat.le_refl _) (Nat.le_refl _) h dX12_wordAt_27
def wb_X12_wordAt_57  (S : q_S) (xs0 : Int32) (Q : Option Value → q_S → Prop) : Prop := Q (some (.int xs0)) S
set_option maxHeartbeats 4000000 in
set_option maxRecDepth 100000 in
theorem cb_X12_wordAt_57 {p : Program} {l : Launch} {e : Env} {s : State} {m : MethodId} {args : Array Value} {below : List Frame} {meth : Method} {c : Code} {D : va_G} {cy : Nat → ClassId} {lo : Nat}  {S : q_S} {xs0 : Int32} {Q : Option Value → q_S → Prop} {H : Heap} {locs : List Loc} {ls : Array Slot} (X : q_X p s m args meth c RX12 cX12_wordAt 3 (some .int) D cy lo)  (Y : q_Y D cy lo s S H locs) (hl : lv_has ls 3 []) (h : wb_X12_wordAt_57 S xs0 Q) : W p l e ({ frames := 1, cells := 0, slots := 0, locals := 21 } : Room) s m args below meth c H locs 0 0 (MQ below (q_Q D cy lo Q) args s 0 0 (fun q => lo ≤ q)) (F0 m 57 ls [.int xs0]) := by
  have hx := X.1
  have hb := X.2.1
  unfold wb_X12_wordAt_57 at h
  exact q_iret X Y rfl (Nat.le_refl _) (Nat.le_refl _) h dX12_wordAt_57
def wm_X12_wordAt (S : q_S) (a0 : Nat) (x1 : Int32) (x2 : Int32) (Q : Option Value → q_S → Prop) : Prop := q_K S a0 = 13 ∧ (wm_X12_isChannel (qs_I S 2400 a0 (0 : Int32)) a0 x1 (fun r2_ S3_ => ∃ x4_ : Int32, r2_ = some (.int x4_) ∧ (((x4_ = 0 → (wb_X12_wordAt_26 S3_ Q)) ∧ (¬ x4_ = 0 → (((x2 < 0 → (wb_X12_wordAt_26 S3_ Q)) ∧ (¬ x2 < 0 → (q_K S3_ a0 = 13 ∧ (wm_X12_wordsOf S3_ a0 x1 (fun r8_ S9_ => ∃ x10_ : Int32, r8_ = some (.int x10_) ∧ (((x2 < x10_ → (q_K S9_ a0 = 13 ∧ (∃ a13_ : Nat, (q_P S9_ 2454 a0) = some a13_ ∧ (q_K S9_ a13_ = 22 ∧ (vp_in x1 (q_N S9_ a13_) ∧ ((((q_A S9_ a13_ x1.toNatClampNeg) = 0 → (∃ a18_ : Nat, (q_P S9_ 2499 a0) = some a18_ ∧ (q_K S9_ a18_ = 21 ∧ (vp_in x1 (q_N S9_ a18_) ∧ (wb_X12_wordAt_57 S9_ (q_A S9_ a18_ x1.toNatClampNeg) Q))))) ∧ (¬ (q_A S9_ a13_ x1.toNatClampNeg) = 0 → (∃ a22_ : Nat, (q_P S9_ 2502 a0) = some a22_ ∧ (q_K S9_ a22_ = 21 ∧ (vp_in (((32 : Int32) * x1) + x2) (q_N S9_ a22_) ∧ (wb_X12_wordAt_57 S9_ (q_A S9_ a22_ (((32 : Int32) * x1) + x2).toNatClampNeg) Q)))))))))))) ∧ (¬ x2 < x10_ → (wb_X12_wordAt_26 S9_ Q)))))))))))))))
set_option maxHeartbeats 4000000 in
set_option maxRecDepth 100000 in
theorem cm_X12_wordAt {l : Launch} {D : va_G} {cy : Nat → ClassId} {lo : Nat} {S : q_S} {a0 : Nat} {x1 : Int32} {x2 : Int32} {Q : Option Value → q_S → Prop} (h : wm_X12_wordAt S a0 x1 x2 Q) : q_Met l D cy lo yX12_wordAt cX12_wordAt 3 (some .int) 1 21 0 0 [.ref a0, .int x1, .int x2] S Q := by
  refine q_body (by decide) (by first | exact Nat.le_of_ble_eq_true rfl | simp [lg_sl, q_cat, q_catI, q_catJ, q_catR]) ?_
  intro p e s m below meth c ls X hnm Y hl
  have hx := X.1
  have hb := X.2.1
  have hl : lv_has ls 3 [(0, .ref a0), (1, .int x1), (2, .int x2)] := by first | exact hl | simpa [lv_args, q_cat, q_catI, q_catJ, q_catR] using hl
  generalize hargs : ([.ref a0, .int x1, .int x2] : List Value).toArray = args at X ⊢
  unfold wm_X12_wordAt at h
  refine lv_aload_n hx hb dX12_wordAt_0 rfl (lv_at hl 0 rfl) ?_
  refine lv_iconst (v := 0) hx hb dX12_wordAt_1 (by decide) ?_
  obtain ⟨k1_, h⟩ := h
  refine q_putI X Y kX12 0 rfl fl_X12_278 k1_ .int rfl ⟨rfl, rfl⟩ rfl dX12_wordAt_2 (fun H locs Y => ?_)
  refine lv_aload_n hx hb dX12_wordAt_5 rfl (lv_at hl 0 rfl) ?_
  refine lv_iload_n hx hb dX12_wordAt_6 rfl (lv_at hl 1 rfl) ?_
  refine q_callV X Y hl (cm_X12_isChannel h) mt_X12_isChannel mi_X12_isChannel ml_X12_666 (ci := 12) rfl k1_ (by decide) rfl rfl (by first | exact Nat.le_of_ble_eq_true rfl | simp [q_cat, q_catI, q_catJ, q_catR]) ⟨Nat.le_of_ble_eq_true rfl, Nat.le_of_ble_eq_true rfl⟩ ⟨Nat.le_of_ble_eq_true rfl, Nat.le_of_ble_eq_true rfl⟩ dX12_wordAt_7 (fun r2_ S3_ H locs hp Y => ?_)
  obtain ⟨x4_, rfl, h⟩ := hp
  refine W.eq (g2 := F0 m 10 ls [.int x4_]) rfl ?_
  refine lv_if_eq (tgt := 26) hx hb dX12_wordAt_10 (by decide) (fun c5_ => ?_) (fun c5_ => ?_)
  · replace h := h.1 c5_
    exact cb_X12_wordAt_26 X Y (lv_sub hl [] rfl) h
  · replace h := h.2 c5_
    refine lv_iload_n hx hb dX12_wordAt_13 rfl (lv_at hl 2 rfl) ?_
    refine lv_if_lt (tgt := 26) hx hb dX12_wordAt_14 (by decide) (fun c6_ => ?_) (fun c6_ => ?_)
    · replace h := h.1 c6_
      exact cb_X12_wordAt_26 X Y (lv_sub hl [] rfl) h
    · replace h := h.2 c6_
      refine lv_iload_n hx hb dX12_wordAt_17 rfl (lv_at hl 2 rfl) ?_
      refine lv_aload_n hx hb dX12_wordAt_18 rfl (lv_at hl 0 rfl) ?_
      refine lv_iload_n hx hb dX12_wordAt_19 rfl (lv_at hl 1 rfl) ?_
      obtain ⟨k7_, h⟩ := h
      refine q_callV X Y hl (cm_X12_wordsOf h) mt_X12_wordsOf mi_X12_wordsOf ml_X12_651 (ci := 12) rfl k7_ (by decide) rfl rfl (by first | exact Nat.le_of_ble_eq_true rfl | simp [q_cat, q_catI, q_catJ, q_catR]) ⟨Nat.le_of_ble_eq_true rfl, Nat.le_of_ble_eq_true rfl⟩ ⟨Nat.le_of_ble_eq_true rfl, Nat.le_of_ble_eq_true rfl⟩ dX12_wordAt_20 (fun r8_ S9_ H locs hp Y => ?_)
      obtain ⟨x10_, rfl, h⟩ := hp
      refine W.eq (g2 := F0 m 23 ls [.int x10_, .int x2]) rfl ?_
      refine lv_icmp_lt (tgt := 28) hx hb dX12_wordAt_23 (by decide) (fun c11_ => ?_) (fun c11_ => ?_)
      · replace h := h.1 c11_
        refine lv_aload_n hx hb dX12_wordAt_28 rfl (lv_at hl 0 rfl) ?_
        obtain ⟨k12_, h⟩ := h
        refine q_getP X Y kX12 54 rfl fl_X12_115 k12_ rfl dX12_wordAt_29 ?_
        refine lv_iload_n hx hb dX12_wordAt_32 rfl (lv_at hl 1 rfl) ?_
        obtain ⟨a13_, e14_, h⟩ := h
        refine q_nn [.int x1] e14_ ?_
        obtain ⟨k15_, h⟩ := h
        obtain ⟨i16_, h⟩ := h
        refine q_zld X Y k15_ i16_ dX12_wordAt_33 ?_
        refine lv_if_eq (tgt := 51) hx hb dX12_wordAt_34 (by decide) (fun c17_ => ?_) (fun c17_ => ?_)
        · replace h := h.1 c17_
          refine lv_aload_n hx hb dX12_wordAt_51 rfl (lv_at hl 0 rfl) ?_
          refine q_getP X Y kX12 99 rfl fl_X12_245 k12_ rfl dX12_wordAt_52 ?_
          refine lv_iload_n hx hb dX12_wordAt_55 rfl (lv_at hl 1 rfl) ?_
          obtain ⟨a18_, e19_, h⟩ := h
          refine q_nn [.int x1] e19_ ?_
          obtain ⟨k20_, h⟩ := h
          obtain ⟨i21_, h⟩ := h
          refine q_ild X Y k20_ i21_ dX12_wordAt_56 ?_
          exact cb_X12_wordAt_57 X Y (lv_sub hl [] rfl) h
        · replace h := h.2 c17_
          refine lv_aload_n hx hb dX12_wordAt_37 rfl (lv_at hl 0 rfl) ?_
          refine q_getP X Y kX12 102 rfl fl_X12_254 k12_ rfl dX12_wordAt_38 ?_
          refine lv_bipush (v := 32) hx hb dX12_wordAt_41 (by decide) ?_
          refine lv_iload_n hx hb dX12_wordAt_43 rfl (lv_at hl 1 rfl) ?_
          refine lv_imul hx hb dX12_wordAt_44 ?_
          refine lv_iload_n hx hb dX12_wordAt_45 rfl (lv_at hl 2 rfl) ?_
          refine lv_iadd hx hb dX12_wordAt_46 ?_
          obtain ⟨a22_, e23_, h⟩ := h
          refine q_nn [.int (((32 : Int32) * x1) + x2)] e23_ ?_
          obtain ⟨k24_, h⟩ := h
          obtain ⟨i25_, h⟩ := h
          refine q_ild X Y k24_ i25_ dX12_wordAt_47 ?_
          refine lv_goto (tgt := 57) hx hb dX12_wordAt_48 (by decide) ?_
          exact cb_X12_wordAt_57 X Y (lv_sub hl [] rfl) h
      · replace h := h.2 c11_
        exact cb_X12_wordAt_26 X Y (lv_sub hl [] rfl) h
-- X12_trace
theorem dX12_trace_0 : decode cX12_trace 0 = .ok (.aload_n 0, 1) := by decide +kernel
theorem dX12_trace_1 : decode cX12_trace 1 = .ok (.iconst 0, 1) := by decide +kernel
theorem dX12_trace_2 : decode cX12_trace 2 = .ok (.putfield 278, 3) := by decide +kernel
theorem dX12_trace_5 : decode cX12_trace 5 = .ok (.iload_n 1, 1) := by decide +kernel
theorem dX12_trace_6 : decode cX12_trace 6 = .ok (.ifCond .lt 27, 3) := by decide +kernel
theorem dX12_trace_9 : decode cX12_trace 9 = .ok (.iload_n 1, 1) := by decide +kernel
theorem dX12_trace_10 : decode cX12_trace 10 = .ok (.aload_n 0, 1) := by decide +kernel
theorem dX12_trace_11 : decode cX12_trace 11 = .ok (.getfield 459, 3) := by decide +kernel
theorem dX12_trace_14 : decode cX12_trace 14 = .ok (.if_icmp .ge 19, 3) := by decide +kernel
theorem dX12_trace_17 : decode cX12_trace 17 = .ok (.iload_n 1, 1) := by decide +kernel
theorem dX12_trace_18 : decode cX12_trace 18 = .ok (.sipush 300, 3) := by decide +kernel
theorem dX12_trace_21 : decode cX12_trace 21 = .ok (.if_icmp .ge 12, 3) := by decide +kernel
theorem dX12_trace_24 : decode cX12_trace 24 = .ok (.iload_n 2, 1) := by decide +kernel
theorem dX12_trace_25 : decode cX12_trace 25 = .ok (.ifCond .lt 8, 3) := by decide +kernel
theorem dX12_trace_28 : decode cX12_trace 28 = .ok (.iload_n 2, 1) := by decide +kernel
theorem dX12_trace_29 : decode cX12_trace 29 = .ok (.iconst 2, 1) := by decide +kernel
theorem dX12_trace_30 : decode cX12_trace 30 = .ok (.if_icmp .le 7, 3) := by decide +kernel
theorem dX12_trace_33 : decode cX12_trace 33 = .ok (.iconst (-1), 1) := by decide +kernel
theorem dX12_trace_34 : decode cX12_trace 34 = .ok (.goto 13, 3) := by decide +kernel
theorem dX12_trace_37 : decode cX12_trace 37 = .ok (.aload_n 0, 1) := by decide +kernel
theorem dX12_trace_38 : decode cX12_trace 38 = .ok (.getfield 272, 3) := by decide +kernel
theorem dX12_trace_41 : decode cX12_trace 41 = .ok (.iconst 3, 1) := by decide +kernel
theorem dX12_trace_42 : decode cX12_trace 42 = .ok (.iload_n 1, 1) := by decide +kernel
theorem dX12_trace_43 : decode cX12_trace 43 = .ok (.imul, 1) := by decide +kernel
theorem dX12_trace_44 : decode cX12_trace 44 = .ok (.iload_n 2, 1) := by decide +kernel
theorem dX12_trace_45 : decode cX12_trace 45 = .ok (.iadd, 1) := by decide +kernel
theorem dX12_trace_46 : decode cX12_trace 46 = .ok (.iaload, 1) := by decide +kernel
theorem dX12_trace_47 : decode cX12_trace 47 = .ok (.ireturn, 1) := by decide +kernel
def wb_X12_trace_47  (S : q_S) (xs0 : Int32) (Q : Option Value → q_S → Prop) : Prop := Q (some (.int xs0)) S
set_option maxHeartbeats 4000000 in
set_option maxRecDepth 100000 in
theorem cb_X12_trace_47 {p : Program} {l : Launch} {e : Env} {s : State} {m : MethodId} {args : Array Value} {below : List Frame} {meth : Method} {c : Code} {D : va_G} {cy : Nat → ClassId} {lo : Nat}  {S : q_S} {xs0 : Int32} {Q : Option Value → q_S → Prop} {H : Heap} {locs : List Loc} {ls : Array Slot} (X : q_X p s m args meth c RX12 cX12_trace 3 (some .int) D cy lo)  (Y : q_Y D cy lo s S H locs) (hl : lv_has ls 3 []) (h : wb_X12_trace_47 S xs0 Q) : W p l e ({ frames := 0, cells := 0, slots := 0, locals := 0 } : Room) s m args below meth c H locs 0 0 (MQ below (q_Q D cy lo Q) args s 0 0 (fun q => lo ≤ q)) (F0 m 47 ls [.int xs0]) := by
  have hx := X.1
  have hb := X.2.1
  unfold wb_X12_trace_47 at h
  exact q_iret X Y rfl (Nat.le_refl _) (Nat.le_refl _) h dX12_trace_47
def wb_X12_trace_33  (S : q_S) (Q : Option Value → q_S → Prop) : Prop := wb_X12_trace_47 S (-1 : Int32) Q
set_option maxHeartbeats 4000000 in
set_option maxRecDepth 100000 in
theorem cb_X12_trace_33 {p : Program} {l : Launch} {e : Env} {s : State} {m : MethodId} {args : Array Value} {below : List Frame} {meth : Method} {c : Code} {D : va_G} {cy : Nat → ClassId} {lo : Nat}  {S : q_S} {Q : Option Value → q_S → Prop} {H : Heap} {locs : List Loc} {ls : Array Slot} (X : q_X p s m args meth c RX12 cX12_trace 3 (some .int) D cy lo)  (Y : q_Y D cy lo s S H locs) (hl : lv_has ls 3 []) (h : wb_X12_trace_33 S Q) : W p l e ({ frames := 0, cells := 0, slots := 0, locals := 0 } : Room) s m args below meth c H locs 0 0 (MQ below (q_Q D cy lo Q) args s 0 0 (fun q => lo ≤ q)) (F0 m 33 ls []) := by
  have hx := X.1
  have hb := X.2.1
  unfold wb_X12_trace_33 at h
  refine lv_iconst (v := (-1)) hx hb dX12_trace_33 (by decide) ?_
  refine lv_goto (tgt := 47) hx hb dX12_trace_34 (by decide) ?_
  exact cb_X12_trace_47 X Y (lv_sub hl [] rfl) h
def wm_X12_trace (S : q_S) (a0 : Nat) (x1 : Int32) (x2 : Int32) (Q : Option Value → q_S → Prop) : Prop := q_K S a0 = 13 ∧ (((x1 < 0 → (wb_X12_trace_33 (qs_I S 2400 a0 (0 : Int32)) Q)) ∧ (¬ x1 < 0 → ((((q_I (qs_I S 2400 a0 (0 : Int32)) 2508 a0) ≤ x1 → (wb_X12_trace_33 (qs_I S 2400 a0 (0 : Int32)) Q)) ∧ (¬ (q_I (qs_I S 2400 a0 (0 : Int32)) 2508 a0) ≤ x1 → ((((300 : Int32) ≤ x1 → (wb_X12_trace_33 (qs_I S 2400 a0 (0 : Int32)) Q)) ∧ (¬ (300 : Int32) ≤ x1 → (((x2 < 0 → (wb_X12_trace_33 (qs_I S 2400 a0 (0 : Int32)) Q)) ∧ (¬ x2 < 0 → (((x2 ≤ (2 : Int32) → (∃ a7_ : Nat, (q_P (qs_I S 2400 a0 (0 : Int32)) 2511 a0) = some a7_ ∧ (q_K (qs_I S 2400 a0 (0 : Int32)) a7_ = 21 ∧ (vp_in (((3 : Int32) * x1) + x2) (q_N (qs_I S 2400 a0 (0 : Int32)) a7_) ∧ (wb_X12_trace_47 (qs_I S 2400 a0 (0 : Int32)) (q_A (qs_I S 2400 a0 (0 : Int32)) a7_ (((3 : Int32) * x1) + x2).toNatClampNeg) Q))))) ∧ (¬ x2 ≤ (2 : Int32) → (wb_X12_trace_33 (qs_I S 2400 a0 (0 : Int32)) Q))))))))))))))))
set_option maxHeartbeats 4000000 in
set_option maxRecDepth 100000 in
theorem cm_X12_trace {l : Launch} {D : va_G} {cy : Nat → ClassId} {lo : Nat} {S : q_S} {a0 : Nat} {x1 : Int32} {x2 : Int32} {Q : Option Value → q_S → Prop} (h : wm_X12_trace S a0 x1 x2 Q) : q_Met l D cy lo yX12_trace cX12_trace 3 (some .int) 0 0 0 0 [.ref a0, .int x1, .int x2] S Q := by
  refine q_body (by decide) (by first | exact Nat.le_of_ble_eq_true rfl | simp [lg_sl, q_cat, q_catI, q_catJ, q_catR]) ?_
  intro p e s m below meth c ls X hnm Y hl
  have hx := X.1
  have hb := X.2.1
  have hl : lv_has ls 3 [(0, .ref a0), (1, .int x1), (2, .int x2)] := by first | exact hl | simpa [lv_args, q_cat, q_catI, q_catJ, q_catR] using hl
  generalize hargs : ([.ref a0, .int x1, .int x2] : List Value).toArray = args at X ⊢
  unfold wm_X12_trace at h
  refine lv_aload_n hx hb dX12_trace_0 rfl (lv_at hl 0 rfl) ?_
  refine lv_iconst (v := 0) hx hb dX12_trace_1 (by decide) ?_
  obtain ⟨k1_, h⟩ := h
  refine q_putI X Y kX12 0 rfl fl_X12_278 k1_ .int rfl ⟨rfl, rfl⟩ rfl dX12_trace_2 (fun H locs Y => ?_)
  refine lv_iload_n hx hb dX12_trace_5 rfl (lv_at hl 1 rfl) ?_
  refine lv_if_lt (tgt := 33) hx hb dX12_trace_6 (by decide) (fun c2_ => ?_) (fun c2_ => ?_)
  · replace h := h.1 c2_
    exact cb_X12_trace_33 X Y (lv_sub hl [] rfl) h
  · replace h := h.2 c2_
    refine lv_iload_n hx hb dX12_trace_9 rfl (lv_at hl 1 rfl) ?_
    refine lv_aload_n hx hb dX12_trace_10 rfl (lv_at hl 0 rfl) ?_
    refine q_getI X Y kX12 108 rfl fl_X12_459 k1_ dX12_trace_11 ?_
    refine lv_icmp_ge (tgt := 33) hx hb dX12_trace_14 (by decide) (fun c3_ => ?_) (fun c3_ => ?_)
    · replace h := h.1 c3_
      exact cb_X12_trace_33 X Y (lv_sub hl [] rfl) h
    · replace h := h.2 c3_
      refine lv_iload_n hx hb dX12_trace_17 rfl (lv_at hl 1 rfl) ?_
      refine lv_sipush (v := 300) hx hb dX12_trace_18 (by decide) ?_
      refine lv_icmp_ge (tgt := 33) hx hb dX12_trace_21 (by decide) (fun c4_ => ?_) (fun c4_ => ?_)
      · replace h := h.1 c4_
        exact cb_X12_trace_33 X Y (lv_sub hl [] rfl) h
      · replace h := h.2 c4_
        refine lv_iload_n hx hb dX12_trace_24 rfl (lv_at hl 2 rfl) ?_
        refine lv_if_lt (tgt := 33) hx hb dX12_trace_25 (by decide) (fun c5_ => ?_) (fun c5_ => ?_)
        · replace h := h.1 c5_
          exact cb_X12_trace_33 X Y (lv_sub hl [] rfl) h
        · replace h := h.2 c5_
          refine lv_iload_n hx hb dX12_trace_28 rfl (lv_at hl 2 rfl) ?_
          refine lv_iconst (v := 2) hx hb dX12_trace_29 (by decide) ?_
          refine lv_icmp_le (tgt := 37) hx hb dX12_trace_30 (by decide) (fun c6_ => ?_) (fun c6_ => ?_)
          · replace h := h.1 c6_
            refine lv_aload_n hx hb dX12_trace_37 rfl (lv_at hl 0 rfl) ?_
            refine q_getP X Y kX12 111 rfl fl_X12_272 k1_ rfl dX12_trace_38 ?_
            refine lv_iconst (v := 3) hx hb dX12_trace_41 (by decide) ?_
            refine lv_iload_n hx hb dX12_trace_42 rfl (lv_at hl 1 rfl) ?_
            refine lv_imul hx hb dX12_trace_43 ?_
            refine lv_iload_n hx hb dX12_trace_44 rfl (lv_at hl 2 rfl) ?_
            refine lv_iadd hx hb dX12_trace_45 ?_
            obtain ⟨a7_, e8_, h⟩ := h
            refine q_nn [.int (((3 : Int32) * x1) + x2)] e8_ ?_
            obtain ⟨k9_, h⟩ := h
            obtain ⟨i10_, h⟩ := h
            refine q_ild X Y k9_ i10_ dX12_trace_46 ?_
            exact cb_X12_trace_47 X Y (lv_sub hl [] rfl) h
          · replace h := h.2 c6_
            exact cb_X12_trace_33 X Y (lv_sub hl [] rfl) h
-- X12_error
theorem dX12_error_0 : decode cX12_error 0 = .ok (.aload_n 0, 1) := by decide +kernel
theorem dX12_error_1 : decode cX12_error 1 = .ok (.iconst 0, 1) := by decide +kernel
theorem dX12_error_2 : decode cX12_error 2 = .ok (.putfield 278, 3) := by decide +kernel
theorem dX12_error_5 : decode cX12_error 5 = .ok (.iload_n 1, 1) := by decide +kernel
theorem dX12_error_6 : decode cX12_error 6 = .ok (.ifCond .lt 26, 3) := by decide +kernel
theorem dX12_error_9 : decode cX12_error 9 = .ok (.iload_n 1, 1) := by decide +kernel
theorem dX12_error_10 : decode cX12_error 10 = .ok (.aload_n 0, 1) := by decide +kernel
theorem dX12_error_11 : decode cX12_error 11 = .ok (.getfield 462, 3) := by decide +kernel
theorem dX12_error_14 : decode cX12_error 14 = .ok (.if_icmp .ge 18, 3) := by decide +kernel
theorem dX12_error_17 : decode cX12_error 17 = .ok (.iload_n 1, 1) := by decide +kernel
theorem dX12_error_18 : decode cX12_error 18 = .ok (.bipush 64, 2) := by decide +kernel
theorem dX12_error_20 : decode cX12_error 20 = .ok (.if_icmp .ge 12, 3) := by decide +kernel
theorem dX12_error_23 : decode cX12_error 23 = .ok (.iload_n 2, 1) := by decide +kernel
theorem dX12_error_24 : decode cX12_error 24 = .ok (.ifCond .lt 8, 3) := by decide +kernel
theorem dX12_error_27 : decode cX12_error 27 = .ok (.iload_n 2, 1) := by decide +kernel
theorem dX12_error_28 : decode cX12_error 28 = .ok (.iconst 5, 1) := by decide +kernel
theorem dX12_error_29 : decode cX12_error 29 = .ok (.if_icmp .le 5, 3) := by decide +kernel
theorem dX12_error_32 : decode cX12_error 32 = .ok (.iconst (-1), 1) := by decide +kernel
theorem dX12_error_33 : decode cX12_error 33 = .ok (.ireturn, 1) := by decide +kernel
theorem dX12_error_34 : decode cX12_error 34 = .ok (.aload_n 0, 1) := by decide +kernel
theorem dX12_error_35 : decode cX12_error 35 = .ok (.getfield 275, 3) := by decide +kernel
theorem dX12_error_38 : decode cX12_error 38 = .ok (.bipush 6, 2) := by decide +kernel
theorem dX12_error_40 : decode cX12_error 40 = .ok (.aload_n 0, 1) := by decide +kernel
theorem dX12_error_41 : decode cX12_error 41 = .ok (.getfield 462, 3) := by decide +kernel
theorem dX12_error_44 : decode cX12_error 44 = .ok (.iconst 1, 1) := by decide +kernel
theorem dX12_error_45 : decode cX12_error 45 = .ok (.isub, 1) := by decide +kernel
theorem dX12_error_46 : decode cX12_error 46 = .ok (.iload_n 1, 1) := by decide +kernel
theorem dX12_error_47 : decode cX12_error 47 = .ok (.isub, 1) := by decide +kernel
theorem dX12_error_48 : decode cX12_error 48 = .ok (.bipush 64, 2) := by decide +kernel
theorem dX12_error_50 : decode cX12_error 50 = .ok (.irem, 1) := by decide +kernel
theorem dX12_error_51 : decode cX12_error 51 = .ok (.imul, 1) := by decide +kernel
theorem dX12_error_52 : decode cX12_error 52 = .ok (.iload_n 2, 1) := by decide +kernel
theorem dX12_error_53 : decode cX12_error 53 = .ok (.iadd, 1) := by decide +kernel
theorem dX12_error_54 : decode cX12_error 54 = .ok (.iaload, 1) := by decide +kernel
theorem dX12_error_55 : decode cX12_error 55 = .ok (.ireturn, 1) := by decide +kernel
def wb_X12_error_32  (S : q_S) (Q : Option Value → q_S → Prop) : Prop := Q (some (.int (-1 : Int32))) S
set_option maxHeartbeats 4000000 in
set_option maxRecDepth 100000 in
theorem cb_X12_error_32 {p : Program} {l : Launch} {e : Env} {s : State} {m : MethodId} {args : Array Value} {below : List Frame} {meth : Method} {c : Code} {D : va_G} {cy : Nat → ClassId} {lo : Nat}  {S : q_S} {Q : Option Value → q_S → Prop} {H : Heap} {locs : List Loc} {ls : Array Slot} (X : q_X p s m args meth c RX12 cX12_error 3 (some .int) D cy lo)  (Y : q_Y D cy lo s S H locs) (hl : lv_has ls 3 []) (h : wb_X12_error_32 S Q) : W p l e ({ frames := 0, cells := 0, slots := 0, locals := 0 } : Room) s m args below meth c H locs 0 0 (MQ below (q_Q D cy lo Q) args s 0 0 (fun q => lo ≤ q)) (F0 m 32 ls []) := by
  have hx := X.1
  have hb := X.2.1
  unfold wb_X12_error_32 at h
  refine lv_iconst (v := (-1)) hx hb dX12_error_32 (by decide) ?_
  exact q_iret X Y rfl (Nat.le_refl _) (Nat.le_refl _) h dX12_error_33
def wm_X12_error (S : q_S) (a0 : Nat) (x1 : Int32) (x2 : Int32) (Q : Option Value → q_S → Prop) : Prop := q_K S a0 = 13 ∧ (((x1 < 0 → (wb_X12_error_32 (qs_I S 2400 a0 (0 : Int32)) Q)) ∧ (¬ x1 < 0 → ((((q_I (qs_I S 2400 a0 (0 : Int32)) 2509 a0) ≤ x1 → (wb_X12_error_32 (qs_I S 2400 a0 (0 : Int32)) Q)) ∧ (¬ (q_I (qs_I S 2400 a0 (0 : Int32)) 2509 a0) ≤ x1 → ((((64 : Int32) ≤ x1 → (wb_X12_error_32 (qs_I S 2400 a0 (0 : Int32)) Q)) ∧ (¬ (64 : Int32) ≤ x1 → (((x2 < 0 → (wb_X12_error_32 (qs_I S 2400 a0 (0 : Int32)) Q)) ∧ (¬ x2 < 0 → (((x2 ≤ (5 : Int32) → (∃ a7_ : Nat, (q_P (qs_I S 2400 a0 (0 : Int32)) 2512 a0) = some a7_ ∧ (q_K (qs_I S 2400 a0 (0 : Int32)) a7_ = 21 ∧ (vp_in (((6 : Int32) * ((((q_I (qs_I S 2400 a0 (0 : Int32)) 2509 a0) - (1 : Int32)) - x1) - (((q_I (qs_I S 2400 a0 (0 : Int32)) 2509 a0) - (1 : Int32)) - x1) / (64 : Int32) * (64 : Int32))) + x2) (q_N (qs_I S 2400 a0 (0 : Int32)) a7_) ∧ (Q (some (.int (q_A (qs_I S 2400 a0 (0 : Int32)) a7_ (((6 : Int32) * ((((q_I (qs_I S 2400 a0 (0 : Int32)) 2509 a0) - (1 : Int32)) - x1) - (((q_I (qs_I S 2400 a0 (0 : Int32)) 2509 a0) - (1 : Int32)) - x1) / (64 : Int32) * (64 : Int32))) + x2).toNatClampNeg))) (qs_I S 2400 a0 (0 : Int32))))))) ∧ (¬ x2 ≤ (5 : Int32) → (wb_X12_error_32 (qs_I S 2400 a0 (0 : Int32)) Q))))))))))))))))
set_option maxHeartbeats 4000000 in
set_option maxRecDepth 100000 in
theorem cm_X12_error {l : Launch} {D : va_G} {cy : Nat → ClassId} {lo : Nat} {S : q_S} {a0 : Nat} {x1 : Int32} {x2 : Int32} {Q : Option Value → q_S → Prop} (h : wm_X12_error S a0 x1 x2 Q) : q_Met l D cy lo yX12_error cX12_error 3 (some .int) 0 0 0 0 [.ref a0, .int x1, .int x2] S Q := by
  refine q_body (by decide) (by first | exact Nat.le_of_ble_eq_true rfl | simp [lg_sl, q_cat, q_catI, q_catJ, q_catR]) ?_
  intro p e s m below meth c ls X hnm Y hl
  have hx := X.1
  have hb := X.2.1
  have hl : lv_has ls 3 [(0, .ref a0), (1, .int x1), (2, .int x2)] := by first | exact hl | simpa [lv_args, q_cat, q_catI, q_catJ, q_catR] using hl
  generalize hargs : ([.ref a0, .int x1, .int x2] : List Value).toArray = args at X ⊢
  unfold wm_X12_error at h
  refine lv_aload_n hx hb dX12_error_0 rfl (lv_at hl 0 rfl) ?_
  refine lv_iconst (v := 0) hx hb dX12_error_1 (by decide) ?_
  obtain ⟨k1_, h⟩ := h
  refine q_putI X Y kX12 0 rfl fl_X12_278 k1_ .int rfl ⟨rfl, rfl⟩ rfl dX12_error_2 (fun H locs Y => ?_)
  refine lv_iload_n hx hb dX12_error_5 rfl (lv_at hl 1 rfl) ?_
  refine lv_if_lt (tgt := 32) hx hb dX12_error_6 (by decide) (fun c2_ => ?_) (fun c2_ => ?_)
  · replace h := h.1 c2_
    exact cb_X12_error_32 X Y (lv_sub hl [] rfl) h
  · replace h := h.2 c2_
    refine lv_iload_n hx hb dX12_error_9 rfl (lv_at hl 1 rfl) ?_
    refine lv_aload_n hx hb dX12_error_10 rfl (lv_at hl 0 rfl) ?_
    refine q_getI X Y kX12 109 rfl fl_X12_462 k1_ dX12_error_11 ?_
    refine lv_icmp_ge (tgt := 32) hx hb dX12_error_14 (by decide) (fun c3_ => ?_) (fun c3_ => ?_)
    · replace h := h.1 c3_
      exact cb_X12_error_32 X Y (lv_sub hl [] rfl) h
    · replace h := h.2 c3_
      refine lv_iload_n hx hb dX12_error_17 rfl (lv_at hl 1 rfl) ?_
      refine lv_bipush (v := 64) hx hb dX12_error_18 (by decide) ?_
      refine lv_icmp_ge (tgt := 32) hx hb dX12_error_20 (by decide) (fun c4_ => ?_) (fun c4_ => ?_)
      · replace h := h.1 c4_
        exact cb_X12_error_32 X Y (lv_sub hl [] rfl) h
      · replace h := h.2 c4_
        refine lv_iload_n hx hb dX12_error_23 rfl (lv_at hl 2 rfl) ?_
        refine lv_if_lt (tgt := 32) hx hb dX12_error_24 (by decide) (fun c5_ => ?_) (fun c5_ => ?_)
        · replace h := h.1 c5_
          exact cb_X12_error_32 X Y (lv_sub hl [] rfl) h
        · replace h := h.2 c5_
          refine lv_iload_n hx hb dX12_error_27 rfl (lv_at hl 2 rfl) ?_
          refine lv_iconst (v := 5) hx hb dX12_error_28 (by decide) ?_
          refine lv_icmp_le (tgt := 34) hx hb dX12_error_29 (by decide) (fun c6_ => ?_) (fun c6_ => ?_)
          · replace h := h.1 c6_
            refine lv_aload_n hx hb dX12_error_34 rfl (lv_at hl 0 rfl) ?_
            refine q_getP X Y kX12 112 rfl fl_X12_275 k1_ rfl dX12_error_35 ?_
            refine lv_bipush (v := 6) hx hb dX12_error_38 (by decide) ?_
            refine lv_aload_n hx hb dX12_error_40 rfl (lv_at hl 0 rfl) ?_
            refine q_getI X Y kX12 109 rfl fl_X12_462 k1_ dX12_error_41 ?_
            refine lv_iconst (v := 1) hx hb dX12_error_44 (by decide) ?_
            refine lv_isub hx hb dX12_error_45 ?_
            refine lv_iload_n hx hb dX12_error_46 rfl (lv_at hl 1 rfl) ?_
            refine lv_isub hx hb dX12_error_47 ?_
            refine lv_bipush (v := 64) hx hb dX12_error_48 (by decide) ?_
            refine lv_irem hx hb dX12_error_50 (by decide) ?_
            refine lv_imul hx hb dX12_error_51 ?_
            refine lv_iload_n hx hb dX12_error_52 rfl (lv_at hl 2 rfl) ?_
            refine lv_iadd hx hb dX12_error_53 ?_
            obtain ⟨a7_, e8_, h⟩ := h
            refine q_nn [.int (((6 : Int32) * ((((q_I (qs_I S 2400 a0 (0 : Int32)) 2509 a0) - (1 : Int32)) - x1) - (((q_I (qs_I S 2400 a0 (0 : Int32)) 2509 a0) - (1 : Int32)) - x1) / (64 : Int32) * (64 : Int32))) + x2)] e8_ ?_
            obtain ⟨k9_, h⟩ := h
            obtain ⟨i10_, h⟩ := h
            refine q_ild X Y k9_ i10_ dX12_error_54 ?_
            exact q_iret X Y rfl (Nat.le_refl _) (Nat.le_refl _) h dX12_error_55
          · replace h := h.2 c6_
            exact cb_X12_error_32 X Y (lv_sub hl [] rfl) h
-- X12_about
theorem dX12_about_0 : decode cX12_about 0 = .ok (.aload_n 0, 1) := by decide +kernel
theorem dX12_about_1 : decode cX12_about 1 = .ok (.iconst 0, 1) := by decide +kernel
theorem dX12_about_2 : decode cX12_about 2 = .ok (.putfield 278, 3) := by decide +kernel
theorem dX12_about_5 : decode cX12_about 5 = .ok (.iload_n 1, 1) := by decide +kernel
theorem dX12_about_6 : decode cX12_about 6 = .ok (.tableswitch 120 0 9 #[54, 59, 64, 69, 90, 95, 100, 105, 110, 115], 54) := by decide +kernel
theorem dX12_about_60 : decode cX12_about 60 = .ok (.aload_n 0, 1) := by decide +kernel
theorem dX12_about_61 : decode cX12_about 61 = .ok (.getfield 453, 3) := by decide +kernel
theorem dX12_about_64 : decode cX12_about 64 = .ok (.ireturn, 1) := by decide +kernel
theorem dX12_about_65 : decode cX12_about 65 = .ok (.aload_n 0, 1) := by decide +kernel
theorem dX12_about_66 : decode cX12_about 66 = .ok (.getfield 462, 3) := by decide +kernel
theorem dX12_about_69 : decode cX12_about 69 = .ok (.ireturn, 1) := by decide +kernel
theorem dX12_about_70 : decode cX12_about 70 = .ok (.aload_n 0, 1) := by decide +kernel
theorem dX12_about_71 : decode cX12_about 71 = .ok (.getfield 465, 3) := by decide +kernel
theorem dX12_about_74 : decode cX12_about 74 = .ok (.ireturn, 1) := by decide +kernel
theorem dX12_about_75 : decode cX12_about 75 = .ok (.aload_n 0, 1) := by decide +kernel
theorem dX12_about_76 : decode cX12_about 76 = .ok (.getfield 450, 3) := by decide +kernel
theorem dX12_about_79 : decode cX12_about 79 = .ok (.ifCond .eq 15, 3) := by decide +kernel
theorem dX12_about_82 : decode cX12_about 82 = .ok (.aload_n 0, 1) := by decide +kernel
theorem dX12_about_83 : decode cX12_about 83 = .ok (.getfield 136, 3) := by decide +kernel
theorem dX12_about_86 : decode cX12_about 86 = .ok (.aload_n 0, 1) := by decide +kernel
theorem dX12_about_87 : decode cX12_about 87 = .ok (.invokevirtual 515, 3) := by decide +kernel
theorem dX12_about_90 : decode cX12_about 90 = .ok (.iaload, 1) := by decide +kernel
theorem dX12_about_91 : decode cX12_about 91 = .ok (.goto 4, 3) := by decide +kernel
theorem dX12_about_94 : decode cX12_about 94 = .ok (.iconst (-1), 1) := by decide +kernel
theorem dX12_about_95 : decode cX12_about 95 = .ok (.ireturn, 1) := by decide +kernel
theorem dX12_about_96 : decode cX12_about 96 = .ok (.aload_n 0, 1) := by decide +kernel
theorem dX12_about_97 : decode cX12_about 97 = .ok (.getfield 459, 3) := by decide +kernel
theorem dX12_about_100 : decode cX12_about 100 = .ok (.ireturn, 1) := by decide +kernel
theorem dX12_about_101 : decode cX12_about 101 = .ok (.aload_n 0, 1) := by decide +kernel
theorem dX12_about_102 : decode cX12_about 102 = .ok (.getfield 350, 3) := by decide +kernel
theorem dX12_about_105 : decode cX12_about 105 = .ok (.ireturn, 1) := by decide +kernel
theorem dX12_about_106 : decode cX12_about 106 = .ok (.aload_n 0, 1) := by decide +kernel
theorem dX12_about_107 : decode cX12_about 107 = .ok (.getfield 409, 3) := by decide +kernel
theorem dX12_about_110 : decode cX12_about 110 = .ok (.ireturn, 1) := by decide +kernel
theorem dX12_about_111 : decode cX12_about 111 = .ok (.aload_n 0, 1) := by decide +kernel
theorem dX12_about_112 : decode cX12_about 112 = .ok (.getfield 422, 3) := by decide +kernel
theorem dX12_about_115 : decode cX12_about 115 = .ok (.ireturn, 1) := by decide +kernel
theorem dX12_about_116 : decode cX12_about 116 = .ok (.aload_n 0, 1) := by decide +kernel
theorem dX12_about_117 : decode cX12_about 117 = .ok (.getfield 416, 3) := by decide +kernel
theorem dX12_about_120 : decode cX12_about 120 = .ok (.ireturn, 1) := by decide +kernel
theorem dX12_about_121 : decode cX12_about 121 = .ok (.aload_n 0, 1) := by decide +kernel
theorem dX12_about_122 : decode cX12_about 122 = .ok (.getfield 419, 3) := by decide +kernel
theorem dX12_about_125 : decode cX12_about 125 = .ok (.ireturn, 1) := by decide +kernel
theorem dX12_about_126 : decode cX12_about 126 = .ok (.iconst (-1), 1) := by decide +kernel
theorem dX12_about_127 : decode cX12_about 127 = .ok (.ireturn, 1) := by decide +kernel
def wb_X12_about_95  (S : q_S) (xs0 : Int32) (Q : Option Value → q_S → Prop) : Prop := Q (some (.int xs0)) S
set_option maxHeartbeats 4000000 in
set_option maxRecDepth 100000 in
theorem cb_X12_about_95 {p : Program} {l : Launch} {e : Env} {s : State} {m : MethodId} {args : Array Value} {below : List Frame} {meth : Method} {c : Code} {D : va_G} {cy : Nat → ClassId} {lo : Nat}  {S : q_S} {xs0 : Int32} {Q : Option Value → q_S → Prop} {H : Heap} {locs : List Loc} {ls : Array Slot} (X : q_X p s m args meth c RX12 cX12_about 2 (some .int) D cy lo)  (Y : q_Y D cy lo s S H locs) (hl : lv_has ls 2 []) (h : wb_X12_about_95 S xs0 Q) : W p l e ({ frames := 1, cells := 0, slots := 0, locals := 22 } : Room) s m args below meth c H locs 0 0 (MQ below (q_Q D cy lo Q) args s 0 0 (fun q => lo ≤ q)) (F0 m 95 ls [.int xs0]) := by
  have hx := X.1
  have hb := X.2.1
  unfold wb_X12_about_95 at h
  exact q_iret X Y rfl (Nat.le_refl _) (Nat.le_refl _) h dX12_about_95
def wm_X12_about (S : q_S) (a0 : Nat) (x1 : Int32) (Q : Option Value → q_S → Prop) : Prop := q_K S a0 = 13 ∧ ((((x1.toInt < 0 ∨ 9 < x1.toInt) → (Q (some (.int (-1 : Int32))) (qs_I S 2400 a0 (0 : Int32)))) ∧ ((x1 = (0 : Int32)) → (Q (some (.int (q_I (qs_I S 2400 a0 (0 : Int32)) 2463 a0))) (qs_I S 2400 a0 (0 : Int32)))) ∧ ((x1 = (1 : Int32)) → (Q (some (.int (q_I (qs_I S 2400 a0 (0 : Int32)) 2509 a0))) (qs_I S 2400 a0 (0 : Int32)))) ∧ ((x1 = (2 : Int32)) → (Q (some (.int (q_I (qs_I S 2400 a0 (0 : Int32)) 2510 a0))) (qs_I S 2400 a0 (0 : Int32)))) ∧ ((x1 = (3 : Int32)) → ((((q_I (qs_I S 2400 a0 (0 : Int32)) 2414 a0) = 0 → (wb_X12_about_95 (qs_I S 2400 a0 (0 : Int32)) (-1 : Int32) Q)) ∧ (¬ (q_I (qs_I S 2400 a0 (0 : Int32)) 2414 a0) = 0 → (wm_X12_window (qs_I S 2400 a0 (0 : Int32)) a0 (fun r3_ S4_ => ∃ x5_ : Int32, r3_ = some (.int x5_) ∧ (∃ a6_ : Nat, (q_P (qs_I S 2400 a0 (0 : Int32)) 2461 a0) = some a6_ ∧ (q_K S4_ a6_ = 21 ∧ (vp_in x5_ (q_N S4_ a6_) ∧ (wb_X12_about_95 S4_ (q_A S4_ a6_ x5_.toNatClampNeg) Q)))))))))) ∧ ((x1 = (4 : Int32)) → (Q (some (.int (q_I (qs_I S 2400 a0 (0 : Int32)) 2508 a0))) (qs_I S 2400 a0 (0 : Int32)))) ∧ ((x1 = (5 : Int32)) → (Q (some (.int (q_I (qs_I S 2400 a0 (0 : Int32)) 2415 a0))) (qs_I S 2400 a0 (0 : Int32)))) ∧ ((x1 = (6 : Int32)) → (Q (some (.int (q_I (qs_I S 2400 a0 (0 : Int32)) 2416 a0))) (qs_I S 2400 a0 (0 : Int32)))) ∧ ((x1 = (7 : Int32)) → (Q (some (.int (q_I (qs_I S 2400 a0 (0 : Int32)) 2417 a0))) (qs_I S 2400 a0 (0 : Int32)))) ∧ ((x1 = (8 : Int32)) → (Q (some (.int (q_I (qs_I S 2400 a0 (0 : Int32)) 2418 a0))) (qs_I S 2400 a0 (0 : Int32)))) ∧ ((x1 = (9 : Int32)) → (Q (some (.int (q_I (qs_I S 2400 a0 (0 : Int32)) 2419 a0))) (qs_I S 2400 a0 (0 : Int32))))))
set_option maxHeartbeats 4000000 in
set_option maxRecDepth 100000 in
theorem cm_X12_about {l : Launch} {D : va_G} {cy : Nat → ClassId} {lo : Nat} {S : q_S} {a0 : Nat} {x1 : Int32} {Q : Option Value → q_S → Prop} (h : wm_X12_about S a0 x1 Q) : q_Met l D cy lo yX12_about cX12_about 2 (some .int) 1 22 0 0 [.ref a0, .int x1] S Q := by
  refine q_body (by decide) (by first | exact Nat.le_of_ble_eq_true rfl | simp [lg_sl, q_cat, q_catI, q_catJ, q_catR]) ?_
  intro p e s m below meth c ls X hnm Y hl
  have hx := X.1
  have hb := X.2.1
  have hl : lv_has ls 2 [(0, .ref a0), (1, .int x1)] := by first | exact hl | simpa [lv_args, q_cat, q_catI, q_catJ, q_catR] using hl
  generalize hargs : ([.ref a0, .int x1] : List Value).toArray = args at X ⊢
  unfold wm_X12_about at h
  refine lv_aload_n hx hb dX12_about_0 rfl (lv_at hl 0 rfl) ?_
  refine lv_iconst (v := 0) hx hb dX12_about_1 (by decide) ?_
  obtain ⟨k1_, h⟩ := h
  refine q_putI X Y kX12 0 rfl fl_X12_278 k1_ .int rfl ⟨rfl, rfl⟩ rfl dX12_about_2 (fun H locs Y => ?_)
  refine lv_iload_n hx hb dX12_about_5 rfl (lv_at hl 1 rfl) ?_
  refine q_tsw (tgt := 126) hx hb dX12_about_6 (by decide) (by decide) (fun c10_ => ?_) (fun j11_ hj_ c10_ => ?_)
  · replace h := h.1 c10_
    refine lv_iconst (v := (-1)) hx hb dX12_about_126 (by decide) ?_
    exact q_iret X Y rfl (Nat.le_refl _) (Nat.le_refl _) h dX12_about_127
  · match j11_, hj_, c10_ with
    | 0, _, c10_ =>
      refine ⟨54, 60, rfl, by decide, ?_⟩
      replace h := h.2.1 (q_eqI c10_ (by decide))
      refine lv_aload_n hx hb dX12_about_60 rfl (lv_at hl 0 rfl) ?_
      refine q_getI X Y kX12 63 rfl fl_X12_453 k1_ dX12_about_61 ?_
      exact q_iret X Y rfl (Nat.le_refl _) (Nat.le_refl _) h dX12_about_64
    | 1, _, c10_ =>
      refine ⟨59, 65, rfl, by decide, ?_⟩
      replace h := h.2.2.1 (q_eqI c10_ (by decide))
      refine lv_aload_n hx hb dX12_about_65 rfl (lv_at hl 0 rfl) ?_
      refine q_getI X Y kX12 109 rfl fl_X12_462 k1_ dX12_about_66 ?_
      exact q_iret X Y rfl (Nat.le_refl _) (Nat.le_refl _) h dX12_about_69
    | 2, _, c10_ =>
      refine ⟨64, 70, rfl, by decide, ?_⟩
      replace h := h.2.2.2.1 (q_eqI c10_ (by decide))
      refine lv_aload_n hx hb dX12_about_70 rfl (lv_at hl 0 rfl) ?_
      refine q_getI X Y kX12 110 rfl fl_X12_465 k1_ dX12_about_71 ?_
      exact q_iret X Y rfl (Nat.le_refl _) (Nat.le_refl _) h dX12_about_74
    | 3, _, c10_ =>
      refine ⟨69, 75, rfl, by decide, ?_⟩
      replace h := h.2.2.2.2.1 (q_eqI c10_ (by decide))
      refine lv_aload_n hx hb dX12_about_75 rfl (lv_at hl 0 rfl) ?_
      refine q_getI X Y kX12 14 rfl fl_X12_450 k1_ dX12_about_76 ?_
      refine lv_if_eq (tgt := 94) hx hb dX12_about_79 (by decide) (fun c2_ => ?_) (fun c2_ => ?_)
      · replace h := h.1 c2_
        refine lv_iconst (v := (-1)) hx hb dX12_about_94 (by decide) ?_
        exact cb_X12_about_95 X Y (lv_sub hl [] rfl) h
      · replace h := h.2 c2_
        refine lv_aload_n hx hb dX12_about_82 rfl (lv_at hl 0 rfl) ?_
        refine q_getP X Y kX12 61 rfl fl_X12_136 k1_ rfl dX12_about_83 ?_
        refine lv_aload_n hx hb dX12_about_86 rfl (lv_at hl 0 rfl) ?_
        refine q_callV X Y hl (cm_X12_window h) mt_X12_window mi_X12_window ml_X12_515 (ci := 12) rfl k1_ (by decide) rfl rfl (by first | exact Nat.le_of_ble_eq_true rfl | simp [q_cat, q_catI, q_catJ, q_catR]) ⟨Nat.le_of_ble_eq_true rfl, Nat.le_of_ble_eq_true rfl⟩ ⟨Nat.le_of_ble_eq_true rfl, Nat.le_of_ble_eq_true rfl⟩ dX12_about_87 (fun r3_ S4_ H locs hp Y => ?_)
        obtain ⟨x5_, rfl, h⟩ := hp
        refine W.eq (g2 := F0 m 90 ls [.int x5_, va_rf (q_P (qs_I S 2400 a0 (0 : Int32)) 2461 a0)]) rfl ?_
        obtain ⟨a6_, e7_, h⟩ := h
        refine q_nn [.int x5_] e7_ ?_
        obtain ⟨k8_, h⟩ := h
        obtain ⟨i9_, h⟩ := h
        refine q_ild X Y k8_ i9_ dX12_about_90 ?_
        refine lv_goto (tgt := 95) hx hb dX12_about_91 (by decide) ?_
        exact cb_X12_about_95 X Y (lv_sub hl [] rfl) h
    | 4, _, c10_ =>
      refine ⟨90, 96, rfl, by decide, ?_⟩
      replace h := h.2.2.2.2.2.1 (q_eqI c10_ (by decide))
      refine lv_aload_n hx hb dX12_about_96 rfl (lv_at hl 0 rfl) ?_
      refine q_getI X Y kX12 108 rfl fl_X12_459 k1_ dX12_about_97 ?_
      exact q_iret X Y rfl (Nat.le_refl _) (Nat.le_refl _) h dX12_about_100
    | 5, _, c10_ =>
      refine ⟨95, 101, rfl, by decide, ?_⟩
      replace h := h.2.2.2.2.2.2.1 (q_eqI c10_ (by decide))
      refine lv_aload_n hx hb dX12_about_101 rfl (lv_at hl 0 rfl) ?_
      refine q_getI X Y kX12 15 rfl fl_X12_350 k1_ dX12_about_102 ?_
      exact q_iret X Y rfl (Nat.le_refl _) (Nat.le_refl _) h dX12_about_105
    | 6, _, c10_ =>
      refine ⟨100, 106, rfl, by decide, ?_⟩
      replace h := h.2.2.2.2.2.2.2.1 (q_eqI c10_ (by decide))
      refine lv_aload_n hx hb dX12_about_106 rfl (lv_at hl 0 rfl) ?_
      refine q_getI X Y kX12 16 rfl fl_X12_409 k1_ dX12_about_107 ?_
      exact q_iret X Y rfl (Nat.le_refl _) (Nat.le_refl _) h dX12_about_110
    | 7, _, c10_ =>
      refine ⟨105, 111, rfl, by decide, ?_⟩
      replace h := h.2.2.2.2.2.2.2.2.1 (q_eqI c10_ (by decide))
      refine lv_aload_n hx hb dX12_about_111 rfl (lv_at hl 0 rfl) ?_
      refine q_getI X Y kX12 17 rfl fl_X12_422 k1_ dX12_about_112 ?_
      exact q_iret X Y rfl (Nat.le_refl _) (Nat.le_refl _) h dX12_about_115
    | 8, _, c10_ =>
      refine ⟨110, 116, rfl, by decide, ?_⟩
      replace h := h.2.2.2.2.2.2.2.2.2.1 (q_eqI c10_ (by decide))
      refine lv_aload_n hx hb dX12_about_116 rfl (lv_at hl 0 rfl) ?_
      refine q_getI X Y kX12 18 rfl fl_X12_416 k1_ dX12_about_117 ?_
      exact q_iret X Y rfl (Nat.le_refl _) (Nat.le_refl _) h dX12_about_120
    | 9, _, c10_ =>
      refine ⟨115, 121, rfl, by decide, ?_⟩
      replace h := h.2.2.2.2.2.2.2.2.2.2 (q_eqI c10_ (by decide))
      refine lv_aload_n hx hb dX12_about_121 rfl (lv_at hl 0 rfl) ?_
      refine q_getI X Y kX12 19 rfl fl_X12_419 k1_ dX12_about_122 ?_
      exact q_iret X Y rfl (Nat.le_refl _) (Nat.le_refl _) h dX12_about_125
    | z_ + 10, hj_, _ => exact absurd hj_ (by simp)
