-- X12_comes
theorem ml_X12_531 : Cond.methodLink RX12 531 yX12_traced ∈ q_G := q_tb (i := 2288) (by decide +kernel) (by decide +kernel)
theorem mt_X12_traced : q_Mt yX12_traced cX12_traced 4 none 2 := ⟨q_tb (i := 2291) (by decide +kernel) (by decide +kernel), q_tb (i := 11) (by decide +kernel) (by decide +kernel), by decide +kernel, by decide +kernel, by decide +kernel⟩
theorem mi_X12_traced : Cond.instanceMethod yX12_traced ∈ q_G ∧ Cond.selects yX12_traced.cls yX12_traced yX12_traced ∈ q_G := ⟨q_tb (i := 2290) (by decide +kernel) (by decide +kernel), q_tp (i := 128) (q := (yX12_traced, 114)) (by decide +kernel) (by decide +kernel)⟩
theorem ml_X12_537 : Cond.methodLink RX12 537 yX12_passes ∈ q_G := q_tb (i := 2296) (by decide +kernel) (by decide +kernel)
theorem mt_X12_passes : q_Mt yX12_passes cX12_passes 4 (some .boolean) 2 := ⟨q_tb (i := 2299) (by decide +kernel) (by decide +kernel), q_tb (i := 11) (by decide +kernel) (by decide +kernel), by decide +kernel, by decide +kernel, by decide +kernel⟩
theorem mi_X12_passes : Cond.instanceMethod yX12_passes ∈ q_G ∧ Cond.selects yX12_passes.cls yX12_passes yX12_passes ∈ q_G := ⟨q_tb (i := 2298) (by decide +kernel) (by decide +kernel), q_tp (i := 130) (q := (yX12_passes, 114)) (by decide +kernel) (by decide +kernel)⟩
theorem ml_X12_534 : Cond.methodLink RX12 534 yX12_sample ∈ q_G := q_tb (i := 2292) (by decide +kernel) (by decide +kernel)
theorem mt_X12_sample : q_Mt yX12_sample cX12_sample 3 none 2 := ⟨q_tb (i := 2295) (by decide +kernel) (by decide +kernel), q_tb (i := 11) (by decide +kernel) (by decide +kernel), by decide +kernel, by decide +kernel, by decide +kernel⟩
theorem mi_X12_sample : Cond.instanceMethod yX12_sample ∈ q_G ∧ Cond.selects yX12_sample.cls yX12_sample yX12_sample ∈ q_G := ⟨q_tb (i := 2294) (by decide +kernel) (by decide +kernel), q_tp (i := 129) (q := (yX12_sample, 114)) (by decide +kernel) (by decide +kernel)⟩
theorem dX12_comes_0 : decode cX12_comes 0 = .ok (.aload_n 0, 1) := by decide +kernel
theorem dX12_comes_1 : decode cX12_comes 1 = .ok (.iload_n 1, 1) := by decide +kernel
theorem dX12_comes_2 : decode cX12_comes 2 = .ok (.iload_n 2, 1) := by decide +kernel
theorem dX12_comes_3 : decode cX12_comes 3 = .ok (.invokevirtual 531, 3) := by decide +kernel
theorem dX12_comes_6 : decode cX12_comes 6 = .ok (.aload_n 0, 1) := by decide +kernel
theorem dX12_comes_7 : decode cX12_comes 7 = .ok (.getfield 115, 3) := by decide +kernel
theorem dX12_comes_10 : decode cX12_comes 10 = .ok (.iload_n 1, 1) := by decide +kernel
theorem dX12_comes_11 : decode cX12_comes 11 = .ok (.baload, 1) := by decide +kernel
theorem dX12_comes_12 : decode cX12_comes 12 = .ok (.ifCond .ne 10, 3) := by decide +kernel
theorem dX12_comes_15 : decode cX12_comes 15 = .ok (.aload_n 0, 1) := by decide +kernel
theorem dX12_comes_16 : decode cX12_comes 16 = .ok (.iload_n 1, 1) := by decide +kernel
theorem dX12_comes_17 : decode cX12_comes 17 = .ok (.iload_n 2, 1) := by decide +kernel
theorem dX12_comes_18 : decode cX12_comes 18 = .ok (.invokevirtual 534, 3) := by decide +kernel
theorem dX12_comes_21 : decode cX12_comes 21 = .ok (.return_, 1) := by decide +kernel
theorem dX12_comes_22 : decode cX12_comes 22 = .ok (.aload_n 0, 1) := by decide +kernel
theorem dX12_comes_23 : decode cX12_comes 23 = .ok (.getfield 130, 3) := by decide +kernel
theorem dX12_comes_26 : decode cX12_comes 26 = .ok (.iconst 4, 1) := by decide +kernel
theorem dX12_comes_27 : decode cX12_comes 27 = .ok (.iload_n 1, 1) := by decide +kernel
theorem dX12_comes_28 : decode cX12_comes 28 = .ok (.imul, 1) := by decide +kernel
theorem dX12_comes_29 : decode cX12_comes 29 = .ok (.iaload, 1) := by decide +kernel
theorem dX12_comes_30 : decode cX12_comes 30 = .ok (.bipush (-2), 2) := by decide +kernel
theorem dX12_comes_32 : decode cX12_comes 32 = .ok (.if_icmp .ne 4, 3) := by decide +kernel
theorem dX12_comes_35 : decode cX12_comes 35 = .ok (.return_, 1) := by decide +kernel
theorem dX12_comes_36 : decode cX12_comes 36 = .ok (.aload_n 0, 1) := by decide +kernel
theorem dX12_comes_37 : decode cX12_comes 37 = .ok (.iload_n 1, 1) := by decide +kernel
theorem dX12_comes_38 : decode cX12_comes 38 = .ok (.iload_n 2, 1) := by decide +kernel
theorem dX12_comes_39 : decode cX12_comes 39 = .ok (.invokevirtual 537, 3) := by decide +kernel
theorem dX12_comes_42 : decode cX12_comes 42 = .ok (.ifCond .ne 13, 3) := by decide +kernel
theorem dX12_comes_45 : decode cX12_comes 45 = .ok (.aload_n 0, 1) := by decide +kernel
theorem dX12_comes_46 : decode cX12_comes 46 = .ok (.getfield 257, 3) := by decide +kernel
theorem dX12_comes_49 : decode cX12_comes 49 = .ok (.iload_n 1, 1) := by decide +kernel
theorem dX12_comes_50 : decode cX12_comes 50 = .ok (.dup2, 1) := by decide +kernel
theorem dX12_comes_51 : decode cX12_comes 51 = .ok (.iaload, 1) := by decide +kernel
theorem dX12_comes_52 : decode cX12_comes 52 = .ok (.iconst 1, 1) := by decide +kernel
theorem dX12_comes_53 : decode cX12_comes 53 = .ok (.iadd, 1) := by decide +kernel
theorem dX12_comes_54 : decode cX12_comes 54 = .ok (.iastore, 1) := by decide +kernel
theorem dX12_comes_55 : decode cX12_comes 55 = .ok (.return_, 1) := by decide +kernel
def wb_X12_comes_55  (S : q_S) (Q : Option Value → q_S → Prop) : Prop := Q none S
set_option maxHeartbeats 4000000 in
set_option maxRecDepth 100000 in
theorem cb_X12_comes_55 {p : Program} {l : Launch} {e : Env} {s : State} {m : MethodId} {args : Array Value} {below : List Frame} {meth : Method} {c : Code} {D : va_G} {cy : Nat → ClassId} {lo : Nat}  {S : q_S} {Q : Option Value → q_S → Prop} {H : Heap} {locs : List Loc} {ls : Array Slot} (X : q_X p s m args meth c RX12 cX12_comes 3 none D cy lo)  (Y : q_Y D cy lo s S H locs) (hl : lv_has ls 3 []) (h : wb_X12_comes_55 S Q) : W p l e ({ frames := 3, cells := 0, slots := 0, locals := 66 } : Room) s m args below meth c H locs 0 0 (MQ below (q_Q D cy lo Q) args s 0 0 (fun q => lo ≤ q)) (F0 m 55 ls []) := by
  have hx := X.1
  have hb := X.2.1
  unfold wb_X12_comes_55 at h
  exact q_vret X Y (Nat.le_refl _) (Nat.le_refl _) h dX12_comes_55
def wm_X12_comes (S : q_S) (a0 : Nat) (x1 : Int32) (x2 : Int32) (Q : Option Value → q_S → Prop) : Prop := q_K S a0 = 13 ∧ (wm_X12_traced S a0 x1 x2 (fun r2_ S3_ => r2_ = none ∧ (q_K S3_ a0 = 13 ∧ (∃ a5_ : Nat, (q_P S3_ 2454 a0) = some a5_ ∧ (q_K S3_ a5_ = 22 ∧ (vp_in x1 (q_N S3_ a5_) ∧ (((¬ (q_A S3_ a5_ x1.toNatClampNeg) = 0 → (∃ a10_ : Nat, (q_P S3_ 2459 a0) = some a10_ ∧ (q_K S3_ a10_ = 21 ∧ (vp_in ((4 : Int32) * x1) (q_N S3_ a10_) ∧ (((¬ (q_A S3_ a10_ ((4 : Int32) * x1).toNatClampNeg) = (-2 : Int32) → (wm_X12_passes S3_ a0 x1 x2 (fun r15_ S16_ => ∃ x17_ : Int32, r15_ = some (.int x17_) ∧ (((¬ x17_ = 0 → (wb_X12_comes_55 S16_ Q)) ∧ (x17_ = 0 → (q_K S16_ a0 = 13 ∧ (∃ a20_ : Nat, (q_P S16_ 2503 a0) = some a20_ ∧ (q_K S16_ a20_ = 21 ∧ (vp_in x1 (q_N S16_ a20_) ∧ (vp_in x1 (q_N S16_ a20_) ∧ (wb_X12_comes_55 (qs_A S16_ a20_ x1.toNatClampNeg ((q_A S16_ a20_ x1.toNatClampNeg) + (1 : Int32))) Q)))))))))))) ∧ ((q_A S3_ a10_ ((4 : Int32) * x1).toNatClampNeg) = (-2 : Int32) → (Q none S3_)))))))) ∧ ((q_A S3_ a5_ x1.toNatClampNeg) = 0 → (wm_X12_sample S3_ a0 x1 x2 (fun r25_ S26_ => r25_ = none ∧ (Q none S26_))))))))))))
set_option maxHeartbeats 4000000 in
set_option maxRecDepth 100000 in
theorem cm_X12_comes {l : Launch} {D : va_G} {cy : Nat → ClassId} {lo : Nat} {S : q_S} {a0 : Nat} {x1 : Int32} {x2 : Int32} {Q : Option Value → q_S → Prop} (h : wm_X12_comes S a0 x1 x2 Q) : q_Met l D cy lo yX12_comes cX12_comes 3 none 3 66 0 0 [.ref a0, .int x1, .int x2] S Q := by
  refine q_body (by decide) (by first | exact Nat.le_of_ble_eq_true rfl | simp [lg_sl, q_cat, q_catI, q_catJ, q_catR]) ?_
  intro p e s m below meth c ls X hnm Y hl
  have hx := X.1
  have hb := X.2.1
  have hl : lv_has ls 3 [(0, .ref a0), (1, .int x1), (2, .int x2)] := by first | exact hl | simpa [lv_args, q_cat, q_catI, q_catJ, q_catR] using hl
  generalize hargs : ([.ref a0, .int x1, .int x2] : List Value).toArray = args at X ⊢
  unfold wm_X12_comes at h
  refine lv_aload_n hx hb dX12_comes_0 rfl (lv_at hl 0 rfl) ?_
  refine lv_iload_n hx hb dX12_comes_1 rfl (lv_at hl 1 rfl) ?_
  refine lv_iload_n hx hb dX12_comes_2 rfl (lv_at hl 2 rfl) ?_
  obtain ⟨k1_, h⟩ := h
  refine q_callV X Y hl (cm_X12_traced h) mt_X12_traced mi_X12_traced ml_X12_531 (ci := 12) rfl k1_ (by decide) rfl rfl (by first | exact Nat.le_of_ble_eq_true rfl | simp [q_cat, q_catI, q_catJ, q_catR]) ⟨Nat.le_of_ble_eq_true rfl, Nat.le_of_ble_eq_true rfl⟩ ⟨Nat.le_of_ble_eq_true rfl, Nat.le_of_ble_eq_true rfl⟩ dX12_comes_3 (fun r2_ S3_ H locs hp Y => ?_)
  obtain ⟨rfl, h⟩ := hp
  refine W.eq (g2 := F0 m 6 ls []) rfl ?_
  refine lv_aload_n hx hb dX12_comes_6 rfl (lv_at hl 0 rfl) ?_
  obtain ⟨k4_, h⟩ := h
  refine q_getP X Y kX12 54 rfl fl_X12_115 k4_ rfl dX12_comes_7 ?_
  refine lv_iload_n hx hb dX12_comes_10 rfl (lv_at hl 1 rfl) ?_
  obtain ⟨a5_, e6_, h⟩ := h
  refine q_nn [.int x1] e6_ ?_
  obtain ⟨k7_, h⟩ := h
  obtain ⟨i8_, h⟩ := h
  refine q_zld X Y k7_ i8_ dX12_comes_11 ?_
  refine lv_if_ne (tgt := 22) hx hb dX12_comes_12 (by decide) (fun c9_ => ?_) (fun c9_ => ?_)
  · replace h := h.1 c9_
    refine lv_aload_n hx hb dX12_comes_22 rfl (lv_at hl 0 rfl) ?_
    refine q_getP X Y kX12 59 rfl fl_X12_130 k4_ rfl dX12_comes_23 ?_
    refine lv_iconst (v := 4) hx hb dX12_comes_26 (by decide) ?_
    refine lv_iload_n hx hb dX12_comes_27 rfl (lv_at hl 1 rfl) ?_
    refine lv_imul hx hb dX12_comes_28 ?_
    obtain ⟨a10_, e11_, h⟩ := h
    refine q_nn [.int ((4 : Int32) * x1)] e11_ ?_
    obtain ⟨k12_, h⟩ := h
    obtain ⟨i13_, h⟩ := h
    refine q_ild X Y k12_ i13_ dX12_comes_29 ?_
    refine lv_bipush (v := (-2)) hx hb dX12_comes_30 (by decide) ?_
    refine lv_icmp_ne (tgt := 36) hx hb dX12_comes_32 (by decide) (fun c14_ => ?_) (fun c14_ => ?_)
    · replace h := h.1 c14_
      refine lv_aload_n hx hb dX12_comes_36 rfl (lv_at hl 0 rfl) ?_
      refine lv_iload_n hx hb dX12_comes_37 rfl (lv_at hl 1 rfl) ?_
      refine lv_iload_n hx hb dX12_comes_38 rfl (lv_at hl 2 rfl) ?_
      refine q_callV X Y hl (cm_X12_passes h) mt_X12_passes mi_X12_passes ml_X12_537 (ci := 12) rfl k4_ (by decide) rfl rfl (by first | exact Nat.le_of_ble_eq_true rfl | simp [q_cat, q_catI, q_catJ, q_catR]) ⟨Nat.le_of_ble_eq_true rfl, Nat.le_of_ble_eq_true rfl⟩ ⟨Nat.le_of_ble_eq_true rfl, Nat.le_of_ble_eq_true rfl⟩ dX12_comes_39 (fun r15_ S16_ H locs hp Y => ?_)
      obtain ⟨x17_, rfl, h⟩ := hp
      refine W.eq (g2 := F0 m 42 ls [.int x17_]) rfl ?_
      refine lv_if_ne (tgt := 55) hx hb dX12_comes_42 (by decide) (fun c18_ => ?_) (fun c18_ => ?_)
      · replace h := h.1 c18_
        exact cb_X12_comes_55 X Y (lv_sub hl [] rfl) h
      · replace h := h.2 c18_
        refine lv_aload_n hx hb dX12_comes_45 rfl (lv_at hl 0 rfl) ?_
        obtain ⟨k19_, h⟩ := h
        refine q_getP X Y kX12 103 rfl fl_X12_257 k19_ rfl dX12_comes_46 ?_
        refine lv_iload_n hx hb dX12_comes_49 rfl (lv_at hl 1 rfl) ?_
        refine lv_dup2_11 hx hb dX12_comes_50 rfl (q_cat _) ?_
        obtain ⟨a20_, e21_, h⟩ := h
        refine q_nn [.int x1] e21_ ?_
        obtain ⟨k22_, h⟩ := h
        obtain ⟨i23_, h⟩ := h
        refine q_ild X Y k22_ i23_ dX12_comes_51 ?_
        refine lv_iconst (v := 1) hx hb dX12_comes_52 (by decide) ?_
        refine lv_iadd hx hb dX12_comes_53 ?_
        refine q_nn [.int ((q_A S16_ a20_ x1.toNatClampNeg) + (1 : Int32)), .int x1] e21_ ?_
        obtain ⟨i24_, h⟩ := h
        refine q_ist X Y k22_ i24_ dX12_comes_54 (fun H locs Y => ?_)
        exact cb_X12_comes_55 X Y (lv_sub hl [] rfl) h
    · replace h := h.2 c14_
      exact q_vret X Y (Nat.le_refl _) (Nat.le_refl _) h dX12_comes_35
  · replace h := h.2 c9_
    refine lv_aload_n hx hb dX12_comes_15 rfl (lv_at hl 0 rfl) ?_
    refine lv_iload_n hx hb dX12_comes_16 rfl (lv_at hl 1 rfl) ?_
    refine lv_iload_n hx hb dX12_comes_17 rfl (lv_at hl 2 rfl) ?_
    refine q_callV X Y hl (cm_X12_sample h) mt_X12_sample mi_X12_sample ml_X12_534 (ci := 12) rfl k4_ (by decide) rfl rfl (by first | exact Nat.le_of_ble_eq_true rfl | simp [q_cat, q_catI, q_catJ, q_catR]) ⟨Nat.le_of_ble_eq_true rfl, Nat.le_of_ble_eq_true rfl⟩ ⟨Nat.le_of_ble_eq_true rfl, Nat.le_of_ble_eq_true rfl⟩ dX12_comes_18 (fun r25_ S26_ H locs hp Y => ?_)
    obtain ⟨rfl, h⟩ := hp
    refine W.eq (g2 := F0 m 21 ls []) rfl ?_
    exact q_vret X Y (Nat.le_refl _) (Nat.le_refl _) h dX12_comes_21
-- X12_window
theorem dX12_window_0 : decode cX12_window 0 = .ok (.aload_n 0, 1) := by decide +kernel
theorem dX12_window_1 : decode cX12_window 1 = .ok (.getfield 453, 3) := by decide +kernel
theorem dX12_window_4 : decode cX12_window 4 = .ok (.aload_n 0, 1) := by decide +kernel
theorem dX12_window_5 : decode cX12_window 5 = .ok (.getfield 425, 3) := by decide +kernel
theorem dX12_window_8 : decode cX12_window 8 = .ok (.irem, 1) := by decide +kernel
theorem dX12_window_9 : decode cX12_window 9 = .ok (.istore_n 1, 1) := by decide +kernel
theorem dX12_window_10 : decode cX12_window 10 = .ok (.iconst 0, 1) := by decide +kernel
theorem dX12_window_11 : decode cX12_window 11 = .ok (.istore_n 2, 1) := by decide +kernel
theorem dX12_window_12 : decode cX12_window 12 = .ok (.iload_n 1, 1) := by decide +kernel
theorem dX12_window_13 : decode cX12_window 13 = .ok (.aload_n 0, 1) := by decide +kernel
theorem dX12_window_14 : decode cX12_window 14 = .ok (.getfield 139, 3) := by decide +kernel
theorem dX12_window_17 : decode cX12_window 17 = .ok (.iload_n 2, 1) := by decide +kernel
theorem dX12_window_18 : decode cX12_window 18 = .ok (.iaload, 1) := by decide +kernel
theorem dX12_window_19 : decode cX12_window 19 = .ok (.if_icmp .lt 18, 3) := by decide +kernel
theorem dX12_window_22 : decode cX12_window 22 = .ok (.iload_n 1, 1) := by decide +kernel
theorem dX12_window_23 : decode cX12_window 23 = .ok (.aload_n 0, 1) := by decide +kernel
theorem dX12_window_24 : decode cX12_window 24 = .ok (.getfield 139, 3) := by decide +kernel
theorem dX12_window_27 : decode cX12_window 27 = .ok (.iload_n 2, 1) := by decide +kernel
theorem dX12_window_28 : decode cX12_window 28 = .ok (.iaload, 1) := by decide +kernel
theorem dX12_window_29 : decode cX12_window 29 = .ok (.isub, 1) := by decide +kernel
theorem dX12_window_30 : decode cX12_window 30 = .ok (.istore_n 1, 1) := by decide +kernel
theorem dX12_window_31 : decode cX12_window 31 = .ok (.iinc 2 1, 3) := by decide +kernel
theorem dX12_window_34 : decode cX12_window 34 = .ok (.goto (-22), 3) := by decide +kernel
theorem dX12_window_37 : decode cX12_window 37 = .ok (.iload_n 2, 1) := by decide +kernel
theorem dX12_window_38 : decode cX12_window 38 = .ok (.ireturn, 1) := by decide +kernel
def wb_X12_window_12 (B12 : q_S → Nat → Int32 → Int32 → Prop) (S : q_S) (a0 : Nat) (x1 : Int32) (x2 : Int32) (Q : Option Value → q_S → Prop) : Prop := q_K S a0 = 13 ∧ (∃ a2_ : Nat, (q_P S 2462 a0) = some a2_ ∧ (q_K S a2_ = 21 ∧ (vp_in x2 (q_N S a2_) ∧ (((x1 < (q_A S a2_ x2.toNatClampNeg) → (Q (some (.int x2)) S)) ∧ (¬ x1 < (q_A S a2_ x2.toNatClampNeg) → (vp_in x2 (q_N S a2_) ∧ (B12 S a0 (x1 - (q_A S a2_ x2.toNatClampNeg)) (x2 + 1)))))))))
set_option maxHeartbeats 4000000 in
set_option maxRecDepth 100000 in
theorem cb_X12_window_12 {p : Program} {l : Launch} {e : Env} {s : State} {m : MethodId} {args : Array Value} {below : List Frame} {meth : Method} {c : Code} {D : va_G} {cy : Nat → ClassId} {lo : Nat} {B12 : q_S → Nat → Int32 → Int32 → Prop} {S : q_S} {a0 : Nat} {x1 : Int32} {x2 : Int32} {Q : Option Value → q_S → Prop} {H : Heap} {locs : List Loc} {ls : Array Slot} (X : q_X p s m args meth c RX12 cX12_window 3 (some .int) D cy lo) (hB12 : ∀ (S : q_S) (a0 : Nat) (x1 : Int32) (x2 : Int32) (H : Heap) (locs : List Loc) (ls : Array Slot), B12 S a0 x1 x2 → q_Y D cy lo s S H locs → lv_has ls 3 [(0, .ref a0), (1, .int x1), (2, .int x2)] → W p l e ({ frames := 0, cells := 0, slots := 0, locals := 0 } : Room) s m args below meth c H locs 0 0 (MQ below (q_Q D cy lo Q) args s 0 0 (fun q => lo ≤ q)) (F0 m 12 ls [])) (Y : q_Y D cy lo s S H locs) (hl : lv_has ls 3 [(0, .ref a0), (1, .int x1), (2, .int x2)]) (h : wb_X12_window_12 B12 S a0 x1 x2 Q) : W p l e ({ frames := 0, cells := 0, slots := 0, locals := 0 } : Room) s m args below meth c H locs 0 0 (MQ below (q_Q D cy lo Q) args s 0 0 (fun q => lo ≤ q)) (F0 m 12 ls []) := by
  have hx := X.1
  have hb := X.2.1
  unfold wb_X12_window_12 at h
  refine lv_iload_n hx hb dX12_window_12 rfl (lv_at hl 1 rfl) ?_
  refine lv_aload_n hx hb dX12_window_13 rfl (lv_at hl 0 rfl) ?_
  obtain ⟨k1_, h⟩ := h
  refine q_getP X Y kX12 62 rfl fl_X12_139 k1_ rfl dX12_window_14 ?_
  refine lv_iload_n hx hb dX12_window_17 rfl (lv_at hl 2 rfl) ?_
  obtain ⟨a2_, e3_, h⟩ := h
  refine q_nn [.int x2] e3_ ?_
  obtain ⟨k4_, h⟩ := h
  obtain ⟨i5_, h⟩ := h
  refine q_ild X Y k4_ i5_ dX12_window_18 ?_
  refine lv_icmp_lt (tgt := 37) hx hb dX12_window_19 (by decide) (fun c6_ => ?_) (fun c6_ => ?_)
  · replace h := h.1 c6_
    refine lv_iload_n hx hb dX12_window_37 rfl (lv_at hl 2 rfl) ?_
    exact q_iret X Y rfl (Nat.le_refl _) (Nat.le_refl _) h dX12_window_38
  · replace h := h.2 c6_
    refine lv_iload_n hx hb dX12_window_22 rfl (lv_at hl 1 rfl) ?_
    refine lv_aload_n hx hb dX12_window_23 rfl (lv_at hl 0 rfl) ?_
    refine q_getR X Y kX12 62 rfl fl_X12_139 k1_ e3_ dX12_window_24 ?_
    refine lv_iload_n hx hb dX12_window_27 rfl (lv_at hl 2 rfl) ?_
    obtain ⟨i7_, h⟩ := h
    refine q_ild X Y k4_ i7_ dX12_window_28 ?_
    refine lv_isub hx hb dX12_window_29 ?_
    refine lv_istore_n (i := 1) (lv' := [(1, .int (x1 - (q_A S a2_ x2.toNatClampNeg))), (0, .ref a0), (2, .int x2)]) hx hb dX12_window_30 rfl hl (by decide) (by first | rfl | simp [q_cat, q_catI, q_catJ, q_catR]) (fun ls hl => ?_)
    refine lv_iinc (v := (x2 + 1)) (lv' := [(2, .int (x2 + 1)), (1, .int (x1 - (q_A S a2_ x2.toNatClampNeg))), (0, .ref a0)]) hx hb dX12_window_31 hl (k := 2) rfl (by first | rfl | decide) (by decide) (by first | rfl | simp [q_cat, q_catI, q_catJ, q_catR]) (fun ls hl => ?_)
    refine lv_goto (tgt := 12) hx hb dX12_window_34 (by decide) ?_
    exact hB12 _ _ _ _ _ _ _ h Y (lv_sub hl [2, 1, 0] rfl)
def wl_X12_window_12  : Nat → q_S → Nat → Int32 → Int32 → (Option Value → q_S → Prop) → Prop
  | 0, _, _, _, _, _ => False
  | n + 1, S, a0, x1, x2, Q => wb_X12_window_12 (fun S a0 x1 x2 => wl_X12_window_12 n S a0 x1 x2 Q) S a0 x1 x2 Q
set_option maxHeartbeats 4000000 in
set_option maxRecDepth 100000 in
theorem cl_X12_window_12 {p : Program} {l : Launch} {e : Env} {s : State} {m : MethodId} {args : Array Value} {below : List Frame} {meth : Method} {c : Code} {D : va_G} {cy : Nat → ClassId} {lo : Nat}  {Q : Option Value → q_S → Prop} (X : q_X p s m args meth c RX12 cX12_window 3 (some .int) D cy lo)  : ∀ (n : Nat) (S : q_S) (a0 : Nat) (x1 : Int32) (x2 : Int32) (H : Heap) (locs : List Loc) (ls : Array Slot), wl_X12_window_12 n S a0 x1 x2 Q → q_Y D cy lo s S H locs → lv_has ls 3 [(0, .ref a0), (1, .int x1), (2, .int x2)] → W p l e ({ frames := 0, cells := 0, slots := 0, locals := 0 } : Room) s m args below meth c H locs 0 0 (MQ below (q_Q D cy lo Q) args s 0 0 (fun q => lo ≤ q)) (F0 m 12 ls []) := by
  intro n
  induction n with
  | zero => intro S a0 x1 x2 H locs ls h; exact absurd h id
  | succ n ih => intro S a0 x1 x2 H locs ls h Y hl; exact cb_X12_window_12 X ih Y hl h
def wm_X12_window (S : q_S) (a0 : Nat) (Q : Option Value → q_S → Prop) : Prop := q_K S a0 = 13 ∧ ((¬ (q_I S 2420 a0) = 0) ∧ (∃ n10_ : Nat, wl_X12_window_12 n10_ S a0 ((q_I S 2463 a0) - (q_I S 2463 a0) / (q_I S 2420 a0) * (q_I S 2420 a0)) (0 : Int32) Q))
set_option maxHeartbeats 4000000 in
set_option maxRecDepth 100000 in
theorem cm_X12_window {l : Launch} {D : va_G} {cy : Nat → ClassId} {lo : Nat} {S : q_S} {a0 : Nat} {Q : Option Value → q_S → Prop} (h : wm_X12_window S a0 Q) : q_Met l D cy lo yX12_window cX12_window 3 (some .int) 0 0 0 0 [.ref a0] S Q := by
  refine q_body (by decide) (by first | exact Nat.le_of_ble_eq_true rfl | simp [lg_sl, q_cat, q_catI, q_catJ, q_catR]) ?_
  intro p e s m below meth c ls X hnm Y hl
  have hx := X.1
  have hb := X.2.1
  have hl : lv_has ls 3 [(0, .ref a0)] := by first | exact hl | simpa [lv_args, q_cat, q_catI, q_catJ, q_catR] using hl
  generalize hargs : ([.ref a0] : List Value).toArray = args at X ⊢
  unfold wm_X12_window at h
  refine lv_aload_n hx hb dX12_window_0 rfl (lv_at hl 0 rfl) ?_
  obtain ⟨k8_, h⟩ := h
  refine q_getI X Y kX12 63 rfl fl_X12_453 k8_ dX12_window_1 ?_
  refine lv_aload_n hx hb dX12_window_4 rfl (lv_at hl 0 rfl) ?_
  refine q_getI X Y kX12 20 rfl fl_X12_425 k8_ dX12_window_5 ?_
  obtain ⟨z9_, h⟩ := h
  refine lv_irem hx hb dX12_window_8 z9_ ?_
  refine lv_istore_n (i := 1) (lv' := [(1, .int ((q_I S 2463 a0) - (q_I S 2463 a0) / (q_I S 2420 a0) * (q_I S 2420 a0))), (0, .ref a0)]) hx hb dX12_window_9 rfl hl (by decide) (by first | rfl | simp [q_cat, q_catI, q_catJ, q_catR]) (fun ls hl => ?_)
  refine lv_iconst (v := 0) hx hb dX12_window_10 (by decide) ?_
  refine lv_istore_n (i := 2) (lv' := [(2, .int (0 : Int32)), (1, .int ((q_I S 2463 a0) - (q_I S 2463 a0) / (q_I S 2420 a0) * (q_I S 2420 a0))), (0, .ref a0)]) hx hb dX12_window_11 rfl hl (by decide) (by first | rfl | simp [q_cat, q_catI, q_catJ, q_catR]) (fun ls hl => ?_)
  obtain ⟨n10_, h⟩ := h
  exact cl_X12_window_12 X n10_ _ _ _ _ _ _ _ h Y (lv_sub hl [2, 1, 0] rfl)
-- X12_isFaulted
theorem dX12_isFaulted_0 : decode cX12_isFaulted 0 = .ok (.aload_n 0, 1) := by decide +kernel
theorem dX12_isFaulted_1 : decode cX12_isFaulted 1 = .ok (.getfield 212, 3) := by decide +kernel
theorem dX12_isFaulted_4 : decode cX12_isFaulted 4 = .ok (.iload_n 1, 1) := by decide +kernel
theorem dX12_isFaulted_5 : decode cX12_isFaulted 5 = .ok (.iaload, 1) := by decide +kernel
theorem dX12_isFaulted_6 : decode cX12_isFaulted 6 = .ok (.iconst (-1), 1) := by decide +kernel
theorem dX12_isFaulted_7 : decode cX12_isFaulted 7 = .ok (.if_icmp .eq 22, 3) := by decide +kernel
theorem dX12_isFaulted_10 : decode cX12_isFaulted 10 = .ok (.aload_n 0, 1) := by decide +kernel
theorem dX12_isFaulted_11 : decode cX12_isFaulted 11 = .ok (.getfield 149, 3) := by decide +kernel
theorem dX12_isFaulted_14 : decode cX12_isFaulted 14 = .ok (.aload_n 0, 1) := by decide +kernel
theorem dX12_isFaulted_15 : decode cX12_isFaulted 15 = .ok (.getfield 212, 3) := by decide +kernel
theorem dX12_isFaulted_18 : decode cX12_isFaulted 18 = .ok (.iload_n 1, 1) := by decide +kernel
theorem dX12_isFaulted_19 : decode cX12_isFaulted 19 = .ok (.iaload, 1) := by decide +kernel
theorem dX12_isFaulted_20 : decode cX12_isFaulted 20 = .ok (.iaload, 1) := by decide +kernel
theorem dX12_isFaulted_21 : decode cX12_isFaulted 21 = .ok (.iconst 3, 1) := by decide +kernel
theorem dX12_isFaulted_22 : decode cX12_isFaulted 22 = .ok (.if_icmp .ne 7, 3) := by decide +kernel
theorem dX12_isFaulted_25 : decode cX12_isFaulted 25 = .ok (.iconst 1, 1) := by decide +kernel
theorem dX12_isFaulted_26 : decode cX12_isFaulted 26 = .ok (.goto 4, 3) := by decide +kernel
theorem dX12_isFaulted_29 : decode cX12_isFaulted 29 = .ok (.iconst 0, 1) := by decide +kernel
theorem dX12_isFaulted_30 : decode cX12_isFaulted 30 = .ok (.ireturn, 1) := by decide +kernel
def wb_X12_isFaulted_30  (S : q_S) (xs0 : Int32) (Q : Option Value → q_S → Prop) : Prop := (narrow .boolean (.int xs0) = .int xs0 ∧ Q (some (.int xs0)) S)
set_option maxHeartbeats 4000000 in
set_option maxRecDepth 100000 in
theorem cb_X12_isFaulted_30 {p : Program} {l : Launch} {e : Env} {s : State} {m : MethodId} {args : Array Value} {below : List Frame} {meth : Method} {c : Code} {D : va_G} {cy : Nat → ClassId} {lo : Nat}  {S : q_S} {xs0 : Int32} {Q : Option Value → q_S → Prop} {H : Heap} {locs : List Loc} {ls : Array Slot} (X : q_X p s m args meth c RX12 cX12_isFaulted 2 (some .boolean) D cy lo)  (Y : q_Y D cy lo s S H locs) (hl : lv_has ls 2 []) (h : wb_X12_isFaulted_30 S xs0 Q) : W p l e ({ frames := 0, cells := 0, slots := 0, locals := 0 } : Room) s m args below meth c H locs 0 0 (MQ below (q_Q D cy lo Q) args s 0 0 (fun q => lo ≤ q)) (F0 m 30 ls [.int xs0]) := by
  have hx := X.1
  have hb := X.2.1
  unfold wb_X12_isFaulted_30 at h
  exact q_iret X Y h.1 (Nat.le_refl _) (Nat.le_refl _) h.2 dX12_isFaulted_30
def wb_X12_isFaulted_29  (S : q_S) (Q : Option Value → q_S → Prop) : Prop := wb_X12_isFaulted_30 S (0 : Int32) Q
set_option maxHeartbeats 4000000 in
set_option maxRecDepth 100000 in
theorem cb_X12_isFaulted_29 {p : Program} {l : Launch} {e : Env} {s : State} {m : MethodId} {args : Array Value} {below : List Frame} {meth : Method} {c : Code} {D : va_G} {cy : Nat → ClassId} {lo : Nat}  {S : q_S} {Q : Option Value → q_S → Prop} {H : Heap} {locs : List Loc} {ls : Array Slot} (X : q_X p s m args meth c RX12 cX12_isFaulted 2 (some .boolean) D cy lo)  (Y : q_Y D cy lo s S H locs) (hl : lv_has ls 2 []) (h : wb_X12_isFaulted_29 S Q) : W p l e ({ frames := 0, cells := 0, slots := 0, locals := 0 } : Room) s m args below meth c H locs 0 0 (MQ below (q_Q D cy lo Q) args s 0 0 (fun q => lo ≤ q)) (F0 m 29 ls []) := by
  have hx := X.1
  have hb := X.2.1
  unfold wb_X12_isFaulted_29 at h
  refine lv_iconst (v := 0) hx hb dX12_isFaulted_29 (by decide) ?_
  exact cb_X12_isFaulted_30 X Y (lv_sub hl [] rfl) h
def wm_X12_isFaulted (S : q_S) (a0 : Nat) (x1 : Int32) (Q : Option Value → q_S → Prop) : Prop := q_K S a0 = 13 ∧ (∃ a2_ : Nat, (q_P S 2488 a0) = some a2_ ∧ (q_K S a2_ = 21 ∧ (vp_in x1 (q_N S a2_) ∧ ((((q_A S a2_ x1.toNatClampNeg) = (-1 : Int32) → (wb_X12_isFaulted_29 S Q)) ∧ (¬ (q_A S a2_ x1.toNatClampNeg) = (-1 : Int32) → (vp_in x1 (q_N S a2_) ∧ (∃ a8_ : Nat, (q_P S 2467 a0) = some a8_ ∧ (q_K S a8_ = 21 ∧ (vp_in (q_A S a2_ x1.toNatClampNeg) (q_N S a8_) ∧ (((¬ (q_A S a8_ (q_A S a2_ x1.toNatClampNeg).toNatClampNeg) = (3 : Int32) → (wb_X12_isFaulted_29 S Q)) ∧ ((q_A S a8_ (q_A S a2_ x1.toNatClampNeg).toNatClampNeg) = (3 : Int32) → (wb_X12_isFaulted_30 S (1 : Int32) Q))))))))))))))
set_option maxHeartbeats 4000000 in
set_option maxRecDepth 100000 in
theorem cm_X12_isFaulted {l : Launch} {D : va_G} {cy : Nat → ClassId} {lo : Nat} {S : q_S} {a0 : Nat} {x1 : Int32} {Q : Option Value → q_S → Prop} (h : wm_X12_isFaulted S a0 x1 Q) : q_Met l D cy lo yX12_isFaulted cX12_isFaulted 2 (some .boolean) 0 0 0 0 [.ref a0, .int x1] S Q := by
  refine q_body (by decide) (by first | exact Nat.le_of_ble_eq_true rfl | simp [lg_sl, q_cat, q_catI, q_catJ, q_catR]) ?_
  intro p e s m below meth c ls X hnm Y hl
  have hx := X.1
  have hb := X.2.1
  have hl : lv_has ls 2 [(0, .ref a0), (1, .int x1)] := by first | exact hl | simpa [lv_args, q_cat, q_catI, q_catJ, q_catR] using hl
  generalize hargs : ([.ref a0, .int x1] : List Value).toArray = args at X ⊢
  unfold wm_X12_isFaulted at h
  refine lv_aload_n hx hb dX12_isFaulted_0 rfl (lv_at hl 0 rfl) ?_
  obtain ⟨k1_, h⟩ := h
  refine q_getP X Y kX12 88 rfl fl_X12_212 k1_ rfl dX12_isFaulted_1 ?_
  refine lv_iload_n hx hb dX12_isFaulted_4 rfl (lv_at hl 1 rfl) ?_
  obtain ⟨a2_, e3_, h⟩ := h
  refine q_nn [.int x1] e3_ ?_
  obtain ⟨k4_, h⟩ := h
  obtain ⟨i5_, h⟩ := h
  refine q_ild X Y k4_ i5_ dX12_isFaulted_5 ?_
  refine lv_iconst (v := (-1)) hx hb dX12_isFaulted_6 (by decide) ?_
  refine lv_icmp_eq (tgt := 29) hx hb dX12_isFaulted_7 (by decide) (fun c6_ => ?_) (fun c6_ => ?_)
  · replace h := h.1 c6_
    exact cb_X12_isFaulted_29 X Y (lv_sub hl [] rfl) h
  · replace h := h.2 c6_
    refine lv_aload_n hx hb dX12_isFaulted_10 rfl (lv_at hl 0 rfl) ?_
    refine q_getP X Y kX12 67 rfl fl_X12_149 k1_ rfl dX12_isFaulted_11 ?_
    refine lv_aload_n hx hb dX12_isFaulted_14 rfl (lv_at hl 0 rfl) ?_
    refine q_getR X Y kX12 88 rfl fl_X12_212 k1_ e3_ dX12_isFaulted_15 ?_
    refine lv_iload_n hx hb dX12_isFaulted_18 rfl (lv_at hl 1 rfl) ?_
    obtain ⟨i7_, h⟩ := h
    refine q_ild X Y k4_ i7_ dX12_isFaulted_19 ?_
    obtain ⟨a8_, e9_, h⟩ := h
    refine q_nn [.int (q_A S a2_ x1.toNatClampNeg)] e9_ ?_
    obtain ⟨k10_, h⟩ := h
    obtain ⟨i11_, h⟩ := h
    refine q_ild X Y k10_ i11_ dX12_isFaulted_20 ?_
    refine lv_iconst (v := 3) hx hb dX12_isFaulted_21 (by decide) ?_
    refine lv_icmp_ne (tgt := 29) hx hb dX12_isFaulted_22 (by decide) (fun c12_ => ?_) (fun c12_ => ?_)
    · replace h := h.1 c12_
      exact cb_X12_isFaulted_29 X Y (lv_sub hl [] rfl) h
    · replace h := h.2 c12_
      refine lv_iconst (v := 1) hx hb dX12_isFaulted_25 (by decide) ?_
      refine lv_goto (tgt := 30) hx hb dX12_isFaulted_26 (by decide) ?_
      exact cb_X12_isFaulted_30 X Y (lv_sub hl [] rfl) h
-- X12_dormant
theorem ml_X12_496 : Cond.methodLink RX12 496 yX12_isFaulted ∈ q_G := q_tb (i := 2328) (by decide +kernel) (by decide +kernel)
theorem mt_X12_isFaulted : q_Mt yX12_isFaulted cX12_isFaulted 2 (some .boolean) 1 := ⟨q_tb (i := 2331) (by decide +kernel) (by decide +kernel), q_tb (i := 11) (by decide +kernel) (by decide +kernel), by decide +kernel, by decide +kernel, by decide +kernel⟩
theorem mi_X12_isFaulted : Cond.instanceMethod yX12_isFaulted ∈ q_G ∧ Cond.selects yX12_isFaulted.cls yX12_isFaulted yX12_isFaulted ∈ q_G := ⟨q_tb (i := 2330) (by decide +kernel) (by decide +kernel), q_tp (i := 138) (q := (yX12_isFaulted, 114)) (by decide +kernel) (by decide +kernel)⟩
theorem dX12_dormant_0 : decode cX12_dormant 0 = .ok (.aload_n 0, 1) := by decide +kernel
theorem dX12_dormant_1 : decode cX12_dormant 1 = .ok (.iload_n 1, 1) := by decide +kernel
theorem dX12_dormant_2 : decode cX12_dormant 2 = .ok (.invokevirtual 481, 3) := by decide +kernel
theorem dX12_dormant_5 : decode cX12_dormant 5 = .ok (.istore_n 2, 1) := by decide +kernel
theorem dX12_dormant_6 : decode cX12_dormant 6 = .ok (.aload_n 0, 1) := by decide +kernel
theorem dX12_dormant_7 : decode cX12_dormant 7 = .ok (.iload_n 1, 1) := by decide +kernel
theorem dX12_dormant_8 : decode cX12_dormant 8 = .ok (.invokevirtual 490, 3) := by decide +kernel
theorem dX12_dormant_11 : decode cX12_dormant 11 = .ok (.aload_n 0, 1) := by decide +kernel
theorem dX12_dormant_12 : decode cX12_dormant 12 = .ok (.iload_n 1, 1) := by decide +kernel
theorem dX12_dormant_13 : decode cX12_dormant 13 = .ok (.invokevirtual 493, 3) := by decide +kernel
theorem dX12_dormant_16 : decode cX12_dormant 16 = .ok (.ifCond .eq 21, 3) := by decide +kernel
theorem dX12_dormant_19 : decode cX12_dormant 19 = .ok (.aload_n 0, 1) := by decide +kernel
theorem dX12_dormant_20 : decode cX12_dormant 20 = .ok (.iload_n 2, 1) := by decide +kernel
theorem dX12_dormant_21 : decode cX12_dormant 21 = .ok (.invokevirtual 496, 3) := by decide +kernel
theorem dX12_dormant_24 : decode cX12_dormant 24 = .ok (.ifCond .eq 13, 3) := by decide +kernel
theorem dX12_dormant_27 : decode cX12_dormant 27 = .ok (.aload_n 0, 1) := by decide +kernel
theorem dX12_dormant_28 : decode cX12_dormant 28 = .ok (.aload_n 0, 1) := by decide +kernel
theorem dX12_dormant_29 : decode cX12_dormant 29 = .ok (.getfield 212, 3) := by decide +kernel
theorem dX12_dormant_32 : decode cX12_dormant 32 = .ok (.iload_n 2, 1) := by decide +kernel
theorem dX12_dormant_33 : decode cX12_dormant 33 = .ok (.iaload, 1) := by decide +kernel
theorem dX12_dormant_34 : decode cX12_dormant 34 = .ok (.invokevirtual 490, 3) := by decide +kernel
theorem dX12_dormant_37 : decode cX12_dormant 37 = .ok (.return_, 1) := by decide +kernel
def wb_X12_dormant_37  (S : q_S) (Q : Option Value → q_S → Prop) : Prop := Q none S
set_option maxHeartbeats 4000000 in
set_option maxRecDepth 100000 in
theorem cb_X12_dormant_37 {p : Program} {l : Launch} {e : Env} {s : State} {m : MethodId} {args : Array Value} {below : List Frame} {meth : Method} {c : Code} {D : va_G} {cy : Nat → ClassId} {lo : Nat}  {S : q_S} {Q : Option Value → q_S → Prop} {H : Heap} {locs : List Loc} {ls : Array Slot} (X : q_X p s m args meth c RX12 cX12_dormant 3 none D cy lo)  (Y : q_Y D cy lo s S H locs) (hl : lv_has ls 3 []) (h : wb_X12_dormant_37 S Q) : W p l e ({ frames := 2, cells := 0, slots := 0, locals := 42 } : Room) s m args below meth c H locs 0 0 (MQ below (q_Q D cy lo Q) args s 0 0 (fun q => lo ≤ q)) (F0 m 37 ls []) := by
  have hx := X.1
  have hb := X.2.1
  unfold wb_X12_dormant_37 at h
  exact q_vret X Y (Nat.le_refl _) (Nat.le_refl _) h dX12_dormant_37
def wm_X12_dormant (S : q_S) (a0 : Nat) (x1 : Int32) (Q : Option Value → q_S → Prop) : Prop := q_K S a0 = 13 ∧ (wm_X12_partitionOf S a0 x1 (fun r2_ S3_ => ∃ x4_ : Int32, r2_ = some (.int x4_) ∧ (q_K S3_ a0 = 13 ∧ (wm_X12_sleeps S3_ a0 x1 (fun r6_ S7_ => r6_ = none ∧ (q_K S7_ a0 = 13 ∧ (wm_X12_isHandler S7_ a0 x1 (fun r9_ S10_ => ∃ x11_ : Int32, r9_ = some (.int x11_) ∧ (((x11_ = 0 → (wb_X12_dormant_37 S10_ Q)) ∧ (¬ x11_ = 0 → (q_K S10_ a0 = 13 ∧ (wm_X12_isFaulted S10_ a0 x4_ (fun r14_ S15_ => ∃ x16_ : Int32, r14_ = some (.int x16_) ∧ (((x16_ = 0 → (wb_X12_dormant_37 S15_ Q)) ∧ (¬ x16_ = 0 → (q_K S15_ a0 = 13 ∧ (∃ a19_ : Nat, (q_P S15_ 2488 a0) = some a19_ ∧ (q_K S15_ a19_ = 21 ∧ (vp_in x4_ (q_N S15_ a19_) ∧ (wm_X12_sleeps S15_ a0 (q_A S15_ a19_ x4_.toNatClampNeg) (fun r23_ S24_ => r23_ = none ∧ (wb_X12_dormant_37 S24_ Q))))))))))))))))))))))))
set_option maxHeartbeats 4000000 in
set_option maxRecDepth 100000 in
theorem cm_X12_dormant {l : Launch} {D : va_G} {cy : Nat → ClassId} {lo : Nat} {S : q_S} {a0 : Nat} {x1 : Int32} {Q : Option Value → q_S → Prop} (h : wm_X12_dormant S a0 x1 Q) : q_Met l D cy lo yX12_dormant cX12_dormant 3 none 2 42 0 0 [.ref a0, .int x1] S Q := by
  refine q_body (by decide) (by first | exact Nat.le_of_ble_eq_true rfl | simp [lg_sl, q_cat, q_catI, q_catJ, q_catR]) ?_
  intro p e s m below meth c ls X hnm Y hl
  have hx := X.1
  have hb := X.2.1
  have hl : lv_has ls 3 [(0, .ref a0), (1, .int x1)] := by first | exact hl | simpa [lv_args, q_cat, q_catI, q_catJ, q_catR] using hl
  generalize hargs : ([.ref a0, .int x1] : List Value).toArray = args at X ⊢
  unfold wm_X12_dormant at h
  refine lv_aload_n hx hb dX12_dormant_0 rfl (lv_at hl 0 rfl) ?_
  refine lv_iload_n hx hb dX12_dormant_1 rfl (lv_at hl 1 rfl) ?_
  obtain ⟨k1_, h⟩ := h
  refine q_callV X Y hl (cm_X12_partitionOf h) mt_X12_partitionOf mi_X12_partitionOf ml_X12_481 (ci := 12) rfl k1_ (by decide) rfl rfl (by first | exact Nat.le_of_ble_eq_true rfl | simp [q_cat, q_catI, q_catJ, q_catR]) ⟨Nat.le_of_ble_eq_true rfl, Nat.le_of_ble_eq_true rfl⟩ ⟨Nat.le_of_ble_eq_true rfl, Nat.le_of_ble_eq_true rfl⟩ dX12_dormant_2 (fun r2_ S3_ H locs hp Y => ?_)
  obtain ⟨x4_, rfl, h⟩ := hp
  refine W.eq (g2 := F0 m 5 ls [.int x4_]) rfl ?_
  refine lv_istore_n (i := 2) (lv' := [(2, .int x4_), (0, .ref a0), (1, .int x1)]) hx hb dX12_dormant_5 rfl hl (by decide) (by first | rfl | simp [q_cat, q_catI, q_catJ, q_catR]) (fun ls hl => ?_)
  refine lv_aload_n hx hb dX12_dormant_6 rfl (lv_at hl 1 rfl) ?_
  refine lv_iload_n hx hb dX12_dormant_7 rfl (lv_at hl 2 rfl) ?_
  obtain ⟨k5_, h⟩ := h
  refine q_callV X Y hl (cm_X12_sleeps h) mt_X12_sleeps mi_X12_sleeps ml_X12_490 (ci := 12) rfl k5_ (by decide) rfl rfl (by first | exact Nat.le_of_ble_eq_true rfl | simp [q_cat, q_catI, q_catJ, q_catR]) ⟨Nat.le_of_ble_eq_true rfl, Nat.le_of_ble_eq_true rfl⟩ ⟨Nat.le_of_ble_eq_true rfl, Nat.le_of_ble_eq_true rfl⟩ dX12_dormant_8 (fun r6_ S7_ H locs hp Y => ?_)
  obtain ⟨rfl, h⟩ := hp
  refine W.eq (g2 := F0 m 11 ls []) rfl ?_
  refine lv_aload_n hx hb dX12_dormant_11 rfl (lv_at hl 1 rfl) ?_
  refine lv_iload_n hx hb dX12_dormant_12 rfl (lv_at hl 2 rfl) ?_
  obtain ⟨k8_, h⟩ := h
  refine q_callV X Y hl (cm_X12_isHandler h) mt_X12_isHandler mi_X12_isHandler ml_X12_493 (ci := 12) rfl k8_ (by decide) rfl rfl (by first | exact Nat.le_of_ble_eq_true rfl | simp [q_cat, q_catI, q_catJ, q_catR]) ⟨Nat.le_of_ble_eq_true rfl, Nat.le_of_ble_eq_true rfl⟩ ⟨Nat.le_of_ble_eq_true rfl, Nat.le_of_ble_eq_true rfl⟩ dX12_dormant_13 (fun r9_ S10_ H locs hp Y => ?_)
  obtain ⟨x11_, rfl, h⟩ := hp
  refine W.eq (g2 := F0 m 16 ls [.int x11_]) rfl ?_
  refine lv_if_eq (tgt := 37) hx hb dX12_dormant_16 (by decide) (fun c12_ => ?_) (fun c12_ => ?_)
  · replace h := h.1 c12_
    exact cb_X12_dormant_37 X Y (lv_sub hl [] rfl) h
  · replace h := h.2 c12_
    refine lv_aload_n hx hb dX12_dormant_19 rfl (lv_at hl 1 rfl) ?_
    refine lv_iload_n hx hb dX12_dormant_20 rfl (lv_at hl 0 rfl) ?_
    obtain ⟨k13_, h⟩ := h
    refine q_callV X Y hl (cm_X12_isFaulted h) mt_X12_isFaulted mi_X12_isFaulted ml_X12_496 (ci := 12) rfl k13_ (by decide) rfl rfl (by first | exact Nat.le_of_ble_eq_true rfl | simp [q_cat, q_catI, q_catJ, q_catR]) ⟨Nat.le_of_ble_eq_true rfl, Nat.le_of_ble_eq_true rfl⟩ ⟨Nat.le_of_ble_eq_true rfl, Nat.le_of_ble_eq_true rfl⟩ dX12_dormant_21 (fun r14_ S15_ H locs hp Y => ?_)
    obtain ⟨x16_, rfl, h⟩ := hp
    refine W.eq (g2 := F0 m 24 ls [.int x16_]) rfl ?_
    refine lv_if_eq (tgt := 37) hx hb dX12_dormant_24 (by decide) (fun c17_ => ?_) (fun c17_ => ?_)
    · replace h := h.1 c17_
      exact cb_X12_dormant_37 X Y (lv_sub hl [] rfl) h
    · replace h := h.2 c17_
      refine lv_aload_n hx hb dX12_dormant_27 rfl (lv_at hl 1 rfl) ?_
      refine lv_aload_n hx hb dX12_dormant_28 rfl (lv_at hl 1 rfl) ?_
      obtain ⟨k18_, h⟩ := h
      refine q_getP X Y kX12 88 rfl fl_X12_212 k18_ rfl dX12_dormant_29 ?_
      refine lv_iload_n hx hb dX12_dormant_32 rfl (lv_at hl 0 rfl) ?_
      obtain ⟨a19_, e20_, h⟩ := h
      refine q_nn [.int x4_] e20_ ?_
      obtain ⟨k21_, h⟩ := h
      obtain ⟨i22_, h⟩ := h
      refine q_ild X Y k21_ i22_ dX12_dormant_33 ?_
      refine q_callV X Y hl (cm_X12_sleeps h) mt_X12_sleeps mi_X12_sleeps ml_X12_490 (ci := 12) rfl k18_ (by decide) rfl rfl (by first | exact Nat.le_of_ble_eq_true rfl | simp [q_cat, q_catI, q_catJ, q_catR]) ⟨Nat.le_of_ble_eq_true rfl, Nat.le_of_ble_eq_true rfl⟩ ⟨Nat.le_of_ble_eq_true rfl, Nat.le_of_ble_eq_true rfl⟩ dX12_dormant_34 (fun r23_ S24_ H locs hp Y => ?_)
      obtain ⟨rfl, h⟩ := hp
      refine W.eq (g2 := F0 m 37 ls []) rfl ?_
      exact cb_X12_dormant_37 X Y (lv_sub hl [] rfl) h
-- X12_idle
theorem dX12_idle_0 : decode cX12_idle 0 = .ok (.bipush 16, 2) := by decide +kernel
theorem dX12_idle_2 : decode cX12_idle 2 = .ok (.iload_n 1, 1) := by decide +kernel
theorem dX12_idle_3 : decode cX12_idle 3 = .ok (.imul, 1) := by decide +kernel
theorem dX12_idle_4 : decode cX12_idle 4 = .ok (.istore_n 2, 1) := by decide +kernel
theorem dX12_idle_5 : decode cX12_idle 5 = .ok (.iload_n 2, 1) := by decide +kernel
theorem dX12_idle_6 : decode cX12_idle 6 = .ok (.aload_n 0, 1) := by decide +kernel
theorem dX12_idle_7 : decode cX12_idle 7 = .ok (.iload_n 1, 1) := by decide +kernel
theorem dX12_idle_8 : decode cX12_idle 8 = .ok (.invokevirtual 499, 3) := by decide +kernel
theorem dX12_idle_11 : decode cX12_idle 11 = .ok (.if_icmp .ge 14, 3) := by decide +kernel
theorem dX12_idle_14 : decode cX12_idle 14 = .ok (.aload_n 0, 1) := by decide +kernel
theorem dX12_idle_15 : decode cX12_idle 15 = .ok (.iload_n 2, 1) := by decide +kernel
theorem dX12_idle_16 : decode cX12_idle 16 = .ok (.invokevirtual 490, 3) := by decide +kernel
theorem dX12_idle_19 : decode cX12_idle 19 = .ok (.iinc 2 1, 3) := by decide +kernel
theorem dX12_idle_22 : decode cX12_idle 22 = .ok (.goto (-17), 3) := by decide +kernel
theorem dX12_idle_25 : decode cX12_idle 25 = .ok (.aload_n 0, 1) := by decide +kernel
theorem dX12_idle_26 : decode cX12_idle 26 = .ok (.getfield 197, 3) := by decide +kernel
theorem dX12_idle_29 : decode cX12_idle 29 = .ok (.iload_n 1, 1) := by decide +kernel
theorem dX12_idle_30 : decode cX12_idle 30 = .ok (.iconst 1, 1) := by decide +kernel
theorem dX12_idle_31 : decode cX12_idle 31 = .ok (.iastore, 1) := by decide +kernel
theorem dX12_idle_32 : decode cX12_idle 32 = .ok (.return_, 1) := by decide +kernel
def wb_X12_idle_5 (B5 : q_S → Nat → Int32 → Int32 → Prop) (S : q_S) (a0 : Nat) (x1 : Int32) (x2 : Int32) (Q : Option Value → q_S → Prop) : Prop := q_K S a0 = 13 ∧ (wm_X12_lastOf S a0 x1 (fun r2_ S3_ => ∃ x4_ : Int32, r2_ = some (.int x4_) ∧ (((x4_ ≤ x2 → (q_K S3_ a0 = 13 ∧ (∃ a7_ : Nat, (q_P S3_ 2483 a0) = some a7_ ∧ (q_K S3_ a7_ = 21 ∧ (vp_in x1 (q_N S3_ a7_) ∧ (Q none (qs_A S3_ a7_ x1.toNatClampNeg (1 : Int32)))))))) ∧ (¬ x4_ ≤ x2 → (q_K S3_ a0 = 13 ∧ (wm_X12_sleeps S3_ a0 x2 (fun r12_ S13_ => r12_ = none ∧ (B5 S13_ a0 x1 (x2 + 1))))))))))
set_option maxHeartbeats 4000000 in
set_option maxRecDepth 100000 in
theorem cb_X12_idle_5 {p : Program} {l : Launch} {e : Env} {s : State} {m : MethodId} {args : Array Value} {below : List Frame} {meth : Method} {c : Code} {D : va_G} {cy : Nat → ClassId} {lo : Nat} {B5 : q_S → Nat → Int32 → Int32 → Prop} {S : q_S} {a0 : Nat} {x1 : Int32} {x2 : Int32} {Q : Option Value → q_S → Prop} {H : Heap} {locs : List Loc} {ls : Array Slot} (X : q_X p s m args meth c RX12 cX12_idle 3 none D cy lo) (hB5 : ∀ (S : q_S) (a0 : Nat) (x1 : Int32) (x2 : Int32) (H : Heap) (locs : List Loc) (ls : Array Slot), B5 S a0 x1 x2 → q_Y D cy lo s S H locs → lv_has ls 3 [(0, .ref a0), (1, .int x1), (2, .int x2)] → W p l e ({ frames := 2, cells := 0, slots := 0, locals := 42 } : Room) s m args below meth c H locs 0 0 (MQ below (q_Q D cy lo Q) args s 0 0 (fun q => lo ≤ q)) (F0 m 5 ls [])) (Y : q_Y D cy lo s S H locs) (hl : lv_has ls 3 [(0, .ref a0), (1, .int x1), (2, .int x2)]) (h : wb_X12_idle_5 B5 S a0 x1 x2 Q) : W p l e ({ frames := 2, cells := 0, slots := 0, locals := 42 } : Room) s m args below meth c H locs 0 0 (MQ below (q_Q D cy lo Q) args s 0 0 (fun q => lo ≤ q)) (F0 m 5 ls []) := by
  have hx := X.1
  have hb := X.2.1
  unfold wb_X12_idle_5 at h
  refine lv_iload_n hx hb dX12_idle_5 rfl (lv_at hl 2 rfl) ?_
  refine lv_aload_n hx hb dX12_idle_6 rfl (lv_at hl 0 rfl) ?_
  refine lv_iload_n hx hb dX12_idle_7 rfl (lv_at hl 1 rfl) ?_
  obtain ⟨k1_, h⟩ := h
  refine q_callV X Y hl (cm_X12_lastOf h) mt_X12_lastOf mi_X12_lastOf ml_X12_499 (ci := 12) rfl k1_ (by decide) rfl rfl (by first | exact Nat.le_of_ble_eq_true rfl | simp [q_cat, q_catI, q_catJ, q_catR]) ⟨Nat.le_of_ble_eq_true rfl, Nat.le_of_ble_eq_true rfl⟩ ⟨Nat.le_of_ble_eq_true rfl, Nat.le_of_ble_eq_true rfl⟩ dX12_idle_8 (fun r2_ S3_ H locs hp Y => ?_)
  obtain ⟨x4_, rfl, h⟩ := hp
  refine W.eq (g2 := F0 m 11 ls [.int x4_, .int x2]) rfl ?_
  refine lv_icmp_ge (tgt := 25) hx hb dX12_idle_11 (by decide) (fun c5_ => ?_) (fun c5_ => ?_)
  · replace h := h.1 c5_
    refine lv_aload_n hx hb dX12_idle_25 rfl (lv_at hl 0 rfl) ?_
    obtain ⟨k6_, h⟩ := h
    refine q_getP X Y kX12 83 rfl fl_X12_197 k6_ rfl dX12_idle_26 ?_
    refine lv_iload_n hx hb dX12_idle_29 rfl (lv_at hl 1 rfl) ?_
    refine lv_iconst (v := 1) hx hb dX12_idle_30 (by decide) ?_
    obtain ⟨a7_, e8_, h⟩ := h
    refine q_nn [.int (1 : Int32), .int x1] e8_ ?_
    obtain ⟨k9_, h⟩ := h
    obtain ⟨i10_, h⟩ := h
    refine q_ist X Y k9_ i10_ dX12_idle_31 (fun H locs Y => ?_)
    exact q_vret X Y (Nat.le_refl _) (Nat.le_refl _) h dX12_idle_32
  · replace h := h.2 c5_
    refine lv_aload_n hx hb dX12_idle_14 rfl (lv_at hl 0 rfl) ?_
    refine lv_iload_n hx hb dX12_idle_15 rfl (lv_at hl 2 rfl) ?_
    obtain ⟨k11_, h⟩ := h
    refine q_callV X Y hl (cm_X12_sleeps h) mt_X12_sleeps mi_X12_sleeps ml_X12_490 (ci := 12) rfl k11_ (by decide) rfl rfl (by first | exact Nat.le_of_ble_eq_true rfl | simp [q_cat, q_catI, q_catJ, q_catR]) ⟨Nat.le_of_ble_eq_true rfl, Nat.le_of_ble_eq_true rfl⟩ ⟨Nat.le_of_ble_eq_true rfl, Nat.le_of_ble_eq_true rfl⟩ dX12_idle_16 (fun r12_ S13_ H locs hp Y => ?_)
    obtain ⟨rfl, h⟩ := hp
    refine W.eq (g2 := F0 m 19 ls []) rfl ?_
    refine lv_iinc (v := (x2 + 1)) (lv' := [(2, .int (x2 + 1)), (0, .ref a0), (1, .int x1)]) hx hb dX12_idle_19 hl (k := 2) rfl (by first | rfl | decide) (by decide) (by first | rfl | simp [q_cat, q_catI, q_catJ, q_catR]) (fun ls hl => ?_)
    refine lv_goto (tgt := 5) hx hb dX12_idle_22 (by decide) ?_
    exact hB5 _ _ _ _ _ _ _ h Y (lv_sub hl [1, 2, 0] rfl)
def wl_X12_idle_5  : Nat → q_S → Nat → Int32 → Int32 → (Option Value → q_S → Prop) → Prop
  | 0, _, _, _, _, _ => False
  | n + 1, S, a0, x1, x2, Q => wb_X12_idle_5 (fun S a0 x1 x2 => wl_X12_idle_5 n S a0 x1 x2 Q) S a0 x1 x2 Q
set_option maxHeartbeats 4000000 in
set_option maxRecDepth 100000 in
theorem cl_X12_idle_5 {p : Program} {l : Launch} {e : Env} {s : State} {m : MethodId} {args : Array Value} {below : List Frame} {meth : Method} {c : Code} {D : va_G} {cy : Nat → ClassId} {lo : Nat}  {Q : Option Value → q_S → Prop} (X : q_X p s m args meth c RX12 cX12_idle 3 none D cy lo)  : ∀ (n : Nat) (S : q_S) (a0 : Nat) (x1 : Int32) (x2 : Int32) (H : Heap) (locs : List Loc) (ls : Array Slot), wl_X12_idle_5 n S a0 x1 x2 Q → q_Y D cy lo s S H locs → lv_has ls 3 [(0, .ref a0), (1, .int x1), (2, .int x2)] → W p l e ({ frames := 2, cells := 0, slots := 0, locals := 42 } : Room) s m args below meth c H locs 0 0 (MQ below (q_Q D cy lo Q) args s 0 0 (fun q => lo ≤ q)) (F0 m 5 ls []) := by
  intro n
  induction n with
  | zero => intro S a0 x1 x2 H locs ls h; exact absurd h id
  | succ n ih => intro S a0 x1 x2 H locs ls h Y hl; exact cb_X12_idle_5 X ih Y hl h
def wm_X12_idle (S : q_S) (a0 : Nat) (x1 : Int32) (Q : Option Value → q_S → Prop) : Prop := ∃ n14_ : Nat, wl_X12_idle_5 n14_ S a0 x1 ((16 : Int32) * x1) Q
set_option maxHeartbeats 4000000 in
set_option maxRecDepth 100000 in
theorem cm_X12_idle {l : Launch} {D : va_G} {cy : Nat → ClassId} {lo : Nat} {S : q_S} {a0 : Nat} {x1 : Int32} {Q : Option Value → q_S → Prop} (h : wm_X12_idle S a0 x1 Q) : q_Met l D cy lo yX12_idle cX12_idle 3 none 2 42 0 0 [.ref a0, .int x1] S Q := by
  refine q_body (by decide) (by first | exact Nat.le_of_ble_eq_true rfl | simp [lg_sl, q_cat, q_catI, q_catJ, q_catR]) ?_
  intro p e s m below meth c ls X hnm Y hl
  have hx := X.1
  have hb := X.2.1
  have hl : lv_has ls 3 [(0, .ref a0), (1, .int x1)] := by first | exact hl | simpa [lv_args, q_cat, q_catI, q_catJ, q_catR] using hl
  generalize hargs : ([.ref a0, .int x1] : List Value).toArray = args at X ⊢
  unfold wm_X12_idle at h
  refine lv_bipush (v := 16) hx hb dX12_idle_0 (by decide) ?_
  refine lv_iload_n hx hb dX12_idle_2 rfl (lv_at hl 1 rfl) ?_
  refine lv_imul hx hb dX12_idle_3 ?_
  refine lv_istore_n (i := 2) (lv' := [(2, .int ((16 : Int32) * x1)), (0, .ref a0), (1, .int x1)]) hx hb dX12_idle_4 rfl hl (by decide) (by first | rfl | simp [q_cat, q_catI, q_catJ, q_catR]) (fun ls hl => ?_)
  obtain ⟨n14_, h⟩ := h
  exact cl_X12_idle_5 X n14_ _ _ _ _ _ _ _ h Y (lv_sub hl [1, 2, 0] rfl)
-- X12_fails
theorem fl_X12_509 : Cond.fieldLink RX12 509 "PartitionWorksModel" "tickOver" "Z" ∈ q_G := q_tb (i := 1847) (by decide +kernel) (by decide +kernel)
theorem ml_X12_546 : Cond.methodLink RX12 546 yX12_dormant ∈ q_G := q_tb (i := 2324) (by decide +kernel) (by decide +kernel)
theorem mt_X12_dormant : q_Mt yX12_dormant cX12_dormant 3 none 1 := ⟨q_tb (i := 2327) (by decide +kernel) (by decide +kernel), q_tb (i := 11) (by decide +kernel) (by decide +kernel), by decide +kernel, by decide +kernel, by decide +kernel⟩
theorem mi_X12_dormant : Cond.instanceMethod yX12_dormant ∈ q_G ∧ Cond.selects yX12_dormant.cls yX12_dormant yX12_dormant ∈ q_G := ⟨q_tb (i := 2326) (by decide +kernel) (by decide +kernel), q_tp (i := 137) (q := (yX12_dormant, 114)) (by decide +kernel) (by decide +kernel)⟩
theorem ml_X12_549 : Cond.methodLink RX12 549 yX12_idle ∈ q_G := q_tb (i := 2332) (by decide +kernel) (by decide +kernel)
theorem mt_X12_idle : q_Mt yX12_idle cX12_idle 3 none 1 := ⟨q_tb (i := 2335) (by decide +kernel) (by decide +kernel), q_tb (i := 11) (by decide +kernel) (by decide +kernel), by decide +kernel, by decide +kernel, by decide +kernel⟩
theorem mi_X12_idle : Cond.instanceMethod yX12_idle ∈ q_G ∧ Cond.selects yX12_idle.cls yX12_idle yX12_idle ∈ q_G := ⟨q_tb (i := 2334) (by decide +kernel) (by decide +kernel), q_tp (i := 139) (q := (yX12_idle, 114)) (by decide +kernel) (by decide +kernel)⟩
theorem dX12_fails_0 : decode cX12_fails 0 = .ok (.aload_n 0, 1) := by decide +kernel
theorem dX12_fails_1 : decode cX12_fails 1 = .ok (.iload_n 1, 1) := by decide +kernel
theorem dX12_fails_2 : decode cX12_fails 2 = .ok (.invokevirtual 481, 3) := by decide +kernel
theorem dX12_fails_5 : decode cX12_fails 5 = .ok (.istore 4, 2) := by decide +kernel
theorem dX12_fails_7 : decode cX12_fails 7 = .ok (.aload_n 0, 1) := by decide +kernel
theorem dX12_fails_8 : decode cX12_fails 8 = .ok (.iload_n 1, 1) := by decide +kernel
theorem dX12_fails_9 : decode cX12_fails 9 = .ok (.invokevirtual 493, 3) := by decide +kernel
theorem dX12_fails_12 : decode cX12_fails 12 = .ok (.ifCond .eq 7, 3) := by decide +kernel
theorem dX12_fails_15 : decode cX12_fails 15 = .ok (.iconst 3, 1) := by decide +kernel
theorem dX12_fails_16 : decode cX12_fails 16 = .ok (.goto 14, 3) := by decide +kernel
theorem dX12_fails_19 : decode cX12_fails 19 = .ok (.aload_n 0, 1) := by decide +kernel
theorem dX12_fails_20 : decode cX12_fails 20 = .ok (.getfield 112, 3) := by decide +kernel
theorem dX12_fails_23 : decode cX12_fails 23 = .ok (.iconst 5, 1) := by decide +kernel
theorem dX12_fails_24 : decode cX12_fails 24 = .ok (.iload 4, 2) := by decide +kernel
theorem dX12_fails_26 : decode cX12_fails 26 = .ok (.imul, 1) := by decide +kernel
theorem dX12_fails_27 : decode cX12_fails 27 = .ok (.iload_n 2, 1) := by decide +kernel
theorem dX12_fails_28 : decode cX12_fails 28 = .ok (.iadd, 1) := by decide +kernel
theorem dX12_fails_29 : decode cX12_fails 29 = .ok (.iaload, 1) := by decide +kernel
theorem dX12_fails_30 : decode cX12_fails 30 = .ok (.istore 5, 2) := by decide +kernel
theorem dX12_fails_32 : decode cX12_fails 32 = .ok (.iload 5, 2) := by decide +kernel
theorem dX12_fails_34 : decode cX12_fails 34 = .ok (.bipush 6, 2) := by decide +kernel
theorem dX12_fails_36 : decode cX12_fails 36 = .ok (.if_icmp .ne 21, 3) := by decide +kernel
theorem dX12_fails_39 : decode cX12_fails 39 = .ok (.aload_n 0, 1) := by decide +kernel
theorem dX12_fails_40 : decode cX12_fails 40 = .ok (.getfield 149, 3) := by decide +kernel
theorem dX12_fails_43 : decode cX12_fails 43 = .ok (.aload_n 0, 1) := by decide +kernel
theorem dX12_fails_44 : decode cX12_fails 44 = .ok (.getfield 82, 3) := by decide +kernel
theorem dX12_fails_47 : decode cX12_fails 47 = .ok (.iload 4, 2) := by decide +kernel
theorem dX12_fails_49 : decode cX12_fails 49 = .ok (.iaload, 1) := by decide +kernel
theorem dX12_fails_50 : decode cX12_fails 50 = .ok (.iaload, 1) := by decide +kernel
theorem dX12_fails_51 : decode cX12_fails 51 = .ok (.ifCond .eq 6, 3) := by decide +kernel
theorem dX12_fails_54 : decode cX12_fails 54 = .ok (.iconst 0, 1) := by decide +kernel
theorem dX12_fails_55 : decode cX12_fails 55 = .ok (.istore 5, 2) := by decide +kernel
theorem dX12_fails_57 : decode cX12_fails 57 = .ok (.bipush 6, 2) := by decide +kernel
theorem dX12_fails_59 : decode cX12_fails 59 = .ok (.aload_n 0, 1) := by decide +kernel
theorem dX12_fails_60 : decode cX12_fails 60 = .ok (.getfield 462, 3) := by decide +kernel
theorem dX12_fails_63 : decode cX12_fails 63 = .ok (.bipush 64, 2) := by decide +kernel
theorem dX12_fails_65 : decode cX12_fails 65 = .ok (.irem, 1) := by decide +kernel
theorem dX12_fails_66 : decode cX12_fails 66 = .ok (.imul, 1) := by decide +kernel
theorem dX12_fails_67 : decode cX12_fails 67 = .ok (.istore 6, 2) := by decide +kernel
theorem dX12_fails_69 : decode cX12_fails 69 = .ok (.aload_n 0, 1) := by decide +kernel
theorem dX12_fails_70 : decode cX12_fails 70 = .ok (.getfield 275, 3) := by decide +kernel
theorem dX12_fails_73 : decode cX12_fails 73 = .ok (.iload 6, 2) := by decide +kernel
theorem dX12_fails_75 : decode cX12_fails 75 = .ok (.aload_n 0, 1) := by decide +kernel
theorem dX12_fails_76 : decode cX12_fails 76 = .ok (.getfield 453, 3) := by decide +kernel
theorem dX12_fails_79 : decode cX12_fails 79 = .ok (.iastore, 1) := by decide +kernel
theorem dX12_fails_80 : decode cX12_fails 80 = .ok (.aload_n 0, 1) := by decide +kernel
theorem dX12_fails_81 : decode cX12_fails 81 = .ok (.getfield 275, 3) := by decide +kernel
theorem dX12_fails_84 : decode cX12_fails 84 = .ok (.iload 6, 2) := by decide +kernel
theorem dX12_fails_86 : decode cX12_fails 86 = .ok (.iconst 1, 1) := by decide +kernel
theorem dX12_fails_87 : decode cX12_fails 87 = .ok (.iadd, 1) := by decide +kernel
theorem dX12_fails_88 : decode cX12_fails 88 = .ok (.iload 4, 2) := by decide +kernel
theorem dX12_fails_90 : decode cX12_fails 90 = .ok (.iastore, 1) := by decide +kernel
theorem dX12_fails_91 : decode cX12_fails 91 = .ok (.aload_n 0, 1) := by decide +kernel
theorem dX12_fails_92 : decode cX12_fails 92 = .ok (.getfield 275, 3) := by decide +kernel
theorem dX12_fails_95 : decode cX12_fails 95 = .ok (.iload 6, 2) := by decide +kernel
theorem dX12_fails_97 : decode cX12_fails 97 = .ok (.iconst 2, 1) := by decide +kernel
theorem dX12_fails_98 : decode cX12_fails 98 = .ok (.iadd, 1) := by decide +kernel
theorem dX12_fails_99 : decode cX12_fails 99 = .ok (.iload_n 1, 1) := by decide +kernel
theorem dX12_fails_100 : decode cX12_fails 100 = .ok (.bipush 16, 2) := by decide +kernel
theorem dX12_fails_102 : decode cX12_fails 102 = .ok (.irem, 1) := by decide +kernel
theorem dX12_fails_103 : decode cX12_fails 103 = .ok (.iastore, 1) := by decide +kernel
theorem dX12_fails_104 : decode cX12_fails 104 = .ok (.aload_n 0, 1) := by decide +kernel
theorem dX12_fails_105 : decode cX12_fails 105 = .ok (.getfield 275, 3) := by decide +kernel
theorem dX12_fails_108 : decode cX12_fails 108 = .ok (.iload 6, 2) := by decide +kernel
theorem dX12_fails_110 : decode cX12_fails 110 = .ok (.iconst 3, 1) := by decide +kernel
theorem dX12_fails_111 : decode cX12_fails 111 = .ok (.iadd, 1) := by decide +kernel
theorem dX12_fails_112 : decode cX12_fails 112 = .ok (.iload_n 2, 1) := by decide +kernel
theorem dX12_fails_113 : decode cX12_fails 113 = .ok (.iastore, 1) := by decide +kernel
theorem dX12_fails_114 : decode cX12_fails 114 = .ok (.aload_n 0, 1) := by decide +kernel
theorem dX12_fails_115 : decode cX12_fails 115 = .ok (.getfield 275, 3) := by decide +kernel
theorem dX12_fails_118 : decode cX12_fails 118 = .ok (.iload 6, 2) := by decide +kernel
theorem dX12_fails_120 : decode cX12_fails 120 = .ok (.iconst 4, 1) := by decide +kernel
theorem dX12_fails_121 : decode cX12_fails 121 = .ok (.iadd, 1) := by decide +kernel
theorem dX12_fails_122 : decode cX12_fails 122 = .ok (.iload 5, 2) := by decide +kernel
theorem dX12_fails_124 : decode cX12_fails 124 = .ok (.iastore, 1) := by decide +kernel
theorem dX12_fails_125 : decode cX12_fails 125 = .ok (.aload_n 0, 1) := by decide +kernel
theorem dX12_fails_126 : decode cX12_fails 126 = .ok (.getfield 275, 3) := by decide +kernel
theorem dX12_fails_129 : decode cX12_fails 129 = .ok (.iload 6, 2) := by decide +kernel
theorem dX12_fails_131 : decode cX12_fails 131 = .ok (.iconst 5, 1) := by decide +kernel
theorem dX12_fails_132 : decode cX12_fails 132 = .ok (.iadd, 1) := by decide +kernel
theorem dX12_fails_133 : decode cX12_fails 133 = .ok (.iload_n 3, 1) := by decide +kernel
theorem dX12_fails_134 : decode cX12_fails 134 = .ok (.iastore, 1) := by decide +kernel
theorem dX12_fails_135 : decode cX12_fails 135 = .ok (.aload_n 0, 1) := by decide +kernel
theorem dX12_fails_136 : decode cX12_fails 136 = .ok (.dup, 1) := by decide +kernel
theorem dX12_fails_137 : decode cX12_fails 137 = .ok (.getfield 462, 3) := by decide +kernel
theorem dX12_fails_140 : decode cX12_fails 140 = .ok (.iconst 1, 1) := by decide +kernel
theorem dX12_fails_141 : decode cX12_fails 141 = .ok (.iadd, 1) := by decide +kernel
theorem dX12_fails_142 : decode cX12_fails 142 = .ok (.putfield 462, 3) := by decide +kernel
theorem dX12_fails_145 : decode cX12_fails 145 = .ok (.iload 5, 2) := by decide +kernel
theorem dX12_fails_147 : decode cX12_fails 147 = .ok (.tableswitch 105 0 5 #[37, 53, 59, 69, 69, 93], 37) := by decide +kernel
theorem dX12_fails_184 : decode cX12_fails 184 = .ok (.iload_n 2, 1) := by decide +kernel
theorem dX12_fails_185 : decode cX12_fails 185 = .ok (.iconst 2, 1) := by decide +kernel
theorem dX12_fails_186 : decode cX12_fails 186 = .ok (.if_icmp .eq 13, 3) := by decide +kernel
theorem dX12_fails_189 : decode cX12_fails 189 = .ok (.aload_n 0, 1) := by decide +kernel
theorem dX12_fails_190 : decode cX12_fails 190 = .ok (.getfield 152, 3) := by decide +kernel
theorem dX12_fails_193 : decode cX12_fails 193 = .ok (.iload_n 1, 1) := by decide +kernel
theorem dX12_fails_194 : decode cX12_fails 194 = .ok (.dup2, 1) := by decide +kernel
theorem dX12_fails_195 : decode cX12_fails 195 = .ok (.iaload, 1) := by decide +kernel
theorem dX12_fails_196 : decode cX12_fails 196 = .ok (.iconst 4, 1) := by decide +kernel
theorem dX12_fails_197 : decode cX12_fails 197 = .ok (.iadd, 1) := by decide +kernel
theorem dX12_fails_198 : decode cX12_fails 198 = .ok (.iastore, 1) := by decide +kernel
theorem dX12_fails_199 : decode cX12_fails 199 = .ok (.return_, 1) := by decide +kernel
theorem dX12_fails_200 : decode cX12_fails 200 = .ok (.aload_n 0, 1) := by decide +kernel
theorem dX12_fails_201 : decode cX12_fails 201 = .ok (.iload_n 1, 1) := by decide +kernel
theorem dX12_fails_202 : decode cX12_fails 202 = .ok (.invokevirtual 546, 3) := by decide +kernel
theorem dX12_fails_205 : decode cX12_fails 205 = .ok (.return_, 1) := by decide +kernel
theorem dX12_fails_206 : decode cX12_fails 206 = .ok (.aload_n 0, 1) := by decide +kernel
theorem dX12_fails_207 : decode cX12_fails 207 = .ok (.iload_n 1, 1) := by decide +kernel
theorem dX12_fails_208 : decode cX12_fails 208 = .ok (.aload_n 0, 1) := by decide +kernel
theorem dX12_fails_209 : decode cX12_fails 209 = .ok (.getfield 453, 3) := by decide +kernel
theorem dX12_fails_212 : decode cX12_fails 212 = .ok (.invokevirtual 502, 3) := by decide +kernel
theorem dX12_fails_215 : decode cX12_fails 215 = .ok (.return_, 1) := by decide +kernel
theorem dX12_fails_216 : decode cX12_fails 216 = .ok (.aload_n 0, 1) := by decide +kernel
theorem dX12_fails_217 : decode cX12_fails 217 = .ok (.iload 4, 2) := by decide +kernel
theorem dX12_fails_219 : decode cX12_fails 219 = .ok (.iconst 3, 1) := by decide +kernel
theorem dX12_fails_220 : decode cX12_fails 220 = .ok (.iload 5, 2) := by decide +kernel
theorem dX12_fails_222 : decode cX12_fails 222 = .ok (.iconst 4, 1) := by decide +kernel
theorem dX12_fails_223 : decode cX12_fails 223 = .ok (.if_icmp .ne 7, 3) := by decide +kernel
theorem dX12_fails_226 : decode cX12_fails 226 = .ok (.iconst 1, 1) := by decide +kernel
theorem dX12_fails_227 : decode cX12_fails 227 = .ok (.goto 4, 3) := by decide +kernel
theorem dX12_fails_230 : decode cX12_fails 230 = .ok (.iconst 0, 1) := by decide +kernel
theorem dX12_fails_231 : decode cX12_fails 231 = .ok (.invokevirtual 474, 3) := by decide +kernel
theorem dX12_fails_234 : decode cX12_fails 234 = .ok (.aload_n 0, 1) := by decide +kernel
theorem dX12_fails_235 : decode cX12_fails 235 = .ok (.iconst 1, 1) := by decide +kernel
theorem dX12_fails_236 : decode cX12_fails 236 = .ok (.putfield 509, 3) := by decide +kernel
theorem dX12_fails_239 : decode cX12_fails 239 = .ok (.return_, 1) := by decide +kernel
theorem dX12_fails_240 : decode cX12_fails 240 = .ok (.aload_n 0, 1) := by decide +kernel
theorem dX12_fails_241 : decode cX12_fails 241 = .ok (.iload 4, 2) := by decide +kernel
theorem dX12_fails_243 : decode cX12_fails 243 = .ok (.invokevirtual 549, 3) := by decide +kernel
theorem dX12_fails_246 : decode cX12_fails 246 = .ok (.aload_n 0, 1) := by decide +kernel
theorem dX12_fails_247 : decode cX12_fails 247 = .ok (.iconst 1, 1) := by decide +kernel
theorem dX12_fails_248 : decode cX12_fails 248 = .ok (.putfield 509, 3) := by decide +kernel
theorem dX12_fails_251 : decode cX12_fails 251 = .ok (.return_, 1) := by decide +kernel
theorem dX12_fails_252 : decode cX12_fails 252 = .ok (.aload_n 0, 1) := by decide +kernel
theorem dX12_fails_253 : decode cX12_fails 253 = .ok (.getfield 149, 3) := by decide +kernel
theorem dX12_fails_256 : decode cX12_fails 256 = .ok (.iload_n 1, 1) := by decide +kernel
theorem dX12_fails_257 : decode cX12_fails 257 = .ok (.iconst 3, 1) := by decide +kernel
theorem dX12_fails_258 : decode cX12_fails 258 = .ok (.iastore, 1) := by decide +kernel
theorem dX12_fails_259 : decode cX12_fails 259 = .ok (.aload_n 0, 1) := by decide +kernel
theorem dX12_fails_260 : decode cX12_fails 260 = .ok (.getfield 164, 3) := by decide +kernel
theorem dX12_fails_263 : decode cX12_fails 263 = .ok (.iload_n 1, 1) := by decide +kernel
theorem dX12_fails_264 : decode cX12_fails 264 = .ok (.iconst (-1), 1) := by decide +kernel
theorem dX12_fails_265 : decode cX12_fails 265 = .ok (.iastore, 1) := by decide +kernel
theorem dX12_fails_266 : decode cX12_fails 266 = .ok (.aload_n 0, 1) := by decide +kernel
theorem dX12_fails_267 : decode cX12_fails 267 = .ok (.getfield 182, 3) := by decide +kernel
theorem dX12_fails_270 : decode cX12_fails 270 = .ok (.iload_n 1, 1) := by decide +kernel
theorem dX12_fails_271 : decode cX12_fails 271 = .ok (.iconst 0, 1) := by decide +kernel
theorem dX12_fails_272 : decode cX12_fails 272 = .ok (.iastore, 1) := by decide +kernel
theorem dX12_fails_273 : decode cX12_fails 273 = .ok (.aload_n 0, 1) := by decide +kernel
theorem dX12_fails_274 : decode cX12_fails 274 = .ok (.getfield 173, 3) := by decide +kernel
theorem dX12_fails_277 : decode cX12_fails 277 = .ok (.iload_n 1, 1) := by decide +kernel
theorem dX12_fails_278 : decode cX12_fails 278 = .ok (.iconst 0, 1) := by decide +kernel
theorem dX12_fails_279 : decode cX12_fails 279 = .ok (.bastore, 1) := by decide +kernel
theorem dX12_fails_280 : decode cX12_fails 280 = .ok (.aload_n 0, 1) := by decide +kernel
theorem dX12_fails_281 : decode cX12_fails 281 = .ok (.getfield 212, 3) := by decide +kernel
theorem dX12_fails_284 : decode cX12_fails 284 = .ok (.iload 4, 2) := by decide +kernel
theorem dX12_fails_286 : decode cX12_fails 286 = .ok (.iload_n 1, 1) := by decide +kernel
theorem dX12_fails_287 : decode cX12_fails 287 = .ok (.iastore, 1) := by decide +kernel
theorem dX12_fails_288 : decode cX12_fails 288 = .ok (.aload_n 0, 1) := by decide +kernel
theorem dX12_fails_289 : decode cX12_fails 289 = .ok (.getfield 215, 3) := by decide +kernel
theorem dX12_fails_292 : decode cX12_fails 292 = .ok (.iload 4, 2) := by decide +kernel
theorem dX12_fails_294 : decode cX12_fails 294 = .ok (.iload_n 2, 1) := by decide +kernel
theorem dX12_fails_295 : decode cX12_fails 295 = .ok (.iastore, 1) := by decide +kernel
theorem dX12_fails_296 : decode cX12_fails 296 = .ok (.aload_n 0, 1) := by decide +kernel
theorem dX12_fails_297 : decode cX12_fails 297 = .ok (.getfield 218, 3) := by decide +kernel
theorem dX12_fails_300 : decode cX12_fails 300 = .ok (.iload 4, 2) := by decide +kernel
theorem dX12_fails_302 : decode cX12_fails 302 = .ok (.iload_n 3, 1) := by decide +kernel
theorem dX12_fails_303 : decode cX12_fails 303 = .ok (.iastore, 1) := by decide +kernel
theorem dX12_fails_304 : decode cX12_fails 304 = .ok (.aload_n 0, 1) := by decide +kernel
theorem dX12_fails_305 : decode cX12_fails 305 = .ok (.iload 4, 2) := by decide +kernel
theorem dX12_fails_307 : decode cX12_fails 307 = .ok (.invokevirtual 487, 3) := by decide +kernel
theorem dX12_fails_310 : decode cX12_fails 310 = .ok (.aload_n 0, 1) := by decide +kernel
theorem dX12_fails_311 : decode cX12_fails 311 = .ok (.aload_n 0, 1) := by decide +kernel
theorem dX12_fails_312 : decode cX12_fails 312 = .ok (.getfield 82, 3) := by decide +kernel
theorem dX12_fails_315 : decode cX12_fails 315 = .ok (.iload 4, 2) := by decide +kernel
theorem dX12_fails_317 : decode cX12_fails 317 = .ok (.iaload, 1) := by decide +kernel
theorem dX12_fails_318 : decode cX12_fails 318 = .ok (.aload_n 0, 1) := by decide +kernel
theorem dX12_fails_319 : decode cX12_fails 319 = .ok (.getfield 453, 3) := by decide +kernel
theorem dX12_fails_322 : decode cX12_fails 322 = .ok (.invokevirtual 502, 3) := by decide +kernel
theorem dX12_fails_325 : decode cX12_fails 325 = .ok (.return_, 1) := by decide +kernel
def wb_X12_fails_231  (S : q_S) (a0 : Nat) (as0 : Nat) (xs1 : Int32) (xs2 : Int32) (xs3 : Int32) (Q : Option Value → q_S → Prop) : Prop := q_K S as0 = 13 ∧ (wm_X12_begins S as0 xs1 xs2 xs3 (fun r2_ S3_ => r2_ = none ∧ (q_K S3_ a0 = 13 ∧ (Q none (qs_I S3_ 2513 a0 (1 : Int32))))))
set_option maxHeartbeats 4000000 in
set_option maxRecDepth 100000 in
theorem cb_X12_fails_231 {p : Program} {l : Launch} {e : Env} {s : State} {m : MethodId} {args : Array Value} {below : List Frame} {meth : Method} {c : Code} {D : va_G} {cy : Nat → ClassId} {lo : Nat}  {S : q_S} {a0 : Nat} {as0 : Nat} {xs1 : Int32} {xs2 : Int32} {xs3 : Int32} {Q : Option Value → q_S → Prop} {H : Heap} {locs : List Loc} {ls : Array Slot} (X : q_X p s m args meth c RX12 cX12_fails 7 none D cy lo)  (Y : q_Y D cy lo s S H locs) (hl : lv_has ls 7 [(0, .ref a0)]) (h : wb_X12_fails_231 S a0 as0 xs1 xs2 xs3 Q) : W p l e ({ frames := 3, cells := 0, slots := 0, locals := 68 } : Room) s m args below meth c H locs 0 0 (MQ below (q_Q D cy lo Q) args s 0 0 (fun q => lo ≤ q)) (F0 m 231 ls [.int xs3, .int xs2, .int xs1, .ref as0]) := by
  have hx := X.1
  have hb := X.2.1
  unfold wb_X12_fails_231 at h
  obtain ⟨k1_, h⟩ := h
  refine q_callV X Y hl (cm_X12_begins h) mt_X12_begins mi_X12_begins ml_X12_474 (ci := 12) rfl k1_ (by decide) rfl rfl (by first | exact Nat.le_of_ble_eq_true rfl | simp [q_cat, q_catI, q_catJ, q_catR]) ⟨Nat.le_of_ble_eq_true rfl, Nat.le_of_ble_eq_true rfl⟩ ⟨Nat.le_of_ble_eq_true rfl, Nat.le_of_ble_eq_true rfl⟩ dX12_fails_231 (fun r2_ S3_ H locs hp Y => ?_)
  obtain ⟨rfl, h⟩ := hp
  refine W.eq (g2 := F0 m 234 ls []) rfl ?_
  refine lv_aload_n hx hb dX12_fails_234 rfl (lv_at hl 0 rfl) ?_
  refine lv_iconst (v := 1) hx hb dX12_fails_235 (by decide) ?_
  obtain ⟨k4_, h⟩ := h
  refine q_putI X Y kX12 113 rfl fl_X12_509 k4_ .boolean rfl ⟨rfl, rfl⟩ rfl dX12_fails_236 (fun H locs Y => ?_)
  exact q_vret X Y (Nat.le_refl _) (Nat.le_refl _) h dX12_fails_239
def wb_X12_fails_199  (S : q_S) (Q : Option Value → q_S → Prop) : Prop := Q none S
set_option maxHeartbeats 4000000 in
set_option maxRecDepth 100000 in
theorem cb_X12_fails_199 {p : Program} {l : Launch} {e : Env} {s : State} {m : MethodId} {args : Array Value} {below : List Frame} {meth : Method} {c : Code} {D : va_G} {cy : Nat → ClassId} {lo : Nat}  {S : q_S} {Q : Option Value → q_S → Prop} {H : Heap} {locs : List Loc} {ls : Array Slot} (X : q_X p s m args meth c RX12 cX12_fails 7 none D cy lo)  (Y : q_Y D cy lo s S H locs) (hl : lv_has ls 7 []) (h : wb_X12_fails_199 S Q) : W p l e ({ frames := 3, cells := 0, slots := 0, locals := 68 } : Room) s m args below meth c H locs 0 0 (MQ below (q_Q D cy lo Q) args s 0 0 (fun q => lo ≤ q)) (F0 m 199 ls []) := by
  have hx := X.1
  have hb := X.2.1
  unfold wb_X12_fails_199 at h
  exact q_vret X Y (Nat.le_refl _) (Nat.le_refl _) h dX12_fails_199
def wb_X12_fails_57  (S : q_S) (a0 : Nat) (x1 : Int32) (x2 : Int32) (x3 : Int32) (x4 : Int32) (x5 : Int32) (Q : Option Value → q_S → Prop) : Prop := q_K S a0 = 13 ∧ (∃ a6_ : Nat, (q_P S 2512 a0) = some a6_ ∧ (q_K S a6_ = 21 ∧ (vp_in ((6 : Int32) * ((q_I S 2509 a0) - (q_I S 2509 a0) / (64 : Int32) * (64 : Int32))) (q_N S a6_) ∧ (∃ a10_ : Nat, (q_P (qs_A S a6_ ((6 : Int32) * ((q_I S 2509 a0) - (q_I S 2509 a0) / (64 : Int32) * (64 : Int32))).toNatClampNeg (q_I S 2463 a0)) 2512 a0) = some a10_ ∧ (q_K (qs_A S a6_ ((6 : Int32) * ((q_I S 2509 a0) - (q_I S 2509 a0) / (64 : Int32) * (64 : Int32))).toNatClampNeg (q_I S 2463 a0)) a10_ = 21 ∧ (vp_in (((6 : Int32) * ((q_I S 2509 a0) - (q_I S 2509 a0) / (64 : Int32) * (64 : Int32))) + (1 : Int32)) (q_N (qs_A S a6_ ((6 : Int32) * ((q_I S 2509 a0) - (q_I S 2509 a0) / (64 : Int32) * (64 : Int32))).toNatClampNeg (q_I S 2463 a0)) a10_) ∧ (∃ a14_ : Nat, (q_P (qs_A (qs_A S a6_ ((6 : Int32) * ((q_I S 2509 a0) - (q_I S 2509 a0) / (64 : Int32) * (64 : Int32))).toNatClampNeg (q_I S 2463 a0)) a10_ (((6 : Int32) * ((q_I S 2509 a0) - (q_I S 2509 a0) / (64 : Int32) * (64 : Int32))) + (1 : Int32)).toNatClampNeg x4) 2512 a0) = some a14_ ∧ (q_K (qs_A (qs_A S a6_ ((6 : Int32) * ((q_I S 2509 a0) - (q_I S 2509 a0) / (64 : Int32) * (64 : Int32))).toNatClampNeg (q_I S 2463 a0)) a10_ (((6 : Int32) * ((q_I S 2509 a0) - (q_I S 2509 a0) / (64 : Int32) * (64 : Int32))) + (1 : Int32)).toNatClampNeg x4) a14_ = 21 ∧ (vp_in (((6 : Int32) * ((q_I S 2509 a0) - (q_I S 2509 a0) / (64 : Int32) * (64 : Int32))) + (2 : Int32)) (q_N (qs_A (qs_A S a6_ ((6 : Int32) * ((q_I S 2509 a0) - (q_I S 2509 a0) / (64 : Int32) * (64 : Int32))).toNatClampNeg (q_I S 2463 a0)) a10_ (((6 : Int32) * ((q_I S 2509 a0) - (q_I S 2509 a0) / (64 : Int32) * (64 : Int32))) + (1 : Int32)).toNatClampNeg x4) a14_) ∧ (∀ S18_ : q_S, S18_ = (qs_A (qs_A (qs_A S a6_ ((6 : Int32) * ((q_I S 2509 a0) - (q_I S 2509 a0) / (64 : Int32) * (64 : Int32))).toNatClampNeg (q_I S 2463 a0)) a10_ (((6 : Int32) * ((q_I S 2509 a0) - (q_I S 2509 a0) / (64 : Int32) * (64 : Int32))) + (1 : Int32)).toNatClampNeg x4) a14_ (((6 : Int32) * ((q_I S 2509 a0) - (q_I S 2509 a0) / (64 : Int32) * (64 : Int32))) + (2 : Int32)).toNatClampNeg (x1 - x1 / (16 : Int32) * (16 : Int32))) → (∃ a19_ : Nat, (q_P S18_ 2512 a0) = some a19_ ∧ (q_K S18_ a19_ = 21 ∧ (vp_in (((6 : Int32) * ((q_I S 2509 a0) - (q_I S 2509 a0) / (64 : Int32) * (64 : Int32))) + (3 : Int32)) (q_N S18_ a19_) ∧ (∃ a23_ : Nat, (q_P (qs_A S18_ a19_ (((6 : Int32) * ((q_I S 2509 a0) - (q_I S 2509 a0) / (64 : Int32) * (64 : Int32))) + (3 : Int32)).toNatClampNeg x2) 2512 a0) = some a23_ ∧ (q_K (qs_A S18_ a19_ (((6 : Int32) * ((q_I S 2509 a0) - (q_I S 2509 a0) / (64 : Int32) * (64 : Int32))) + (3 : Int32)).toNatClampNeg x2) a23_ = 21 ∧ (vp_in (((6 : Int32) * ((q_I S 2509 a0) - (q_I S 2509 a0) / (64 : Int32) * (64 : Int32))) + (4 : Int32)) (q_N (qs_A S18_ a19_ (((6 : Int32) * ((q_I S 2509 a0) - (q_I S 2509 a0) / (64 : Int32) * (64 : Int32))) + (3 : Int32)).toNatClampNeg x2) a23_) ∧ (∃ a27_ : Nat, (q_P (qs_A (qs_A S18_ a19_ (((6 : Int32) * ((q_I S 2509 a0) - (q_I S 2509 a0) / (64 : Int32) * (64 : Int32))) + (3 : Int32)).toNatClampNeg x2) a23_ (((6 : Int32) * ((q_I S 2509 a0) - (q_I S 2509 a0) / (64 : Int32) * (64 : Int32))) + (4 : Int32)).toNatClampNeg x5) 2512 a0) = some a27_ ∧ (q_K (qs_A (qs_A S18_ a19_ (((6 : Int32) * ((q_I S 2509 a0) - (q_I S 2509 a0) / (64 : Int32) * (64 : Int32))) + (3 : Int32)).toNatClampNeg x2) a23_ (((6 : Int32) * ((q_I S 2509 a0) - (q_I S 2509 a0) / (64 : Int32) * (64 : Int32))) + (4 : Int32)).toNatClampNeg x5) a27_ = 21 ∧ (vp_in (((6 : Int32) * ((q_I S 2509 a0) - (q_I S 2509 a0) / (64 : Int32) * (64 : Int32))) + (5 : Int32)) (q_N (qs_A (qs_A S18_ a19_ (((6 : Int32) * ((q_I S 2509 a0) - (q_I S 2509 a0) / (64 : Int32) * (64 : Int32))) + (3 : Int32)).toNatClampNeg x2) a23_ (((6 : Int32) * ((q_I S 2509 a0) - (q_I S 2509 a0) / (64 : Int32) * (64 : Int32))) + (4 : Int32)).toNatClampNeg x5) a27_) ∧ (∀ S31_ : q_S, S31_ = (qs_A (qs_A (qs_A S18_ a19_ (((6 : Int32) * ((q_I S 2509 a0) - (q_I S 2509 a0) / (64 : Int32) * (64 : Int32))) + (3 : Int32)).toNatClampNeg x2) a23_ (((6 : Int32) * ((q_I S 2509 a0) - (q_I S 2509 a0) / (64 : Int32) * (64 : Int32))) + (4 : Int32)).toNatClampNeg x5) a27_ (((6 : Int32) * ((q_I S 2509 a0) - (q_I S 2509 a0) / (64 : Int32) * (64 : Int32))) + (5 : Int32)).toNatClampNeg x3) → ((((x5.toInt < 0 ∨ 5 < x5.toInt) → (∃ a32_ : Nat, (q_P (qs_I S31_ 2509 a0 ((q_I S31_ 2509 a0) + (1 : Int32))) 2467 a0) = some a32_ ∧ (q_K (qs_I S31_ 2509 a0 ((q_I S31_ 2509 a0) + (1 : Int32))) a32_ = 21 ∧ (vp_in x1 (q_N (qs_I S31_ 2509 a0 ((q_I S31_ 2509 a0) + (1 : Int32))) a32_) ∧ (∃ a36_ : Nat, (q_P (qs_A (qs_I S31_ 2509 a0 ((q_I S31_ 2509 a0) + (1 : Int32))) a32_ x1.toNatClampNeg (3 : Int32)) 2472 a0) = some a36_ ∧ (q_K (qs_A (qs_I S31_ 2509 a0 ((q_I S31_ 2509 a0) + (1 : Int32))) a32_ x1.toNatClampNeg (3 : Int32)) a36_ = 21 ∧ (vp_in x1 (q_N (qs_A (qs_I S31_ 2509 a0 ((q_I S31_ 2509 a0) + (1 : Int32))) a32_ x1.toNatClampNeg (3 : Int32)) a36_) ∧ (∀ S40_ : q_S, S40_ = (qs_A (qs_A (qs_I S31_ 2509 a0 ((q_I S31_ 2509 a0) + (1 : Int32))) a32_ x1.toNatClampNeg (3 : Int32)) a36_ x1.toNatClampNeg (-1 : Int32)) → (∃ a41_ : Nat, (q_P S40_ 2478 a0) = some a41_ ∧ (q_K S40_ a41_ = 21 ∧ (vp_in x1 (q_N S40_ a41_) ∧ (∃ a45_ : Nat, (q_P (qs_A S40_ a41_ x1.toNatClampNeg (0 : Int32)) 2475 a0) = some a45_ ∧ (q_K (qs_A S40_ a41_ x1.toNatClampNeg (0 : Int32)) a45_ = 22 ∧ (vp_in x1 (q_N (qs_A S40_ a41_ x1.toNatClampNeg (0 : Int32)) a45_) ∧ (∃ a49_ : Nat, (q_P (qs_A (qs_A S40_ a41_ x1.toNatClampNeg (0 : Int32)) a45_ x1.toNatClampNeg (vp_nar .boolean (0 : Int32))) 2488 a0) = some a49_ ∧ (q_K (qs_A (qs_A S40_ a41_ x1.toNatClampNeg (0 : Int32)) a45_ x1.toNatClampNeg (vp_nar .boolean (0 : Int32))) a49_ = 21 ∧ (vp_in x4 (q_N (qs_A (qs_A S40_ a41_ x1.toNatClampNeg (0 : Int32)) a45_ x1.toNatClampNeg (vp_nar .boolean (0 : Int32))) a49_) ∧ (∀ S53_ : q_S, S53_ = (qs_A (qs_A (qs_A S40_ a41_ x1.toNatClampNeg (0 : Int32)) a45_ x1.toNatClampNeg (vp_nar .boolean (0 : Int32))) a49_ x4.toNatClampNeg x1) → (∃ a54_ : Nat, (q_P S53_ 2489 a0) = some a54_ ∧ (q_K S53_ a54_ = 21 ∧ (vp_in x4 (q_N S53_ a54_) ∧ (∃ a58_ : Nat, (q_P (qs_A S53_ a54_ x4.toNatClampNeg x2) 2490 a0) = some a58_ ∧ (q_K (qs_A S53_ a54_ x4.toNatClampNeg x2) a58_ = 21 ∧ (vp_in x4 (q_N (qs_A S53_ a54_ x4.toNatClampNeg x2) a58_) ∧ (wm_X12_unlock (qs_A (qs_A S53_ a54_ x4.toNatClampNeg x2) a58_ x4.toNatClampNeg x3) a0 x4 (fun r62_ S63_ => r62_ = none ∧ (q_K S63_ a0 = 13 ∧ (∃ a65_ : Nat, (q_P S63_ 2442 a0) = some a65_ ∧ (q_K S63_ a65_ = 21 ∧ (vp_in x4 (q_N S63_ a65_) ∧ (wm_X12_startsAt S63_ a0 (q_A S63_ a65_ x4.toNatClampNeg) (q_I S63_ 2463 a0) (fun r69_ S70_ => r69_ = none ∧ (Q none S70_))))))))))))))))))))))))))))))))) ∧ ((x5 = (0 : Int32)) → (((x2 = (2 : Int32) → (wb_X12_fails_199 (qs_I S31_ 2509 a0 ((q_I S31_ 2509 a0) + (1 : Int32))) Q)) ∧ (¬ x2 = (2 : Int32) → (∃ a72_ : Nat, (q_P (qs_I S31_ 2509 a0 ((q_I S31_ 2509 a0) + (1 : Int32))) 2468 a0) = some a72_ ∧ (q_K (qs_I S31_ 2509 a0 ((q_I S31_ 2509 a0) + (1 : Int32))) a72_ = 21 ∧ (vp_in x1 (q_N (qs_I S31_ 2509 a0 ((q_I S31_ 2509 a0) + (1 : Int32))) a72_) ∧ (vp_in x1 (q_N (qs_I S31_ 2509 a0 ((q_I S31_ 2509 a0) + (1 : Int32))) a72_) ∧ (∀ S77_ : q_S, S77_ = (qs_A (qs_I S31_ 2509 a0 ((q_I S31_ 2509 a0) + (1 : Int32))) a72_ x1.toNatClampNeg ((q_A (qs_I S31_ 2509 a0 ((q_I S31_ 2509 a0) + (1 : Int32))) a72_ x1.toNatClampNeg) + (4 : Int32))) → (wb_X12_fails_199 S77_ Q)))))))))) ∧ ((x5 = (1 : Int32)) → (wm_X12_dormant (qs_I S31_ 2509 a0 ((q_I S31_ 2509 a0) + (1 : Int32))) a0 x1 (fun r78_ S79_ => r78_ = none ∧ (Q none S79_)))) ∧ ((x5 = (2 : Int32)) → (wm_X12_startsAt (qs_I S31_ 2509 a0 ((q_I S31_ 2509 a0) + (1 : Int32))) a0 x1 (q_I (qs_I S31_ 2509 a0 ((q_I S31_ 2509 a0) + (1 : Int32))) 2463 a0) (fun r80_ S81_ => r80_ = none ∧ (Q none S81_)))) ∧ ((x5 = (3 : Int32) ∨ x5 = (4 : Int32)) → (((¬ x5 = (4 : Int32) → (wb_X12_fails_231 (qs_I S31_ 2509 a0 ((q_I S31_ 2509 a0) + (1 : Int32))) a0 a0 x4 (3 : Int32) (0 : Int32) Q)) ∧ (x5 = (4 : Int32) → (wb_X12_fails_231 (qs_I S31_ 2509 a0 ((q_I S31_ 2509 a0) + (1 : Int32))) a0 a0 x4 (3 : Int32) (1 : Int32) Q))))) ∧ ((x5 = (5 : Int32)) → (wm_X12_idle (qs_I S31_ 2509 a0 ((q_I S31_ 2509 a0) + (1 : Int32))) a0 x4 (fun r83_ S84_ => r83_ = none ∧ (q_K S84_ a0 = 13 ∧ (Q none (qs_I S84_ 2513 a0 (1 : Int32)))))))))))))))))))))))))))))
set_option maxHeartbeats 4000000 in
set_option maxRecDepth 100000 in
theorem cb_X12_fails_57 {p : Program} {l : Launch} {e : Env} {s : State} {m : MethodId} {args : Array Value} {below : List Frame} {meth : Method} {c : Code} {D : va_G} {cy : Nat → ClassId} {lo : Nat}  {S : q_S} {a0 : Nat} {x1 : Int32} {x2 : Int32} {x3 : Int32} {x4 : Int32} {x5 : Int32} {Q : Option Value → q_S → Prop} {H : Heap} {locs : List Loc} {ls : Array Slot} (X : q_X p s m args meth c RX12 cX12_fails 7 none D cy lo)  (Y : q_Y D cy lo s S H locs) (hl : lv_has ls 7 [(0, .ref a0), (1, .int x1), (2, .int x2), (3, .int x3), (4, .int x4), (5, .int x5)]) (h : wb_X12_fails_57 S a0 x1 x2 x3 x4 x5 Q) : W p l e ({ frames := 3, cells := 0, slots := 0, locals := 68 } : Room) s m args below meth c H locs 0 0 (MQ below (q_Q D cy lo Q) args s 0 0 (fun q => lo ≤ q)) (F0 m 57 ls []) := by
  have hx := X.1
  have hb := X.2.1
  unfold wb_X12_fails_57 at h
  refine lv_bipush (v := 6) hx hb dX12_fails_57 (by decide) ?_
  refine lv_aload_n hx hb dX12_fails_59 rfl (lv_at hl 0 rfl) ?_
  obtain ⟨k5_, h⟩ := h
  refine q_getI X Y kX12 109 rfl fl_X12_462 k5_ dX12_fails_60 ?_
  refine lv_bipush (v := 64) hx hb dX12_fails_63 (by decide) ?_
  refine lv_irem hx hb dX12_fails_65 (by decide) ?_
  refine lv_imul hx hb dX12_fails_66 ?_
  refine lv_istore (i := 6) (lv' := [(6, .int ((6 : Int32) * ((q_I S 2509 a0) - (q_I S 2509 a0) / (64 : Int32) * (64 : Int32)))), (0, .ref a0), (1, .int x1), (2, .int x2), (3, .int x3), (4, .int x4), (5, .int x5)]) hx hb dX12_fails_67 hl (by decide) (by first | rfl | simp [q_cat, q_catI, q_catJ, q_catR]) (fun ls hl => ?_)
  refine lv_aload_n hx hb dX12_fails_69 rfl (lv_at hl 1 rfl) ?_
  refine q_getP X Y kX12 112 rfl fl_X12_275 k5_ rfl dX12_fails_70 ?_
  refine lv_iload hx hb dX12_fails_73 (lv_at hl 0 rfl) ?_
  refine lv_aload_n hx hb dX12_fails_75 rfl (lv_at hl 1 rfl) ?_
  refine q_getI X Y kX12 63 rfl fl_X12_453 k5_ dX12_fails_76 ?_
  obtain ⟨a6_, e7_, h⟩ := h
  refine q_nn [.int (q_I S 2463 a0), .int ((6 : Int32) * ((q_I S 2509 a0) - (q_I S 2509 a0) / (64 : Int32) * (64 : Int32)))] e7_ ?_
  obtain ⟨k8_, h⟩ := h
  obtain ⟨i9_, h⟩ := h
  refine q_ist X Y k8_ i9_ dX12_fails_79 (fun H locs Y => ?_)
  refine lv_aload_n hx hb dX12_fails_80 rfl (lv_at hl 1 rfl) ?_
  refine q_getP X Y kX12 112 rfl fl_X12_275 k5_ rfl dX12_fails_81 ?_
  refine lv_iload hx hb dX12_fails_84 (lv_at hl 0 rfl) ?_
  refine lv_iconst (v := 1) hx hb dX12_fails_86 (by decide) ?_
  refine lv_iadd hx hb dX12_fails_87 ?_
  refine lv_iload hx hb dX12_fails_88 (lv_at hl 5 rfl) ?_
  obtain ⟨a10_, e11_, h⟩ := h
  refine q_nn [.int x4, .int (((6 : Int32) * ((q_I S 2509 a0) - (q_I S 2509 a0) / (64 : Int32) * (64 : Int32))) + (1 : Int32))] e11_ ?_
  obtain ⟨k12_, h⟩ := h
  obtain ⟨i13_, h⟩ := h
  refine q_ist X Y k12_ i13_ dX12_fails_90 (fun H locs Y => ?_)
  refine lv_aload_n hx hb dX12_fails_91 rfl (lv_at hl 1 rfl) ?_
  refine q_getP X Y kX12 112 rfl fl_X12_275 k5_ rfl dX12_fails_92 ?_
  refine lv_iload hx hb dX12_fails_95 (lv_at hl 0 rfl) ?_
  refine lv_iconst (v := 2) hx hb dX12_fails_97 (by decide) ?_
  refine lv_iadd hx hb dX12_fails_98 ?_
  refine lv_iload_n hx hb dX12_fails_99 rfl (lv_at hl 2 rfl) ?_
  refine lv_bipush (v := 16) hx hb dX12_fails_100 (by decide) ?_
  refine lv_irem hx hb dX12_fails_102 (by decide) ?_
  obtain ⟨a14_, e15_, h⟩ := h
  refine q_nn [.int (x1 - x1 / (16 : Int32) * (16 : Int32)), .int (((6 : Int32) * ((q_I S 2509 a0) - (q_I S 2509 a0) / (64 : Int32) * (64 : Int32))) + (2 : Int32))] e15_ ?_
  obtain ⟨k16_, h⟩ := h
  obtain ⟨i17_, h⟩ := h
  refine q_ist X Y k16_ i17_ dX12_fails_103 (fun H locs Y => ?_)
  obtain ⟨S18_, gS18_⟩ : ∃ z : q_S, z = (qs_A (qs_A (qs_A S a6_ ((6 : Int32) * ((q_I S 2509 a0) - (q_I S 2509 a0) / (64 : Int32) * (64 : Int32))).toNatClampNeg (q_I S 2463 a0)) a10_ (((6 : Int32) * ((q_I S 2509 a0) - (q_I S 2509 a0) / (64 : Int32) * (64 : Int32))) + (1 : Int32)).toNatClampNeg x4) a14_ (((6 : Int32) * ((q_I S 2509 a0) - (q_I S 2509 a0) / (64 : Int32) * (64 : Int32))) + (2 : Int32)).toNatClampNeg (x1 - x1 / (16 : Int32) * (16 : Int32))) := ⟨_, rfl⟩
  replace Y : q_Y D cy lo s S18_ H locs := by rw [gS18_]; exact Y
  replace h := h S18_ gS18_
  replace k5_ : q_K S18_ a0 = 13 := by rw [gS18_]; exact k5_
  replace k8_ : q_K S18_ a6_ = 21 := by rw [gS18_]; exact k8_
  replace k12_ : q_K S18_ a10_ = 21 := by rw [gS18_]; exact k12_
  replace k16_ : q_K S18_ a14_ = 21 := by rw [gS18_]; exact k16_
  refine lv_aload_n hx hb dX12_fails_104 rfl (lv_at hl 1 rfl) ?_
  refine q_getP X Y kX12 112 rfl fl_X12_275 k5_ rfl dX12_fails_105 ?_
  refine lv_iload hx hb dX12_fails_108 (lv_at hl 0 rfl) ?_
  refine lv_iconst (v := 3) hx hb dX12_fails_110 (by decide) ?_
  refine lv_iadd hx hb dX12_fails_111 ?_
  refine lv_iload_n hx hb dX12_fails_112 rfl (lv_at hl 3 rfl) ?_
  obtain ⟨a19_, e20_, h⟩ := h
  refine q_nn [.int x2, .int (((6 : Int32) * ((q_I S 2509 a0) - (q_I S 2509 a0) / (64 : Int32) * (64 : Int32))) + (3 : Int32))] e20_ ?_
  obtain ⟨k21_, h⟩ := h
  obtain ⟨i22_, h⟩ := h
  refine q_ist X Y k21_ i22_ dX12_fails_113 (fun H locs Y => ?_)
  refine lv_aload_n hx hb dX12_fails_114 rfl (lv_at hl 1 rfl) ?_
  refine q_getP X Y kX12 112 rfl fl_X12_275 k5_ rfl dX12_fails_115 ?_
  refine lv_iload hx hb dX12_fails_118 (lv_at hl 0 rfl) ?_
  refine lv_iconst (v := 4) hx hb dX12_fails_120 (by decide) ?_
  refine lv_iadd hx hb dX12_fails_121 ?_
  refine lv_iload hx hb dX12_fails_122 (lv_at hl 6 rfl) ?_
  obtain ⟨a23_, e24_, h⟩ := h
  refine q_nn [.int x5, .int (((6 : Int32) * ((q_I S 2509 a0) - (q_I S 2509 a0) / (64 : Int32) * (64 : Int32))) + (4 : Int32))] e24_ ?_
  obtain ⟨k25_, h⟩ := h
  obtain ⟨i26_, h⟩ := h
  refine q_ist X Y k25_ i26_ dX12_fails_124 (fun H locs Y => ?_)
  refine lv_aload_n hx hb dX12_fails_125 rfl (lv_at hl 1 rfl) ?_
  refine q_getP X Y kX12 112 rfl fl_X12_275 k5_ rfl dX12_fails_126 ?_
  refine lv_iload hx hb dX12_fails_129 (lv_at hl 0 rfl) ?_
  refine lv_iconst (v := 5) hx hb dX12_fails_131 (by decide) ?_
  refine lv_iadd hx hb dX12_fails_132 ?_
  refine lv_iload_n hx hb dX12_fails_133 rfl (lv_at hl 4 rfl) ?_
  obtain ⟨a27_, e28_, h⟩ := h
  refine q_nn [.int x3, .int (((6 : Int32) * ((q_I S 2509 a0) - (q_I S 2509 a0) / (64 : Int32) * (64 : Int32))) + (5 : Int32))] e28_ ?_
  obtain ⟨k29_, h⟩ := h
  obtain ⟨i30_, h⟩ := h
  refine q_ist X Y k29_ i30_ dX12_fails_134 (fun H locs Y => ?_)
  obtain ⟨S31_, gS31_⟩ : ∃ z : q_S, z = (qs_A (qs_A (qs_A S18_ a19_ (((6 : Int32) * ((q_I S 2509 a0) - (q_I S 2509 a0) / (64 : Int32) * (64 : Int32))) + (3 : Int32)).toNatClampNeg x2) a23_ (((6 : Int32) * ((q_I S 2509 a0) - (q_I S 2509 a0) / (64 : Int32) * (64 : Int32))) + (4 : Int32)).toNatClampNeg x5) a27_ (((6 : Int32) * ((q_I S 2509 a0) - (q_I S 2509 a0) / (64 : Int32) * (64 : Int32))) + (5 : Int32)).toNatClampNeg x3) := ⟨_, rfl⟩
  replace Y : q_Y D cy lo s S31_ H locs := by rw [gS31_]; exact Y
  replace h := h S31_ gS31_
  replace k5_ : q_K S31_ a0 = 13 := by rw [gS31_]; exact k5_
  replace k8_ : q_K S31_ a6_ = 21 := by rw [gS31_]; exact k8_
  replace k12_ : q_K S31_ a10_ = 21 := by rw [gS31_]; exact k12_
  replace k16_ : q_K S31_ a14_ = 21 := by rw [gS31_]; exact k16_
  replace k21_ : q_K S31_ a19_ = 21 := by rw [gS31_]; exact k21_
  replace k25_ : q_K S31_ a23_ = 21 := by rw [gS31_]; exact k25_
  replace k29_ : q_K S31_ a27_ = 21 := by rw [gS31_]; exact k29_
  refine lv_aload_n hx hb dX12_fails_135 rfl (lv_at hl 1 rfl) ?_
  refine lv_dup hx hb dX12_fails_136 rfl ?_
  refine q_getI X Y kX12 109 rfl fl_X12_462 k5_ dX12_fails_137 ?_
  refine lv_iconst (v := 1) hx hb dX12_fails_140 (by decide) ?_
  refine lv_iadd hx hb dX12_fails_141 ?_
  refine q_putI X Y kX12 109 rfl fl_X12_462 k5_ .int rfl ⟨rfl, rfl⟩ rfl dX12_fails_142 (fun H locs Y => ?_)
  refine lv_iload hx hb dX12_fails_145 (lv_at hl 6 rfl) ?_
  refine q_tsw (tgt := 252) hx hb dX12_fails_147 (by decide) (by decide) (fun c86_ => ?_) (fun j87_ hj_ c86_ => ?_)
  · replace h := h.1 c86_
    refine lv_aload_n hx hb dX12_fails_252 rfl (lv_at hl 1 rfl) ?_
    refine q_getP X Y kX12 67 rfl fl_X12_149 k5_ rfl dX12_fails_253 ?_
    refine lv_iload_n hx hb dX12_fails_256 rfl (lv_at hl 2 rfl) ?_
    refine lv_iconst (v := 3) hx hb dX12_fails_257 (by decide) ?_
    obtain ⟨a32_, e33_, h⟩ := h
    refine q_nn [.int (3 : Int32), .int x1] e33_ ?_
    obtain ⟨k34_, h⟩ := h
    obtain ⟨i35_, h⟩ := h
    refine q_ist X Y k34_ i35_ dX12_fails_258 (fun H locs Y => ?_)
    refine lv_aload_n hx hb dX12_fails_259 rfl (lv_at hl 1 rfl) ?_
    refine q_getP X Y kX12 72 rfl fl_X12_164 k5_ rfl dX12_fails_260 ?_
    refine lv_iload_n hx hb dX12_fails_263 rfl (lv_at hl 2 rfl) ?_
    refine lv_iconst (v := (-1)) hx hb dX12_fails_264 (by decide) ?_
    obtain ⟨a36_, e37_, h⟩ := h
    refine q_nn [.int (-1 : Int32), .int x1] e37_ ?_
    obtain ⟨k38_, h⟩ := h
    obtain ⟨i39_, h⟩ := h
    refine q_ist X Y k38_ i39_ dX12_fails_265 (fun H locs Y => ?_)
    obtain ⟨S40_, gS40_⟩ : ∃ z : q_S, z = (qs_A (qs_A (qs_I S31_ 2509 a0 ((q_I S31_ 2509 a0) + (1 : Int32))) a32_ x1.toNatClampNeg (3 : Int32)) a36_ x1.toNatClampNeg (-1 : Int32)) := ⟨_, rfl⟩
    replace Y : q_Y D cy lo s S40_ H locs := by rw [gS40_]; exact Y
    replace h := h S40_ gS40_
    replace k5_ : q_K S40_ a0 = 13 := by rw [gS40_]; exact k5_
    replace k8_ : q_K S40_ a6_ = 21 := by rw [gS40_]; exact k8_
    replace k12_ : q_K S40_ a10_ = 21 := by rw [gS40_]; exact k12_
    replace k16_ : q_K S40_ a14_ = 21 := by rw [gS40_]; exact k16_
    replace k21_ : q_K S40_ a19_ = 21 := by rw [gS40_]; exact k21_
    replace k25_ : q_K S40_ a23_ = 21 := by rw [gS40_]; exact k25_
    replace k29_ : q_K S40_ a27_ = 21 := by rw [gS40_]; exact k29_
    replace k34_ : q_K S40_ a32_ = 21 := by rw [gS40_]; exact k34_
    replace k38_ : q_K S40_ a36_ = 21 := by rw [gS40_]; exact k38_
    refine lv_aload_n hx hb dX12_fails_266 rfl (lv_at hl 1 rfl) ?_
    refine q_getP X Y kX12 78 rfl fl_X12_182 k5_ rfl dX12_fails_267 ?_
    refine lv_iload_n hx hb dX12_fails_270 rfl (lv_at hl 2 rfl) ?_
    refine lv_iconst (v := 0) hx hb dX12_fails_271 (by decide) ?_
    obtain ⟨a41_, e42_, h⟩ := h
    refine q_nn [.int (0 : Int32), .int x1] e42_ ?_
    obtain ⟨k43_, h⟩ := h
    obtain ⟨i44_, h⟩ := h
    refine q_ist X Y k43_ i44_ dX12_fails_272 (fun H locs Y => ?_)
    refine lv_aload_n hx hb dX12_fails_273 rfl (lv_at hl 1 rfl) ?_
    refine q_getP X Y kX12 75 rfl fl_X12_173 k5_ rfl dX12_fails_274 ?_
    refine lv_iload_n hx hb dX12_fails_277 rfl (lv_at hl 2 rfl) ?_
    refine lv_iconst (v := 0) hx hb dX12_fails_278 (by decide) ?_
    obtain ⟨a45_, e46_, h⟩ := h
    refine q_nn [.int (0 : Int32), .int x1] e46_ ?_
    obtain ⟨k47_, h⟩ := h
    obtain ⟨i48_, h⟩ := h
    refine q_zst X Y k47_ i48_ dX12_fails_279 (fun H locs Y => ?_)
    refine lv_aload_n hx hb dX12_fails_280 rfl (lv_at hl 1 rfl) ?_
    refine q_getP X Y kX12 88 rfl fl_X12_212 k5_ rfl dX12_fails_281 ?_
    refine lv_iload hx hb dX12_fails_284 (lv_at hl 5 rfl) ?_
    refine lv_iload_n hx hb dX12_fails_286 rfl (lv_at hl 2 rfl) ?_
    obtain ⟨a49_, e50_, h⟩ := h
    refine q_nn [.int x1, .int x4] e50_ ?_
    obtain ⟨k51_, h⟩ := h
    obtain ⟨i52_, h⟩ := h
    refine q_ist X Y k51_ i52_ dX12_fails_287 (fun H locs Y => ?_)
    obtain ⟨S53_, gS53_⟩ : ∃ z : q_S, z = (qs_A (qs_A (qs_A S40_ a41_ x1.toNatClampNeg (0 : Int32)) a45_ x1.toNatClampNeg (vp_nar .boolean (0 : Int32))) a49_ x4.toNatClampNeg x1) := ⟨_, rfl⟩
    replace Y : q_Y D cy lo s S53_ H locs := by rw [gS53_]; exact Y
    replace h := h S53_ gS53_
    replace k5_ : q_K S53_ a0 = 13 := by rw [gS53_]; exact k5_
    replace k8_ : q_K S53_ a6_ = 21 := by rw [gS53_]; exact k8_
    replace k12_ : q_K S53_ a10_ = 21 := by rw [gS53_]; exact k12_
    replace k16_ : q_K S53_ a14_ = 21 := by rw [gS53_]; exact k16_
    replace k21_ : q_K S53_ a19_ = 21 := by rw [gS53_]; exact k21_
    replace k25_ : q_K S53_ a23_ = 21 := by rw [gS53_]; exact k25_
    replace k29_ : q_K S53_ a27_ = 21 := by rw [gS53_]; exact k29_
    replace k34_ : q_K S53_ a32_ = 21 := by rw [gS53_]; exact k34_
    replace k38_ : q_K S53_ a36_ = 21 := by rw [gS53_]; exact k38_
    replace k43_ : q_K S53_ a41_ = 21 := by rw [gS53_]; exact k43_
    replace k47_ : q_K S53_ a45_ = 22 := by rw [gS53_]; exact k47_
    replace k51_ : q_K S53_ a49_ = 21 := by rw [gS53_]; exact k51_
    refine lv_aload_n hx hb dX12_fails_288 rfl (lv_at hl 1 rfl) ?_
    refine q_getP X Y kX12 89 rfl fl_X12_215 k5_ rfl dX12_fails_289 ?_
    refine lv_iload hx hb dX12_fails_292 (lv_at hl 5 rfl) ?_
    refine lv_iload_n hx hb dX12_fails_294 rfl (lv_at hl 3 rfl) ?_
    obtain ⟨a54_, e55_, h⟩ := h
    refine q_nn [.int x2, .int x4] e55_ ?_
    obtain ⟨k56_, h⟩ := h
    obtain ⟨i57_, h⟩ := h
    refine q_ist X Y k56_ i57_ dX12_fails_295 (fun H locs Y => ?_)
    refine lv_aload_n hx hb dX12_fails_296 rfl (lv_at hl 1 rfl) ?_
    refine q_getP X Y kX12 90 rfl fl_X12_218 k5_ rfl dX12_fails_297 ?_
    refine lv_iload hx hb dX12_fails_300 (lv_at hl 5 rfl) ?_
    refine lv_iload_n hx hb dX12_fails_302 rfl (lv_at hl 4 rfl) ?_
    obtain ⟨a58_, e59_, h⟩ := h
    refine q_nn [.int x3, .int x4] e59_ ?_
    obtain ⟨k60_, h⟩ := h
    obtain ⟨i61_, h⟩ := h
    refine q_ist X Y k60_ i61_ dX12_fails_303 (fun H locs Y => ?_)
    refine lv_aload_n hx hb dX12_fails_304 rfl (lv_at hl 1 rfl) ?_
    refine lv_iload hx hb dX12_fails_305 (lv_at hl 5 rfl) ?_
    refine q_callV X Y hl (cm_X12_unlock h) mt_X12_unlock mi_X12_unlock ml_X12_487 (ci := 12) rfl k5_ (by decide) rfl rfl (by first | exact Nat.le_of_ble_eq_true rfl | simp [q_cat, q_catI, q_catJ, q_catR]) ⟨Nat.le_of_ble_eq_true rfl, Nat.le_of_ble_eq_true rfl⟩ ⟨Nat.le_of_ble_eq_true rfl, Nat.le_of_ble_eq_true rfl⟩ dX12_fails_307 (fun r62_ S63_ H locs hp Y => ?_)
    obtain ⟨rfl, h⟩ := hp
    refine W.eq (g2 := F0 m 310 ls []) rfl ?_
    refine lv_aload_n hx hb dX12_fails_310 rfl (lv_at hl 1 rfl) ?_
    refine lv_aload_n hx hb dX12_fails_311 rfl (lv_at hl 1 rfl) ?_
    obtain ⟨k64_, h⟩ := h
    refine q_getP X Y kX12 42 rfl fl_X12_82 k64_ rfl dX12_fails_312 ?_
    refine lv_iload hx hb dX12_fails_315 (lv_at hl 5 rfl) ?_
    obtain ⟨a65_, e66_, h⟩ := h
    refine q_nn [.int x4] e66_ ?_
    obtain ⟨k67_, h⟩ := h
    obtain ⟨i68_, h⟩ := h
    refine q_ild X Y k67_ i68_ dX12_fails_317 ?_
    refine lv_aload_n hx hb dX12_fails_318 rfl (lv_at hl 1 rfl) ?_
    refine q_getI X Y kX12 63 rfl fl_X12_453 k64_ dX12_fails_319 ?_
    refine q_callV X Y hl (cm_X12_startsAt h) mt_X12_startsAt mi_X12_startsAt ml_X12_502 (ci := 12) rfl k64_ (by decide) rfl rfl (by first | exact Nat.le_of_ble_eq_true rfl | simp [q_cat, q_catI, q_catJ, q_catR]) ⟨Nat.le_of_ble_eq_true rfl, Nat.le_of_ble_eq_true rfl⟩ ⟨Nat.le_of_ble_eq_true rfl, Nat.le_of_ble_eq_true rfl⟩ dX12_fails_322 (fun r69_ S70_ H locs hp Y => ?_)
    obtain ⟨rfl, h⟩ := hp
    refine W.eq (g2 := F0 m 325 ls []) rfl ?_
    exact q_vret X Y (Nat.le_refl _) (Nat.le_refl _) h dX12_fails_325
  · match j87_, hj_, c86_ with
    | 0, _, c86_ =>
      refine ⟨37, 184, rfl, by decide, ?_⟩
      replace h := h.2.1 (q_eqI c86_ (by decide))
      refine lv_iload_n hx hb dX12_fails_184 rfl (lv_at hl 3 rfl) ?_
      refine lv_iconst (v := 2) hx hb dX12_fails_185 (by decide) ?_
      refine lv_icmp_eq (tgt := 199) hx hb dX12_fails_186 (by decide) (fun c71_ => ?_) (fun c71_ => ?_)
      · replace h := h.1 c71_
        exact cb_X12_fails_199 X Y (lv_sub hl [] rfl) h
      · replace h := h.2 c71_
        refine lv_aload_n hx hb dX12_fails_189 rfl (lv_at hl 1 rfl) ?_
        refine q_getP X Y kX12 68 rfl fl_X12_152 k5_ rfl dX12_fails_190 ?_
        refine lv_iload_n hx hb dX12_fails_193 rfl (lv_at hl 2 rfl) ?_
        refine lv_dup2_11 hx hb dX12_fails_194 rfl (q_cat _) ?_
        obtain ⟨a72_, e73_, h⟩ := h
        refine q_nn [.int x1] e73_ ?_
        obtain ⟨k74_, h⟩ := h
        obtain ⟨i75_, h⟩ := h
        refine q_ild X Y k74_ i75_ dX12_fails_195 ?_
        refine lv_iconst (v := 4) hx hb dX12_fails_196 (by decide) ?_
        refine lv_iadd hx hb dX12_fails_197 ?_
        refine q_nn [.int ((q_A (qs_I S31_ 2509 a0 ((q_I S31_ 2509 a0) + (1 : Int32))) a72_ x1.toNatClampNeg) + (4 : Int32)), .int x1] e73_ ?_
        obtain ⟨i76_, h⟩ := h
        refine q_ist X Y k74_ i76_ dX12_fails_198 (fun H locs Y => ?_)
        obtain ⟨S77_, gS77_⟩ : ∃ z : q_S, z = (qs_A (qs_I S31_ 2509 a0 ((q_I S31_ 2509 a0) + (1 : Int32))) a72_ x1.toNatClampNeg ((q_A (qs_I S31_ 2509 a0 ((q_I S31_ 2509 a0) + (1 : Int32))) a72_ x1.toNatClampNeg) + (4 : Int32))) := ⟨_, rfl⟩
        replace Y : q_Y D cy lo s S77_ H locs := by rw [gS77_]; exact Y
        replace h := h S77_ gS77_
        replace k5_ : q_K S77_ a0 = 13 := by rw [gS77_]; exact k5_
        replace k8_ : q_K S77_ a6_ = 21 := by rw [gS77_]; exact k8_
        replace k12_ : q_K S77_ a10_ = 21 := by rw [gS77_]; exact k12_
        replace k16_ : q_K S77_ a14_ = 21 := by rw [gS77_]; exact k16_
        replace k21_ : q_K S77_ a19_ = 21 := by rw [gS77_]; exact k21_
        replace k25_ : q_K S77_ a23_ = 21 := by rw [gS77_]; exact k25_
        replace k29_ : q_K S77_ a27_ = 21 := by rw [gS77_]; exact k29_
        replace k74_ : q_K S77_ a72_ = 21 := by rw [gS77_]; exact k74_
        exact cb_X12_fails_199 X Y (lv_sub hl [] rfl) h
    | 1, _, c86_ =>
      refine ⟨53, 200, rfl, by decide, ?_⟩
      replace h := h.2.2.1 (q_eqI c86_ (by decide))
      refine lv_aload_n hx hb dX12_fails_200 rfl (lv_at hl 1 rfl) ?_
      refine lv_iload_n hx hb dX12_fails_201 rfl (lv_at hl 2 rfl) ?_
      refine q_callV X Y hl (cm_X12_dormant h) mt_X12_dormant mi_X12_dormant ml_X12_546 (ci := 12) rfl k5_ (by decide) rfl rfl (by first | exact Nat.le_of_ble_eq_true rfl | simp [q_cat, q_catI, q_catJ, q_catR]) ⟨Nat.le_of_ble_eq_true rfl, Nat.le_of_ble_eq_true rfl⟩ ⟨Nat.le_of_ble_eq_true rfl, Nat.le_of_ble_eq_true rfl⟩ dX12_fails_202 (fun r78_ S79_ H locs hp Y => ?_)
      obtain ⟨rfl, h⟩ := hp
      refine W.eq (g2 := F0 m 205 ls []) rfl ?_
      exact q_vret X Y (Nat.le_refl _) (Nat.le_refl _) h dX12_fails_205
    | 2, _, c86_ =>
      refine ⟨59, 206, rfl, by decide, ?_⟩
      replace h := h.2.2.2.1 (q_eqI c86_ (by decide))
      refine lv_aload_n hx hb dX12_fails_206 rfl (lv_at hl 1 rfl) ?_
      refine lv_iload_n hx hb dX12_fails_207 rfl (lv_at hl 2 rfl) ?_
      refine lv_aload_n hx hb dX12_fails_208 rfl (lv_at hl 1 rfl) ?_
      refine q_getI X Y kX12 63 rfl fl_X12_453 k5_ dX12_fails_209 ?_
      refine q_callV X Y hl (cm_X12_startsAt h) mt_X12_startsAt mi_X12_startsAt ml_X12_502 (ci := 12) rfl k5_ (by decide) rfl rfl (by first | exact Nat.le_of_ble_eq_true rfl | simp [q_cat, q_catI, q_catJ, q_catR]) ⟨Nat.le_of_ble_eq_true rfl, Nat.le_of_ble_eq_true rfl⟩ ⟨Nat.le_of_ble_eq_true rfl, Nat.le_of_ble_eq_true rfl⟩ dX12_fails_212 (fun r80_ S81_ H locs hp Y => ?_)
      obtain ⟨rfl, h⟩ := hp
      refine W.eq (g2 := F0 m 215 ls []) rfl ?_
      exact q_vret X Y (Nat.le_refl _) (Nat.le_refl _) h dX12_fails_215
    | 3, _, c86_ =>
      refine ⟨69, 216, rfl, by decide, ?_⟩
      replace h := h.2.2.2.2.1 (Or.inl (q_eqI c86_ (by decide)))
      refine lv_aload_n hx hb dX12_fails_216 rfl (lv_at hl 1 rfl) ?_
      refine lv_iload hx hb dX12_fails_217 (lv_at hl 5 rfl) ?_
      refine lv_iconst (v := 3) hx hb dX12_fails_219 (by decide) ?_
      refine lv_iload hx hb dX12_fails_220 (lv_at hl 6 rfl) ?_
      refine lv_iconst (v := 4) hx hb dX12_fails_222 (by decide) ?_
      refine lv_icmp_ne (tgt := 230) hx hb dX12_fails_223 (by decide) (fun c82_ => ?_) (fun c82_ => ?_)
      · replace h := h.1 c82_
        refine lv_iconst (v := 0) hx hb dX12_fails_230 (by decide) ?_
        exact cb_X12_fails_231 X Y (lv_sub hl [1] rfl) h
      · replace h := h.2 c82_
        refine lv_iconst (v := 1) hx hb dX12_fails_226 (by decide) ?_
        refine lv_goto (tgt := 231) hx hb dX12_fails_227 (by decide) ?_
        exact cb_X12_fails_231 X Y (lv_sub hl [1] rfl) h
    | 4, _, c86_ =>
      refine ⟨69, 216, rfl, by decide, ?_⟩
      replace h := h.2.2.2.2.1 (Or.inr (q_eqI c86_ (by decide)))
      refine lv_aload_n hx hb dX12_fails_216 rfl (lv_at hl 1 rfl) ?_
      refine lv_iload hx hb dX12_fails_217 (lv_at hl 5 rfl) ?_
      refine lv_iconst (v := 3) hx hb dX12_fails_219 (by decide) ?_
      refine lv_iload hx hb dX12_fails_220 (lv_at hl 6 rfl) ?_
      refine lv_iconst (v := 4) hx hb dX12_fails_222 (by decide) ?_
      refine lv_icmp_ne (tgt := 230) hx hb dX12_fails_223 (by decide) (fun c82_ => ?_) (fun c82_ => ?_)
      · replace h := h.1 c82_
        refine lv_iconst (v := 0) hx hb dX12_fails_230 (by decide) ?_
        exact cb_X12_fails_231 X Y (lv_sub hl [1] rfl) h
      · replace h := h.2 c82_
        refine lv_iconst (v := 1) hx hb dX12_fails_226 (by decide) ?_
        refine lv_goto (tgt := 231) hx hb dX12_fails_227 (by decide) ?_
        exact cb_X12_fails_231 X Y (lv_sub hl [1] rfl) h
    | 5, _, c86_ =>
      refine ⟨93, 240, rfl, by decide, ?_⟩
      replace h := h.2.2.2.2.2 (q_eqI c86_ (by decide))
      refine lv_aload_n hx hb dX12_fails_240 rfl (lv_at hl 1 rfl) ?_
      refine lv_iload hx hb dX12_fails_241 (lv_at hl 5 rfl) ?_
      refine q_callV X Y hl (cm_X12_idle h) mt_X12_idle mi_X12_idle ml_X12_549 (ci := 12) rfl k5_ (by decide) rfl rfl (by first | exact Nat.le_of_ble_eq_true rfl | simp [q_cat, q_catI, q_catJ, q_catR]) ⟨Nat.le_of_ble_eq_true rfl, Nat.le_of_ble_eq_true rfl⟩ ⟨Nat.le_of_ble_eq_true rfl, Nat.le_of_ble_eq_true rfl⟩ dX12_fails_243 (fun r83_ S84_ H locs hp Y => ?_)
      obtain ⟨rfl, h⟩ := hp
      refine W.eq (g2 := F0 m 246 ls []) rfl ?_
      refine lv_aload_n hx hb dX12_fails_246 rfl (lv_at hl 1 rfl) ?_
      refine lv_iconst (v := 1) hx hb dX12_fails_247 (by decide) ?_
      obtain ⟨k85_, h⟩ := h
      refine q_putI X Y kX12 113 rfl fl_X12_509 k85_ .boolean rfl ⟨rfl, rfl⟩ rfl dX12_fails_248 (fun H locs Y => ?_)
      exact q_vret X Y (Nat.le_refl _) (Nat.le_refl _) h dX12_fails_251
    | z_ + 6, hj_, _ => exact absurd hj_ (by simp)
def wb_X12_fails_30  (S : q_S) (a0 : Nat) (x1 : Int32) (x2 : Int32) (x3 : Int32) (x4 : Int32) (xs0 : Int32) (Q : Option Value → q_S → Prop) : Prop := ((¬ xs0 = (6 : Int32) → (wb_X12_fails_57 S a0 x1 x2 x3 x4 xs0 Q)) ∧ (xs0 = (6 : Int32) → (q_K S a0 = 13 ∧ (∃ a90_ : Nat, (q_P S 2442 a0) = some a90_ ∧ (q_K S a90_ = 21 ∧ (vp_in x4 (q_N S a90_) ∧ (∃ a94_ : Nat, (q_P S 2467 a0) = some a94_ ∧ (q_K S a94_ = 21 ∧ (vp_in (q_A S a90_ x4.toNatClampNeg) (q_N S a94_) ∧ ((((q_A S a94_ (q_A S a90_ x4.toNatClampNeg).toNatClampNeg) = 0 → (wb_X12_fails_57 S a0 x1 x2 x3 x4 xs0 Q)) ∧ (¬ (q_A S a94_ (q_A S a90_ x4.toNatClampNeg).toNatClampNeg) = 0 → (wb_X12_fails_57 S a0 x1 x2 x3 x4 (0 : Int32) Q)))))))))))))
set_option maxHeartbeats 4000000 in
set_option maxRecDepth 100000 in
theorem cb_X12_fails_30 {p : Program} {l : Launch} {e : Env} {s : State} {m : MethodId} {args : Array Value} {below : List Frame} {meth : Method} {c : Code} {D : va_G} {cy : Nat → ClassId} {lo : Nat}  {S : q_S} {a0 : Nat} {x1 : Int32} {x2 : Int32} {x3 : Int32} {x4 : Int32} {xs0 : Int32} {Q : Option Value → q_S → Prop} {H : Heap} {locs : List Loc} {ls : Array Slot} (X : q_X p s m args meth c RX12 cX12_fails 7 none D cy lo)  (Y : q_Y D cy lo s S H locs) (hl : lv_has ls 7 [(0, .ref a0), (1, .int x1), (2, .int x2), (3, .int x3), (4, .int x4)]) (h : wb_X12_fails_30 S a0 x1 x2 x3 x4 xs0 Q) : W p l e ({ frames := 3, cells := 0, slots := 0, locals := 68 } : Room) s m args below meth c H locs 0 0 (MQ below (q_Q D cy lo Q) args s 0 0 (fun q => lo ≤ q)) (F0 m 30 ls [.int xs0]) := by
  have hx := X.1
  have hb := X.2.1
  unfold wb_X12_fails_30 at h
  refine lv_istore (i := 5) (lv' := [(5, .int xs0), (0, .ref a0), (1, .int x1), (2, .int x2), (3, .int x3), (4, .int x4)]) hx hb dX12_fails_30 hl (by decide) (by first | rfl | simp [q_cat, q_catI, q_catJ, q_catR]) (fun ls hl => ?_)
  refine lv_iload hx hb dX12_fails_32 (lv_at hl 0 rfl) ?_
  refine lv_bipush (v := 6) hx hb dX12_fails_34 (by decide) ?_
  refine lv_icmp_ne (tgt := 57) hx hb dX12_fails_36 (by decide) (fun c88_ => ?_) (fun c88_ => ?_)
  · replace h := h.1 c88_
    exact cb_X12_fails_57 X Y (lv_sub hl [1, 2, 3, 4, 5, 0] rfl) h
  · replace h := h.2 c88_
    refine lv_aload_n hx hb dX12_fails_39 rfl (lv_at hl 1 rfl) ?_
    obtain ⟨k89_, h⟩ := h
    refine q_getP X Y kX12 67 rfl fl_X12_149 k89_ rfl dX12_fails_40 ?_
    refine lv_aload_n hx hb dX12_fails_43 rfl (lv_at hl 1 rfl) ?_
    refine q_getP X Y kX12 42 rfl fl_X12_82 k89_ rfl dX12_fails_44 ?_
    refine lv_iload hx hb dX12_fails_47 (lv_at hl 5 rfl) ?_
    obtain ⟨a90_, e91_, h⟩ := h
    refine q_nn [.int x4] e91_ ?_
    obtain ⟨k92_, h⟩ := h
    obtain ⟨i93_, h⟩ := h
    refine q_ild X Y k92_ i93_ dX12_fails_49 ?_
    obtain ⟨a94_, e95_, h⟩ := h
    refine q_nn [.int (q_A S a90_ x4.toNatClampNeg)] e95_ ?_
    obtain ⟨k96_, h⟩ := h
    obtain ⟨i97_, h⟩ := h
    refine q_ild X Y k96_ i97_ dX12_fails_50 ?_
    refine lv_if_eq (tgt := 57) hx hb dX12_fails_51 (by decide) (fun c98_ => ?_) (fun c98_ => ?_)
    · replace h := h.1 c98_
      exact cb_X12_fails_57 X Y (lv_sub hl [1, 2, 3, 4, 5, 0] rfl) h
    · replace h := h.2 c98_
      refine lv_iconst (v := 0) hx hb dX12_fails_54 (by decide) ?_
      refine lv_istore (i := 5) (lv' := [(5, .int (0 : Int32)), (0, .ref a0), (1, .int x1), (2, .int x2), (3, .int x3), (4, .int x4)]) hx hb dX12_fails_55 hl (by decide) (by first | rfl | simp [q_cat, q_catI, q_catJ, q_catR]) (fun ls hl => ?_)
      exact cb_X12_fails_57 X Y (lv_sub hl [1, 2, 3, 4, 5, 0] rfl) h
def wm_X12_fails (S : q_S) (a0 : Nat) (x1 : Int32) (x2 : Int32) (x3 : Int32) (Q : Option Value → q_S → Prop) : Prop := q_K S a0 = 13 ∧ (wm_X12_partitionOf S a0 x1 (fun r100_ S101_ => ∃ x102_ : Int32, r100_ = some (.int x102_) ∧ (q_K S101_ a0 = 13 ∧ (wm_X12_isHandler S101_ a0 x1 (fun r104_ S105_ => ∃ x106_ : Int32, r104_ = some (.int x106_) ∧ (((x106_ = 0 → (q_K S105_ a0 = 13 ∧ (∃ a109_ : Nat, (q_P S105_ 2452 a0) = some a109_ ∧ (q_K S105_ a109_ = 21 ∧ (vp_in (((5 : Int32) * x102_) + x2) (q_N S105_ a109_) ∧ (wb_X12_fails_30 S105_ a0 x1 x2 x3 x102_ (q_A S105_ a109_ (((5 : Int32) * x102_) + x2).toNatClampNeg) Q)))))) ∧ (¬ x106_ = 0 → (wb_X12_fails_30 S105_ a0 x1 x2 x3 x102_ (3 : Int32) Q)))))))))
set_option maxHeartbeats 4000000 in
set_option maxRecDepth 100000 in
theorem cm_X12_fails {l : Launch} {D : va_G} {cy : Nat → ClassId} {lo : Nat} {S : q_S} {a0 : Nat} {x1 : Int32} {x2 : Int32} {x3 : Int32} {Q : Option Value → q_S → Prop} (h : wm_X12_fails S a0 x1 x2 x3 Q) : q_Met l D cy lo yX12_fails cX12_fails 7 none 3 68 0 0 [.ref a0, .int x1, .int x2, .int x3] S Q := by
  refine q_body (by decide) (by first | exact Nat.le_of_ble_eq_true rfl | simp [lg_sl, q_cat, q_catI, q_catJ, q_catR]) ?_
  intro p e s m below meth c ls X hnm Y hl
  have hx := X.1
  have hb := X.2.1
  have hl : lv_has ls 7 [(0, .ref a0), (1, .int x1), (2, .int x2), (3, .int x3)] := by first | exact hl | simpa [lv_args, q_cat, q_catI, q_catJ, q_catR] using hl
  generalize hargs : ([.ref a0, .int x1, .int x2, .int x3] : List Value).toArray = args at X ⊢
  unfold wm_X12_fails at h
  refine lv_aload_n hx hb dX12_fails_0 rfl (lv_at hl 0 rfl) ?_
  refine lv_iload_n hx hb dX12_fails_1 rfl (lv_at hl 1 rfl) ?_
  obtain ⟨k99_, h⟩ := h
  refine q_callV X Y hl (cm_X12_partitionOf h) mt_X12_partitionOf mi_X12_partitionOf ml_X12_481 (ci := 12) rfl k99_ (by decide) rfl rfl (by first | exact Nat.le_of_ble_eq_true rfl | simp [q_cat, q_catI, q_catJ, q_catR]) ⟨Nat.le_of_ble_eq_true rfl, Nat.le_of_ble_eq_true rfl⟩ ⟨Nat.le_of_ble_eq_true rfl, Nat.le_of_ble_eq_true rfl⟩ dX12_fails_2 (fun r100_ S101_ H locs hp Y => ?_)
  obtain ⟨x102_, rfl, h⟩ := hp
  refine W.eq (g2 := F0 m 5 ls [.int x102_]) rfl ?_
  refine lv_istore (i := 4) (lv' := [(4, .int x102_), (0, .ref a0), (1, .int x1), (2, .int x2), (3, .int x3)]) hx hb dX12_fails_5 hl (by decide) (by first | rfl | simp [q_cat, q_catI, q_catJ, q_catR]) (fun ls hl => ?_)
  refine lv_aload_n hx hb dX12_fails_7 rfl (lv_at hl 1 rfl) ?_
  refine lv_iload_n hx hb dX12_fails_8 rfl (lv_at hl 2 rfl) ?_
  obtain ⟨k103_, h⟩ := h
  refine q_callV X Y hl (cm_X12_isHandler h) mt_X12_isHandler mi_X12_isHandler ml_X12_493 (ci := 12) rfl k103_ (by decide) rfl rfl (by first | exact Nat.le_of_ble_eq_true rfl | simp [q_cat, q_catI, q_catJ, q_catR]) ⟨Nat.le_of_ble_eq_true rfl, Nat.le_of_ble_eq_true rfl⟩ ⟨Nat.le_of_ble_eq_true rfl, Nat.le_of_ble_eq_true rfl⟩ dX12_fails_9 (fun r104_ S105_ H locs hp Y => ?_)
  obtain ⟨x106_, rfl, h⟩ := hp
  refine W.eq (g2 := F0 m 12 ls [.int x106_]) rfl ?_
  refine lv_if_eq (tgt := 19) hx hb dX12_fails_12 (by decide) (fun c107_ => ?_) (fun c107_ => ?_)
  · replace h := h.1 c107_
    refine lv_aload_n hx hb dX12_fails_19 rfl (lv_at hl 1 rfl) ?_
    obtain ⟨k108_, h⟩ := h
    refine q_getP X Y kX12 52 rfl fl_X12_112 k108_ rfl dX12_fails_20 ?_
    refine lv_iconst (v := 5) hx hb dX12_fails_23 (by decide) ?_
    refine lv_iload hx hb dX12_fails_24 (lv_at hl 0 rfl) ?_
    refine lv_imul hx hb dX12_fails_26 ?_
    refine lv_iload_n hx hb dX12_fails_27 rfl (lv_at hl 3 rfl) ?_
    refine lv_iadd hx hb dX12_fails_28 ?_
    obtain ⟨a109_, e110_, h⟩ := h
    refine q_nn [.int (((5 : Int32) * x102_) + x2)] e110_ ?_
    obtain ⟨k111_, h⟩ := h
    obtain ⟨i112_, h⟩ := h
    refine q_ild X Y k111_ i112_ dX12_fails_29 ?_
    exact cb_X12_fails_30 X Y (lv_sub hl [1, 2, 3, 4, 0] rfl) h
  · replace h := h.2 c107_
    refine lv_iconst (v := 3) hx hb dX12_fails_15 (by decide) ?_
    refine lv_goto (tgt := 30) hx hb dX12_fails_16 (by decide) ?_
    exact cb_X12_fails_30 X Y (lv_sub hl [1, 2, 3, 4, 0] rfl) h
-- X12_nextOf
theorem dX12_nextOf_0 : decode cX12_nextOf 0 = .ok (.aload_n 0, 1) := by decide +kernel
theorem dX12_nextOf_1 : decode cX12_nextOf 1 = .ok (.getfield 450, 3) := by decide +kernel
theorem dX12_nextOf_4 : decode cX12_nextOf 4 = .ok (.ifCond .eq 12, 3) := by decide +kernel
theorem dX12_nextOf_7 : decode cX12_nextOf 7 = .ok (.aload_n 0, 1) := by decide +kernel
theorem dX12_nextOf_8 : decode cX12_nextOf 8 = .ok (.getfield 197, 3) := by decide +kernel
theorem dX12_nextOf_11 : decode cX12_nextOf 11 = .ok (.iload_n 1, 1) := by decide +kernel
theorem dX12_nextOf_12 : decode cX12_nextOf 12 = .ok (.iaload, 1) := by decide +kernel
theorem dX12_nextOf_13 : decode cX12_nextOf 13 = .ok (.ifCond .eq 5, 3) := by decide +kernel
theorem dX12_nextOf_16 : decode cX12_nextOf 16 = .ok (.iconst (-1), 1) := by decide +kernel
theorem dX12_nextOf_17 : decode cX12_nextOf 17 = .ok (.ireturn, 1) := by decide +kernel
theorem dX12_nextOf_18 : decode cX12_nextOf 18 = .ok (.aload_n 0, 1) := by decide +kernel
theorem dX12_nextOf_19 : decode cX12_nextOf 19 = .ok (.getfield 82, 3) := by decide +kernel
theorem dX12_nextOf_22 : decode cX12_nextOf 22 = .ok (.iload_n 1, 1) := by decide +kernel
theorem dX12_nextOf_23 : decode cX12_nextOf 23 = .ok (.iaload, 1) := by decide +kernel
theorem dX12_nextOf_24 : decode cX12_nextOf 24 = .ok (.iconst (-1), 1) := by decide +kernel
theorem dX12_nextOf_25 : decode cX12_nextOf 25 = .ok (.if_icmp .eq 25, 3) := by decide +kernel
theorem dX12_nextOf_28 : decode cX12_nextOf 28 = .ok (.aload_n 0, 1) := by decide +kernel
theorem dX12_nextOf_29 : decode cX12_nextOf 29 = .ok (.getfield 149, 3) := by decide +kernel
theorem dX12_nextOf_32 : decode cX12_nextOf 32 = .ok (.aload_n 0, 1) := by decide +kernel
theorem dX12_nextOf_33 : decode cX12_nextOf 33 = .ok (.getfield 82, 3) := by decide +kernel
theorem dX12_nextOf_36 : decode cX12_nextOf 36 = .ok (.iload_n 1, 1) := by decide +kernel
theorem dX12_nextOf_37 : decode cX12_nextOf 37 = .ok (.iaload, 1) := by decide +kernel
theorem dX12_nextOf_38 : decode cX12_nextOf 38 = .ok (.iaload, 1) := by decide +kernel
theorem dX12_nextOf_39 : decode cX12_nextOf 39 = .ok (.iconst 1, 1) := by decide +kernel
theorem dX12_nextOf_40 : decode cX12_nextOf 40 = .ok (.if_icmp .ne 10, 3) := by decide +kernel
theorem dX12_nextOf_43 : decode cX12_nextOf 43 = .ok (.aload_n 0, 1) := by decide +kernel
theorem dX12_nextOf_44 : decode cX12_nextOf 44 = .ok (.getfield 82, 3) := by decide +kernel
theorem dX12_nextOf_47 : decode cX12_nextOf 47 = .ok (.iload_n 1, 1) := by decide +kernel
theorem dX12_nextOf_48 : decode cX12_nextOf 48 = .ok (.iaload, 1) := by decide +kernel
theorem dX12_nextOf_49 : decode cX12_nextOf 49 = .ok (.ireturn, 1) := by decide +kernel
theorem dX12_nextOf_50 : decode cX12_nextOf 50 = .ok (.aload_n 0, 1) := by decide +kernel
theorem dX12_nextOf_51 : decode cX12_nextOf 51 = .ok (.getfield 206, 3) := by decide +kernel
theorem dX12_nextOf_54 : decode cX12_nextOf 54 = .ok (.iload_n 1, 1) := by decide +kernel
theorem dX12_nextOf_55 : decode cX12_nextOf 55 = .ok (.iaload, 1) := by decide +kernel
theorem dX12_nextOf_56 : decode cX12_nextOf 56 = .ok (.ifCond .le 10, 3) := by decide +kernel
theorem dX12_nextOf_59 : decode cX12_nextOf 59 = .ok (.aload_n 0, 1) := by decide +kernel
theorem dX12_nextOf_60 : decode cX12_nextOf 60 = .ok (.getfield 209, 3) := by decide +kernel
theorem dX12_nextOf_63 : decode cX12_nextOf 63 = .ok (.iload_n 1, 1) := by decide +kernel
theorem dX12_nextOf_64 : decode cX12_nextOf 64 = .ok (.iaload, 1) := by decide +kernel
theorem dX12_nextOf_65 : decode cX12_nextOf 65 = .ok (.ireturn, 1) := by decide +kernel
theorem dX12_nextOf_66 : decode cX12_nextOf 66 = .ok (.iconst (-1), 1) := by decide +kernel
theorem dX12_nextOf_67 : decode cX12_nextOf 67 = .ok (.istore_n 2, 1) := by decide +kernel
theorem dX12_nextOf_68 : decode cX12_nextOf 68 = .ok (.bipush 16, 2) := by decide +kernel
theorem dX12_nextOf_70 : decode cX12_nextOf 70 = .ok (.iload_n 1, 1) := by decide +kernel
theorem dX12_nextOf_71 : decode cX12_nextOf 71 = .ok (.imul, 1) := by decide +kernel
theorem dX12_nextOf_72 : decode cX12_nextOf 72 = .ok (.istore_n 3, 1) := by decide +kernel
theorem dX12_nextOf_73 : decode cX12_nextOf 73 = .ok (.iload_n 3, 1) := by decide +kernel
theorem dX12_nextOf_74 : decode cX12_nextOf 74 = .ok (.aload_n 0, 1) := by decide +kernel
theorem dX12_nextOf_75 : decode cX12_nextOf 75 = .ok (.iload_n 1, 1) := by decide +kernel
theorem dX12_nextOf_76 : decode cX12_nextOf 76 = .ok (.invokevirtual 499, 3) := by decide +kernel
theorem dX12_nextOf_79 : decode cX12_nextOf 79 = .ok (.if_icmp .ge 83, 3) := by decide +kernel
theorem dX12_nextOf_82 : decode cX12_nextOf 82 = .ok (.aload_n 0, 1) := by decide +kernel
theorem dX12_nextOf_83 : decode cX12_nextOf 83 = .ok (.getfield 149, 3) := by decide +kernel
theorem dX12_nextOf_86 : decode cX12_nextOf 86 = .ok (.iload_n 3, 1) := by decide +kernel
theorem dX12_nextOf_87 : decode cX12_nextOf 87 = .ok (.iaload, 1) := by decide +kernel
theorem dX12_nextOf_88 : decode cX12_nextOf 88 = .ok (.iconst 1, 1) := by decide +kernel
theorem dX12_nextOf_89 : decode cX12_nextOf 89 = .ok (.if_icmp .ne 67, 3) := by decide +kernel
theorem dX12_nextOf_92 : decode cX12_nextOf 92 = .ok (.aload_n 0, 1) := by decide +kernel
theorem dX12_nextOf_93 : decode cX12_nextOf 93 = .ok (.getfield 173, 3) := by decide +kernel
theorem dX12_nextOf_96 : decode cX12_nextOf 96 = .ok (.iload_n 3, 1) := by decide +kernel
theorem dX12_nextOf_97 : decode cX12_nextOf 97 = .ok (.baload, 1) := by decide +kernel
theorem dX12_nextOf_98 : decode cX12_nextOf 98 = .ok (.ifCond .eq 6, 3) := by decide +kernel
theorem dX12_nextOf_101 : decode cX12_nextOf 101 = .ok (.goto 55, 3) := by decide +kernel
theorem dX12_nextOf_104 : decode cX12_nextOf 104 = .ok (.iload_n 2, 1) := by decide +kernel
theorem dX12_nextOf_105 : decode cX12_nextOf 105 = .ok (.iconst (-1), 1) := by decide +kernel
theorem dX12_nextOf_106 : decode cX12_nextOf 106 = .ok (.if_icmp .eq 48, 3) := by decide +kernel
theorem dX12_nextOf_109 : decode cX12_nextOf 109 = .ok (.aload_n 0, 1) := by decide +kernel
theorem dX12_nextOf_110 : decode cX12_nextOf 110 = .ok (.getfield 155, 3) := by decide +kernel
theorem dX12_nextOf_113 : decode cX12_nextOf 113 = .ok (.iload_n 3, 1) := by decide +kernel
theorem dX12_nextOf_114 : decode cX12_nextOf 114 = .ok (.iaload, 1) := by decide +kernel
theorem dX12_nextOf_115 : decode cX12_nextOf 115 = .ok (.aload_n 0, 1) := by decide +kernel
theorem dX12_nextOf_116 : decode cX12_nextOf 116 = .ok (.getfield 155, 3) := by decide +kernel
theorem dX12_nextOf_119 : decode cX12_nextOf 119 = .ok (.iload_n 2, 1) := by decide +kernel
theorem dX12_nextOf_120 : decode cX12_nextOf 120 = .ok (.iaload, 1) := by decide +kernel
theorem dX12_nextOf_121 : decode cX12_nextOf 121 = .ok (.if_icmp .gt 33, 3) := by decide +kernel
theorem dX12_nextOf_124 : decode cX12_nextOf 124 = .ok (.aload_n 0, 1) := by decide +kernel
theorem dX12_nextOf_125 : decode cX12_nextOf 125 = .ok (.getfield 155, 3) := by decide +kernel
theorem dX12_nextOf_128 : decode cX12_nextOf 128 = .ok (.iload_n 3, 1) := by decide +kernel
theorem dX12_nextOf_129 : decode cX12_nextOf 129 = .ok (.iaload, 1) := by decide +kernel
theorem dX12_nextOf_130 : decode cX12_nextOf 130 = .ok (.aload_n 0, 1) := by decide +kernel
theorem dX12_nextOf_131 : decode cX12_nextOf 131 = .ok (.getfield 155, 3) := by decide +kernel
theorem dX12_nextOf_134 : decode cX12_nextOf 134 = .ok (.iload_n 2, 1) := by decide +kernel
theorem dX12_nextOf_135 : decode cX12_nextOf 135 = .ok (.iaload, 1) := by decide +kernel
theorem dX12_nextOf_136 : decode cX12_nextOf 136 = .ok (.if_icmp .ne 20, 3) := by decide +kernel
theorem dX12_nextOf_139 : decode cX12_nextOf 139 = .ok (.aload_n 0, 1) := by decide +kernel
theorem dX12_nextOf_140 : decode cX12_nextOf 140 = .ok (.getfield 176, 3) := by decide +kernel
theorem dX12_nextOf_143 : decode cX12_nextOf 143 = .ok (.iload_n 3, 1) := by decide +kernel
theorem dX12_nextOf_144 : decode cX12_nextOf 144 = .ok (.iaload, 1) := by decide +kernel
theorem dX12_nextOf_145 : decode cX12_nextOf 145 = .ok (.aload_n 0, 1) := by decide +kernel
theorem dX12_nextOf_146 : decode cX12_nextOf 146 = .ok (.getfield 176, 3) := by decide +kernel
theorem dX12_nextOf_149 : decode cX12_nextOf 149 = .ok (.iload_n 2, 1) := by decide +kernel
theorem dX12_nextOf_150 : decode cX12_nextOf 150 = .ok (.iaload, 1) := by decide +kernel
theorem dX12_nextOf_151 : decode cX12_nextOf 151 = .ok (.if_icmp .ge 5, 3) := by decide +kernel
theorem dX12_nextOf_154 : decode cX12_nextOf 154 = .ok (.iload_n 3, 1) := by decide +kernel
theorem dX12_nextOf_155 : decode cX12_nextOf 155 = .ok (.istore_n 2, 1) := by decide +kernel
theorem dX12_nextOf_156 : decode cX12_nextOf 156 = .ok (.iinc 3 1, 3) := by decide +kernel
theorem dX12_nextOf_159 : decode cX12_nextOf 159 = .ok (.goto (-86), 3) := by decide +kernel
theorem dX12_nextOf_162 : decode cX12_nextOf 162 = .ok (.iload_n 2, 1) := by decide +kernel
theorem dX12_nextOf_163 : decode cX12_nextOf 163 = .ok (.ireturn, 1) := by decide +kernel
def wb_X12_nextOf_16  (S : q_S) (Q : Option Value → q_S → Prop) : Prop := Q (some (.int (-1 : Int32))) S
set_option maxHeartbeats 4000000 in
set_option maxRecDepth 100000 in
theorem cb_X12_nextOf_16 {p : Program} {l : Launch} {e : Env} {s : State} {m : MethodId} {args : Array Value} {below : List Frame} {meth : Method} {c : Code} {D : va_G} {cy : Nat → ClassId} {lo : Nat}  {S : q_S} {Q : Option Value → q_S → Prop} {H : Heap} {locs : List Loc} {ls : Array Slot} (X : q_X p s m args meth c RX12 cX12_nextOf 4 (some .int) D cy lo)  (Y : q_Y D cy lo s S H locs) (hl : lv_has ls 4 []) (h : wb_X12_nextOf_16 S Q) : W p l e ({ frames := 1, cells := 0, slots := 0, locals := 21 } : Room) s m args below meth c H locs 0 0 (MQ below (q_Q D cy lo Q) args s 0 0 (fun q => lo ≤ q)) (F0 m 16 ls []) := by
  have hx := X.1
  have hb := X.2.1
  unfold wb_X12_nextOf_16 at h
  refine lv_iconst (v := (-1)) hx hb dX12_nextOf_16 (by decide) ?_
  exact q_iret X Y rfl (Nat.le_refl _) (Nat.le_refl _) h dX12_nextOf_17
def wb_X12_nextOf_156 (B73 : q_S → Nat → Int32 → Int32 → Int32 → Prop) (S : q_S) (a0 : Nat) (x1 : Int32) (x2 : Int32) (x3 : Int32) (Q : Option Value → q_S → Prop) : Prop := B73 S a0 x1 x2 (x3 + 1)
set_option maxHeartbeats 4000000 in
set_option maxRecDepth 100000 in
theorem cb_X12_nextOf_156 {p : Program} {l : Launch} {e : Env} {s : State} {m : MethodId} {args : Array Value} {below : List Frame} {meth : Method} {c : Code} {D : va_G} {cy : Nat → ClassId} {lo : Nat} {B73 : q_S → Nat → Int32 → Int32 → Int32 → Prop} {S : q_S} {a0 : Nat} {x1 : Int32} {x2 : Int32} {x3 : Int32} {Q : Option Value → q_S → Prop} {H : Heap} {locs : List Loc} {ls : Array Slot} (X : q_X p s m args meth c RX12 cX12_nextOf 4 (some .int) D cy lo) (hB73 : ∀ (S : q_S) (a0 : Nat) (x1 : Int32) (x2 : Int32) (x3 : Int32) (H : Heap) (locs : List Loc) (ls : Array Slot), B73 S a0 x1 x2 x3 → q_Y D cy lo s S H locs → lv_has ls 4 [(0, .ref a0), (1, .int x1), (2, .int x2), (3, .int x3)] → W p l e ({ frames := 1, cells := 0, slots := 0, locals := 21 } : Room) s m args below meth c H locs 0 0 (MQ below (q_Q D cy lo Q) args s 0 0 (fun q => lo ≤ q)) (F0 m 73 ls [])) (Y : q_Y D cy lo s S H locs) (hl : lv_has ls 4 [(0, .ref a0), (1, .int x1), (2, .int x2), (3, .int x3)]) (h : wb_X12_nextOf_156 B73 S a0 x1 x2 x3 Q) : W p l e ({ frames := 1, cells := 0, slots := 0, locals := 21 } : Room) s m args below meth c H locs 0 0 (MQ below (q_Q D cy lo Q) args s 0 0 (fun q => lo ≤ q)) (F0 m 156 ls []) := by
  have hx := X.1
  have hb := X.2.1
  unfold wb_X12_nextOf_156 at h
  refine lv_iinc (v := (x3 + 1)) (lv' := [(3, .int (x3 + 1)), (0, .ref a0), (1, .int x1), (2, .int x2)]) hx hb dX12_nextOf_156 hl (k := 3) rfl (by first | rfl | decide) (by decide) (by first | rfl | simp [q_cat, q_catI, q_catJ, q_catR]) (fun ls hl => ?_)
  refine lv_goto (tgt := 73) hx hb dX12_nextOf_159 (by decide) ?_
  exact hB73 _ _ _ _ _ _ _ _ h Y (lv_sub hl [1, 2, 3, 0] rfl)
def wb_X12_nextOf_154 (B73 : q_S → Nat → Int32 → Int32 → Int32 → Prop) (S : q_S) (a0 : Nat) (x1 : Int32) (x3 : Int32) (Q : Option Value → q_S → Prop) : Prop := wb_X12_nextOf_156 B73 S a0 x1 x3 x3 Q
set_option maxHeartbeats 4000000 in
set_option maxRecDepth 100000 in
theorem cb_X12_nextOf_154 {p : Program} {l : Launch} {e : Env} {s : State} {m : MethodId} {args : Array Value} {below : List Frame} {meth : Method} {c : Code} {D : va_G} {cy : Nat → ClassId} {lo : Nat} {B73 : q_S → Nat → Int32 → Int32 → Int32 → Prop} {S : q_S} {a0 : Nat} {x1 : Int32} {x3 : Int32} {Q : Option Value → q_S → Prop} {H : Heap} {locs : List Loc} {ls : Array Slot} (X : q_X p s m args meth c RX12 cX12_nextOf 4 (some .int) D cy lo) (hB73 : ∀ (S : q_S) (a0 : Nat) (x1 : Int32) (x2 : Int32) (x3 : Int32) (H : Heap) (locs : List Loc) (ls : Array Slot), B73 S a0 x1 x2 x3 → q_Y D cy lo s S H locs → lv_has ls 4 [(0, .ref a0), (1, .int x1), (2, .int x2), (3, .int x3)] → W p l e ({ frames := 1, cells := 0, slots := 0, locals := 21 } : Room) s m args below meth c H locs 0 0 (MQ below (q_Q D cy lo Q) args s 0 0 (fun q => lo ≤ q)) (F0 m 73 ls [])) (Y : q_Y D cy lo s S H locs) (hl : lv_has ls 4 [(0, .ref a0), (1, .int x1), (3, .int x3)]) (h : wb_X12_nextOf_154 B73 S a0 x1 x3 Q) : W p l e ({ frames := 1, cells := 0, slots := 0, locals := 21 } : Room) s m args below meth c H locs 0 0 (MQ below (q_Q D cy lo Q) args s 0 0 (fun q => lo ≤ q)) (F0 m 154 ls []) := by
  have hx := X.1
  have hb := X.2.1
  unfold wb_X12_nextOf_154 at h
  refine lv_iload_n hx hb dX12_nextOf_154 rfl (lv_at hl 2 rfl) ?_
  refine lv_istore_n (i := 2) (lv' := [(2, .int x3), (0, .ref a0), (1, .int x1), (3, .int x3)]) hx hb dX12_nextOf_155 rfl hl (by decide) (by first | rfl | simp [q_cat, q_catI, q_catJ, q_catR]) (fun ls hl => ?_)
  exact cb_X12_nextOf_156 X hB73 Y (lv_sub hl [1, 2, 0, 3] rfl) h
def wb_X12_nextOf_73 (B73 : q_S → Nat → Int32 → Int32 → Int32 → Prop) (S : q_S) (a0 : Nat) (x1 : Int32) (x2 : Int32) (x3 : Int32) (Q : Option Value → q_S → Prop) : Prop := q_K S a0 = 13 ∧ (wm_X12_lastOf S a0 x1 (fun r2_ S3_ => ∃ x4_ : Int32, r2_ = some (.int x4_) ∧ (((x4_ ≤ x3 → (Q (some (.int x2)) S3_)) ∧ (¬ x4_ ≤ x3 → (q_K S3_ a0 = 13 ∧ (∃ a7_ : Nat, (q_P S3_ 2467 a0) = some a7_ ∧ (q_K S3_ a7_ = 21 ∧ (vp_in x3 (q_N S3_ a7_) ∧ (((¬ (q_A S3_ a7_ x3.toNatClampNeg) = (1 : Int32) → (wb_X12_nextOf_156 B73 S3_ a0 x1 x2 x3 Q)) ∧ ((q_A S3_ a7_ x3.toNatClampNeg) = (1 : Int32) → (∃ a12_ : Nat, (q_P S3_ 2475 a0) = some a12_ ∧ (q_K S3_ a12_ = 22 ∧ (vp_in x3 (q_N S3_ a12_) ∧ ((((q_A S3_ a12_ x3.toNatClampNeg) = 0 → (((x2 = (-1 : Int32) → (wb_X12_nextOf_154 B73 S3_ a0 x1 x3 Q)) ∧ (¬ x2 = (-1 : Int32) → (∃ a18_ : Nat, (q_P S3_ 2469 a0) = some a18_ ∧ (q_K S3_ a18_ = 21 ∧ (vp_in x3 (q_N S3_ a18_) ∧ (vp_in x2 (q_N S3_ a18_) ∧ ((((q_A S3_ a18_ x2.toNatClampNeg) < (q_A S3_ a18_ x3.toNatClampNeg) → (wb_X12_nextOf_154 B73 S3_ a0 x1 x3 Q)) ∧ (¬ (q_A S3_ a18_ x2.toNatClampNeg) < (q_A S3_ a18_ x3.toNatClampNeg) → (vp_in x3 (q_N S3_ a18_) ∧ (vp_in x2 (q_N S3_ a18_) ∧ (((¬ (q_A S3_ a18_ x3.toNatClampNeg) = (q_A S3_ a18_ x2.toNatClampNeg) → (wb_X12_nextOf_156 B73 S3_ a0 x1 x2 x3 Q)) ∧ ((q_A S3_ a18_ x3.toNatClampNeg) = (q_A S3_ a18_ x2.toNatClampNeg) → (∃ a27_ : Nat, (q_P S3_ 2476 a0) = some a27_ ∧ (q_K S3_ a27_ = 21 ∧ (vp_in x3 (q_N S3_ a27_) ∧ (vp_in x2 (q_N S3_ a27_) ∧ ((((q_A S3_ a27_ x2.toNatClampNeg) ≤ (q_A S3_ a27_ x3.toNatClampNeg) → (wb_X12_nextOf_156 B73 S3_ a0 x1 x2 x3 Q)) ∧ (¬ (q_A S3_ a27_ x2.toNatClampNeg) ≤ (q_A S3_ a27_ x3.toNatClampNeg) → (wb_X12_nextOf_154 B73 S3_ a0 x1 x3 Q)))))))))))))))))))))))) ∧ (¬ (q_A S3_ a12_ x3.toNatClampNeg) = 0 → (wb_X12_nextOf_156 B73 S3_ a0 x1 x2 x3 Q)))))))))))))))))))
set_option maxHeartbeats 4000000 in
set_option maxRecDepth 100000 in
theorem cb_X12_nextOf_73 {p : Program} {l : Launch} {e : Env} {s : State} {m : MethodId} {args : Array Value} {below : List Frame} {meth : Method} {c : Code} {D : va_G} {cy : Nat → ClassId} {lo : Nat} {B73 : q_S → Nat → Int32 → Int32 → Int32 → Prop} {S : q_S} {a0 : Nat} {x1 : Int32} {x2 : Int32} {x3 : Int32} {Q : Option Value → q_S → Prop} {H : Heap} {locs : List Loc} {ls : Array Slot} (X : q_X p s m args meth c RX12 cX12_nextOf 4 (some .int) D cy lo) (hB73 : ∀ (S : q_S) (a0 : Nat) (x1 : Int32) (x2 : Int32) (x3 : Int32) (H : Heap) (locs : List Loc) (ls : Array Slot), B73 S a0 x1 x2 x3 → q_Y D cy lo s S H locs → lv_has ls 4 [(0, .ref a0), (1, .int x1), (2, .int x2), (3, .int x3)] → W p l e ({ frames := 1, cells := 0, slots := 0, locals := 21 } : Room) s m args below meth c H locs 0 0 (MQ below (q_Q D cy lo Q) args s 0 0 (fun q => lo ≤ q)) (F0 m 73 ls [])) (Y : q_Y D cy lo s S H locs) (hl : lv_has ls 4 [(0, .ref a0), (1, .int x1), (2, .int x2), (3, .int x3)]) (h : wb_X12_nextOf_73 B73 S a0 x1 x2 x3 Q) : W p l e ({ frames := 1, cells := 0, slots := 0, locals := 21 } : Room) s m args below meth c H locs 0 0 (MQ below (q_Q D cy lo Q) args s 0 0 (fun q => lo ≤ q)) (F0 m 73 ls []) := by
  have hx := X.1
  have hb := X.2.1
  unfold wb_X12_nextOf_73 at h
  refine lv_iload_n hx hb dX12_nextOf_73 rfl (lv_at hl 3 rfl) ?_
  refine lv_aload_n hx hb dX12_nextOf_74 rfl (lv_at hl 0 rfl) ?_
  refine lv_iload_n hx hb dX12_nextOf_75 rfl (lv_at hl 1 rfl) ?_
  obtain ⟨k1_, h⟩ := h
  refine q_callV X Y hl (cm_X12_lastOf h) mt_X12_lastOf mi_X12_lastOf ml_X12_499 (ci := 12) rfl k1_ (by decide) rfl rfl (by first | exact Nat.le_of_ble_eq_true rfl | simp [q_cat, q_catI, q_catJ, q_catR]) ⟨Nat.le_of_ble_eq_true rfl, Nat.le_of_ble_eq_true rfl⟩ ⟨Nat.le_of_ble_eq_true rfl, Nat.le_of_ble_eq_true rfl⟩ dX12_nextOf_76 (fun r2_ S3_ H locs hp Y => ?_)
  obtain ⟨x4_, rfl, h⟩ := hp
  refine W.eq (g2 := F0 m 79 ls [.int x4_, .int x3]) rfl ?_
  refine lv_icmp_ge (tgt := 162) hx hb dX12_nextOf_79 (by decide) (fun c5_ => ?_) (fun c5_ => ?_)
  · replace h := h.1 c5_
    refine lv_iload_n hx hb dX12_nextOf_162 rfl (lv_at hl 2 rfl) ?_
    exact q_iret X Y rfl (Nat.le_refl _) (Nat.le_refl _) h dX12_nextOf_163
  · replace h := h.2 c5_
    refine lv_aload_n hx hb dX12_nextOf_82 rfl (lv_at hl 0 rfl) ?_
    obtain ⟨k6_, h⟩ := h
    refine q_getP X Y kX12 67 rfl fl_X12_149 k6_ rfl dX12_nextOf_83 ?_
    refine lv_iload_n hx hb dX12_nextOf_86 rfl (lv_at hl 3 rfl) ?_
    obtain ⟨a7_, e8_, h⟩ := h
    refine q_nn [.int x3] e8_ ?_
    obtain ⟨k9_, h⟩ := h
    obtain ⟨i10_, h⟩ := h
    refine q_ild X Y k9_ i10_ dX12_nextOf_87 ?_
    refine lv_iconst (v := 1) hx hb dX12_nextOf_88 (by decide) ?_
    refine lv_icmp_ne (tgt := 156) hx hb dX12_nextOf_89 (by decide) (fun c11_ => ?_) (fun c11_ => ?_)
    · replace h := h.1 c11_
      exact cb_X12_nextOf_156 X hB73 Y (lv_sub hl [0, 1, 2, 3] rfl) h
    · replace h := h.2 c11_
      refine lv_aload_n hx hb dX12_nextOf_92 rfl (lv_at hl 0 rfl) ?_
      refine q_getP X Y kX12 75 rfl fl_X12_173 k6_ rfl dX12_nextOf_93 ?_
      refine lv_iload_n hx hb dX12_nextOf_96 rfl (lv_at hl 3 rfl) ?_
      obtain ⟨a12_, e13_, h⟩ := h
      refine q_nn [.int x3] e13_ ?_
      obtain ⟨k14_, h⟩ := h
      obtain ⟨i15_, h⟩ := h
      refine q_zld X Y k14_ i15_ dX12_nextOf_97 ?_
      refine lv_if_eq (tgt := 104) hx hb dX12_nextOf_98 (by decide) (fun c16_ => ?_) (fun c16_ => ?_)
      · replace h := h.1 c16_
        refine lv_iload_n hx hb dX12_nextOf_104 rfl (lv_at hl 2 rfl) ?_
        refine lv_iconst (v := (-1)) hx hb dX12_nextOf_105 (by decide) ?_
        refine lv_icmp_eq (tgt := 154) hx hb dX12_nextOf_106 (by decide) (fun c17_ => ?_) (fun c17_ => ?_)
        · replace h := h.1 c17_
          exact cb_X12_nextOf_154 X hB73 Y (lv_sub hl [0, 1, 3] rfl) h
        · replace h := h.2 c17_
          refine lv_aload_n hx hb dX12_nextOf_109 rfl (lv_at hl 0 rfl) ?_
          refine q_getP X Y kX12 69 rfl fl_X12_155 k6_ rfl dX12_nextOf_110 ?_
          refine lv_iload_n hx hb dX12_nextOf_113 rfl (lv_at hl 3 rfl) ?_
          obtain ⟨a18_, e19_, h⟩ := h
          refine q_nn [.int x3] e19_ ?_
          obtain ⟨k20_, h⟩ := h
          obtain ⟨i21_, h⟩ := h
          refine q_ild X Y k20_ i21_ dX12_nextOf_114 ?_
          refine lv_aload_n hx hb dX12_nextOf_115 rfl (lv_at hl 0 rfl) ?_
          refine q_getR X Y kX12 69 rfl fl_X12_155 k6_ e19_ dX12_nextOf_116 ?_
          refine lv_iload_n hx hb dX12_nextOf_119 rfl (lv_at hl 2 rfl) ?_
          obtain ⟨i22_, h⟩ := h
          refine q_ild X Y k20_ i22_ dX12_nextOf_120 ?_
          refine lv_icmp_gt (tgt := 154) hx hb dX12_nextOf_121 (by decide) (fun c23_ => ?_) (fun c23_ => ?_)
          · replace h := h.1 c23_
            exact cb_X12_nextOf_154 X hB73 Y (lv_sub hl [0, 1, 3] rfl) h
          · replace h := h.2 c23_
            refine lv_aload_n hx hb dX12_nextOf_124 rfl (lv_at hl 0 rfl) ?_
            refine q_getR X Y kX12 69 rfl fl_X12_155 k6_ e19_ dX12_nextOf_125 ?_
            refine lv_iload_n hx hb dX12_nextOf_128 rfl (lv_at hl 3 rfl) ?_
            obtain ⟨i24_, h⟩ := h
            refine q_ild X Y k20_ i24_ dX12_nextOf_129 ?_
            refine lv_aload_n hx hb dX12_nextOf_130 rfl (lv_at hl 0 rfl) ?_
            refine q_getR X Y kX12 69 rfl fl_X12_155 k6_ e19_ dX12_nextOf_131 ?_
            refine lv_iload_n hx hb dX12_nextOf_134 rfl (lv_at hl 2 rfl) ?_
            obtain ⟨i25_, h⟩ := h
            refine q_ild X Y k20_ i25_ dX12_nextOf_135 ?_
            refine lv_icmp_ne (tgt := 156) hx hb dX12_nextOf_136 (by decide) (fun c26_ => ?_) (fun c26_ => ?_)
            · replace h := h.1 c26_
              exact cb_X12_nextOf_156 X hB73 Y (lv_sub hl [0, 1, 2, 3] rfl) h
            · replace h := h.2 c26_
              refine lv_aload_n hx hb dX12_nextOf_139 rfl (lv_at hl 0 rfl) ?_
              refine q_getP X Y kX12 76 rfl fl_X12_176 k6_ rfl dX12_nextOf_140 ?_
              refine lv_iload_n hx hb dX12_nextOf_143 rfl (lv_at hl 3 rfl) ?_
              obtain ⟨a27_, e28_, h⟩ := h
              refine q_nn [.int x3] e28_ ?_
              obtain ⟨k29_, h⟩ := h
              obtain ⟨i30_, h⟩ := h
              refine q_ild X Y k29_ i30_ dX12_nextOf_144 ?_
              refine lv_aload_n hx hb dX12_nextOf_145 rfl (lv_at hl 0 rfl) ?_
              refine q_getR X Y kX12 76 rfl fl_X12_176 k6_ e28_ dX12_nextOf_146 ?_
              refine lv_iload_n hx hb dX12_nextOf_149 rfl (lv_at hl 2 rfl) ?_
              obtain ⟨i31_, h⟩ := h
              refine q_ild X Y k29_ i31_ dX12_nextOf_150 ?_
              refine lv_icmp_ge (tgt := 156) hx hb dX12_nextOf_151 (by decide) (fun c32_ => ?_) (fun c32_ => ?_)
              · replace h := h.1 c32_
                exact cb_X12_nextOf_156 X hB73 Y (lv_sub hl [0, 1, 2, 3] rfl) h
              · replace h := h.2 c32_
                exact cb_X12_nextOf_154 X hB73 Y (lv_sub hl [0, 1, 3] rfl) h
      · replace h := h.2 c16_
        refine lv_goto (tgt := 156) hx hb dX12_nextOf_101 (by decide) ?_
        exact cb_X12_nextOf_156 X hB73 Y (lv_sub hl [0, 1, 2, 3] rfl) h
def wl_X12_nextOf_73  : Nat → q_S → Nat → Int32 → Int32 → Int32 → (Option Value → q_S → Prop) → Prop
  | 0, _, _, _, _, _, _ => False
  | n + 1, S, a0, x1, x2, x3, Q => wb_X12_nextOf_73 (fun S a0 x1 x2 x3 => wl_X12_nextOf_73 n S a0 x1 x2 x3 Q) S a0 x1 x2 x3 Q
set_option maxHeartbeats 4000000 in
set_option maxRecDepth 100000 in
theorem cl_X12_nextOf_73 {p : Program} {l : Launch} {e : Env} {s : State} {m : MethodId} {args : Array Value} {below : List Frame} {meth : Method} {c : Code} {D : va_G} {cy : Nat → ClassId} {lo : Nat}  {Q : Option Value → q_S → Prop} (X : q_X p s m args meth c RX12 cX12_nextOf 4 (some .int) D cy lo)  : ∀ (n : Nat) (S : q_S) (a0 : Nat) (x1 : Int32) (x2 : Int32) (x3 : Int32) (H : Heap) (locs : List Loc) (ls : Array Slot), wl_X12_nextOf_73 n S a0 x1 x2 x3 Q → q_Y D cy lo s S H locs → lv_has ls 4 [(0, .ref a0), (1, .int x1), (2, .int x2), (3, .int x3)] → W p l e ({ frames := 1, cells := 0, slots := 0, locals := 21 } : Room) s m args below meth c H locs 0 0 (MQ below (q_Q D cy lo Q) args s 0 0 (fun q => lo ≤ q)) (F0 m 73 ls []) := by
  intro n
  induction n with
  | zero => intro S a0 x1 x2 x3 H locs ls h; exact absurd h id
  | succ n ih => intro S a0 x1 x2 x3 H locs ls h Y hl; exact cb_X12_nextOf_73 X ih Y hl h
def wb_X12_nextOf_50  (S : q_S) (a0 : Nat) (x1 : Int32) (Q : Option Value → q_S → Prop) : Prop := q_K S a0 = 13 ∧ (∃ a34_ : Nat, (q_P S 2486 a0) = some a34_ ∧ (q_K S a34_ = 21 ∧ (vp_in x1 (q_N S a34_) ∧ ((((q_A S a34_ x1.toNatClampNeg) ≤ 0 → (∃ n39_ : Nat, wl_X12_nextOf_73 n39_ S a0 x1 (-1 : Int32) ((16 : Int32) * x1) Q)) ∧ (¬ (q_A S a34_ x1.toNatClampNeg) ≤ 0 → (∃ a40_ : Nat, (q_P S 2487 a0) = some a40_ ∧ (q_K S a40_ = 21 ∧ (vp_in x1 (q_N S a40_) ∧ (Q (some (.int (q_A S a40_ x1.toNatClampNeg))) S))))))))))
set_option maxHeartbeats 4000000 in
set_option maxRecDepth 100000 in
theorem cb_X12_nextOf_50 {p : Program} {l : Launch} {e : Env} {s : State} {m : MethodId} {args : Array Value} {below : List Frame} {meth : Method} {c : Code} {D : va_G} {cy : Nat → ClassId} {lo : Nat}  {S : q_S} {a0 : Nat} {x1 : Int32} {Q : Option Value → q_S → Prop} {H : Heap} {locs : List Loc} {ls : Array Slot} (X : q_X p s m args meth c RX12 cX12_nextOf 4 (some .int) D cy lo)  (Y : q_Y D cy lo s S H locs) (hl : lv_has ls 4 [(0, .ref a0), (1, .int x1)]) (h : wb_X12_nextOf_50 S a0 x1 Q) : W p l e ({ frames := 1, cells := 0, slots := 0, locals := 21 } : Room) s m args below meth c H locs 0 0 (MQ below (q_Q D cy lo Q) args s 0 0 (fun q => lo ≤ q)) (F0 m 50 ls []) := by
  have hx := X.1
  have hb := X.2.1
  unfold wb_X12_nextOf_50 at h
  refine lv_aload_n hx hb dX12_nextOf_50 rfl (lv_at hl 0 rfl) ?_
  obtain ⟨k33_, h⟩ := h
  refine q_getP X Y kX12 86 rfl fl_X12_206 k33_ rfl dX12_nextOf_51 ?_
  refine lv_iload_n hx hb dX12_nextOf_54 rfl (lv_at hl 1 rfl) ?_
  obtain ⟨a34_, e35_, h⟩ := h
  refine q_nn [.int x1] e35_ ?_
  obtain ⟨k36_, h⟩ := h
  obtain ⟨i37_, h⟩ := h
  refine q_ild X Y k36_ i37_ dX12_nextOf_55 ?_
  refine lv_if_le (tgt := 66) hx hb dX12_nextOf_56 (by decide) (fun c38_ => ?_) (fun c38_ => ?_)
  · replace h := h.1 c38_
    refine lv_iconst (v := (-1)) hx hb dX12_nextOf_66 (by decide) ?_
    refine lv_istore_n (i := 2) (lv' := [(2, .int (-1 : Int32)), (0, .ref a0), (1, .int x1)]) hx hb dX12_nextOf_67 rfl hl (by decide) (by first | rfl | simp [q_cat, q_catI, q_catJ, q_catR]) (fun ls hl => ?_)
    refine lv_bipush (v := 16) hx hb dX12_nextOf_68 (by decide) ?_
    refine lv_iload_n hx hb dX12_nextOf_70 rfl (lv_at hl 2 rfl) ?_
    refine lv_imul hx hb dX12_nextOf_71 ?_
    refine lv_istore_n (i := 3) (lv' := [(3, .int ((16 : Int32) * x1)), (2, .int (-1 : Int32)), (0, .ref a0), (1, .int x1)]) hx hb dX12_nextOf_72 rfl hl (by decide) (by first | rfl | simp [q_cat, q_catI, q_catJ, q_catR]) (fun ls hl => ?_)
    obtain ⟨n39_, h⟩ := h
    exact cl_X12_nextOf_73 X n39_ _ _ _ _ _ _ _ _ h Y (lv_sub hl [2, 3, 1, 0] rfl)
  · replace h := h.2 c38_
    refine lv_aload_n hx hb dX12_nextOf_59 rfl (lv_at hl 0 rfl) ?_
    refine q_getP X Y kX12 87 rfl fl_X12_209 k33_ rfl dX12_nextOf_60 ?_
    refine lv_iload_n hx hb dX12_nextOf_63 rfl (lv_at hl 1 rfl) ?_
    obtain ⟨a40_, e41_, h⟩ := h
    refine q_nn [.int x1] e41_ ?_
    obtain ⟨k42_, h⟩ := h
    obtain ⟨i43_, h⟩ := h
    refine q_ild X Y k42_ i43_ dX12_nextOf_64 ?_
    exact q_iret X Y rfl (Nat.le_refl _) (Nat.le_refl _) h dX12_nextOf_65
def wm_X12_nextOf (S : q_S) (a0 : Nat) (x1 : Int32) (Q : Option Value → q_S → Prop) : Prop := q_K S a0 = 13 ∧ ((((q_I S 2414 a0) = 0 → (wb_X12_nextOf_16 S Q)) ∧ (¬ (q_I S 2414 a0) = 0 → (∃ a46_ : Nat, (q_P S 2483 a0) = some a46_ ∧ (q_K S a46_ = 21 ∧ (vp_in x1 (q_N S a46_) ∧ ((((q_A S a46_ x1.toNatClampNeg) = 0 → (∃ a51_ : Nat, (q_P S 2442 a0) = some a51_ ∧ (q_K S a51_ = 21 ∧ (vp_in x1 (q_N S a51_) ∧ ((((q_A S a51_ x1.toNatClampNeg) = (-1 : Int32) → (wb_X12_nextOf_50 S a0 x1 Q)) ∧ (¬ (q_A S a51_ x1.toNatClampNeg) = (-1 : Int32) → (vp_in x1 (q_N S a51_) ∧ (∃ a57_ : Nat, (q_P S 2467 a0) = some a57_ ∧ (q_K S a57_ = 21 ∧ (vp_in (q_A S a51_ x1.toNatClampNeg) (q_N S a57_) ∧ (((¬ (q_A S a57_ (q_A S a51_ x1.toNatClampNeg).toNatClampNeg) = (1 : Int32) → (wb_X12_nextOf_50 S a0 x1 Q)) ∧ ((q_A S a57_ (q_A S a51_ x1.toNatClampNeg).toNatClampNeg) = (1 : Int32) → (vp_in x1 (q_N S a51_) ∧ (Q (some (.int (q_A S a51_ x1.toNatClampNeg))) S)))))))))))))))) ∧ (¬ (q_A S a46_ x1.toNatClampNeg) = 0 → (wb_X12_nextOf_16 S Q))))))))))
set_option maxHeartbeats 4000000 in
set_option maxRecDepth 100000 in
theorem cm_X12_nextOf {l : Launch} {D : va_G} {cy : Nat → ClassId} {lo : Nat} {S : q_S} {a0 : Nat} {x1 : Int32} {Q : Option Value → q_S → Prop} (h : wm_X12_nextOf S a0 x1 Q) : q_Met l D cy lo yX12_nextOf cX12_nextOf 4 (some .int) 1 21 0 0 [.ref a0, .int x1] S Q := by
  refine q_body (by decide) (by first | exact Nat.le_of_ble_eq_true rfl | simp [lg_sl, q_cat, q_catI, q_catJ, q_catR]) ?_
  intro p e s m below meth c ls X hnm Y hl
  have hx := X.1
  have hb := X.2.1
  have hl : lv_has ls 4 [(0, .ref a0), (1, .int x1)] := by first | exact hl | simpa [lv_args, q_cat, q_catI, q_catJ, q_catR] using hl
  generalize hargs : ([.ref a0, .int x1] : List Value).toArray = args at X ⊢
  unfold wm_X12_nextOf at h
  refine lv_aload_n hx hb dX12_nextOf_0 rfl (lv_at hl 0 rfl) ?_
  obtain ⟨k44_, h⟩ := h
  refine q_getI X Y kX12 14 rfl fl_X12_450 k44_ dX12_nextOf_1 ?_
  refine lv_if_eq (tgt := 16) hx hb dX12_nextOf_4 (by decide) (fun c45_ => ?_) (fun c45_ => ?_)
  · replace h := h.1 c45_
    exact cb_X12_nextOf_16 X Y (lv_sub hl [] rfl) h
  · replace h := h.2 c45_
    refine lv_aload_n hx hb dX12_nextOf_7 rfl (lv_at hl 0 rfl) ?_
    refine q_getP X Y kX12 83 rfl fl_X12_197 k44_ rfl dX12_nextOf_8 ?_
    refine lv_iload_n hx hb dX12_nextOf_11 rfl (lv_at hl 1 rfl) ?_
    obtain ⟨a46_, e47_, h⟩ := h
    refine q_nn [.int x1] e47_ ?_
    obtain ⟨k48_, h⟩ := h
    obtain ⟨i49_, h⟩ := h
    refine q_ild X Y k48_ i49_ dX12_nextOf_12 ?_
    refine lv_if_eq (tgt := 18) hx hb dX12_nextOf_13 (by decide) (fun c50_ => ?_) (fun c50_ => ?_)
    · replace h := h.1 c50_
      refine lv_aload_n hx hb dX12_nextOf_18 rfl (lv_at hl 0 rfl) ?_
      refine q_getP X Y kX12 42 rfl fl_X12_82 k44_ rfl dX12_nextOf_19 ?_
      refine lv_iload_n hx hb dX12_nextOf_22 rfl (lv_at hl 1 rfl) ?_
      obtain ⟨a51_, e52_, h⟩ := h
      refine q_nn [.int x1] e52_ ?_
      obtain ⟨k53_, h⟩ := h
      obtain ⟨i54_, h⟩ := h
      refine q_ild X Y k53_ i54_ dX12_nextOf_23 ?_
      refine lv_iconst (v := (-1)) hx hb dX12_nextOf_24 (by decide) ?_
      refine lv_icmp_eq (tgt := 50) hx hb dX12_nextOf_25 (by decide) (fun c55_ => ?_) (fun c55_ => ?_)
      · replace h := h.1 c55_
        exact cb_X12_nextOf_50 X Y (lv_sub hl [0, 1] rfl) h
      · replace h := h.2 c55_
        refine lv_aload_n hx hb dX12_nextOf_28 rfl (lv_at hl 0 rfl) ?_
        refine q_getP X Y kX12 67 rfl fl_X12_149 k44_ rfl dX12_nextOf_29 ?_
        refine lv_aload_n hx hb dX12_nextOf_32 rfl (lv_at hl 0 rfl) ?_
        refine q_getR X Y kX12 42 rfl fl_X12_82 k44_ e52_ dX12_nextOf_33 ?_
        refine lv_iload_n hx hb dX12_nextOf_36 rfl (lv_at hl 1 rfl) ?_
        obtain ⟨i56_, h⟩ := h
        refine q_ild X Y k53_ i56_ dX12_nextOf_37 ?_
        obtain ⟨a57_, e58_, h⟩ := h
        refine q_nn [.int (q_A S a51_ x1.toNatClampNeg)] e58_ ?_
        obtain ⟨k59_, h⟩ := h
        obtain ⟨i60_, h⟩ := h
        refine q_ild X Y k59_ i60_ dX12_nextOf_38 ?_
        refine lv_iconst (v := 1) hx hb dX12_nextOf_39 (by decide) ?_
        refine lv_icmp_ne (tgt := 50) hx hb dX12_nextOf_40 (by decide) (fun c61_ => ?_) (fun c61_ => ?_)
        · replace h := h.1 c61_
          exact cb_X12_nextOf_50 X Y (lv_sub hl [0, 1] rfl) h
        · replace h := h.2 c61_
          refine lv_aload_n hx hb dX12_nextOf_43 rfl (lv_at hl 0 rfl) ?_
          refine q_getR X Y kX12 42 rfl fl_X12_82 k44_ e52_ dX12_nextOf_44 ?_
          refine lv_iload_n hx hb dX12_nextOf_47 rfl (lv_at hl 1 rfl) ?_
          obtain ⟨i62_, h⟩ := h
          refine q_ild X Y k53_ i62_ dX12_nextOf_48 ?_
          exact q_iret X Y rfl (Nat.le_refl _) (Nat.le_refl _) h dX12_nextOf_49
    · replace h := h.2 c50_
      exact cb_X12_nextOf_16 X Y (lv_sub hl [] rfl) h
-- X12_isWithin
theorem dX12_isWithin_0 : decode cX12_isWithin 0 = .ok (.iload_n 2, 1) := by decide +kernel
theorem dX12_isWithin_1 : decode cX12_isWithin 1 = .ok (.ifCond .lt 19, 3) := by decide +kernel
theorem dX12_isWithin_4 : decode cX12_isWithin 4 = .ok (.iload_n 2, 1) := by decide +kernel
theorem dX12_isWithin_5 : decode cX12_isWithin 5 = .ok (.aload_n 0, 1) := by decide +kernel
theorem dX12_isWithin_6 : decode cX12_isWithin 6 = .ok (.getfield 30, 3) := by decide +kernel
theorem dX12_isWithin_9 : decode cX12_isWithin 9 = .ok (.iload_n 1, 1) := by decide +kernel
theorem dX12_isWithin_10 : decode cX12_isWithin 10 = .ok (.iaload, 1) := by decide +kernel
theorem dX12_isWithin_11 : decode cX12_isWithin 11 = .ok (.iload_n 3, 1) := by decide +kernel
theorem dX12_isWithin_12 : decode cX12_isWithin 12 = .ok (.isub, 1) := by decide +kernel
theorem dX12_isWithin_13 : decode cX12_isWithin 13 = .ok (.if_icmp .gt 7, 3) := by decide +kernel
theorem dX12_isWithin_16 : decode cX12_isWithin 16 = .ok (.iconst 1, 1) := by decide +kernel
theorem dX12_isWithin_17 : decode cX12_isWithin 17 = .ok (.goto 4, 3) := by decide +kernel
theorem dX12_isWithin_20 : decode cX12_isWithin 20 = .ok (.iconst 0, 1) := by decide +kernel
theorem dX12_isWithin_21 : decode cX12_isWithin 21 = .ok (.ireturn, 1) := by decide +kernel
def wb_X12_isWithin_21  (S : q_S) (xs0 : Int32) (Q : Option Value → q_S → Prop) : Prop := (narrow .boolean (.int xs0) = .int xs0 ∧ Q (some (.int xs0)) S)
set_option maxHeartbeats 4000000 in
set_option maxRecDepth 100000 in
theorem cb_X12_isWithin_21 {p : Program} {l : Launch} {e : Env} {s : State} {m : MethodId} {args : Array Value} {below : List Frame} {meth : Method} {c : Code} {D : va_G} {cy : Nat → ClassId} {lo : Nat}  {S : q_S} {xs0 : Int32} {Q : Option Value → q_S → Prop} {H : Heap} {locs : List Loc} {ls : Array Slot} (X : q_X p s m args meth c RX12 cX12_isWithin 4 (some .boolean) D cy lo)  (Y : q_Y D cy lo s S H locs) (hl : lv_has ls 4 []) (h : wb_X12_isWithin_21 S xs0 Q) : W p l e ({ frames := 0, cells := 0, slots := 0, locals := 0 } : Room) s m args below meth c H locs 0 0 (MQ below (q_Q D cy lo Q) args s 0 0 (fun q => lo ≤ q)) (F0 m 21 ls [.int xs0]) := by
  have hx := X.1
  have hb := X.2.1
  unfold wb_X12_isWithin_21 at h
  exact q_iret X Y h.1 (Nat.le_refl _) (Nat.le_refl _) h.2 dX12_isWithin_21
def wb_X12_isWithin_20  (S : q_S) (Q : Option Value → q_S → Prop) : Prop := wb_X12_isWithin_21 S (0 : Int32) Q
set_option maxHeartbeats 4000000 in
set_option maxRecDepth 100000 in
theorem cb_X12_isWithin_20 {p : Program} {l : Launch} {e : Env} {s : State} {m : MethodId} {args : Array Value} {below : List Frame} {meth : Method} {c : Code} {D : va_G} {cy : Nat → ClassId} {lo : Nat}  {S : q_S} {Q : Option Value → q_S → Prop} {H : Heap} {locs : List Loc} {ls : Array Slot} (X : q_X p s m args meth c RX12 cX12_isWithin 4 (some .boolean) D cy lo)  (Y : q_Y D cy lo s S H locs) (hl : lv_has ls 4 []) (h : wb_X12_isWithin_20 S Q) : W p l e ({ frames := 0, cells := 0, slots := 0, locals := 0 } : Room) s m args below meth c H locs 0 0 (MQ below (q_Q D cy lo Q) args s 0 0 (fun q => lo ≤ q)) (F0 m 20 ls []) := by
  have hx := X.1
  have hb := X.2.1
  unfold wb_X12_isWithin_20 at h
  refine lv_iconst (v := 0) hx hb dX12_isWithin_20 (by decide) ?_
  exact cb_X12_isWithin_21 X Y (lv_sub hl [] rfl) h
def wm_X12_isWithin (S : q_S) (a0 : Nat) (x1 : Int32) (x2 : Int32) (x3 : Int32) (Q : Option Value → q_S → Prop) : Prop := ((x2 < 0 → (wb_X12_isWithin_20 S Q)) ∧ (¬ x2 < 0 → (q_K S a0 = 13 ∧ (∃ a3_ : Nat, (q_P S 2425 a0) = some a3_ ∧ (q_K S a3_ = 21 ∧ (vp_in x1 (q_N S a3_) ∧ (((((q_A S a3_ x1.toNatClampNeg) - x3) < x2 → (wb_X12_isWithin_20 S Q)) ∧ (¬ ((q_A S a3_ x1.toNatClampNeg) - x3) < x2 → (wb_X12_isWithin_21 S (1 : Int32) Q))))))))))
set_option maxHeartbeats 4000000 in
set_option maxRecDepth 100000 in
theorem cm_X12_isWithin {l : Launch} {D : va_G} {cy : Nat → ClassId} {lo : Nat} {S : q_S} {a0 : Nat} {x1 : Int32} {x2 : Int32} {x3 : Int32} {Q : Option Value → q_S → Prop} (h : wm_X12_isWithin S a0 x1 x2 x3 Q) : q_Met l D cy lo yX12_isWithin cX12_isWithin 4 (some .boolean) 0 0 0 0 [.ref a0, .int x1, .int x2, .int x3] S Q := by
  refine q_body (by decide) (by first | exact Nat.le_of_ble_eq_true rfl | simp [lg_sl, q_cat, q_catI, q_catJ, q_catR]) ?_
  intro p e s m below meth c ls X hnm Y hl
  have hx := X.1
  have hb := X.2.1
  have hl : lv_has ls 4 [(0, .ref a0), (1, .int x1), (2, .int x2), (3, .int x3)] := by first | exact hl | simpa [lv_args, q_cat, q_catI, q_catJ, q_catR] using hl
  generalize hargs : ([.ref a0, .int x1, .int x2, .int x3] : List Value).toArray = args at X ⊢
  unfold wm_X12_isWithin at h
  refine lv_iload_n hx hb dX12_isWithin_0 rfl (lv_at hl 2 rfl) ?_
  refine lv_if_lt (tgt := 20) hx hb dX12_isWithin_1 (by decide) (fun c1_ => ?_) (fun c1_ => ?_)
  · replace h := h.1 c1_
    exact cb_X12_isWithin_20 X Y (lv_sub hl [] rfl) h
  · replace h := h.2 c1_
    refine lv_iload_n hx hb dX12_isWithin_4 rfl (lv_at hl 2 rfl) ?_
    refine lv_aload_n hx hb dX12_isWithin_5 rfl (lv_at hl 0 rfl) ?_
    obtain ⟨k2_, h⟩ := h
    refine q_getP X Y kX12 25 rfl fl_X12_30 k2_ rfl dX12_isWithin_6 ?_
    refine lv_iload_n hx hb dX12_isWithin_9 rfl (lv_at hl 1 rfl) ?_
    obtain ⟨a3_, e4_, h⟩ := h
    refine q_nn [.int x1] e4_ ?_
    obtain ⟨k5_, h⟩ := h
    obtain ⟨i6_, h⟩ := h
    refine q_ild X Y k5_ i6_ dX12_isWithin_10 ?_
    refine lv_iload_n hx hb dX12_isWithin_11 rfl (lv_at hl 3 rfl) ?_
    refine lv_isub hx hb dX12_isWithin_12 ?_
    refine lv_icmp_gt (tgt := 20) hx hb dX12_isWithin_13 (by decide) (fun c7_ => ?_) (fun c7_ => ?_)
    · replace h := h.1 c7_
      exact cb_X12_isWithin_20 X Y (lv_sub hl [] rfl) h
    · replace h := h.2 c7_
      refine lv_iconst (v := 1) hx hb dX12_isWithin_16 (by decide) ?_
      refine lv_goto (tgt := 21) hx hb dX12_isWithin_17 (by decide) ?_
      exact cb_X12_isWithin_21 X Y (lv_sub hl [] rfl) h
-- X12_isIn
theorem dX12_isIn_0 : decode cX12_isIn 0 = .ok (.iconst 0, 1) := by decide +kernel
theorem dX12_isIn_1 : decode cX12_isIn 1 = .ok (.istore 4, 2) := by decide +kernel
theorem dX12_isIn_3 : decode cX12_isIn 3 = .ok (.bipush 6, 2) := by decide +kernel
theorem dX12_isIn_5 : decode cX12_isIn 5 = .ok (.iload_n 1, 1) := by decide +kernel
theorem dX12_isIn_6 : decode cX12_isIn 6 = .ok (.imul, 1) := by decide +kernel
theorem dX12_isIn_7 : decode cX12_isIn 7 = .ok (.istore 5, 2) := by decide +kernel
theorem dX12_isIn_9 : decode cX12_isIn 9 = .ok (.iload 5, 2) := by decide +kernel
theorem dX12_isIn_11 : decode cX12_isIn 11 = .ok (.bipush 6, 2) := by decide +kernel
theorem dX12_isIn_13 : decode cX12_isIn 13 = .ok (.iload_n 1, 1) := by decide +kernel
theorem dX12_isIn_14 : decode cX12_isIn 14 = .ok (.imul, 1) := by decide +kernel
theorem dX12_isIn_15 : decode cX12_isIn 15 = .ok (.aload_n 0, 1) := by decide +kernel
theorem dX12_isIn_16 : decode cX12_isIn 16 = .ok (.getfield 33, 3) := by decide +kernel
theorem dX12_isIn_19 : decode cX12_isIn 19 = .ok (.iload_n 1, 1) := by decide +kernel
theorem dX12_isIn_20 : decode cX12_isIn 20 = .ok (.iaload, 1) := by decide +kernel
theorem dX12_isIn_21 : decode cX12_isIn 21 = .ok (.iadd, 1) := by decide +kernel
theorem dX12_isIn_22 : decode cX12_isIn 22 = .ok (.if_icmp .ge 73, 3) := by decide +kernel
theorem dX12_isIn_25 : decode cX12_isIn 25 = .ok (.iload 4, 2) := by decide +kernel
theorem dX12_isIn_27 : decode cX12_isIn 27 = .ok (.ifCond .ne 55, 3) := by decide +kernel
theorem dX12_isIn_30 : decode cX12_isIn 30 = .ok (.iload_n 2, 1) := by decide +kernel
theorem dX12_isIn_31 : decode cX12_isIn 31 = .ok (.aload_n 0, 1) := by decide +kernel
theorem dX12_isIn_32 : decode cX12_isIn 32 = .ok (.getfield 36, 3) := by decide +kernel
theorem dX12_isIn_35 : decode cX12_isIn 35 = .ok (.iload 5, 2) := by decide +kernel
theorem dX12_isIn_37 : decode cX12_isIn 37 = .ok (.iaload, 1) := by decide +kernel
theorem dX12_isIn_38 : decode cX12_isIn 38 = .ok (.if_icmp .lt 48, 3) := by decide +kernel
theorem dX12_isIn_41 : decode cX12_isIn 41 = .ok (.iload_n 2, 1) := by decide +kernel
theorem dX12_isIn_42 : decode cX12_isIn 42 = .ok (.aload_n 0, 1) := by decide +kernel
theorem dX12_isIn_43 : decode cX12_isIn 43 = .ok (.getfield 36, 3) := by decide +kernel
theorem dX12_isIn_46 : decode cX12_isIn 46 = .ok (.iload 5, 2) := by decide +kernel
theorem dX12_isIn_48 : decode cX12_isIn 48 = .ok (.iaload, 1) := by decide +kernel
theorem dX12_isIn_49 : decode cX12_isIn 49 = .ok (.aload_n 0, 1) := by decide +kernel
theorem dX12_isIn_50 : decode cX12_isIn 50 = .ok (.getfield 39, 3) := by decide +kernel
theorem dX12_isIn_53 : decode cX12_isIn 53 = .ok (.iload 5, 2) := by decide +kernel
theorem dX12_isIn_55 : decode cX12_isIn 55 = .ok (.iaload, 1) := by decide +kernel
theorem dX12_isIn_56 : decode cX12_isIn 56 = .ok (.iadd, 1) := by decide +kernel
theorem dX12_isIn_57 : decode cX12_isIn 57 = .ok (.if_icmp .ge 29, 3) := by decide +kernel
theorem dX12_isIn_60 : decode cX12_isIn 60 = .ok (.aload_n 0, 1) := by decide +kernel
theorem dX12_isIn_61 : decode cX12_isIn 61 = .ok (.getfield 42, 3) := by decide +kernel
theorem dX12_isIn_64 : decode cX12_isIn 64 = .ok (.iload 5, 2) := by decide +kernel
theorem dX12_isIn_66 : decode cX12_isIn 66 = .ok (.iaload, 1) := by decide +kernel
theorem dX12_isIn_67 : decode cX12_isIn 67 = .ok (.iload_n 3, 1) := by decide +kernel
theorem dX12_isIn_68 : decode cX12_isIn 68 = .ok (.if_icmp .eq 14, 3) := by decide +kernel
theorem dX12_isIn_71 : decode cX12_isIn 71 = .ok (.aload_n 0, 1) := by decide +kernel
theorem dX12_isIn_72 : decode cX12_isIn 72 = .ok (.getfield 42, 3) := by decide +kernel
theorem dX12_isIn_75 : decode cX12_isIn 75 = .ok (.iload 5, 2) := by decide +kernel
theorem dX12_isIn_77 : decode cX12_isIn 77 = .ok (.iaload, 1) := by decide +kernel
theorem dX12_isIn_78 : decode cX12_isIn 78 = .ok (.iconst 3, 1) := by decide +kernel
theorem dX12_isIn_79 : decode cX12_isIn 79 = .ok (.if_icmp .ne 7, 3) := by decide +kernel
theorem dX12_isIn_82 : decode cX12_isIn 82 = .ok (.iconst 1, 1) := by decide +kernel
theorem dX12_isIn_83 : decode cX12_isIn 83 = .ok (.goto 4, 3) := by decide +kernel
theorem dX12_isIn_86 : decode cX12_isIn 86 = .ok (.iconst 0, 1) := by decide +kernel
theorem dX12_isIn_87 : decode cX12_isIn 87 = .ok (.istore 4, 2) := by decide +kernel
theorem dX12_isIn_89 : decode cX12_isIn 89 = .ok (.iinc 5 1, 3) := by decide +kernel
theorem dX12_isIn_92 : decode cX12_isIn 92 = .ok (.goto (-83), 3) := by decide +kernel
theorem dX12_isIn_95 : decode cX12_isIn 95 = .ok (.iload 4, 2) := by decide +kernel
theorem dX12_isIn_97 : decode cX12_isIn 97 = .ok (.ireturn, 1) := by decide +kernel
def wb_X12_isIn_87 (B9 : q_S → Nat → Int32 → Int32 → Int32 → Int32 → Int32 → Prop) (S : q_S) (a0 : Nat) (x1 : Int32) (x2 : Int32) (x3 : Int32) (x5 : Int32) (xs0 : Int32) (Q : Option Value → q_S → Prop) : Prop := B9 S a0 x1 x2 x3 xs0 (x5 + 1)
set_option maxHeartbeats 4000000 in
set_option maxRecDepth 100000 in
theorem cb_X12_isIn_87 {p : Program} {l : Launch} {e : Env} {s : State} {m : MethodId} {args : Array Value} {below : List Frame} {meth : Method} {c : Code} {D : va_G} {cy : Nat → ClassId} {lo : Nat} {B9 : q_S → Nat → Int32 → Int32 → Int32 → Int32 → Int32 → Prop} {S : q_S} {a0 : Nat} {x1 : Int32} {x2 : Int32} {x3 : Int32} {x5 : Int32} {xs0 : Int32} {Q : Option Value → q_S → Prop} {H : Heap} {locs : List Loc} {ls : Array Slot} (X : q_X p s m args meth c RX12 cX12_isIn 6 (some .boolean) D cy lo) (hB9 : ∀ (S : q_S) (a0 : Nat) (x1 : Int32) (x2 : Int32) (x3 : Int32) (x4 : Int32) (x5 : Int32) (H : Heap) (locs : List Loc) (ls : Array Slot), B9 S a0 x1 x2 x3 x4 x5 → q_Y D cy lo s S H locs → lv_has ls 6 [(0, .ref a0), (1, .int x1), (2, .int x2), (3, .int x3), (4, .int x4), (5, .int x5)] → W p l e ({ frames := 0, cells := 0, slots := 0, locals := 0 } : Room) s m args below meth c H locs 0 0 (MQ below (q_Q D cy lo Q) args s 0 0 (fun q => lo ≤ q)) (F0 m 9 ls [])) (Y : q_Y D cy lo s S H locs) (hl : lv_has ls 6 [(0, .ref a0), (1, .int x1), (2, .int x2), (3, .int x3), (5, .int x5)]) (h : wb_X12_isIn_87 B9 S a0 x1 x2 x3 x5 xs0 Q) : W p l e ({ frames := 0, cells := 0, slots := 0, locals := 0 } : Room) s m args below meth c H locs 0 0 (MQ below (q_Q D cy lo Q) args s 0 0 (fun q => lo ≤ q)) (F0 m 87 ls [.int xs0]) := by
  have hx := X.1
  have hb := X.2.1
  unfold wb_X12_isIn_87 at h
  refine lv_istore (i := 4) (lv' := [(4, .int xs0), (0, .ref a0), (1, .int x1), (2, .int x2), (3, .int x3), (5, .int x5)]) hx hb dX12_isIn_87 hl (by decide) (by first | rfl | simp [q_cat, q_catI, q_catJ, q_catR]) (fun ls hl => ?_)
  refine lv_iinc (v := (x5 + 1)) (lv' := [(5, .int (x5 + 1)), (4, .int xs0), (0, .ref a0), (1, .int x1), (2, .int x2), (3, .int x3)]) hx hb dX12_isIn_89 hl (k := 5) rfl (by first | rfl | decide) (by decide) (by first | rfl | simp [q_cat, q_catI, q_catJ, q_catR]) (fun ls hl => ?_)
  refine lv_goto (tgt := 9) hx hb dX12_isIn_92 (by decide) ?_
  exact hB9 _ _ _ _ _ _ _ _ _ _ h Y (lv_sub hl [2, 3, 4, 5, 1, 0] rfl)
def wb_X12_isIn_82 (B9 : q_S → Nat → Int32 → Int32 → Int32 → Int32 → Int32 → Prop) (S : q_S) (a0 : Nat) (x1 : Int32) (x2 : Int32) (x3 : Int32) (x5 : Int32) (Q : Option Value → q_S → Prop) : Prop := wb_X12_isIn_87 B9 S a0 x1 x2 x3 x5 (1 : Int32) Q
set_option maxHeartbeats 4000000 in
set_option maxRecDepth 100000 in
theorem cb_X12_isIn_82 {p : Program} {l : Launch} {e : Env} {s : State} {m : MethodId} {args : Array Value} {below : List Frame} {meth : Method} {c : Code} {D : va_G} {cy : Nat → ClassId} {lo : Nat} {B9 : q_S → Nat → Int32 → Int32 → Int32 → Int32 → Int32 → Prop} {S : q_S} {a0 : Nat} {x1 : Int32} {x2 : Int32} {x3 : Int32} {x5 : Int32} {Q : Option Value → q_S → Prop} {H : Heap} {locs : List Loc} {ls : Array Slot} (X : q_X p s m args meth c RX12 cX12_isIn 6 (some .boolean) D cy lo) (hB9 : ∀ (S : q_S) (a0 : Nat) (x1 : Int32) (x2 : Int32) (x3 : Int32) (x4 : Int32) (x5 : Int32) (H : Heap) (locs : List Loc) (ls : Array Slot), B9 S a0 x1 x2 x3 x4 x5 → q_Y D cy lo s S H locs → lv_has ls 6 [(0, .ref a0), (1, .int x1), (2, .int x2), (3, .int x3), (4, .int x4), (5, .int x5)] → W p l e ({ frames := 0, cells := 0, slots := 0, locals := 0 } : Room) s m args below meth c H locs 0 0 (MQ below (q_Q D cy lo Q) args s 0 0 (fun q => lo ≤ q)) (F0 m 9 ls [])) (Y : q_Y D cy lo s S H locs) (hl : lv_has ls 6 [(0, .ref a0), (1, .int x1), (2, .int x2), (3, .int x3), (5, .int x5)]) (h : wb_X12_isIn_82 B9 S a0 x1 x2 x3 x5 Q) : W p l e ({ frames := 0, cells := 0, slots := 0, locals := 0 } : Room) s m args below meth c H locs 0 0 (MQ below (q_Q D cy lo Q) args s 0 0 (fun q => lo ≤ q)) (F0 m 82 ls []) := by
  have hx := X.1
  have hb := X.2.1
  unfold wb_X12_isIn_82 at h
  refine lv_iconst (v := 1) hx hb dX12_isIn_82 (by decide) ?_
  refine lv_goto (tgt := 87) hx hb dX12_isIn_83 (by decide) ?_
  exact cb_X12_isIn_87 X hB9 Y (lv_sub hl [0, 1, 2, 3, 4] rfl) h
def wb_X12_isIn_86 (B9 : q_S → Nat → Int32 → Int32 → Int32 → Int32 → Int32 → Prop) (S : q_S) (a0 : Nat) (x1 : Int32) (x2 : Int32) (x3 : Int32) (x5 : Int32) (Q : Option Value → q_S → Prop) : Prop := wb_X12_isIn_87 B9 S a0 x1 x2 x3 x5 (0 : Int32) Q
set_option maxHeartbeats 4000000 in
set_option maxRecDepth 100000 in
theorem cb_X12_isIn_86 {p : Program} {l : Launch} {e : Env} {s : State} {m : MethodId} {args : Array Value} {below : List Frame} {meth : Method} {c : Code} {D : va_G} {cy : Nat → ClassId} {lo : Nat} {B9 : q_S → Nat → Int32 → Int32 → Int32 → Int32 → Int32 → Prop} {S : q_S} {a0 : Nat} {x1 : Int32} {x2 : Int32} {x3 : Int32} {x5 : Int32} {Q : Option Value → q_S → Prop} {H : Heap} {locs : List Loc} {ls : Array Slot} (X : q_X p s m args meth c RX12 cX12_isIn 6 (some .boolean) D cy lo) (hB9 : ∀ (S : q_S) (a0 : Nat) (x1 : Int32) (x2 : Int32) (x3 : Int32) (x4 : Int32) (x5 : Int32) (H : Heap) (locs : List Loc) (ls : Array Slot), B9 S a0 x1 x2 x3 x4 x5 → q_Y D cy lo s S H locs → lv_has ls 6 [(0, .ref a0), (1, .int x1), (2, .int x2), (3, .int x3), (4, .int x4), (5, .int x5)] → W p l e ({ frames := 0, cells := 0, slots := 0, locals := 0 } : Room) s m args below meth c H locs 0 0 (MQ below (q_Q D cy lo Q) args s 0 0 (fun q => lo ≤ q)) (F0 m 9 ls [])) (Y : q_Y D cy lo s S H locs) (hl : lv_has ls 6 [(0, .ref a0), (1, .int x1), (2, .int x2), (3, .int x3), (5, .int x5)]) (h : wb_X12_isIn_86 B9 S a0 x1 x2 x3 x5 Q) : W p l e ({ frames := 0, cells := 0, slots := 0, locals := 0 } : Room) s m args below meth c H locs 0 0 (MQ below (q_Q D cy lo Q) args s 0 0 (fun q => lo ≤ q)) (F0 m 86 ls []) := by
  have hx := X.1
  have hb := X.2.1
  unfold wb_X12_isIn_86 at h
  refine lv_iconst (v := 0) hx hb dX12_isIn_86 (by decide) ?_
  exact cb_X12_isIn_87 X hB9 Y (lv_sub hl [0, 1, 2, 3, 4] rfl) h
def wb_X12_isIn_9 (B9 : q_S → Nat → Int32 → Int32 → Int32 → Int32 → Int32 → Prop) (S : q_S) (a0 : Nat) (x1 : Int32) (x2 : Int32) (x3 : Int32) (x4 : Int32) (x5 : Int32) (Q : Option Value → q_S → Prop) : Prop := q_K S a0 = 13 ∧ (∃ a2_ : Nat, (q_P S 2426 a0) = some a2_ ∧ (q_K S a2_ = 21 ∧ (vp_in x1 (q_N S a2_) ∧ ((((((6 : Int32) * x1) + (q_A S a2_ x1.toNatClampNeg)) ≤ x5 → ((narrow .boolean (.int x4) = .int x4 ∧ Q (some (.int x4)) S))) ∧ (¬ (((6 : Int32) * x1) + (q_A S a2_ x1.toNatClampNeg)) ≤ x5 → (((¬ x4 = 0 → (wb_X12_isIn_82 B9 S a0 x1 x2 x3 x5 Q)) ∧ (x4 = 0 → (∃ a8_ : Nat, (q_P S 2427 a0) = some a8_ ∧ (q_K S a8_ = 21 ∧ (vp_in x5 (q_N S a8_) ∧ (((x2 < (q_A S a8_ x5.toNatClampNeg) → (wb_X12_isIn_86 B9 S a0 x1 x2 x3 x5 Q)) ∧ (¬ x2 < (q_A S a8_ x5.toNatClampNeg) → (vp_in x5 (q_N S a8_) ∧ (∃ a14_ : Nat, (q_P S 2428 a0) = some a14_ ∧ (q_K S a14_ = 21 ∧ (vp_in x5 (q_N S a14_) ∧ (((((q_A S a8_ x5.toNatClampNeg) + (q_A S a14_ x5.toNatClampNeg)) ≤ x2 → (wb_X12_isIn_86 B9 S a0 x1 x2 x3 x5 Q)) ∧ (¬ ((q_A S a8_ x5.toNatClampNeg) + (q_A S a14_ x5.toNatClampNeg)) ≤ x2 → (∃ a19_ : Nat, (q_P S 2429 a0) = some a19_ ∧ (q_K S a19_ = 21 ∧ (vp_in x5 (q_N S a19_) ∧ ((((q_A S a19_ x5.toNatClampNeg) = x3 → (wb_X12_isIn_82 B9 S a0 x1 x2 x3 x5 Q)) ∧ (¬ (q_A S a19_ x5.toNatClampNeg) = x3 → (vp_in x5 (q_N S a19_) ∧ (((¬ (q_A S a19_ x5.toNatClampNeg) = (3 : Int32) → (wb_X12_isIn_86 B9 S a0 x1 x2 x3 x5 Q)) ∧ ((q_A S a19_ x5.toNatClampNeg) = (3 : Int32) → (wb_X12_isIn_82 B9 S a0 x1 x2 x3 x5 Q)))))))))))))))))))))))))))))))))
set_option maxHeartbeats 4000000 in
set_option maxRecDepth 100000 in
theorem cb_X12_isIn_9 {p : Program} {l : Launch} {e : Env} {s : State} {m : MethodId} {args : Array Value} {below : List Frame} {meth : Method} {c : Code} {D : va_G} {cy : Nat → ClassId} {lo : Nat} {B9 : q_S → Nat → Int32 → Int32 → Int32 → Int32 → Int32 → Prop} {S : q_S} {a0 : Nat} {x1 : Int32} {x2 : Int32} {x3 : Int32} {x4 : Int32} {x5 : Int32} {Q : Option Value → q_S → Prop} {H : Heap} {locs : List Loc} {ls : Array Slot} (X : q_X p s m args meth c RX12 cX12_isIn 6 (some .boolean) D cy lo) (hB9 : ∀ (S : q_S) (a0 : Nat) (x1 : Int32) (x2 : Int32) (x3 : Int32) (x4 : Int32) (x5 : Int32) (H : Heap) (locs : List Loc) (ls : Array Slot), B9 S a0 x1 x2 x3 x4 x5 → q_Y D cy lo s S H locs → lv_has ls 6 [(0, .ref a0), (1, .int x1), (2, .int x2), (3, .int x3), (4, .int x4), (5, .int x5)] → W p l e ({ frames := 0, cells := 0, slots := 0, locals := 0 } : Room) s m args below meth c H locs 0 0 (MQ below (q_Q D cy lo Q) args s 0 0 (fun q => lo ≤ q)) (F0 m 9 ls [])) (Y : q_Y D cy lo s S H locs) (hl : lv_has ls 6 [(0, .ref a0), (1, .int x1), (2, .int x2), (3, .int x3), (4, .int x4), (5, .int x5)]) (h : wb_X12_isIn_9 B9 S a0 x1 x2 x3 x4 x5 Q) : W p l e ({ frames := 0, cells := 0, slots := 0, locals := 0 } : Room) s m args below meth c H locs 0 0 (MQ below (q_Q D cy lo Q) args s 0 0 (fun q => lo ≤ q)) (F0 m 9 ls []) := by
  have hx := X.1
  have hb := X.2.1
  unfold wb_X12_isIn_9 at h
  refine lv_iload hx hb dX12_isIn_9 (lv_at hl 5 rfl) ?_
  refine lv_bipush (v := 6) hx hb dX12_isIn_11 (by decide) ?_
  refine lv_iload_n hx hb dX12_isIn_13 rfl (lv_at hl 1 rfl) ?_
  refine lv_imul hx hb dX12_isIn_14 ?_
  refine lv_aload_n hx hb dX12_isIn_15 rfl (lv_at hl 0 rfl) ?_
  obtain ⟨k1_, h⟩ := h
  refine q_getP X Y kX12 26 rfl fl_X12_33 k1_ rfl dX12_isIn_16 ?_
  refine lv_iload_n hx hb dX12_isIn_19 rfl (lv_at hl 1 rfl) ?_
  obtain ⟨a2_, e3_, h⟩ := h
  refine q_nn [.int x1] e3_ ?_
  obtain ⟨k4_, h⟩ := h
  obtain ⟨i5_, h⟩ := h
  refine q_ild X Y k4_ i5_ dX12_isIn_20 ?_
  refine lv_iadd hx hb dX12_isIn_21 ?_
  refine lv_icmp_ge (tgt := 95) hx hb dX12_isIn_22 (by decide) (fun c6_ => ?_) (fun c6_ => ?_)
  · replace h := h.1 c6_
    refine lv_iload hx hb dX12_isIn_95 (lv_at hl 4 rfl) ?_
    exact q_iret X Y h.1 (Nat.le_refl _) (Nat.le_refl _) h.2 dX12_isIn_97
  · replace h := h.2 c6_
    refine lv_iload hx hb dX12_isIn_25 (lv_at hl 4 rfl) ?_
    refine lv_if_ne (tgt := 82) hx hb dX12_isIn_27 (by decide) (fun c7_ => ?_) (fun c7_ => ?_)
    · replace h := h.1 c7_
      exact cb_X12_isIn_82 X hB9 Y (lv_sub hl [0, 1, 2, 3, 5] rfl) h
    · replace h := h.2 c7_
      refine lv_iload_n hx hb dX12_isIn_30 rfl (lv_at hl 2 rfl) ?_
      refine lv_aload_n hx hb dX12_isIn_31 rfl (lv_at hl 0 rfl) ?_
      refine q_getP X Y kX12 27 rfl fl_X12_36 k1_ rfl dX12_isIn_32 ?_
      refine lv_iload hx hb dX12_isIn_35 (lv_at hl 5 rfl) ?_
      obtain ⟨a8_, e9_, h⟩ := h
      refine q_nn [.int x5] e9_ ?_
      obtain ⟨k10_, h⟩ := h
      obtain ⟨i11_, h⟩ := h
      refine q_ild X Y k10_ i11_ dX12_isIn_37 ?_
      refine lv_icmp_lt (tgt := 86) hx hb dX12_isIn_38 (by decide) (fun c12_ => ?_) (fun c12_ => ?_)
      · replace h := h.1 c12_
        exact cb_X12_isIn_86 X hB9 Y (lv_sub hl [0, 1, 2, 3, 5] rfl) h
      · replace h := h.2 c12_
        refine lv_iload_n hx hb dX12_isIn_41 rfl (lv_at hl 2 rfl) ?_
        refine lv_aload_n hx hb dX12_isIn_42 rfl (lv_at hl 0 rfl) ?_
        refine q_getR X Y kX12 27 rfl fl_X12_36 k1_ e9_ dX12_isIn_43 ?_
        refine lv_iload hx hb dX12_isIn_46 (lv_at hl 5 rfl) ?_
        obtain ⟨i13_, h⟩ := h
        refine q_ild X Y k10_ i13_ dX12_isIn_48 ?_
        refine lv_aload_n hx hb dX12_isIn_49 rfl (lv_at hl 0 rfl) ?_
        refine q_getP X Y kX12 28 rfl fl_X12_39 k1_ rfl dX12_isIn_50 ?_
        refine lv_iload hx hb dX12_isIn_53 (lv_at hl 5 rfl) ?_
        obtain ⟨a14_, e15_, h⟩ := h
        refine q_nn [.int x5] e15_ ?_
        obtain ⟨k16_, h⟩ := h
        obtain ⟨i17_, h⟩ := h
        refine q_ild X Y k16_ i17_ dX12_isIn_55 ?_
        refine lv_iadd hx hb dX12_isIn_56 ?_
        refine lv_icmp_ge (tgt := 86) hx hb dX12_isIn_57 (by decide) (fun c18_ => ?_) (fun c18_ => ?_)
        · replace h := h.1 c18_
          exact cb_X12_isIn_86 X hB9 Y (lv_sub hl [0, 1, 2, 3, 5] rfl) h
        · replace h := h.2 c18_
          refine lv_aload_n hx hb dX12_isIn_60 rfl (lv_at hl 0 rfl) ?_
          refine q_getP X Y kX12 29 rfl fl_X12_42 k1_ rfl dX12_isIn_61 ?_
          refine lv_iload hx hb dX12_isIn_64 (lv_at hl 5 rfl) ?_
          obtain ⟨a19_, e20_, h⟩ := h
          refine q_nn [.int x5] e20_ ?_
          obtain ⟨k21_, h⟩ := h
          obtain ⟨i22_, h⟩ := h
          refine q_ild X Y k21_ i22_ dX12_isIn_66 ?_
          refine lv_iload_n hx hb dX12_isIn_67 rfl (lv_at hl 3 rfl) ?_
          refine lv_icmp_eq (tgt := 82) hx hb dX12_isIn_68 (by decide) (fun c23_ => ?_) (fun c23_ => ?_)
          · replace h := h.1 c23_
            exact cb_X12_isIn_82 X hB9 Y (lv_sub hl [0, 1, 2, 3, 5] rfl) h
          · replace h := h.2 c23_
            refine lv_aload_n hx hb dX12_isIn_71 rfl (lv_at hl 0 rfl) ?_
            refine q_getR X Y kX12 29 rfl fl_X12_42 k1_ e20_ dX12_isIn_72 ?_
            refine lv_iload hx hb dX12_isIn_75 (lv_at hl 5 rfl) ?_
            obtain ⟨i24_, h⟩ := h
            refine q_ild X Y k21_ i24_ dX12_isIn_77 ?_
            refine lv_iconst (v := 3) hx hb dX12_isIn_78 (by decide) ?_
            refine lv_icmp_ne (tgt := 86) hx hb dX12_isIn_79 (by decide) (fun c25_ => ?_) (fun c25_ => ?_)
            · replace h := h.1 c25_
              exact cb_X12_isIn_86 X hB9 Y (lv_sub hl [0, 1, 2, 3, 5] rfl) h
            · replace h := h.2 c25_
              exact cb_X12_isIn_82 X hB9 Y (lv_sub hl [0, 1, 2, 3, 5] rfl) h
def wl_X12_isIn_9  : Nat → q_S → Nat → Int32 → Int32 → Int32 → Int32 → Int32 → (Option Value → q_S → Prop) → Prop
  | 0, _, _, _, _, _, _, _, _ => False
  | n + 1, S, a0, x1, x2, x3, x4, x5, Q => wb_X12_isIn_9 (fun S a0 x1 x2 x3 x4 x5 => wl_X12_isIn_9 n S a0 x1 x2 x3 x4 x5 Q) S a0 x1 x2 x3 x4 x5 Q
set_option maxHeartbeats 4000000 in
set_option maxRecDepth 100000 in
theorem cl_X12_isIn_9 {p : Program} {l : Launch} {e : Env} {s : State} {m : MethodId} {args : Array Value} {below : List Frame} {meth : Method} {c : Code} {D : va_G} {cy : Nat → ClassId} {lo : Nat}  {Q : Option Value → q_S → Prop} (X : q_X p s m args meth c RX12 cX12_isIn 6 (some .boolean) D cy lo)  : ∀ (n : Nat) (S : q_S) (a0 : Nat) (x1 : Int32) (x2 : Int32) (x3 : Int32) (x4 : Int32) (x5 : Int32) (H : Heap) (locs : List Loc) (ls : Array Slot), wl_X12_isIn_9 n S a0 x1 x2 x3 x4 x5 Q → q_Y D cy lo s S H locs → lv_has ls 6 [(0, .ref a0), (1, .int x1), (2, .int x2), (3, .int x3), (4, .int x4), (5, .int x5)] → W p l e ({ frames := 0, cells := 0, slots := 0, locals := 0 } : Room) s m args below meth c H locs 0 0 (MQ below (q_Q D cy lo Q) args s 0 0 (fun q => lo ≤ q)) (F0 m 9 ls []) := by
  intro n
  induction n with
  | zero => intro S a0 x1 x2 x3 x4 x5 H locs ls h; exact absurd h id
  | succ n ih => intro S a0 x1 x2 x3 x4 x5 H locs ls h Y hl; exact cb_X12_isIn_9 X ih Y hl h
def wm_X12_isIn (S : q_S) (a0 : Nat) (x1 : Int32) (x2 : Int32) (x3 : Int32) (Q : Option Value → q_S → Prop) : Prop := ∃ n26_ : Nat, wl_X12_isIn_9 n26_ S a0 x1 x2 x3 (0 : Int32) ((6 : Int32) * x1) Q
set_option maxHeartbeats 4000000 in
set_option maxRecDepth 100000 in
theorem cm_X12_isIn {l : Launch} {D : va_G} {cy : Nat → ClassId} {lo : Nat} {S : q_S} {a0 : Nat} {x1 : Int32} {x2 : Int32} {x3 : Int32} {Q : Option Value → q_S → Prop} (h : wm_X12_isIn S a0 x1 x2 x3 Q) : q_Met l D cy lo yX12_isIn cX12_isIn 6 (some .boolean) 0 0 0 0 [.ref a0, .int x1, .int x2, .int x3] S Q := by
  refine q_body (by decide) (by first | exact Nat.le_of_ble_eq_true rfl | simp [lg_sl, q_cat, q_catI, q_catJ, q_catR]) ?_
  intro p e s m below meth c ls X hnm Y hl
  have hx := X.1
  have hb := X.2.1
  have hl : lv_has ls 6 [(0, .ref a0), (1, .int x1), (2, .int x2), (3, .int x3)] := by first | exact hl | simpa [lv_args, q_cat, q_catI, q_catJ, q_catR] using hl
  generalize hargs : ([.ref a0, .int x1, .int x2, .int x3] : List Value).toArray = args at X ⊢
  unfold wm_X12_isIn at h
  refine lv_iconst (v := 0) hx hb dX12_isIn_0 (by decide) ?_
  refine lv_istore (i := 4) (lv' := [(4, .int (0 : Int32)), (0, .ref a0), (1, .int x1), (2, .int x2), (3, .int x3)]) hx hb dX12_isIn_1 hl (by decide) (by first | rfl | simp [q_cat, q_catI, q_catJ, q_catR]) (fun ls hl => ?_)
  refine lv_bipush (v := 6) hx hb dX12_isIn_3 (by decide) ?_
  refine lv_iload_n hx hb dX12_isIn_5 rfl (lv_at hl 2 rfl) ?_
  refine lv_imul hx hb dX12_isIn_6 ?_
  refine lv_istore (i := 5) (lv' := [(5, .int ((6 : Int32) * x1)), (4, .int (0 : Int32)), (0, .ref a0), (1, .int x1), (2, .int x2), (3, .int x3)]) hx hb dX12_isIn_7 hl (by decide) (by first | rfl | simp [q_cat, q_catI, q_catJ, q_catR]) (fun ls hl => ?_)
  obtain ⟨n26_, h⟩ := h
  exact cl_X12_isIn_9 X n26_ _ _ _ _ _ _ _ _ _ _ h Y (lv_sub hl [2, 3, 4, 5, 1, 0] rfl)
-- X12_read
theorem dX12_read_0 : decode cX12_read 0 = .ok (.iconst 0, 1) := by decide +kernel
theorem dX12_read_1 : decode cX12_read 1 = .ok (.istore 4, 2) := by decide +kernel
theorem dX12_read_3 : decode cX12_read 3 = .ok (.iload_n 3, 1) := by decide +kernel
theorem dX12_read_4 : decode cX12_read 4 = .ok (.iconst 1, 1) := by decide +kernel
theorem dX12_read_5 : decode cX12_read 5 = .ok (.isub, 1) := by decide +kernel
theorem dX12_read_6 : decode cX12_read 6 = .ok (.istore 5, 2) := by decide +kernel
theorem dX12_read_8 : decode cX12_read 8 = .ok (.iload 5, 2) := by decide +kernel
theorem dX12_read_10 : decode cX12_read 10 = .ok (.ifCond .lt 36, 3) := by decide +kernel
theorem dX12_read_13 : decode cX12_read 13 = .ok (.iload 4, 2) := by decide +kernel
theorem dX12_read_15 : decode cX12_read 15 = .ok (.bipush 8, 2) := by decide +kernel
theorem dX12_read_17 : decode cX12_read 17 = .ok (.ishl, 1) := by decide +kernel
theorem dX12_read_18 : decode cX12_read 18 = .ok (.aload_n 0, 1) := by decide +kernel
theorem dX12_read_19 : decode cX12_read 19 = .ok (.getfield 146, 3) := by decide +kernel
theorem dX12_read_22 : decode cX12_read 22 = .ok (.sipush 8192, 3) := by decide +kernel
theorem dX12_read_25 : decode cX12_read 25 = .ok (.iload_n 1, 1) := by decide +kernel
theorem dX12_read_26 : decode cX12_read 26 = .ok (.imul, 1) := by decide +kernel
theorem dX12_read_27 : decode cX12_read 27 = .ok (.iload_n 2, 1) := by decide +kernel
theorem dX12_read_28 : decode cX12_read 28 = .ok (.iadd, 1) := by decide +kernel
theorem dX12_read_29 : decode cX12_read 29 = .ok (.iload 5, 2) := by decide +kernel
theorem dX12_read_31 : decode cX12_read 31 = .ok (.iadd, 1) := by decide +kernel
theorem dX12_read_32 : decode cX12_read 32 = .ok (.baload, 1) := by decide +kernel
theorem dX12_read_33 : decode cX12_read 33 = .ok (.sipush 255, 3) := by decide +kernel
theorem dX12_read_36 : decode cX12_read 36 = .ok (.iand, 1) := by decide +kernel
theorem dX12_read_37 : decode cX12_read 37 = .ok (.ior, 1) := by decide +kernel
theorem dX12_read_38 : decode cX12_read 38 = .ok (.istore 4, 2) := by decide +kernel
theorem dX12_read_40 : decode cX12_read 40 = .ok (.iinc 5 (-1), 3) := by decide +kernel
theorem dX12_read_43 : decode cX12_read 43 = .ok (.goto (-35), 3) := by decide +kernel
theorem dX12_read_46 : decode cX12_read 46 = .ok (.iload 4, 2) := by decide +kernel
theorem dX12_read_48 : decode cX12_read 48 = .ok (.ireturn, 1) := by decide +kernel
def wb_X12_read_8 (B8 : q_S → Nat → Int32 → Int32 → Int32 → Int32 → Prop) (S : q_S) (a0 : Nat) (x1 : Int32) (x2 : Int32) (x4 : Int32) (x5 : Int32) (Q : Option Value → q_S → Prop) : Prop := ((x5 < 0 → (Q (some (.int x4)) S)) ∧ (¬ x5 < 0 → (q_K S a0 = 13 ∧ (∃ a3_ : Nat, (q_P S 2466 a0) = some a3_ ∧ (q_K S a3_ = 20 ∧ (vp_in ((((8192 : Int32) * x1) + x2) + x5) (q_N S a3_) ∧ (B8 S a0 x1 x2 ((x4 <<< ((8 : Int32) &&& 31)) ||| ((q_A S a3_ ((((8192 : Int32) * x1) + x2) + x5).toNatClampNeg) &&& (255 : Int32))) (x5 + (-1)))))))))
set_option maxHeartbeats 4000000 in
set_option maxRecDepth 100000 in
theorem cb_X12_read_8 {p : Program} {l : Launch} {e : Env} {s : State} {m : MethodId} {args : Array Value} {below : List Frame} {meth : Method} {c : Code} {D : va_G} {cy : Nat → ClassId} {lo : Nat} {B8 : q_S → Nat → Int32 → Int32 → Int32 → Int32 → Prop} {S : q_S} {a0 : Nat} {x1 : Int32} {x2 : Int32} {x4 : Int32} {x5 : Int32} {Q : Option Value → q_S → Prop} {H : Heap} {locs : List Loc} {ls : Array Slot} (X : q_X p s m args meth c RX12 cX12_read 6 (some .int) D cy lo) (hB8 : ∀ (S : q_S) (a0 : Nat) (x1 : Int32) (x2 : Int32) (x4 : Int32) (x5 : Int32) (H : Heap) (locs : List Loc) (ls : Array Slot), B8 S a0 x1 x2 x4 x5 → q_Y D cy lo s S H locs → lv_has ls 6 [(0, .ref a0), (1, .int x1), (2, .int x2), (4, .int x4), (5, .int x5)] → W p l e ({ frames := 0, cells := 0, slots := 0, locals := 0 } : Room) s m args below meth c H locs 0 0 (MQ below (q_Q D cy lo Q) args s 0 0 (fun q => lo ≤ q)) (F0 m 8 ls [])) (Y : q_Y D cy lo s S H locs) (hl : lv_has ls 6 [(0, .ref a0), (1, .int x1), (2, .int x2), (4, .int x4), (5, .int x5)]) (h : wb_X12_read_8 B8 S a0 x1 x2 x4 x5 Q) : W p l e ({ frames := 0, cells := 0, slots := 0, locals := 0 } : Room) s m args below meth c H locs 0 0 (MQ below (q_Q D cy lo Q) args s 0 0 (fun q => lo ≤ q)) (F0 m 8 ls []) := by
  have hx := X.1
  have hb := X.2.1
  unfold wb_X12_read_8 at h
  refine lv_iload hx hb dX12_read_8 (lv_at hl 4 rfl) ?_
  refine lv_if_lt (tgt := 46) hx hb dX12_read_10 (by decide) (fun c1_ => ?_) (fun c1_ => ?_)
  · replace h := h.1 c1_
    refine lv_iload hx hb dX12_read_46 (lv_at hl 3 rfl) ?_
    exact q_iret X Y rfl (Nat.le_refl _) (Nat.le_refl _) h dX12_read_48
  · replace h := h.2 c1_
    refine lv_iload hx hb dX12_read_13 (lv_at hl 3 rfl) ?_
    refine lv_bipush (v := 8) hx hb dX12_read_15 (by decide) ?_
    refine lv_ishl hx hb dX12_read_17 ?_
    refine lv_aload_n hx hb dX12_read_18 rfl (lv_at hl 0 rfl) ?_
    obtain ⟨k2_, h⟩ := h
    refine q_getP X Y kX12 66 rfl fl_X12_146 k2_ rfl dX12_read_19 ?_
    refine lv_sipush (v := 8192) hx hb dX12_read_22 (by decide) ?_
    refine lv_iload_n hx hb dX12_read_25 rfl (lv_at hl 1 rfl) ?_
    refine lv_imul hx hb dX12_read_26 ?_
    refine lv_iload_n hx hb dX12_read_27 rfl (lv_at hl 2 rfl) ?_
    refine lv_iadd hx hb dX12_read_28 ?_
    refine lv_iload hx hb dX12_read_29 (lv_at hl 4 rfl) ?_
    refine lv_iadd hx hb dX12_read_31 ?_
    obtain ⟨a3_, e4_, h⟩ := h
    refine q_nn [.int ((((8192 : Int32) * x1) + x2) + x5)] e4_ ?_
    obtain ⟨k5_, h⟩ := h
    obtain ⟨i6_, h⟩ := h
    refine q_bld X Y k5_ i6_ dX12_read_32 ?_
    refine lv_sipush (v := 255) hx hb dX12_read_33 (by decide) ?_
    refine lv_iand hx hb dX12_read_36 ?_
    refine lv_ior hx hb dX12_read_37 ?_
    refine lv_istore (i := 4) (lv' := [(4, .int ((x4 <<< ((8 : Int32) &&& 31)) ||| ((q_A S a3_ ((((8192 : Int32) * x1) + x2) + x5).toNatClampNeg) &&& (255 : Int32)))), (0, .ref a0), (1, .int x1), (2, .int x2), (5, .int x5)]) hx hb dX12_read_38 hl (by decide) (by first | rfl | simp [q_cat, q_catI, q_catJ, q_catR]) (fun ls hl => ?_)
    refine lv_iinc (v := (x5 + (-1))) (lv' := [(5, .int (x5 + (-1))), (4, .int ((x4 <<< ((8 : Int32) &&& 31)) ||| ((q_A S a3_ ((((8192 : Int32) * x1) + x2) + x5).toNatClampNeg) &&& (255 : Int32)))), (0, .ref a0), (1, .int x1), (2, .int x2)]) hx hb dX12_read_40 hl (k := 4) rfl (by first | rfl | decide) (by decide) (by first | rfl | simp [q_cat, q_catI, q_catJ, q_catR]) (fun ls hl => ?_)
    refine lv_goto (tgt := 8) hx hb dX12_read_43 (by decide) ?_
    exact hB8 _ _ _ _ _ _ _ _ _ h Y (lv_sub hl [2, 3, 4, 1, 0] rfl)
def wl_X12_read_8  : Nat → q_S → Nat → Int32 → Int32 → Int32 → Int32 → (Option Value → q_S → Prop) → Prop
  | 0, _, _, _, _, _, _, _ => False
  | n + 1, S, a0, x1, x2, x4, x5, Q => wb_X12_read_8 (fun S a0 x1 x2 x4 x5 => wl_X12_read_8 n S a0 x1 x2 x4 x5 Q) S a0 x1 x2 x4 x5 Q
set_option maxHeartbeats 4000000 in
set_option maxRecDepth 100000 in
theorem cl_X12_read_8 {p : Program} {l : Launch} {e : Env} {s : State} {m : MethodId} {args : Array Value} {below : List Frame} {meth : Method} {c : Code} {D : va_G} {cy : Nat → ClassId} {lo : Nat}  {Q : Option Value → q_S → Prop} (X : q_X p s m args meth c RX12 cX12_read 6 (some .int) D cy lo)  : ∀ (n : Nat) (S : q_S) (a0 : Nat) (x1 : Int32) (x2 : Int32) (x4 : Int32) (x5 : Int32) (H : Heap) (locs : List Loc) (ls : Array Slot), wl_X12_read_8 n S a0 x1 x2 x4 x5 Q → q_Y D cy lo s S H locs → lv_has ls 6 [(0, .ref a0), (1, .int x1), (2, .int x2), (4, .int x4), (5, .int x5)] → W p l e ({ frames := 0, cells := 0, slots := 0, locals := 0 } : Room) s m args below meth c H locs 0 0 (MQ below (q_Q D cy lo Q) args s 0 0 (fun q => lo ≤ q)) (F0 m 8 ls []) := by
  intro n
  induction n with
  | zero => intro S a0 x1 x2 x4 x5 H locs ls h; exact absurd h id
  | succ n ih => intro S a0 x1 x2 x4 x5 H locs ls h Y hl; exact cb_X12_read_8 X ih Y hl h
def wm_X12_read (S : q_S) (a0 : Nat) (x1 : Int32) (x2 : Int32) (x3 : Int32) (Q : Option Value → q_S → Prop) : Prop := ∃ n7_ : Nat, wl_X12_read_8 n7_ S a0 x1 x2 (0 : Int32) (x3 - (1 : Int32)) Q
set_option maxHeartbeats 4000000 in
set_option maxRecDepth 100000 in
theorem cm_X12_read {l : Launch} {D : va_G} {cy : Nat → ClassId} {lo : Nat} {S : q_S} {a0 : Nat} {x1 : Int32} {x2 : Int32} {x3 : Int32} {Q : Option Value → q_S → Prop} (h : wm_X12_read S a0 x1 x2 x3 Q) : q_Met l D cy lo yX12_read cX12_read 6 (some .int) 0 0 0 0 [.ref a0, .int x1, .int x2, .int x3] S Q := by
  refine q_body (by decide) (by first | exact Nat.le_of_ble_eq_true rfl | simp [lg_sl, q_cat, q_catI, q_catJ, q_catR]) ?_
  intro p e s m below meth c ls X hnm Y hl
  have hx := X.1
  have hb := X.2.1
  have hl : lv_has ls 6 [(0, .ref a0), (1, .int x1), (2, .int x2), (3, .int x3)] := by first | exact hl | simpa [lv_args, q_cat, q_catI, q_catJ, q_catR] using hl
  generalize hargs : ([.ref a0, .int x1, .int x2, .int x3] : List Value).toArray = args at X ⊢
  unfold wm_X12_read at h
  refine lv_iconst (v := 0) hx hb dX12_read_0 (by decide) ?_
  refine lv_istore (i := 4) (lv' := [(4, .int (0 : Int32)), (0, .ref a0), (1, .int x1), (2, .int x2), (3, .int x3)]) hx hb dX12_read_1 hl (by decide) (by first | rfl | simp [q_cat, q_catI, q_catJ, q_catR]) (fun ls hl => ?_)
  refine lv_iload_n hx hb dX12_read_3 rfl (lv_at hl 4 rfl) ?_
  refine lv_iconst (v := 1) hx hb dX12_read_4 (by decide) ?_
  refine lv_isub hx hb dX12_read_5 ?_
  refine lv_istore (i := 5) (lv' := [(5, .int (x3 - (1 : Int32))), (4, .int (0 : Int32)), (0, .ref a0), (1, .int x1), (2, .int x2), (3, .int x3)]) hx hb dX12_read_6 hl (by decide) (by first | rfl | simp [q_cat, q_catI, q_catJ, q_catR]) (fun ls hl => ?_)
  obtain ⟨n7_, h⟩ := h
  exact cl_X12_read_8 X n7_ _ _ _ _ _ _ _ _ _ h Y (lv_sub hl [2, 3, 4, 1, 0] rfl)
-- X12_set
theorem dX12_set_0 : decode cX12_set 0 = .ok (.iload_n 2, 1) := by decide +kernel
theorem dX12_set_1 : decode cX12_set 1 = .ok (.ifCond .le 15, 3) := by decide +kernel
theorem dX12_set_4 : decode cX12_set 4 = .ok (.aload_n 0, 1) := by decide +kernel
theorem dX12_set_5 : decode cX12_set 5 = .ok (.getfield 179, 3) := by decide +kernel
theorem dX12_set_8 : decode cX12_set 8 = .ok (.bipush 32, 2) := by decide +kernel
theorem dX12_set_10 : decode cX12_set 10 = .ok (.iload_n 1, 1) := by decide +kernel
theorem dX12_set_11 : decode cX12_set 11 = .ok (.imul, 1) := by decide +kernel
theorem dX12_set_12 : decode cX12_set 12 = .ok (.iload_n 2, 1) := by decide +kernel
theorem dX12_set_13 : decode cX12_set 13 = .ok (.iadd, 1) := by decide +kernel
theorem dX12_set_14 : decode cX12_set 14 = .ok (.iload_n 3, 1) := by decide +kernel
theorem dX12_set_15 : decode cX12_set 15 = .ok (.iastore, 1) := by decide +kernel
theorem dX12_set_16 : decode cX12_set 16 = .ok (.return_, 1) := by decide +kernel
def wb_X12_set_16  (S : q_S) (Q : Option Value → q_S → Prop) : Prop := Q none S
set_option maxHeartbeats 4000000 in
set_option maxRecDepth 100000 in
theorem cb_X12_set_16 {p : Program} {l : Launch} {e : Env} {s : State} {m : MethodId} {args : Array Value} {below : List Frame} {meth : Method} {c : Code} {D : va_G} {cy : Nat → ClassId} {lo : Nat}  {S : q_S} {Q : Option Value → q_S → Prop} {H : Heap} {locs : List Loc} {ls : Array Slot} (X : q_X p s m args meth c RX12 cX12_set 4 none D cy lo)  (Y : q_Y D cy lo s S H locs) (hl : lv_has ls 4 []) (h : wb_X12_set_16 S Q) : W p l e ({ frames := 0, cells := 0, slots := 0, locals := 0 } : Room) s m args below meth c H locs 0 0 (MQ below (q_Q D cy lo Q) args s 0 0 (fun q => lo ≤ q)) (F0 m 16 ls []) := by
  have hx := X.1
  have hb := X.2.1
  unfold wb_X12_set_16 at h
  exact q_vret X Y (Nat.le_refl _) (Nat.le_refl _) h dX12_set_16
def wm_X12_set (S : q_S) (a0 : Nat) (x1 : Int32) (x2 : Int32) (x3 : Int32) (Q : Option Value → q_S → Prop) : Prop := ((x2 ≤ 0 → (wb_X12_set_16 S Q)) ∧ (¬ x2 ≤ 0 → (q_K S a0 = 13 ∧ (∃ a3_ : Nat, (q_P S 2477 a0) = some a3_ ∧ (q_K S a3_ = 21 ∧ (vp_in (((32 : Int32) * x1) + x2) (q_N S a3_) ∧ (wb_X12_set_16 (qs_A S a3_ (((32 : Int32) * x1) + x2).toNatClampNeg x3) Q)))))))
set_option maxHeartbeats 4000000 in
set_option maxRecDepth 100000 in
theorem cm_X12_set {l : Launch} {D : va_G} {cy : Nat → ClassId} {lo : Nat} {S : q_S} {a0 : Nat} {x1 : Int32} {x2 : Int32} {x3 : Int32} {Q : Option Value → q_S → Prop} (h : wm_X12_set S a0 x1 x2 x3 Q) : q_Met l D cy lo yX12_set cX12_set 4 none 0 0 0 0 [.ref a0, .int x1, .int x2, .int x3] S Q := by
  refine q_body (by decide) (by first | exact Nat.le_of_ble_eq_true rfl | simp [lg_sl, q_cat, q_catI, q_catJ, q_catR]) ?_
  intro p e s m below meth c ls X hnm Y hl
  have hx := X.1
  have hb := X.2.1
  have hl : lv_has ls 4 [(0, .ref a0), (1, .int x1), (2, .int x2), (3, .int x3)] := by first | exact hl | simpa [lv_args, q_cat, q_catI, q_catJ, q_catR] using hl
  generalize hargs : ([.ref a0, .int x1, .int x2, .int x3] : List Value).toArray = args at X ⊢
  unfold wm_X12_set at h
  refine lv_iload_n hx hb dX12_set_0 rfl (lv_at hl 2 rfl) ?_
  refine lv_if_le (tgt := 16) hx hb dX12_set_1 (by decide) (fun c1_ => ?_) (fun c1_ => ?_)
  · replace h := h.1 c1_
    exact cb_X12_set_16 X Y (lv_sub hl [] rfl) h
  · replace h := h.2 c1_
    refine lv_aload_n hx hb dX12_set_4 rfl (lv_at hl 0 rfl) ?_
    obtain ⟨k2_, h⟩ := h
    refine q_getP X Y kX12 77 rfl fl_X12_179 k2_ rfl dX12_set_5 ?_
    refine lv_bipush (v := 32) hx hb dX12_set_8 (by decide) ?_
    refine lv_iload_n hx hb dX12_set_10 rfl (lv_at hl 1 rfl) ?_
    refine lv_imul hx hb dX12_set_11 ?_
    refine lv_iload_n hx hb dX12_set_12 rfl (lv_at hl 2 rfl) ?_
    refine lv_iadd hx hb dX12_set_13 ?_
    refine lv_iload_n hx hb dX12_set_14 rfl (lv_at hl 3 rfl) ?_
    obtain ⟨a3_, e4_, h⟩ := h
    refine q_nn [.int x3, .int (((32 : Int32) * x1) + x2)] e4_ ?_
    obtain ⟨k5_, h⟩ := h
    obtain ⟨i6_, h⟩ := h
    refine q_ist X Y k5_ i6_ dX12_set_15 (fun H locs Y => ?_)
    exact cb_X12_set_16 X Y (lv_sub hl [] rfl) h
-- X12_isBelow
theorem co_X12_552 : Cond.constant RX12 552 (-2147483648) ∈ q_G := q_tb (i := 2364) (by decide +kernel) (by decide +kernel)
theorem dX12_isBelow_0 : decode cX12_isBelow 0 = .ok (.iload_n 1, 1) := by decide +kernel
theorem dX12_isBelow_1 : decode cX12_isBelow 1 = .ok (.ldc_w 552, 3) := by decide +kernel
theorem dX12_isBelow_4 : decode cX12_isBelow 4 = .ok (.iadd, 1) := by decide +kernel
theorem dX12_isBelow_5 : decode cX12_isBelow 5 = .ok (.iload_n 2, 1) := by decide +kernel
theorem dX12_isBelow_6 : decode cX12_isBelow 6 = .ok (.ldc_w 552, 3) := by decide +kernel
theorem dX12_isBelow_9 : decode cX12_isBelow 9 = .ok (.iadd, 1) := by decide +kernel
theorem dX12_isBelow_10 : decode cX12_isBelow 10 = .ok (.if_icmp .ge 7, 3) := by decide +kernel
theorem dX12_isBelow_13 : decode cX12_isBelow 13 = .ok (.iconst 1, 1) := by decide +kernel
theorem dX12_isBelow_14 : decode cX12_isBelow 14 = .ok (.goto 4, 3) := by decide +kernel
theorem dX12_isBelow_17 : decode cX12_isBelow 17 = .ok (.iconst 0, 1) := by decide +kernel
theorem dX12_isBelow_18 : decode cX12_isBelow 18 = .ok (.ireturn, 1) := by decide +kernel
def wb_X12_isBelow_18  (S : q_S) (xs0 : Int32) (Q : Option Value → q_S → Prop) : Prop := (narrow .boolean (.int xs0) = .int xs0 ∧ Q (some (.int xs0)) S)
set_option maxHeartbeats 4000000 in
set_option maxRecDepth 100000 in
theorem cb_X12_isBelow_18 {p : Program} {l : Launch} {e : Env} {s : State} {m : MethodId} {args : Array Value} {below : List Frame} {meth : Method} {c : Code} {D : va_G} {cy : Nat → ClassId} {lo : Nat}  {S : q_S} {xs0 : Int32} {Q : Option Value → q_S → Prop} {H : Heap} {locs : List Loc} {ls : Array Slot} (X : q_X p s m args meth c RX12 cX12_isBelow 3 (some .boolean) D cy lo)  (Y : q_Y D cy lo s S H locs) (hl : lv_has ls 3 []) (h : wb_X12_isBelow_18 S xs0 Q) : W p l e ({ frames := 0, cells := 0, slots := 0, locals := 0 } : Room) s m args below meth c H locs 0 0 (MQ below (q_Q D cy lo Q) args s 0 0 (fun q => lo ≤ q)) (F0 m 18 ls [.int xs0]) := by
  have hx := X.1
  have hb := X.2.1
  unfold wb_X12_isBelow_18 at h
  exact q_iret X Y h.1 (Nat.le_refl _) (Nat.le_refl _) h.2 dX12_isBelow_18
def wm_X12_isBelow (S : q_S) (a0 : Nat) (x1 : Int32) (x2 : Int32) (Q : Option Value → q_S → Prop) : Prop := (((x2 + (-2147483648 : Int32)) ≤ (x1 + (-2147483648 : Int32)) → (wb_X12_isBelow_18 S (0 : Int32) Q)) ∧ (¬ (x2 + (-2147483648 : Int32)) ≤ (x1 + (-2147483648 : Int32)) → (wb_X12_isBelow_18 S (1 : Int32) Q)))
set_option maxHeartbeats 4000000 in
set_option maxRecDepth 100000 in
theorem cm_X12_isBelow {l : Launch} {D : va_G} {cy : Nat → ClassId} {lo : Nat} {S : q_S} {a0 : Nat} {x1 : Int32} {x2 : Int32} {Q : Option Value → q_S → Prop} (h : wm_X12_isBelow S a0 x1 x2 Q) : q_Met l D cy lo yX12_isBelow cX12_isBelow 3 (some .boolean) 0 0 0 0 [.ref a0, .int x1, .int x2] S Q := by
  refine q_body (by decide) (by first | exact Nat.le_of_ble_eq_true rfl | simp [lg_sl, q_cat, q_catI, q_catJ, q_catR]) ?_
  intro p e s m below meth c ls X hnm Y hl
  have hx := X.1
  have hb := X.2.1
  have hl : lv_has ls 3 [(0, .ref a0), (1, .int x1), (2, .int x2)] := by first | exact hl | simpa [lv_args, q_cat, q_catI, q_catJ, q_catR] using hl
  generalize hargs : ([.ref a0, .int x1, .int x2] : List Value).toArray = args at X ⊢
  unfold wm_X12_isBelow at h
  refine lv_iload_n hx hb dX12_isBelow_0 rfl (lv_at hl 1 rfl) ?_
  refine lv_ldcw (v := (-2147483648)) hx hb X.2.2.2.1 (X.2.2.2.2.1 _ co_X12_552) dX12_isBelow_1 ?_
  refine lv_iadd hx hb dX12_isBelow_4 ?_
  refine lv_iload_n hx hb dX12_isBelow_5 rfl (lv_at hl 2 rfl) ?_
  refine lv_ldcw (v := (-2147483648)) hx hb X.2.2.2.1 (X.2.2.2.2.1 _ co_X12_552) dX12_isBelow_6 ?_
  refine lv_iadd hx hb dX12_isBelow_9 ?_
  refine lv_icmp_ge (tgt := 17) hx hb dX12_isBelow_10 (by decide) (fun c1_ => ?_) (fun c1_ => ?_)
  · replace h := h.1 c1_
    refine lv_iconst (v := 0) hx hb dX12_isBelow_17 (by decide) ?_
    exact cb_X12_isBelow_18 X Y (lv_sub hl [] rfl) h
  · replace h := h.2 c1_
    refine lv_iconst (v := 1) hx hb dX12_isBelow_13 (by decide) ?_
    refine lv_goto (tgt := 18) hx hb dX12_isBelow_14 (by decide) ?_
    exact cb_X12_isBelow_18 X Y (lv_sub hl [] rfl) h
-- X12_load_
theorem ml_X12_563 : Cond.methodLink RX12 563 yX12_set ∈ q_G := q_tb (i := 2356) (by decide +kernel) (by decide +kernel)
theorem mt_X12_set : q_Mt yX12_set cX12_set 4 none 3 := ⟨q_tb (i := 2359) (by decide +kernel) (by decide +kernel), q_tb (i := 11) (by decide +kernel) (by decide +kernel), by decide +kernel, by decide +kernel, by decide +kernel⟩
theorem mi_X12_set : Cond.instanceMethod yX12_set ∈ q_G ∧ Cond.selects yX12_set.cls yX12_set yX12_set ∈ q_G := ⟨q_tb (i := 2358) (by decide +kernel) (by decide +kernel), q_tp (i := 145) (q := (yX12_set, 114)) (by decide +kernel) (by decide +kernel)⟩
theorem ml_X12_553 : Cond.methodLink RX12 553 yX12_isWithin ∈ q_G := q_tb (i := 2344) (by decide +kernel) (by decide +kernel)
theorem mt_X12_isWithin : q_Mt yX12_isWithin cX12_isWithin 4 (some .boolean) 3 := ⟨q_tb (i := 2347) (by decide +kernel) (by decide +kernel), q_tb (i := 11) (by decide +kernel) (by decide +kernel), by decide +kernel, by decide +kernel, by decide +kernel⟩
theorem mi_X12_isWithin : Cond.instanceMethod yX12_isWithin ∈ q_G ∧ Cond.selects yX12_isWithin.cls yX12_isWithin yX12_isWithin ∈ q_G := ⟨q_tb (i := 2346) (by decide +kernel) (by decide +kernel), q_tp (i := 142) (q := (yX12_isWithin, 114)) (by decide +kernel) (by decide +kernel)⟩
theorem ml_X12_560 : Cond.methodLink RX12 560 yX12_read ∈ q_G := q_tb (i := 2352) (by decide +kernel) (by decide +kernel)
theorem mt_X12_read : q_Mt yX12_read cX12_read 6 (some .int) 3 := ⟨q_tb (i := 2355) (by decide +kernel) (by decide +kernel), q_tb (i := 11) (by decide +kernel) (by decide +kernel), by decide +kernel, by decide +kernel, by decide +kernel⟩
theorem mi_X12_read : Cond.instanceMethod yX12_read ∈ q_G ∧ Cond.selects yX12_read.cls yX12_read yX12_read ∈ q_G := ⟨q_tb (i := 2354) (by decide +kernel) (by decide +kernel), q_tp (i := 144) (q := (yX12_read, 114)) (by decide +kernel) (by decide +kernel)⟩
theorem ml_X12_521 : Cond.methodLink RX12 521 yX12_fails ∈ q_G := q_tb (i := 2320) (by decide +kernel) (by decide +kernel)
theorem mt_X12_fails : q_Mt yX12_fails cX12_fails 7 none 3 := ⟨q_tb (i := 2323) (by decide +kernel) (by decide +kernel), q_tb (i := 11) (by decide +kernel) (by decide +kernel), by decide +kernel, by decide +kernel, by decide +kernel⟩
theorem mi_X12_fails : Cond.instanceMethod yX12_fails ∈ q_G ∧ Cond.selects yX12_fails.cls yX12_fails yX12_fails ∈ q_G := ⟨q_tb (i := 2322) (by decide +kernel) (by decide +kernel), q_tp (i := 136) (q := (yX12_fails, 114)) (by decide +kernel) (by decide +kernel)⟩
theorem dX12_load__0 : decode cX12_load_ 0 = .ok (.iconst 1, 1) := by decide +kernel
theorem dX12_load__1 : decode cX12_load_ 1 = .ok (.iload 4, 2) := by decide +kernel
theorem dX12_load__3 : decode cX12_load_ 3 = .ok (.iconst 3, 1) := by decide +kernel
theorem dX12_load__4 : decode cX12_load_ 4 = .ok (.iand, 1) := by decide +kernel
theorem dX12_load__5 : decode cX12_load_ 5 = .ok (.ishl, 1) := by decide +kernel
theorem dX12_load__6 : decode cX12_load_ 6 = .ok (.istore 6, 2) := by decide +kernel
theorem dX12_load__8 : decode cX12_load_ 8 = .ok (.iload 5, 2) := by decide +kernel
theorem dX12_load__10 : decode cX12_load_ 10 = .ok (.iload 6, 2) := by decide +kernel
theorem dX12_load__12 : decode cX12_load_ 12 = .ok (.irem, 1) := by decide +kernel
theorem dX12_load__13 : decode cX12_load_ 13 = .ok (.ifCond .eq 12, 3) := by decide +kernel
theorem dX12_load__16 : decode cX12_load_ 16 = .ok (.aload_n 0, 1) := by decide +kernel
theorem dX12_load__17 : decode cX12_load_ 17 = .ok (.iload_n 2, 1) := by decide +kernel
theorem dX12_load__18 : decode cX12_load_ 18 = .ok (.iconst 4, 1) := by decide +kernel
theorem dX12_load__19 : decode cX12_load_ 19 = .ok (.iload 5, 2) := by decide +kernel
theorem dX12_load__21 : decode cX12_load_ 21 = .ok (.invokevirtual 521, 3) := by decide +kernel
theorem dX12_load__24 : decode cX12_load_ 24 = .ok (.return_, 1) := by decide +kernel
theorem dX12_load__25 : decode cX12_load_ 25 = .ok (.aload_n 0, 1) := by decide +kernel
theorem dX12_load__26 : decode cX12_load_ 26 = .ok (.iload_n 1, 1) := by decide +kernel
theorem dX12_load__27 : decode cX12_load_ 27 = .ok (.iload 5, 2) := by decide +kernel
theorem dX12_load__29 : decode cX12_load_ 29 = .ok (.iload 6, 2) := by decide +kernel
theorem dX12_load__31 : decode cX12_load_ 31 = .ok (.invokevirtual 553, 3) := by decide +kernel
theorem dX12_load__34 : decode cX12_load_ 34 = .ok (.ifCond .ne 12, 3) := by decide +kernel
theorem dX12_load__37 : decode cX12_load_ 37 = .ok (.aload_n 0, 1) := by decide +kernel
theorem dX12_load__38 : decode cX12_load_ 38 = .ok (.iload_n 2, 1) := by decide +kernel
theorem dX12_load__39 : decode cX12_load_ 39 = .ok (.iconst 1, 1) := by decide +kernel
theorem dX12_load__40 : decode cX12_load_ 40 = .ok (.iload 5, 2) := by decide +kernel
theorem dX12_load__42 : decode cX12_load_ 42 = .ok (.invokevirtual 521, 3) := by decide +kernel
theorem dX12_load__45 : decode cX12_load_ 45 = .ok (.return_, 1) := by decide +kernel
theorem dX12_load__46 : decode cX12_load_ 46 = .ok (.aload_n 0, 1) := by decide +kernel
theorem dX12_load__47 : decode cX12_load_ 47 = .ok (.iload_n 1, 1) := by decide +kernel
theorem dX12_load__48 : decode cX12_load_ 48 = .ok (.iload 5, 2) := by decide +kernel
theorem dX12_load__50 : decode cX12_load_ 50 = .ok (.iload 6, 2) := by decide +kernel
theorem dX12_load__52 : decode cX12_load_ 52 = .ok (.invokevirtual 560, 3) := by decide +kernel
theorem dX12_load__55 : decode cX12_load_ 55 = .ok (.istore 7, 2) := by decide +kernel
theorem dX12_load__57 : decode cX12_load_ 57 = .ok (.aload_n 0, 1) := by decide +kernel
theorem dX12_load__58 : decode cX12_load_ 58 = .ok (.iload_n 2, 1) := by decide +kernel
theorem dX12_load__59 : decode cX12_load_ 59 = .ok (.iload_n 3, 1) := by decide +kernel
theorem dX12_load__60 : decode cX12_load_ 60 = .ok (.iload 4, 2) := by decide +kernel
theorem dX12_load__62 : decode cX12_load_ 62 = .ok (.ifCond .ne 14, 3) := by decide +kernel
theorem dX12_load__65 : decode cX12_load_ 65 = .ok (.iload 7, 2) := by decide +kernel
theorem dX12_load__67 : decode cX12_load_ 67 = .ok (.bipush 24, 2) := by decide +kernel
theorem dX12_load__69 : decode cX12_load_ 69 = .ok (.ishl, 1) := by decide +kernel
theorem dX12_load__70 : decode cX12_load_ 70 = .ok (.bipush 24, 2) := by decide +kernel
theorem dX12_load__72 : decode cX12_load_ 72 = .ok (.ishr, 1) := by decide +kernel
theorem dX12_load__73 : decode cX12_load_ 73 = .ok (.goto 22, 3) := by decide +kernel
theorem dX12_load__76 : decode cX12_load_ 76 = .ok (.iload 4, 2) := by decide +kernel
theorem dX12_load__78 : decode cX12_load_ 78 = .ok (.iconst 1, 1) := by decide +kernel
theorem dX12_load__79 : decode cX12_load_ 79 = .ok (.if_icmp .ne 14, 3) := by decide +kernel
theorem dX12_load__82 : decode cX12_load_ 82 = .ok (.iload 7, 2) := by decide +kernel
theorem dX12_load__84 : decode cX12_load_ 84 = .ok (.bipush 16, 2) := by decide +kernel
theorem dX12_load__86 : decode cX12_load_ 86 = .ok (.ishl, 1) := by decide +kernel
theorem dX12_load__87 : decode cX12_load_ 87 = .ok (.bipush 16, 2) := by decide +kernel
theorem dX12_load__89 : decode cX12_load_ 89 = .ok (.ishr, 1) := by decide +kernel
theorem dX12_load__90 : decode cX12_load_ 90 = .ok (.goto 5, 3) := by decide +kernel
theorem dX12_load__93 : decode cX12_load_ 93 = .ok (.iload 7, 2) := by decide +kernel
theorem dX12_load__95 : decode cX12_load_ 95 = .ok (.invokevirtual 563, 3) := by decide +kernel
theorem dX12_load__98 : decode cX12_load_ 98 = .ok (.aload_n 0, 1) := by decide +kernel
theorem dX12_load__99 : decode cX12_load_ 99 = .ok (.getfield 152, 3) := by decide +kernel
theorem dX12_load__102 : decode cX12_load_ 102 = .ok (.iload_n 2, 1) := by decide +kernel
theorem dX12_load__103 : decode cX12_load_ 103 = .ok (.dup2, 1) := by decide +kernel
theorem dX12_load__104 : decode cX12_load_ 104 = .ok (.iaload, 1) := by decide +kernel
theorem dX12_load__105 : decode cX12_load_ 105 = .ok (.iconst 4, 1) := by decide +kernel
theorem dX12_load__106 : decode cX12_load_ 106 = .ok (.iadd, 1) := by decide +kernel
theorem dX12_load__107 : decode cX12_load_ 107 = .ok (.iastore, 1) := by decide +kernel
theorem dX12_load__108 : decode cX12_load_ 108 = .ok (.return_, 1) := by decide +kernel
def wb_X12_load__95  (S : q_S) (a0 : Nat) (x2 : Int32) (as0 : Nat) (xs1 : Int32) (xs2 : Int32) (xs3 : Int32) (Q : Option Value → q_S → Prop) : Prop := q_K S as0 = 13 ∧ (wm_X12_set S as0 xs1 xs2 xs3 (fun r2_ S3_ => r2_ = none ∧ (q_K S3_ a0 = 13 ∧ (∃ a5_ : Nat, (q_P S3_ 2468 a0) = some a5_ ∧ (q_K S3_ a5_ = 21 ∧ (vp_in x2 (q_N S3_ a5_) ∧ (vp_in x2 (q_N S3_ a5_) ∧ (Q none (qs_A S3_ a5_ x2.toNatClampNeg ((q_A S3_ a5_ x2.toNatClampNeg) + (4 : Int32)))))))))))
set_option maxHeartbeats 4000000 in
set_option maxRecDepth 100000 in
theorem cb_X12_load__95 {p : Program} {l : Launch} {e : Env} {s : State} {m : MethodId} {args : Array Value} {below : List Frame} {meth : Method} {c : Code} {D : va_G} {cy : Nat → ClassId} {lo : Nat}  {S : q_S} {a0 : Nat} {x2 : Int32} {as0 : Nat} {xs1 : Int32} {xs2 : Int32} {xs3 : Int32} {Q : Option Value → q_S → Prop} {H : Heap} {locs : List Loc} {ls : Array Slot} (X : q_X p s m args meth c RX12 cX12_load_ 8 none D cy lo)  (Y : q_Y D cy lo s S H locs) (hl : lv_has ls 8 [(0, .ref a0), (2, .int x2)]) (h : wb_X12_load__95 S a0 x2 as0 xs1 xs2 xs3 Q) : W p l e ({ frames := 4, cells := 0, slots := 0, locals := 94 } : Room) s m args below meth c H locs 0 0 (MQ below (q_Q D cy lo Q) args s 0 0 (fun q => lo ≤ q)) (F0 m 95 ls [.int xs3, .int xs2, .int xs1, .ref as0]) := by
  have hx := X.1
  have hb := X.2.1
  unfold wb_X12_load__95 at h
  obtain ⟨k1_, h⟩ := h
  refine q_callV X Y hl (cm_X12_set h) mt_X12_set mi_X12_set ml_X12_563 (ci := 12) rfl k1_ (by decide) rfl rfl (by first | exact Nat.le_of_ble_eq_true rfl | simp [q_cat, q_catI, q_catJ, q_catR]) ⟨Nat.le_of_ble_eq_true rfl, Nat.le_of_ble_eq_true rfl⟩ ⟨Nat.le_of_ble_eq_true rfl, Nat.le_of_ble_eq_true rfl⟩ dX12_load__95 (fun r2_ S3_ H locs hp Y => ?_)
  obtain ⟨rfl, h⟩ := hp
  refine W.eq (g2 := F0 m 98 ls []) rfl ?_
  refine lv_aload_n hx hb dX12_load__98 rfl (lv_at hl 0 rfl) ?_
  obtain ⟨k4_, h⟩ := h
  refine q_getP X Y kX12 68 rfl fl_X12_152 k4_ rfl dX12_load__99 ?_
  refine lv_iload_n hx hb dX12_load__102 rfl (lv_at hl 1 rfl) ?_
  refine lv_dup2_11 hx hb dX12_load__103 rfl (q_cat _) ?_
  obtain ⟨a5_, e6_, h⟩ := h
  refine q_nn [.int x2] e6_ ?_
  obtain ⟨k7_, h⟩ := h
  obtain ⟨i8_, h⟩ := h
  refine q_ild X Y k7_ i8_ dX12_load__104 ?_
  refine lv_iconst (v := 4) hx hb dX12_load__105 (by decide) ?_
  refine lv_iadd hx hb dX12_load__106 ?_
  refine q_nn [.int ((q_A S3_ a5_ x2.toNatClampNeg) + (4 : Int32)), .int x2] e6_ ?_
  obtain ⟨i9_, h⟩ := h
  refine q_ist X Y k7_ i9_ dX12_load__107 (fun H locs Y => ?_)
  exact q_vret X Y (Nat.le_refl _) (Nat.le_refl _) h dX12_load__108
def wm_X12_load_ (S : q_S) (a0 : Nat) (x1 : Int32) (x2 : Int32) (x3 : Int32) (x4 : Int32) (x5 : Int32) (Q : Option Value → q_S → Prop) : Prop := (¬ ((1 : Int32) <<< ((x4 &&& (3 : Int32)) &&& 31)) = 0) ∧ ((((x5 - x5 / ((1 : Int32) <<< ((x4 &&& (3 : Int32)) &&& 31)) * ((1 : Int32) <<< ((x4 &&& (3 : Int32)) &&& 31))) = 0 → (q_K S a0 = 13 ∧ (wm_X12_isWithin S a0 x1 x5 ((1 : Int32) <<< ((x4 &&& (3 : Int32)) &&& 31)) (fun r13_ S14_ => ∃ x15_ : Int32, r13_ = some (.int x15_) ∧ (((¬ x15_ = 0 → (q_K S14_ a0 = 13 ∧ (wm_X12_read S14_ a0 x1 x5 ((1 : Int32) <<< ((x4 &&& (3 : Int32)) &&& 31)) (fun r18_ S19_ => ∃ x20_ : Int32, r18_ = some (.int x20_) ∧ (((¬ x4 = 0 → (((¬ x4 = (1 : Int32) → (wb_X12_load__95 S19_ a0 x2 a0 x2 x3 x20_ Q)) ∧ (x4 = (1 : Int32) → (wb_X12_load__95 S19_ a0 x2 a0 x2 x3 ((x20_ <<< ((16 : Int32) &&& 31)) >>> ((16 : Int32) &&& 31)) Q))))) ∧ (x4 = 0 → (wb_X12_load__95 S19_ a0 x2 a0 x2 x3 ((x20_ <<< ((24 : Int32) &&& 31)) >>> ((24 : Int32) &&& 31)) Q)))))))) ∧ (x15_ = 0 → (q_K S14_ a0 = 13 ∧ (wm_X12_fails S14_ a0 x2 (1 : Int32) x5 (fun r24_ S25_ => r24_ = none ∧ (Q none S25_))))))))))) ∧ (¬ (x5 - x5 / ((1 : Int32) <<< ((x4 &&& (3 : Int32)) &&& 31)) * ((1 : Int32) <<< ((x4 &&& (3 : Int32)) &&& 31))) = 0 → (q_K S a0 = 13 ∧ (wm_X12_fails S a0 x2 (4 : Int32) x5 (fun r27_ S28_ => r27_ = none ∧ (Q none S28_)))))))
set_option maxHeartbeats 4000000 in
set_option maxRecDepth 100000 in
theorem cm_X12_load_ {l : Launch} {D : va_G} {cy : Nat → ClassId} {lo : Nat} {S : q_S} {a0 : Nat} {x1 : Int32} {x2 : Int32} {x3 : Int32} {x4 : Int32} {x5 : Int32} {Q : Option Value → q_S → Prop} (h : wm_X12_load_ S a0 x1 x2 x3 x4 x5 Q) : q_Met l D cy lo yX12_load_ cX12_load_ 8 none 4 94 0 0 [.ref a0, .int x1, .int x2, .int x3, .int x4, .int x5] S Q := by
  refine q_body (by decide) (by first | exact Nat.le_of_ble_eq_true rfl | simp [lg_sl, q_cat, q_catI, q_catJ, q_catR]) ?_
  intro p e s m below meth c ls X hnm Y hl
  have hx := X.1
  have hb := X.2.1
  have hl : lv_has ls 8 [(0, .ref a0), (1, .int x1), (2, .int x2), (3, .int x3), (4, .int x4), (5, .int x5)] := by first | exact hl | simpa [lv_args, q_cat, q_catI, q_catJ, q_catR] using hl
  generalize hargs : ([.ref a0, .int x1, .int x2, .int x3, .int x4, .int x5] : List Value).toArray = args at X ⊢
  unfold wm_X12_load_ at h
  refine lv_iconst (v := 1) hx hb dX12_load__0 (by decide) ?_
  refine lv_iload hx hb dX12_load__1 (lv_at hl 4 rfl) ?_
  refine lv_iconst (v := 3) hx hb dX12_load__3 (by decide) ?_
  refine lv_iand hx hb dX12_load__4 ?_
  refine lv_ishl hx hb dX12_load__5 ?_
  refine lv_istore (i := 6) (lv' := [(6, .int ((1 : Int32) <<< ((x4 &&& (3 : Int32)) &&& 31))), (0, .ref a0), (1, .int x1), (2, .int x2), (3, .int x3), (4, .int x4), (5, .int x5)]) hx hb dX12_load__6 hl (by decide) (by first | rfl | simp [q_cat, q_catI, q_catJ, q_catR]) (fun ls hl => ?_)
  refine lv_iload hx hb dX12_load__8 (lv_at hl 6 rfl) ?_
  refine lv_iload hx hb dX12_load__10 (lv_at hl 0 rfl) ?_
  obtain ⟨z10_, h⟩ := h
  refine lv_irem hx hb dX12_load__12 z10_ ?_
  refine lv_if_eq (tgt := 25) hx hb dX12_load__13 (by decide) (fun c11_ => ?_) (fun c11_ => ?_)
  · replace h := h.1 c11_
    refine lv_aload_n hx hb dX12_load__25 rfl (lv_at hl 1 rfl) ?_
    refine lv_iload_n hx hb dX12_load__26 rfl (lv_at hl 2 rfl) ?_
    refine lv_iload hx hb dX12_load__27 (lv_at hl 6 rfl) ?_
    refine lv_iload hx hb dX12_load__29 (lv_at hl 0 rfl) ?_
    obtain ⟨k12_, h⟩ := h
    refine q_callV X Y hl (cm_X12_isWithin h) mt_X12_isWithin mi_X12_isWithin ml_X12_553 (ci := 12) rfl k12_ (by decide) rfl rfl (by first | exact Nat.le_of_ble_eq_true rfl | simp [q_cat, q_catI, q_catJ, q_catR]) ⟨Nat.le_of_ble_eq_true rfl, Nat.le_of_ble_eq_true rfl⟩ ⟨Nat.le_of_ble_eq_true rfl, Nat.le_of_ble_eq_true rfl⟩ dX12_load__31 (fun r13_ S14_ H locs hp Y => ?_)
    obtain ⟨x15_, rfl, h⟩ := hp
    refine W.eq (g2 := F0 m 34 ls [.int x15_]) rfl ?_
    refine lv_if_ne (tgt := 46) hx hb dX12_load__34 (by decide) (fun c16_ => ?_) (fun c16_ => ?_)
    · replace h := h.1 c16_
      refine lv_aload_n hx hb dX12_load__46 rfl (lv_at hl 1 rfl) ?_
      refine lv_iload_n hx hb dX12_load__47 rfl (lv_at hl 2 rfl) ?_
      refine lv_iload hx hb dX12_load__48 (lv_at hl 6 rfl) ?_
      refine lv_iload hx hb dX12_load__50 (lv_at hl 0 rfl) ?_
      obtain ⟨k17_, h⟩ := h
      refine q_callV X Y hl (cm_X12_read h) mt_X12_read mi_X12_read ml_X12_560 (ci := 12) rfl k17_ (by decide) rfl rfl (by first | exact Nat.le_of_ble_eq_true rfl | simp [q_cat, q_catI, q_catJ, q_catR]) ⟨Nat.le_of_ble_eq_true rfl, Nat.le_of_ble_eq_true rfl⟩ ⟨Nat.le_of_ble_eq_true rfl, Nat.le_of_ble_eq_true rfl⟩ dX12_load__52 (fun r18_ S19_ H locs hp Y => ?_)
      obtain ⟨x20_, rfl, h⟩ := hp
      refine W.eq (g2 := F0 m 55 ls [.int x20_]) rfl ?_
      refine lv_istore (i := 7) (lv' := [(7, .int x20_), (6, .int ((1 : Int32) <<< ((x4 &&& (3 : Int32)) &&& 31))), (0, .ref a0), (1, .int x1), (2, .int x2), (3, .int x3), (4, .int x4), (5, .int x5)]) hx hb dX12_load__55 hl (by decide) (by first | rfl | simp [q_cat, q_catI, q_catJ, q_catR]) (fun ls hl => ?_)
      refine lv_aload_n hx hb dX12_load__57 rfl (lv_at hl 2 rfl) ?_
      refine lv_iload_n hx hb dX12_load__58 rfl (lv_at hl 4 rfl) ?_
      refine lv_iload_n hx hb dX12_load__59 rfl (lv_at hl 5 rfl) ?_
      refine lv_iload hx hb dX12_load__60 (lv_at hl 6 rfl) ?_
      refine lv_if_ne (tgt := 76) hx hb dX12_load__62 (by decide) (fun c21_ => ?_) (fun c21_ => ?_)
      · replace h := h.1 c21_
        refine lv_iload hx hb dX12_load__76 (lv_at hl 6 rfl) ?_
        refine lv_iconst (v := 1) hx hb dX12_load__78 (by decide) ?_
        refine lv_icmp_ne (tgt := 93) hx hb dX12_load__79 (by decide) (fun c22_ => ?_) (fun c22_ => ?_)
        · replace h := h.1 c22_
          refine lv_iload hx hb dX12_load__93 (lv_at hl 0 rfl) ?_
          exact cb_X12_load__95 X Y (lv_sub hl [2, 4] rfl) h
        · replace h := h.2 c22_
          refine lv_iload hx hb dX12_load__82 (lv_at hl 0 rfl) ?_
          refine lv_bipush (v := 16) hx hb dX12_load__84 (by decide) ?_
          refine lv_ishl hx hb dX12_load__86 ?_
          refine lv_bipush (v := 16) hx hb dX12_load__87 (by decide) ?_
          refine lv_ishr hx hb dX12_load__89 ?_
          refine lv_goto (tgt := 95) hx hb dX12_load__90 (by decide) ?_
          exact cb_X12_load__95 X Y (lv_sub hl [2, 4] rfl) h
      · replace h := h.2 c21_
        refine lv_iload hx hb dX12_load__65 (lv_at hl 0 rfl) ?_
        refine lv_bipush (v := 24) hx hb dX12_load__67 (by decide) ?_
        refine lv_ishl hx hb dX12_load__69 ?_
        refine lv_bipush (v := 24) hx hb dX12_load__70 (by decide) ?_
        refine lv_ishr hx hb dX12_load__72 ?_
        refine lv_goto (tgt := 95) hx hb dX12_load__73 (by decide) ?_
        exact cb_X12_load__95 X Y (lv_sub hl [2, 4] rfl) h
    · replace h := h.2 c16_
      refine lv_aload_n hx hb dX12_load__37 rfl (lv_at hl 1 rfl) ?_
      refine lv_iload_n hx hb dX12_load__38 rfl (lv_at hl 3 rfl) ?_
      refine lv_iconst (v := 1) hx hb dX12_load__39 (by decide) ?_
      refine lv_iload hx hb dX12_load__40 (lv_at hl 6 rfl) ?_
      obtain ⟨k23_, h⟩ := h
      refine q_callV X Y hl (cm_X12_fails h) mt_X12_fails mi_X12_fails ml_X12_521 (ci := 12) rfl k23_ (by decide) rfl rfl (by first | exact Nat.le_of_ble_eq_true rfl | simp [q_cat, q_catI, q_catJ, q_catR]) ⟨Nat.le_of_ble_eq_true rfl, Nat.le_of_ble_eq_true rfl⟩ ⟨Nat.le_of_ble_eq_true rfl, Nat.le_of_ble_eq_true rfl⟩ dX12_load__42 (fun r24_ S25_ H locs hp Y => ?_)
      obtain ⟨rfl, h⟩ := hp
      refine W.eq (g2 := F0 m 45 ls []) rfl ?_
      exact q_vret X Y (Nat.le_refl _) (Nat.le_refl _) h dX12_load__45
  · replace h := h.2 c11_
    refine lv_aload_n hx hb dX12_load__16 rfl (lv_at hl 1 rfl) ?_
    refine lv_iload_n hx hb dX12_load__17 rfl (lv_at hl 3 rfl) ?_
    refine lv_iconst (v := 4) hx hb dX12_load__18 (by decide) ?_
    refine lv_iload hx hb dX12_load__19 (lv_at hl 6 rfl) ?_
    obtain ⟨k26_, h⟩ := h
    refine q_callV X Y hl (cm_X12_fails h) mt_X12_fails mi_X12_fails ml_X12_521 (ci := 12) rfl k26_ (by decide) rfl rfl (by first | exact Nat.le_of_ble_eq_true rfl | simp [q_cat, q_catI, q_catJ, q_catR]) ⟨Nat.le_of_ble_eq_true rfl, Nat.le_of_ble_eq_true rfl⟩ ⟨Nat.le_of_ble_eq_true rfl, Nat.le_of_ble_eq_true rfl⟩ dX12_load__21 (fun r27_ S28_ H locs hp Y => ?_)
    obtain ⟨rfl, h⟩ := hp
    refine W.eq (g2 := F0 m 24 ls []) rfl ?_
    exact q_vret X Y (Nat.le_refl _) (Nat.le_refl _) h dX12_load__24
-- X12_store
theorem ml_X12_557 : Cond.methodLink RX12 557 yX12_isIn ∈ q_G := q_tb (i := 2348) (by decide +kernel) (by decide +kernel)
theorem mt_X12_isIn : q_Mt yX12_isIn cX12_isIn 6 (some .boolean) 3 := ⟨q_tb (i := 2351) (by decide +kernel) (by decide +kernel), q_tb (i := 11) (by decide +kernel) (by decide +kernel), by decide +kernel, by decide +kernel, by decide +kernel⟩
theorem mi_X12_isIn : Cond.instanceMethod yX12_isIn ∈ q_G ∧ Cond.selects yX12_isIn.cls yX12_isIn yX12_isIn ∈ q_G := ⟨q_tb (i := 2350) (by decide +kernel) (by decide +kernel), q_tp (i := 143) (q := (yX12_isIn, 114)) (by decide +kernel) (by decide +kernel)⟩
theorem dX12_store_0 : decode cX12_store 0 = .ok (.iconst 1, 1) := by decide +kernel
theorem dX12_store_1 : decode cX12_store 1 = .ok (.iload_n 3, 1) := by decide +kernel
theorem dX12_store_2 : decode cX12_store 2 = .ok (.ishl, 1) := by decide +kernel
theorem dX12_store_3 : decode cX12_store 3 = .ok (.istore 6, 2) := by decide +kernel
theorem dX12_store_5 : decode cX12_store 5 = .ok (.iload 4, 2) := by decide +kernel
theorem dX12_store_7 : decode cX12_store 7 = .ok (.iload 6, 2) := by decide +kernel
theorem dX12_store_9 : decode cX12_store 9 = .ok (.irem, 1) := by decide +kernel
theorem dX12_store_10 : decode cX12_store 10 = .ok (.ifCond .eq 12, 3) := by decide +kernel
theorem dX12_store_13 : decode cX12_store 13 = .ok (.aload_n 0, 1) := by decide +kernel
theorem dX12_store_14 : decode cX12_store 14 = .ok (.iload_n 2, 1) := by decide +kernel
theorem dX12_store_15 : decode cX12_store 15 = .ok (.iconst 4, 1) := by decide +kernel
theorem dX12_store_16 : decode cX12_store 16 = .ok (.iload 4, 2) := by decide +kernel
theorem dX12_store_18 : decode cX12_store 18 = .ok (.invokevirtual 521, 3) := by decide +kernel
theorem dX12_store_21 : decode cX12_store 21 = .ok (.return_, 1) := by decide +kernel
theorem dX12_store_22 : decode cX12_store 22 = .ok (.aload_n 0, 1) := by decide +kernel
theorem dX12_store_23 : decode cX12_store 23 = .ok (.iload_n 1, 1) := by decide +kernel
theorem dX12_store_24 : decode cX12_store 24 = .ok (.iload 4, 2) := by decide +kernel
theorem dX12_store_26 : decode cX12_store 26 = .ok (.iload 6, 2) := by decide +kernel
theorem dX12_store_28 : decode cX12_store 28 = .ok (.invokevirtual 553, 3) := by decide +kernel
theorem dX12_store_31 : decode cX12_store 31 = .ok (.ifCond .eq 14, 3) := by decide +kernel
theorem dX12_store_34 : decode cX12_store 34 = .ok (.aload_n 0, 1) := by decide +kernel
theorem dX12_store_35 : decode cX12_store 35 = .ok (.iload_n 1, 1) := by decide +kernel
theorem dX12_store_36 : decode cX12_store 36 = .ok (.iload 4, 2) := by decide +kernel
theorem dX12_store_38 : decode cX12_store 38 = .ok (.iconst 1, 1) := by decide +kernel
theorem dX12_store_39 : decode cX12_store 39 = .ok (.invokevirtual 557, 3) := by decide +kernel
theorem dX12_store_42 : decode cX12_store 42 = .ok (.ifCond .ne 12, 3) := by decide +kernel
theorem dX12_store_45 : decode cX12_store 45 = .ok (.aload_n 0, 1) := by decide +kernel
theorem dX12_store_46 : decode cX12_store 46 = .ok (.iload_n 2, 1) := by decide +kernel
theorem dX12_store_47 : decode cX12_store 47 = .ok (.iconst 1, 1) := by decide +kernel
theorem dX12_store_48 : decode cX12_store 48 = .ok (.iload 4, 2) := by decide +kernel
theorem dX12_store_50 : decode cX12_store 50 = .ok (.invokevirtual 521, 3) := by decide +kernel
theorem dX12_store_53 : decode cX12_store 53 = .ok (.return_, 1) := by decide +kernel
theorem dX12_store_54 : decode cX12_store 54 = .ok (.iconst 0, 1) := by decide +kernel
theorem dX12_store_55 : decode cX12_store 55 = .ok (.istore 7, 2) := by decide +kernel
theorem dX12_store_57 : decode cX12_store 57 = .ok (.iload 7, 2) := by decide +kernel
theorem dX12_store_59 : decode cX12_store 59 = .ok (.iload 6, 2) := by decide +kernel
theorem dX12_store_61 : decode cX12_store 61 = .ok (.if_icmp .ge 34, 3) := by decide +kernel
theorem dX12_store_64 : decode cX12_store 64 = .ok (.aload_n 0, 1) := by decide +kernel
theorem dX12_store_65 : decode cX12_store 65 = .ok (.getfield 146, 3) := by decide +kernel
theorem dX12_store_68 : decode cX12_store 68 = .ok (.sipush 8192, 3) := by decide +kernel
theorem dX12_store_71 : decode cX12_store 71 = .ok (.iload_n 1, 1) := by decide +kernel
theorem dX12_store_72 : decode cX12_store 72 = .ok (.imul, 1) := by decide +kernel
theorem dX12_store_73 : decode cX12_store 73 = .ok (.iload 4, 2) := by decide +kernel
theorem dX12_store_75 : decode cX12_store 75 = .ok (.iadd, 1) := by decide +kernel
theorem dX12_store_76 : decode cX12_store 76 = .ok (.iload 7, 2) := by decide +kernel
theorem dX12_store_78 : decode cX12_store 78 = .ok (.iadd, 1) := by decide +kernel
theorem dX12_store_79 : decode cX12_store 79 = .ok (.iload 5, 2) := by decide +kernel
theorem dX12_store_81 : decode cX12_store 81 = .ok (.bipush 8, 2) := by decide +kernel
theorem dX12_store_83 : decode cX12_store 83 = .ok (.iload 7, 2) := by decide +kernel
theorem dX12_store_85 : decode cX12_store 85 = .ok (.imul, 1) := by decide +kernel
theorem dX12_store_86 : decode cX12_store 86 = .ok (.ishr, 1) := by decide +kernel
theorem dX12_store_87 : decode cX12_store 87 = .ok (.i2b, 1) := by decide +kernel
theorem dX12_store_88 : decode cX12_store 88 = .ok (.bastore, 1) := by decide +kernel
theorem dX12_store_89 : decode cX12_store 89 = .ok (.iinc 7 1, 3) := by decide +kernel
theorem dX12_store_92 : decode cX12_store 92 = .ok (.goto (-35), 3) := by decide +kernel
theorem dX12_store_95 : decode cX12_store 95 = .ok (.aload_n 0, 1) := by decide +kernel
theorem dX12_store_96 : decode cX12_store 96 = .ok (.getfield 152, 3) := by decide +kernel
theorem dX12_store_99 : decode cX12_store 99 = .ok (.iload_n 2, 1) := by decide +kernel
theorem dX12_store_100 : decode cX12_store 100 = .ok (.dup2, 1) := by decide +kernel
theorem dX12_store_101 : decode cX12_store 101 = .ok (.iaload, 1) := by decide +kernel
theorem dX12_store_102 : decode cX12_store 102 = .ok (.iconst 4, 1) := by decide +kernel
theorem dX12_store_103 : decode cX12_store 103 = .ok (.iadd, 1) := by decide +kernel
theorem dX12_store_104 : decode cX12_store 104 = .ok (.iastore, 1) := by decide +kernel
theorem dX12_store_105 : decode cX12_store 105 = .ok (.return_, 1) := by decide +kernel
def wb_X12_store_45  (S : q_S) (a0 : Nat) (x2 : Int32) (x4 : Int32) (Q : Option Value → q_S → Prop) : Prop := q_K S a0 = 13 ∧ (wm_X12_fails S a0 x2 (1 : Int32) x4 (fun r2_ S3_ => r2_ = none ∧ (Q none S3_)))
set_option maxHeartbeats 4000000 in
set_option maxRecDepth 100000 in
theorem cb_X12_store_45 {p : Program} {l : Launch} {e : Env} {s : State} {m : MethodId} {args : Array Value} {below : List Frame} {meth : Method} {c : Code} {D : va_G} {cy : Nat → ClassId} {lo : Nat}  {S : q_S} {a0 : Nat} {x2 : Int32} {x4 : Int32} {Q : Option Value → q_S → Prop} {H : Heap} {locs : List Loc} {ls : Array Slot} (X : q_X p s m args meth c RX12 cX12_store 8 none D cy lo)  (Y : q_Y D cy lo s S H locs) (hl : lv_has ls 8 [(0, .ref a0), (2, .int x2), (4, .int x4)]) (h : wb_X12_store_45 S a0 x2 x4 Q) : W p l e ({ frames := 4, cells := 0, slots := 0, locals := 94 } : Room) s m args below meth c H locs 0 0 (MQ below (q_Q D cy lo Q) args s 0 0 (fun q => lo ≤ q)) (F0 m 45 ls []) := by
  have hx := X.1
  have hb := X.2.1
  unfold wb_X12_store_45 at h
  refine lv_aload_n hx hb dX12_store_45 rfl (lv_at hl 0 rfl) ?_
  refine lv_iload_n hx hb dX12_store_46 rfl (lv_at hl 1 rfl) ?_
  refine lv_iconst (v := 1) hx hb dX12_store_47 (by decide) ?_
  refine lv_iload hx hb dX12_store_48 (lv_at hl 2 rfl) ?_
  obtain ⟨k1_, h⟩ := h
  refine q_callV X Y hl (cm_X12_fails h) mt_X12_fails mi_X12_fails ml_X12_521 (ci := 12) rfl k1_ (by decide) rfl rfl (by first | exact Nat.le_of_ble_eq_true rfl | simp [q_cat, q_catI, q_catJ, q_catR]) ⟨Nat.le_of_ble_eq_true rfl, Nat.le_of_ble_eq_true rfl⟩ ⟨Nat.le_of_ble_eq_true rfl, Nat.le_of_ble_eq_true rfl⟩ dX12_store_50 (fun r2_ S3_ H locs hp Y => ?_)
  obtain ⟨rfl, h⟩ := hp
  refine W.eq (g2 := F0 m 53 ls []) rfl ?_
  exact q_vret X Y (Nat.le_refl _) (Nat.le_refl _) h dX12_store_53
def wb_X12_store_57 (B57 : q_S → Nat → Int32 → Int32 → Int32 → Int32 → Int32 → Int32 → Prop) (S : q_S) (a0 : Nat) (x1 : Int32) (x2 : Int32) (x4 : Int32) (x5 : Int32) (x6 : Int32) (x7 : Int32) (Q : Option Value → q_S → Prop) : Prop := ((x6 ≤ x7 → (q_K S a0 = 13 ∧ (∃ a6_ : Nat, (q_P S 2468 a0) = some a6_ ∧ (q_K S a6_ = 21 ∧ (vp_in x2 (q_N S a6_) ∧ (vp_in x2 (q_N S a6_) ∧ (Q none (qs_A S a6_ x2.toNatClampNeg ((q_A S a6_ x2.toNatClampNeg) + (4 : Int32)))))))))) ∧ (¬ x6 ≤ x7 → (q_K S a0 = 13 ∧ (∃ a12_ : Nat, (q_P S 2466 a0) = some a12_ ∧ (q_K S a12_ = 20 ∧ (vp_in ((((8192 : Int32) * x1) + x4) + x7) (q_N S a12_) ∧ (B57 (qs_A S a12_ ((((8192 : Int32) * x1) + x4) + x7).toNatClampNeg (vp_nar .byte ((x5 >>> (((8 : Int32) * x7) &&& 31)).toInt8.toInt32))) a0 x1 x2 x4 x5 x6 (x7 + 1))))))))
set_option maxHeartbeats 4000000 in
set_option maxRecDepth 100000 in
theorem cb_X12_store_57 {p : Program} {l : Launch} {e : Env} {s : State} {m : MethodId} {args : Array Value} {below : List Frame} {meth : Method} {c : Code} {D : va_G} {cy : Nat → ClassId} {lo : Nat} {B57 : q_S → Nat → Int32 → Int32 → Int32 → Int32 → Int32 → Int32 → Prop} {S : q_S} {a0 : Nat} {x1 : Int32} {x2 : Int32} {x4 : Int32} {x5 : Int32} {x6 : Int32} {x7 : Int32} {Q : Option Value → q_S → Prop} {H : Heap} {locs : List Loc} {ls : Array Slot} (X : q_X p s m args meth c RX12 cX12_store 8 none D cy lo) (hB57 : ∀ (S : q_S) (a0 : Nat) (x1 : Int32) (x2 : Int32) (x4 : Int32) (x5 : Int32) (x6 : Int32) (x7 : Int32) (H : Heap) (locs : List Loc) (ls : Array Slot), B57 S a0 x1 x2 x4 x5 x6 x7 → q_Y D cy lo s S H locs → lv_has ls 8 [(0, .ref a0), (1, .int x1), (2, .int x2), (4, .int x4), (5, .int x5), (6, .int x6), (7, .int x7)] → W p l e ({ frames := 4, cells := 0, slots := 0, locals := 94 } : Room) s m args below meth c H locs 0 0 (MQ below (q_Q D cy lo Q) args s 0 0 (fun q => lo ≤ q)) (F0 m 57 ls [])) (Y : q_Y D cy lo s S H locs) (hl : lv_has ls 8 [(0, .ref a0), (1, .int x1), (2, .int x2), (4, .int x4), (5, .int x5), (6, .int x6), (7, .int x7)]) (h : wb_X12_store_57 B57 S a0 x1 x2 x4 x5 x6 x7 Q) : W p l e ({ frames := 4, cells := 0, slots := 0, locals := 94 } : Room) s m args below meth c H locs 0 0 (MQ below (q_Q D cy lo Q) args s 0 0 (fun q => lo ≤ q)) (F0 m 57 ls []) := by
  have hx := X.1
  have hb := X.2.1
  unfold wb_X12_store_57 at h
  refine lv_iload hx hb dX12_store_57 (lv_at hl 6 rfl) ?_
  refine lv_iload hx hb dX12_store_59 (lv_at hl 5 rfl) ?_
  refine lv_icmp_ge (tgt := 95) hx hb dX12_store_61 (by decide) (fun c4_ => ?_) (fun c4_ => ?_)
  · replace h := h.1 c4_
    refine lv_aload_n hx hb dX12_store_95 rfl (lv_at hl 0 rfl) ?_
    obtain ⟨k5_, h⟩ := h
    refine q_getP X Y kX12 68 rfl fl_X12_152 k5_ rfl dX12_store_96 ?_
    refine lv_iload_n hx hb dX12_store_99 rfl (lv_at hl 2 rfl) ?_
    refine lv_dup2_11 hx hb dX12_store_100 rfl (q_cat _) ?_
    obtain ⟨a6_, e7_, h⟩ := h
    refine q_nn [.int x2] e7_ ?_
    obtain ⟨k8_, h⟩ := h
    obtain ⟨i9_, h⟩ := h
    refine q_ild X Y k8_ i9_ dX12_store_101 ?_
    refine lv_iconst (v := 4) hx hb dX12_store_102 (by decide) ?_
    refine lv_iadd hx hb dX12_store_103 ?_
    refine q_nn [.int ((q_A S a6_ x2.toNatClampNeg) + (4 : Int32)), .int x2] e7_ ?_
    obtain ⟨i10_, h⟩ := h
    refine q_ist X Y k8_ i10_ dX12_store_104 (fun H locs Y => ?_)
    exact q_vret X Y (Nat.le_refl _) (Nat.le_refl _) h dX12_store_105
  · replace h := h.2 c4_
    refine lv_aload_n hx hb dX12_store_64 rfl (lv_at hl 0 rfl) ?_
    obtain ⟨k11_, h⟩ := h
    refine q_getP X Y kX12 66 rfl fl_X12_146 k11_ rfl dX12_store_65 ?_
    refine lv_sipush (v := 8192) hx hb dX12_store_68 (by decide) ?_
    refine lv_iload_n hx hb dX12_store_71 rfl (lv_at hl 1 rfl) ?_
    refine lv_imul hx hb dX12_store_72 ?_
    refine lv_iload hx hb dX12_store_73 (lv_at hl 3 rfl) ?_
    refine lv_iadd hx hb dX12_store_75 ?_
    refine lv_iload hx hb dX12_store_76 (lv_at hl 6 rfl) ?_
    refine lv_iadd hx hb dX12_store_78 ?_
    refine lv_iload hx hb dX12_store_79 (lv_at hl 4 rfl) ?_
    refine lv_bipush (v := 8) hx hb dX12_store_81 (by decide) ?_
    refine lv_iload hx hb dX12_store_83 (lv_at hl 6 rfl) ?_
    refine lv_imul hx hb dX12_store_85 ?_
    refine lv_ishr hx hb dX12_store_86 ?_
    refine lv_i2b hx hb dX12_store_87 rfl ?_
    obtain ⟨a12_, e13_, h⟩ := h
    refine q_nn [.int ((x5 >>> (((8 : Int32) * x7) &&& 31)).toInt8.toInt32), .int ((((8192 : Int32) * x1) + x4) + x7)] e13_ ?_
    obtain ⟨k14_, h⟩ := h
    obtain ⟨i15_, h⟩ := h
    refine q_bst X Y k14_ i15_ dX12_store_88 (fun H locs Y => ?_)
    refine lv_iinc (v := (x7 + 1)) (lv' := [(7, .int (x7 + 1)), (0, .ref a0), (1, .int x1), (2, .int x2), (4, .int x4), (5, .int x5), (6, .int x6)]) hx hb dX12_store_89 hl (k := 6) rfl (by first | rfl | decide) (by decide) (by first | rfl | simp [q_cat, q_catI, q_catJ, q_catR]) (fun ls hl => ?_)
    refine lv_goto (tgt := 57) hx hb dX12_store_92 (by decide) ?_
    exact hB57 _ _ _ _ _ _ _ _ _ _ _ h Y (lv_sub hl [1, 2, 3, 4, 5, 6, 0] rfl)
def wl_X12_store_57  : Nat → q_S → Nat → Int32 → Int32 → Int32 → Int32 → Int32 → Int32 → (Option Value → q_S → Prop) → Prop
  | 0, _, _, _, _, _, _, _, _, _ => False
  | n + 1, S, a0, x1, x2, x4, x5, x6, x7, Q => wb_X12_store_57 (fun S a0 x1 x2 x4 x5 x6 x7 => wl_X12_store_57 n S a0 x1 x2 x4 x5 x6 x7 Q) S a0 x1 x2 x4 x5 x6 x7 Q
set_option maxHeartbeats 4000000 in
set_option maxRecDepth 100000 in
theorem cl_X12_store_57 {p : Program} {l : Launch} {e : Env} {s : State} {m : MethodId} {args : Array Value} {below : List Frame} {meth : Method} {c : Code} {D : va_G} {cy : Nat → ClassId} {lo : Nat}  {Q : Option Value → q_S → Prop} (X : q_X p s m args meth c RX12 cX12_store 8 none D cy lo)  : ∀ (n : Nat) (S : q_S) (a0 : Nat) (x1 : Int32) (x2 : Int32) (x4 : Int32) (x5 : Int32) (x6 : Int32) (x7 : Int32) (H : Heap) (locs : List Loc) (ls : Array Slot), wl_X12_store_57 n S a0 x1 x2 x4 x5 x6 x7 Q → q_Y D cy lo s S H locs → lv_has ls 8 [(0, .ref a0), (1, .int x1), (2, .int x2), (4, .int x4), (5, .int x5), (6, .int x6), (7, .int x7)] → W p l e ({ frames := 4, cells := 0, slots := 0, locals := 94 } : Room) s m args below meth c H locs 0 0 (MQ below (q_Q D cy lo Q) args s 0 0 (fun q => lo ≤ q)) (F0 m 57 ls []) := by
  intro n
  induction n with
  | zero => intro S a0 x1 x2 x4 x5 x6 x7 H locs ls h; exact absurd h id
  | succ n ih => intro S a0 x1 x2 x4 x5 x6 x7 H locs ls h Y hl; exact cb_X12_store_57 X ih Y hl h
def wm_X12_store (S : q_S) (a0 : Nat) (x1 : Int32) (x2 : Int32) (x3 : Int32) (x4 : Int32) (x5 : Int32) (Q : Option Value → q_S → Prop) : Prop := (¬ ((1 : Int32) <<< (x3 &&& 31)) = 0) ∧ ((((x4 - x4 / ((1 : Int32) <<< (x3 &&& 31)) * ((1 : Int32) <<< (x3 &&& 31))) = 0 → (q_K S a0 = 13 ∧ (wm_X12_isWithin S a0 x1 x4 ((1 : Int32) <<< (x3 &&& 31)) (fun r19_ S20_ => ∃ x21_ : Int32, r19_ = some (.int x21_) ∧ (((x21_ = 0 → (wb_X12_store_45 S20_ a0 x2 x4 Q)) ∧ (¬ x21_ = 0 → (q_K S20_ a0 = 13 ∧ (wm_X12_isIn S20_ a0 x1 x4 (1 : Int32) (fun r24_ S25_ => ∃ x26_ : Int32, r24_ = some (.int x26_) ∧ (((¬ x26_ = 0 → (∃ n28_ : Nat, wl_X12_store_57 n28_ S25_ a0 x1 x2 x4 x5 ((1 : Int32) <<< (x3 &&& 31)) (0 : Int32) Q)) ∧ (x26_ = 0 → (wb_X12_store_45 S25_ a0 x2 x4 Q)))))))))))))) ∧ (¬ (x4 - x4 / ((1 : Int32) <<< (x3 &&& 31)) * ((1 : Int32) <<< (x3 &&& 31))) = 0 → (q_K S a0 = 13 ∧ (wm_X12_fails S a0 x2 (4 : Int32) x4 (fun r30_ S31_ => r30_ = none ∧ (Q none S31_)))))))
set_option maxHeartbeats 4000000 in
set_option maxRecDepth 100000 in
theorem cm_X12_store {l : Launch} {D : va_G} {cy : Nat → ClassId} {lo : Nat} {S : q_S} {a0 : Nat} {x1 : Int32} {x2 : Int32} {x3 : Int32} {x4 : Int32} {x5 : Int32} {Q : Option Value → q_S → Prop} (h : wm_X12_store S a0 x1 x2 x3 x4 x5 Q) : q_Met l D cy lo yX12_store cX12_store 8 none 4 94 0 0 [.ref a0, .int x1, .int x2, .int x3, .int x4, .int x5] S Q := by
  refine q_body (by decide) (by first | exact Nat.le_of_ble_eq_true rfl | simp [lg_sl, q_cat, q_catI, q_catJ, q_catR]) ?_
  intro p e s m below meth c ls X hnm Y hl
  have hx := X.1
  have hb := X.2.1
  have hl : lv_has ls 8 [(0, .ref a0), (1, .int x1), (2, .int x2), (3, .int x3), (4, .int x4), (5, .int x5)] := by first | exact hl | simpa [lv_args, q_cat, q_catI, q_catJ, q_catR] using hl
  generalize hargs : ([.ref a0, .int x1, .int x2, .int x3, .int x4, .int x5] : List Value).toArray = args at X ⊢
  unfold wm_X12_store at h
  refine lv_iconst (v := 1) hx hb dX12_store_0 (by decide) ?_
  refine lv_iload_n hx hb dX12_store_1 rfl (lv_at hl 3 rfl) ?_
  refine lv_ishl hx hb dX12_store_2 ?_
  refine lv_istore (i := 6) (lv' := [(6, .int ((1 : Int32) <<< (x3 &&& 31))), (0, .ref a0), (1, .int x1), (2, .int x2), (3, .int x3), (4, .int x4), (5, .int x5)]) hx hb dX12_store_3 hl (by decide) (by first | rfl | simp [q_cat, q_catI, q_catJ, q_catR]) (fun ls hl => ?_)
  refine lv_iload hx hb dX12_store_5 (lv_at hl 5 rfl) ?_
  refine lv_iload hx hb dX12_store_7 (lv_at hl 0 rfl) ?_
  obtain ⟨z16_, h⟩ := h
  refine lv_irem hx hb dX12_store_9 z16_ ?_
  refine lv_if_eq (tgt := 22) hx hb dX12_store_10 (by decide) (fun c17_ => ?_) (fun c17_ => ?_)
  · replace h := h.1 c17_
    refine lv_aload_n hx hb dX12_store_22 rfl (lv_at hl 1 rfl) ?_
    refine lv_iload_n hx hb dX12_store_23 rfl (lv_at hl 2 rfl) ?_
    refine lv_iload hx hb dX12_store_24 (lv_at hl 5 rfl) ?_
    refine lv_iload hx hb dX12_store_26 (lv_at hl 0 rfl) ?_
    obtain ⟨k18_, h⟩ := h
    refine q_callV X Y hl (cm_X12_isWithin h) mt_X12_isWithin mi_X12_isWithin ml_X12_553 (ci := 12) rfl k18_ (by decide) rfl rfl (by first | exact Nat.le_of_ble_eq_true rfl | simp [q_cat, q_catI, q_catJ, q_catR]) ⟨Nat.le_of_ble_eq_true rfl, Nat.le_of_ble_eq_true rfl⟩ ⟨Nat.le_of_ble_eq_true rfl, Nat.le_of_ble_eq_true rfl⟩ dX12_store_28 (fun r19_ S20_ H locs hp Y => ?_)
    obtain ⟨x21_, rfl, h⟩ := hp
    refine W.eq (g2 := F0 m 31 ls [.int x21_]) rfl ?_
    refine lv_if_eq (tgt := 45) hx hb dX12_store_31 (by decide) (fun c22_ => ?_) (fun c22_ => ?_)
    · replace h := h.1 c22_
      exact cb_X12_store_45 X Y (lv_sub hl [1, 3, 5] rfl) h
    · replace h := h.2 c22_
      refine lv_aload_n hx hb dX12_store_34 rfl (lv_at hl 1 rfl) ?_
      refine lv_iload_n hx hb dX12_store_35 rfl (lv_at hl 2 rfl) ?_
      refine lv_iload hx hb dX12_store_36 (lv_at hl 5 rfl) ?_
      refine lv_iconst (v := 1) hx hb dX12_store_38 (by decide) ?_
      obtain ⟨k23_, h⟩ := h
      refine q_callV X Y hl (cm_X12_isIn h) mt_X12_isIn mi_X12_isIn ml_X12_557 (ci := 12) rfl k23_ (by decide) rfl rfl (by first | exact Nat.le_of_ble_eq_true rfl | simp [q_cat, q_catI, q_catJ, q_catR]) ⟨Nat.le_of_ble_eq_true rfl, Nat.le_of_ble_eq_true rfl⟩ ⟨Nat.le_of_ble_eq_true rfl, Nat.le_of_ble_eq_true rfl⟩ dX12_store_39 (fun r24_ S25_ H locs hp Y => ?_)
      obtain ⟨x26_, rfl, h⟩ := hp
      refine W.eq (g2 := F0 m 42 ls [.int x26_]) rfl ?_
      refine lv_if_ne (tgt := 54) hx hb dX12_store_42 (by decide) (fun c27_ => ?_) (fun c27_ => ?_)
      · replace h := h.1 c27_
        refine lv_iconst (v := 0) hx hb dX12_store_54 (by decide) ?_
        refine lv_istore (i := 7) (lv' := [(7, .int (0 : Int32)), (6, .int ((1 : Int32) <<< (x3 &&& 31))), (0, .ref a0), (1, .int x1), (2, .int x2), (3, .int x3), (4, .int x4), (5, .int x5)]) hx hb dX12_store_55 hl (by decide) (by first | rfl | simp [q_cat, q_catI, q_catJ, q_catR]) (fun ls hl => ?_)
        obtain ⟨n28_, h⟩ := h
        exact cl_X12_store_57 X n28_ _ _ _ _ _ _ _ _ _ _ _ h Y (lv_sub hl [2, 3, 4, 6, 7, 1, 0] rfl)
      · replace h := h.2 c27_
        exact cb_X12_store_45 X Y (lv_sub hl [1, 3, 5] rfl) h
  · replace h := h.2 c17_
    refine lv_aload_n hx hb dX12_store_13 rfl (lv_at hl 1 rfl) ?_
    refine lv_iload_n hx hb dX12_store_14 rfl (lv_at hl 3 rfl) ?_
    refine lv_iconst (v := 4) hx hb dX12_store_15 (by decide) ?_
    refine lv_iload hx hb dX12_store_16 (lv_at hl 5 rfl) ?_
    obtain ⟨k29_, h⟩ := h
    refine q_callV X Y hl (cm_X12_fails h) mt_X12_fails mi_X12_fails ml_X12_521 (ci := 12) rfl k29_ (by decide) rfl rfl (by first | exact Nat.le_of_ble_eq_true rfl | simp [q_cat, q_catI, q_catJ, q_catR]) ⟨Nat.le_of_ble_eq_true rfl, Nat.le_of_ble_eq_true rfl⟩ ⟨Nat.le_of_ble_eq_true rfl, Nat.le_of_ble_eq_true rfl⟩ dX12_store_18 (fun r30_ S31_ H locs hp Y => ?_)
    obtain ⟨rfl, h⟩ := hp
    refine W.eq (g2 := F0 m 21 ls []) rfl ?_
    exact q_vret X Y (Nat.le_refl _) (Nat.le_refl _) h dX12_store_21
-- X12_reckoned
theorem ml_X12_566 : Cond.methodLink RX12 566 yX12_isBelow ∈ q_G := q_tb (i := 2360) (by decide +kernel) (by decide +kernel)
theorem mt_X12_isBelow : q_Mt yX12_isBelow cX12_isBelow 3 (some .boolean) 2 := ⟨q_tb (i := 2363) (by decide +kernel) (by decide +kernel), q_tb (i := 11) (by decide +kernel) (by decide +kernel), by decide +kernel, by decide +kernel, by decide +kernel⟩
theorem mi_X12_isBelow : Cond.instanceMethod yX12_isBelow ∈ q_G ∧ Cond.selects yX12_isBelow.cls yX12_isBelow yX12_isBelow ∈ q_G := ⟨q_tb (i := 2362) (by decide +kernel) (by decide +kernel), q_tp (i := 146) (q := (yX12_isBelow, 114)) (by decide +kernel) (by decide +kernel)⟩
theorem dX12_reckoned_0 : decode cX12_reckoned 0 = .ok (.iload_n 1, 1) := by decide +kernel
theorem dX12_reckoned_1 : decode cX12_reckoned 1 = .ok (.tableswitch 109 0 6 #[43, 47, 54, 65, 80, 84, 105], 43) := by decide +kernel
theorem dX12_reckoned_44 : decode cX12_reckoned 44 = .ok (.iload_n 2, 1) := by decide +kernel
theorem dX12_reckoned_45 : decode cX12_reckoned 45 = .ok (.iload_n 3, 1) := by decide +kernel
theorem dX12_reckoned_46 : decode cX12_reckoned 46 = .ok (.iadd, 1) := by decide +kernel
theorem dX12_reckoned_47 : decode cX12_reckoned 47 = .ok (.ireturn, 1) := by decide +kernel
theorem dX12_reckoned_48 : decode cX12_reckoned 48 = .ok (.iload_n 2, 1) := by decide +kernel
theorem dX12_reckoned_49 : decode cX12_reckoned 49 = .ok (.iload_n 3, 1) := by decide +kernel
theorem dX12_reckoned_50 : decode cX12_reckoned 50 = .ok (.bipush 31, 2) := by decide +kernel
theorem dX12_reckoned_52 : decode cX12_reckoned 52 = .ok (.iand, 1) := by decide +kernel
theorem dX12_reckoned_53 : decode cX12_reckoned 53 = .ok (.ishl, 1) := by decide +kernel
theorem dX12_reckoned_54 : decode cX12_reckoned 54 = .ok (.ireturn, 1) := by decide +kernel
theorem dX12_reckoned_55 : decode cX12_reckoned 55 = .ok (.iload_n 2, 1) := by decide +kernel
theorem dX12_reckoned_56 : decode cX12_reckoned 56 = .ok (.iload_n 3, 1) := by decide +kernel
theorem dX12_reckoned_57 : decode cX12_reckoned 57 = .ok (.if_icmp .ge 7, 3) := by decide +kernel
theorem dX12_reckoned_60 : decode cX12_reckoned 60 = .ok (.iconst 1, 1) := by decide +kernel
theorem dX12_reckoned_61 : decode cX12_reckoned 61 = .ok (.goto 4, 3) := by decide +kernel
theorem dX12_reckoned_64 : decode cX12_reckoned 64 = .ok (.iconst 0, 1) := by decide +kernel
theorem dX12_reckoned_65 : decode cX12_reckoned 65 = .ok (.ireturn, 1) := by decide +kernel
theorem dX12_reckoned_66 : decode cX12_reckoned 66 = .ok (.aload_n 0, 1) := by decide +kernel
theorem dX12_reckoned_67 : decode cX12_reckoned 67 = .ok (.iload_n 2, 1) := by decide +kernel
theorem dX12_reckoned_68 : decode cX12_reckoned 68 = .ok (.iload_n 3, 1) := by decide +kernel
theorem dX12_reckoned_69 : decode cX12_reckoned 69 = .ok (.invokevirtual 566, 3) := by decide +kernel
theorem dX12_reckoned_72 : decode cX12_reckoned 72 = .ok (.ifCond .eq 7, 3) := by decide +kernel
theorem dX12_reckoned_75 : decode cX12_reckoned 75 = .ok (.iconst 1, 1) := by decide +kernel
theorem dX12_reckoned_76 : decode cX12_reckoned 76 = .ok (.goto 4, 3) := by decide +kernel
theorem dX12_reckoned_79 : decode cX12_reckoned 79 = .ok (.iconst 0, 1) := by decide +kernel
theorem dX12_reckoned_80 : decode cX12_reckoned 80 = .ok (.ireturn, 1) := by decide +kernel
theorem dX12_reckoned_81 : decode cX12_reckoned 81 = .ok (.iload_n 2, 1) := by decide +kernel
theorem dX12_reckoned_82 : decode cX12_reckoned 82 = .ok (.iload_n 3, 1) := by decide +kernel
theorem dX12_reckoned_83 : decode cX12_reckoned 83 = .ok (.ixor, 1) := by decide +kernel
theorem dX12_reckoned_84 : decode cX12_reckoned 84 = .ok (.ireturn, 1) := by decide +kernel
theorem dX12_reckoned_85 : decode cX12_reckoned 85 = .ok (.iload 4, 2) := by decide +kernel
theorem dX12_reckoned_87 : decode cX12_reckoned 87 = .ok (.ifCond .eq 12, 3) := by decide +kernel
theorem dX12_reckoned_90 : decode cX12_reckoned 90 = .ok (.iload_n 2, 1) := by decide +kernel
theorem dX12_reckoned_91 : decode cX12_reckoned 91 = .ok (.iload_n 3, 1) := by decide +kernel
theorem dX12_reckoned_92 : decode cX12_reckoned 92 = .ok (.bipush 31, 2) := by decide +kernel
theorem dX12_reckoned_94 : decode cX12_reckoned 94 = .ok (.iand, 1) := by decide +kernel
theorem dX12_reckoned_95 : decode cX12_reckoned 95 = .ok (.ishr, 1) := by decide +kernel
theorem dX12_reckoned_96 : decode cX12_reckoned 96 = .ok (.goto 9, 3) := by decide +kernel
theorem dX12_reckoned_99 : decode cX12_reckoned 99 = .ok (.iload_n 2, 1) := by decide +kernel
theorem dX12_reckoned_100 : decode cX12_reckoned 100 = .ok (.iload_n 3, 1) := by decide +kernel
theorem dX12_reckoned_101 : decode cX12_reckoned 101 = .ok (.bipush 31, 2) := by decide +kernel
theorem dX12_reckoned_103 : decode cX12_reckoned 103 = .ok (.iand, 1) := by decide +kernel
theorem dX12_reckoned_104 : decode cX12_reckoned 104 = .ok (.iushr, 1) := by decide +kernel
theorem dX12_reckoned_105 : decode cX12_reckoned 105 = .ok (.ireturn, 1) := by decide +kernel
theorem dX12_reckoned_106 : decode cX12_reckoned 106 = .ok (.iload_n 2, 1) := by decide +kernel
theorem dX12_reckoned_107 : decode cX12_reckoned 107 = .ok (.iload_n 3, 1) := by decide +kernel
theorem dX12_reckoned_108 : decode cX12_reckoned 108 = .ok (.ior, 1) := by decide +kernel
theorem dX12_reckoned_109 : decode cX12_reckoned 109 = .ok (.ireturn, 1) := by decide +kernel
theorem dX12_reckoned_110 : decode cX12_reckoned 110 = .ok (.iload_n 2, 1) := by decide +kernel
theorem dX12_reckoned_111 : decode cX12_reckoned 111 = .ok (.iload_n 3, 1) := by decide +kernel
theorem dX12_reckoned_112 : decode cX12_reckoned 112 = .ok (.iand, 1) := by decide +kernel
theorem dX12_reckoned_113 : decode cX12_reckoned 113 = .ok (.ireturn, 1) := by decide +kernel
def wb_X12_reckoned_105  (S : q_S) (xs0 : Int32) (Q : Option Value → q_S → Prop) : Prop := Q (some (.int xs0)) S
set_option maxHeartbeats 4000000 in
set_option maxRecDepth 100000 in
theorem cb_X12_reckoned_105 {p : Program} {l : Launch} {e : Env} {s : State} {m : MethodId} {args : Array Value} {below : List Frame} {meth : Method} {c : Code} {D : va_G} {cy : Nat → ClassId} {lo : Nat}  {S : q_S} {xs0 : Int32} {Q : Option Value → q_S → Prop} {H : Heap} {locs : List Loc} {ls : Array Slot} (X : q_X p s m args meth c RX12 cX12_reckoned 5 (some .int) D cy lo)  (Y : q_Y D cy lo s S H locs) (hl : lv_has ls 5 []) (h : wb_X12_reckoned_105 S xs0 Q) : W p l e ({ frames := 1, cells := 0, slots := 0, locals := 22 } : Room) s m args below meth c H locs 0 0 (MQ below (q_Q D cy lo Q) args s 0 0 (fun q => lo ≤ q)) (F0 m 105 ls [.int xs0]) := by
  have hx := X.1
  have hb := X.2.1
  unfold wb_X12_reckoned_105 at h
  exact q_iret X Y rfl (Nat.le_refl _) (Nat.le_refl _) h dX12_reckoned_105
def wb_X12_reckoned_80  (S : q_S) (xs0 : Int32) (Q : Option Value → q_S → Prop) : Prop := Q (some (.int xs0)) S
set_option maxHeartbeats 4000000 in
set_option maxRecDepth 100000 in
theorem cb_X12_reckoned_80 {p : Program} {l : Launch} {e : Env} {s : State} {m : MethodId} {args : Array Value} {below : List Frame} {meth : Method} {c : Code} {D : va_G} {cy : Nat → ClassId} {lo : Nat}  {S : q_S} {xs0 : Int32} {Q : Option Value → q_S → Prop} {H : Heap} {locs : List Loc} {ls : Array Slot} (X : q_X p s m args meth c RX12 cX12_reckoned 5 (some .int) D cy lo)  (Y : q_Y D cy lo s S H locs) (hl : lv_has ls 5 []) (h : wb_X12_reckoned_80 S xs0 Q) : W p l e ({ frames := 1, cells := 0, slots := 0, locals := 22 } : Room) s m args below meth c H locs 0 0 (MQ below (q_Q D cy lo Q) args s 0 0 (fun q => lo ≤ q)) (F0 m 80 ls [.int xs0]) := by
  have hx := X.1
  have hb := X.2.1
  unfold wb_X12_reckoned_80 at h
  exact q_iret X Y rfl (Nat.le_refl _) (Nat.le_refl _) h dX12_reckoned_80
def wb_X12_reckoned_65  (S : q_S) (xs0 : Int32) (Q : Option Value → q_S → Prop) : Prop := Q (some (.int xs0)) S
set_option maxHeartbeats 4000000 in
set_option maxRecDepth 100000 in
theorem cb_X12_reckoned_65 {p : Program} {l : Launch} {e : Env} {s : State} {m : MethodId} {args : Array Value} {below : List Frame} {meth : Method} {c : Code} {D : va_G} {cy : Nat → ClassId} {lo : Nat}  {S : q_S} {xs0 : Int32} {Q : Option Value → q_S → Prop} {H : Heap} {locs : List Loc} {ls : Array Slot} (X : q_X p s m args meth c RX12 cX12_reckoned 5 (some .int) D cy lo)  (Y : q_Y D cy lo s S H locs) (hl : lv_has ls 5 []) (h : wb_X12_reckoned_65 S xs0 Q) : W p l e ({ frames := 1, cells := 0, slots := 0, locals := 22 } : Room) s m args below meth c H locs 0 0 (MQ below (q_Q D cy lo Q) args s 0 0 (fun q => lo ≤ q)) (F0 m 65 ls [.int xs0]) := by
  have hx := X.1
  have hb := X.2.1
  unfold wb_X12_reckoned_65 at h
  exact q_iret X Y rfl (Nat.le_refl _) (Nat.le_refl _) h dX12_reckoned_65
def wm_X12_reckoned (S : q_S) (a0 : Nat) (x1 : Int32) (x2 : Int32) (x3 : Int32) (x4 : Int32) (Q : Option Value → q_S → Prop) : Prop := (((x1.toInt < 0 ∨ 6 < x1.toInt) → (Q (some (.int (x2 &&& x3))) S)) ∧ ((x1 = (0 : Int32)) → (Q (some (.int (x2 + x3))) S)) ∧ ((x1 = (1 : Int32)) → (Q (some (.int (x2 <<< ((x3 &&& (31 : Int32)) &&& 31)))) S)) ∧ ((x1 = (2 : Int32)) → (((x3 ≤ x2 → (wb_X12_reckoned_65 S (0 : Int32) Q)) ∧ (¬ x3 ≤ x2 → (wb_X12_reckoned_65 S (1 : Int32) Q))))) ∧ ((x1 = (3 : Int32)) → (q_K S a0 = 13 ∧ (wm_X12_isBelow S a0 x2 x3 (fun r3_ S4_ => ∃ x5_ : Int32, r3_ = some (.int x5_) ∧ (((x5_ = 0 → (wb_X12_reckoned_80 S4_ (0 : Int32) Q)) ∧ (¬ x5_ = 0 → (wb_X12_reckoned_80 S4_ (1 : Int32) Q)))))))) ∧ ((x1 = (4 : Int32)) → (Q (some (.int (x2 ^^^ x3))) S)) ∧ ((x1 = (5 : Int32)) → (((x4 = 0 → (wb_X12_reckoned_105 S ((x2.toUInt32 >>> ((x3 &&& (31 : Int32)).toUInt32 &&& Int32.toUInt32 31)).toInt32) Q)) ∧ (¬ x4 = 0 → (wb_X12_reckoned_105 S (x2 >>> ((x3 &&& (31 : Int32)) &&& 31)) Q))))) ∧ ((x1 = (6 : Int32)) → (Q (some (.int (x2 ||| x3))) S)))
set_option maxHeartbeats 4000000 in
set_option maxRecDepth 100000 in
theorem cm_X12_reckoned {l : Launch} {D : va_G} {cy : Nat → ClassId} {lo : Nat} {S : q_S} {a0 : Nat} {x1 : Int32} {x2 : Int32} {x3 : Int32} {x4 : Int32} {Q : Option Value → q_S → Prop} (h : wm_X12_reckoned S a0 x1 x2 x3 x4 Q) : q_Met l D cy lo yX12_reckoned cX12_reckoned 5 (some .int) 1 22 0 0 [.ref a0, .int x1, .int x2, .int x3, .int x4] S Q := by
  refine q_body (by decide) (by first | exact Nat.le_of_ble_eq_true rfl | simp [lg_sl, q_cat, q_catI, q_catJ, q_catR]) ?_
  intro p e s m below meth c ls X hnm Y hl
  have hx := X.1
  have hb := X.2.1
  have hl : lv_has ls 5 [(0, .ref a0), (1, .int x1), (2, .int x2), (3, .int x3), (4, .int x4)] := by first | exact hl | simpa [lv_args, q_cat, q_catI, q_catJ, q_catR] using hl
  generalize hargs : ([.ref a0, .int x1, .int x2, .int x3, .int x4] : List Value).toArray = args at X ⊢
  unfold wm_X12_reckoned at h
  refine lv_iload_n hx hb dX12_reckoned_0 rfl (lv_at hl 1 rfl) ?_
  refine q_tsw (tgt := 110) hx hb dX12_reckoned_1 (by decide) (by decide) (fun c8_ => ?_) (fun j9_ hj_ c8_ => ?_)
  · replace h := h.1 c8_
    refine lv_iload_n hx hb dX12_reckoned_110 rfl (lv_at hl 2 rfl) ?_
    refine lv_iload_n hx hb dX12_reckoned_111 rfl (lv_at hl 3 rfl) ?_
    refine lv_iand hx hb dX12_reckoned_112 ?_
    exact q_iret X Y rfl (Nat.le_refl _) (Nat.le_refl _) h dX12_reckoned_113
  · match j9_, hj_, c8_ with
    | 0, _, c8_ =>
      refine ⟨43, 44, rfl, by decide, ?_⟩
      replace h := h.2.1 (q_eqI c8_ (by decide))
      refine lv_iload_n hx hb dX12_reckoned_44 rfl (lv_at hl 2 rfl) ?_
      refine lv_iload_n hx hb dX12_reckoned_45 rfl (lv_at hl 3 rfl) ?_
      refine lv_iadd hx hb dX12_reckoned_46 ?_
      exact q_iret X Y rfl (Nat.le_refl _) (Nat.le_refl _) h dX12_reckoned_47
    | 1, _, c8_ =>
      refine ⟨47, 48, rfl, by decide, ?_⟩
      replace h := h.2.2.1 (q_eqI c8_ (by decide))
      refine lv_iload_n hx hb dX12_reckoned_48 rfl (lv_at hl 2 rfl) ?_
      refine lv_iload_n hx hb dX12_reckoned_49 rfl (lv_at hl 3 rfl) ?_
      refine lv_bipush (v := 31) hx hb dX12_reckoned_50 (by decide) ?_
      refine lv_iand hx hb dX12_reckoned_52 ?_
      refine lv_ishl hx hb dX12_reckoned_53 ?_
      exact q_iret X Y rfl (Nat.le_refl _) (Nat.le_refl _) h dX12_reckoned_54
    | 2, _, c8_ =>
      refine ⟨54, 55, rfl, by decide, ?_⟩
      replace h := h.2.2.2.1 (q_eqI c8_ (by decide))
      refine lv_iload_n hx hb dX12_reckoned_55 rfl (lv_at hl 2 rfl) ?_
      refine lv_iload_n hx hb dX12_reckoned_56 rfl (lv_at hl 3 rfl) ?_
      refine lv_icmp_ge (tgt := 64) hx hb dX12_reckoned_57 (by decide) (fun c1_ => ?_) (fun c1_ => ?_)
      · replace h := h.1 c1_
        refine lv_iconst (v := 0) hx hb dX12_reckoned_64 (by decide) ?_
        exact cb_X12_reckoned_65 X Y (lv_sub hl [] rfl) h
      · replace h := h.2 c1_
        refine lv_iconst (v := 1) hx hb dX12_reckoned_60 (by decide) ?_
        refine lv_goto (tgt := 65) hx hb dX12_reckoned_61 (by decide) ?_
        exact cb_X12_reckoned_65 X Y (lv_sub hl [] rfl) h
    | 3, _, c8_ =>
      refine ⟨65, 66, rfl, by decide, ?_⟩
      replace h := h.2.2.2.2.1 (q_eqI c8_ (by decide))
      refine lv_aload_n hx hb dX12_reckoned_66 rfl (lv_at hl 0 rfl) ?_
      refine lv_iload_n hx hb dX12_reckoned_67 rfl (lv_at hl 2 rfl) ?_
      refine lv_iload_n hx hb dX12_reckoned_68 rfl (lv_at hl 3 rfl) ?_
      obtain ⟨k2_, h⟩ := h
      refine q_callV X Y hl (cm_X12_isBelow h) mt_X12_isBelow mi_X12_isBelow ml_X12_566 (ci := 12) rfl k2_ (by decide) rfl rfl (by first | exact Nat.le_of_ble_eq_true rfl | simp [q_cat, q_catI, q_catJ, q_catR]) ⟨Nat.le_of_ble_eq_true rfl, Nat.le_of_ble_eq_true rfl⟩ ⟨Nat.le_of_ble_eq_true rfl, Nat.le_of_ble_eq_true rfl⟩ dX12_reckoned_69 (fun r3_ S4_ H locs hp Y => ?_)
      obtain ⟨x5_, rfl, h⟩ := hp
      refine W.eq (g2 := F0 m 72 ls [.int x5_]) rfl ?_
      refine lv_if_eq (tgt := 79) hx hb dX12_reckoned_72 (by decide) (fun c6_ => ?_) (fun c6_ => ?_)
      · replace h := h.1 c6_
        refine lv_iconst (v := 0) hx hb dX12_reckoned_79 (by decide) ?_
        exact cb_X12_reckoned_80 X Y (lv_sub hl [] rfl) h
      · replace h := h.2 c6_
        refine lv_iconst (v := 1) hx hb dX12_reckoned_75 (by decide) ?_
        refine lv_goto (tgt := 80) hx hb dX12_reckoned_76 (by decide) ?_
        exact cb_X12_reckoned_80 X Y (lv_sub hl [] rfl) h
    | 4, _, c8_ =>
      refine ⟨80, 81, rfl, by decide, ?_⟩
      replace h := h.2.2.2.2.2.1 (q_eqI c8_ (by decide))
      refine lv_iload_n hx hb dX12_reckoned_81 rfl (lv_at hl 2 rfl) ?_
      refine lv_iload_n hx hb dX12_reckoned_82 rfl (lv_at hl 3 rfl) ?_
      refine lv_ixor hx hb dX12_reckoned_83 ?_
      exact q_iret X Y rfl (Nat.le_refl _) (Nat.le_refl _) h dX12_reckoned_84
    | 5, _, c8_ =>
      refine ⟨84, 85, rfl, by decide, ?_⟩
      replace h := h.2.2.2.2.2.2.1 (q_eqI c8_ (by decide))
      refine lv_iload hx hb dX12_reckoned_85 (lv_at hl 4 rfl) ?_
      refine lv_if_eq (tgt := 99) hx hb dX12_reckoned_87 (by decide) (fun c7_ => ?_) (fun c7_ => ?_)
      · replace h := h.1 c7_
        refine lv_iload_n hx hb dX12_reckoned_99 rfl (lv_at hl 2 rfl) ?_
        refine lv_iload_n hx hb dX12_reckoned_100 rfl (lv_at hl 3 rfl) ?_
        refine lv_bipush (v := 31) hx hb dX12_reckoned_101 (by decide) ?_
        refine lv_iand hx hb dX12_reckoned_103 ?_
        refine lv_iushr hx hb dX12_reckoned_104 rfl ?_
        exact cb_X12_reckoned_105 X Y (lv_sub hl [] rfl) h
      · replace h := h.2 c7_
        refine lv_iload_n hx hb dX12_reckoned_90 rfl (lv_at hl 2 rfl) ?_
        refine lv_iload_n hx hb dX12_reckoned_91 rfl (lv_at hl 3 rfl) ?_
        refine lv_bipush (v := 31) hx hb dX12_reckoned_92 (by decide) ?_
        refine lv_iand hx hb dX12_reckoned_94 ?_
        refine lv_ishr hx hb dX12_reckoned_95 ?_
        refine lv_goto (tgt := 105) hx hb dX12_reckoned_96 (by decide) ?_
        exact cb_X12_reckoned_105 X Y (lv_sub hl [] rfl) h
    | 6, _, c8_ =>
      refine ⟨105, 106, rfl, by decide, ?_⟩
      replace h := h.2.2.2.2.2.2.2 (q_eqI c8_ (by decide))
      refine lv_iload_n hx hb dX12_reckoned_106 rfl (lv_at hl 2 rfl) ?_
      refine lv_iload_n hx hb dX12_reckoned_107 rfl (lv_at hl 3 rfl) ?_
      refine lv_ior hx hb dX12_reckoned_108 ?_
      exact q_iret X Y rfl (Nat.le_refl _) (Nat.le_refl _) h dX12_reckoned_109
    | z_ + 7, hj_, _ => exact absurd hj_ (by simp)
