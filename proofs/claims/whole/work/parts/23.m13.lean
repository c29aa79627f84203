-- X12_waitsUntil
theorem dX12_waitsUntil_0 : decode cX12_waitsUntil 0 = .ok (.aload_n 0, 1) := by decide +kernel
theorem dX12_waitsUntil_1 : decode cX12_waitsUntil 1 = .ok (.getfield 206, 3) := by decide +kernel
theorem dX12_waitsUntil_4 : decode cX12_waitsUntil 4 = .ok (.aload_n 0, 1) := by decide +kernel
theorem dX12_waitsUntil_5 : decode cX12_waitsUntil 5 = .ok (.iload_n 1, 1) := by decide +kernel
theorem dX12_waitsUntil_6 : decode cX12_waitsUntil 6 = .ok (.invokevirtual 481, 3) := by decide +kernel
theorem dX12_waitsUntil_9 : decode cX12_waitsUntil 9 = .ok (.iaload, 1) := by decide +kernel
theorem dX12_waitsUntil_10 : decode cX12_waitsUntil 10 = .ok (.ifCond .gt 11, 3) := by decide +kernel
theorem dX12_waitsUntil_13 : decode cX12_waitsUntil 13 = .ok (.aload_n 0, 1) := by decide +kernel
theorem dX12_waitsUntil_14 : decode cX12_waitsUntil 14 = .ok (.iload_n 1, 1) := by decide +kernel
theorem dX12_waitsUntil_15 : decode cX12_waitsUntil 15 = .ok (.invokevirtual 493, 3) := by decide +kernel
theorem dX12_waitsUntil_18 : decode cX12_waitsUntil 18 = .ok (.ifCond .eq 5, 3) := by decide +kernel
theorem dX12_waitsUntil_21 : decode cX12_waitsUntil 21 = .ok (.iconst 3, 1) := by decide +kernel
theorem dX12_waitsUntil_22 : decode cX12_waitsUntil 22 = .ok (.ireturn, 1) := by decide +kernel
theorem dX12_waitsUntil_23 : decode cX12_waitsUntil 23 = .ok (.aload_n 0, 1) := by decide +kernel
theorem dX12_waitsUntil_24 : decode cX12_waitsUntil 24 = .ok (.getfield 149, 3) := by decide +kernel
theorem dX12_waitsUntil_27 : decode cX12_waitsUntil 27 = .ok (.iload_n 1, 1) := by decide +kernel
theorem dX12_waitsUntil_28 : decode cX12_waitsUntil 28 = .ok (.iconst 2, 1) := by decide +kernel
theorem dX12_waitsUntil_29 : decode cX12_waitsUntil 29 = .ok (.iastore, 1) := by decide +kernel
theorem dX12_waitsUntil_30 : decode cX12_waitsUntil 30 = .ok (.aload_n 0, 1) := by decide +kernel
theorem dX12_waitsUntil_31 : decode cX12_waitsUntil 31 = .ok (.getfield 182, 3) := by decide +kernel
theorem dX12_waitsUntil_34 : decode cX12_waitsUntil 34 = .ok (.iload_n 1, 1) := by decide +kernel
theorem dX12_waitsUntil_35 : decode cX12_waitsUntil 35 = .ok (.iconst 0, 1) := by decide +kernel
theorem dX12_waitsUntil_36 : decode cX12_waitsUntil 36 = .ok (.iastore, 1) := by decide +kernel
theorem dX12_waitsUntil_37 : decode cX12_waitsUntil 37 = .ok (.aload_n 0, 1) := by decide +kernel
theorem dX12_waitsUntil_38 : decode cX12_waitsUntil 38 = .ok (.getfield 164, 3) := by decide +kernel
theorem dX12_waitsUntil_41 : decode cX12_waitsUntil 41 = .ok (.iload_n 1, 1) := by decide +kernel
theorem dX12_waitsUntil_42 : decode cX12_waitsUntil 42 = .ok (.iload_n 2, 1) := by decide +kernel
theorem dX12_waitsUntil_43 : decode cX12_waitsUntil 43 = .ok (.iastore, 1) := by decide +kernel
theorem dX12_waitsUntil_44 : decode cX12_waitsUntil 44 = .ok (.iconst 0, 1) := by decide +kernel
theorem dX12_waitsUntil_45 : decode cX12_waitsUntil 45 = .ok (.ireturn, 1) := by decide +kernel
def wb_X12_waitsUntil_21  (S : q_S) (Q : Option Value → q_S → Prop) : Prop := Q (some (.int (3 : Int32))) S
set_option maxHeartbeats 4000000 in
set_option maxRecDepth 100000 in
theorem cb_X12_waitsUntil_21 {p : Program} {l : Launch} {e : Env} {s : State} {m : MethodId} {args : Array Value} {below : List Frame} {meth : Method} {c : Code} {D : va_G} {cy : Nat → ClassId} {lo : Nat}  {S : q_S} {Q : Option Value → q_S → Prop} {H : Heap} {locs : List Loc} {ls : Array Slot} (X : q_X p s m args meth c RX12 cX12_waitsUntil 3 (some .int) D cy lo)  (Y : q_Y D cy lo s S H locs) (hl : lv_has ls 3 []) (h : wb_X12_waitsUntil_21 S Q) : W p l e ({ frames := 2, cells := 0, slots := 0, locals := 42 } : Room) s m args below meth c H locs 0 0 (MQ below (q_Q D cy lo Q) args s 0 0 (fun q => lo ≤ q)) (F0 m 21 ls []) := by
  have hx := X.1
  have hb := X.2.1
  unfold wb_X12_waitsUntil_21 at h
  refine lv_iconst (v := 3) hx hb dX12_waitsUntil_21 (by decide) ?_
  exact q_iret X Y rfl (Nat.le_refl _) (Nat.le_refl _) h dX12_waitsUntil_22
def wm_X12_waitsUntil (S : q_S) (a0 : Nat) (x1 : Int32) (x2 : Int32) (Q : Option Value → q_S → Prop) : Prop := q_K S a0 = 13 ∧ (wm_X12_partitionOf S a0 x1 (fun r2_ S3_ => ∃ x4_ : Int32, r2_ = some (.int x4_) ∧ (∃ a5_ : Nat, (q_P S 2486 a0) = some a5_ ∧ (q_K S3_ a5_ = 21 ∧ (vp_in x4_ (q_N S3_ a5_) ∧ (((0 < (q_A S3_ a5_ x4_.toNatClampNeg) → (wb_X12_waitsUntil_21 S3_ Q)) ∧ (¬ 0 < (q_A S3_ a5_ x4_.toNatClampNeg) → (q_K S3_ a0 = 13 ∧ (wm_X12_isHandler S3_ a0 x1 (fun r11_ S12_ => ∃ x13_ : Int32, r11_ = some (.int x13_) ∧ (((x13_ = 0 → (q_K S12_ a0 = 13 ∧ (∃ a16_ : Nat, (q_P S12_ 2467 a0) = some a16_ ∧ (q_K S12_ a16_ = 21 ∧ (vp_in x1 (q_N S12_ a16_) ∧ (∃ a20_ : Nat, (q_P (qs_A S12_ a16_ x1.toNatClampNeg (2 : Int32)) 2478 a0) = some a20_ ∧ (q_K (qs_A S12_ a16_ x1.toNatClampNeg (2 : Int32)) a20_ = 21 ∧ (vp_in x1 (q_N (qs_A S12_ a16_ x1.toNatClampNeg (2 : Int32)) a20_) ∧ (∃ a24_ : Nat, (q_P (qs_A (qs_A S12_ a16_ x1.toNatClampNeg (2 : Int32)) a20_ x1.toNatClampNeg (0 : Int32)) 2472 a0) = some a24_ ∧ (q_K (qs_A (qs_A S12_ a16_ x1.toNatClampNeg (2 : Int32)) a20_ x1.toNatClampNeg (0 : Int32)) a24_ = 21 ∧ (vp_in x1 (q_N (qs_A (qs_A S12_ a16_ x1.toNatClampNeg (2 : Int32)) a20_ x1.toNatClampNeg (0 : Int32)) a24_) ∧ (∀ S28_ : q_S, S28_ = (qs_A (qs_A (qs_A S12_ a16_ x1.toNatClampNeg (2 : Int32)) a20_ x1.toNatClampNeg (0 : Int32)) a24_ x1.toNatClampNeg x2) → (Q (some (.int (0 : Int32))) S28_))))))))))))) ∧ (¬ x13_ = 0 → (wb_X12_waitsUntil_21 S12_ Q)))))))))))))))
set_option maxHeartbeats 4000000 in
set_option maxRecDepth 100000 in
theorem cm_X12_waitsUntil {l : Launch} {D : va_G} {cy : Nat → ClassId} {lo : Nat} {S : q_S} {a0 : Nat} {x1 : Int32} {x2 : Int32} {Q : Option Value → q_S → Prop} (h : wm_X12_waitsUntil S a0 x1 x2 Q) : q_Met l D cy lo yX12_waitsUntil cX12_waitsUntil 3 (some .int) 2 42 0 0 [.ref a0, .int x1, .int x2] S Q := by
  refine q_body (by decide) (by first | exact Nat.le_of_ble_eq_true rfl | simp [lg_sl, q_cat, q_catI, q_catJ, q_catR]) ?_
  intro p e s m below meth c ls X hnm Y hl
  have hx := X.1
  have hb := X.2.1
  have hl : lv_has ls 3 [(0, .ref a0), (1, .int x1), (2, .int x2)] := by first | exact hl | simpa [lv_args, q_cat, q_catI, q_catJ, q_catR] using hl
  generalize hargs : ([.ref a0, .int x1, .int x2] : List Value).toArray = args at X ⊢
  unfold wm_X12_waitsUntil at h
  refine lv_aload_n hx hb dX12_waitsUntil_0 rfl (lv_at hl 0 rfl) ?_
  obtain ⟨k1_, h⟩ := h
  refine q_getP X Y kX12 86 rfl fl_X12_206 k1_ rfl dX12_waitsUntil_1 ?_
  refine lv_aload_n hx hb dX12_waitsUntil_4 rfl (lv_at hl 0 rfl) ?_
  refine lv_iload_n hx hb dX12_waitsUntil_5 rfl (lv_at hl 1 rfl) ?_
  refine q_callV X Y hl (cm_X12_partitionOf h) mt_X12_partitionOf mi_X12_partitionOf ml_X12_481 (ci := 12) rfl k1_ (by decide) rfl rfl (by first | exact Nat.le_of_ble_eq_true rfl | simp [q_cat, q_catI, q_catJ, q_catR]) ⟨Nat.le_of_ble_eq_true rfl, Nat.le_of_ble_eq_true rfl⟩ ⟨Nat.le_of_ble_eq_true rfl, Nat.le_of_ble_eq_true rfl⟩ dX12_waitsUntil_6 (fun r2_ S3_ H locs hp Y => ?_)
  obtain ⟨x4_, rfl, h⟩ := hp
  refine W.eq (g2 := F0 m 9 ls [.int x4_, va_rf (q_P S 2486 a0)]) rfl ?_
  obtain ⟨a5_, e6_, h⟩ := h
  refine q_nn [.int x4_] e6_ ?_
  obtain ⟨k7_, h⟩ := h
  obtain ⟨i8_, h⟩ := h
  refine q_ild X Y k7_ i8_ dX12_waitsUntil_9 ?_
  refine lv_if_gt (tgt := 21) hx hb dX12_waitsUntil_10 (by decide) (fun c9_ => ?_) (fun c9_ => ?_)
  · replace h := h.1 c9_
    exact cb_X12_waitsUntil_21 X Y (lv_sub hl [] rfl) h
  · replace h := h.2 c9_
    refine lv_aload_n hx hb dX12_waitsUntil_13 rfl (lv_at hl 0 rfl) ?_
    refine lv_iload_n hx hb dX12_waitsUntil_14 rfl (lv_at hl 1 rfl) ?_
    obtain ⟨k10_, h⟩ := h
    refine q_callV X Y hl (cm_X12_isHandler h) mt_X12_isHandler mi_X12_isHandler ml_X12_493 (ci := 12) rfl k10_ (by decide) rfl rfl (by first | exact Nat.le_of_ble_eq_true rfl | simp [q_cat, q_catI, q_catJ, q_catR]) ⟨Nat.le_of_ble_eq_true rfl, Nat.le_of_ble_eq_true rfl⟩ ⟨Nat.le_of_ble_eq_true rfl, Nat.le_of_ble_eq_true rfl⟩ dX12_waitsUntil_15 (fun r11_ S12_ H locs hp Y => ?_)
    obtain ⟨x13_, rfl, h⟩ := hp
    refine W.eq (g2 := F0 m 18 ls [.int x13_]) rfl ?_
    refine lv_if_eq (tgt := 23) hx hb dX12_waitsUntil_18 (by decide) (fun c14_ => ?_) (fun c14_ => ?_)
    · replace h := h.1 c14_
      refine lv_aload_n hx hb dX12_waitsUntil_23 rfl (lv_at hl 0 rfl) ?_
      obtain ⟨k15_, h⟩ := h
      refine q_getP X Y kX12 67 rfl fl_X12_149 k15_ rfl dX12_waitsUntil_24 ?_
      refine lv_iload_n hx hb dX12_waitsUntil_27 rfl (lv_at hl 1 rfl) ?_
      refine lv_iconst (v := 2) hx hb dX12_waitsUntil_28 (by decide) ?_
      obtain ⟨a16_, e17_, h⟩ := h
      refine q_nn [.int (2 : Int32), .int x1] e17_ ?_
      obtain ⟨k18_, h⟩ := h
      obtain ⟨i19_, h⟩ := h
      refine q_ist X Y k18_ i19_ dX12_waitsUntil_29 (fun H locs Y => ?_)
      refine lv_aload_n hx hb dX12_waitsUntil_30 rfl (lv_at hl 0 rfl) ?_
      refine q_getP X Y kX12 78 rfl fl_X12_182 k15_ rfl dX12_waitsUntil_31 ?_
      refine lv_iload_n hx hb dX12_waitsUntil_34 rfl (lv_at hl 1 rfl) ?_
      refine lv_iconst (v := 0) hx hb dX12_waitsUntil_35 (by decide) ?_
      obtain ⟨a20_, e21_, h⟩ := h
      refine q_nn [.int (0 : Int32), .int x1] e21_ ?_
      obtain ⟨k22_, h⟩ := h
      obtain ⟨i23_, h⟩ := h
      refine q_ist X Y k22_ i23_ dX12_waitsUntil_36 (fun H locs Y => ?_)
      refine lv_aload_n hx hb dX12_waitsUntil_37 rfl (lv_at hl 0 rfl) ?_
      refine q_getP X Y kX12 72 rfl fl_X12_164 k15_ rfl dX12_waitsUntil_38 ?_
      refine lv_iload_n hx hb dX12_waitsUntil_41 rfl (lv_at hl 1 rfl) ?_
      refine lv_iload_n hx hb dX12_waitsUntil_42 rfl (lv_at hl 2 rfl) ?_
      obtain ⟨a24_, e25_, h⟩ := h
      refine q_nn [.int x2, .int x1] e25_ ?_
      obtain ⟨k26_, h⟩ := h
      obtain ⟨i27_, h⟩ := h
      refine q_ist X Y k26_ i27_ dX12_waitsUntil_43 (fun H locs Y => ?_)
      obtain ⟨S28_, gS28_⟩ : ∃ z : q_S, z = (qs_A (qs_A (qs_A S12_ a16_ x1.toNatClampNeg (2 : Int32)) a20_ x1.toNatClampNeg (0 : Int32)) a24_ x1.toNatClampNeg x2) := ⟨_, rfl⟩
      replace Y : q_Y D cy lo s S28_ H locs := by rw [gS28_]; exact Y
      replace h := h S28_ gS28_
      replace k15_ : q_K S28_ a0 = 13 := by rw [gS28_]; exact k15_
      replace k18_ : q_K S28_ a16_ = 21 := by rw [gS28_]; exact k18_
      replace k22_ : q_K S28_ a20_ = 21 := by rw [gS28_]; exact k22_
      replace k26_ : q_K S28_ a24_ = 21 := by rw [gS28_]; exact k26_
      refine lv_iconst (v := 0) hx hb dX12_waitsUntil_44 (by decide) ?_
      exact q_iret X Y rfl (Nat.le_refl _) (Nat.le_refl _) h dX12_waitsUntil_45
    · replace h := h.2 c14_
      exact cb_X12_waitsUntil_21 X Y (lv_sub hl [] rfl) h
-- X12_periodic
theorem ml_X12_603 : Cond.methodLink RX12 603 yX12_waitsUntil ∈ q_G := q_tb (i := 2389) (by decide +kernel) (by decide +kernel)
theorem mt_X12_waitsUntil : q_Mt yX12_waitsUntil cX12_waitsUntil 3 (some .int) 2 := ⟨q_tb (i := 2392) (by decide +kernel) (by decide +kernel), q_tb (i := 11) (by decide +kernel) (by decide +kernel), by decide +kernel, by decide +kernel, by decide +kernel⟩
theorem mi_X12_waitsUntil : Cond.instanceMethod yX12_waitsUntil ∈ q_G ∧ Cond.selects yX12_waitsUntil.cls yX12_waitsUntil yX12_waitsUntil ∈ q_G := ⟨q_tb (i := 2391) (by decide +kernel) (by decide +kernel), q_tp (i := 153) (q := (yX12_waitsUntil, 114)) (by decide +kernel) (by decide +kernel)⟩
theorem dX12_periodic_0 : decode cX12_periodic 0 = .ok (.aload_n 0, 1) := by decide +kernel
theorem dX12_periodic_1 : decode cX12_periodic 1 = .ok (.iload_n 1, 1) := by decide +kernel
theorem dX12_periodic_2 : decode cX12_periodic 2 = .ok (.aload_n 0, 1) := by decide +kernel
theorem dX12_periodic_3 : decode cX12_periodic 3 = .ok (.getfield 167, 3) := by decide +kernel
theorem dX12_periodic_6 : decode cX12_periodic 6 = .ok (.iload_n 1, 1) := by decide +kernel
theorem dX12_periodic_7 : decode cX12_periodic 7 = .ok (.iaload, 1) := by decide +kernel
theorem dX12_periodic_8 : decode cX12_periodic 8 = .ok (.aload_n 0, 1) := by decide +kernel
theorem dX12_periodic_9 : decode cX12_periodic 9 = .ok (.getfield 69, 3) := by decide +kernel
theorem dX12_periodic_12 : decode cX12_periodic 12 = .ok (.iload_n 1, 1) := by decide +kernel
theorem dX12_periodic_13 : decode cX12_periodic 13 = .ok (.iaload, 1) := by decide +kernel
theorem dX12_periodic_14 : decode cX12_periodic 14 = .ok (.iadd, 1) := by decide +kernel
theorem dX12_periodic_15 : decode cX12_periodic 15 = .ok (.invokevirtual 603, 3) := by decide +kernel
theorem dX12_periodic_18 : decode cX12_periodic 18 = .ok (.istore_n 2, 1) := by decide +kernel
theorem dX12_periodic_19 : decode cX12_periodic 19 = .ok (.iload_n 2, 1) := by decide +kernel
theorem dX12_periodic_20 : decode cX12_periodic 20 = .ok (.ifCond .eq 5, 3) := by decide +kernel
theorem dX12_periodic_23 : decode cX12_periodic 23 = .ok (.iload_n 2, 1) := by decide +kernel
theorem dX12_periodic_24 : decode cX12_periodic 24 = .ok (.ireturn, 1) := by decide +kernel
theorem dX12_periodic_25 : decode cX12_periodic 25 = .ok (.aload_n 0, 1) := by decide +kernel
theorem dX12_periodic_26 : decode cX12_periodic 26 = .ok (.getfield 167, 3) := by decide +kernel
theorem dX12_periodic_29 : decode cX12_periodic 29 = .ok (.iload_n 1, 1) := by decide +kernel
theorem dX12_periodic_30 : decode cX12_periodic 30 = .ok (.dup2, 1) := by decide +kernel
theorem dX12_periodic_31 : decode cX12_periodic 31 = .ok (.iaload, 1) := by decide +kernel
theorem dX12_periodic_32 : decode cX12_periodic 32 = .ok (.aload_n 0, 1) := by decide +kernel
theorem dX12_periodic_33 : decode cX12_periodic 33 = .ok (.getfield 69, 3) := by decide +kernel
theorem dX12_periodic_36 : decode cX12_periodic 36 = .ok (.iload_n 1, 1) := by decide +kernel
theorem dX12_periodic_37 : decode cX12_periodic 37 = .ok (.iaload, 1) := by decide +kernel
theorem dX12_periodic_38 : decode cX12_periodic 38 = .ok (.iadd, 1) := by decide +kernel
theorem dX12_periodic_39 : decode cX12_periodic 39 = .ok (.iastore, 1) := by decide +kernel
theorem dX12_periodic_40 : decode cX12_periodic 40 = .ok (.aload_n 0, 1) := by decide +kernel
theorem dX12_periodic_41 : decode cX12_periodic 41 = .ok (.getfield 72, 3) := by decide +kernel
theorem dX12_periodic_44 : decode cX12_periodic 44 = .ok (.iload_n 1, 1) := by decide +kernel
theorem dX12_periodic_45 : decode cX12_periodic 45 = .ok (.iaload, 1) := by decide +kernel
theorem dX12_periodic_46 : decode cX12_periodic 46 = .ok (.ifCond .le 29, 3) := by decide +kernel
theorem dX12_periodic_49 : decode cX12_periodic 49 = .ok (.aload_n 0, 1) := by decide +kernel
theorem dX12_periodic_50 : decode cX12_periodic 50 = .ok (.getfield 158, 3) := by decide +kernel
theorem dX12_periodic_53 : decode cX12_periodic 53 = .ok (.iload_n 1, 1) := by decide +kernel
theorem dX12_periodic_54 : decode cX12_periodic 54 = .ok (.iconst 1, 1) := by decide +kernel
theorem dX12_periodic_55 : decode cX12_periodic 55 = .ok (.bastore, 1) := by decide +kernel
theorem dX12_periodic_56 : decode cX12_periodic 56 = .ok (.aload_n 0, 1) := by decide +kernel
theorem dX12_periodic_57 : decode cX12_periodic 57 = .ok (.getfield 161, 3) := by decide +kernel
theorem dX12_periodic_60 : decode cX12_periodic 60 = .ok (.iload_n 1, 1) := by decide +kernel
theorem dX12_periodic_61 : decode cX12_periodic 61 = .ok (.aload_n 0, 1) := by decide +kernel
theorem dX12_periodic_62 : decode cX12_periodic 62 = .ok (.getfield 167, 3) := by decide +kernel
theorem dX12_periodic_65 : decode cX12_periodic 65 = .ok (.iload_n 1, 1) := by decide +kernel
theorem dX12_periodic_66 : decode cX12_periodic 66 = .ok (.iaload, 1) := by decide +kernel
theorem dX12_periodic_67 : decode cX12_periodic 67 = .ok (.aload_n 0, 1) := by decide +kernel
theorem dX12_periodic_68 : decode cX12_periodic 68 = .ok (.getfield 72, 3) := by decide +kernel
theorem dX12_periodic_71 : decode cX12_periodic 71 = .ok (.iload_n 1, 1) := by decide +kernel
theorem dX12_periodic_72 : decode cX12_periodic 72 = .ok (.iaload, 1) := by decide +kernel
theorem dX12_periodic_73 : decode cX12_periodic 73 = .ok (.iadd, 1) := by decide +kernel
theorem dX12_periodic_74 : decode cX12_periodic 74 = .ok (.iastore, 1) := by decide +kernel
theorem dX12_periodic_75 : decode cX12_periodic 75 = .ok (.iconst 0, 1) := by decide +kernel
theorem dX12_periodic_76 : decode cX12_periodic 76 = .ok (.ireturn, 1) := by decide +kernel
def wb_X12_periodic_75  (S : q_S) (Q : Option Value → q_S → Prop) : Prop := Q (some (.int (0 : Int32))) S
set_option maxHeartbeats 4000000 in
set_option maxRecDepth 100000 in
theorem cb_X12_periodic_75 {p : Program} {l : Launch} {e : Env} {s : State} {m : MethodId} {args : Array Value} {below : List Frame} {meth : Method} {c : Code} {D : va_G} {cy : Nat → ClassId} {lo : Nat}  {S : q_S} {Q : Option Value → q_S → Prop} {H : Heap} {locs : List Loc} {ls : Array Slot} (X : q_X p s m args meth c RX12 cX12_periodic 3 (some .int) D cy lo)  (Y : q_Y D cy lo s S H locs) (hl : lv_has ls 3 []) (h : wb_X12_periodic_75 S Q) : W p l e ({ frames := 3, cells := 0, slots := 0, locals := 64 } : Room) s m args below meth c H locs 0 0 (MQ below (q_Q D cy lo Q) args s 0 0 (fun q => lo ≤ q)) (F0 m 75 ls []) := by
  have hx := X.1
  have hb := X.2.1
  unfold wb_X12_periodic_75 at h
  refine lv_iconst (v := 0) hx hb dX12_periodic_75 (by decide) ?_
  exact q_iret X Y rfl (Nat.le_refl _) (Nat.le_refl _) h dX12_periodic_76
def wm_X12_periodic (S : q_S) (a0 : Nat) (x1 : Int32) (Q : Option Value → q_S → Prop) : Prop := q_K S a0 = 13 ∧ (∃ a2_ : Nat, (q_P S 2473 a0) = some a2_ ∧ (q_K S a2_ = 21 ∧ (vp_in x1 (q_N S a2_) ∧ (∃ a6_ : Nat, (q_P S 2438 a0) = some a6_ ∧ (q_K S a6_ = 21 ∧ (vp_in x1 (q_N S a6_) ∧ (wm_X12_waitsUntil S a0 x1 ((q_A S a2_ x1.toNatClampNeg) + (q_A S a6_ x1.toNatClampNeg)) (fun r10_ S11_ => ∃ x12_ : Int32, r10_ = some (.int x12_) ∧ (((x12_ = 0 → (q_K S11_ a0 = 13 ∧ (∃ a15_ : Nat, (q_P S11_ 2473 a0) = some a15_ ∧ (q_K S11_ a15_ = 21 ∧ (vp_in x1 (q_N S11_ a15_) ∧ (∃ a19_ : Nat, (q_P S11_ 2438 a0) = some a19_ ∧ (q_K S11_ a19_ = 21 ∧ (vp_in x1 (q_N S11_ a19_) ∧ (vp_in x1 (q_N S11_ a15_) ∧ (∃ a24_ : Nat, (q_P (qs_A S11_ a15_ x1.toNatClampNeg ((q_A S11_ a15_ x1.toNatClampNeg) + (q_A S11_ a19_ x1.toNatClampNeg))) 2439 a0) = some a24_ ∧ (q_K (qs_A S11_ a15_ x1.toNatClampNeg ((q_A S11_ a15_ x1.toNatClampNeg) + (q_A S11_ a19_ x1.toNatClampNeg))) a24_ = 21 ∧ (vp_in x1 (q_N (qs_A S11_ a15_ x1.toNatClampNeg ((q_A S11_ a15_ x1.toNatClampNeg) + (q_A S11_ a19_ x1.toNatClampNeg))) a24_) ∧ ((((q_A (qs_A S11_ a15_ x1.toNatClampNeg ((q_A S11_ a15_ x1.toNatClampNeg) + (q_A S11_ a19_ x1.toNatClampNeg))) a24_ x1.toNatClampNeg) ≤ 0 → (wb_X12_periodic_75 (qs_A S11_ a15_ x1.toNatClampNeg ((q_A S11_ a15_ x1.toNatClampNeg) + (q_A S11_ a19_ x1.toNatClampNeg))) Q)) ∧ (¬ (q_A (qs_A S11_ a15_ x1.toNatClampNeg ((q_A S11_ a15_ x1.toNatClampNeg) + (q_A S11_ a19_ x1.toNatClampNeg))) a24_ x1.toNatClampNeg) ≤ 0 → (∃ a29_ : Nat, (q_P (qs_A S11_ a15_ x1.toNatClampNeg ((q_A S11_ a15_ x1.toNatClampNeg) + (q_A S11_ a19_ x1.toNatClampNeg))) 2470 a0) = some a29_ ∧ (q_K (qs_A S11_ a15_ x1.toNatClampNeg ((q_A S11_ a15_ x1.toNatClampNeg) + (q_A S11_ a19_ x1.toNatClampNeg))) a29_ = 22 ∧ (vp_in x1 (q_N (qs_A S11_ a15_ x1.toNatClampNeg ((q_A S11_ a15_ x1.toNatClampNeg) + (q_A S11_ a19_ x1.toNatClampNeg))) a29_) ∧ (∃ a33_ : Nat, (q_P (qs_A (qs_A S11_ a15_ x1.toNatClampNeg ((q_A S11_ a15_ x1.toNatClampNeg) + (q_A S11_ a19_ x1.toNatClampNeg))) a29_ x1.toNatClampNeg (vp_nar .boolean (1 : Int32))) 2473 a0) = some a33_ ∧ (q_K (qs_A (qs_A S11_ a15_ x1.toNatClampNeg ((q_A S11_ a15_ x1.toNatClampNeg) + (q_A S11_ a19_ x1.toNatClampNeg))) a29_ x1.toNatClampNeg (vp_nar .boolean (1 : Int32))) a33_ = 21 ∧ (vp_in x1 (q_N (qs_A (qs_A S11_ a15_ x1.toNatClampNeg ((q_A S11_ a15_ x1.toNatClampNeg) + (q_A S11_ a19_ x1.toNatClampNeg))) a29_ x1.toNatClampNeg (vp_nar .boolean (1 : Int32))) a33_) ∧ (∃ a37_ : Nat, (q_P (qs_A (qs_A S11_ a15_ x1.toNatClampNeg ((q_A S11_ a15_ x1.toNatClampNeg) + (q_A S11_ a19_ x1.toNatClampNeg))) a29_ x1.toNatClampNeg (vp_nar .boolean (1 : Int32))) 2439 a0) = some a37_ ∧ (q_K (qs_A (qs_A S11_ a15_ x1.toNatClampNeg ((q_A S11_ a15_ x1.toNatClampNeg) + (q_A S11_ a19_ x1.toNatClampNeg))) a29_ x1.toNatClampNeg (vp_nar .boolean (1 : Int32))) a37_ = 21 ∧ (vp_in x1 (q_N (qs_A (qs_A S11_ a15_ x1.toNatClampNeg ((q_A S11_ a15_ x1.toNatClampNeg) + (q_A S11_ a19_ x1.toNatClampNeg))) a29_ x1.toNatClampNeg (vp_nar .boolean (1 : Int32))) a37_) ∧ (∃ a41_ : Nat, (q_P (qs_A (qs_A S11_ a15_ x1.toNatClampNeg ((q_A S11_ a15_ x1.toNatClampNeg) + (q_A S11_ a19_ x1.toNatClampNeg))) a29_ x1.toNatClampNeg (vp_nar .boolean (1 : Int32))) 2471 a0) = some a41_ ∧ (q_K (qs_A (qs_A S11_ a15_ x1.toNatClampNeg ((q_A S11_ a15_ x1.toNatClampNeg) + (q_A S11_ a19_ x1.toNatClampNeg))) a29_ x1.toNatClampNeg (vp_nar .boolean (1 : Int32))) a41_ = 21 ∧ (vp_in x1 (q_N (qs_A (qs_A S11_ a15_ x1.toNatClampNeg ((q_A S11_ a15_ x1.toNatClampNeg) + (q_A S11_ a19_ x1.toNatClampNeg))) a29_ x1.toNatClampNeg (vp_nar .boolean (1 : Int32))) a41_) ∧ (∀ S45_ : q_S, S45_ = (qs_A (qs_A (qs_A S11_ a15_ x1.toNatClampNeg ((q_A S11_ a15_ x1.toNatClampNeg) + (q_A S11_ a19_ x1.toNatClampNeg))) a29_ x1.toNatClampNeg (vp_nar .boolean (1 : Int32))) a41_ x1.toNatClampNeg ((q_A (qs_A (qs_A S11_ a15_ x1.toNatClampNeg ((q_A S11_ a15_ x1.toNatClampNeg) + (q_A S11_ a19_ x1.toNatClampNeg))) a29_ x1.toNatClampNeg (vp_nar .boolean (1 : Int32))) a33_ x1.toNatClampNeg) + (q_A (qs_A (qs_A S11_ a15_ x1.toNatClampNeg ((q_A S11_ a15_ x1.toNatClampNeg) + (q_A S11_ a19_ x1.toNatClampNeg))) a29_ x1.toNatClampNeg (vp_nar .boolean (1 : Int32))) a37_ x1.toNatClampNeg))) → (wb_X12_periodic_75 S45_ Q))))))))))))))))))))))))))))) ∧ (¬ x12_ = 0 → (Q (some (.int x12_)) S11_))))))))))))
set_option maxHeartbeats 4000000 in
set_option maxRecDepth 100000 in
theorem cm_X12_periodic {l : Launch} {D : va_G} {cy : Nat → ClassId} {lo : Nat} {S : q_S} {a0 : Nat} {x1 : Int32} {Q : Option Value → q_S → Prop} (h : wm_X12_periodic S a0 x1 Q) : q_Met l D cy lo yX12_periodic cX12_periodic 3 (some .int) 3 64 0 0 [.ref a0, .int x1] S Q := by
  refine q_body (by decide) (by first | exact Nat.le_of_ble_eq_true rfl | simp [lg_sl, q_cat, q_catI, q_catJ, q_catR]) ?_
  intro p e s m below meth c ls X hnm Y hl
  have hx := X.1
  have hb := X.2.1
  have hl : lv_has ls 3 [(0, .ref a0), (1, .int x1)] := by first | exact hl | simpa [lv_args, q_cat, q_catI, q_catJ, q_catR] using hl
  generalize hargs : ([.ref a0, .int x1] : List Value).toArray = args at X ⊢
  unfold wm_X12_periodic at h
  refine lv_aload_n hx hb dX12_periodic_0 rfl (lv_at hl 0 rfl) ?_
  refine lv_iload_n hx hb dX12_periodic_1 rfl (lv_at hl 1 rfl) ?_
  refine lv_aload_n hx hb dX12_periodic_2 rfl (lv_at hl 0 rfl) ?_
  obtain ⟨k1_, h⟩ := h
  refine q_getP X Y kX12 73 rfl fl_X12_167 k1_ rfl dX12_periodic_3 ?_
  refine lv_iload_n hx hb dX12_periodic_6 rfl (lv_at hl 1 rfl) ?_
  obtain ⟨a2_, e3_, h⟩ := h
  refine q_nn [.int x1] e3_ ?_
  obtain ⟨k4_, h⟩ := h
  obtain ⟨i5_, h⟩ := h
  refine q_ild X Y k4_ i5_ dX12_periodic_7 ?_
  refine lv_aload_n hx hb dX12_periodic_8 rfl (lv_at hl 0 rfl) ?_
  refine q_getP X Y kX12 38 rfl fl_X12_69 k1_ rfl dX12_periodic_9 ?_
  refine lv_iload_n hx hb dX12_periodic_12 rfl (lv_at hl 1 rfl) ?_
  obtain ⟨a6_, e7_, h⟩ := h
  refine q_nn [.int x1] e7_ ?_
  obtain ⟨k8_, h⟩ := h
  obtain ⟨i9_, h⟩ := h
  refine q_ild X Y k8_ i9_ dX12_periodic_13 ?_
  refine lv_iadd hx hb dX12_periodic_14 ?_
  refine q_callV X Y hl (cm_X12_waitsUntil h) mt_X12_waitsUntil mi_X12_waitsUntil ml_X12_603 (ci := 12) rfl k1_ (by decide) rfl rfl (by first | exact Nat.le_of_ble_eq_true rfl | simp [q_cat, q_catI, q_catJ, q_catR]) ⟨Nat.le_of_ble_eq_true rfl, Nat.le_of_ble_eq_true rfl⟩ ⟨Nat.le_of_ble_eq_true rfl, Nat.le_of_ble_eq_true rfl⟩ dX12_periodic_15 (fun r10_ S11_ H locs hp Y => ?_)
  obtain ⟨x12_, rfl, h⟩ := hp
  refine W.eq (g2 := F0 m 18 ls [.int x12_]) rfl ?_
  refine lv_istore_n (i := 2) (lv' := [(2, .int x12_), (0, .ref a0), (1, .int x1)]) hx hb dX12_periodic_18 rfl hl (by decide) (by first | rfl | simp [q_cat, q_catI, q_catJ, q_catR]) (fun ls hl => ?_)
  refine lv_iload_n hx hb dX12_periodic_19 rfl (lv_at hl 0 rfl) ?_
  refine lv_if_eq (tgt := 25) hx hb dX12_periodic_20 (by decide) (fun c13_ => ?_) (fun c13_ => ?_)
  · replace h := h.1 c13_
    refine lv_aload_n hx hb dX12_periodic_25 rfl (lv_at hl 1 rfl) ?_
    obtain ⟨k14_, h⟩ := h
    refine q_getP X Y kX12 73 rfl fl_X12_167 k14_ rfl dX12_periodic_26 ?_
    refine lv_iload_n hx hb dX12_periodic_29 rfl (lv_at hl 2 rfl) ?_
    refine lv_dup2_11 hx hb dX12_periodic_30 rfl (q_cat _) ?_
    obtain ⟨a15_, e16_, h⟩ := h
    refine q_nn [.int x1] e16_ ?_
    obtain ⟨k17_, h⟩ := h
    obtain ⟨i18_, h⟩ := h
    refine q_ild X Y k17_ i18_ dX12_periodic_31 ?_
    refine lv_aload_n hx hb dX12_periodic_32 rfl (lv_at hl 1 rfl) ?_
    refine q_getP X Y kX12 38 rfl fl_X12_69 k14_ rfl dX12_periodic_33 ?_
    refine lv_iload_n hx hb dX12_periodic_36 rfl (lv_at hl 2 rfl) ?_
    obtain ⟨a19_, e20_, h⟩ := h
    refine q_nn [.int x1] e20_ ?_
    obtain ⟨k21_, h⟩ := h
    obtain ⟨i22_, h⟩ := h
    refine q_ild X Y k21_ i22_ dX12_periodic_37 ?_
    refine lv_iadd hx hb dX12_periodic_38 ?_
    refine q_nn [.int ((q_A S11_ a15_ x1.toNatClampNeg) + (q_A S11_ a19_ x1.toNatClampNeg)), .int x1] e16_ ?_
    obtain ⟨i23_, h⟩ := h
    refine q_ist X Y k17_ i23_ dX12_periodic_39 (fun H locs Y => ?_)
    refine lv_aload_n hx hb dX12_periodic_40 rfl (lv_at hl 1 rfl) ?_
    refine q_getP X Y kX12 39 rfl fl_X12_72 k14_ rfl dX12_periodic_41 ?_
    refine lv_iload_n hx hb dX12_periodic_44 rfl (lv_at hl 2 rfl) ?_
    obtain ⟨a24_, e25_, h⟩ := h
    refine q_nn [.int x1] e25_ ?_
    obtain ⟨k26_, h⟩ := h
    obtain ⟨i27_, h⟩ := h
    refine q_ild X Y k26_ i27_ dX12_periodic_45 ?_
    refine lv_if_le (tgt := 75) hx hb dX12_periodic_46 (by decide) (fun c28_ => ?_) (fun c28_ => ?_)
    · replace h := h.1 c28_
      exact cb_X12_periodic_75 X Y (lv_sub hl [] rfl) h
    · replace h := h.2 c28_
      refine lv_aload_n hx hb dX12_periodic_49 rfl (lv_at hl 1 rfl) ?_
      refine q_getP X Y kX12 70 rfl fl_X12_158 k14_ rfl dX12_periodic_50 ?_
      refine lv_iload_n hx hb dX12_periodic_53 rfl (lv_at hl 2 rfl) ?_
      refine lv_iconst (v := 1) hx hb dX12_periodic_54 (by decide) ?_
      obtain ⟨a29_, e30_, h⟩ := h
      refine q_nn [.int (1 : Int32), .int x1] e30_ ?_
      obtain ⟨k31_, h⟩ := h
      obtain ⟨i32_, h⟩ := h
      refine q_zst X Y k31_ i32_ dX12_periodic_55 (fun H locs Y => ?_)
      refine lv_aload_n hx hb dX12_periodic_56 rfl (lv_at hl 1 rfl) ?_
      refine q_getP X Y kX12 71 rfl fl_X12_161 k14_ rfl dX12_periodic_57 ?_
      refine lv_iload_n hx hb dX12_periodic_60 rfl (lv_at hl 2 rfl) ?_
      refine lv_aload_n hx hb dX12_periodic_61 rfl (lv_at hl 1 rfl) ?_
      refine q_getP X Y kX12 73 rfl fl_X12_167 k14_ rfl dX12_periodic_62 ?_
      refine lv_iload_n hx hb dX12_periodic_65 rfl (lv_at hl 2 rfl) ?_
      obtain ⟨a33_, e34_, h⟩ := h
      refine q_nn [.int x1] e34_ ?_
      obtain ⟨k35_, h⟩ := h
      obtain ⟨i36_, h⟩ := h
      refine q_ild X Y k35_ i36_ dX12_periodic_66 ?_
      refine lv_aload_n hx hb dX12_periodic_67 rfl (lv_at hl 1 rfl) ?_
      refine q_getP X Y kX12 39 rfl fl_X12_72 k14_ rfl dX12_periodic_68 ?_
      refine lv_iload_n hx hb dX12_periodic_71 rfl (lv_at hl 2 rfl) ?_
      obtain ⟨a37_, e38_, h⟩ := h
      refine q_nn [.int x1] e38_ ?_
      obtain ⟨k39_, h⟩ := h
      obtain ⟨i40_, h⟩ := h
      refine q_ild X Y k39_ i40_ dX12_periodic_72 ?_
      refine lv_iadd hx hb dX12_periodic_73 ?_
      obtain ⟨a41_, e42_, h⟩ := h
      refine q_nn [.int ((q_A (qs_A (qs_A S11_ a15_ x1.toNatClampNeg ((q_A S11_ a15_ x1.toNatClampNeg) + (q_A S11_ a19_ x1.toNatClampNeg))) a29_ x1.toNatClampNeg (vp_nar .boolean (1 : Int32))) a33_ x1.toNatClampNeg) + (q_A (qs_A (qs_A S11_ a15_ x1.toNatClampNeg ((q_A S11_ a15_ x1.toNatClampNeg) + (q_A S11_ a19_ x1.toNatClampNeg))) a29_ x1.toNatClampNeg (vp_nar .boolean (1 : Int32))) a37_ x1.toNatClampNeg)), .int x1] e42_ ?_
      obtain ⟨k43_, h⟩ := h
      obtain ⟨i44_, h⟩ := h
      refine q_ist X Y k43_ i44_ dX12_periodic_74 (fun H locs Y => ?_)
      obtain ⟨S45_, gS45_⟩ : ∃ z : q_S, z = (qs_A (qs_A (qs_A S11_ a15_ x1.toNatClampNeg ((q_A S11_ a15_ x1.toNatClampNeg) + (q_A S11_ a19_ x1.toNatClampNeg))) a29_ x1.toNatClampNeg (vp_nar .boolean (1 : Int32))) a41_ x1.toNatClampNeg ((q_A (qs_A (qs_A S11_ a15_ x1.toNatClampNeg ((q_A S11_ a15_ x1.toNatClampNeg) + (q_A S11_ a19_ x1.toNatClampNeg))) a29_ x1.toNatClampNeg (vp_nar .boolean (1 : Int32))) a33_ x1.toNatClampNeg) + (q_A (qs_A (qs_A S11_ a15_ x1.toNatClampNeg ((q_A S11_ a15_ x1.toNatClampNeg) + (q_A S11_ a19_ x1.toNatClampNeg))) a29_ x1.toNatClampNeg (vp_nar .boolean (1 : Int32))) a37_ x1.toNatClampNeg))) := ⟨_, rfl⟩
      replace Y : q_Y D cy lo s S45_ H locs := by rw [gS45_]; exact Y
      replace h := h S45_ gS45_
      replace k14_ : q_K S45_ a0 = 13 := by rw [gS45_]; exact k14_
      replace k17_ : q_K S45_ a15_ = 21 := by rw [gS45_]; exact k17_
      replace k21_ : q_K S45_ a19_ = 21 := by rw [gS45_]; exact k21_
      replace k26_ : q_K S45_ a24_ = 21 := by rw [gS45_]; exact k26_
      replace k31_ : q_K S45_ a29_ = 22 := by rw [gS45_]; exact k31_
      replace k35_ : q_K S45_ a33_ = 21 := by rw [gS45_]; exact k35_
      replace k39_ : q_K S45_ a37_ = 21 := by rw [gS45_]; exact k39_
      replace k43_ : q_K S45_ a41_ = 21 := by rw [gS45_]; exact k43_
      exact cb_X12_periodic_75 X Y (lv_sub hl [] rfl) h
  · replace h := h.2 c13_
    refine lv_iload_n hx hb dX12_periodic_23 rfl (lv_at hl 0 rfl) ?_
    exact q_iret X Y rfl (Nat.le_refl _) (Nat.le_refl _) h dX12_periodic_24
-- X12_isProcess
theorem dX12_isProcess_0 : decode cX12_isProcess 0 = .ok (.iload_n 2, 1) := by decide +kernel
theorem dX12_isProcess_1 : decode cX12_isProcess 1 = .ok (.ifCond .lt 22, 3) := by decide +kernel
theorem dX12_isProcess_4 : decode cX12_isProcess 4 = .ok (.iload_n 2, 1) := by decide +kernel
theorem dX12_isProcess_5 : decode cX12_isProcess 5 = .ok (.aload_n 0, 1) := by decide +kernel
theorem dX12_isProcess_6 : decode cX12_isProcess 6 = .ok (.getfield 60, 3) := by decide +kernel
theorem dX12_isProcess_9 : decode cX12_isProcess 9 = .ok (.bipush 6, 2) := by decide +kernel
theorem dX12_isProcess_11 : decode cX12_isProcess 11 = .ok (.iload_n 1, 1) := by decide +kernel
theorem dX12_isProcess_12 : decode cX12_isProcess 12 = .ok (.imul, 1) := by decide +kernel
theorem dX12_isProcess_13 : decode cX12_isProcess 13 = .ok (.iconst 5, 1) := by decide +kernel
theorem dX12_isProcess_14 : decode cX12_isProcess 14 = .ok (.iadd, 1) := by decide +kernel
theorem dX12_isProcess_15 : decode cX12_isProcess 15 = .ok (.iaload, 1) := by decide +kernel
theorem dX12_isProcess_16 : decode cX12_isProcess 16 = .ok (.if_icmp .ge 7, 3) := by decide +kernel
theorem dX12_isProcess_19 : decode cX12_isProcess 19 = .ok (.iconst 1, 1) := by decide +kernel
theorem dX12_isProcess_20 : decode cX12_isProcess 20 = .ok (.goto 4, 3) := by decide +kernel
theorem dX12_isProcess_23 : decode cX12_isProcess 23 = .ok (.iconst 0, 1) := by decide +kernel
theorem dX12_isProcess_24 : decode cX12_isProcess 24 = .ok (.ireturn, 1) := by decide +kernel
def wb_X12_isProcess_24  (S : q_S) (xs0 : Int32) (Q : Option Value → q_S → Prop) : Prop := (narrow .boolean (.int xs0) = .int xs0 ∧ Q (some (.int xs0)) S)
set_option maxHeartbeats 4000000 in
set_option maxRecDepth 100000 in
theorem cb_X12_isProcess_24 {p : Program} {l : Launch} {e : Env} {s : State} {m : MethodId} {args : Array Value} {below : List Frame} {meth : Method} {c : Code} {D : va_G} {cy : Nat → ClassId} {lo : Nat}  {S : q_S} {xs0 : Int32} {Q : Option Value → q_S → Prop} {H : Heap} {locs : List Loc} {ls : Array Slot} (X : q_X p s m args meth c RX12 cX12_isProcess 3 (some .boolean) D cy lo)  (Y : q_Y D cy lo s S H locs) (hl : lv_has ls 3 []) (h : wb_X12_isProcess_24 S xs0 Q) : W p l e ({ frames := 0, cells := 0, slots := 0, locals := 0 } : Room) s m args below meth c H locs 0 0 (MQ below (q_Q D cy lo Q) args s 0 0 (fun q => lo ≤ q)) (F0 m 24 ls [.int xs0]) := by
  have hx := X.1
  have hb := X.2.1
  unfold wb_X12_isProcess_24 at h
  exact q_iret X Y h.1 (Nat.le_refl _) (Nat.le_refl _) h.2 dX12_isProcess_24
def wb_X12_isProcess_23  (S : q_S) (Q : Option Value → q_S → Prop) : Prop := wb_X12_isProcess_24 S (0 : Int32) Q
set_option maxHeartbeats 4000000 in
set_option maxRecDepth 100000 in
theorem cb_X12_isProcess_23 {p : Program} {l : Launch} {e : Env} {s : State} {m : MethodId} {args : Array Value} {below : List Frame} {meth : Method} {c : Code} {D : va_G} {cy : Nat → ClassId} {lo : Nat}  {S : q_S} {Q : Option Value → q_S → Prop} {H : Heap} {locs : List Loc} {ls : Array Slot} (X : q_X p s m args meth c RX12 cX12_isProcess 3 (some .boolean) D cy lo)  (Y : q_Y D cy lo s S H locs) (hl : lv_has ls 3 []) (h : wb_X12_isProcess_23 S Q) : W p l e ({ frames := 0, cells := 0, slots := 0, locals := 0 } : Room) s m args below meth c H locs 0 0 (MQ below (q_Q D cy lo Q) args s 0 0 (fun q => lo ≤ q)) (F0 m 23 ls []) := by
  have hx := X.1
  have hb := X.2.1
  unfold wb_X12_isProcess_23 at h
  refine lv_iconst (v := 0) hx hb dX12_isProcess_23 (by decide) ?_
  exact cb_X12_isProcess_24 X Y (lv_sub hl [] rfl) h
def wm_X12_isProcess (S : q_S) (a0 : Nat) (x1 : Int32) (x2 : Int32) (Q : Option Value → q_S → Prop) : Prop := ((x2 < 0 → (wb_X12_isProcess_23 S Q)) ∧ (¬ x2 < 0 → (q_K S a0 = 13 ∧ (∃ a3_ : Nat, (q_P S 2435 a0) = some a3_ ∧ (q_K S a3_ = 21 ∧ (vp_in (((6 : Int32) * x1) + (5 : Int32)) (q_N S a3_) ∧ ((((q_A S a3_ (((6 : Int32) * x1) + (5 : Int32)).toNatClampNeg) ≤ x2 → (wb_X12_isProcess_23 S Q)) ∧ (¬ (q_A S a3_ (((6 : Int32) * x1) + (5 : Int32)).toNatClampNeg) ≤ x2 → (wb_X12_isProcess_24 S (1 : Int32) Q))))))))))
set_option maxHeartbeats 4000000 in
set_option maxRecDepth 100000 in
theorem cm_X12_isProcess {l : Launch} {D : va_G} {cy : Nat → ClassId} {lo : Nat} {S : q_S} {a0 : Nat} {x1 : Int32} {x2 : Int32} {Q : Option Value → q_S → Prop} (h : wm_X12_isProcess S a0 x1 x2 Q) : q_Met l D cy lo yX12_isProcess cX12_isProcess 3 (some .boolean) 0 0 0 0 [.ref a0, .int x1, .int x2] S Q := by
  refine q_body (by decide) (by first | exact Nat.le_of_ble_eq_true rfl | simp [lg_sl, q_cat, q_catI, q_catJ, q_catR]) ?_
  intro p e s m below meth c ls X hnm Y hl
  have hx := X.1
  have hb := X.2.1
  have hl : lv_has ls 3 [(0, .ref a0), (1, .int x1), (2, .int x2)] := by first | exact hl | simpa [lv_args, q_cat, q_catI, q_catJ, q_catR] using hl
  generalize hargs : ([.ref a0, .int x1, .int x2] : List Value).toArray = args at X ⊢
  unfold wm_X12_isProcess at h
  refine lv_iload_n hx hb dX12_isProcess_0 rfl (lv_at hl 2 rfl) ?_
  refine lv_if_lt (tgt := 23) hx hb dX12_isProcess_1 (by decide) (fun c1_ => ?_) (fun c1_ => ?_)
  · replace h := h.1 c1_
    exact cb_X12_isProcess_23 X Y (lv_sub hl [] rfl) h
  · replace h := h.2 c1_
    refine lv_iload_n hx hb dX12_isProcess_4 rfl (lv_at hl 2 rfl) ?_
    refine lv_aload_n hx hb dX12_isProcess_5 rfl (lv_at hl 0 rfl) ?_
    obtain ⟨k2_, h⟩ := h
    refine q_getP X Y kX12 35 rfl fl_X12_60 k2_ rfl dX12_isProcess_6 ?_
    refine lv_bipush (v := 6) hx hb dX12_isProcess_9 (by decide) ?_
    refine lv_iload_n hx hb dX12_isProcess_11 rfl (lv_at hl 1 rfl) ?_
    refine lv_imul hx hb dX12_isProcess_12 ?_
    refine lv_iconst (v := 5) hx hb dX12_isProcess_13 (by decide) ?_
    refine lv_iadd hx hb dX12_isProcess_14 ?_
    obtain ⟨a3_, e4_, h⟩ := h
    refine q_nn [.int (((6 : Int32) * x1) + (5 : Int32))] e4_ ?_
    obtain ⟨k5_, h⟩ := h
    obtain ⟨i6_, h⟩ := h
    refine q_ild X Y k5_ i6_ dX12_isProcess_15 ?_
    refine lv_icmp_ge (tgt := 23) hx hb dX12_isProcess_16 (by decide) (fun c7_ => ?_) (fun c7_ => ?_)
    · replace h := h.1 c7_
      exact cb_X12_isProcess_23 X Y (lv_sub hl [] rfl) h
    · replace h := h.2 c7_
      refine lv_iconst (v := 1) hx hb dX12_isProcess_19 (by decide) ?_
      refine lv_goto (tgt := 24) hx hb dX12_isProcess_20 (by decide) ?_
      exact cb_X12_isProcess_24 X Y (lv_sub hl [] rfl) h
-- X12_starts
theorem ml_X12_613 : Cond.methodLink RX12 613 yX12_isProcess ∈ q_G := q_tb (i := 2397) (by decide +kernel) (by decide +kernel)
theorem mt_X12_isProcess : q_Mt yX12_isProcess cX12_isProcess 3 (some .boolean) 2 := ⟨q_tb (i := 2400) (by decide +kernel) (by decide +kernel), q_tb (i := 11) (by decide +kernel) (by decide +kernel), by decide +kernel, by decide +kernel, by decide +kernel⟩
theorem mi_X12_isProcess : Cond.instanceMethod yX12_isProcess ∈ q_G ∧ Cond.selects yX12_isProcess.cls yX12_isProcess yX12_isProcess ∈ q_G := ⟨q_tb (i := 2399) (by decide +kernel) (by decide +kernel), q_tp (i := 155) (q := (yX12_isProcess, 114)) (by decide +kernel) (by decide +kernel)⟩
theorem dX12_starts_0 : decode cX12_starts 0 = .ok (.aload_n 0, 1) := by decide +kernel
theorem dX12_starts_1 : decode cX12_starts 1 = .ok (.iload_n 1, 1) := by decide +kernel
theorem dX12_starts_2 : decode cX12_starts 2 = .ok (.iload_n 2, 1) := by decide +kernel
theorem dX12_starts_3 : decode cX12_starts 3 = .ok (.invokevirtual 613, 3) := by decide +kernel
theorem dX12_starts_6 : decode cX12_starts 6 = .ok (.ifCond .ne 5, 3) := by decide +kernel
theorem dX12_starts_9 : decode cX12_starts 9 = .ok (.iconst 1, 1) := by decide +kernel
theorem dX12_starts_10 : decode cX12_starts 10 = .ok (.ireturn, 1) := by decide +kernel
theorem dX12_starts_11 : decode cX12_starts 11 = .ok (.bipush 16, 2) := by decide +kernel
theorem dX12_starts_13 : decode cX12_starts 13 = .ok (.iload_n 1, 1) := by decide +kernel
theorem dX12_starts_14 : decode cX12_starts 14 = .ok (.imul, 1) := by decide +kernel
theorem dX12_starts_15 : decode cX12_starts 15 = .ok (.iload_n 2, 1) := by decide +kernel
theorem dX12_starts_16 : decode cX12_starts 16 = .ok (.iadd, 1) := by decide +kernel
theorem dX12_starts_17 : decode cX12_starts 17 = .ok (.istore 4, 2) := by decide +kernel
theorem dX12_starts_19 : decode cX12_starts 19 = .ok (.aload_n 0, 1) := by decide +kernel
theorem dX12_starts_20 : decode cX12_starts 20 = .ok (.getfield 149, 3) := by decide +kernel
theorem dX12_starts_23 : decode cX12_starts 23 = .ok (.iload 4, 2) := by decide +kernel
theorem dX12_starts_25 : decode cX12_starts 25 = .ok (.iaload, 1) := by decide +kernel
theorem dX12_starts_26 : decode cX12_starts 26 = .ok (.ifCond .eq 5, 3) := by decide +kernel
theorem dX12_starts_29 : decode cX12_starts 29 = .ok (.iconst 2, 1) := by decide +kernel
theorem dX12_starts_30 : decode cX12_starts 30 = .ok (.ireturn, 1) := by decide +kernel
theorem dX12_starts_31 : decode cX12_starts 31 = .ok (.aload_n 0, 1) := by decide +kernel
theorem dX12_starts_32 : decode cX12_starts 32 = .ok (.iload 4, 2) := by decide +kernel
theorem dX12_starts_34 : decode cX12_starts 34 = .ok (.invokevirtual 493, 3) := by decide +kernel
theorem dX12_starts_37 : decode cX12_starts 37 = .ok (.ifCond .eq 5, 3) := by decide +kernel
theorem dX12_starts_40 : decode cX12_starts 40 = .ok (.iconst 1, 1) := by decide +kernel
theorem dX12_starts_41 : decode cX12_starts 41 = .ok (.ireturn, 1) := by decide +kernel
theorem dX12_starts_42 : decode cX12_starts 42 = .ok (.aload_n 0, 1) := by decide +kernel
theorem dX12_starts_43 : decode cX12_starts 43 = .ok (.iload 4, 2) := by decide +kernel
theorem dX12_starts_45 : decode cX12_starts 45 = .ok (.iload_n 3, 1) := by decide +kernel
theorem dX12_starts_46 : decode cX12_starts 46 = .ok (.invokevirtual 502, 3) := by decide +kernel
theorem dX12_starts_49 : decode cX12_starts 49 = .ok (.iconst 0, 1) := by decide +kernel
theorem dX12_starts_50 : decode cX12_starts 50 = .ok (.ireturn, 1) := by decide +kernel
def wm_X12_starts (S : q_S) (a0 : Nat) (x1 : Int32) (x2 : Int32) (x3 : Int32) (Q : Option Value → q_S → Prop) : Prop := q_K S a0 = 13 ∧ (wm_X12_isProcess S a0 x1 x2 (fun r2_ S3_ => ∃ x4_ : Int32, r2_ = some (.int x4_) ∧ (((¬ x4_ = 0 → (q_K S3_ a0 = 13 ∧ (∃ a7_ : Nat, (q_P S3_ 2467 a0) = some a7_ ∧ (q_K S3_ a7_ = 21 ∧ (vp_in (((16 : Int32) * x1) + x2) (q_N S3_ a7_) ∧ ((((q_A S3_ a7_ (((16 : Int32) * x1) + x2).toNatClampNeg) = 0 → (wm_X12_isHandler S3_ a0 (((16 : Int32) * x1) + x2) (fun r12_ S13_ => ∃ x14_ : Int32, r12_ = some (.int x14_) ∧ (((x14_ = 0 → (q_K S13_ a0 = 13 ∧ (wm_X12_startsAt S13_ a0 (((16 : Int32) * x1) + x2) x3 (fun r17_ S18_ => r17_ = none ∧ (Q (some (.int (0 : Int32))) S18_))))) ∧ (¬ x14_ = 0 → (Q (some (.int (1 : Int32))) S13_))))))) ∧ (¬ (q_A S3_ a7_ (((16 : Int32) * x1) + x2).toNatClampNeg) = 0 → (Q (some (.int (2 : Int32))) S3_))))))))) ∧ (x4_ = 0 → (Q (some (.int (1 : Int32))) S3_))))))
set_option maxHeartbeats 4000000 in
set_option maxRecDepth 100000 in
theorem cm_X12_starts {l : Launch} {D : va_G} {cy : Nat → ClassId} {lo : Nat} {S : q_S} {a0 : Nat} {x1 : Int32} {x2 : Int32} {x3 : Int32} {Q : Option Value → q_S → Prop} (h : wm_X12_starts S a0 x1 x2 x3 Q) : q_Met l D cy lo yX12_starts cX12_starts 5 (some .int) 2 44 0 0 [.ref a0, .int x1, .int x2, .int x3] S Q := by
  refine q_body (by decide) (by first | exact Nat.le_of_ble_eq_true rfl | simp [lg_sl, q_cat, q_catI, q_catJ, q_catR]) ?_
  intro p e s m below meth c ls X hnm Y hl
  have hx := X.1
  have hb := X.2.1
  have hl : lv_has ls 5 [(0, .ref a0), (1, .int x1), (2, .int x2), (3, .int x3)] := by first | exact hl | simpa [lv_args, q_cat, q_catI, q_catJ, q_catR] using hl
  generalize hargs : ([.ref a0, .int x1, .int x2, .int x3] : List Value).toArray = args at X ⊢
  unfold wm_X12_starts at h
  refine lv_aload_n hx hb dX12_starts_0 rfl (lv_at hl 0 rfl) ?_
  refine lv_iload_n hx hb dX12_starts_1 rfl (lv_at hl 1 rfl) ?_
  refine lv_iload_n hx hb dX12_starts_2 rfl (lv_at hl 2 rfl) ?_
  obtain ⟨k1_, h⟩ := h
  refine q_callV X Y hl (cm_X12_isProcess h) mt_X12_isProcess mi_X12_isProcess ml_X12_613 (ci := 12) rfl k1_ (by decide) rfl rfl (by first | exact Nat.le_of_ble_eq_true rfl | simp [q_cat, q_catI, q_catJ, q_catR]) ⟨Nat.le_of_ble_eq_true rfl, Nat.le_of_ble_eq_true rfl⟩ ⟨Nat.le_of_ble_eq_true rfl, Nat.le_of_ble_eq_true rfl⟩ dX12_starts_3 (fun r2_ S3_ H locs hp Y => ?_)
  obtain ⟨x4_, rfl, h⟩ := hp
  refine W.eq (g2 := F0 m 6 ls [.int x4_]) rfl ?_
  refine lv_if_ne (tgt := 11) hx hb dX12_starts_6 (by decide) (fun c5_ => ?_) (fun c5_ => ?_)
  · replace h := h.1 c5_
    refine lv_bipush (v := 16) hx hb dX12_starts_11 (by decide) ?_
    refine lv_iload_n hx hb dX12_starts_13 rfl (lv_at hl 1 rfl) ?_
    refine lv_imul hx hb dX12_starts_14 ?_
    refine lv_iload_n hx hb dX12_starts_15 rfl (lv_at hl 2 rfl) ?_
    refine lv_iadd hx hb dX12_starts_16 ?_
    refine lv_istore (i := 4) (lv' := [(4, .int (((16 : Int32) * x1) + x2)), (0, .ref a0), (1, .int x1), (2, .int x2), (3, .int x3)]) hx hb dX12_starts_17 hl (by decide) (by first | rfl | simp [q_cat, q_catI, q_catJ, q_catR]) (fun ls hl => ?_)
    refine lv_aload_n hx hb dX12_starts_19 rfl (lv_at hl 1 rfl) ?_
    obtain ⟨k6_, h⟩ := h
    refine q_getP X Y kX12 67 rfl fl_X12_149 k6_ rfl dX12_starts_20 ?_
    refine lv_iload hx hb dX12_starts_23 (lv_at hl 0 rfl) ?_
    obtain ⟨a7_, e8_, h⟩ := h
    refine q_nn [.int (((16 : Int32) * x1) + x2)] e8_ ?_
    obtain ⟨k9_, h⟩ := h
    obtain ⟨i10_, h⟩ := h
    refine q_ild X Y k9_ i10_ dX12_starts_25 ?_
    refine lv_if_eq (tgt := 31) hx hb dX12_starts_26 (by decide) (fun c11_ => ?_) (fun c11_ => ?_)
    · replace h := h.1 c11_
      refine lv_aload_n hx hb dX12_starts_31 rfl (lv_at hl 1 rfl) ?_
      refine lv_iload hx hb dX12_starts_32 (lv_at hl 0 rfl) ?_
      refine q_callV X Y hl (cm_X12_isHandler h) mt_X12_isHandler mi_X12_isHandler ml_X12_493 (ci := 12) rfl k6_ (by decide) rfl rfl (by first | exact Nat.le_of_ble_eq_true rfl | simp [q_cat, q_catI, q_catJ, q_catR]) ⟨Nat.le_of_ble_eq_true rfl, Nat.le_of_ble_eq_true rfl⟩ ⟨Nat.le_of_ble_eq_true rfl, Nat.le_of_ble_eq_true rfl⟩ dX12_starts_34 (fun r12_ S13_ H locs hp Y => ?_)
      obtain ⟨x14_, rfl, h⟩ := hp
      refine W.eq (g2 := F0 m 37 ls [.int x14_]) rfl ?_
      refine lv_if_eq (tgt := 42) hx hb dX12_starts_37 (by decide) (fun c15_ => ?_) (fun c15_ => ?_)
      · replace h := h.1 c15_
        refine lv_aload_n hx hb dX12_starts_42 rfl (lv_at hl 1 rfl) ?_
        refine lv_iload hx hb dX12_starts_43 (lv_at hl 0 rfl) ?_
        refine lv_iload_n hx hb dX12_starts_45 rfl (lv_at hl 4 rfl) ?_
        obtain ⟨k16_, h⟩ := h
        refine q_callV X Y hl (cm_X12_startsAt h) mt_X12_startsAt mi_X12_startsAt ml_X12_502 (ci := 12) rfl k16_ (by decide) rfl rfl (by first | exact Nat.le_of_ble_eq_true rfl | simp [q_cat, q_catI, q_catJ, q_catR]) ⟨Nat.le_of_ble_eq_true rfl, Nat.le_of_ble_eq_true rfl⟩ ⟨Nat.le_of_ble_eq_true rfl, Nat.le_of_ble_eq_true rfl⟩ dX12_starts_46 (fun r17_ S18_ H locs hp Y => ?_)
        obtain ⟨rfl, h⟩ := hp
        refine W.eq (g2 := F0 m 49 ls []) rfl ?_
        refine lv_iconst (v := 0) hx hb dX12_starts_49 (by decide) ?_
        exact q_iret X Y rfl (Nat.le_refl _) (Nat.le_refl _) h dX12_starts_50
      · replace h := h.2 c15_
        refine lv_iconst (v := 1) hx hb dX12_starts_40 (by decide) ?_
        exact q_iret X Y rfl (Nat.le_refl _) (Nat.le_refl _) h dX12_starts_41
    · replace h := h.2 c11_
      refine lv_iconst (v := 2) hx hb dX12_starts_29 (by decide) ?_
      exact q_iret X Y rfl (Nat.le_refl _) (Nat.le_refl _) h dX12_starts_30
  · replace h := h.2 c5_
    refine lv_iconst (v := 1) hx hb dX12_starts_9 (by decide) ?_
    exact q_iret X Y rfl (Nat.le_refl _) (Nat.le_refl _) h dX12_starts_10
-- X12_stops
theorem dX12_stops_0 : decode cX12_stops 0 = .ok (.aload_n 0, 1) := by decide +kernel
theorem dX12_stops_1 : decode cX12_stops 1 = .ok (.iload_n 1, 1) := by decide +kernel
theorem dX12_stops_2 : decode cX12_stops 2 = .ok (.iload_n 3, 1) := by decide +kernel
theorem dX12_stops_3 : decode cX12_stops 3 = .ok (.invokevirtual 613, 3) := by decide +kernel
theorem dX12_stops_6 : decode cX12_stops 6 = .ok (.ifCond .eq 16, 3) := by decide +kernel
theorem dX12_stops_9 : decode cX12_stops 9 = .ok (.aload_n 0, 1) := by decide +kernel
theorem dX12_stops_10 : decode cX12_stops 10 = .ok (.bipush 16, 2) := by decide +kernel
theorem dX12_stops_12 : decode cX12_stops 12 = .ok (.iload_n 1, 1) := by decide +kernel
theorem dX12_stops_13 : decode cX12_stops 13 = .ok (.imul, 1) := by decide +kernel
theorem dX12_stops_14 : decode cX12_stops 14 = .ok (.iload_n 3, 1) := by decide +kernel
theorem dX12_stops_15 : decode cX12_stops 15 = .ok (.iadd, 1) := by decide +kernel
theorem dX12_stops_16 : decode cX12_stops 16 = .ok (.invokevirtual 493, 3) := by decide +kernel
theorem dX12_stops_19 : decode cX12_stops 19 = .ok (.ifCond .eq 5, 3) := by decide +kernel
theorem dX12_stops_22 : decode cX12_stops 22 = .ok (.iconst 1, 1) := by decide +kernel
theorem dX12_stops_23 : decode cX12_stops 23 = .ok (.ireturn, 1) := by decide +kernel
theorem dX12_stops_24 : decode cX12_stops 24 = .ok (.aload_n 0, 1) := by decide +kernel
theorem dX12_stops_25 : decode cX12_stops 25 = .ok (.getfield 149, 3) := by decide +kernel
theorem dX12_stops_28 : decode cX12_stops 28 = .ok (.bipush 16, 2) := by decide +kernel
theorem dX12_stops_30 : decode cX12_stops 30 = .ok (.iload_n 1, 1) := by decide +kernel
theorem dX12_stops_31 : decode cX12_stops 31 = .ok (.imul, 1) := by decide +kernel
theorem dX12_stops_32 : decode cX12_stops 32 = .ok (.iload_n 3, 1) := by decide +kernel
theorem dX12_stops_33 : decode cX12_stops 33 = .ok (.iadd, 1) := by decide +kernel
theorem dX12_stops_34 : decode cX12_stops 34 = .ok (.iaload, 1) := by decide +kernel
theorem dX12_stops_35 : decode cX12_stops 35 = .ok (.ifCond .ne 5, 3) := by decide +kernel
theorem dX12_stops_38 : decode cX12_stops 38 = .ok (.iconst 2, 1) := by decide +kernel
theorem dX12_stops_39 : decode cX12_stops 39 = .ok (.ireturn, 1) := by decide +kernel
theorem dX12_stops_40 : decode cX12_stops 40 = .ok (.aload_n 0, 1) := by decide +kernel
theorem dX12_stops_41 : decode cX12_stops 41 = .ok (.bipush 16, 2) := by decide +kernel
theorem dX12_stops_43 : decode cX12_stops 43 = .ok (.iload_n 1, 1) := by decide +kernel
theorem dX12_stops_44 : decode cX12_stops 44 = .ok (.imul, 1) := by decide +kernel
theorem dX12_stops_45 : decode cX12_stops 45 = .ok (.iload_n 3, 1) := by decide +kernel
theorem dX12_stops_46 : decode cX12_stops 46 = .ok (.iadd, 1) := by decide +kernel
theorem dX12_stops_47 : decode cX12_stops 47 = .ok (.invokevirtual 546, 3) := by decide +kernel
theorem dX12_stops_50 : decode cX12_stops 50 = .ok (.bipush 16, 2) := by decide +kernel
theorem dX12_stops_52 : decode cX12_stops 52 = .ok (.iload_n 1, 1) := by decide +kernel
theorem dX12_stops_53 : decode cX12_stops 53 = .ok (.imul, 1) := by decide +kernel
theorem dX12_stops_54 : decode cX12_stops 54 = .ok (.iload_n 3, 1) := by decide +kernel
theorem dX12_stops_55 : decode cX12_stops 55 = .ok (.iadd, 1) := by decide +kernel
theorem dX12_stops_56 : decode cX12_stops 56 = .ok (.iload_n 2, 1) := by decide +kernel
theorem dX12_stops_57 : decode cX12_stops 57 = .ok (.if_icmp .ne 7, 3) := by decide +kernel
theorem dX12_stops_60 : decode cX12_stops 60 = .ok (.iconst (-1), 1) := by decide +kernel
theorem dX12_stops_61 : decode cX12_stops 61 = .ok (.goto 4, 3) := by decide +kernel
theorem dX12_stops_64 : decode cX12_stops 64 = .ok (.iconst 0, 1) := by decide +kernel
theorem dX12_stops_65 : decode cX12_stops 65 = .ok (.ireturn, 1) := by decide +kernel
def wb_X12_stops_22  (S : q_S) (Q : Option Value → q_S → Prop) : Prop := Q (some (.int (1 : Int32))) S
set_option maxHeartbeats 4000000 in
set_option maxRecDepth 100000 in
theorem cb_X12_stops_22 {p : Program} {l : Launch} {e : Env} {s : State} {m : MethodId} {args : Array Value} {below : List Frame} {meth : Method} {c : Code} {D : va_G} {cy : Nat → ClassId} {lo : Nat}  {S : q_S} {Q : Option Value → q_S → Prop} {H : Heap} {locs : List Loc} {ls : Array Slot} (X : q_X p s m args meth c RX12 cX12_stops 4 (some .int) D cy lo)  (Y : q_Y D cy lo s S H locs) (hl : lv_has ls 4 []) (h : wb_X12_stops_22 S Q) : W p l e ({ frames := 3, cells := 0, slots := 0, locals := 64 } : Room) s m args below meth c H locs 0 0 (MQ below (q_Q D cy lo Q) args s 0 0 (fun q => lo ≤ q)) (F0 m 22 ls []) := by
  have hx := X.1
  have hb := X.2.1
  unfold wb_X12_stops_22 at h
  refine lv_iconst (v := 1) hx hb dX12_stops_22 (by decide) ?_
  exact q_iret X Y rfl (Nat.le_refl _) (Nat.le_refl _) h dX12_stops_23
def wb_X12_stops_65  (S : q_S) (xs0 : Int32) (Q : Option Value → q_S → Prop) : Prop := Q (some (.int xs0)) S
set_option maxHeartbeats 4000000 in
set_option maxRecDepth 100000 in
theorem cb_X12_stops_65 {p : Program} {l : Launch} {e : Env} {s : State} {m : MethodId} {args : Array Value} {below : List Frame} {meth : Method} {c : Code} {D : va_G} {cy : Nat → ClassId} {lo : Nat}  {S : q_S} {xs0 : Int32} {Q : Option Value → q_S → Prop} {H : Heap} {locs : List Loc} {ls : Array Slot} (X : q_X p s m args meth c RX12 cX12_stops 4 (some .int) D cy lo)  (Y : q_Y D cy lo s S H locs) (hl : lv_has ls 4 []) (h : wb_X12_stops_65 S xs0 Q) : W p l e ({ frames := 3, cells := 0, slots := 0, locals := 64 } : Room) s m args below meth c H locs 0 0 (MQ below (q_Q D cy lo Q) args s 0 0 (fun q => lo ≤ q)) (F0 m 65 ls [.int xs0]) := by
  have hx := X.1
  have hb := X.2.1
  unfold wb_X12_stops_65 at h
  exact q_iret X Y rfl (Nat.le_refl _) (Nat.le_refl _) h dX12_stops_65
def wm_X12_stops (S : q_S) (a0 : Nat) (x1 : Int32) (x2 : Int32) (x3 : Int32) (Q : Option Value → q_S → Prop) : Prop := q_K S a0 = 13 ∧ (wm_X12_isProcess S a0 x1 x3 (fun r2_ S3_ => ∃ x4_ : Int32, r2_ = some (.int x4_) ∧ (((x4_ = 0 → (wb_X12_stops_22 S3_ Q)) ∧ (¬ x4_ = 0 → (q_K S3_ a0 = 13 ∧ (wm_X12_isHandler S3_ a0 (((16 : Int32) * x1) + x3) (fun r7_ S8_ => ∃ x9_ : Int32, r7_ = some (.int x9_) ∧ (((x9_ = 0 → (q_K S8_ a0 = 13 ∧ (∃ a12_ : Nat, (q_P S8_ 2467 a0) = some a12_ ∧ (q_K S8_ a12_ = 21 ∧ (vp_in (((16 : Int32) * x1) + x3) (q_N S8_ a12_) ∧ (((¬ (q_A S8_ a12_ (((16 : Int32) * x1) + x3).toNatClampNeg) = 0 → (wm_X12_dormant S8_ a0 (((16 : Int32) * x1) + x3) (fun r17_ S18_ => r17_ = none ∧ (((¬ (((16 : Int32) * x1) + x3) = x2 → (wb_X12_stops_65 S18_ (0 : Int32) Q)) ∧ ((((16 : Int32) * x1) + x3) = x2 → (wb_X12_stops_65 S18_ (-1 : Int32) Q))))))) ∧ ((q_A S8_ a12_ (((16 : Int32) * x1) + x3).toNatClampNeg) = 0 → (Q (some (.int (2 : Int32))) S8_))))))))) ∧ (¬ x9_ = 0 → (wb_X12_stops_22 S8_ Q))))))))))))
set_option maxHeartbeats 4000000 in
set_option maxRecDepth 100000 in
theorem cm_X12_stops {l : Launch} {D : va_G} {cy : Nat → ClassId} {lo : Nat} {S : q_S} {a0 : Nat} {x1 : Int32} {x2 : Int32} {x3 : Int32} {Q : Option Value → q_S → Prop} (h : wm_X12_stops S a0 x1 x2 x3 Q) : q_Met l D cy lo yX12_stops cX12_stops 4 (some .int) 3 64 0 0 [.ref a0, .int x1, .int x2, .int x3] S Q := by
  refine q_body (by decide) (by first | exact Nat.le_of_ble_eq_true rfl | simp [lg_sl, q_cat, q_catI, q_catJ, q_catR]) ?_
  intro p e s m below meth c ls X hnm Y hl
  have hx := X.1
  have hb := X.2.1
  have hl : lv_has ls 4 [(0, .ref a0), (1, .int x1), (2, .int x2), (3, .int x3)] := by first | exact hl | simpa [lv_args, q_cat, q_catI, q_catJ, q_catR] using hl
  generalize hargs : ([.ref a0, .int x1, .int x2, .int x3] : List Value).toArray = args at X ⊢
  unfold wm_X12_stops at h
  refine lv_aload_n hx hb dX12_stops_0 rfl (lv_at hl 0 rfl) ?_
  refine lv_iload_n hx hb dX12_stops_1 rfl (lv_at hl 1 rfl) ?_
  refine lv_iload_n hx hb dX12_stops_2 rfl (lv_at hl 3 rfl) ?_
  obtain ⟨k1_, h⟩ := h
  refine q_callV X Y hl (cm_X12_isProcess h) mt_X12_isProcess mi_X12_isProcess ml_X12_613 (ci := 12) rfl k1_ (by decide) rfl rfl (by first | exact Nat.le_of_ble_eq_true rfl | simp [q_cat, q_catI, q_catJ, q_catR]) ⟨Nat.le_of_ble_eq_true rfl, Nat.le_of_ble_eq_true rfl⟩ ⟨Nat.le_of_ble_eq_true rfl, Nat.le_of_ble_eq_true rfl⟩ dX12_stops_3 (fun r2_ S3_ H locs hp Y => ?_)
  obtain ⟨x4_, rfl, h⟩ := hp
  refine W.eq (g2 := F0 m 6 ls [.int x4_]) rfl ?_
  refine lv_if_eq (tgt := 22) hx hb dX12_stops_6 (by decide) (fun c5_ => ?_) (fun c5_ => ?_)
  · replace h := h.1 c5_
    exact cb_X12_stops_22 X Y (lv_sub hl [] rfl) h
  · replace h := h.2 c5_
    refine lv_aload_n hx hb dX12_stops_9 rfl (lv_at hl 0 rfl) ?_
    refine lv_bipush (v := 16) hx hb dX12_stops_10 (by decide) ?_
    refine lv_iload_n hx hb dX12_stops_12 rfl (lv_at hl 1 rfl) ?_
    refine lv_imul hx hb dX12_stops_13 ?_
    refine lv_iload_n hx hb dX12_stops_14 rfl (lv_at hl 3 rfl) ?_
    refine lv_iadd hx hb dX12_stops_15 ?_
    obtain ⟨k6_, h⟩ := h
    refine q_callV X Y hl (cm_X12_isHandler h) mt_X12_isHandler mi_X12_isHandler ml_X12_493 (ci := 12) rfl k6_ (by decide) rfl rfl (by first | exact Nat.le_of_ble_eq_true rfl | simp [q_cat, q_catI, q_catJ, q_catR]) ⟨Nat.le_of_ble_eq_true rfl, Nat.le_of_ble_eq_true rfl⟩ ⟨Nat.le_of_ble_eq_true rfl, Nat.le_of_ble_eq_true rfl⟩ dX12_stops_16 (fun r7_ S8_ H locs hp Y => ?_)
    obtain ⟨x9_, rfl, h⟩ := hp
    refine W.eq (g2 := F0 m 19 ls [.int x9_]) rfl ?_
    refine lv_if_eq (tgt := 24) hx hb dX12_stops_19 (by decide) (fun c10_ => ?_) (fun c10_ => ?_)
    · replace h := h.1 c10_
      refine lv_aload_n hx hb dX12_stops_24 rfl (lv_at hl 0 rfl) ?_
      obtain ⟨k11_, h⟩ := h
      refine q_getP X Y kX12 67 rfl fl_X12_149 k11_ rfl dX12_stops_25 ?_
      refine lv_bipush (v := 16) hx hb dX12_stops_28 (by decide) ?_
      refine lv_iload_n hx hb dX12_stops_30 rfl (lv_at hl 1 rfl) ?_
      refine lv_imul hx hb dX12_stops_31 ?_
      refine lv_iload_n hx hb dX12_stops_32 rfl (lv_at hl 3 rfl) ?_
      refine lv_iadd hx hb dX12_stops_33 ?_
      obtain ⟨a12_, e13_, h⟩ := h
      refine q_nn [.int (((16 : Int32) * x1) + x3)] e13_ ?_
      obtain ⟨k14_, h⟩ := h
      obtain ⟨i15_, h⟩ := h
      refine q_ild X Y k14_ i15_ dX12_stops_34 ?_
      refine lv_if_ne (tgt := 40) hx hb dX12_stops_35 (by decide) (fun c16_ => ?_) (fun c16_ => ?_)
      · replace h := h.1 c16_
        refine lv_aload_n hx hb dX12_stops_40 rfl (lv_at hl 0 rfl) ?_
        refine lv_bipush (v := 16) hx hb dX12_stops_41 (by decide) ?_
        refine lv_iload_n hx hb dX12_stops_43 rfl (lv_at hl 1 rfl) ?_
        refine lv_imul hx hb dX12_stops_44 ?_
        refine lv_iload_n hx hb dX12_stops_45 rfl (lv_at hl 3 rfl) ?_
        refine lv_iadd hx hb dX12_stops_46 ?_
        refine q_callV X Y hl (cm_X12_dormant h) mt_X12_dormant mi_X12_dormant ml_X12_546 (ci := 12) rfl k11_ (by decide) rfl rfl (by first | exact Nat.le_of_ble_eq_true rfl | simp [q_cat, q_catI, q_catJ, q_catR]) ⟨Nat.le_of_ble_eq_true rfl, Nat.le_of_ble_eq_true rfl⟩ ⟨Nat.le_of_ble_eq_true rfl, Nat.le_of_ble_eq_true rfl⟩ dX12_stops_47 (fun r17_ S18_ H locs hp Y => ?_)
        obtain ⟨rfl, h⟩ := hp
        refine W.eq (g2 := F0 m 50 ls []) rfl ?_
        refine lv_bipush (v := 16) hx hb dX12_stops_50 (by decide) ?_
        refine lv_iload_n hx hb dX12_stops_52 rfl (lv_at hl 1 rfl) ?_
        refine lv_imul hx hb dX12_stops_53 ?_
        refine lv_iload_n hx hb dX12_stops_54 rfl (lv_at hl 3 rfl) ?_
        refine lv_iadd hx hb dX12_stops_55 ?_
        refine lv_iload_n hx hb dX12_stops_56 rfl (lv_at hl 2 rfl) ?_
        refine lv_icmp_ne (tgt := 64) hx hb dX12_stops_57 (by decide) (fun c19_ => ?_) (fun c19_ => ?_)
        · replace h := h.1 c19_
          refine lv_iconst (v := 0) hx hb dX12_stops_64 (by decide) ?_
          exact cb_X12_stops_65 X Y (lv_sub hl [] rfl) h
        · replace h := h.2 c19_
          refine lv_iconst (v := (-1)) hx hb dX12_stops_60 (by decide) ?_
          refine lv_goto (tgt := 65) hx hb dX12_stops_61 (by decide) ?_
          exact cb_X12_stops_65 X Y (lv_sub hl [] rfl) h
      · replace h := h.2 c16_
        refine lv_iconst (v := 2) hx hb dX12_stops_38 (by decide) ?_
        exact q_iret X Y rfl (Nat.le_refl _) (Nat.le_refl _) h dX12_stops_39
    · replace h := h.2 c10_
      exact cb_X12_stops_22 X Y (lv_sub hl [] rfl) h
-- X12_ofProcesses
theorem ml_X12_600 : Cond.methodLink RX12 600 yX12_periodic ∈ q_G := q_tb (i := 2385) (by decide +kernel) (by decide +kernel)
theorem mt_X12_periodic : q_Mt yX12_periodic cX12_periodic 3 (some .int) 1 := ⟨q_tb (i := 2388) (by decide +kernel) (by decide +kernel), q_tb (i := 11) (by decide +kernel) (by decide +kernel), by decide +kernel, by decide +kernel, by decide +kernel⟩
theorem mi_X12_periodic : Cond.instanceMethod yX12_periodic ∈ q_G ∧ Cond.selects yX12_periodic.cls yX12_periodic yX12_periodic ∈ q_G := ⟨q_tb (i := 2387) (by decide +kernel) (by decide +kernel), q_tp (i := 152) (q := (yX12_periodic, 114)) (by decide +kernel) (by decide +kernel)⟩
theorem ml_X12_607 : Cond.methodLink RX12 607 yX12_starts ∈ q_G := q_tb (i := 2393) (by decide +kernel) (by decide +kernel)
theorem mt_X12_starts : q_Mt yX12_starts cX12_starts 5 (some .int) 3 := ⟨q_tb (i := 2396) (by decide +kernel) (by decide +kernel), q_tb (i := 11) (by decide +kernel) (by decide +kernel), by decide +kernel, by decide +kernel, by decide +kernel⟩
theorem mi_X12_starts : Cond.instanceMethod yX12_starts ∈ q_G ∧ Cond.selects yX12_starts.cls yX12_starts yX12_starts ∈ q_G := ⟨q_tb (i := 2395) (by decide +kernel) (by decide +kernel), q_tp (i := 154) (q := (yX12_starts, 114)) (by decide +kernel) (by decide +kernel)⟩
theorem ml_X12_610 : Cond.methodLink RX12 610 yX12_stops ∈ q_G := q_tb (i := 2401) (by decide +kernel) (by decide +kernel)
theorem mt_X12_stops : q_Mt yX12_stops cX12_stops 4 (some .int) 3 := ⟨q_tb (i := 2404) (by decide +kernel) (by decide +kernel), q_tb (i := 11) (by decide +kernel) (by decide +kernel), by decide +kernel, by decide +kernel, by decide +kernel⟩
theorem mi_X12_stops : Cond.instanceMethod yX12_stops ∈ q_G ∧ Cond.selects yX12_stops.cls yX12_stops yX12_stops ∈ q_G := ⟨q_tb (i := 2403) (by decide +kernel) (by decide +kernel), q_tp (i := 156) (q := (yX12_stops, 114)) (by decide +kernel) (by decide +kernel)⟩
theorem dX12_ofProcesses_0 : decode cX12_ofProcesses 0 = .ok (.iload_n 1, 1) := by decide +kernel
theorem dX12_ofProcesses_1 : decode cX12_ofProcesses 1 = .ok (.tableswitch 168 0 6 #[43, 50, 67, 96, 108, 117, 157], 43) := by decide +kernel
theorem dX12_ofProcesses_44 : decode cX12_ofProcesses 44 = .ok (.aload_n 0, 1) := by decide +kernel
theorem dX12_ofProcesses_45 : decode cX12_ofProcesses 45 = .ok (.iload_n 3, 1) := by decide +kernel
theorem dX12_ofProcesses_46 : decode cX12_ofProcesses 46 = .ok (.invokevirtual 546, 3) := by decide +kernel
theorem dX12_ofProcesses_49 : decode cX12_ofProcesses 49 = .ok (.iconst (-1), 1) := by decide +kernel
theorem dX12_ofProcesses_50 : decode cX12_ofProcesses 50 = .ok (.ireturn, 1) := by decide +kernel
theorem dX12_ofProcesses_51 : decode cX12_ofProcesses 51 = .ok (.aload_n 0, 1) := by decide +kernel
theorem dX12_ofProcesses_52 : decode cX12_ofProcesses 52 = .ok (.getfield 69, 3) := by decide +kernel
theorem dX12_ofProcesses_55 : decode cX12_ofProcesses 55 = .ok (.iload_n 3, 1) := by decide +kernel
theorem dX12_ofProcesses_56 : decode cX12_ofProcesses 56 = .ok (.iaload, 1) := by decide +kernel
theorem dX12_ofProcesses_57 : decode cX12_ofProcesses 57 = .ok (.ifCond .ne 5, 3) := by decide +kernel
theorem dX12_ofProcesses_60 : decode cX12_ofProcesses 60 = .ok (.iconst 3, 1) := by decide +kernel
theorem dX12_ofProcesses_61 : decode cX12_ofProcesses 61 = .ok (.ireturn, 1) := by decide +kernel
theorem dX12_ofProcesses_62 : decode cX12_ofProcesses 62 = .ok (.aload_n 0, 1) := by decide +kernel
theorem dX12_ofProcesses_63 : decode cX12_ofProcesses 63 = .ok (.iload_n 3, 1) := by decide +kernel
theorem dX12_ofProcesses_64 : decode cX12_ofProcesses 64 = .ok (.invokevirtual 600, 3) := by decide +kernel
theorem dX12_ofProcesses_67 : decode cX12_ofProcesses 67 = .ok (.ireturn, 1) := by decide +kernel
theorem dX12_ofProcesses_68 : decode cX12_ofProcesses 68 = .ok (.iload 4, 2) := by decide +kernel
theorem dX12_ofProcesses_70 : decode cX12_ofProcesses 70 = .ok (.iconst 1, 1) := by decide +kernel
theorem dX12_ofProcesses_71 : decode cX12_ofProcesses 71 = .ok (.if_icmp .lt 11, 3) := by decide +kernel
theorem dX12_ofProcesses_74 : decode cX12_ofProcesses 74 = .ok (.iload 4, 2) := by decide +kernel
theorem dX12_ofProcesses_76 : decode cX12_ofProcesses 76 = .ok (.ldc_w 401, 3) := by decide +kernel
theorem dX12_ofProcesses_79 : decode cX12_ofProcesses 79 = .ok (.if_icmp .le 5, 3) := by decide +kernel
theorem dX12_ofProcesses_82 : decode cX12_ofProcesses 82 = .ok (.iconst 1, 1) := by decide +kernel
theorem dX12_ofProcesses_83 : decode cX12_ofProcesses 83 = .ok (.ireturn, 1) := by decide +kernel
theorem dX12_ofProcesses_84 : decode cX12_ofProcesses 84 = .ok (.aload_n 0, 1) := by decide +kernel
theorem dX12_ofProcesses_85 : decode cX12_ofProcesses 85 = .ok (.iload_n 3, 1) := by decide +kernel
theorem dX12_ofProcesses_86 : decode cX12_ofProcesses 86 = .ok (.aload_n 0, 1) := by decide +kernel
theorem dX12_ofProcesses_87 : decode cX12_ofProcesses 87 = .ok (.getfield 453, 3) := by decide +kernel
theorem dX12_ofProcesses_90 : decode cX12_ofProcesses 90 = .ok (.iload 4, 2) := by decide +kernel
theorem dX12_ofProcesses_92 : decode cX12_ofProcesses 92 = .ok (.iadd, 1) := by decide +kernel
theorem dX12_ofProcesses_93 : decode cX12_ofProcesses 93 = .ok (.invokevirtual 603, 3) := by decide +kernel
theorem dX12_ofProcesses_96 : decode cX12_ofProcesses 96 = .ok (.ireturn, 1) := by decide +kernel
theorem dX12_ofProcesses_97 : decode cX12_ofProcesses 97 = .ok (.aload_n 0, 1) := by decide +kernel
theorem dX12_ofProcesses_98 : decode cX12_ofProcesses 98 = .ok (.iload_n 2, 1) := by decide +kernel
theorem dX12_ofProcesses_99 : decode cX12_ofProcesses 99 = .ok (.iload 4, 2) := by decide +kernel
theorem dX12_ofProcesses_101 : decode cX12_ofProcesses 101 = .ok (.aload_n 0, 1) := by decide +kernel
theorem dX12_ofProcesses_102 : decode cX12_ofProcesses 102 = .ok (.getfield 453, 3) := by decide +kernel
theorem dX12_ofProcesses_105 : decode cX12_ofProcesses 105 = .ok (.invokevirtual 607, 3) := by decide +kernel
theorem dX12_ofProcesses_108 : decode cX12_ofProcesses 108 = .ok (.ireturn, 1) := by decide +kernel
theorem dX12_ofProcesses_109 : decode cX12_ofProcesses 109 = .ok (.aload_n 0, 1) := by decide +kernel
theorem dX12_ofProcesses_110 : decode cX12_ofProcesses 110 = .ok (.iload_n 2, 1) := by decide +kernel
theorem dX12_ofProcesses_111 : decode cX12_ofProcesses 111 = .ok (.iload_n 3, 1) := by decide +kernel
theorem dX12_ofProcesses_112 : decode cX12_ofProcesses 112 = .ok (.iload 4, 2) := by decide +kernel
theorem dX12_ofProcesses_114 : decode cX12_ofProcesses 114 = .ok (.invokevirtual 610, 3) := by decide +kernel
theorem dX12_ofProcesses_117 : decode cX12_ofProcesses 117 = .ok (.ireturn, 1) := by decide +kernel
theorem dX12_ofProcesses_118 : decode cX12_ofProcesses 118 = .ok (.aload_n 0, 1) := by decide +kernel
theorem dX12_ofProcesses_119 : decode cX12_ofProcesses 119 = .ok (.iload_n 2, 1) := by decide +kernel
theorem dX12_ofProcesses_120 : decode cX12_ofProcesses 120 = .ok (.iload 4, 2) := by decide +kernel
theorem dX12_ofProcesses_122 : decode cX12_ofProcesses 122 = .ok (.invokevirtual 613, 3) := by decide +kernel
theorem dX12_ofProcesses_125 : decode cX12_ofProcesses 125 = .ok (.ifCond .eq 15, 3) := by decide +kernel
theorem dX12_ofProcesses_128 : decode cX12_ofProcesses 128 = .ok (.iload 5, 2) := by decide +kernel
theorem dX12_ofProcesses_130 : decode cX12_ofProcesses 130 = .ok (.ifCond .lt 10, 3) := by decide +kernel
theorem dX12_ofProcesses_133 : decode cX12_ofProcesses 133 = .ok (.iload 5, 2) := by decide +kernel
theorem dX12_ofProcesses_135 : decode cX12_ofProcesses 135 = .ok (.bipush 15, 2) := by decide +kernel
theorem dX12_ofProcesses_137 : decode cX12_ofProcesses 137 = .ok (.if_icmp .le 5, 3) := by decide +kernel
theorem dX12_ofProcesses_140 : decode cX12_ofProcesses 140 = .ok (.iconst 1, 1) := by decide +kernel
theorem dX12_ofProcesses_141 : decode cX12_ofProcesses 141 = .ok (.ireturn, 1) := by decide +kernel
theorem dX12_ofProcesses_142 : decode cX12_ofProcesses 142 = .ok (.aload_n 0, 1) := by decide +kernel
theorem dX12_ofProcesses_143 : decode cX12_ofProcesses 143 = .ok (.getfield 155, 3) := by decide +kernel
theorem dX12_ofProcesses_146 : decode cX12_ofProcesses 146 = .ok (.bipush 16, 2) := by decide +kernel
theorem dX12_ofProcesses_148 : decode cX12_ofProcesses 148 = .ok (.iload_n 2, 1) := by decide +kernel
theorem dX12_ofProcesses_149 : decode cX12_ofProcesses 149 = .ok (.imul, 1) := by decide +kernel
theorem dX12_ofProcesses_150 : decode cX12_ofProcesses 150 = .ok (.iload 4, 2) := by decide +kernel
theorem dX12_ofProcesses_152 : decode cX12_ofProcesses 152 = .ok (.iadd, 1) := by decide +kernel
theorem dX12_ofProcesses_153 : decode cX12_ofProcesses 153 = .ok (.iload 5, 2) := by decide +kernel
theorem dX12_ofProcesses_155 : decode cX12_ofProcesses 155 = .ok (.iastore, 1) := by decide +kernel
theorem dX12_ofProcesses_156 : decode cX12_ofProcesses 156 = .ok (.iconst 0, 1) := by decide +kernel
theorem dX12_ofProcesses_157 : decode cX12_ofProcesses 157 = .ok (.ireturn, 1) := by decide +kernel
theorem dX12_ofProcesses_158 : decode cX12_ofProcesses 158 = .ok (.aload_n 0, 1) := by decide +kernel
theorem dX12_ofProcesses_159 : decode cX12_ofProcesses 159 = .ok (.iload_n 3, 1) := by decide +kernel
theorem dX12_ofProcesses_160 : decode cX12_ofProcesses 160 = .ok (.aload_n 0, 1) := by decide +kernel
theorem dX12_ofProcesses_161 : decode cX12_ofProcesses 161 = .ok (.getfield 453, 3) := by decide +kernel
theorem dX12_ofProcesses_164 : decode cX12_ofProcesses 164 = .ok (.invokevirtual 506, 3) := by decide +kernel
theorem dX12_ofProcesses_167 : decode cX12_ofProcesses 167 = .ok (.iconst (-1), 1) := by decide +kernel
theorem dX12_ofProcesses_168 : decode cX12_ofProcesses 168 = .ok (.ireturn, 1) := by decide +kernel
theorem dX12_ofProcesses_169 : decode cX12_ofProcesses 169 = .ok (.aload_n 0, 1) := by decide +kernel
theorem dX12_ofProcesses_170 : decode cX12_ofProcesses 170 = .ok (.dup, 1) := by decide +kernel
theorem dX12_ofProcesses_171 : decode cX12_ofProcesses 171 = .ok (.getfield 456, 3) := by decide +kernel
theorem dX12_ofProcesses_174 : decode cX12_ofProcesses 174 = .ok (.iconst 1, 1) := by decide +kernel
theorem dX12_ofProcesses_175 : decode cX12_ofProcesses 175 = .ok (.iadd, 1) := by decide +kernel
theorem dX12_ofProcesses_176 : decode cX12_ofProcesses 176 = .ok (.putfield 456, 3) := by decide +kernel
theorem dX12_ofProcesses_179 : decode cX12_ofProcesses 179 = .ok (.aload_n 0, 1) := by decide +kernel
theorem dX12_ofProcesses_180 : decode cX12_ofProcesses 180 = .ok (.getfield 176, 3) := by decide +kernel
theorem dX12_ofProcesses_183 : decode cX12_ofProcesses 183 = .ok (.iload_n 3, 1) := by decide +kernel
theorem dX12_ofProcesses_184 : decode cX12_ofProcesses 184 = .ok (.aload_n 0, 1) := by decide +kernel
theorem dX12_ofProcesses_185 : decode cX12_ofProcesses 185 = .ok (.getfield 456, 3) := by decide +kernel
theorem dX12_ofProcesses_188 : decode cX12_ofProcesses 188 = .ok (.iastore, 1) := by decide +kernel
theorem dX12_ofProcesses_189 : decode cX12_ofProcesses 189 = .ok (.iconst 0, 1) := by decide +kernel
theorem dX12_ofProcesses_190 : decode cX12_ofProcesses 190 = .ok (.ireturn, 1) := by decide +kernel
def wb_X12_ofProcesses_140  (S : q_S) (Q : Option Value → q_S → Prop) : Prop := Q (some (.int (1 : Int32))) S
set_option maxHeartbeats 4000000 in
set_option maxRecDepth 100000 in
theorem cb_X12_ofProcesses_140 {p : Program} {l : Launch} {e : Env} {s : State} {m : MethodId} {args : Array Value} {below : List Frame} {meth : Method} {c : Code} {D : va_G} {cy : Nat → ClassId} {lo : Nat}  {S : q_S} {Q : Option Value → q_S → Prop} {H : Heap} {locs : List Loc} {ls : Array Slot} (X : q_X p s m args meth c RX12 cX12_ofProcesses 6 (some .int) D cy lo)  (Y : q_Y D cy lo s S H locs) (hl : lv_has ls 6 []) (h : wb_X12_ofProcesses_140 S Q) : W p l e ({ frames := 4, cells := 0, slots := 0, locals := 87 } : Room) s m args below meth c H locs 0 0 (MQ below (q_Q D cy lo Q) args s 0 0 (fun q => lo ≤ q)) (F0 m 140 ls []) := by
  have hx := X.1
  have hb := X.2.1
  unfold wb_X12_ofProcesses_140 at h
  refine lv_iconst (v := 1) hx hb dX12_ofProcesses_140 (by decide) ?_
  exact q_iret X Y rfl (Nat.le_refl _) (Nat.le_refl _) h dX12_ofProcesses_141
def wb_X12_ofProcesses_82  (S : q_S) (Q : Option Value → q_S → Prop) : Prop := Q (some (.int (1 : Int32))) S
set_option maxHeartbeats 4000000 in
set_option maxRecDepth 100000 in
theorem cb_X12_ofProcesses_82 {p : Program} {l : Launch} {e : Env} {s : State} {m : MethodId} {args : Array Value} {below : List Frame} {meth : Method} {c : Code} {D : va_G} {cy : Nat → ClassId} {lo : Nat}  {S : q_S} {Q : Option Value → q_S → Prop} {H : Heap} {locs : List Loc} {ls : Array Slot} (X : q_X p s m args meth c RX12 cX12_ofProcesses 6 (some .int) D cy lo)  (Y : q_Y D cy lo s S H locs) (hl : lv_has ls 6 []) (h : wb_X12_ofProcesses_82 S Q) : W p l e ({ frames := 4, cells := 0, slots := 0, locals := 87 } : Room) s m args below meth c H locs 0 0 (MQ below (q_Q D cy lo Q) args s 0 0 (fun q => lo ≤ q)) (F0 m 82 ls []) := by
  have hx := X.1
  have hb := X.2.1
  unfold wb_X12_ofProcesses_82 at h
  refine lv_iconst (v := 1) hx hb dX12_ofProcesses_82 (by decide) ?_
  exact q_iret X Y rfl (Nat.le_refl _) (Nat.le_refl _) h dX12_ofProcesses_83
def wm_X12_ofProcesses (S : q_S) (a0 : Nat) (x1 : Int32) (x2 : Int32) (x3 : Int32) (x4 : Int32) (x5 : Int32) (Q : Option Value → q_S → Prop) : Prop := (((x1.toInt < 0 ∨ 6 < x1.toInt) → (q_K S a0 = 13 ∧ (∃ a2_ : Nat, (q_P (qs_I S 2464 a0 ((q_I S 2464 a0) + (1 : Int32))) 2476 a0) = some a2_ ∧ (q_K (qs_I S 2464 a0 ((q_I S 2464 a0) + (1 : Int32))) a2_ = 21 ∧ (vp_in x3 (q_N (qs_I S 2464 a0 ((q_I S 2464 a0) + (1 : Int32))) a2_) ∧ (∀ S6_ : q_S, S6_ = (qs_A (qs_I S 2464 a0 ((q_I S 2464 a0) + (1 : Int32))) a2_ x3.toNatClampNeg (q_I (qs_I S 2464 a0 ((q_I S 2464 a0) + (1 : Int32))) 2464 a0)) → (Q (some (.int (0 : Int32))) S6_))))))) ∧ ((x1 = (0 : Int32)) → (q_K S a0 = 13 ∧ (wm_X12_dormant S a0 x3 (fun r8_ S9_ => r8_ = none ∧ (Q (some (.int (-1 : Int32))) S9_))))) ∧ ((x1 = (1 : Int32)) → (q_K S a0 = 13 ∧ (∃ a11_ : Nat, (q_P S 2438 a0) = some a11_ ∧ (q_K S a11_ = 21 ∧ (vp_in x3 (q_N S a11_) ∧ (((¬ (q_A S a11_ x3.toNatClampNeg) = 0 → (wm_X12_periodic S a0 x3 (fun r16_ S17_ => ∃ x18_ : Int32, r16_ = some (.int x18_) ∧ (Q (some (.int x18_)) S17_)))) ∧ ((q_A S a11_ x3.toNatClampNeg) = 0 → (Q (some (.int (3 : Int32))) S))))))))) ∧ ((x1 = (2 : Int32)) → (((x4 < (1 : Int32) → (wb_X12_ofProcesses_82 S Q)) ∧ (¬ x4 < (1 : Int32) → (((x4 ≤ (100000 : Int32) → (q_K S a0 = 13 ∧ (wm_X12_waitsUntil S a0 x3 ((q_I S 2463 a0) + x4) (fun r22_ S23_ => ∃ x24_ : Int32, r22_ = some (.int x24_) ∧ (Q (some (.int x24_)) S23_))))) ∧ (¬ x4 ≤ (100000 : Int32) → (wb_X12_ofProcesses_82 S Q)))))))) ∧ ((x1 = (3 : Int32)) → (q_K S a0 = 13 ∧ (wm_X12_starts S a0 x2 x4 (q_I S 2463 a0) (fun r26_ S27_ => ∃ x28_ : Int32, r26_ = some (.int x28_) ∧ (Q (some (.int x28_)) S27_))))) ∧ ((x1 = (4 : Int32)) → (q_K S a0 = 13 ∧ (wm_X12_stops S a0 x2 x3 x4 (fun r30_ S31_ => ∃ x32_ : Int32, r30_ = some (.int x32_) ∧ (Q (some (.int x32_)) S31_))))) ∧ ((x1 = (5 : Int32)) → (q_K S a0 = 13 ∧ (wm_X12_isProcess S a0 x2 x4 (fun r34_ S35_ => ∃ x36_ : Int32, r34_ = some (.int x36_) ∧ (((x36_ = 0 → (wb_X12_ofProcesses_140 S35_ Q)) ∧ (¬ x36_ = 0 → (((x5 < 0 → (wb_X12_ofProcesses_140 S35_ Q)) ∧ (¬ x5 < 0 → (((x5 ≤ (15 : Int32) → (q_K S35_ a0 = 13 ∧ (∃ a41_ : Nat, (q_P S35_ 2469 a0) = some a41_ ∧ (q_K S35_ a41_ = 21 ∧ (vp_in (((16 : Int32) * x2) + x4) (q_N S35_ a41_) ∧ (Q (some (.int (0 : Int32))) (qs_A S35_ a41_ (((16 : Int32) * x2) + x4).toNatClampNeg x5))))))) ∧ (¬ x5 ≤ (15 : Int32) → (wb_X12_ofProcesses_140 S35_ Q)))))))))))))) ∧ ((x1 = (6 : Int32)) → (q_K S a0 = 13 ∧ (wm_X12_answer S a0 x3 (q_I S 2463 a0) (fun r46_ S47_ => r46_ = none ∧ (Q (some (.int (-1 : Int32))) S47_))))))
set_option maxHeartbeats 4000000 in
set_option maxRecDepth 100000 in
theorem cm_X12_ofProcesses {l : Launch} {D : va_G} {cy : Nat → ClassId} {lo : Nat} {S : q_S} {a0 : Nat} {x1 : Int32} {x2 : Int32} {x3 : Int32} {x4 : Int32} {x5 : Int32} {Q : Option Value → q_S → Prop} (h : wm_X12_ofProcesses S a0 x1 x2 x3 x4 x5 Q) : q_Met l D cy lo yX12_ofProcesses cX12_ofProcesses 6 (some .int) 4 87 0 0 [.ref a0, .int x1, .int x2, .int x3, .int x4, .int x5] S Q := by
  refine q_body (by decide) (by first | exact Nat.le_of_ble_eq_true rfl | simp [lg_sl, q_cat, q_catI, q_catJ, q_catR]) ?_
  intro p e s m below meth c ls X hnm Y hl
  have hx := X.1
  have hb := X.2.1
  have hl : lv_has ls 6 [(0, .ref a0), (1, .int x1), (2, .int x2), (3, .int x3), (4, .int x4), (5, .int x5)] := by first | exact hl | simpa [lv_args, q_cat, q_catI, q_catJ, q_catR] using hl
  generalize hargs : ([.ref a0, .int x1, .int x2, .int x3, .int x4, .int x5] : List Value).toArray = args at X ⊢
  unfold wm_X12_ofProcesses at h
  refine lv_iload_n hx hb dX12_ofProcesses_0 rfl (lv_at hl 1 rfl) ?_
  refine q_tsw (tgt := 169) hx hb dX12_ofProcesses_1 (by decide) (by decide) (fun c48_ => ?_) (fun j49_ hj_ c48_ => ?_)
  · replace h := h.1 c48_
    refine lv_aload_n hx hb dX12_ofProcesses_169 rfl (lv_at hl 0 rfl) ?_
    refine lv_dup hx hb dX12_ofProcesses_170 rfl ?_
    obtain ⟨k1_, h⟩ := h
    refine q_getI X Y kX12 64 rfl fl_X12_456 k1_ dX12_ofProcesses_171 ?_
    refine lv_iconst (v := 1) hx hb dX12_ofProcesses_174 (by decide) ?_
    refine lv_iadd hx hb dX12_ofProcesses_175 ?_
    refine q_putI X Y kX12 64 rfl fl_X12_456 k1_ .int rfl ⟨rfl, rfl⟩ rfl dX12_ofProcesses_176 (fun H locs Y => ?_)
    refine lv_aload_n hx hb dX12_ofProcesses_179 rfl (lv_at hl 0 rfl) ?_
    refine q_getP X Y kX12 76 rfl fl_X12_176 k1_ rfl dX12_ofProcesses_180 ?_
    refine lv_iload_n hx hb dX12_ofProcesses_183 rfl (lv_at hl 3 rfl) ?_
    refine lv_aload_n hx hb dX12_ofProcesses_184 rfl (lv_at hl 0 rfl) ?_
    refine q_getI X Y kX12 64 rfl fl_X12_456 k1_ dX12_ofProcesses_185 ?_
    obtain ⟨a2_, e3_, h⟩ := h
    refine q_nn [.int (q_I (qs_I S 2464 a0 ((q_I S 2464 a0) + (1 : Int32))) 2464 a0), .int x3] e3_ ?_
    obtain ⟨k4_, h⟩ := h
    obtain ⟨i5_, h⟩ := h
    refine q_ist X Y k4_ i5_ dX12_ofProcesses_188 (fun H locs Y => ?_)
    obtain ⟨S6_, gS6_⟩ : ∃ z : q_S, z = (qs_A (qs_I S 2464 a0 ((q_I S 2464 a0) + (1 : Int32))) a2_ x3.toNatClampNeg (q_I (qs_I S 2464 a0 ((q_I S 2464 a0) + (1 : Int32))) 2464 a0)) := ⟨_, rfl⟩
    replace Y : q_Y D cy lo s S6_ H locs := by rw [gS6_]; exact Y
    replace h := h S6_ gS6_
    replace k1_ : q_K S6_ a0 = 13 := by rw [gS6_]; exact k1_
    replace k4_ : q_K S6_ a2_ = 21 := by rw [gS6_]; exact k4_
    refine lv_iconst (v := 0) hx hb dX12_ofProcesses_189 (by decide) ?_
    exact q_iret X Y rfl (Nat.le_refl _) (Nat.le_refl _) h dX12_ofProcesses_190
  · match j49_, hj_, c48_ with
    | 0, _, c48_ =>
      refine ⟨43, 44, rfl, by decide, ?_⟩
      replace h := h.2.1 (q_eqI c48_ (by decide))
      refine lv_aload_n hx hb dX12_ofProcesses_44 rfl (lv_at hl 0 rfl) ?_
      refine lv_iload_n hx hb dX12_ofProcesses_45 rfl (lv_at hl 3 rfl) ?_
      obtain ⟨k7_, h⟩ := h
      refine q_callV X Y hl (cm_X12_dormant h) mt_X12_dormant mi_X12_dormant ml_X12_546 (ci := 12) rfl k7_ (by decide) rfl rfl (by first | exact Nat.le_of_ble_eq_true rfl | simp [q_cat, q_catI, q_catJ, q_catR]) ⟨Nat.le_of_ble_eq_true rfl, Nat.le_of_ble_eq_true rfl⟩ ⟨Nat.le_of_ble_eq_true rfl, Nat.le_of_ble_eq_true rfl⟩ dX12_ofProcesses_46 (fun r8_ S9_ H locs hp Y => ?_)
      obtain ⟨rfl, h⟩ := hp
      refine W.eq (g2 := F0 m 49 ls []) rfl ?_
      refine lv_iconst (v := (-1)) hx hb dX12_ofProcesses_49 (by decide) ?_
      exact q_iret X Y rfl (Nat.le_refl _) (Nat.le_refl _) h dX12_ofProcesses_50
    | 1, _, c48_ =>
      refine ⟨50, 51, rfl, by decide, ?_⟩
      replace h := h.2.2.1 (q_eqI c48_ (by decide))
      refine lv_aload_n hx hb dX12_ofProcesses_51 rfl (lv_at hl 0 rfl) ?_
      obtain ⟨k10_, h⟩ := h
      refine q_getP X Y kX12 38 rfl fl_X12_69 k10_ rfl dX12_ofProcesses_52 ?_
      refine lv_iload_n hx hb dX12_ofProcesses_55 rfl (lv_at hl 3 rfl) ?_
      obtain ⟨a11_, e12_, h⟩ := h
      refine q_nn [.int x3] e12_ ?_
      obtain ⟨k13_, h⟩ := h
      obtain ⟨i14_, h⟩ := h
      refine q_ild X Y k13_ i14_ dX12_ofProcesses_56 ?_
      refine lv_if_ne (tgt := 62) hx hb dX12_ofProcesses_57 (by decide) (fun c15_ => ?_) (fun c15_ => ?_)
      · replace h := h.1 c15_
        refine lv_aload_n hx hb dX12_ofProcesses_62 rfl (lv_at hl 0 rfl) ?_
        refine lv_iload_n hx hb dX12_ofProcesses_63 rfl (lv_at hl 3 rfl) ?_
        refine q_callV X Y hl (cm_X12_periodic h) mt_X12_periodic mi_X12_periodic ml_X12_600 (ci := 12) rfl k10_ (by decide) rfl rfl (by first | exact Nat.le_of_ble_eq_true rfl | simp [q_cat, q_catI, q_catJ, q_catR]) ⟨Nat.le_of_ble_eq_true rfl, Nat.le_of_ble_eq_true rfl⟩ ⟨Nat.le_of_ble_eq_true rfl, Nat.le_of_ble_eq_true rfl⟩ dX12_ofProcesses_64 (fun r16_ S17_ H locs hp Y => ?_)
        obtain ⟨x18_, rfl, h⟩ := hp
        refine W.eq (g2 := F0 m 67 ls [.int x18_]) rfl ?_
        exact q_iret X Y rfl (Nat.le_refl _) (Nat.le_refl _) h dX12_ofProcesses_67
      · replace h := h.2 c15_
        refine lv_iconst (v := 3) hx hb dX12_ofProcesses_60 (by decide) ?_
        exact q_iret X Y rfl (Nat.le_refl _) (Nat.le_refl _) h dX12_ofProcesses_61
    | 2, _, c48_ =>
      refine ⟨67, 68, rfl, by decide, ?_⟩
      replace h := h.2.2.2.1 (q_eqI c48_ (by decide))
      refine lv_iload hx hb dX12_ofProcesses_68 (lv_at hl 4 rfl) ?_
      refine lv_iconst (v := 1) hx hb dX12_ofProcesses_70 (by decide) ?_
      refine lv_icmp_lt (tgt := 82) hx hb dX12_ofProcesses_71 (by decide) (fun c19_ => ?_) (fun c19_ => ?_)
      · replace h := h.1 c19_
        exact cb_X12_ofProcesses_82 X Y (lv_sub hl [] rfl) h
      · replace h := h.2 c19_
        refine lv_iload hx hb dX12_ofProcesses_74 (lv_at hl 4 rfl) ?_
        refine lv_ldcw (v := 100000) hx hb X.2.2.2.1 (X.2.2.2.2.1 _ co_X12_401) dX12_ofProcesses_76 ?_
        refine lv_icmp_le (tgt := 84) hx hb dX12_ofProcesses_79 (by decide) (fun c20_ => ?_) (fun c20_ => ?_)
        · replace h := h.1 c20_
          refine lv_aload_n hx hb dX12_ofProcesses_84 rfl (lv_at hl 0 rfl) ?_
          refine lv_iload_n hx hb dX12_ofProcesses_85 rfl (lv_at hl 3 rfl) ?_
          refine lv_aload_n hx hb dX12_ofProcesses_86 rfl (lv_at hl 0 rfl) ?_
          obtain ⟨k21_, h⟩ := h
          refine q_getI X Y kX12 63 rfl fl_X12_453 k21_ dX12_ofProcesses_87 ?_
          refine lv_iload hx hb dX12_ofProcesses_90 (lv_at hl 4 rfl) ?_
          refine lv_iadd hx hb dX12_ofProcesses_92 ?_
          refine q_callV X Y hl (cm_X12_waitsUntil h) mt_X12_waitsUntil mi_X12_waitsUntil ml_X12_603 (ci := 12) rfl k21_ (by decide) rfl rfl (by first | exact Nat.le_of_ble_eq_true rfl | simp [q_cat, q_catI, q_catJ, q_catR]) ⟨Nat.le_of_ble_eq_true rfl, Nat.le_of_ble_eq_true rfl⟩ ⟨Nat.le_of_ble_eq_true rfl, Nat.le_of_ble_eq_true rfl⟩ dX12_ofProcesses_93 (fun r22_ S23_ H locs hp Y => ?_)
          obtain ⟨x24_, rfl, h⟩ := hp
          refine W.eq (g2 := F0 m 96 ls [.int x24_]) rfl ?_
          exact q_iret X Y rfl (Nat.le_refl _) (Nat.le_refl _) h dX12_ofProcesses_96
        · replace h := h.2 c20_
          exact cb_X12_ofProcesses_82 X Y (lv_sub hl [] rfl) h
    | 3, _, c48_ =>
      refine ⟨96, 97, rfl, by decide, ?_⟩
      replace h := h.2.2.2.2.1 (q_eqI c48_ (by decide))
      refine lv_aload_n hx hb dX12_ofProcesses_97 rfl (lv_at hl 0 rfl) ?_
      refine lv_iload_n hx hb dX12_ofProcesses_98 rfl (lv_at hl 2 rfl) ?_
      refine lv_iload hx hb dX12_ofProcesses_99 (lv_at hl 4 rfl) ?_
      refine lv_aload_n hx hb dX12_ofProcesses_101 rfl (lv_at hl 0 rfl) ?_
      obtain ⟨k25_, h⟩ := h
      refine q_getI X Y kX12 63 rfl fl_X12_453 k25_ dX12_ofProcesses_102 ?_
      refine q_callV X Y hl (cm_X12_starts h) mt_X12_starts mi_X12_starts ml_X12_607 (ci := 12) rfl k25_ (by decide) rfl rfl (by first | exact Nat.le_of_ble_eq_true rfl | simp [q_cat, q_catI, q_catJ, q_catR]) ⟨Nat.le_of_ble_eq_true rfl, Nat.le_of_ble_eq_true rfl⟩ ⟨Nat.le_of_ble_eq_true rfl, Nat.le_of_ble_eq_true rfl⟩ dX12_ofProcesses_105 (fun r26_ S27_ H locs hp Y => ?_)
      obtain ⟨x28_, rfl, h⟩ := hp
      refine W.eq (g2 := F0 m 108 ls [.int x28_]) rfl ?_
      exact q_iret X Y rfl (Nat.le_refl _) (Nat.le_refl _) h dX12_ofProcesses_108
    | 4, _, c48_ =>
      refine ⟨108, 109, rfl, by decide, ?_⟩
      replace h := h.2.2.2.2.2.1 (q_eqI c48_ (by decide))
      refine lv_aload_n hx hb dX12_ofProcesses_109 rfl (lv_at hl 0 rfl) ?_
      refine lv_iload_n hx hb dX12_ofProcesses_110 rfl (lv_at hl 2 rfl) ?_
      refine lv_iload_n hx hb dX12_ofProcesses_111 rfl (lv_at hl 3 rfl) ?_
      refine lv_iload hx hb dX12_ofProcesses_112 (lv_at hl 4 rfl) ?_
      obtain ⟨k29_, h⟩ := h
      refine q_callV X Y hl (cm_X12_stops h) mt_X12_stops mi_X12_stops ml_X12_610 (ci := 12) rfl k29_ (by decide) rfl rfl (by first | exact Nat.le_of_ble_eq_true rfl | simp [q_cat, q_catI, q_catJ, q_catR]) ⟨Nat.le_of_ble_eq_true rfl, Nat.le_of_ble_eq_true rfl⟩ ⟨Nat.le_of_ble_eq_true rfl, Nat.le_of_ble_eq_true rfl⟩ dX12_ofProcesses_114 (fun r30_ S31_ H locs hp Y => ?_)
      obtain ⟨x32_, rfl, h⟩ := hp
      refine W.eq (g2 := F0 m 117 ls [.int x32_]) rfl ?_
      exact q_iret X Y rfl (Nat.le_refl _) (Nat.le_refl _) h dX12_ofProcesses_117
    | 5, _, c48_ =>
      refine ⟨117, 118, rfl, by decide, ?_⟩
      replace h := h.2.2.2.2.2.2.1 (q_eqI c48_ (by decide))
      refine lv_aload_n hx hb dX12_ofProcesses_118 rfl (lv_at hl 0 rfl) ?_
      refine lv_iload_n hx hb dX12_ofProcesses_119 rfl (lv_at hl 2 rfl) ?_
      refine lv_iload hx hb dX12_ofProcesses_120 (lv_at hl 4 rfl) ?_
      obtain ⟨k33_, h⟩ := h
      refine q_callV X Y hl (cm_X12_isProcess h) mt_X12_isProcess mi_X12_isProcess ml_X12_613 (ci := 12) rfl k33_ (by decide) rfl rfl (by first | exact Nat.le_of_ble_eq_true rfl | simp [q_cat, q_catI, q_catJ, q_catR]) ⟨Nat.le_of_ble_eq_true rfl, Nat.le_of_ble_eq_true rfl⟩ ⟨Nat.le_of_ble_eq_true rfl, Nat.le_of_ble_eq_true rfl⟩ dX12_ofProcesses_122 (fun r34_ S35_ H locs hp Y => ?_)
      obtain ⟨x36_, rfl, h⟩ := hp
      refine W.eq (g2 := F0 m 125 ls [.int x36_]) rfl ?_
      refine lv_if_eq (tgt := 140) hx hb dX12_ofProcesses_125 (by decide) (fun c37_ => ?_) (fun c37_ => ?_)
      · replace h := h.1 c37_
        exact cb_X12_ofProcesses_140 X Y (lv_sub hl [] rfl) h
      · replace h := h.2 c37_
        refine lv_iload hx hb dX12_ofProcesses_128 (lv_at hl 5 rfl) ?_
        refine lv_if_lt (tgt := 140) hx hb dX12_ofProcesses_130 (by decide) (fun c38_ => ?_) (fun c38_ => ?_)
        · replace h := h.1 c38_
          exact cb_X12_ofProcesses_140 X Y (lv_sub hl [] rfl) h
        · replace h := h.2 c38_
          refine lv_iload hx hb dX12_ofProcesses_133 (lv_at hl 5 rfl) ?_
          refine lv_bipush (v := 15) hx hb dX12_ofProcesses_135 (by decide) ?_
          refine lv_icmp_le (tgt := 142) hx hb dX12_ofProcesses_137 (by decide) (fun c39_ => ?_) (fun c39_ => ?_)
          · replace h := h.1 c39_
            refine lv_aload_n hx hb dX12_ofProcesses_142 rfl (lv_at hl 0 rfl) ?_
            obtain ⟨k40_, h⟩ := h
            refine q_getP X Y kX12 69 rfl fl_X12_155 k40_ rfl dX12_ofProcesses_143 ?_
            refine lv_bipush (v := 16) hx hb dX12_ofProcesses_146 (by decide) ?_
            refine lv_iload_n hx hb dX12_ofProcesses_148 rfl (lv_at hl 2 rfl) ?_
            refine lv_imul hx hb dX12_ofProcesses_149 ?_
            refine lv_iload hx hb dX12_ofProcesses_150 (lv_at hl 4 rfl) ?_
            refine lv_iadd hx hb dX12_ofProcesses_152 ?_
            refine lv_iload hx hb dX12_ofProcesses_153 (lv_at hl 5 rfl) ?_
            obtain ⟨a41_, e42_, h⟩ := h
            refine q_nn [.int x5, .int (((16 : Int32) * x2) + x4)] e42_ ?_
            obtain ⟨k43_, h⟩ := h
            obtain ⟨i44_, h⟩ := h
            refine q_ist X Y k43_ i44_ dX12_ofProcesses_155 (fun H locs Y => ?_)
            refine lv_iconst (v := 0) hx hb dX12_ofProcesses_156 (by decide) ?_
            exact q_iret X Y rfl (Nat.le_refl _) (Nat.le_refl _) h dX12_ofProcesses_157
          · replace h := h.2 c39_
            exact cb_X12_ofProcesses_140 X Y (lv_sub hl [] rfl) h
    | 6, _, c48_ =>
      refine ⟨157, 158, rfl, by decide, ?_⟩
      replace h := h.2.2.2.2.2.2.2 (q_eqI c48_ (by decide))
      refine lv_aload_n hx hb dX12_ofProcesses_158 rfl (lv_at hl 0 rfl) ?_
      refine lv_iload_n hx hb dX12_ofProcesses_159 rfl (lv_at hl 3 rfl) ?_
      refine lv_aload_n hx hb dX12_ofProcesses_160 rfl (lv_at hl 0 rfl) ?_
      obtain ⟨k45_, h⟩ := h
      refine q_getI X Y kX12 63 rfl fl_X12_453 k45_ dX12_ofProcesses_161 ?_
      refine q_callV X Y hl (cm_X12_answer h) mt_X12_answer mi_X12_answer ml_X12_506 (ci := 12) rfl k45_ (by decide) rfl rfl (by first | exact Nat.le_of_ble_eq_true rfl | simp [q_cat, q_catI, q_catJ, q_catR]) ⟨Nat.le_of_ble_eq_true rfl, Nat.le_of_ble_eq_true rfl⟩ ⟨Nat.le_of_ble_eq_true rfl, Nat.le_of_ble_eq_true rfl⟩ dX12_ofProcesses_164 (fun r46_ S47_ H locs hp Y => ?_)
      obtain ⟨rfl, h⟩ := hp
      refine W.eq (g2 := F0 m 167 ls []) rfl ?_
      refine lv_iconst (v := (-1)) hx hb dX12_ofProcesses_167 (by decide) ?_
      exact q_iret X Y rfl (Nat.le_refl _) (Nat.le_refl _) h dX12_ofProcesses_168
    | z_ + 7, hj_, _ => exact absurd hj_ (by simp)
-- X12_isThing
theorem dX12_isThing_0 : decode cX12_isThing 0 = .ok (.iload_n 3, 1) := by decide +kernel
theorem dX12_isThing_1 : decode cX12_isThing 1 = .ok (.ifCond .lt 22, 3) := by decide +kernel
theorem dX12_isThing_4 : decode cX12_isThing 4 = .ok (.iload_n 3, 1) := by decide +kernel
theorem dX12_isThing_5 : decode cX12_isThing 5 = .ok (.aload_n 0, 1) := by decide +kernel
theorem dX12_isThing_6 : decode cX12_isThing 6 = .ok (.getfield 60, 3) := by decide +kernel
theorem dX12_isThing_9 : decode cX12_isThing 9 = .ok (.bipush 6, 2) := by decide +kernel
theorem dX12_isThing_11 : decode cX12_isThing 11 = .ok (.iload_n 1, 1) := by decide +kernel
theorem dX12_isThing_12 : decode cX12_isThing 12 = .ok (.imul, 1) := by decide +kernel
theorem dX12_isThing_13 : decode cX12_isThing 13 = .ok (.iload_n 2, 1) := by decide +kernel
theorem dX12_isThing_14 : decode cX12_isThing 14 = .ok (.iadd, 1) := by decide +kernel
theorem dX12_isThing_15 : decode cX12_isThing 15 = .ok (.iaload, 1) := by decide +kernel
theorem dX12_isThing_16 : decode cX12_isThing 16 = .ok (.if_icmp .ge 7, 3) := by decide +kernel
theorem dX12_isThing_19 : decode cX12_isThing 19 = .ok (.iconst 1, 1) := by decide +kernel
theorem dX12_isThing_20 : decode cX12_isThing 20 = .ok (.goto 4, 3) := by decide +kernel
theorem dX12_isThing_23 : decode cX12_isThing 23 = .ok (.iconst 0, 1) := by decide +kernel
theorem dX12_isThing_24 : decode cX12_isThing 24 = .ok (.ireturn, 1) := by decide +kernel
def wb_X12_isThing_24  (S : q_S) (xs0 : Int32) (Q : Option Value → q_S → Prop) : Prop := (narrow .boolean (.int xs0) = .int xs0 ∧ Q (some (.int xs0)) S)
set_option maxHeartbeats 4000000 in
set_option maxRecDepth 100000 in
theorem cb_X12_isThing_24 {p : Program} {l : Launch} {e : Env} {s : State} {m : MethodId} {args : Array Value} {below : List Frame} {meth : Method} {c : Code} {D : va_G} {cy : Nat → ClassId} {lo : Nat}  {S : q_S} {xs0 : Int32} {Q : Option Value → q_S → Prop} {H : Heap} {locs : List Loc} {ls : Array Slot} (X : q_X p s m args meth c RX12 cX12_isThing 4 (some .boolean) D cy lo)  (Y : q_Y D cy lo s S H locs) (hl : lv_has ls 4 []) (h : wb_X12_isThing_24 S xs0 Q) : W p l e ({ frames := 0, cells := 0, slots := 0, locals := 0 } : Room) s m args below meth c H locs 0 0 (MQ below (q_Q D cy lo Q) args s 0 0 (fun q => lo ≤ q)) (F0 m 24 ls [.int xs0]) := by
  have hx := X.1
  have hb := X.2.1
  unfold wb_X12_isThing_24 at h
  exact q_iret X Y h.1 (Nat.le_refl _) (Nat.le_refl _) h.2 dX12_isThing_24
def wb_X12_isThing_23  (S : q_S) (Q : Option Value → q_S → Prop) : Prop := wb_X12_isThing_24 S (0 : Int32) Q
set_option maxHeartbeats 4000000 in
set_option maxRecDepth 100000 in
theorem cb_X12_isThing_23 {p : Program} {l : Launch} {e : Env} {s : State} {m : MethodId} {args : Array Value} {below : List Frame} {meth : Method} {c : Code} {D : va_G} {cy : Nat → ClassId} {lo : Nat}  {S : q_S} {Q : Option Value → q_S → Prop} {H : Heap} {locs : List Loc} {ls : Array Slot} (X : q_X p s m args meth c RX12 cX12_isThing 4 (some .boolean) D cy lo)  (Y : q_Y D cy lo s S H locs) (hl : lv_has ls 4 []) (h : wb_X12_isThing_23 S Q) : W p l e ({ frames := 0, cells := 0, slots := 0, locals := 0 } : Room) s m args below meth c H locs 0 0 (MQ below (q_Q D cy lo Q) args s 0 0 (fun q => lo ≤ q)) (F0 m 23 ls []) := by
  have hx := X.1
  have hb := X.2.1
  unfold wb_X12_isThing_23 at h
  refine lv_iconst (v := 0) hx hb dX12_isThing_23 (by decide) ?_
  exact cb_X12_isThing_24 X Y (lv_sub hl [] rfl) h
def wm_X12_isThing (S : q_S) (a0 : Nat) (x1 : Int32) (x2 : Int32) (x3 : Int32) (Q : Option Value → q_S → Prop) : Prop := ((x3 < 0 → (wb_X12_isThing_23 S Q)) ∧ (¬ x3 < 0 → (q_K S a0 = 13 ∧ (∃ a3_ : Nat, (q_P S 2435 a0) = some a3_ ∧ (q_K S a3_ = 21 ∧ (vp_in (((6 : Int32) * x1) + x2) (q_N S a3_) ∧ ((((q_A S a3_ (((6 : Int32) * x1) + x2).toNatClampNeg) ≤ x3 → (wb_X12_isThing_23 S Q)) ∧ (¬ (q_A S a3_ (((6 : Int32) * x1) + x2).toNatClampNeg) ≤ x3 → (wb_X12_isThing_24 S (1 : Int32) Q))))))))))
set_option maxHeartbeats 4000000 in
set_option maxRecDepth 100000 in
theorem cm_X12_isThing {l : Launch} {D : va_G} {cy : Nat → ClassId} {lo : Nat} {S : q_S} {a0 : Nat} {x1 : Int32} {x2 : Int32} {x3 : Int32} {Q : Option Value → q_S → Prop} (h : wm_X12_isThing S a0 x1 x2 x3 Q) : q_Met l D cy lo yX12_isThing cX12_isThing 4 (some .boolean) 0 0 0 0 [.ref a0, .int x1, .int x2, .int x3] S Q := by
  refine q_body (by decide) (by first | exact Nat.le_of_ble_eq_true rfl | simp [lg_sl, q_cat, q_catI, q_catJ, q_catR]) ?_
  intro p e s m below meth c ls X hnm Y hl
  have hx := X.1
  have hb := X.2.1
  have hl : lv_has ls 4 [(0, .ref a0), (1, .int x1), (2, .int x2), (3, .int x3)] := by first | exact hl | simpa [lv_args, q_cat, q_catI, q_catJ, q_catR] using hl
  generalize hargs : ([.ref a0, .int x1, .int x2, .int x3] : List Value).toArray = args at X ⊢
  unfold wm_X12_isThing at h
  refine lv_iload_n hx hb dX12_isThing_0 rfl (lv_at hl 3 rfl) ?_
  refine lv_if_lt (tgt := 23) hx hb dX12_isThing_1 (by decide) (fun c1_ => ?_) (fun c1_ => ?_)
  · replace h := h.1 c1_
    exact cb_X12_isThing_23 X Y (lv_sub hl [] rfl) h
  · replace h := h.2 c1_
    refine lv_iload_n hx hb dX12_isThing_4 rfl (lv_at hl 3 rfl) ?_
    refine lv_aload_n hx hb dX12_isThing_5 rfl (lv_at hl 0 rfl) ?_
    obtain ⟨k2_, h⟩ := h
    refine q_getP X Y kX12 35 rfl fl_X12_60 k2_ rfl dX12_isThing_6 ?_
    refine lv_bipush (v := 6) hx hb dX12_isThing_9 (by decide) ?_
    refine lv_iload_n hx hb dX12_isThing_11 rfl (lv_at hl 1 rfl) ?_
    refine lv_imul hx hb dX12_isThing_12 ?_
    refine lv_iload_n hx hb dX12_isThing_13 rfl (lv_at hl 2 rfl) ?_
    refine lv_iadd hx hb dX12_isThing_14 ?_
    obtain ⟨a3_, e4_, h⟩ := h
    refine q_nn [.int (((6 : Int32) * x1) + x2)] e4_ ?_
    obtain ⟨k5_, h⟩ := h
    obtain ⟨i6_, h⟩ := h
    refine q_ild X Y k5_ i6_ dX12_isThing_15 ?_
    refine lv_icmp_ge (tgt := 23) hx hb dX12_isThing_16 (by decide) (fun c7_ => ?_) (fun c7_ => ?_)
    · replace h := h.1 c7_
      exact cb_X12_isThing_23 X Y (lv_sub hl [] rfl) h
    · replace h := h.2 c7_
      refine lv_iconst (v := 1) hx hb dX12_isThing_19 (by decide) ?_
      refine lv_goto (tgt := 24) hx hb dX12_isThing_20 (by decide) ?_
      exact cb_X12_isThing_24 X Y (lv_sub hl [] rfl) h
-- X12_isTime
theorem dX12_isTime_0 : decode cX12_isTime 0 = .ok (.iload_n 1, 1) := by decide +kernel
theorem dX12_isTime_1 : decode cX12_isTime 1 = .ok (.iconst (-1), 1) := by decide +kernel
theorem dX12_isTime_2 : decode cX12_isTime 2 = .ok (.if_icmp .lt 14, 3) := by decide +kernel
theorem dX12_isTime_5 : decode cX12_isTime 5 = .ok (.iload_n 1, 1) := by decide +kernel
theorem dX12_isTime_6 : decode cX12_isTime 6 = .ok (.ldc_w 401, 3) := by decide +kernel
theorem dX12_isTime_9 : decode cX12_isTime 9 = .ok (.if_icmp .gt 7, 3) := by decide +kernel
theorem dX12_isTime_12 : decode cX12_isTime 12 = .ok (.iconst 1, 1) := by decide +kernel
theorem dX12_isTime_13 : decode cX12_isTime 13 = .ok (.goto 4, 3) := by decide +kernel
theorem dX12_isTime_16 : decode cX12_isTime 16 = .ok (.iconst 0, 1) := by decide +kernel
theorem dX12_isTime_17 : decode cX12_isTime 17 = .ok (.ireturn, 1) := by decide +kernel
def wb_X12_isTime_17  (S : q_S) (xs0 : Int32) (Q : Option Value → q_S → Prop) : Prop := (narrow .boolean (.int xs0) = .int xs0 ∧ Q (some (.int xs0)) S)
set_option maxHeartbeats 4000000 in
set_option maxRecDepth 100000 in
theorem cb_X12_isTime_17 {p : Program} {l : Launch} {e : Env} {s : State} {m : MethodId} {args : Array Value} {below : List Frame} {meth : Method} {c : Code} {D : va_G} {cy : Nat → ClassId} {lo : Nat}  {S : q_S} {xs0 : Int32} {Q : Option Value → q_S → Prop} {H : Heap} {locs : List Loc} {ls : Array Slot} (X : q_X p s m args meth c RX12 cX12_isTime 2 (some .boolean) D cy lo)  (Y : q_Y D cy lo s S H locs) (hl : lv_has ls 2 []) (h : wb_X12_isTime_17 S xs0 Q) : W p l e ({ frames := 0, cells := 0, slots := 0, locals := 0 } : Room) s m args below meth c H locs 0 0 (MQ below (q_Q D cy lo Q) args s 0 0 (fun q => lo ≤ q)) (F0 m 17 ls [.int xs0]) := by
  have hx := X.1
  have hb := X.2.1
  unfold wb_X12_isTime_17 at h
  exact q_iret X Y h.1 (Nat.le_refl _) (Nat.le_refl _) h.2 dX12_isTime_17
def wb_X12_isTime_16  (S : q_S) (Q : Option Value → q_S → Prop) : Prop := wb_X12_isTime_17 S (0 : Int32) Q
set_option maxHeartbeats 4000000 in
set_option maxRecDepth 100000 in
theorem cb_X12_isTime_16 {p : Program} {l : Launch} {e : Env} {s : State} {m : MethodId} {args : Array Value} {below : List Frame} {meth : Method} {c : Code} {D : va_G} {cy : Nat → ClassId} {lo : Nat}  {S : q_S} {Q : Option Value → q_S → Prop} {H : Heap} {locs : List Loc} {ls : Array Slot} (X : q_X p s m args meth c RX12 cX12_isTime 2 (some .boolean) D cy lo)  (Y : q_Y D cy lo s S H locs) (hl : lv_has ls 2 []) (h : wb_X12_isTime_16 S Q) : W p l e ({ frames := 0, cells := 0, slots := 0, locals := 0 } : Room) s m args below meth c H locs 0 0 (MQ below (q_Q D cy lo Q) args s 0 0 (fun q => lo ≤ q)) (F0 m 16 ls []) := by
  have hx := X.1
  have hb := X.2.1
  unfold wb_X12_isTime_16 at h
  refine lv_iconst (v := 0) hx hb dX12_isTime_16 (by decide) ?_
  exact cb_X12_isTime_17 X Y (lv_sub hl [] rfl) h
def wm_X12_isTime (S : q_S) (a0 : Nat) (x1 : Int32) (Q : Option Value → q_S → Prop) : Prop := ((x1 < (-1 : Int32) → (wb_X12_isTime_16 S Q)) ∧ (¬ x1 < (-1 : Int32) → ((((100000 : Int32) < x1 → (wb_X12_isTime_16 S Q)) ∧ (¬ (100000 : Int32) < x1 → (wb_X12_isTime_17 S (1 : Int32) Q))))))
set_option maxHeartbeats 4000000 in
set_option maxRecDepth 100000 in
theorem cm_X12_isTime {l : Launch} {D : va_G} {cy : Nat → ClassId} {lo : Nat} {S : q_S} {a0 : Nat} {x1 : Int32} {Q : Option Value → q_S → Prop} (h : wm_X12_isTime S a0 x1 Q) : q_Met l D cy lo yX12_isTime cX12_isTime 2 (some .boolean) 0 0 0 0 [.ref a0, .int x1] S Q := by
  refine q_body (by decide) (by first | exact Nat.le_of_ble_eq_true rfl | simp [lg_sl, q_cat, q_catI, q_catJ, q_catR]) ?_
  intro p e s m below meth c ls X hnm Y hl
  have hx := X.1
  have hb := X.2.1
  have hl : lv_has ls 2 [(0, .ref a0), (1, .int x1)] := by first | exact hl | simpa [lv_args, q_cat, q_catI, q_catJ, q_catR] using hl
  generalize hargs : ([.ref a0, .int x1] : List Value).toArray = args at X ⊢
  unfold wm_X12_isTime at h
  refine lv_iload_n hx hb dX12_isTime_0 rfl (lv_at hl 1 rfl) ?_
  refine lv_iconst (v := (-1)) hx hb dX12_isTime_1 (by decide) ?_
  refine lv_icmp_lt (tgt := 16) hx hb dX12_isTime_2 (by decide) (fun c1_ => ?_) (fun c1_ => ?_)
  · replace h := h.1 c1_
    exact cb_X12_isTime_16 X Y (lv_sub hl [] rfl) h
  · replace h := h.2 c1_
    refine lv_iload_n hx hb dX12_isTime_5 rfl (lv_at hl 1 rfl) ?_
    refine lv_ldcw (v := 100000) hx hb X.2.2.2.1 (X.2.2.2.2.1 _ co_X12_401) dX12_isTime_6 ?_
    refine lv_icmp_gt (tgt := 16) hx hb dX12_isTime_9 (by decide) (fun c2_ => ?_) (fun c2_ => ?_)
    · replace h := h.1 c2_
      exact cb_X12_isTime_16 X Y (lv_sub hl [] rfl) h
    · replace h := h.2 c2_
      refine lv_iconst (v := 1) hx hb dX12_isTime_12 (by decide) ?_
      refine lv_goto (tgt := 17) hx hb dX12_isTime_13 (by decide) ?_
      exact cb_X12_isTime_17 X Y (lv_sub hl [] rfl) h
-- X12_waits
theorem dX12_waits_0 : decode cX12_waits 0 = .ok (.iload 4, 2) := by decide +kernel
theorem dX12_waits_2 : decode cX12_waits 2 = .ok (.ifCond .ne 5, 3) := by decide +kernel
theorem dX12_waits_5 : decode cX12_waits 5 = .ok (.iconst 2, 1) := by decide +kernel
theorem dX12_waits_6 : decode cX12_waits 6 = .ok (.ireturn, 1) := by decide +kernel
theorem dX12_waits_7 : decode cX12_waits 7 = .ok (.aload_n 0, 1) := by decide +kernel
theorem dX12_waits_8 : decode cX12_waits 8 = .ok (.getfield 206, 3) := by decide +kernel
theorem dX12_waits_11 : decode cX12_waits 11 = .ok (.aload_n 0, 1) := by decide +kernel
theorem dX12_waits_12 : decode cX12_waits 12 = .ok (.iload_n 1, 1) := by decide +kernel
theorem dX12_waits_13 : decode cX12_waits 13 = .ok (.invokevirtual 481, 3) := by decide +kernel
theorem dX12_waits_16 : decode cX12_waits 16 = .ok (.iaload, 1) := by decide +kernel
theorem dX12_waits_17 : decode cX12_waits 17 = .ok (.ifCond .gt 11, 3) := by decide +kernel
theorem dX12_waits_20 : decode cX12_waits 20 = .ok (.aload_n 0, 1) := by decide +kernel
theorem dX12_waits_21 : decode cX12_waits 21 = .ok (.iload_n 1, 1) := by decide +kernel
theorem dX12_waits_22 : decode cX12_waits 22 = .ok (.invokevirtual 493, 3) := by decide +kernel
theorem dX12_waits_25 : decode cX12_waits 25 = .ok (.ifCond .eq 5, 3) := by decide +kernel
theorem dX12_waits_28 : decode cX12_waits 28 = .ok (.iconst 3, 1) := by decide +kernel
theorem dX12_waits_29 : decode cX12_waits 29 = .ok (.ireturn, 1) := by decide +kernel
theorem dX12_waits_30 : decode cX12_waits 30 = .ok (.aload_n 0, 1) := by decide +kernel
theorem dX12_waits_31 : decode cX12_waits 31 = .ok (.getfield 149, 3) := by decide +kernel
theorem dX12_waits_34 : decode cX12_waits 34 = .ok (.iload_n 1, 1) := by decide +kernel
theorem dX12_waits_35 : decode cX12_waits 35 = .ok (.iconst 2, 1) := by decide +kernel
theorem dX12_waits_36 : decode cX12_waits 36 = .ok (.iastore, 1) := by decide +kernel
theorem dX12_waits_37 : decode cX12_waits 37 = .ok (.aload_n 0, 1) := by decide +kernel
theorem dX12_waits_38 : decode cX12_waits 38 = .ok (.getfield 182, 3) := by decide +kernel
theorem dX12_waits_41 : decode cX12_waits 41 = .ok (.iload_n 1, 1) := by decide +kernel
theorem dX12_waits_42 : decode cX12_waits 42 = .ok (.iload_n 2, 1) := by decide +kernel
theorem dX12_waits_43 : decode cX12_waits 43 = .ok (.iastore, 1) := by decide +kernel
theorem dX12_waits_44 : decode cX12_waits 44 = .ok (.aload_n 0, 1) := by decide +kernel
theorem dX12_waits_45 : decode cX12_waits 45 = .ok (.getfield 185, 3) := by decide +kernel
theorem dX12_waits_48 : decode cX12_waits 48 = .ok (.iload_n 1, 1) := by decide +kernel
theorem dX12_waits_49 : decode cX12_waits 49 = .ok (.iload_n 3, 1) := by decide +kernel
theorem dX12_waits_50 : decode cX12_waits 50 = .ok (.iastore, 1) := by decide +kernel
theorem dX12_waits_51 : decode cX12_waits 51 = .ok (.aload_n 0, 1) := by decide +kernel
theorem dX12_waits_52 : decode cX12_waits 52 = .ok (.getfield 164, 3) := by decide +kernel
theorem dX12_waits_55 : decode cX12_waits 55 = .ok (.iload_n 1, 1) := by decide +kernel
theorem dX12_waits_56 : decode cX12_waits 56 = .ok (.iload 4, 2) := by decide +kernel
theorem dX12_waits_58 : decode cX12_waits 58 = .ok (.ifCond .ge 7, 3) := by decide +kernel
theorem dX12_waits_61 : decode cX12_waits 61 = .ok (.iconst (-1), 1) := by decide +kernel
theorem dX12_waits_62 : decode cX12_waits 62 = .ok (.goto 10, 3) := by decide +kernel
theorem dX12_waits_65 : decode cX12_waits 65 = .ok (.aload_n 0, 1) := by decide +kernel
theorem dX12_waits_66 : decode cX12_waits 66 = .ok (.getfield 453, 3) := by decide +kernel
theorem dX12_waits_69 : decode cX12_waits 69 = .ok (.iload 4, 2) := by decide +kernel
theorem dX12_waits_71 : decode cX12_waits 71 = .ok (.iadd, 1) := by decide +kernel
theorem dX12_waits_72 : decode cX12_waits 72 = .ok (.iastore, 1) := by decide +kernel
theorem dX12_waits_73 : decode cX12_waits 73 = .ok (.aload_n 0, 1) := by decide +kernel
theorem dX12_waits_74 : decode cX12_waits 74 = .ok (.dup, 1) := by decide +kernel
theorem dX12_waits_75 : decode cX12_waits 75 = .ok (.getfield 456, 3) := by decide +kernel
theorem dX12_waits_78 : decode cX12_waits 78 = .ok (.iconst 1, 1) := by decide +kernel
theorem dX12_waits_79 : decode cX12_waits 79 = .ok (.iadd, 1) := by decide +kernel
theorem dX12_waits_80 : decode cX12_waits 80 = .ok (.putfield 456, 3) := by decide +kernel
theorem dX12_waits_83 : decode cX12_waits 83 = .ok (.aload_n 0, 1) := by decide +kernel
theorem dX12_waits_84 : decode cX12_waits 84 = .ok (.getfield 191, 3) := by decide +kernel
theorem dX12_waits_87 : decode cX12_waits 87 = .ok (.iload_n 1, 1) := by decide +kernel
theorem dX12_waits_88 : decode cX12_waits 88 = .ok (.aload_n 0, 1) := by decide +kernel
theorem dX12_waits_89 : decode cX12_waits 89 = .ok (.getfield 456, 3) := by decide +kernel
theorem dX12_waits_92 : decode cX12_waits 92 = .ok (.iastore, 1) := by decide +kernel
theorem dX12_waits_93 : decode cX12_waits 93 = .ok (.iconst (-1), 1) := by decide +kernel
theorem dX12_waits_94 : decode cX12_waits 94 = .ok (.ireturn, 1) := by decide +kernel
def wb_X12_waits_28  (S : q_S) (Q : Option Value → q_S → Prop) : Prop := Q (some (.int (3 : Int32))) S
set_option maxHeartbeats 4000000 in
set_option maxRecDepth 100000 in
theorem cb_X12_waits_28 {p : Program} {l : Launch} {e : Env} {s : State} {m : MethodId} {args : Array Value} {below : List Frame} {meth : Method} {c : Code} {D : va_G} {cy : Nat → ClassId} {lo : Nat}  {S : q_S} {Q : Option Value → q_S → Prop} {H : Heap} {locs : List Loc} {ls : Array Slot} (X : q_X p s m args meth c RX12 cX12_waits 5 (some .int) D cy lo)  (Y : q_Y D cy lo s S H locs) (hl : lv_has ls 5 []) (h : wb_X12_waits_28 S Q) : W p l e ({ frames := 2, cells := 0, slots := 0, locals := 42 } : Room) s m args below meth c H locs 0 0 (MQ below (q_Q D cy lo Q) args s 0 0 (fun q => lo ≤ q)) (F0 m 28 ls []) := by
  have hx := X.1
  have hb := X.2.1
  unfold wb_X12_waits_28 at h
  refine lv_iconst (v := 3) hx hb dX12_waits_28 (by decide) ?_
  exact q_iret X Y rfl (Nat.le_refl _) (Nat.le_refl _) h dX12_waits_29
def wb_X12_waits_72  (S : q_S) (a0 : Nat) (x1 : Int32) (rs0 : Option Nat) (xs1 : Int32) (xs2 : Int32) (Q : Option Value → q_S → Prop) : Prop := ∃ a1_ : Nat, rs0 = some a1_ ∧ (q_K S a1_ = 21 ∧ (vp_in xs1 (q_N S a1_) ∧ (q_K (qs_A S a1_ xs1.toNatClampNeg xs2) a0 = 13 ∧ (∀ S6_ : q_S, S6_ = (qs_I (qs_A S a1_ xs1.toNatClampNeg xs2) 2464 a0 ((q_I (qs_A S a1_ xs1.toNatClampNeg xs2) 2464 a0) + (1 : Int32))) → (∃ a7_ : Nat, (q_P S6_ 2481 a0) = some a7_ ∧ (q_K S6_ a7_ = 21 ∧ (vp_in x1 (q_N S6_ a7_) ∧ (Q (some (.int (-1 : Int32))) (qs_A S6_ a7_ x1.toNatClampNeg (q_I S6_ 2464 a0))))))))))
set_option maxHeartbeats 4000000 in
set_option maxRecDepth 100000 in
theorem cb_X12_waits_72 {p : Program} {l : Launch} {e : Env} {s : State} {m : MethodId} {args : Array Value} {below : List Frame} {meth : Method} {c : Code} {D : va_G} {cy : Nat → ClassId} {lo : Nat}  {S : q_S} {a0 : Nat} {x1 : Int32} {rs0 : Option Nat} {xs1 : Int32} {xs2 : Int32} {Q : Option Value → q_S → Prop} {H : Heap} {locs : List Loc} {ls : Array Slot} (X : q_X p s m args meth c RX12 cX12_waits 5 (some .int) D cy lo)  (Y : q_Y D cy lo s S H locs) (hl : lv_has ls 5 [(0, .ref a0), (1, .int x1)]) (h : wb_X12_waits_72 S a0 x1 rs0 xs1 xs2 Q) : W p l e ({ frames := 2, cells := 0, slots := 0, locals := 42 } : Room) s m args below meth c H locs 0 0 (MQ below (q_Q D cy lo Q) args s 0 0 (fun q => lo ≤ q)) (F0 m 72 ls [.int xs2, .int xs1, va_rf rs0]) := by
  have hx := X.1
  have hb := X.2.1
  unfold wb_X12_waits_72 at h
  obtain ⟨a1_, e2_, h⟩ := h
  refine q_nn [.int xs2, .int xs1] e2_ ?_
  obtain ⟨k3_, h⟩ := h
  obtain ⟨i4_, h⟩ := h
  refine q_ist X Y k3_ i4_ dX12_waits_72 (fun H locs Y => ?_)
  refine lv_aload_n hx hb dX12_waits_73 rfl (lv_at hl 0 rfl) ?_
  refine lv_dup hx hb dX12_waits_74 rfl ?_
  obtain ⟨k5_, h⟩ := h
  refine q_getI X Y kX12 64 rfl fl_X12_456 k5_ dX12_waits_75 ?_
  refine lv_iconst (v := 1) hx hb dX12_waits_78 (by decide) ?_
  refine lv_iadd hx hb dX12_waits_79 ?_
  refine q_putI X Y kX12 64 rfl fl_X12_456 k5_ .int rfl ⟨rfl, rfl⟩ rfl dX12_waits_80 (fun H locs Y => ?_)
  obtain ⟨S6_, gS6_⟩ : ∃ z : q_S, z = (qs_I (qs_A S a1_ xs1.toNatClampNeg xs2) 2464 a0 ((q_I (qs_A S a1_ xs1.toNatClampNeg xs2) 2464 a0) + (1 : Int32))) := ⟨_, rfl⟩
  replace Y : q_Y D cy lo s S6_ H locs := by rw [gS6_]; exact Y
  replace h := h S6_ gS6_
  replace k3_ : q_K S6_ a1_ = 21 := by rw [gS6_]; exact k3_
  replace k5_ : q_K S6_ a0 = 13 := by rw [gS6_]; exact k5_
  refine lv_aload_n hx hb dX12_waits_83 rfl (lv_at hl 0 rfl) ?_
  refine q_getP X Y kX12 81 rfl fl_X12_191 k5_ rfl dX12_waits_84 ?_
  refine lv_iload_n hx hb dX12_waits_87 rfl (lv_at hl 1 rfl) ?_
  refine lv_aload_n hx hb dX12_waits_88 rfl (lv_at hl 0 rfl) ?_
  refine q_getI X Y kX12 64 rfl fl_X12_456 k5_ dX12_waits_89 ?_
  obtain ⟨a7_, e8_, h⟩ := h
  refine q_nn [.int (q_I S6_ 2464 a0), .int x1] e8_ ?_
  obtain ⟨k9_, h⟩ := h
  obtain ⟨i10_, h⟩ := h
  refine q_ist X Y k9_ i10_ dX12_waits_92 (fun H locs Y => ?_)
  refine lv_iconst (v := (-1)) hx hb dX12_waits_93 (by decide) ?_
  exact q_iret X Y rfl (Nat.le_refl _) (Nat.le_refl _) h dX12_waits_94
def wm_X12_waits (S : q_S) (a0 : Nat) (x1 : Int32) (x2 : Int32) (x3 : Int32) (x4 : Int32) (Q : Option Value → q_S → Prop) : Prop := ((¬ x4 = 0 → (q_K S a0 = 13 ∧ (wm_X12_partitionOf S a0 x1 (fun r13_ S14_ => ∃ x15_ : Int32, r13_ = some (.int x15_) ∧ (∃ a16_ : Nat, (q_P S 2486 a0) = some a16_ ∧ (q_K S14_ a16_ = 21 ∧ (vp_in x15_ (q_N S14_ a16_) ∧ (((0 < (q_A S14_ a16_ x15_.toNatClampNeg) → (wb_X12_waits_28 S14_ Q)) ∧ (¬ 0 < (q_A S14_ a16_ x15_.toNatClampNeg) → (q_K S14_ a0 = 13 ∧ (wm_X12_isHandler S14_ a0 x1 (fun r22_ S23_ => ∃ x24_ : Int32, r22_ = some (.int x24_) ∧ (((x24_ = 0 → (q_K S23_ a0 = 13 ∧ (∃ a27_ : Nat, (q_P S23_ 2467 a0) = some a27_ ∧ (q_K S23_ a27_ = 21 ∧ (vp_in x1 (q_N S23_ a27_) ∧ (∃ a31_ : Nat, (q_P (qs_A S23_ a27_ x1.toNatClampNeg (2 : Int32)) 2478 a0) = some a31_ ∧ (q_K (qs_A S23_ a27_ x1.toNatClampNeg (2 : Int32)) a31_ = 21 ∧ (vp_in x1 (q_N (qs_A S23_ a27_ x1.toNatClampNeg (2 : Int32)) a31_) ∧ (∃ a35_ : Nat, (q_P (qs_A (qs_A S23_ a27_ x1.toNatClampNeg (2 : Int32)) a31_ x1.toNatClampNeg x2) 2479 a0) = some a35_ ∧ (q_K (qs_A (qs_A S23_ a27_ x1.toNatClampNeg (2 : Int32)) a31_ x1.toNatClampNeg x2) a35_ = 21 ∧ (vp_in x1 (q_N (qs_A (qs_A S23_ a27_ x1.toNatClampNeg (2 : Int32)) a31_ x1.toNatClampNeg x2) a35_) ∧ (∀ S39_ : q_S, S39_ = (qs_A (qs_A (qs_A S23_ a27_ x1.toNatClampNeg (2 : Int32)) a31_ x1.toNatClampNeg x2) a35_ x1.toNatClampNeg x3) → (((0 ≤ x4 → (wb_X12_waits_72 S39_ a0 x1 (q_P S39_ 2472 a0) x1 ((q_I S39_ 2463 a0) + x4) Q)) ∧ (¬ 0 ≤ x4 → (wb_X12_waits_72 S39_ a0 x1 (q_P S39_ 2472 a0) x1 (-1 : Int32) Q)))))))))))))))) ∧ (¬ x24_ = 0 → (wb_X12_waits_28 S23_ Q))))))))))))))))) ∧ (x4 = 0 → (Q (some (.int (2 : Int32))) S)))
set_option maxHeartbeats 4000000 in
set_option maxRecDepth 100000 in
theorem cm_X12_waits {l : Launch} {D : va_G} {cy : Nat → ClassId} {lo : Nat} {S : q_S} {a0 : Nat} {x1 : Int32} {x2 : Int32} {x3 : Int32} {x4 : Int32} {Q : Option Value → q_S → Prop} (h : wm_X12_waits S a0 x1 x2 x3 x4 Q) : q_Met l D cy lo yX12_waits cX12_waits 5 (some .int) 2 42 0 0 [.ref a0, .int x1, .int x2, .int x3, .int x4] S Q := by
  refine q_body (by decide) (by first | exact Nat.le_of_ble_eq_true rfl | simp [lg_sl, q_cat, q_catI, q_catJ, q_catR]) ?_
  intro p e s m below meth c ls X hnm Y hl
  have hx := X.1
  have hb := X.2.1
  have hl : lv_has ls 5 [(0, .ref a0), (1, .int x1), (2, .int x2), (3, .int x3), (4, .int x4)] := by first | exact hl | simpa [lv_args, q_cat, q_catI, q_catJ, q_catR] using hl
  generalize hargs : ([.ref a0, .int x1, .int x2, .int x3, .int x4] : List Value).toArray = args at X ⊢
  unfold wm_X12_waits at h
  refine lv_iload hx hb dX12_waits_0 (lv_at hl 4 rfl) ?_
  refine lv_if_ne (tgt := 7) hx hb dX12_waits_2 (by decide) (fun c11_ => ?_) (fun c11_ => ?_)
  · replace h := h.1 c11_
    refine lv_aload_n hx hb dX12_waits_7 rfl (lv_at hl 0 rfl) ?_
    obtain ⟨k12_, h⟩ := h
    refine q_getP X Y kX12 86 rfl fl_X12_206 k12_ rfl dX12_waits_8 ?_
    refine lv_aload_n hx hb dX12_waits_11 rfl (lv_at hl 0 rfl) ?_
    refine lv_iload_n hx hb dX12_waits_12 rfl (lv_at hl 1 rfl) ?_
    refine q_callV X Y hl (cm_X12_partitionOf h) mt_X12_partitionOf mi_X12_partitionOf ml_X12_481 (ci := 12) rfl k12_ (by decide) rfl rfl (by first | exact Nat.le_of_ble_eq_true rfl | simp [q_cat, q_catI, q_catJ, q_catR]) ⟨Nat.le_of_ble_eq_true rfl, Nat.le_of_ble_eq_true rfl⟩ ⟨Nat.le_of_ble_eq_true rfl, Nat.le_of_ble_eq_true rfl⟩ dX12_waits_13 (fun r13_ S14_ H locs hp Y => ?_)
    obtain ⟨x15_, rfl, h⟩ := hp
    refine W.eq (g2 := F0 m 16 ls [.int x15_, va_rf (q_P S 2486 a0)]) rfl ?_
    obtain ⟨a16_, e17_, h⟩ := h
    refine q_nn [.int x15_] e17_ ?_
    obtain ⟨k18_, h⟩ := h
    obtain ⟨i19_, h⟩ := h
    refine q_ild X Y k18_ i19_ dX12_waits_16 ?_
    refine lv_if_gt (tgt := 28) hx hb dX12_waits_17 (by decide) (fun c20_ => ?_) (fun c20_ => ?_)
    · replace h := h.1 c20_
      exact cb_X12_waits_28 X Y (lv_sub hl [] rfl) h
    · replace h := h.2 c20_
      refine lv_aload_n hx hb dX12_waits_20 rfl (lv_at hl 0 rfl) ?_
      refine lv_iload_n hx hb dX12_waits_21 rfl (lv_at hl 1 rfl) ?_
      obtain ⟨k21_, h⟩ := h
      refine q_callV X Y hl (cm_X12_isHandler h) mt_X12_isHandler mi_X12_isHandler ml_X12_493 (ci := 12) rfl k21_ (by decide) rfl rfl (by first | exact Nat.le_of_ble_eq_true rfl | simp [q_cat, q_catI, q_catJ, q_catR]) ⟨Nat.le_of_ble_eq_true rfl, Nat.le_of_ble_eq_true rfl⟩ ⟨Nat.le_of_ble_eq_true rfl, Nat.le_of_ble_eq_true rfl⟩ dX12_waits_22 (fun r22_ S23_ H locs hp Y => ?_)
      obtain ⟨x24_, rfl, h⟩ := hp
      refine W.eq (g2 := F0 m 25 ls [.int x24_]) rfl ?_
      refine lv_if_eq (tgt := 30) hx hb dX12_waits_25 (by decide) (fun c25_ => ?_) (fun c25_ => ?_)
      · replace h := h.1 c25_
        refine lv_aload_n hx hb dX12_waits_30 rfl (lv_at hl 0 rfl) ?_
        obtain ⟨k26_, h⟩ := h
        refine q_getP X Y kX12 67 rfl fl_X12_149 k26_ rfl dX12_waits_31 ?_
        refine lv_iload_n hx hb dX12_waits_34 rfl (lv_at hl 1 rfl) ?_
        refine lv_iconst (v := 2) hx hb dX12_waits_35 (by decide) ?_
        obtain ⟨a27_, e28_, h⟩ := h
        refine q_nn [.int (2 : Int32), .int x1] e28_ ?_
        obtain ⟨k29_, h⟩ := h
        obtain ⟨i30_, h⟩ := h
        refine q_ist X Y k29_ i30_ dX12_waits_36 (fun H locs Y => ?_)
        refine lv_aload_n hx hb dX12_waits_37 rfl (lv_at hl 0 rfl) ?_
        refine q_getP X Y kX12 78 rfl fl_X12_182 k26_ rfl dX12_waits_38 ?_
        refine lv_iload_n hx hb dX12_waits_41 rfl (lv_at hl 1 rfl) ?_
        refine lv_iload_n hx hb dX12_waits_42 rfl (lv_at hl 2 rfl) ?_
        obtain ⟨a31_, e32_, h⟩ := h
        refine q_nn [.int x2, .int x1] e32_ ?_
        obtain ⟨k33_, h⟩ := h
        obtain ⟨i34_, h⟩ := h
        refine q_ist X Y k33_ i34_ dX12_waits_43 (fun H locs Y => ?_)
        refine lv_aload_n hx hb dX12_waits_44 rfl (lv_at hl 0 rfl) ?_
        refine q_getP X Y kX12 79 rfl fl_X12_185 k26_ rfl dX12_waits_45 ?_
        refine lv_iload_n hx hb dX12_waits_48 rfl (lv_at hl 1 rfl) ?_
        refine lv_iload_n hx hb dX12_waits_49 rfl (lv_at hl 3 rfl) ?_
        obtain ⟨a35_, e36_, h⟩ := h
        refine q_nn [.int x3, .int x1] e36_ ?_
        obtain ⟨k37_, h⟩ := h
        obtain ⟨i38_, h⟩ := h
        refine q_ist X Y k37_ i38_ dX12_waits_50 (fun H locs Y => ?_)
        obtain ⟨S39_, gS39_⟩ : ∃ z : q_S, z = (qs_A (qs_A (qs_A S23_ a27_ x1.toNatClampNeg (2 : Int32)) a31_ x1.toNatClampNeg x2) a35_ x1.toNatClampNeg x3) := ⟨_, rfl⟩
        replace Y : q_Y D cy lo s S39_ H locs := by rw [gS39_]; exact Y
        replace h := h S39_ gS39_
        replace k26_ : q_K S39_ a0 = 13 := by rw [gS39_]; exact k26_
        replace k29_ : q_K S39_ a27_ = 21 := by rw [gS39_]; exact k29_
        replace k33_ : q_K S39_ a31_ = 21 := by rw [gS39_]; exact k33_
        replace k37_ : q_K S39_ a35_ = 21 := by rw [gS39_]; exact k37_
        refine lv_aload_n hx hb dX12_waits_51 rfl (lv_at hl 0 rfl) ?_
        refine q_getP X Y kX12 72 rfl fl_X12_164 k26_ rfl dX12_waits_52 ?_
        refine lv_iload_n hx hb dX12_waits_55 rfl (lv_at hl 1 rfl) ?_
        refine lv_iload hx hb dX12_waits_56 (lv_at hl 4 rfl) ?_
        refine lv_if_ge (tgt := 65) hx hb dX12_waits_58 (by decide) (fun c40_ => ?_) (fun c40_ => ?_)
        · replace h := h.1 c40_
          refine lv_aload_n hx hb dX12_waits_65 rfl (lv_at hl 0 rfl) ?_
          refine q_getI X Y kX12 63 rfl fl_X12_453 k26_ dX12_waits_66 ?_
          refine lv_iload hx hb dX12_waits_69 (lv_at hl 4 rfl) ?_
          refine lv_iadd hx hb dX12_waits_71 ?_
          exact cb_X12_waits_72 X Y (lv_sub hl [0, 1] rfl) h
        · replace h := h.2 c40_
          refine lv_iconst (v := (-1)) hx hb dX12_waits_61 (by decide) ?_
          refine lv_goto (tgt := 72) hx hb dX12_waits_62 (by decide) ?_
          exact cb_X12_waits_72 X Y (lv_sub hl [0, 1] rfl) h
      · replace h := h.2 c25_
        exact cb_X12_waits_28 X Y (lv_sub hl [] rfl) h
  · replace h := h.2 c11_
    refine lv_iconst (v := 2) hx hb dX12_waits_5 (by decide) ?_
    exact q_iret X Y rfl (Nat.le_refl _) (Nat.le_refl _) h dX12_waits_6
-- X12_allGet
theorem dX12_allGet_0 : decode cX12_allGet 0 = .ok (.bipush 16, 2) := by decide +kernel
theorem dX12_allGet_2 : decode cX12_allGet 2 = .ok (.iload_n 1, 1) := by decide +kernel
theorem dX12_allGet_3 : decode cX12_allGet 3 = .ok (.imul, 1) := by decide +kernel
theorem dX12_allGet_4 : decode cX12_allGet 4 = .ok (.istore 6, 2) := by decide +kernel
theorem dX12_allGet_6 : decode cX12_allGet 6 = .ok (.iload 6, 2) := by decide +kernel
theorem dX12_allGet_8 : decode cX12_allGet 8 = .ok (.aload_n 0, 1) := by decide +kernel
theorem dX12_allGet_9 : decode cX12_allGet 9 = .ok (.iload_n 1, 1) := by decide +kernel
theorem dX12_allGet_10 : decode cX12_allGet 10 = .ok (.invokevirtual 499, 3) := by decide +kernel
theorem dX12_allGet_13 : decode cX12_allGet 13 = .ok (.if_icmp .ge 71, 3) := by decide +kernel
theorem dX12_allGet_16 : decode cX12_allGet 16 = .ok (.aload_n 0, 1) := by decide +kernel
theorem dX12_allGet_17 : decode cX12_allGet 17 = .ok (.getfield 149, 3) := by decide +kernel
theorem dX12_allGet_20 : decode cX12_allGet 20 = .ok (.iload 6, 2) := by decide +kernel
theorem dX12_allGet_22 : decode cX12_allGet 22 = .ok (.iaload, 1) := by decide +kernel
theorem dX12_allGet_23 : decode cX12_allGet 23 = .ok (.iconst 2, 1) := by decide +kernel
theorem dX12_allGet_24 : decode cX12_allGet 24 = .ok (.if_icmp .ne 54, 3) := by decide +kernel
theorem dX12_allGet_27 : decode cX12_allGet 27 = .ok (.aload_n 0, 1) := by decide +kernel
theorem dX12_allGet_28 : decode cX12_allGet 28 = .ok (.getfield 182, 3) := by decide +kernel
theorem dX12_allGet_31 : decode cX12_allGet 31 = .ok (.iload 6, 2) := by decide +kernel
theorem dX12_allGet_33 : decode cX12_allGet 33 = .ok (.iaload, 1) := by decide +kernel
theorem dX12_allGet_34 : decode cX12_allGet 34 = .ok (.iload_n 2, 1) := by decide +kernel
theorem dX12_allGet_35 : decode cX12_allGet 35 = .ok (.if_icmp .ne 43, 3) := by decide +kernel
theorem dX12_allGet_38 : decode cX12_allGet 38 = .ok (.aload_n 0, 1) := by decide +kernel
theorem dX12_allGet_39 : decode cX12_allGet 39 = .ok (.getfield 185, 3) := by decide +kernel
theorem dX12_allGet_42 : decode cX12_allGet 42 = .ok (.iload 6, 2) := by decide +kernel
theorem dX12_allGet_44 : decode cX12_allGet 44 = .ok (.iaload, 1) := by decide +kernel
theorem dX12_allGet_45 : decode cX12_allGet 45 = .ok (.iload_n 3, 1) := by decide +kernel
theorem dX12_allGet_46 : decode cX12_allGet 46 = .ok (.if_icmp .eq 6, 3) := by decide +kernel
theorem dX12_allGet_49 : decode cX12_allGet 49 = .ok (.goto 29, 3) := by decide +kernel
theorem dX12_allGet_52 : decode cX12_allGet 52 = .ok (.iload 4, 2) := by decide +kernel
theorem dX12_allGet_54 : decode cX12_allGet 54 = .ok (.ifCond .eq 18, 3) := by decide +kernel
theorem dX12_allGet_57 : decode cX12_allGet 57 = .ok (.aload_n 0, 1) := by decide +kernel
theorem dX12_allGet_58 : decode cX12_allGet 58 = .ok (.getfield 179, 3) := by decide +kernel
theorem dX12_allGet_61 : decode cX12_allGet 61 = .ok (.bipush 32, 2) := by decide +kernel
theorem dX12_allGet_63 : decode cX12_allGet 63 = .ok (.iload 6, 2) := by decide +kernel
theorem dX12_allGet_65 : decode cX12_allGet 65 = .ok (.imul, 1) := by decide +kernel
theorem dX12_allGet_66 : decode cX12_allGet 66 = .ok (.bipush 11, 2) := by decide +kernel
theorem dX12_allGet_68 : decode cX12_allGet 68 = .ok (.iadd, 1) := by decide +kernel
theorem dX12_allGet_69 : decode cX12_allGet 69 = .ok (.iload 5, 2) := by decide +kernel
theorem dX12_allGet_71 : decode cX12_allGet 71 = .ok (.iastore, 1) := by decide +kernel
theorem dX12_allGet_72 : decode cX12_allGet 72 = .ok (.aload_n 0, 1) := by decide +kernel
theorem dX12_allGet_73 : decode cX12_allGet 73 = .ok (.iload 6, 2) := by decide +kernel
theorem dX12_allGet_75 : decode cX12_allGet 75 = .ok (.invokevirtual 543, 3) := by decide +kernel
theorem dX12_allGet_78 : decode cX12_allGet 78 = .ok (.iinc 6 1, 3) := by decide +kernel
theorem dX12_allGet_81 : decode cX12_allGet 81 = .ok (.goto (-75), 3) := by decide +kernel
theorem dX12_allGet_84 : decode cX12_allGet 84 = .ok (.return_, 1) := by decide +kernel
def wb_X12_allGet_78 (B6 : q_S → Nat → Int32 → Int32 → Int32 → Int32 → Int32 → Int32 → Prop) (S : q_S) (a0 : Nat) (x1 : Int32) (x2 : Int32) (x3 : Int32) (x4 : Int32) (x5 : Int32) (x6 : Int32) (Q : Option Value → q_S → Prop) : Prop := B6 S a0 x1 x2 x3 x4 x5 (x6 + 1)
set_option maxHeartbeats 4000000 in
set_option maxRecDepth 100000 in
theorem cb_X12_allGet_78 {p : Program} {l : Launch} {e : Env} {s : State} {m : MethodId} {args : Array Value} {below : List Frame} {meth : Method} {c : Code} {D : va_G} {cy : Nat → ClassId} {lo : Nat} {B6 : q_S → Nat → Int32 → Int32 → Int32 → Int32 → Int32 → Int32 → Prop} {S : q_S} {a0 : Nat} {x1 : Int32} {x2 : Int32} {x3 : Int32} {x4 : Int32} {x5 : Int32} {x6 : Int32} {Q : Option Value → q_S → Prop} {H : Heap} {locs : List Loc} {ls : Array Slot} (X : q_X p s m args meth c RX12 cX12_allGet 7 none D cy lo) (hB6 : ∀ (S : q_S) (a0 : Nat) (x1 : Int32) (x2 : Int32) (x3 : Int32) (x4 : Int32) (x5 : Int32) (x6 : Int32) (H : Heap) (locs : List Loc) (ls : Array Slot), B6 S a0 x1 x2 x3 x4 x5 x6 → q_Y D cy lo s S H locs → lv_has ls 7 [(0, .ref a0), (1, .int x1), (2, .int x2), (3, .int x3), (4, .int x4), (5, .int x5), (6, .int x6)] → W p l e ({ frames := 2, cells := 0, slots := 0, locals := 43 } : Room) s m args below meth c H locs 0 0 (MQ below (q_Q D cy lo Q) args s 0 0 (fun q => lo ≤ q)) (F0 m 6 ls [])) (Y : q_Y D cy lo s S H locs) (hl : lv_has ls 7 [(0, .ref a0), (1, .int x1), (2, .int x2), (3, .int x3), (4, .int x4), (5, .int x5), (6, .int x6)]) (h : wb_X12_allGet_78 B6 S a0 x1 x2 x3 x4 x5 x6 Q) : W p l e ({ frames := 2, cells := 0, slots := 0, locals := 43 } : Room) s m args below meth c H locs 0 0 (MQ below (q_Q D cy lo Q) args s 0 0 (fun q => lo ≤ q)) (F0 m 78 ls []) := by
  have hx := X.1
  have hb := X.2.1
  unfold wb_X12_allGet_78 at h
  refine lv_iinc (v := (x6 + 1)) (lv' := [(6, .int (x6 + 1)), (0, .ref a0), (1, .int x1), (2, .int x2), (3, .int x3), (4, .int x4), (5, .int x5)]) hx hb dX12_allGet_78 hl (k := 6) rfl (by first | rfl | decide) (by decide) (by first | rfl | simp [q_cat, q_catI, q_catJ, q_catR]) (fun ls hl => ?_)
  refine lv_goto (tgt := 6) hx hb dX12_allGet_81 (by decide) ?_
  exact hB6 _ _ _ _ _ _ _ _ _ _ _ h Y (lv_sub hl [1, 2, 3, 4, 5, 6, 0] rfl)
def wb_X12_allGet_72 (B6 : q_S → Nat → Int32 → Int32 → Int32 → Int32 → Int32 → Int32 → Prop) (S : q_S) (a0 : Nat) (x1 : Int32) (x2 : Int32) (x3 : Int32) (x4 : Int32) (x5 : Int32) (x6 : Int32) (Q : Option Value → q_S → Prop) : Prop := q_K S a0 = 13 ∧ (wm_X12_gets S a0 x6 (fun r2_ S3_ => r2_ = none ∧ (wb_X12_allGet_78 B6 S3_ a0 x1 x2 x3 x4 x5 x6 Q)))
set_option maxHeartbeats 4000000 in
set_option maxRecDepth 100000 in
theorem cb_X12_allGet_72 {p : Program} {l : Launch} {e : Env} {s : State} {m : MethodId} {args : Array Value} {below : List Frame} {meth : Method} {c : Code} {D : va_G} {cy : Nat → ClassId} {lo : Nat} {B6 : q_S → Nat → Int32 → Int32 → Int32 → Int32 → Int32 → Int32 → Prop} {S : q_S} {a0 : Nat} {x1 : Int32} {x2 : Int32} {x3 : Int32} {x4 : Int32} {x5 : Int32} {x6 : Int32} {Q : Option Value → q_S → Prop} {H : Heap} {locs : List Loc} {ls : Array Slot} (X : q_X p s m args meth c RX12 cX12_allGet 7 none D cy lo) (hB6 : ∀ (S : q_S) (a0 : Nat) (x1 : Int32) (x2 : Int32) (x3 : Int32) (x4 : Int32) (x5 : Int32) (x6 : Int32) (H : Heap) (locs : List Loc) (ls : Array Slot), B6 S a0 x1 x2 x3 x4 x5 x6 → q_Y D cy lo s S H locs → lv_has ls 7 [(0, .ref a0), (1, .int x1), (2, .int x2), (3, .int x3), (4, .int x4), (5, .int x5), (6, .int x6)] → W p l e ({ frames := 2, cells := 0, slots := 0, locals := 43 } : Room) s m args below meth c H locs 0 0 (MQ below (q_Q D cy lo Q) args s 0 0 (fun q => lo ≤ q)) (F0 m 6 ls [])) (Y : q_Y D cy lo s S H locs) (hl : lv_has ls 7 [(0, .ref a0), (1, .int x1), (2, .int x2), (3, .int x3), (4, .int x4), (5, .int x5), (6, .int x6)]) (h : wb_X12_allGet_72 B6 S a0 x1 x2 x3 x4 x5 x6 Q) : W p l e ({ frames := 2, cells := 0, slots := 0, locals := 43 } : Room) s m args below meth c H locs 0 0 (MQ below (q_Q D cy lo Q) args s 0 0 (fun q => lo ≤ q)) (F0 m 72 ls []) := by
  have hx := X.1
  have hb := X.2.1
  unfold wb_X12_allGet_72 at h
  refine lv_aload_n hx hb dX12_allGet_72 rfl (lv_at hl 0 rfl) ?_
  refine lv_iload hx hb dX12_allGet_73 (lv_at hl 6 rfl) ?_
  obtain ⟨k1_, h⟩ := h
  refine q_callV X Y hl (cm_X12_gets h) mt_X12_gets mi_X12_gets ml_X12_543 (ci := 12) rfl k1_ (by decide) rfl rfl (by first | exact Nat.le_of_ble_eq_true rfl | simp [q_cat, q_catI, q_catJ, q_catR]) ⟨Nat.le_of_ble_eq_true rfl, Nat.le_of_ble_eq_true rfl⟩ ⟨Nat.le_of_ble_eq_true rfl, Nat.le_of_ble_eq_true rfl⟩ dX12_allGet_75 (fun r2_ S3_ H locs hp Y => ?_)
  obtain ⟨rfl, h⟩ := hp
  refine W.eq (g2 := F0 m 78 ls []) rfl ?_
  exact cb_X12_allGet_78 X hB6 Y (lv_sub hl [0, 1, 2, 3, 4, 5, 6] rfl) h
def wb_X12_allGet_6 (B6 : q_S → Nat → Int32 → Int32 → Int32 → Int32 → Int32 → Int32 → Prop) (S : q_S) (a0 : Nat) (x1 : Int32) (x2 : Int32) (x3 : Int32) (x4 : Int32) (x5 : Int32) (x6 : Int32) (Q : Option Value → q_S → Prop) : Prop := q_K S a0 = 13 ∧ (wm_X12_lastOf S a0 x1 (fun r5_ S6_ => ∃ x7_ : Int32, r5_ = some (.int x7_) ∧ (((x7_ ≤ x6 → (Q none S6_)) ∧ (¬ x7_ ≤ x6 → (q_K S6_ a0 = 13 ∧ (∃ a10_ : Nat, (q_P S6_ 2467 a0) = some a10_ ∧ (q_K S6_ a10_ = 21 ∧ (vp_in x6 (q_N S6_ a10_) ∧ (((¬ (q_A S6_ a10_ x6.toNatClampNeg) = (2 : Int32) → (wb_X12_allGet_78 B6 S6_ a0 x1 x2 x3 x4 x5 x6 Q)) ∧ ((q_A S6_ a10_ x6.toNatClampNeg) = (2 : Int32) → (∃ a15_ : Nat, (q_P S6_ 2478 a0) = some a15_ ∧ (q_K S6_ a15_ = 21 ∧ (vp_in x6 (q_N S6_ a15_) ∧ (((¬ (q_A S6_ a15_ x6.toNatClampNeg) = x2 → (wb_X12_allGet_78 B6 S6_ a0 x1 x2 x3 x4 x5 x6 Q)) ∧ ((q_A S6_ a15_ x6.toNatClampNeg) = x2 → (∃ a20_ : Nat, (q_P S6_ 2479 a0) = some a20_ ∧ (q_K S6_ a20_ = 21 ∧ (vp_in x6 (q_N S6_ a20_) ∧ ((((q_A S6_ a20_ x6.toNatClampNeg) = x3 → (((x4 = 0 → (wb_X12_allGet_72 B6 S6_ a0 x1 x2 x3 x4 x5 x6 Q)) ∧ (¬ x4 = 0 → (∃ a26_ : Nat, (q_P S6_ 2477 a0) = some a26_ ∧ (q_K S6_ a26_ = 21 ∧ (vp_in (((32 : Int32) * x6) + (11 : Int32)) (q_N S6_ a26_) ∧ (wb_X12_allGet_72 B6 (qs_A S6_ a26_ (((32 : Int32) * x6) + (11 : Int32)).toNatClampNeg x5) a0 x1 x2 x3 x4 x5 x6 Q)))))))) ∧ (¬ (q_A S6_ a20_ x6.toNatClampNeg) = x3 → (wb_X12_allGet_78 B6 S6_ a0 x1 x2 x3 x4 x5 x6 Q)))))))))))))))))))))))))
set_option maxHeartbeats 4000000 in
set_option maxRecDepth 100000 in
theorem cb_X12_allGet_6 {p : Program} {l : Launch} {e : Env} {s : State} {m : MethodId} {args : Array Value} {below : List Frame} {meth : Method} {c : Code} {D : va_G} {cy : Nat → ClassId} {lo : Nat} {B6 : q_S → Nat → Int32 → Int32 → Int32 → Int32 → Int32 → Int32 → Prop} {S : q_S} {a0 : Nat} {x1 : Int32} {x2 : Int32} {x3 : Int32} {x4 : Int32} {x5 : Int32} {x6 : Int32} {Q : Option Value → q_S → Prop} {H : Heap} {locs : List Loc} {ls : Array Slot} (X : q_X p s m args meth c RX12 cX12_allGet 7 none D cy lo) (hB6 : ∀ (S : q_S) (a0 : Nat) (x1 : Int32) (x2 : Int32) (x3 : Int32) (x4 : Int32) (x5 : Int32) (x6 : Int32) (H : Heap) (locs : List Loc) (ls : Array Slot), B6 S a0 x1 x2 x3 x4 x5 x6 → q_Y D cy lo s S H locs → lv_has ls 7 [(0, .ref a0), (1, .int x1), (2, .int x2), (3, .int x3), (4, .int x4), (5, .int x5), (6, .int x6)] → W p l e ({ frames := 2, cells := 0, slots := 0, locals := 43 } : Room) s m args below meth c H locs 0 0 (MQ below (q_Q D cy lo Q) args s 0 0 (fun q => lo ≤ q)) (F0 m 6 ls [])) (Y : q_Y D cy lo s S H locs) (hl : lv_has ls 7 [(0, .ref a0), (1, .int x1), (2, .int x2), (3, .int x3), (4, .int x4), (5, .int x5), (6, .int x6)]) (h : wb_X12_allGet_6 B6 S a0 x1 x2 x3 x4 x5 x6 Q) : W p l e ({ frames := 2, cells := 0, slots := 0, locals := 43 } : Room) s m args below meth c H locs 0 0 (MQ below (q_Q D cy lo Q) args s 0 0 (fun q => lo ≤ q)) (F0 m 6 ls []) := by
  have hx := X.1
  have hb := X.2.1
  unfold wb_X12_allGet_6 at h
  refine lv_iload hx hb dX12_allGet_6 (lv_at hl 6 rfl) ?_
  refine lv_aload_n hx hb dX12_allGet_8 rfl (lv_at hl 0 rfl) ?_
  refine lv_iload_n hx hb dX12_allGet_9 rfl (lv_at hl 1 rfl) ?_
  obtain ⟨k4_, h⟩ := h
  refine q_callV X Y hl (cm_X12_lastOf h) mt_X12_lastOf mi_X12_lastOf ml_X12_499 (ci := 12) rfl k4_ (by decide) rfl rfl (by first | exact Nat.le_of_ble_eq_true rfl | simp [q_cat, q_catI, q_catJ, q_catR]) ⟨Nat.le_of_ble_eq_true rfl, Nat.le_of_ble_eq_true rfl⟩ ⟨Nat.le_of_ble_eq_true rfl, Nat.le_of_ble_eq_true rfl⟩ dX12_allGet_10 (fun r5_ S6_ H locs hp Y => ?_)
  obtain ⟨x7_, rfl, h⟩ := hp
  refine W.eq (g2 := F0 m 13 ls [.int x7_, .int x6]) rfl ?_
  refine lv_icmp_ge (tgt := 84) hx hb dX12_allGet_13 (by decide) (fun c8_ => ?_) (fun c8_ => ?_)
  · replace h := h.1 c8_
    exact q_vret X Y (Nat.le_refl _) (Nat.le_refl _) h dX12_allGet_84
  · replace h := h.2 c8_
    refine lv_aload_n hx hb dX12_allGet_16 rfl (lv_at hl 0 rfl) ?_
    obtain ⟨k9_, h⟩ := h
    refine q_getP X Y kX12 67 rfl fl_X12_149 k9_ rfl dX12_allGet_17 ?_
    refine lv_iload hx hb dX12_allGet_20 (lv_at hl 6 rfl) ?_
    obtain ⟨a10_, e11_, h⟩ := h
    refine q_nn [.int x6] e11_ ?_
    obtain ⟨k12_, h⟩ := h
    obtain ⟨i13_, h⟩ := h
    refine q_ild X Y k12_ i13_ dX12_allGet_22 ?_
    refine lv_iconst (v := 2) hx hb dX12_allGet_23 (by decide) ?_
    refine lv_icmp_ne (tgt := 78) hx hb dX12_allGet_24 (by decide) (fun c14_ => ?_) (fun c14_ => ?_)
    · replace h := h.1 c14_
      exact cb_X12_allGet_78 X hB6 Y (lv_sub hl [0, 1, 2, 3, 4, 5, 6] rfl) h
    · replace h := h.2 c14_
      refine lv_aload_n hx hb dX12_allGet_27 rfl (lv_at hl 0 rfl) ?_
      refine q_getP X Y kX12 78 rfl fl_X12_182 k9_ rfl dX12_allGet_28 ?_
      refine lv_iload hx hb dX12_allGet_31 (lv_at hl 6 rfl) ?_
      obtain ⟨a15_, e16_, h⟩ := h
      refine q_nn [.int x6] e16_ ?_
      obtain ⟨k17_, h⟩ := h
      obtain ⟨i18_, h⟩ := h
      refine q_ild X Y k17_ i18_ dX12_allGet_33 ?_
      refine lv_iload_n hx hb dX12_allGet_34 rfl (lv_at hl 2 rfl) ?_
      refine lv_icmp_ne (tgt := 78) hx hb dX12_allGet_35 (by decide) (fun c19_ => ?_) (fun c19_ => ?_)
      · replace h := h.1 c19_
        exact cb_X12_allGet_78 X hB6 Y (lv_sub hl [0, 1, 2, 3, 4, 5, 6] rfl) h
      · replace h := h.2 c19_
        refine lv_aload_n hx hb dX12_allGet_38 rfl (lv_at hl 0 rfl) ?_
        refine q_getP X Y kX12 79 rfl fl_X12_185 k9_ rfl dX12_allGet_39 ?_
        refine lv_iload hx hb dX12_allGet_42 (lv_at hl 6 rfl) ?_
        obtain ⟨a20_, e21_, h⟩ := h
        refine q_nn [.int x6] e21_ ?_
        obtain ⟨k22_, h⟩ := h
        obtain ⟨i23_, h⟩ := h
        refine q_ild X Y k22_ i23_ dX12_allGet_44 ?_
        refine lv_iload_n hx hb dX12_allGet_45 rfl (lv_at hl 3 rfl) ?_
        refine lv_icmp_eq (tgt := 52) hx hb dX12_allGet_46 (by decide) (fun c24_ => ?_) (fun c24_ => ?_)
        · replace h := h.1 c24_
          refine lv_iload hx hb dX12_allGet_52 (lv_at hl 4 rfl) ?_
          refine lv_if_eq (tgt := 72) hx hb dX12_allGet_54 (by decide) (fun c25_ => ?_) (fun c25_ => ?_)
          · replace h := h.1 c25_
            exact cb_X12_allGet_72 X hB6 Y (lv_sub hl [0, 1, 2, 3, 4, 5, 6] rfl) h
          · replace h := h.2 c25_
            refine lv_aload_n hx hb dX12_allGet_57 rfl (lv_at hl 0 rfl) ?_
            refine q_getP X Y kX12 77 rfl fl_X12_179 k9_ rfl dX12_allGet_58 ?_
            refine lv_bipush (v := 32) hx hb dX12_allGet_61 (by decide) ?_
            refine lv_iload hx hb dX12_allGet_63 (lv_at hl 6 rfl) ?_
            refine lv_imul hx hb dX12_allGet_65 ?_
            refine lv_bipush (v := 11) hx hb dX12_allGet_66 (by decide) ?_
            refine lv_iadd hx hb dX12_allGet_68 ?_
            refine lv_iload hx hb dX12_allGet_69 (lv_at hl 5 rfl) ?_
            obtain ⟨a26_, e27_, h⟩ := h
            refine q_nn [.int x5, .int (((32 : Int32) * x6) + (11 : Int32))] e27_ ?_
            obtain ⟨k28_, h⟩ := h
            obtain ⟨i29_, h⟩ := h
            refine q_ist X Y k28_ i29_ dX12_allGet_71 (fun H locs Y => ?_)
            exact cb_X12_allGet_72 X hB6 Y (lv_sub hl [0, 1, 2, 3, 4, 5, 6] rfl) h
        · replace h := h.2 c24_
          refine lv_goto (tgt := 78) hx hb dX12_allGet_49 (by decide) ?_
          exact cb_X12_allGet_78 X hB6 Y (lv_sub hl [0, 1, 2, 3, 4, 5, 6] rfl) h
def wl_X12_allGet_6  : Nat → q_S → Nat → Int32 → Int32 → Int32 → Int32 → Int32 → Int32 → (Option Value → q_S → Prop) → Prop
  | 0, _, _, _, _, _, _, _, _, _ => False
  | n + 1, S, a0, x1, x2, x3, x4, x5, x6, Q => wb_X12_allGet_6 (fun S a0 x1 x2 x3 x4 x5 x6 => wl_X12_allGet_6 n S a0 x1 x2 x3 x4 x5 x6 Q) S a0 x1 x2 x3 x4 x5 x6 Q
set_option maxHeartbeats 4000000 in
set_option maxRecDepth 100000 in
theorem cl_X12_allGet_6 {p : Program} {l : Launch} {e : Env} {s : State} {m : MethodId} {args : Array Value} {below : List Frame} {meth : Method} {c : Code} {D : va_G} {cy : Nat → ClassId} {lo : Nat}  {Q : Option Value → q_S → Prop} (X : q_X p s m args meth c RX12 cX12_allGet 7 none D cy lo)  : ∀ (n : Nat) (S : q_S) (a0 : Nat) (x1 : Int32) (x2 : Int32) (x3 : Int32) (x4 : Int32) (x5 : Int32) (x6 : Int32) (H : Heap) (locs : List Loc) (ls : Array Slot), wl_X12_allGet_6 n S a0 x1 x2 x3 x4 x5 x6 Q → q_Y D cy lo s S H locs → lv_has ls 7 [(0, .ref a0), (1, .int x1), (2, .int x2), (3, .int x3), (4, .int x4), (5, .int x5), (6, .int x6)] → W p l e ({ frames := 2, cells := 0, slots := 0, locals := 43 } : Room) s m args below meth c H locs 0 0 (MQ below (q_Q D cy lo Q) args s 0 0 (fun q => lo ≤ q)) (F0 m 6 ls []) := by
  intro n
  induction n with
  | zero => intro S a0 x1 x2 x3 x4 x5 x6 H locs ls h; exact absurd h id
  | succ n ih => intro S a0 x1 x2 x3 x4 x5 x6 H locs ls h Y hl; exact cb_X12_allGet_6 X ih Y hl h
def wm_X12_allGet (S : q_S) (a0 : Nat) (x1 : Int32) (x2 : Int32) (x3 : Int32) (x4 : Int32) (x5 : Int32) (Q : Option Value → q_S → Prop) : Prop := ∃ n30_ : Nat, wl_X12_allGet_6 n30_ S a0 x1 x2 x3 x4 x5 ((16 : Int32) * x1) Q
set_option maxHeartbeats 4000000 in
set_option maxRecDepth 100000 in
theorem cm_X12_allGet {l : Launch} {D : va_G} {cy : Nat → ClassId} {lo : Nat} {S : q_S} {a0 : Nat} {x1 : Int32} {x2 : Int32} {x3 : Int32} {x4 : Int32} {x5 : Int32} {Q : Option Value → q_S → Prop} (h : wm_X12_allGet S a0 x1 x2 x3 x4 x5 Q) : q_Met l D cy lo yX12_allGet cX12_allGet 7 none 2 43 0 0 [.ref a0, .int x1, .int x2, .int x3, .int x4, .int x5] S Q := by
  refine q_body (by decide) (by first | exact Nat.le_of_ble_eq_true rfl | simp [lg_sl, q_cat, q_catI, q_catJ, q_catR]) ?_
  intro p e s m below meth c ls X hnm Y hl
  have hx := X.1
  have hb := X.2.1
  have hl : lv_has ls 7 [(0, .ref a0), (1, .int x1), (2, .int x2), (3, .int x3), (4, .int x4), (5, .int x5)] := by first | exact hl | simpa [lv_args, q_cat, q_catI, q_catJ, q_catR] using hl
  generalize hargs : ([.ref a0, .int x1, .int x2, .int x3, .int x4, .int x5] : List Value).toArray = args at X ⊢
  unfold wm_X12_allGet at h
  refine lv_bipush (v := 16) hx hb dX12_allGet_0 (by decide) ?_
  refine lv_iload_n hx hb dX12_allGet_2 rfl (lv_at hl 1 rfl) ?_
  refine lv_imul hx hb dX12_allGet_3 ?_
  refine lv_istore (i := 6) (lv' := [(6, .int ((16 : Int32) * x1)), (0, .ref a0), (1, .int x1), (2, .int x2), (3, .int x3), (4, .int x4), (5, .int x5)]) hx hb dX12_allGet_4 hl (by decide) (by first | rfl | simp [q_cat, q_catI, q_catJ, q_catR]) (fun ls hl => ?_)
  obtain ⟨n30_, h⟩ := h
  exact cl_X12_allGet_6 X n30_ _ _ _ _ _ _ _ _ _ _ _ h Y (lv_sub hl [1, 2, 3, 4, 5, 6, 0] rfl)
-- X12_puts
theorem ml_X12_622 : Cond.methodLink RX12 622 yX12_waits ∈ q_G := q_tb (i := 2417) (by decide +kernel) (by decide +kernel)
theorem mt_X12_waits : q_Mt yX12_waits cX12_waits 5 (some .int) 4 := ⟨q_tb (i := 2420) (by decide +kernel) (by decide +kernel), q_tb (i := 11) (by decide +kernel) (by decide +kernel), by decide +kernel, by decide +kernel, by decide +kernel⟩
theorem mi_X12_waits : Cond.instanceMethod yX12_waits ∈ q_G ∧ Cond.selects yX12_waits.cls yX12_waits yX12_waits ∈ q_G := ⟨q_tb (i := 2419) (by decide +kernel) (by decide +kernel), q_tp (i := 160) (q := (yX12_waits, 114)) (by decide +kernel) (by decide +kernel)⟩
theorem dX12_puts_0 : decode cX12_puts 0 = .ok (.aload_n 0, 1) := by decide +kernel
theorem dX12_puts_1 : decode cX12_puts 1 = .ok (.iconst 3, 1) := by decide +kernel
theorem dX12_puts_2 : decode cX12_puts 2 = .ok (.iload_n 2, 1) := by decide +kernel
theorem dX12_puts_3 : decode cX12_puts 3 = .ok (.aload_n 0, 1) := by decide +kernel
theorem dX12_puts_4 : decode cX12_puts 4 = .ok (.getfield 97, 3) := by decide +kernel
theorem dX12_puts_7 : decode cX12_puts 7 = .ok (.iload_n 2, 1) := by decide +kernel
theorem dX12_puts_8 : decode cX12_puts 8 = .ok (.baload, 1) := by decide +kernel
theorem dX12_puts_9 : decode cX12_puts 9 = .ok (.invokevirtual 540, 3) := by decide +kernel
theorem dX12_puts_12 : decode cX12_puts 12 = .ok (.istore 5, 2) := by decide +kernel
theorem dX12_puts_14 : decode cX12_puts 14 = .ok (.iload 5, 2) := by decide +kernel
theorem dX12_puts_16 : decode cX12_puts 16 = .ok (.iconst (-1), 1) := by decide +kernel
theorem dX12_puts_17 : decode cX12_puts 17 = .ok (.if_icmp .eq 25, 3) := by decide +kernel
theorem dX12_puts_20 : decode cX12_puts 20 = .ok (.aload_n 0, 1) := by decide +kernel
theorem dX12_puts_21 : decode cX12_puts 21 = .ok (.getfield 179, 3) := by decide +kernel
theorem dX12_puts_24 : decode cX12_puts 24 = .ok (.bipush 32, 2) := by decide +kernel
theorem dX12_puts_26 : decode cX12_puts 26 = .ok (.iload 5, 2) := by decide +kernel
theorem dX12_puts_28 : decode cX12_puts 28 = .ok (.imul, 1) := by decide +kernel
theorem dX12_puts_29 : decode cX12_puts 29 = .ok (.bipush 11, 2) := by decide +kernel
theorem dX12_puts_31 : decode cX12_puts 31 = .ok (.iadd, 1) := by decide +kernel
theorem dX12_puts_32 : decode cX12_puts 32 = .ok (.iload_n 3, 1) := by decide +kernel
theorem dX12_puts_33 : decode cX12_puts 33 = .ok (.iastore, 1) := by decide +kernel
theorem dX12_puts_34 : decode cX12_puts 34 = .ok (.aload_n 0, 1) := by decide +kernel
theorem dX12_puts_35 : decode cX12_puts 35 = .ok (.iload 5, 2) := by decide +kernel
theorem dX12_puts_37 : decode cX12_puts 37 = .ok (.invokevirtual 543, 3) := by decide +kernel
theorem dX12_puts_40 : decode cX12_puts 40 = .ok (.iconst 0, 1) := by decide +kernel
theorem dX12_puts_41 : decode cX12_puts 41 = .ok (.ireturn, 1) := by decide +kernel
theorem dX12_puts_42 : decode cX12_puts 42 = .ok (.aload_n 0, 1) := by decide +kernel
theorem dX12_puts_43 : decode cX12_puts 43 = .ok (.getfield 230, 3) := by decide +kernel
theorem dX12_puts_46 : decode cX12_puts 46 = .ok (.iload_n 2, 1) := by decide +kernel
theorem dX12_puts_47 : decode cX12_puts 47 = .ok (.iaload, 1) := by decide +kernel
theorem dX12_puts_48 : decode cX12_puts 48 = .ok (.aload_n 0, 1) := by decide +kernel
theorem dX12_puts_49 : decode cX12_puts 49 = .ok (.getfield 94, 3) := by decide +kernel
theorem dX12_puts_52 : decode cX12_puts 52 = .ok (.iload_n 2, 1) := by decide +kernel
theorem dX12_puts_53 : decode cX12_puts 53 = .ok (.iaload, 1) := by decide +kernel
theorem dX12_puts_54 : decode cX12_puts 54 = .ok (.if_icmp .ne 24, 3) := by decide +kernel
theorem dX12_puts_57 : decode cX12_puts 57 = .ok (.aload_n 0, 1) := by decide +kernel
theorem dX12_puts_58 : decode cX12_puts 58 = .ok (.iload_n 1, 1) := by decide +kernel
theorem dX12_puts_59 : decode cX12_puts 59 = .ok (.iconst 4, 1) := by decide +kernel
theorem dX12_puts_60 : decode cX12_puts 60 = .ok (.iload_n 2, 1) := by decide +kernel
theorem dX12_puts_61 : decode cX12_puts 61 = .ok (.iload 4, 2) := by decide +kernel
theorem dX12_puts_63 : decode cX12_puts 63 = .ok (.invokevirtual 622, 3) := by decide +kernel
theorem dX12_puts_66 : decode cX12_puts 66 = .ok (.istore 6, 2) := by decide +kernel
theorem dX12_puts_68 : decode cX12_puts 68 = .ok (.aload_n 0, 1) := by decide +kernel
theorem dX12_puts_69 : decode cX12_puts 69 = .ok (.getfield 194, 3) := by decide +kernel
theorem dX12_puts_72 : decode cX12_puts 72 = .ok (.iload_n 1, 1) := by decide +kernel
theorem dX12_puts_73 : decode cX12_puts 73 = .ok (.iload_n 3, 1) := by decide +kernel
theorem dX12_puts_74 : decode cX12_puts 74 = .ok (.iastore, 1) := by decide +kernel
theorem dX12_puts_75 : decode cX12_puts 75 = .ok (.iload 6, 2) := by decide +kernel
theorem dX12_puts_77 : decode cX12_puts 77 = .ok (.ireturn, 1) := by decide +kernel
theorem dX12_puts_78 : decode cX12_puts 78 = .ok (.aload_n 0, 1) := by decide +kernel
theorem dX12_puts_79 : decode cX12_puts 79 = .ok (.getfield 233, 3) := by decide +kernel
theorem dX12_puts_82 : decode cX12_puts 82 = .ok (.bipush 16, 2) := by decide +kernel
theorem dX12_puts_84 : decode cX12_puts 84 = .ok (.iload_n 2, 1) := by decide +kernel
theorem dX12_puts_85 : decode cX12_puts 85 = .ok (.imul, 1) := by decide +kernel
theorem dX12_puts_86 : decode cX12_puts 86 = .ok (.aload_n 0, 1) := by decide +kernel
theorem dX12_puts_87 : decode cX12_puts 87 = .ok (.getfield 230, 3) := by decide +kernel
theorem dX12_puts_90 : decode cX12_puts 90 = .ok (.iload_n 2, 1) := by decide +kernel
theorem dX12_puts_91 : decode cX12_puts 91 = .ok (.iaload, 1) := by decide +kernel
theorem dX12_puts_92 : decode cX12_puts 92 = .ok (.iadd, 1) := by decide +kernel
theorem dX12_puts_93 : decode cX12_puts 93 = .ok (.iload_n 3, 1) := by decide +kernel
theorem dX12_puts_94 : decode cX12_puts 94 = .ok (.iastore, 1) := by decide +kernel
theorem dX12_puts_95 : decode cX12_puts 95 = .ok (.aload_n 0, 1) := by decide +kernel
theorem dX12_puts_96 : decode cX12_puts 96 = .ok (.getfield 230, 3) := by decide +kernel
theorem dX12_puts_99 : decode cX12_puts 99 = .ok (.iload_n 2, 1) := by decide +kernel
theorem dX12_puts_100 : decode cX12_puts 100 = .ok (.dup2, 1) := by decide +kernel
theorem dX12_puts_101 : decode cX12_puts 101 = .ok (.iaload, 1) := by decide +kernel
theorem dX12_puts_102 : decode cX12_puts 102 = .ok (.iconst 1, 1) := by decide +kernel
theorem dX12_puts_103 : decode cX12_puts 103 = .ok (.iadd, 1) := by decide +kernel
theorem dX12_puts_104 : decode cX12_puts 104 = .ok (.iastore, 1) := by decide +kernel
theorem dX12_puts_105 : decode cX12_puts 105 = .ok (.iconst 0, 1) := by decide +kernel
theorem dX12_puts_106 : decode cX12_puts 106 = .ok (.ireturn, 1) := by decide +kernel
def wm_X12_puts (S : q_S) (a0 : Nat) (x1 : Int32) (x2 : Int32) (x3 : Int32) (x4 : Int32) (Q : Option Value → q_S → Prop) : Prop := q_K S a0 = 13 ∧ (∃ a2_ : Nat, (q_P S 2447 a0) = some a2_ ∧ (q_K S a2_ = 22 ∧ (vp_in x2 (q_N S a2_) ∧ (wm_X12_waiter S a0 (3 : Int32) x2 (q_A S a2_ x2.toNatClampNeg) (fun r6_ S7_ => ∃ x8_ : Int32, r6_ = some (.int x8_) ∧ (((x8_ = (-1 : Int32) → (q_K S7_ a0 = 13 ∧ (∃ a11_ : Nat, (q_P S7_ 2494 a0) = some a11_ ∧ (q_K S7_ a11_ = 21 ∧ (vp_in x2 (q_N S7_ a11_) ∧ (∃ a15_ : Nat, (q_P S7_ 2446 a0) = some a15_ ∧ (q_K S7_ a15_ = 21 ∧ (vp_in x2 (q_N S7_ a15_) ∧ (((¬ (q_A S7_ a11_ x2.toNatClampNeg) = (q_A S7_ a15_ x2.toNatClampNeg) → (vp_in x2 (q_N S7_ a11_) ∧ (∃ a21_ : Nat, (q_P S7_ 2495 a0) = some a21_ ∧ (q_K S7_ a21_ = 21 ∧ (vp_in (((16 : Int32) * x2) + (q_A S7_ a11_ x2.toNatClampNeg)) (q_N S7_ a21_) ∧ (∃ a25_ : Nat, (q_P (qs_A S7_ a21_ (((16 : Int32) * x2) + (q_A S7_ a11_ x2.toNatClampNeg)).toNatClampNeg x3) 2494 a0) = some a25_ ∧ (q_K (qs_A S7_ a21_ (((16 : Int32) * x2) + (q_A S7_ a11_ x2.toNatClampNeg)).toNatClampNeg x3) a25_ = 21 ∧ (vp_in x2 (q_N (qs_A S7_ a21_ (((16 : Int32) * x2) + (q_A S7_ a11_ x2.toNatClampNeg)).toNatClampNeg x3) a25_) ∧ (vp_in x2 (q_N (qs_A S7_ a21_ (((16 : Int32) * x2) + (q_A S7_ a11_ x2.toNatClampNeg)).toNatClampNeg x3) a25_) ∧ (∀ S30_ : q_S, S30_ = (qs_A (qs_A S7_ a21_ (((16 : Int32) * x2) + (q_A S7_ a11_ x2.toNatClampNeg)).toNatClampNeg x3) a25_ x2.toNatClampNeg ((q_A (qs_A S7_ a21_ (((16 : Int32) * x2) + (q_A S7_ a11_ x2.toNatClampNeg)).toNatClampNeg x3) a25_ x2.toNatClampNeg) + (1 : Int32))) → (Q (some (.int (0 : Int32))) S30_))))))))))) ∧ ((q_A S7_ a11_ x2.toNatClampNeg) = (q_A S7_ a15_ x2.toNatClampNeg) → (wm_X12_waits S7_ a0 x1 (4 : Int32) x2 x4 (fun r31_ S32_ => ∃ x33_ : Int32, r31_ = some (.int x33_) ∧ (q_K S32_ a0 = 13 ∧ (∃ a35_ : Nat, (q_P S32_ 2482 a0) = some a35_ ∧ (q_K S32_ a35_ = 21 ∧ (vp_in x1 (q_N S32_ a35_) ∧ (Q (some (.int x33_)) (qs_A S32_ a35_ x1.toNatClampNeg x3))))))))))))))))))) ∧ (¬ x8_ = (-1 : Int32) → (q_K S7_ a0 = 13 ∧ (∃ a40_ : Nat, (q_P S7_ 2477 a0) = some a40_ ∧ (q_K S7_ a40_ = 21 ∧ (vp_in (((32 : Int32) * x8_) + (11 : Int32)) (q_N S7_ a40_) ∧ (wm_X12_gets (qs_A S7_ a40_ (((32 : Int32) * x8_) + (11 : Int32)).toNatClampNeg x3) a0 x8_ (fun r44_ S45_ => r44_ = none ∧ (Q (some (.int (0 : Int32))) S45_)))))))))))))))
set_option maxHeartbeats 4000000 in
set_option maxRecDepth 100000 in
theorem cm_X12_puts {l : Launch} {D : va_G} {cy : Nat → ClassId} {lo : Nat} {S : q_S} {a0 : Nat} {x1 : Int32} {x2 : Int32} {x3 : Int32} {x4 : Int32} {Q : Option Value → q_S → Prop} (h : wm_X12_puts S a0 x1 x2 x3 x4 Q) : q_Met l D cy lo yX12_puts cX12_puts 7 (some .int) 3 66 0 0 [.ref a0, .int x1, .int x2, .int x3, .int x4] S Q := by
  refine q_body (by decide) (by first | exact Nat.le_of_ble_eq_true rfl | simp [lg_sl, q_cat, q_catI, q_catJ, q_catR]) ?_
  intro p e s m below meth c ls X hnm Y hl
  have hx := X.1
  have hb := X.2.1
  have hl : lv_has ls 7 [(0, .ref a0), (1, .int x1), (2, .int x2), (3, .int x3), (4, .int x4)] := by first | exact hl | simpa [lv_args, q_cat, q_catI, q_catJ, q_catR] using hl
  generalize hargs : ([.ref a0, .int x1, .int x2, .int x3, .int x4] : List Value).toArray = args at X ⊢
  unfold wm_X12_puts at h
  refine lv_aload_n hx hb dX12_puts_0 rfl (lv_at hl 0 rfl) ?_
  refine lv_iconst (v := 3) hx hb dX12_puts_1 (by decide) ?_
  refine lv_iload_n hx hb dX12_puts_2 rfl (lv_at hl 2 rfl) ?_
  refine lv_aload_n hx hb dX12_puts_3 rfl (lv_at hl 0 rfl) ?_
  obtain ⟨k1_, h⟩ := h
  refine q_getP X Y kX12 47 rfl fl_X12_97 k1_ rfl dX12_puts_4 ?_
  refine lv_iload_n hx hb dX12_puts_7 rfl (lv_at hl 2 rfl) ?_
  obtain ⟨a2_, e3_, h⟩ := h
  refine q_nn [.int x2] e3_ ?_
  obtain ⟨k4_, h⟩ := h
  obtain ⟨i5_, h⟩ := h
  refine q_zld X Y k4_ i5_ dX12_puts_8 ?_
  refine q_callV X Y hl (cm_X12_waiter h) mt_X12_waiter mi_X12_waiter ml_X12_540 (ci := 12) rfl k1_ (by decide) rfl rfl (by first | exact Nat.le_of_ble_eq_true rfl | simp [q_cat, q_catI, q_catJ, q_catR]) ⟨Nat.le_of_ble_eq_true rfl, Nat.le_of_ble_eq_true rfl⟩ ⟨Nat.le_of_ble_eq_true rfl, Nat.le_of_ble_eq_true rfl⟩ dX12_puts_9 (fun r6_ S7_ H locs hp Y => ?_)
  obtain ⟨x8_, rfl, h⟩ := hp
  refine W.eq (g2 := F0 m 12 ls [.int x8_]) rfl ?_
  refine lv_istore (i := 5) (lv' := [(5, .int x8_), (0, .ref a0), (1, .int x1), (2, .int x2), (3, .int x3), (4, .int x4)]) hx hb dX12_puts_12 hl (by decide) (by first | rfl | simp [q_cat, q_catI, q_catJ, q_catR]) (fun ls hl => ?_)
  refine lv_iload hx hb dX12_puts_14 (lv_at hl 0 rfl) ?_
  refine lv_iconst (v := (-1)) hx hb dX12_puts_16 (by decide) ?_
  refine lv_icmp_eq (tgt := 42) hx hb dX12_puts_17 (by decide) (fun c9_ => ?_) (fun c9_ => ?_)
  · replace h := h.1 c9_
    refine lv_aload_n hx hb dX12_puts_42 rfl (lv_at hl 1 rfl) ?_
    obtain ⟨k10_, h⟩ := h
    refine q_getP X Y kX12 94 rfl fl_X12_230 k10_ rfl dX12_puts_43 ?_
    refine lv_iload_n hx hb dX12_puts_46 rfl (lv_at hl 3 rfl) ?_
    obtain ⟨a11_, e12_, h⟩ := h
    refine q_nn [.int x2] e12_ ?_
    obtain ⟨k13_, h⟩ := h
    obtain ⟨i14_, h⟩ := h
    refine q_ild X Y k13_ i14_ dX12_puts_47 ?_
    refine lv_aload_n hx hb dX12_puts_48 rfl (lv_at hl 1 rfl) ?_
    refine q_getP X Y kX12 46 rfl fl_X12_94 k10_ rfl dX12_puts_49 ?_
    refine lv_iload_n hx hb dX12_puts_52 rfl (lv_at hl 3 rfl) ?_
    obtain ⟨a15_, e16_, h⟩ := h
    refine q_nn [.int x2] e16_ ?_
    obtain ⟨k17_, h⟩ := h
    obtain ⟨i18_, h⟩ := h
    refine q_ild X Y k17_ i18_ dX12_puts_53 ?_
    refine lv_icmp_ne (tgt := 78) hx hb dX12_puts_54 (by decide) (fun c19_ => ?_) (fun c19_ => ?_)
    · replace h := h.1 c19_
      refine lv_aload_n hx hb dX12_puts_78 rfl (lv_at hl 1 rfl) ?_
      refine q_getP X Y kX12 95 rfl fl_X12_233 k10_ rfl dX12_puts_79 ?_
      refine lv_bipush (v := 16) hx hb dX12_puts_82 (by decide) ?_
      refine lv_iload_n hx hb dX12_puts_84 rfl (lv_at hl 3 rfl) ?_
      refine lv_imul hx hb dX12_puts_85 ?_
      refine lv_aload_n hx hb dX12_puts_86 rfl (lv_at hl 1 rfl) ?_
      refine q_getR X Y kX12 94 rfl fl_X12_230 k10_ e12_ dX12_puts_87 ?_
      refine lv_iload_n hx hb dX12_puts_90 rfl (lv_at hl 3 rfl) ?_
      obtain ⟨i20_, h⟩ := h
      refine q_ild X Y k13_ i20_ dX12_puts_91 ?_
      refine lv_iadd hx hb dX12_puts_92 ?_
      refine lv_iload_n hx hb dX12_puts_93 rfl (lv_at hl 4 rfl) ?_
      obtain ⟨a21_, e22_, h⟩ := h
      refine q_nn [.int x3, .int (((16 : Int32) * x2) + (q_A S7_ a11_ x2.toNatClampNeg))] e22_ ?_
      obtain ⟨k23_, h⟩ := h
      obtain ⟨i24_, h⟩ := h
      refine q_ist X Y k23_ i24_ dX12_puts_94 (fun H locs Y => ?_)
      refine lv_aload_n hx hb dX12_puts_95 rfl (lv_at hl 1 rfl) ?_
      refine q_getP X Y kX12 94 rfl fl_X12_230 k10_ rfl dX12_puts_96 ?_
      refine lv_iload_n hx hb dX12_puts_99 rfl (lv_at hl 3 rfl) ?_
      refine lv_dup2_11 hx hb dX12_puts_100 rfl (q_cat _) ?_
      obtain ⟨a25_, e26_, h⟩ := h
      refine q_nn [.int x2] e26_ ?_
      obtain ⟨k27_, h⟩ := h
      obtain ⟨i28_, h⟩ := h
      refine q_ild X Y k27_ i28_ dX12_puts_101 ?_
      refine lv_iconst (v := 1) hx hb dX12_puts_102 (by decide) ?_
      refine lv_iadd hx hb dX12_puts_103 ?_
      refine q_nn [.int ((q_A (qs_A S7_ a21_ (((16 : Int32) * x2) + (q_A S7_ a11_ x2.toNatClampNeg)).toNatClampNeg x3) a25_ x2.toNatClampNeg) + (1 : Int32)), .int x2] e26_ ?_
      obtain ⟨i29_, h⟩ := h
      refine q_ist X Y k27_ i29_ dX12_puts_104 (fun H locs Y => ?_)
      obtain ⟨S30_, gS30_⟩ : ∃ z : q_S, z = (qs_A (qs_A S7_ a21_ (((16 : Int32) * x2) + (q_A S7_ a11_ x2.toNatClampNeg)).toNatClampNeg x3) a25_ x2.toNatClampNeg ((q_A (qs_A S7_ a21_ (((16 : Int32) * x2) + (q_A S7_ a11_ x2.toNatClampNeg)).toNatClampNeg x3) a25_ x2.toNatClampNeg) + (1 : Int32))) := ⟨_, rfl⟩
      replace Y : q_Y D cy lo s S30_ H locs := by rw [gS30_]; exact Y
      replace h := h S30_ gS30_
      replace k10_ : q_K S30_ a0 = 13 := by rw [gS30_]; exact k10_
      replace k13_ : q_K S30_ a11_ = 21 := by rw [gS30_]; exact k13_
      replace k17_ : q_K S30_ a15_ = 21 := by rw [gS30_]; exact k17_
      replace k23_ : q_K S30_ a21_ = 21 := by rw [gS30_]; exact k23_
      replace k27_ : q_K S30_ a25_ = 21 := by rw [gS30_]; exact k27_
      refine lv_iconst (v := 0) hx hb dX12_puts_105 (by decide) ?_
      exact q_iret X Y rfl (Nat.le_refl _) (Nat.le_refl _) h dX12_puts_106
    · replace h := h.2 c19_
      refine lv_aload_n hx hb dX12_puts_57 rfl (lv_at hl 1 rfl) ?_
      refine lv_iload_n hx hb dX12_puts_58 rfl (lv_at hl 2 rfl) ?_
      refine lv_iconst (v := 4) hx hb dX12_puts_59 (by decide) ?_
      refine lv_iload_n hx hb dX12_puts_60 rfl (lv_at hl 3 rfl) ?_
      refine lv_iload hx hb dX12_puts_61 (lv_at hl 5 rfl) ?_
      refine q_callV X Y hl (cm_X12_waits h) mt_X12_waits mi_X12_waits ml_X12_622 (ci := 12) rfl k10_ (by decide) rfl rfl (by first | exact Nat.le_of_ble_eq_true rfl | simp [q_cat, q_catI, q_catJ, q_catR]) ⟨Nat.le_of_ble_eq_true rfl, Nat.le_of_ble_eq_true rfl⟩ ⟨Nat.le_of_ble_eq_true rfl, Nat.le_of_ble_eq_true rfl⟩ dX12_puts_63 (fun r31_ S32_ H locs hp Y => ?_)
      obtain ⟨x33_, rfl, h⟩ := hp
      refine W.eq (g2 := F0 m 66 ls [.int x33_]) rfl ?_
      refine lv_istore (i := 6) (lv' := [(6, .int x33_), (5, .int x8_), (0, .ref a0), (1, .int x1), (2, .int x2), (3, .int x3), (4, .int x4)]) hx hb dX12_puts_66 hl (by decide) (by first | rfl | simp [q_cat, q_catI, q_catJ, q_catR]) (fun ls hl => ?_)
      refine lv_aload_n hx hb dX12_puts_68 rfl (lv_at hl 2 rfl) ?_
      obtain ⟨k34_, h⟩ := h
      refine q_getP X Y kX12 82 rfl fl_X12_194 k34_ rfl dX12_puts_69 ?_
      refine lv_iload_n hx hb dX12_puts_72 rfl (lv_at hl 3 rfl) ?_
      refine lv_iload_n hx hb dX12_puts_73 rfl (lv_at hl 5 rfl) ?_
      obtain ⟨a35_, e36_, h⟩ := h
      refine q_nn [.int x3, .int x1] e36_ ?_
      obtain ⟨k37_, h⟩ := h
      obtain ⟨i38_, h⟩ := h
      refine q_ist X Y k37_ i38_ dX12_puts_74 (fun H locs Y => ?_)
      refine lv_iload hx hb dX12_puts_75 (lv_at hl 0 rfl) ?_
      exact q_iret X Y rfl (Nat.le_refl _) (Nat.le_refl _) h dX12_puts_77
  · replace h := h.2 c9_
    refine lv_aload_n hx hb dX12_puts_20 rfl (lv_at hl 1 rfl) ?_
    obtain ⟨k39_, h⟩ := h
    refine q_getP X Y kX12 77 rfl fl_X12_179 k39_ rfl dX12_puts_21 ?_
    refine lv_bipush (v := 32) hx hb dX12_puts_24 (by decide) ?_
    refine lv_iload hx hb dX12_puts_26 (lv_at hl 0 rfl) ?_
    refine lv_imul hx hb dX12_puts_28 ?_
    refine lv_bipush (v := 11) hx hb dX12_puts_29 (by decide) ?_
    refine lv_iadd hx hb dX12_puts_31 ?_
    refine lv_iload_n hx hb dX12_puts_32 rfl (lv_at hl 4 rfl) ?_
    obtain ⟨a40_, e41_, h⟩ := h
    refine q_nn [.int x3, .int (((32 : Int32) * x8_) + (11 : Int32))] e41_ ?_
    obtain ⟨k42_, h⟩ := h
    obtain ⟨i43_, h⟩ := h
    refine q_ist X Y k42_ i43_ dX12_puts_33 (fun H locs Y => ?_)
    refine lv_aload_n hx hb dX12_puts_34 rfl (lv_at hl 1 rfl) ?_
    refine lv_iload hx hb dX12_puts_35 (lv_at hl 0 rfl) ?_
    refine q_callV X Y hl (cm_X12_gets h) mt_X12_gets mi_X12_gets ml_X12_543 (ci := 12) rfl k39_ (by decide) rfl rfl (by first | exact Nat.le_of_ble_eq_true rfl | simp [q_cat, q_catI, q_catJ, q_catR]) ⟨Nat.le_of_ble_eq_true rfl, Nat.le_of_ble_eq_true rfl⟩ ⟨Nat.le_of_ble_eq_true rfl, Nat.le_of_ble_eq_true rfl⟩ dX12_puts_37 (fun r44_ S45_ H locs hp Y => ?_)
    obtain ⟨rfl, h⟩ := hp
    refine W.eq (g2 := F0 m 40 ls []) rfl ?_
    refine lv_iconst (v := 0) hx hb dX12_puts_40 (by decide) ?_
    exact q_iret X Y rfl (Nat.le_refl _) (Nat.le_refl _) h dX12_puts_41
-- X12_takes
theorem dX12_takes_0 : decode cX12_takes 0 = .ok (.aload_n 0, 1) := by decide +kernel
theorem dX12_takes_1 : decode cX12_takes 1 = .ok (.getfield 230, 3) := by decide +kernel
theorem dX12_takes_4 : decode cX12_takes 4 = .ok (.iload_n 2, 1) := by decide +kernel
theorem dX12_takes_5 : decode cX12_takes 5 = .ok (.iaload, 1) := by decide +kernel
theorem dX12_takes_6 : decode cX12_takes 6 = .ok (.ifCond .ne 12, 3) := by decide +kernel
theorem dX12_takes_9 : decode cX12_takes 9 = .ok (.aload_n 0, 1) := by decide +kernel
theorem dX12_takes_10 : decode cX12_takes 10 = .ok (.iload_n 1, 1) := by decide +kernel
theorem dX12_takes_11 : decode cX12_takes 11 = .ok (.iconst 3, 1) := by decide +kernel
theorem dX12_takes_12 : decode cX12_takes 12 = .ok (.iload_n 2, 1) := by decide +kernel
theorem dX12_takes_13 : decode cX12_takes 13 = .ok (.iload_n 3, 1) := by decide +kernel
theorem dX12_takes_14 : decode cX12_takes 14 = .ok (.invokevirtual 622, 3) := by decide +kernel
theorem dX12_takes_17 : decode cX12_takes 17 = .ok (.ireturn, 1) := by decide +kernel
theorem dX12_takes_18 : decode cX12_takes 18 = .ok (.aload_n 0, 1) := by decide +kernel
theorem dX12_takes_19 : decode cX12_takes 19 = .ok (.getfield 179, 3) := by decide +kernel
theorem dX12_takes_22 : decode cX12_takes 22 = .ok (.bipush 32, 2) := by decide +kernel
theorem dX12_takes_24 : decode cX12_takes 24 = .ok (.iload_n 1, 1) := by decide +kernel
theorem dX12_takes_25 : decode cX12_takes 25 = .ok (.imul, 1) := by decide +kernel
theorem dX12_takes_26 : decode cX12_takes 26 = .ok (.bipush 11, 2) := by decide +kernel
theorem dX12_takes_28 : decode cX12_takes 28 = .ok (.iadd, 1) := by decide +kernel
theorem dX12_takes_29 : decode cX12_takes 29 = .ok (.aload_n 0, 1) := by decide +kernel
theorem dX12_takes_30 : decode cX12_takes 30 = .ok (.getfield 233, 3) := by decide +kernel
theorem dX12_takes_33 : decode cX12_takes 33 = .ok (.bipush 16, 2) := by decide +kernel
theorem dX12_takes_35 : decode cX12_takes 35 = .ok (.iload_n 2, 1) := by decide +kernel
theorem dX12_takes_36 : decode cX12_takes 36 = .ok (.imul, 1) := by decide +kernel
theorem dX12_takes_37 : decode cX12_takes 37 = .ok (.iaload, 1) := by decide +kernel
theorem dX12_takes_38 : decode cX12_takes 38 = .ok (.iastore, 1) := by decide +kernel
theorem dX12_takes_39 : decode cX12_takes 39 = .ok (.aload_n 0, 1) := by decide +kernel
theorem dX12_takes_40 : decode cX12_takes 40 = .ok (.getfield 230, 3) := by decide +kernel
theorem dX12_takes_43 : decode cX12_takes 43 = .ok (.iload_n 2, 1) := by decide +kernel
theorem dX12_takes_44 : decode cX12_takes 44 = .ok (.dup2, 1) := by decide +kernel
theorem dX12_takes_45 : decode cX12_takes 45 = .ok (.iaload, 1) := by decide +kernel
theorem dX12_takes_46 : decode cX12_takes 46 = .ok (.iconst 1, 1) := by decide +kernel
theorem dX12_takes_47 : decode cX12_takes 47 = .ok (.isub, 1) := by decide +kernel
theorem dX12_takes_48 : decode cX12_takes 48 = .ok (.iastore, 1) := by decide +kernel
theorem dX12_takes_49 : decode cX12_takes 49 = .ok (.iconst 0, 1) := by decide +kernel
theorem dX12_takes_50 : decode cX12_takes 50 = .ok (.istore 4, 2) := by decide +kernel
theorem dX12_takes_52 : decode cX12_takes 52 = .ok (.iload 4, 2) := by decide +kernel
theorem dX12_takes_54 : decode cX12_takes 54 = .ok (.aload_n 0, 1) := by decide +kernel
theorem dX12_takes_55 : decode cX12_takes 55 = .ok (.getfield 230, 3) := by decide +kernel
theorem dX12_takes_58 : decode cX12_takes 58 = .ok (.iload_n 2, 1) := by decide +kernel
theorem dX12_takes_59 : decode cX12_takes 59 = .ok (.iaload, 1) := by decide +kernel
theorem dX12_takes_60 : decode cX12_takes 60 = .ok (.if_icmp .ge 35, 3) := by decide +kernel
theorem dX12_takes_63 : decode cX12_takes 63 = .ok (.aload_n 0, 1) := by decide +kernel
theorem dX12_takes_64 : decode cX12_takes 64 = .ok (.getfield 233, 3) := by decide +kernel
theorem dX12_takes_67 : decode cX12_takes 67 = .ok (.bipush 16, 2) := by decide +kernel
theorem dX12_takes_69 : decode cX12_takes 69 = .ok (.iload_n 2, 1) := by decide +kernel
theorem dX12_takes_70 : decode cX12_takes 70 = .ok (.imul, 1) := by decide +kernel
theorem dX12_takes_71 : decode cX12_takes 71 = .ok (.iload 4, 2) := by decide +kernel
theorem dX12_takes_73 : decode cX12_takes 73 = .ok (.iadd, 1) := by decide +kernel
theorem dX12_takes_74 : decode cX12_takes 74 = .ok (.aload_n 0, 1) := by decide +kernel
theorem dX12_takes_75 : decode cX12_takes 75 = .ok (.getfield 233, 3) := by decide +kernel
theorem dX12_takes_78 : decode cX12_takes 78 = .ok (.bipush 16, 2) := by decide +kernel
theorem dX12_takes_80 : decode cX12_takes 80 = .ok (.iload_n 2, 1) := by decide +kernel
theorem dX12_takes_81 : decode cX12_takes 81 = .ok (.imul, 1) := by decide +kernel
theorem dX12_takes_82 : decode cX12_takes 82 = .ok (.iload 4, 2) := by decide +kernel
theorem dX12_takes_84 : decode cX12_takes 84 = .ok (.iadd, 1) := by decide +kernel
theorem dX12_takes_85 : decode cX12_takes 85 = .ok (.iconst 1, 1) := by decide +kernel
theorem dX12_takes_86 : decode cX12_takes 86 = .ok (.iadd, 1) := by decide +kernel
theorem dX12_takes_87 : decode cX12_takes 87 = .ok (.iaload, 1) := by decide +kernel
theorem dX12_takes_88 : decode cX12_takes 88 = .ok (.iastore, 1) := by decide +kernel
theorem dX12_takes_89 : decode cX12_takes 89 = .ok (.iinc 4 1, 3) := by decide +kernel
theorem dX12_takes_92 : decode cX12_takes 92 = .ok (.goto (-40), 3) := by decide +kernel
theorem dX12_takes_95 : decode cX12_takes 95 = .ok (.aload_n 0, 1) := by decide +kernel
theorem dX12_takes_96 : decode cX12_takes 96 = .ok (.iconst 4, 1) := by decide +kernel
theorem dX12_takes_97 : decode cX12_takes 97 = .ok (.iload_n 2, 1) := by decide +kernel
theorem dX12_takes_98 : decode cX12_takes 98 = .ok (.aload_n 0, 1) := by decide +kernel
theorem dX12_takes_99 : decode cX12_takes 99 = .ok (.getfield 97, 3) := by decide +kernel
theorem dX12_takes_102 : decode cX12_takes 102 = .ok (.iload_n 2, 1) := by decide +kernel
theorem dX12_takes_103 : decode cX12_takes 103 = .ok (.baload, 1) := by decide +kernel
theorem dX12_takes_104 : decode cX12_takes 104 = .ok (.invokevirtual 540, 3) := by decide +kernel
theorem dX12_takes_107 : decode cX12_takes 107 = .ok (.istore 4, 2) := by decide +kernel
theorem dX12_takes_109 : decode cX12_takes 109 = .ok (.iload 4, 2) := by decide +kernel
theorem dX12_takes_111 : decode cX12_takes 111 = .ok (.iconst (-1), 1) := by decide +kernel
theorem dX12_takes_112 : decode cX12_takes 112 = .ok (.if_icmp .ne 5, 3) := by decide +kernel
theorem dX12_takes_115 : decode cX12_takes 115 = .ok (.iconst 0, 1) := by decide +kernel
theorem dX12_takes_116 : decode cX12_takes 116 = .ok (.ireturn, 1) := by decide +kernel
theorem dX12_takes_117 : decode cX12_takes 117 = .ok (.aload_n 0, 1) := by decide +kernel
theorem dX12_takes_118 : decode cX12_takes 118 = .ok (.getfield 233, 3) := by decide +kernel
theorem dX12_takes_121 : decode cX12_takes 121 = .ok (.bipush 16, 2) := by decide +kernel
theorem dX12_takes_123 : decode cX12_takes 123 = .ok (.iload_n 2, 1) := by decide +kernel
theorem dX12_takes_124 : decode cX12_takes 124 = .ok (.imul, 1) := by decide +kernel
theorem dX12_takes_125 : decode cX12_takes 125 = .ok (.aload_n 0, 1) := by decide +kernel
theorem dX12_takes_126 : decode cX12_takes 126 = .ok (.getfield 230, 3) := by decide +kernel
theorem dX12_takes_129 : decode cX12_takes 129 = .ok (.iload_n 2, 1) := by decide +kernel
theorem dX12_takes_130 : decode cX12_takes 130 = .ok (.iaload, 1) := by decide +kernel
theorem dX12_takes_131 : decode cX12_takes 131 = .ok (.iadd, 1) := by decide +kernel
theorem dX12_takes_132 : decode cX12_takes 132 = .ok (.aload_n 0, 1) := by decide +kernel
theorem dX12_takes_133 : decode cX12_takes 133 = .ok (.getfield 194, 3) := by decide +kernel
theorem dX12_takes_136 : decode cX12_takes 136 = .ok (.iload 4, 2) := by decide +kernel
theorem dX12_takes_138 : decode cX12_takes 138 = .ok (.iaload, 1) := by decide +kernel
theorem dX12_takes_139 : decode cX12_takes 139 = .ok (.iastore, 1) := by decide +kernel
theorem dX12_takes_140 : decode cX12_takes 140 = .ok (.aload_n 0, 1) := by decide +kernel
theorem dX12_takes_141 : decode cX12_takes 141 = .ok (.getfield 230, 3) := by decide +kernel
theorem dX12_takes_144 : decode cX12_takes 144 = .ok (.iload_n 2, 1) := by decide +kernel
theorem dX12_takes_145 : decode cX12_takes 145 = .ok (.dup2, 1) := by decide +kernel
theorem dX12_takes_146 : decode cX12_takes 146 = .ok (.iaload, 1) := by decide +kernel
theorem dX12_takes_147 : decode cX12_takes 147 = .ok (.iconst 1, 1) := by decide +kernel
theorem dX12_takes_148 : decode cX12_takes 148 = .ok (.iadd, 1) := by decide +kernel
theorem dX12_takes_149 : decode cX12_takes 149 = .ok (.iastore, 1) := by decide +kernel
theorem dX12_takes_150 : decode cX12_takes 150 = .ok (.aload_n 0, 1) := by decide +kernel
theorem dX12_takes_151 : decode cX12_takes 151 = .ok (.iload 4, 2) := by decide +kernel
theorem dX12_takes_153 : decode cX12_takes 153 = .ok (.invokevirtual 543, 3) := by decide +kernel
theorem dX12_takes_156 : decode cX12_takes 156 = .ok (.iconst 0, 1) := by decide +kernel
theorem dX12_takes_157 : decode cX12_takes 157 = .ok (.ireturn, 1) := by decide +kernel
def wb_X12_takes_52 (B52 : q_S → Nat → Int32 → Int32 → Prop) (S : q_S) (a0 : Nat) (x2 : Int32) (x4 : Int32) (Q : Option Value → q_S → Prop) : Prop := q_K S a0 = 13 ∧ (∃ a2_ : Nat, (q_P S 2494 a0) = some a2_ ∧ (q_K S a2_ = 21 ∧ (vp_in x2 (q_N S a2_) ∧ ((((q_A S a2_ x2.toNatClampNeg) ≤ x4 → (∃ a7_ : Nat, (q_P S 2447 a0) = some a7_ ∧ (q_K S a7_ = 22 ∧ (vp_in x2 (q_N S a7_) ∧ (wm_X12_waiter S a0 (4 : Int32) x2 (q_A S a7_ x2.toNatClampNeg) (fun r11_ S12_ => ∃ x13_ : Int32, r11_ = some (.int x13_) ∧ (((¬ x13_ = (-1 : Int32) → (q_K S12_ a0 = 13 ∧ (∃ a16_ : Nat, (q_P S12_ 2494 a0) = some a16_ ∧ (q_K S12_ a16_ = 21 ∧ (vp_in x2 (q_N S12_ a16_) ∧ (∃ a20_ : Nat, (q_P S12_ 2482 a0) = some a20_ ∧ (q_K S12_ a20_ = 21 ∧ (vp_in x13_ (q_N S12_ a20_) ∧ (∃ a24_ : Nat, (q_P S12_ 2495 a0) = some a24_ ∧ (q_K S12_ a24_ = 21 ∧ (vp_in (((16 : Int32) * x2) + (q_A S12_ a16_ x2.toNatClampNeg)) (q_N S12_ a24_) ∧ (∃ a28_ : Nat, (q_P (qs_A S12_ a24_ (((16 : Int32) * x2) + (q_A S12_ a16_ x2.toNatClampNeg)).toNatClampNeg (q_A S12_ a20_ x13_.toNatClampNeg)) 2494 a0) = some a28_ ∧ (q_K (qs_A S12_ a24_ (((16 : Int32) * x2) + (q_A S12_ a16_ x2.toNatClampNeg)).toNatClampNeg (q_A S12_ a20_ x13_.toNatClampNeg)) a28_ = 21 ∧ (vp_in x2 (q_N (qs_A S12_ a24_ (((16 : Int32) * x2) + (q_A S12_ a16_ x2.toNatClampNeg)).toNatClampNeg (q_A S12_ a20_ x13_.toNatClampNeg)) a28_) ∧ (vp_in x2 (q_N (qs_A S12_ a24_ (((16 : Int32) * x2) + (q_A S12_ a16_ x2.toNatClampNeg)).toNatClampNeg (q_A S12_ a20_ x13_.toNatClampNeg)) a28_) ∧ (∀ S33_ : q_S, S33_ = (qs_A (qs_A S12_ a24_ (((16 : Int32) * x2) + (q_A S12_ a16_ x2.toNatClampNeg)).toNatClampNeg (q_A S12_ a20_ x13_.toNatClampNeg)) a28_ x2.toNatClampNeg ((q_A (qs_A S12_ a24_ (((16 : Int32) * x2) + (q_A S12_ a16_ x2.toNatClampNeg)).toNatClampNeg (q_A S12_ a20_ x13_.toNatClampNeg)) a28_ x2.toNatClampNeg) + (1 : Int32))) → (wm_X12_gets S33_ a0 x13_ (fun r34_ S35_ => r34_ = none ∧ (Q (some (.int (0 : Int32))) S35_))))))))))))))))))) ∧ (x13_ = (-1 : Int32) → (Q (some (.int (0 : Int32))) S12_)))))))))) ∧ (¬ (q_A S a2_ x2.toNatClampNeg) ≤ x4 → (∃ a36_ : Nat, (q_P S 2495 a0) = some a36_ ∧ (q_K S a36_ = 21 ∧ (vp_in ((((16 : Int32) * x2) + x4) + (1 : Int32)) (q_N S a36_) ∧ (vp_in (((16 : Int32) * x2) + x4) (q_N S a36_) ∧ (B52 (qs_A S a36_ (((16 : Int32) * x2) + x4).toNatClampNeg (q_A S a36_ ((((16 : Int32) * x2) + x4) + (1 : Int32)).toNatClampNeg)) a0 x2 (x4 + 1))))))))))))
set_option maxHeartbeats 4000000 in
set_option maxRecDepth 100000 in
theorem cb_X12_takes_52 {p : Program} {l : Launch} {e : Env} {s : State} {m : MethodId} {args : Array Value} {below : List Frame} {meth : Method} {c : Code} {D : va_G} {cy : Nat → ClassId} {lo : Nat} {B52 : q_S → Nat → Int32 → Int32 → Prop} {S : q_S} {a0 : Nat} {x2 : Int32} {x4 : Int32} {Q : Option Value → q_S → Prop} {H : Heap} {locs : List Loc} {ls : Array Slot} (X : q_X p s m args meth c RX12 cX12_takes 5 (some .int) D cy lo) (hB52 : ∀ (S : q_S) (a0 : Nat) (x2 : Int32) (x4 : Int32) (H : Heap) (locs : List Loc) (ls : Array Slot), B52 S a0 x2 x4 → q_Y D cy lo s S H locs → lv_has ls 5 [(0, .ref a0), (2, .int x2), (4, .int x4)] → W p l e ({ frames := 3, cells := 0, slots := 0, locals := 66 } : Room) s m args below meth c H locs 0 0 (MQ below (q_Q D cy lo Q) args s 0 0 (fun q => lo ≤ q)) (F0 m 52 ls [])) (Y : q_Y D cy lo s S H locs) (hl : lv_has ls 5 [(0, .ref a0), (2, .int x2), (4, .int x4)]) (h : wb_X12_takes_52 B52 S a0 x2 x4 Q) : W p l e ({ frames := 3, cells := 0, slots := 0, locals := 66 } : Room) s m args below meth c H locs 0 0 (MQ below (q_Q D cy lo Q) args s 0 0 (fun q => lo ≤ q)) (F0 m 52 ls []) := by
  have hx := X.1
  have hb := X.2.1
  unfold wb_X12_takes_52 at h
  refine lv_iload hx hb dX12_takes_52 (lv_at hl 2 rfl) ?_
  refine lv_aload_n hx hb dX12_takes_54 rfl (lv_at hl 0 rfl) ?_
  obtain ⟨k1_, h⟩ := h
  refine q_getP X Y kX12 94 rfl fl_X12_230 k1_ rfl dX12_takes_55 ?_
  refine lv_iload_n hx hb dX12_takes_58 rfl (lv_at hl 1 rfl) ?_
  obtain ⟨a2_, e3_, h⟩ := h
  refine q_nn [.int x2] e3_ ?_
  obtain ⟨k4_, h⟩ := h
  obtain ⟨i5_, h⟩ := h
  refine q_ild X Y k4_ i5_ dX12_takes_59 ?_
  refine lv_icmp_ge (tgt := 95) hx hb dX12_takes_60 (by decide) (fun c6_ => ?_) (fun c6_ => ?_)
  · replace h := h.1 c6_
    refine lv_aload_n hx hb dX12_takes_95 rfl (lv_at hl 0 rfl) ?_
    refine lv_iconst (v := 4) hx hb dX12_takes_96 (by decide) ?_
    refine lv_iload_n hx hb dX12_takes_97 rfl (lv_at hl 1 rfl) ?_
    refine lv_aload_n hx hb dX12_takes_98 rfl (lv_at hl 0 rfl) ?_
    refine q_getP X Y kX12 47 rfl fl_X12_97 k1_ rfl dX12_takes_99 ?_
    refine lv_iload_n hx hb dX12_takes_102 rfl (lv_at hl 1 rfl) ?_
    obtain ⟨a7_, e8_, h⟩ := h
    refine q_nn [.int x2] e8_ ?_
    obtain ⟨k9_, h⟩ := h
    obtain ⟨i10_, h⟩ := h
    refine q_zld X Y k9_ i10_ dX12_takes_103 ?_
    refine q_callV X Y hl (cm_X12_waiter h) mt_X12_waiter mi_X12_waiter ml_X12_540 (ci := 12) rfl k1_ (by decide) rfl rfl (by first | exact Nat.le_of_ble_eq_true rfl | simp [q_cat, q_catI, q_catJ, q_catR]) ⟨Nat.le_of_ble_eq_true rfl, Nat.le_of_ble_eq_true rfl⟩ ⟨Nat.le_of_ble_eq_true rfl, Nat.le_of_ble_eq_true rfl⟩ dX12_takes_104 (fun r11_ S12_ H locs hp Y => ?_)
    obtain ⟨x13_, rfl, h⟩ := hp
    refine W.eq (g2 := F0 m 107 ls [.int x13_]) rfl ?_
    refine lv_istore (i := 4) (lv' := [(4, .int x13_), (0, .ref a0), (2, .int x2)]) hx hb dX12_takes_107 hl (by decide) (by first | rfl | simp [q_cat, q_catI, q_catJ, q_catR]) (fun ls hl => ?_)
    refine lv_iload hx hb dX12_takes_109 (lv_at hl 0 rfl) ?_
    refine lv_iconst (v := (-1)) hx hb dX12_takes_111 (by decide) ?_
    refine lv_icmp_ne (tgt := 117) hx hb dX12_takes_112 (by decide) (fun c14_ => ?_) (fun c14_ => ?_)
    · replace h := h.1 c14_
      refine lv_aload_n hx hb dX12_takes_117 rfl (lv_at hl 1 rfl) ?_
      obtain ⟨k15_, h⟩ := h
      refine q_getP X Y kX12 95 rfl fl_X12_233 k15_ rfl dX12_takes_118 ?_
      refine lv_bipush (v := 16) hx hb dX12_takes_121 (by decide) ?_
      refine lv_iload_n hx hb dX12_takes_123 rfl (lv_at hl 2 rfl) ?_
      refine lv_imul hx hb dX12_takes_124 ?_
      refine lv_aload_n hx hb dX12_takes_125 rfl (lv_at hl 1 rfl) ?_
      refine q_getP X Y kX12 94 rfl fl_X12_230 k15_ rfl dX12_takes_126 ?_
      refine lv_iload_n hx hb dX12_takes_129 rfl (lv_at hl 2 rfl) ?_
      obtain ⟨a16_, e17_, h⟩ := h
      refine q_nn [.int x2] e17_ ?_
      obtain ⟨k18_, h⟩ := h
      obtain ⟨i19_, h⟩ := h
      refine q_ild X Y k18_ i19_ dX12_takes_130 ?_
      refine lv_iadd hx hb dX12_takes_131 ?_
      refine lv_aload_n hx hb dX12_takes_132 rfl (lv_at hl 1 rfl) ?_
      refine q_getP X Y kX12 82 rfl fl_X12_194 k15_ rfl dX12_takes_133 ?_
      refine lv_iload hx hb dX12_takes_136 (lv_at hl 0 rfl) ?_
      obtain ⟨a20_, e21_, h⟩ := h
      refine q_nn [.int x13_] e21_ ?_
      obtain ⟨k22_, h⟩ := h
      obtain ⟨i23_, h⟩ := h
      refine q_ild X Y k22_ i23_ dX12_takes_138 ?_
      obtain ⟨a24_, e25_, h⟩ := h
      refine q_nn [.int (q_A S12_ a20_ x13_.toNatClampNeg), .int (((16 : Int32) * x2) + (q_A S12_ a16_ x2.toNatClampNeg))] e25_ ?_
      obtain ⟨k26_, h⟩ := h
      obtain ⟨i27_, h⟩ := h
      refine q_ist X Y k26_ i27_ dX12_takes_139 (fun H locs Y => ?_)
      refine lv_aload_n hx hb dX12_takes_140 rfl (lv_at hl 1 rfl) ?_
      refine q_getP X Y kX12 94 rfl fl_X12_230 k15_ rfl dX12_takes_141 ?_
      refine lv_iload_n hx hb dX12_takes_144 rfl (lv_at hl 2 rfl) ?_
      refine lv_dup2_11 hx hb dX12_takes_145 rfl (q_cat _) ?_
      obtain ⟨a28_, e29_, h⟩ := h
      refine q_nn [.int x2] e29_ ?_
      obtain ⟨k30_, h⟩ := h
      obtain ⟨i31_, h⟩ := h
      refine q_ild X Y k30_ i31_ dX12_takes_146 ?_
      refine lv_iconst (v := 1) hx hb dX12_takes_147 (by decide) ?_
      refine lv_iadd hx hb dX12_takes_148 ?_
      refine q_nn [.int ((q_A (qs_A S12_ a24_ (((16 : Int32) * x2) + (q_A S12_ a16_ x2.toNatClampNeg)).toNatClampNeg (q_A S12_ a20_ x13_.toNatClampNeg)) a28_ x2.toNatClampNeg) + (1 : Int32)), .int x2] e29_ ?_
      obtain ⟨i32_, h⟩ := h
      refine q_ist X Y k30_ i32_ dX12_takes_149 (fun H locs Y => ?_)
      obtain ⟨S33_, gS33_⟩ : ∃ z : q_S, z = (qs_A (qs_A S12_ a24_ (((16 : Int32) * x2) + (q_A S12_ a16_ x2.toNatClampNeg)).toNatClampNeg (q_A S12_ a20_ x13_.toNatClampNeg)) a28_ x2.toNatClampNeg ((q_A (qs_A S12_ a24_ (((16 : Int32) * x2) + (q_A S12_ a16_ x2.toNatClampNeg)).toNatClampNeg (q_A S12_ a20_ x13_.toNatClampNeg)) a28_ x2.toNatClampNeg) + (1 : Int32))) := ⟨_, rfl⟩
      replace Y : q_Y D cy lo s S33_ H locs := by rw [gS33_]; exact Y
      replace h := h S33_ gS33_
      replace k15_ : q_K S33_ a0 = 13 := by rw [gS33_]; exact k15_
      replace k18_ : q_K S33_ a16_ = 21 := by rw [gS33_]; exact k18_
      replace k22_ : q_K S33_ a20_ = 21 := by rw [gS33_]; exact k22_
      replace k26_ : q_K S33_ a24_ = 21 := by rw [gS33_]; exact k26_
      replace k30_ : q_K S33_ a28_ = 21 := by rw [gS33_]; exact k30_
      refine lv_aload_n hx hb dX12_takes_150 rfl (lv_at hl 1 rfl) ?_
      refine lv_iload hx hb dX12_takes_151 (lv_at hl 0 rfl) ?_
      refine q_callV X Y hl (cm_X12_gets h) mt_X12_gets mi_X12_gets ml_X12_543 (ci := 12) rfl k15_ (by decide) rfl rfl (by first | exact Nat.le_of_ble_eq_true rfl | simp [q_cat, q_catI, q_catJ, q_catR]) ⟨Nat.le_of_ble_eq_true rfl, Nat.le_of_ble_eq_true rfl⟩ ⟨Nat.le_of_ble_eq_true rfl, Nat.le_of_ble_eq_true rfl⟩ dX12_takes_153 (fun r34_ S35_ H locs hp Y => ?_)
      obtain ⟨rfl, h⟩ := hp
      refine W.eq (g2 := F0 m 156 ls []) rfl ?_
      refine lv_iconst (v := 0) hx hb dX12_takes_156 (by decide) ?_
      exact q_iret X Y rfl (Nat.le_refl _) (Nat.le_refl _) h dX12_takes_157
    · replace h := h.2 c14_
      refine lv_iconst (v := 0) hx hb dX12_takes_115 (by decide) ?_
      exact q_iret X Y rfl (Nat.le_refl _) (Nat.le_refl _) h dX12_takes_116
  · replace h := h.2 c6_
    refine lv_aload_n hx hb dX12_takes_63 rfl (lv_at hl 0 rfl) ?_
    refine q_getP X Y kX12 95 rfl fl_X12_233 k1_ rfl dX12_takes_64 ?_
    refine lv_bipush (v := 16) hx hb dX12_takes_67 (by decide) ?_
    refine lv_iload_n hx hb dX12_takes_69 rfl (lv_at hl 1 rfl) ?_
    refine lv_imul hx hb dX12_takes_70 ?_
    refine lv_iload hx hb dX12_takes_71 (lv_at hl 2 rfl) ?_
    refine lv_iadd hx hb dX12_takes_73 ?_
    refine lv_aload_n hx hb dX12_takes_74 rfl (lv_at hl 0 rfl) ?_
    refine q_getP X Y kX12 95 rfl fl_X12_233 k1_ rfl dX12_takes_75 ?_
    refine lv_bipush (v := 16) hx hb dX12_takes_78 (by decide) ?_
    refine lv_iload_n hx hb dX12_takes_80 rfl (lv_at hl 1 rfl) ?_
    refine lv_imul hx hb dX12_takes_81 ?_
    refine lv_iload hx hb dX12_takes_82 (lv_at hl 2 rfl) ?_
    refine lv_iadd hx hb dX12_takes_84 ?_
    refine lv_iconst (v := 1) hx hb dX12_takes_85 (by decide) ?_
    refine lv_iadd hx hb dX12_takes_86 ?_
    obtain ⟨a36_, e37_, h⟩ := h
    refine q_nn [.int ((((16 : Int32) * x2) + x4) + (1 : Int32))] e37_ ?_
    obtain ⟨k38_, h⟩ := h
    obtain ⟨i39_, h⟩ := h
    refine q_ild X Y k38_ i39_ dX12_takes_87 ?_
    refine q_nn [.int (q_A S a36_ ((((16 : Int32) * x2) + x4) + (1 : Int32)).toNatClampNeg), .int (((16 : Int32) * x2) + x4)] e37_ ?_
    obtain ⟨i40_, h⟩ := h
    refine q_ist X Y k38_ i40_ dX12_takes_88 (fun H locs Y => ?_)
    refine lv_iinc (v := (x4 + 1)) (lv' := [(4, .int (x4 + 1)), (0, .ref a0), (2, .int x2)]) hx hb dX12_takes_89 hl (k := 2) rfl (by first | rfl | decide) (by decide) (by first | rfl | simp [q_cat, q_catI, q_catJ, q_catR]) (fun ls hl => ?_)
    refine lv_goto (tgt := 52) hx hb dX12_takes_92 (by decide) ?_
    exact hB52 _ _ _ _ _ _ _ h Y (lv_sub hl [1, 2, 0] rfl)
def wl_X12_takes_52  : Nat → q_S → Nat → Int32 → Int32 → (Option Value → q_S → Prop) → Prop
  | 0, _, _, _, _, _ => False
  | n + 1, S, a0, x2, x4, Q => wb_X12_takes_52 (fun S a0 x2 x4 => wl_X12_takes_52 n S a0 x2 x4 Q) S a0 x2 x4 Q
set_option maxHeartbeats 4000000 in
set_option maxRecDepth 100000 in
theorem cl_X12_takes_52 {p : Program} {l : Launch} {e : Env} {s : State} {m : MethodId} {args : Array Value} {below : List Frame} {meth : Method} {c : Code} {D : va_G} {cy : Nat → ClassId} {lo : Nat}  {Q : Option Value → q_S → Prop} (X : q_X p s m args meth c RX12 cX12_takes 5 (some .int) D cy lo)  : ∀ (n : Nat) (S : q_S) (a0 : Nat) (x2 : Int32) (x4 : Int32) (H : Heap) (locs : List Loc) (ls : Array Slot), wl_X12_takes_52 n S a0 x2 x4 Q → q_Y D cy lo s S H locs → lv_has ls 5 [(0, .ref a0), (2, .int x2), (4, .int x4)] → W p l e ({ frames := 3, cells := 0, slots := 0, locals := 66 } : Room) s m args below meth c H locs 0 0 (MQ below (q_Q D cy lo Q) args s 0 0 (fun q => lo ≤ q)) (F0 m 52 ls []) := by
  intro n
  induction n with
  | zero => intro S a0 x2 x4 H locs ls h; exact absurd h id
  | succ n ih => intro S a0 x2 x4 H locs ls h Y hl; exact cb_X12_takes_52 X ih Y hl h
def wm_X12_takes (S : q_S) (a0 : Nat) (x1 : Int32) (x2 : Int32) (x3 : Int32) (Q : Option Value → q_S → Prop) : Prop := q_K S a0 = 13 ∧ (∃ a42_ : Nat, (q_P S 2494 a0) = some a42_ ∧ (q_K S a42_ = 21 ∧ (vp_in x2 (q_N S a42_) ∧ (((¬ (q_A S a42_ x2.toNatClampNeg) = 0 → (∃ a47_ : Nat, (q_P S 2495 a0) = some a47_ ∧ (q_K S a47_ = 21 ∧ (vp_in ((16 : Int32) * x2) (q_N S a47_) ∧ (∃ a51_ : Nat, (q_P S 2477 a0) = some a51_ ∧ (q_K S a51_ = 21 ∧ (vp_in (((32 : Int32) * x1) + (11 : Int32)) (q_N S a51_) ∧ (∃ a55_ : Nat, (q_P (qs_A S a51_ (((32 : Int32) * x1) + (11 : Int32)).toNatClampNeg (q_A S a47_ ((16 : Int32) * x2).toNatClampNeg)) 2494 a0) = some a55_ ∧ (q_K (qs_A S a51_ (((32 : Int32) * x1) + (11 : Int32)).toNatClampNeg (q_A S a47_ ((16 : Int32) * x2).toNatClampNeg)) a55_ = 21 ∧ (vp_in x2 (q_N (qs_A S a51_ (((32 : Int32) * x1) + (11 : Int32)).toNatClampNeg (q_A S a47_ ((16 : Int32) * x2).toNatClampNeg)) a55_) ∧ (vp_in x2 (q_N (qs_A S a51_ (((32 : Int32) * x1) + (11 : Int32)).toNatClampNeg (q_A S a47_ ((16 : Int32) * x2).toNatClampNeg)) a55_) ∧ (∀ S60_ : q_S, S60_ = (qs_A (qs_A S a51_ (((32 : Int32) * x1) + (11 : Int32)).toNatClampNeg (q_A S a47_ ((16 : Int32) * x2).toNatClampNeg)) a55_ x2.toNatClampNeg ((q_A (qs_A S a51_ (((32 : Int32) * x1) + (11 : Int32)).toNatClampNeg (q_A S a47_ ((16 : Int32) * x2).toNatClampNeg)) a55_ x2.toNatClampNeg) - (1 : Int32))) → (∃ n61_ : Nat, wl_X12_takes_52 n61_ S60_ a0 x2 (0 : Int32) Q))))))))))))) ∧ ((q_A S a42_ x2.toNatClampNeg) = 0 → (wm_X12_waits S a0 x1 (3 : Int32) x2 x3 (fun r62_ S63_ => ∃ x64_ : Int32, r62_ = some (.int x64_) ∧ (Q (some (.int x64_)) S63_)))))))))
set_option maxHeartbeats 4000000 in
set_option maxRecDepth 100000 in
theorem cm_X12_takes {l : Launch} {D : va_G} {cy : Nat → ClassId} {lo : Nat} {S : q_S} {a0 : Nat} {x1 : Int32} {x2 : Int32} {x3 : Int32} {Q : Option Value → q_S → Prop} (h : wm_X12_takes S a0 x1 x2 x3 Q) : q_Met l D cy lo yX12_takes cX12_takes 5 (some .int) 3 66 0 0 [.ref a0, .int x1, .int x2, .int x3] S Q := by
  refine q_body (by decide) (by first | exact Nat.le_of_ble_eq_true rfl | simp [lg_sl, q_cat, q_catI, q_catJ, q_catR]) ?_
  intro p e s m below meth c ls X hnm Y hl
  have hx := X.1
  have hb := X.2.1
  have hl : lv_has ls 5 [(0, .ref a0), (1, .int x1), (2, .int x2), (3, .int x3)] := by first | exact hl | simpa [lv_args, q_cat, q_catI, q_catJ, q_catR] using hl
  generalize hargs : ([.ref a0, .int x1, .int x2, .int x3] : List Value).toArray = args at X ⊢
  unfold wm_X12_takes at h
  refine lv_aload_n hx hb dX12_takes_0 rfl (lv_at hl 0 rfl) ?_
  obtain ⟨k41_, h⟩ := h
  refine q_getP X Y kX12 94 rfl fl_X12_230 k41_ rfl dX12_takes_1 ?_
  refine lv_iload_n hx hb dX12_takes_4 rfl (lv_at hl 2 rfl) ?_
  obtain ⟨a42_, e43_, h⟩ := h
  refine q_nn [.int x2] e43_ ?_
  obtain ⟨k44_, h⟩ := h
  obtain ⟨i45_, h⟩ := h
  refine q_ild X Y k44_ i45_ dX12_takes_5 ?_
  refine lv_if_ne (tgt := 18) hx hb dX12_takes_6 (by decide) (fun c46_ => ?_) (fun c46_ => ?_)
  · replace h := h.1 c46_
    refine lv_aload_n hx hb dX12_takes_18 rfl (lv_at hl 0 rfl) ?_
    refine q_getP X Y kX12 77 rfl fl_X12_179 k41_ rfl dX12_takes_19 ?_
    refine lv_bipush (v := 32) hx hb dX12_takes_22 (by decide) ?_
    refine lv_iload_n hx hb dX12_takes_24 rfl (lv_at hl 1 rfl) ?_
    refine lv_imul hx hb dX12_takes_25 ?_
    refine lv_bipush (v := 11) hx hb dX12_takes_26 (by decide) ?_
    refine lv_iadd hx hb dX12_takes_28 ?_
    refine lv_aload_n hx hb dX12_takes_29 rfl (lv_at hl 0 rfl) ?_
    refine q_getP X Y kX12 95 rfl fl_X12_233 k41_ rfl dX12_takes_30 ?_
    refine lv_bipush (v := 16) hx hb dX12_takes_33 (by decide) ?_
    refine lv_iload_n hx hb dX12_takes_35 rfl (lv_at hl 2 rfl) ?_
    refine lv_imul hx hb dX12_takes_36 ?_
    obtain ⟨a47_, e48_, h⟩ := h
    refine q_nn [.int ((16 : Int32) * x2)] e48_ ?_
    obtain ⟨k49_, h⟩ := h
    obtain ⟨i50_, h⟩ := h
    refine q_ild X Y k49_ i50_ dX12_takes_37 ?_
    obtain ⟨a51_, e52_, h⟩ := h
    refine q_nn [.int (q_A S a47_ ((16 : Int32) * x2).toNatClampNeg), .int (((32 : Int32) * x1) + (11 : Int32))] e52_ ?_
    obtain ⟨k53_, h⟩ := h
    obtain ⟨i54_, h⟩ := h
    refine q_ist X Y k53_ i54_ dX12_takes_38 (fun H locs Y => ?_)
    refine lv_aload_n hx hb dX12_takes_39 rfl (lv_at hl 0 rfl) ?_
    refine q_getP X Y kX12 94 rfl fl_X12_230 k41_ rfl dX12_takes_40 ?_
    refine lv_iload_n hx hb dX12_takes_43 rfl (lv_at hl 2 rfl) ?_
    refine lv_dup2_11 hx hb dX12_takes_44 rfl (q_cat _) ?_
    obtain ⟨a55_, e56_, h⟩ := h
    refine q_nn [.int x2] e56_ ?_
    obtain ⟨k57_, h⟩ := h
    obtain ⟨i58_, h⟩ := h
    refine q_ild X Y k57_ i58_ dX12_takes_45 ?_
    refine lv_iconst (v := 1) hx hb dX12_takes_46 (by decide) ?_
    refine lv_isub hx hb dX12_takes_47 ?_
    refine q_nn [.int ((q_A (qs_A S a51_ (((32 : Int32) * x1) + (11 : Int32)).toNatClampNeg (q_A S a47_ ((16 : Int32) * x2).toNatClampNeg)) a55_ x2.toNatClampNeg) - (1 : Int32)), .int x2] e56_ ?_
    obtain ⟨i59_, h⟩ := h
    refine q_ist X Y k57_ i59_ dX12_takes_48 (fun H locs Y => ?_)
    obtain ⟨S60_, gS60_⟩ : ∃ z : q_S, z = (qs_A (qs_A S a51_ (((32 : Int32) * x1) + (11 : Int32)).toNatClampNeg (q_A S a47_ ((16 : Int32) * x2).toNatClampNeg)) a55_ x2.toNatClampNeg ((q_A (qs_A S a51_ (((32 : Int32) * x1) + (11 : Int32)).toNatClampNeg (q_A S a47_ ((16 : Int32) * x2).toNatClampNeg)) a55_ x2.toNatClampNeg) - (1 : Int32))) := ⟨_, rfl⟩
    replace Y : q_Y D cy lo s S60_ H locs := by rw [gS60_]; exact Y
    replace h := h S60_ gS60_
    replace k41_ : q_K S60_ a0 = 13 := by rw [gS60_]; exact k41_
    replace k44_ : q_K S60_ a42_ = 21 := by rw [gS60_]; exact k44_
    replace k49_ : q_K S60_ a47_ = 21 := by rw [gS60_]; exact k49_
    replace k53_ : q_K S60_ a51_ = 21 := by rw [gS60_]; exact k53_
    replace k57_ : q_K S60_ a55_ = 21 := by rw [gS60_]; exact k57_
    refine lv_iconst (v := 0) hx hb dX12_takes_49 (by decide) ?_
    refine lv_istore (i := 4) (lv' := [(4, .int (0 : Int32)), (0, .ref a0), (1, .int x1), (2, .int x2), (3, .int x3)]) hx hb dX12_takes_50 hl (by decide) (by first | rfl | simp [q_cat, q_catI, q_catJ, q_catR]) (fun ls hl => ?_)
    obtain ⟨n61_, h⟩ := h
    exact cl_X12_takes_52 X n61_ _ _ _ _ _ _ _ h Y (lv_sub hl [1, 3, 0] rfl)
  · replace h := h.2 c46_
    refine lv_aload_n hx hb dX12_takes_9 rfl (lv_at hl 0 rfl) ?_
    refine lv_iload_n hx hb dX12_takes_10 rfl (lv_at hl 1 rfl) ?_
    refine lv_iconst (v := 3) hx hb dX12_takes_11 (by decide) ?_
    refine lv_iload_n hx hb dX12_takes_12 rfl (lv_at hl 2 rfl) ?_
    refine lv_iload_n hx hb dX12_takes_13 rfl (lv_at hl 3 rfl) ?_
    refine q_callV X Y hl (cm_X12_waits h) mt_X12_waits mi_X12_waits ml_X12_622 (ci := 12) rfl k41_ (by decide) rfl rfl (by first | exact Nat.le_of_ble_eq_true rfl | simp [q_cat, q_catI, q_catJ, q_catR]) ⟨Nat.le_of_ble_eq_true rfl, Nat.le_of_ble_eq_true rfl⟩ ⟨Nat.le_of_ble_eq_true rfl, Nat.le_of_ble_eq_true rfl⟩ dX12_takes_14 (fun r62_ S63_ H locs hp Y => ?_)
    obtain ⟨x64_, rfl, h⟩ := hp
    refine W.eq (g2 := F0 m 17 ls [.int x64_]) rfl ?_
    exact q_iret X Y rfl (Nat.le_refl _) (Nat.le_refl _) h dX12_takes_17
-- X12_ofThings
theorem ml_X12_626 : Cond.methodLink RX12 626 yX12_allGet ∈ q_G := q_tb (i := 2421) (by decide +kernel) (by decide +kernel)
theorem mt_X12_allGet : q_Mt yX12_allGet cX12_allGet 7 none 5 := ⟨q_tb (i := 2424) (by decide +kernel) (by decide +kernel), q_tb (i := 11) (by decide +kernel) (by decide +kernel), by decide +kernel, by decide +kernel, by decide +kernel⟩
theorem mi_X12_allGet : Cond.instanceMethod yX12_allGet ∈ q_G ∧ Cond.selects yX12_allGet.cls yX12_allGet yX12_allGet ∈ q_G := ⟨q_tb (i := 2423) (by decide +kernel) (by decide +kernel), q_tp (i := 161) (q := (yX12_allGet, 114)) (by decide +kernel) (by decide +kernel)⟩
theorem ml_X12_630 : Cond.methodLink RX12 630 yX12_puts ∈ q_G := q_tb (i := 2425) (by decide +kernel) (by decide +kernel)
theorem mt_X12_puts : q_Mt yX12_puts cX12_puts 7 (some .int) 4 := ⟨q_tb (i := 2428) (by decide +kernel) (by decide +kernel), q_tb (i := 11) (by decide +kernel) (by decide +kernel), by decide +kernel, by decide +kernel, by decide +kernel⟩
theorem mi_X12_puts : Cond.instanceMethod yX12_puts ∈ q_G ∧ Cond.selects yX12_puts.cls yX12_puts yX12_puts ∈ q_G := ⟨q_tb (i := 2427) (by decide +kernel) (by decide +kernel), q_tp (i := 162) (q := (yX12_puts, 114)) (by decide +kernel) (by decide +kernel)⟩
theorem ml_X12_633 : Cond.methodLink RX12 633 yX12_takes ∈ q_G := q_tb (i := 2429) (by decide +kernel) (by decide +kernel)
theorem mt_X12_takes : q_Mt yX12_takes cX12_takes 5 (some .int) 3 := ⟨q_tb (i := 2432) (by decide +kernel) (by decide +kernel), q_tb (i := 11) (by decide +kernel) (by decide +kernel), by decide +kernel, by decide +kernel, by decide +kernel⟩
theorem mi_X12_takes : Cond.instanceMethod yX12_takes ∈ q_G ∧ Cond.selects yX12_takes.cls yX12_takes yX12_takes ∈ q_G := ⟨q_tb (i := 2431) (by decide +kernel) (by decide +kernel), q_tp (i := 163) (q := (yX12_takes, 114)) (by decide +kernel) (by decide +kernel)⟩
theorem ml_X12_619 : Cond.methodLink RX12 619 yX12_isTime ∈ q_G := q_tb (i := 2413) (by decide +kernel) (by decide +kernel)
theorem mt_X12_isTime : q_Mt yX12_isTime cX12_isTime 2 (some .boolean) 1 := ⟨q_tb (i := 2416) (by decide +kernel) (by decide +kernel), q_tb (i := 11) (by decide +kernel) (by decide +kernel), by decide +kernel, by decide +kernel, by decide +kernel⟩
theorem mi_X12_isTime : Cond.instanceMethod yX12_isTime ∈ q_G ∧ Cond.selects yX12_isTime.cls yX12_isTime yX12_isTime ∈ q_G := ⟨q_tb (i := 2415) (by decide +kernel) (by decide +kernel), q_tp (i := 159) (q := (yX12_isTime, 114)) (by decide +kernel) (by decide +kernel)⟩
theorem ml_X12_616 : Cond.methodLink RX12 616 yX12_isThing ∈ q_G := q_tb (i := 2409) (by decide +kernel) (by decide +kernel)
theorem mt_X12_isThing : q_Mt yX12_isThing cX12_isThing 4 (some .boolean) 3 := ⟨q_tb (i := 2412) (by decide +kernel) (by decide +kernel), q_tb (i := 11) (by decide +kernel) (by decide +kernel), by decide +kernel, by decide +kernel, by decide +kernel⟩
theorem mi_X12_isThing : Cond.instanceMethod yX12_isThing ∈ q_G ∧ Cond.selects yX12_isThing.cls yX12_isThing yX12_isThing ∈ q_G := ⟨q_tb (i := 2411) (by decide +kernel) (by decide +kernel), q_tp (i := 158) (q := (yX12_isThing, 114)) (by decide +kernel) (by decide +kernel)⟩
theorem dX12_ofThings_0 : decode cX12_ofThings 0 = .ok (.iload_n 1, 1) := by decide +kernel
theorem dX12_ofThings_1 : decode cX12_ofThings 1 = .ok (.bipush 10, 2) := by decide +kernel
theorem dX12_ofThings_3 : decode cX12_ofThings 3 = .ok (.if_icmp .ge 7, 3) := by decide +kernel
theorem dX12_ofThings_6 : decode cX12_ofThings 6 = .ok (.iconst 0, 1) := by decide +kernel
theorem dX12_ofThings_7 : decode cX12_ofThings 7 = .ok (.goto 24, 3) := by decide +kernel
theorem dX12_ofThings_10 : decode cX12_ofThings 10 = .ok (.iload_n 1, 1) := by decide +kernel
theorem dX12_ofThings_11 : decode cX12_ofThings 11 = .ok (.bipush 13, 2) := by decide +kernel
theorem dX12_ofThings_13 : decode cX12_ofThings 13 = .ok (.if_icmp .ge 7, 3) := by decide +kernel
theorem dX12_ofThings_16 : decode cX12_ofThings 16 = .ok (.iconst 1, 1) := by decide +kernel
theorem dX12_ofThings_17 : decode cX12_ofThings 17 = .ok (.goto 14, 3) := by decide +kernel
theorem dX12_ofThings_20 : decode cX12_ofThings 20 = .ok (.iload_n 1, 1) := by decide +kernel
theorem dX12_ofThings_21 : decode cX12_ofThings 21 = .ok (.bipush 15, 2) := by decide +kernel
theorem dX12_ofThings_23 : decode cX12_ofThings 23 = .ok (.if_icmp .ge 7, 3) := by decide +kernel
theorem dX12_ofThings_26 : decode cX12_ofThings 26 = .ok (.iconst 2, 1) := by decide +kernel
theorem dX12_ofThings_27 : decode cX12_ofThings 27 = .ok (.goto 4, 3) := by decide +kernel
theorem dX12_ofThings_30 : decode cX12_ofThings 30 = .ok (.iconst 3, 1) := by decide +kernel
theorem dX12_ofThings_31 : decode cX12_ofThings 31 = .ok (.istore 7, 2) := by decide +kernel
theorem dX12_ofThings_33 : decode cX12_ofThings 33 = .ok (.aload_n 0, 1) := by decide +kernel
theorem dX12_ofThings_34 : decode cX12_ofThings 34 = .ok (.iload_n 2, 1) := by decide +kernel
theorem dX12_ofThings_35 : decode cX12_ofThings 35 = .ok (.iload 7, 2) := by decide +kernel
theorem dX12_ofThings_37 : decode cX12_ofThings 37 = .ok (.iload 4, 2) := by decide +kernel
theorem dX12_ofThings_39 : decode cX12_ofThings 39 = .ok (.invokevirtual 616, 3) := by decide +kernel
theorem dX12_ofThings_42 : decode cX12_ofThings 42 = .ok (.ifCond .ne 5, 3) := by decide +kernel
theorem dX12_ofThings_45 : decode cX12_ofThings 45 = .ok (.iconst 1, 1) := by decide +kernel
theorem dX12_ofThings_46 : decode cX12_ofThings 46 = .ok (.ireturn, 1) := by decide +kernel
theorem dX12_ofThings_47 : decode cX12_ofThings 47 = .ok (.bipush 8, 2) := by decide +kernel
theorem dX12_ofThings_49 : decode cX12_ofThings 49 = .ok (.iload_n 2, 1) := by decide +kernel
theorem dX12_ofThings_50 : decode cX12_ofThings 50 = .ok (.imul, 1) := by decide +kernel
theorem dX12_ofThings_51 : decode cX12_ofThings 51 = .ok (.iload 4, 2) := by decide +kernel
theorem dX12_ofThings_53 : decode cX12_ofThings 53 = .ok (.iadd, 1) := by decide +kernel
theorem dX12_ofThings_54 : decode cX12_ofThings 54 = .ok (.istore 8, 2) := by decide +kernel
theorem dX12_ofThings_56 : decode cX12_ofThings 56 = .ok (.iload_n 1, 1) := by decide +kernel
theorem dX12_ofThings_57 : decode cX12_ofThings 57 = .ok (.bipush 13, 2) := by decide +kernel
theorem dX12_ofThings_59 : decode cX12_ofThings 59 = .ok (.if_icmp .ne 8, 3) := by decide +kernel
theorem dX12_ofThings_62 : decode cX12_ofThings 62 = .ok (.iload 6, 2) := by decide +kernel
theorem dX12_ofThings_64 : decode cX12_ofThings 64 = .ok (.goto 5, 3) := by decide +kernel
theorem dX12_ofThings_67 : decode cX12_ofThings 67 = .ok (.iload 5, 2) := by decide +kernel
theorem dX12_ofThings_69 : decode cX12_ofThings 69 = .ok (.istore 9, 2) := by decide +kernel
theorem dX12_ofThings_71 : decode cX12_ofThings 71 = .ok (.iload_n 1, 1) := by decide +kernel
theorem dX12_ofThings_72 : decode cX12_ofThings 72 = .ok (.bipush 8, 2) := by decide +kernel
theorem dX12_ofThings_74 : decode cX12_ofThings 74 = .ok (.if_icmp .eq 27, 3) := by decide +kernel
theorem dX12_ofThings_77 : decode cX12_ofThings 77 = .ok (.iload_n 1, 1) := by decide +kernel
theorem dX12_ofThings_78 : decode cX12_ofThings 78 = .ok (.bipush 12, 2) := by decide +kernel
theorem dX12_ofThings_80 : decode cX12_ofThings 80 = .ok (.if_icmp .eq 21, 3) := by decide +kernel
theorem dX12_ofThings_83 : decode cX12_ofThings 83 = .ok (.iload_n 1, 1) := by decide +kernel
theorem dX12_ofThings_84 : decode cX12_ofThings 84 = .ok (.bipush 13, 2) := by decide +kernel
theorem dX12_ofThings_86 : decode cX12_ofThings 86 = .ok (.if_icmp .eq 15, 3) := by decide +kernel
theorem dX12_ofThings_89 : decode cX12_ofThings 89 = .ok (.iload_n 1, 1) := by decide +kernel
theorem dX12_ofThings_90 : decode cX12_ofThings 90 = .ok (.bipush 14, 2) := by decide +kernel
theorem dX12_ofThings_92 : decode cX12_ofThings 92 = .ok (.if_icmp .eq 9, 3) := by decide +kernel
theorem dX12_ofThings_95 : decode cX12_ofThings 95 = .ok (.iload_n 1, 1) := by decide +kernel
theorem dX12_ofThings_96 : decode cX12_ofThings 96 = .ok (.bipush 17, 2) := by decide +kernel
theorem dX12_ofThings_98 : decode cX12_ofThings 98 = .ok (.if_icmp .ne 7, 3) := by decide +kernel
theorem dX12_ofThings_101 : decode cX12_ofThings 101 = .ok (.iconst 1, 1) := by decide +kernel
theorem dX12_ofThings_102 : decode cX12_ofThings 102 = .ok (.goto 4, 3) := by decide +kernel
theorem dX12_ofThings_105 : decode cX12_ofThings 105 = .ok (.iconst 0, 1) := by decide +kernel
theorem dX12_ofThings_106 : decode cX12_ofThings 106 = .ok (.istore 10, 2) := by decide +kernel
theorem dX12_ofThings_108 : decode cX12_ofThings 108 = .ok (.iload 10, 2) := by decide +kernel
theorem dX12_ofThings_110 : decode cX12_ofThings 110 = .ok (.ifCond .eq 14, 3) := by decide +kernel
theorem dX12_ofThings_113 : decode cX12_ofThings 113 = .ok (.aload_n 0, 1) := by decide +kernel
theorem dX12_ofThings_114 : decode cX12_ofThings 114 = .ok (.iload 9, 2) := by decide +kernel
theorem dX12_ofThings_116 : decode cX12_ofThings 116 = .ok (.invokevirtual 619, 3) := by decide +kernel
theorem dX12_ofThings_119 : decode cX12_ofThings 119 = .ok (.ifCond .ne 5, 3) := by decide +kernel
theorem dX12_ofThings_122 : decode cX12_ofThings 122 = .ok (.iconst 1, 1) := by decide +kernel
theorem dX12_ofThings_123 : decode cX12_ofThings 123 = .ok (.ireturn, 1) := by decide +kernel
theorem dX12_ofThings_124 : decode cX12_ofThings 124 = .ok (.iload_n 1, 1) := by decide +kernel
theorem dX12_ofThings_125 : decode cX12_ofThings 125 = .ok (.tableswitch 265 8 16 #[51, 85, 148, 168, 178, 203, 215, 225, 255], 51) := by decide +kernel
theorem dX12_ofThings_176 : decode cX12_ofThings 176 = .ok (.aload_n 0, 1) := by decide +kernel
theorem dX12_ofThings_177 : decode cX12_ofThings 177 = .ok (.getfield 224, 3) := by decide +kernel
theorem dX12_ofThings_180 : decode cX12_ofThings 180 = .ok (.iload 8, 2) := by decide +kernel
theorem dX12_ofThings_182 : decode cX12_ofThings 182 = .ok (.iaload, 1) := by decide +kernel
theorem dX12_ofThings_183 : decode cX12_ofThings 183 = .ok (.ifCond .ne 14, 3) := by decide +kernel
theorem dX12_ofThings_186 : decode cX12_ofThings 186 = .ok (.aload_n 0, 1) := by decide +kernel
theorem dX12_ofThings_187 : decode cX12_ofThings 187 = .ok (.iload_n 3, 1) := by decide +kernel
theorem dX12_ofThings_188 : decode cX12_ofThings 188 = .ok (.iconst 1, 1) := by decide +kernel
theorem dX12_ofThings_189 : decode cX12_ofThings 189 = .ok (.iload 8, 2) := by decide +kernel
theorem dX12_ofThings_191 : decode cX12_ofThings 191 = .ok (.iload 9, 2) := by decide +kernel
theorem dX12_ofThings_193 : decode cX12_ofThings 193 = .ok (.invokevirtual 622, 3) := by decide +kernel
theorem dX12_ofThings_196 : decode cX12_ofThings 196 = .ok (.ireturn, 1) := by decide +kernel
theorem dX12_ofThings_197 : decode cX12_ofThings 197 = .ok (.aload_n 0, 1) := by decide +kernel
theorem dX12_ofThings_198 : decode cX12_ofThings 198 = .ok (.getfield 224, 3) := by decide +kernel
theorem dX12_ofThings_201 : decode cX12_ofThings 201 = .ok (.iload 8, 2) := by decide +kernel
theorem dX12_ofThings_203 : decode cX12_ofThings 203 = .ok (.dup2, 1) := by decide +kernel
theorem dX12_ofThings_204 : decode cX12_ofThings 204 = .ok (.iaload, 1) := by decide +kernel
theorem dX12_ofThings_205 : decode cX12_ofThings 205 = .ok (.iconst 1, 1) := by decide +kernel
theorem dX12_ofThings_206 : decode cX12_ofThings 206 = .ok (.isub, 1) := by decide +kernel
theorem dX12_ofThings_207 : decode cX12_ofThings 207 = .ok (.iastore, 1) := by decide +kernel
theorem dX12_ofThings_208 : decode cX12_ofThings 208 = .ok (.iconst 0, 1) := by decide +kernel
theorem dX12_ofThings_209 : decode cX12_ofThings 209 = .ok (.ireturn, 1) := by decide +kernel
theorem dX12_ofThings_210 : decode cX12_ofThings 210 = .ok (.aload_n 0, 1) := by decide +kernel
theorem dX12_ofThings_211 : decode cX12_ofThings 211 = .ok (.iconst 1, 1) := by decide +kernel
theorem dX12_ofThings_212 : decode cX12_ofThings 212 = .ok (.iload 8, 2) := by decide +kernel
theorem dX12_ofThings_214 : decode cX12_ofThings 214 = .ok (.aload_n 0, 1) := by decide +kernel
theorem dX12_ofThings_215 : decode cX12_ofThings 215 = .ok (.getfield 91, 3) := by decide +kernel
theorem dX12_ofThings_218 : decode cX12_ofThings 218 = .ok (.iload 8, 2) := by decide +kernel
theorem dX12_ofThings_220 : decode cX12_ofThings 220 = .ok (.baload, 1) := by decide +kernel
theorem dX12_ofThings_221 : decode cX12_ofThings 221 = .ok (.invokevirtual 540, 3) := by decide +kernel
theorem dX12_ofThings_224 : decode cX12_ofThings 224 = .ok (.istore 11, 2) := by decide +kernel
theorem dX12_ofThings_226 : decode cX12_ofThings 226 = .ok (.iload 11, 2) := by decide +kernel
theorem dX12_ofThings_228 : decode cX12_ofThings 228 = .ok (.iconst (-1), 1) := by decide +kernel
theorem dX12_ofThings_229 : decode cX12_ofThings 229 = .ok (.if_icmp .eq 12, 3) := by decide +kernel
theorem dX12_ofThings_232 : decode cX12_ofThings 232 = .ok (.aload_n 0, 1) := by decide +kernel
theorem dX12_ofThings_233 : decode cX12_ofThings 233 = .ok (.iload 11, 2) := by decide +kernel
theorem dX12_ofThings_235 : decode cX12_ofThings 235 = .ok (.invokevirtual 543, 3) := by decide +kernel
theorem dX12_ofThings_238 : decode cX12_ofThings 238 = .ok (.goto 33, 3) := by decide +kernel
theorem dX12_ofThings_241 : decode cX12_ofThings 241 = .ok (.aload_n 0, 1) := by decide +kernel
theorem dX12_ofThings_242 : decode cX12_ofThings 242 = .ok (.getfield 224, 3) := by decide +kernel
theorem dX12_ofThings_245 : decode cX12_ofThings 245 = .ok (.iload 8, 2) := by decide +kernel
theorem dX12_ofThings_247 : decode cX12_ofThings 247 = .ok (.iaload, 1) := by decide +kernel
theorem dX12_ofThings_248 : decode cX12_ofThings 248 = .ok (.aload_n 0, 1) := by decide +kernel
theorem dX12_ofThings_249 : decode cX12_ofThings 249 = .ok (.getfield 88, 3) := by decide +kernel
theorem dX12_ofThings_252 : decode cX12_ofThings 252 = .ok (.iload 8, 2) := by decide +kernel
theorem dX12_ofThings_254 : decode cX12_ofThings 254 = .ok (.iaload, 1) := by decide +kernel
theorem dX12_ofThings_255 : decode cX12_ofThings 255 = .ok (.if_icmp .ne 5, 3) := by decide +kernel
theorem dX12_ofThings_258 : decode cX12_ofThings 258 = .ok (.iconst 2, 1) := by decide +kernel
theorem dX12_ofThings_259 : decode cX12_ofThings 259 = .ok (.ireturn, 1) := by decide +kernel
theorem dX12_ofThings_260 : decode cX12_ofThings 260 = .ok (.aload_n 0, 1) := by decide +kernel
theorem dX12_ofThings_261 : decode cX12_ofThings 261 = .ok (.getfield 224, 3) := by decide +kernel
theorem dX12_ofThings_264 : decode cX12_ofThings 264 = .ok (.iload 8, 2) := by decide +kernel
theorem dX12_ofThings_266 : decode cX12_ofThings 266 = .ok (.dup2, 1) := by decide +kernel
theorem dX12_ofThings_267 : decode cX12_ofThings 267 = .ok (.iaload, 1) := by decide +kernel
theorem dX12_ofThings_268 : decode cX12_ofThings 268 = .ok (.iconst 1, 1) := by decide +kernel
theorem dX12_ofThings_269 : decode cX12_ofThings 269 = .ok (.iadd, 1) := by decide +kernel
theorem dX12_ofThings_270 : decode cX12_ofThings 270 = .ok (.iastore, 1) := by decide +kernel
theorem dX12_ofThings_271 : decode cX12_ofThings 271 = .ok (.iconst 0, 1) := by decide +kernel
theorem dX12_ofThings_272 : decode cX12_ofThings 272 = .ok (.ireturn, 1) := by decide +kernel
theorem dX12_ofThings_273 : decode cX12_ofThings 273 = .ok (.aload_n 0, 1) := by decide +kernel
theorem dX12_ofThings_274 : decode cX12_ofThings 274 = .ok (.getfield 227, 3) := by decide +kernel
theorem dX12_ofThings_277 : decode cX12_ofThings 277 = .ok (.iload 8, 2) := by decide +kernel
theorem dX12_ofThings_279 : decode cX12_ofThings 279 = .ok (.iconst 1, 1) := by decide +kernel
theorem dX12_ofThings_280 : decode cX12_ofThings 280 = .ok (.bastore, 1) := by decide +kernel
theorem dX12_ofThings_281 : decode cX12_ofThings 281 = .ok (.aload_n 0, 1) := by decide +kernel
theorem dX12_ofThings_282 : decode cX12_ofThings 282 = .ok (.iload_n 2, 1) := by decide +kernel
theorem dX12_ofThings_283 : decode cX12_ofThings 283 = .ok (.iconst 2, 1) := by decide +kernel
theorem dX12_ofThings_284 : decode cX12_ofThings 284 = .ok (.iload 8, 2) := by decide +kernel
theorem dX12_ofThings_286 : decode cX12_ofThings 286 = .ok (.iconst 0, 1) := by decide +kernel
theorem dX12_ofThings_287 : decode cX12_ofThings 287 = .ok (.iconst 0, 1) := by decide +kernel
theorem dX12_ofThings_288 : decode cX12_ofThings 288 = .ok (.invokevirtual 626, 3) := by decide +kernel
theorem dX12_ofThings_291 : decode cX12_ofThings 291 = .ok (.iconst 0, 1) := by decide +kernel
theorem dX12_ofThings_292 : decode cX12_ofThings 292 = .ok (.ireturn, 1) := by decide +kernel
theorem dX12_ofThings_293 : decode cX12_ofThings 293 = .ok (.aload_n 0, 1) := by decide +kernel
theorem dX12_ofThings_294 : decode cX12_ofThings 294 = .ok (.getfield 227, 3) := by decide +kernel
theorem dX12_ofThings_297 : decode cX12_ofThings 297 = .ok (.iload 8, 2) := by decide +kernel
theorem dX12_ofThings_299 : decode cX12_ofThings 299 = .ok (.iconst 0, 1) := by decide +kernel
theorem dX12_ofThings_300 : decode cX12_ofThings 300 = .ok (.bastore, 1) := by decide +kernel
theorem dX12_ofThings_301 : decode cX12_ofThings 301 = .ok (.iconst 0, 1) := by decide +kernel
theorem dX12_ofThings_302 : decode cX12_ofThings 302 = .ok (.ireturn, 1) := by decide +kernel
theorem dX12_ofThings_303 : decode cX12_ofThings 303 = .ok (.aload_n 0, 1) := by decide +kernel
theorem dX12_ofThings_304 : decode cX12_ofThings 304 = .ok (.getfield 227, 3) := by decide +kernel
theorem dX12_ofThings_307 : decode cX12_ofThings 307 = .ok (.iload 8, 2) := by decide +kernel
theorem dX12_ofThings_309 : decode cX12_ofThings 309 = .ok (.baload, 1) := by decide +kernel
theorem dX12_ofThings_310 : decode cX12_ofThings 310 = .ok (.ifCond .eq 7, 3) := by decide +kernel
theorem dX12_ofThings_313 : decode cX12_ofThings 313 = .ok (.iconst 0, 1) := by decide +kernel
theorem dX12_ofThings_314 : decode cX12_ofThings 314 = .ok (.goto 13, 3) := by decide +kernel
theorem dX12_ofThings_317 : decode cX12_ofThings 317 = .ok (.aload_n 0, 1) := by decide +kernel
theorem dX12_ofThings_318 : decode cX12_ofThings 318 = .ok (.iload_n 3, 1) := by decide +kernel
theorem dX12_ofThings_319 : decode cX12_ofThings 319 = .ok (.iconst 2, 1) := by decide +kernel
theorem dX12_ofThings_320 : decode cX12_ofThings 320 = .ok (.iload 8, 2) := by decide +kernel
theorem dX12_ofThings_322 : decode cX12_ofThings 322 = .ok (.iload 9, 2) := by decide +kernel
theorem dX12_ofThings_324 : decode cX12_ofThings 324 = .ok (.invokevirtual 622, 3) := by decide +kernel
theorem dX12_ofThings_327 : decode cX12_ofThings 327 = .ok (.ireturn, 1) := by decide +kernel
theorem dX12_ofThings_328 : decode cX12_ofThings 328 = .ok (.aload_n 0, 1) := by decide +kernel
theorem dX12_ofThings_329 : decode cX12_ofThings 329 = .ok (.iload_n 3, 1) := by decide +kernel
theorem dX12_ofThings_330 : decode cX12_ofThings 330 = .ok (.iload 8, 2) := by decide +kernel
theorem dX12_ofThings_332 : decode cX12_ofThings 332 = .ok (.iload 5, 2) := by decide +kernel
theorem dX12_ofThings_334 : decode cX12_ofThings 334 = .ok (.iload 9, 2) := by decide +kernel
theorem dX12_ofThings_336 : decode cX12_ofThings 336 = .ok (.invokevirtual 630, 3) := by decide +kernel
theorem dX12_ofThings_339 : decode cX12_ofThings 339 = .ok (.ireturn, 1) := by decide +kernel
theorem dX12_ofThings_340 : decode cX12_ofThings 340 = .ok (.aload_n 0, 1) := by decide +kernel
theorem dX12_ofThings_341 : decode cX12_ofThings 341 = .ok (.iload_n 3, 1) := by decide +kernel
theorem dX12_ofThings_342 : decode cX12_ofThings 342 = .ok (.iload 8, 2) := by decide +kernel
theorem dX12_ofThings_344 : decode cX12_ofThings 344 = .ok (.iload 9, 2) := by decide +kernel
theorem dX12_ofThings_346 : decode cX12_ofThings 346 = .ok (.invokevirtual 633, 3) := by decide +kernel
theorem dX12_ofThings_349 : decode cX12_ofThings 349 = .ok (.ireturn, 1) := by decide +kernel
theorem dX12_ofThings_350 : decode cX12_ofThings 350 = .ok (.aload_n 0, 1) := by decide +kernel
theorem dX12_ofThings_351 : decode cX12_ofThings 351 = .ok (.getfield 236, 3) := by decide +kernel
theorem dX12_ofThings_354 : decode cX12_ofThings 354 = .ok (.iload 8, 2) := by decide +kernel
theorem dX12_ofThings_356 : decode cX12_ofThings 356 = .ok (.iconst 1, 1) := by decide +kernel
theorem dX12_ofThings_357 : decode cX12_ofThings 357 = .ok (.bastore, 1) := by decide +kernel
theorem dX12_ofThings_358 : decode cX12_ofThings 358 = .ok (.aload_n 0, 1) := by decide +kernel
theorem dX12_ofThings_359 : decode cX12_ofThings 359 = .ok (.getfield 239, 3) := by decide +kernel
theorem dX12_ofThings_362 : decode cX12_ofThings 362 = .ok (.iload 8, 2) := by decide +kernel
theorem dX12_ofThings_364 : decode cX12_ofThings 364 = .ok (.iload 5, 2) := by decide +kernel
theorem dX12_ofThings_366 : decode cX12_ofThings 366 = .ok (.iastore, 1) := by decide +kernel
theorem dX12_ofThings_367 : decode cX12_ofThings 367 = .ok (.aload_n 0, 1) := by decide +kernel
theorem dX12_ofThings_368 : decode cX12_ofThings 368 = .ok (.iload_n 2, 1) := by decide +kernel
theorem dX12_ofThings_369 : decode cX12_ofThings 369 = .ok (.iconst 5, 1) := by decide +kernel
theorem dX12_ofThings_370 : decode cX12_ofThings 370 = .ok (.iload 8, 2) := by decide +kernel
theorem dX12_ofThings_372 : decode cX12_ofThings 372 = .ok (.iconst 1, 1) := by decide +kernel
theorem dX12_ofThings_373 : decode cX12_ofThings 373 = .ok (.iload 5, 2) := by decide +kernel
theorem dX12_ofThings_375 : decode cX12_ofThings 375 = .ok (.invokevirtual 626, 3) := by decide +kernel
theorem dX12_ofThings_378 : decode cX12_ofThings 378 = .ok (.iconst 0, 1) := by decide +kernel
theorem dX12_ofThings_379 : decode cX12_ofThings 379 = .ok (.ireturn, 1) := by decide +kernel
theorem dX12_ofThings_380 : decode cX12_ofThings 380 = .ok (.aload_n 0, 1) := by decide +kernel
theorem dX12_ofThings_381 : decode cX12_ofThings 381 = .ok (.getfield 236, 3) := by decide +kernel
theorem dX12_ofThings_384 : decode cX12_ofThings 384 = .ok (.iload 8, 2) := by decide +kernel
theorem dX12_ofThings_386 : decode cX12_ofThings 386 = .ok (.iconst 0, 1) := by decide +kernel
theorem dX12_ofThings_387 : decode cX12_ofThings 387 = .ok (.bastore, 1) := by decide +kernel
theorem dX12_ofThings_388 : decode cX12_ofThings 388 = .ok (.iconst 0, 1) := by decide +kernel
theorem dX12_ofThings_389 : decode cX12_ofThings 389 = .ok (.ireturn, 1) := by decide +kernel
theorem dX12_ofThings_390 : decode cX12_ofThings 390 = .ok (.aload_n 0, 1) := by decide +kernel
theorem dX12_ofThings_391 : decode cX12_ofThings 391 = .ok (.getfield 236, 3) := by decide +kernel
theorem dX12_ofThings_394 : decode cX12_ofThings 394 = .ok (.iload 8, 2) := by decide +kernel
theorem dX12_ofThings_396 : decode cX12_ofThings 396 = .ok (.baload, 1) := by decide +kernel
theorem dX12_ofThings_397 : decode cX12_ofThings 397 = .ok (.ifCond .ne 14, 3) := by decide +kernel
theorem dX12_ofThings_400 : decode cX12_ofThings 400 = .ok (.aload_n 0, 1) := by decide +kernel
theorem dX12_ofThings_401 : decode cX12_ofThings 401 = .ok (.iload_n 3, 1) := by decide +kernel
theorem dX12_ofThings_402 : decode cX12_ofThings 402 = .ok (.iconst 5, 1) := by decide +kernel
theorem dX12_ofThings_403 : decode cX12_ofThings 403 = .ok (.iload 8, 2) := by decide +kernel
theorem dX12_ofThings_405 : decode cX12_ofThings 405 = .ok (.iload 9, 2) := by decide +kernel
theorem dX12_ofThings_407 : decode cX12_ofThings 407 = .ok (.invokevirtual 622, 3) := by decide +kernel
theorem dX12_ofThings_410 : decode cX12_ofThings 410 = .ok (.ireturn, 1) := by decide +kernel
theorem dX12_ofThings_411 : decode cX12_ofThings 411 = .ok (.aload_n 0, 1) := by decide +kernel
theorem dX12_ofThings_412 : decode cX12_ofThings 412 = .ok (.getfield 179, 3) := by decide +kernel
theorem dX12_ofThings_415 : decode cX12_ofThings 415 = .ok (.bipush 32, 2) := by decide +kernel
theorem dX12_ofThings_417 : decode cX12_ofThings 417 = .ok (.iload_n 3, 1) := by decide +kernel
theorem dX12_ofThings_418 : decode cX12_ofThings 418 = .ok (.imul, 1) := by decide +kernel
theorem dX12_ofThings_419 : decode cX12_ofThings 419 = .ok (.bipush 11, 2) := by decide +kernel
theorem dX12_ofThings_421 : decode cX12_ofThings 421 = .ok (.iadd, 1) := by decide +kernel
theorem dX12_ofThings_422 : decode cX12_ofThings 422 = .ok (.aload_n 0, 1) := by decide +kernel
theorem dX12_ofThings_423 : decode cX12_ofThings 423 = .ok (.getfield 239, 3) := by decide +kernel
theorem dX12_ofThings_426 : decode cX12_ofThings 426 = .ok (.iload 8, 2) := by decide +kernel
theorem dX12_ofThings_428 : decode cX12_ofThings 428 = .ok (.iaload, 1) := by decide +kernel
theorem dX12_ofThings_429 : decode cX12_ofThings 429 = .ok (.iastore, 1) := by decide +kernel
theorem dX12_ofThings_430 : decode cX12_ofThings 430 = .ok (.iconst 0, 1) := by decide +kernel
theorem dX12_ofThings_431 : decode cX12_ofThings 431 = .ok (.ireturn, 1) := by decide +kernel
def wb_X12_ofThings_327  (S : q_S) (xs0 : Int32) (Q : Option Value → q_S → Prop) : Prop := Q (some (.int xs0)) S
set_option maxHeartbeats 4000000 in
set_option maxRecDepth 100000 in
theorem cb_X12_ofThings_327 {p : Program} {l : Launch} {e : Env} {s : State} {m : MethodId} {args : Array Value} {below : List Frame} {meth : Method} {c : Code} {D : va_G} {cy : Nat → ClassId} {lo : Nat}  {S : q_S} {xs0 : Int32} {Q : Option Value → q_S → Prop} {H : Heap} {locs : List Loc} {ls : Array Slot} (X : q_X p s m args meth c RX12 cX12_ofThings 12 (some .int) D cy lo)  (Y : q_Y D cy lo s S H locs) (hl : lv_has ls 12 []) (h : wb_X12_ofThings_327 S xs0 Q) : W p l e ({ frames := 4, cells := 0, slots := 0, locals := 92 } : Room) s m args below meth c H locs 0 0 (MQ below (q_Q D cy lo Q) args s 0 0 (fun q => lo ≤ q)) (F0 m 327 ls [.int xs0]) := by
  have hx := X.1
  have hb := X.2.1
  unfold wb_X12_ofThings_327 at h
  exact q_iret X Y rfl (Nat.le_refl _) (Nat.le_refl _) h dX12_ofThings_327
def wb_X12_ofThings_271  (S : q_S) (Q : Option Value → q_S → Prop) : Prop := Q (some (.int (0 : Int32))) S
set_option maxHeartbeats 4000000 in
set_option maxRecDepth 100000 in
theorem cb_X12_ofThings_271 {p : Program} {l : Launch} {e : Env} {s : State} {m : MethodId} {args : Array Value} {below : List Frame} {meth : Method} {c : Code} {D : va_G} {cy : Nat → ClassId} {lo : Nat}  {S : q_S} {Q : Option Value → q_S → Prop} {H : Heap} {locs : List Loc} {ls : Array Slot} (X : q_X p s m args meth c RX12 cX12_ofThings 12 (some .int) D cy lo)  (Y : q_Y D cy lo s S H locs) (hl : lv_has ls 12 []) (h : wb_X12_ofThings_271 S Q) : W p l e ({ frames := 4, cells := 0, slots := 0, locals := 92 } : Room) s m args below meth c H locs 0 0 (MQ below (q_Q D cy lo Q) args s 0 0 (fun q => lo ≤ q)) (F0 m 271 ls []) := by
  have hx := X.1
  have hb := X.2.1
  unfold wb_X12_ofThings_271 at h
  refine lv_iconst (v := 0) hx hb dX12_ofThings_271 (by decide) ?_
  exact q_iret X Y rfl (Nat.le_refl _) (Nat.le_refl _) h dX12_ofThings_272
def wb_X12_ofThings_124  (S : q_S) (a0 : Nat) (x1 : Int32) (x2 : Int32) (x3 : Int32) (x5 : Int32) (x8 : Int32) (x9 : Int32) (Q : Option Value → q_S → Prop) : Prop := (((x1.toInt < 8 ∨ 16 < x1.toInt) → (q_K S a0 = 13 ∧ (∃ a2_ : Nat, (q_P S 2496 a0) = some a2_ ∧ (q_K S a2_ = 22 ∧ (vp_in x8 (q_N S a2_) ∧ (((¬ (q_A S a2_ x8.toNatClampNeg) = 0 → (∃ a7_ : Nat, (q_P S 2497 a0) = some a7_ ∧ (q_K S a7_ = 21 ∧ (vp_in x8 (q_N S a7_) ∧ (∃ a11_ : Nat, (q_P S 2477 a0) = some a11_ ∧ (q_K S a11_ = 21 ∧ (vp_in (((32 : Int32) * x3) + (11 : Int32)) (q_N S a11_) ∧ (Q (some (.int (0 : Int32))) (qs_A S a11_ (((32 : Int32) * x3) + (11 : Int32)).toNatClampNeg (q_A S a7_ x8.toNatClampNeg)))))))))) ∧ ((q_A S a2_ x8.toNatClampNeg) = 0 → (wm_X12_waits S a0 x3 (5 : Int32) x8 x9 (fun r15_ S16_ => ∃ x17_ : Int32, r15_ = some (.int x17_) ∧ (Q (some (.int x17_)) S16_))))))))))) ∧ ((x1 = (8 : Int32)) → (q_K S a0 = 13 ∧ (∃ a19_ : Nat, (q_P S 2492 a0) = some a19_ ∧ (q_K S a19_ = 21 ∧ (vp_in x8 (q_N S a19_) ∧ (((¬ (q_A S a19_ x8.toNatClampNeg) = 0 → (vp_in x8 (q_N S a19_) ∧ (vp_in x8 (q_N S a19_) ∧ (Q (some (.int (0 : Int32))) (qs_A S a19_ x8.toNatClampNeg ((q_A S a19_ x8.toNatClampNeg) - (1 : Int32))))))) ∧ ((q_A S a19_ x8.toNatClampNeg) = 0 → (wm_X12_waits S a0 x3 (1 : Int32) x8 x9 (fun r26_ S27_ => ∃ x28_ : Int32, r26_ = some (.int x28_) ∧ (Q (some (.int x28_)) S27_))))))))))) ∧ ((x1 = (9 : Int32)) → (q_K S a0 = 13 ∧ (∃ a30_ : Nat, (q_P S 2445 a0) = some a30_ ∧ (q_K S a30_ = 22 ∧ (vp_in x8 (q_N S a30_) ∧ (wm_X12_waiter S a0 (1 : Int32) x8 (q_A S a30_ x8.toNatClampNeg) (fun r34_ S35_ => ∃ x36_ : Int32, r34_ = some (.int x36_) ∧ (((x36_ = (-1 : Int32) → (q_K S35_ a0 = 13 ∧ (∃ a39_ : Nat, (q_P S35_ 2492 a0) = some a39_ ∧ (q_K S35_ a39_ = 21 ∧ (vp_in x8 (q_N S35_ a39_) ∧ (∃ a43_ : Nat, (q_P S35_ 2444 a0) = some a43_ ∧ (q_K S35_ a43_ = 21 ∧ (vp_in x8 (q_N S35_ a43_) ∧ (((¬ (q_A S35_ a39_ x8.toNatClampNeg) = (q_A S35_ a43_ x8.toNatClampNeg) → (vp_in x8 (q_N S35_ a39_) ∧ (vp_in x8 (q_N S35_ a39_) ∧ (wb_X12_ofThings_271 (qs_A S35_ a39_ x8.toNatClampNeg ((q_A S35_ a39_ x8.toNatClampNeg) + (1 : Int32))) Q)))) ∧ ((q_A S35_ a39_ x8.toNatClampNeg) = (q_A S35_ a43_ x8.toNatClampNeg) → (Q (some (.int (2 : Int32))) S35_)))))))))))) ∧ (¬ x36_ = (-1 : Int32) → (q_K S35_ a0 = 13 ∧ (wm_X12_gets S35_ a0 x36_ (fun r51_ S52_ => r51_ = none ∧ (wb_X12_ofThings_271 S52_ Q)))))))))))))) ∧ ((x1 = (10 : Int32)) → (q_K S a0 = 13 ∧ (∃ a54_ : Nat, (q_P S 2493 a0) = some a54_ ∧ (q_K S a54_ = 22 ∧ (vp_in x8 (q_N S a54_) ∧ (wm_X12_allGet (qs_A S a54_ x8.toNatClampNeg (vp_nar .boolean (1 : Int32))) a0 x2 (2 : Int32) x8 (0 : Int32) (0 : Int32) (fun r58_ S59_ => r58_ = none ∧ (Q (some (.int (0 : Int32))) S59_)))))))) ∧ ((x1 = (11 : Int32)) → (q_K S a0 = 13 ∧ (∃ a61_ : Nat, (q_P S 2493 a0) = some a61_ ∧ (q_K S a61_ = 22 ∧ (vp_in x8 (q_N S a61_) ∧ (Q (some (.int (0 : Int32))) (qs_A S a61_ x8.toNatClampNeg (vp_nar .boolean (0 : Int32))))))))) ∧ ((x1 = (12 : Int32)) → (q_K S a0 = 13 ∧ (∃ a66_ : Nat, (q_P S 2493 a0) = some a66_ ∧ (q_K S a66_ = 22 ∧ (vp_in x8 (q_N S a66_) ∧ ((((q_A S a66_ x8.toNatClampNeg) = 0 → (wm_X12_waits S a0 x3 (2 : Int32) x8 x9 (fun r71_ S72_ => ∃ x73_ : Int32, r71_ = some (.int x73_) ∧ (wb_X12_ofThings_327 S72_ x73_ Q)))) ∧ (¬ (q_A S a66_ x8.toNatClampNeg) = 0 → (wb_X12_ofThings_327 S (0 : Int32) Q))))))))) ∧ ((x1 = (13 : Int32)) → (q_K S a0 = 13 ∧ (wm_X12_puts S a0 x3 x8 x5 x9 (fun r75_ S76_ => ∃ x77_ : Int32, r75_ = some (.int x77_) ∧ (Q (some (.int x77_)) S76_))))) ∧ ((x1 = (14 : Int32)) → (q_K S a0 = 13 ∧ (wm_X12_takes S a0 x3 x8 x9 (fun r79_ S80_ => ∃ x81_ : Int32, r79_ = some (.int x81_) ∧ (Q (some (.int x81_)) S80_))))) ∧ ((x1 = (15 : Int32)) → (q_K S a0 = 13 ∧ (∃ a83_ : Nat, (q_P S 2496 a0) = some a83_ ∧ (q_K S a83_ = 22 ∧ (vp_in x8 (q_N S a83_) ∧ (∃ a87_ : Nat, (q_P (qs_A S a83_ x8.toNatClampNeg (vp_nar .boolean (1 : Int32))) 2497 a0) = some a87_ ∧ (q_K (qs_A S a83_ x8.toNatClampNeg (vp_nar .boolean (1 : Int32))) a87_ = 21 ∧ (vp_in x8 (q_N (qs_A S a83_ x8.toNatClampNeg (vp_nar .boolean (1 : Int32))) a87_) ∧ (wm_X12_allGet (qs_A (qs_A S a83_ x8.toNatClampNeg (vp_nar .boolean (1 : Int32))) a87_ x8.toNatClampNeg x5) a0 x2 (5 : Int32) x8 (1 : Int32) x5 (fun r91_ S92_ => r91_ = none ∧ (Q (some (.int (0 : Int32))) S92_))))))))))) ∧ ((x1 = (16 : Int32)) → (q_K S a0 = 13 ∧ (∃ a94_ : Nat, (q_P S 2496 a0) = some a94_ ∧ (q_K S a94_ = 22 ∧ (vp_in x8 (q_N S a94_) ∧ (Q (some (.int (0 : Int32))) (qs_A S a94_ x8.toNatClampNeg (vp_nar .boolean (0 : Int32))))))))))
set_option maxHeartbeats 4000000 in
set_option maxRecDepth 100000 in
theorem cb_X12_ofThings_124 {p : Program} {l : Launch} {e : Env} {s : State} {m : MethodId} {args : Array Value} {below : List Frame} {meth : Method} {c : Code} {D : va_G} {cy : Nat → ClassId} {lo : Nat}  {S : q_S} {a0 : Nat} {x1 : Int32} {x2 : Int32} {x3 : Int32} {x5 : Int32} {x8 : Int32} {x9 : Int32} {Q : Option Value → q_S → Prop} {H : Heap} {locs : List Loc} {ls : Array Slot} (X : q_X p s m args meth c RX12 cX12_ofThings 12 (some .int) D cy lo)  (Y : q_Y D cy lo s S H locs) (hl : lv_has ls 12 [(0, .ref a0), (1, .int x1), (2, .int x2), (3, .int x3), (5, .int x5), (8, .int x8), (9, .int x9)]) (h : wb_X12_ofThings_124 S a0 x1 x2 x3 x5 x8 x9 Q) : W p l e ({ frames := 4, cells := 0, slots := 0, locals := 92 } : Room) s m args below meth c H locs 0 0 (MQ below (q_Q D cy lo Q) args s 0 0 (fun q => lo ≤ q)) (F0 m 124 ls []) := by
  have hx := X.1
  have hb := X.2.1
  unfold wb_X12_ofThings_124 at h
  refine lv_iload_n hx hb dX12_ofThings_124 rfl (lv_at hl 1 rfl) ?_
  refine q_tsw (tgt := 390) hx hb dX12_ofThings_125 (by decide) (by decide) (fun c98_ => ?_) (fun j99_ hj_ c98_ => ?_)
  · replace h := h.1 c98_
    refine lv_aload_n hx hb dX12_ofThings_390 rfl (lv_at hl 0 rfl) ?_
    obtain ⟨k1_, h⟩ := h
    refine q_getP X Y kX12 96 rfl fl_X12_236 k1_ rfl dX12_ofThings_391 ?_
    refine lv_iload hx hb dX12_ofThings_394 (lv_at hl 5 rfl) ?_
    obtain ⟨a2_, e3_, h⟩ := h
    refine q_nn [.int x8] e3_ ?_
    obtain ⟨k4_, h⟩ := h
    obtain ⟨i5_, h⟩ := h
    refine q_zld X Y k4_ i5_ dX12_ofThings_396 ?_
    refine lv_if_ne (tgt := 411) hx hb dX12_ofThings_397 (by decide) (fun c6_ => ?_) (fun c6_ => ?_)
    · replace h := h.1 c6_
      refine lv_aload_n hx hb dX12_ofThings_411 rfl (lv_at hl 0 rfl) ?_
      refine q_getP X Y kX12 77 rfl fl_X12_179 k1_ rfl dX12_ofThings_412 ?_
      refine lv_bipush (v := 32) hx hb dX12_ofThings_415 (by decide) ?_
      refine lv_iload_n hx hb dX12_ofThings_417 rfl (lv_at hl 3 rfl) ?_
      refine lv_imul hx hb dX12_ofThings_418 ?_
      refine lv_bipush (v := 11) hx hb dX12_ofThings_419 (by decide) ?_
      refine lv_iadd hx hb dX12_ofThings_421 ?_
      refine lv_aload_n hx hb dX12_ofThings_422 rfl (lv_at hl 0 rfl) ?_
      refine q_getP X Y kX12 97 rfl fl_X12_239 k1_ rfl dX12_ofThings_423 ?_
      refine lv_iload hx hb dX12_ofThings_426 (lv_at hl 5 rfl) ?_
      obtain ⟨a7_, e8_, h⟩ := h
      refine q_nn [.int x8] e8_ ?_
      obtain ⟨k9_, h⟩ := h
      obtain ⟨i10_, h⟩ := h
      refine q_ild X Y k9_ i10_ dX12_ofThings_428 ?_
      obtain ⟨a11_, e12_, h⟩ := h
      refine q_nn [.int (q_A S a7_ x8.toNatClampNeg), .int (((32 : Int32) * x3) + (11 : Int32))] e12_ ?_
      obtain ⟨k13_, h⟩ := h
      obtain ⟨i14_, h⟩ := h
      refine q_ist X Y k13_ i14_ dX12_ofThings_429 (fun H locs Y => ?_)
      refine lv_iconst (v := 0) hx hb dX12_ofThings_430 (by decide) ?_
      exact q_iret X Y rfl (Nat.le_refl _) (Nat.le_refl _) h dX12_ofThings_431
    · replace h := h.2 c6_
      refine lv_aload_n hx hb dX12_ofThings_400 rfl (lv_at hl 0 rfl) ?_
      refine lv_iload_n hx hb dX12_ofThings_401 rfl (lv_at hl 3 rfl) ?_
      refine lv_iconst (v := 5) hx hb dX12_ofThings_402 (by decide) ?_
      refine lv_iload hx hb dX12_ofThings_403 (lv_at hl 5 rfl) ?_
      refine lv_iload hx hb dX12_ofThings_405 (lv_at hl 6 rfl) ?_
      refine q_callV X Y hl (cm_X12_waits h) mt_X12_waits mi_X12_waits ml_X12_622 (ci := 12) rfl k1_ (by decide) rfl rfl (by first | exact Nat.le_of_ble_eq_true rfl | simp [q_cat, q_catI, q_catJ, q_catR]) ⟨Nat.le_of_ble_eq_true rfl, Nat.le_of_ble_eq_true rfl⟩ ⟨Nat.le_of_ble_eq_true rfl, Nat.le_of_ble_eq_true rfl⟩ dX12_ofThings_407 (fun r15_ S16_ H locs hp Y => ?_)
      obtain ⟨x17_, rfl, h⟩ := hp
      refine W.eq (g2 := F0 m 410 ls [.int x17_]) rfl ?_
      exact q_iret X Y rfl (Nat.le_refl _) (Nat.le_refl _) h dX12_ofThings_410
  · match j99_, hj_, c98_ with
    | 0, _, c98_ =>
      refine ⟨51, 176, rfl, by decide, ?_⟩
      replace h := h.2.1 (q_eqI c98_ (by decide))
      refine lv_aload_n hx hb dX12_ofThings_176 rfl (lv_at hl 0 rfl) ?_
      obtain ⟨k18_, h⟩ := h
      refine q_getP X Y kX12 92 rfl fl_X12_224 k18_ rfl dX12_ofThings_177 ?_
      refine lv_iload hx hb dX12_ofThings_180 (lv_at hl 5 rfl) ?_
      obtain ⟨a19_, e20_, h⟩ := h
      refine q_nn [.int x8] e20_ ?_
      obtain ⟨k21_, h⟩ := h
      obtain ⟨i22_, h⟩ := h
      refine q_ild X Y k21_ i22_ dX12_ofThings_182 ?_
      refine lv_if_ne (tgt := 197) hx hb dX12_ofThings_183 (by decide) (fun c23_ => ?_) (fun c23_ => ?_)
      · replace h := h.1 c23_
        refine lv_aload_n hx hb dX12_ofThings_197 rfl (lv_at hl 0 rfl) ?_
        refine q_getR X Y kX12 92 rfl fl_X12_224 k18_ e20_ dX12_ofThings_198 ?_
        refine lv_iload hx hb dX12_ofThings_201 (lv_at hl 5 rfl) ?_
        refine lv_dup2_11 hx hb dX12_ofThings_203 rfl rfl ?_
        obtain ⟨i24_, h⟩ := h
        refine q_ild X Y k21_ i24_ dX12_ofThings_204 ?_
        refine lv_iconst (v := 1) hx hb dX12_ofThings_205 (by decide) ?_
        refine lv_isub hx hb dX12_ofThings_206 ?_
        obtain ⟨i25_, h⟩ := h
        refine q_ist X Y k21_ i25_ dX12_ofThings_207 (fun H locs Y => ?_)
        refine lv_iconst (v := 0) hx hb dX12_ofThings_208 (by decide) ?_
        exact q_iret X Y rfl (Nat.le_refl _) (Nat.le_refl _) h dX12_ofThings_209
      · replace h := h.2 c23_
        refine lv_aload_n hx hb dX12_ofThings_186 rfl (lv_at hl 0 rfl) ?_
        refine lv_iload_n hx hb dX12_ofThings_187 rfl (lv_at hl 3 rfl) ?_
        refine lv_iconst (v := 1) hx hb dX12_ofThings_188 (by decide) ?_
        refine lv_iload hx hb dX12_ofThings_189 (lv_at hl 5 rfl) ?_
        refine lv_iload hx hb dX12_ofThings_191 (lv_at hl 6 rfl) ?_
        refine q_callV X Y hl (cm_X12_waits h) mt_X12_waits mi_X12_waits ml_X12_622 (ci := 12) rfl k18_ (by decide) rfl rfl (by first | exact Nat.le_of_ble_eq_true rfl | simp [q_cat, q_catI, q_catJ, q_catR]) ⟨Nat.le_of_ble_eq_true rfl, Nat.le_of_ble_eq_true rfl⟩ ⟨Nat.le_of_ble_eq_true rfl, Nat.le_of_ble_eq_true rfl⟩ dX12_ofThings_193 (fun r26_ S27_ H locs hp Y => ?_)
        obtain ⟨x28_, rfl, h⟩ := hp
        refine W.eq (g2 := F0 m 196 ls [.int x28_]) rfl ?_
        exact q_iret X Y rfl (Nat.le_refl _) (Nat.le_refl _) h dX12_ofThings_196
    | 1, _, c98_ =>
      refine ⟨85, 210, rfl, by decide, ?_⟩
      replace h := h.2.2.1 (q_eqI c98_ (by decide))
      refine lv_aload_n hx hb dX12_ofThings_210 rfl (lv_at hl 0 rfl) ?_
      refine lv_iconst (v := 1) hx hb dX12_ofThings_211 (by decide) ?_
      refine lv_iload hx hb dX12_ofThings_212 (lv_at hl 5 rfl) ?_
      refine lv_aload_n hx hb dX12_ofThings_214 rfl (lv_at hl 0 rfl) ?_
      obtain ⟨k29_, h⟩ := h
      refine q_getP X Y kX12 45 rfl fl_X12_91 k29_ rfl dX12_ofThings_215 ?_
      refine lv_iload hx hb dX12_ofThings_218 (lv_at hl 5 rfl) ?_
      obtain ⟨a30_, e31_, h⟩ := h
      refine q_nn [.int x8] e31_ ?_
      obtain ⟨k32_, h⟩ := h
      obtain ⟨i33_, h⟩ := h
      refine q_zld X Y k32_ i33_ dX12_ofThings_220 ?_
      refine q_callV X Y hl (cm_X12_waiter h) mt_X12_waiter mi_X12_waiter ml_X12_540 (ci := 12) rfl k29_ (by decide) rfl rfl (by first | exact Nat.le_of_ble_eq_true rfl | simp [q_cat, q_catI, q_catJ, q_catR]) ⟨Nat.le_of_ble_eq_true rfl, Nat.le_of_ble_eq_true rfl⟩ ⟨Nat.le_of_ble_eq_true rfl, Nat.le_of_ble_eq_true rfl⟩ dX12_ofThings_221 (fun r34_ S35_ H locs hp Y => ?_)
      obtain ⟨x36_, rfl, h⟩ := hp
      refine W.eq (g2 := F0 m 224 ls [.int x36_]) rfl ?_
      refine lv_istore (i := 11) (lv' := [(11, .int x36_), (0, .ref a0), (1, .int x1), (2, .int x2), (3, .int x3), (5, .int x5), (8, .int x8), (9, .int x9)]) hx hb dX12_ofThings_224 hl (by decide) (by first | rfl | simp [q_cat, q_catI, q_catJ, q_catR]) (fun ls hl => ?_)
      refine lv_iload hx hb dX12_ofThings_226 (lv_at hl 0 rfl) ?_
      refine lv_iconst (v := (-1)) hx hb dX12_ofThings_228 (by decide) ?_
      refine lv_icmp_eq (tgt := 241) hx hb dX12_ofThings_229 (by decide) (fun c37_ => ?_) (fun c37_ => ?_)
      · replace h := h.1 c37_
        refine lv_aload_n hx hb dX12_ofThings_241 rfl (lv_at hl 1 rfl) ?_
        obtain ⟨k38_, h⟩ := h
        refine q_getP X Y kX12 92 rfl fl_X12_224 k38_ rfl dX12_ofThings_242 ?_
        refine lv_iload hx hb dX12_ofThings_245 (lv_at hl 6 rfl) ?_
        obtain ⟨a39_, e40_, h⟩ := h
        refine q_nn [.int x8] e40_ ?_
        obtain ⟨k41_, h⟩ := h
        obtain ⟨i42_, h⟩ := h
        refine q_ild X Y k41_ i42_ dX12_ofThings_247 ?_
        refine lv_aload_n hx hb dX12_ofThings_248 rfl (lv_at hl 1 rfl) ?_
        refine q_getP X Y kX12 44 rfl fl_X12_88 k38_ rfl dX12_ofThings_249 ?_
        refine lv_iload hx hb dX12_ofThings_252 (lv_at hl 6 rfl) ?_
        obtain ⟨a43_, e44_, h⟩ := h
        refine q_nn [.int x8] e44_ ?_
        obtain ⟨k45_, h⟩ := h
        obtain ⟨i46_, h⟩ := h
        refine q_ild X Y k45_ i46_ dX12_ofThings_254 ?_
        refine lv_icmp_ne (tgt := 260) hx hb dX12_ofThings_255 (by decide) (fun c47_ => ?_) (fun c47_ => ?_)
        · replace h := h.1 c47_
          refine lv_aload_n hx hb dX12_ofThings_260 rfl (lv_at hl 1 rfl) ?_
          refine q_getR X Y kX12 92 rfl fl_X12_224 k38_ e40_ dX12_ofThings_261 ?_
          refine lv_iload hx hb dX12_ofThings_264 (lv_at hl 6 rfl) ?_
          refine lv_dup2_11 hx hb dX12_ofThings_266 rfl rfl ?_
          obtain ⟨i48_, h⟩ := h
          refine q_ild X Y k41_ i48_ dX12_ofThings_267 ?_
          refine lv_iconst (v := 1) hx hb dX12_ofThings_268 (by decide) ?_
          refine lv_iadd hx hb dX12_ofThings_269 ?_
          obtain ⟨i49_, h⟩ := h
          refine q_ist X Y k41_ i49_ dX12_ofThings_270 (fun H locs Y => ?_)
          exact cb_X12_ofThings_271 X Y (lv_sub hl [] rfl) h
        · replace h := h.2 c47_
          refine lv_iconst (v := 2) hx hb dX12_ofThings_258 (by decide) ?_
          exact q_iret X Y rfl (Nat.le_refl _) (Nat.le_refl _) h dX12_ofThings_259
      · replace h := h.2 c37_
        refine lv_aload_n hx hb dX12_ofThings_232 rfl (lv_at hl 1 rfl) ?_
        refine lv_iload hx hb dX12_ofThings_233 (lv_at hl 0 rfl) ?_
        obtain ⟨k50_, h⟩ := h
        refine q_callV X Y hl (cm_X12_gets h) mt_X12_gets mi_X12_gets ml_X12_543 (ci := 12) rfl k50_ (by decide) rfl rfl (by first | exact Nat.le_of_ble_eq_true rfl | simp [q_cat, q_catI, q_catJ, q_catR]) ⟨Nat.le_of_ble_eq_true rfl, Nat.le_of_ble_eq_true rfl⟩ ⟨Nat.le_of_ble_eq_true rfl, Nat.le_of_ble_eq_true rfl⟩ dX12_ofThings_235 (fun r51_ S52_ H locs hp Y => ?_)
        obtain ⟨rfl, h⟩ := hp
        refine W.eq (g2 := F0 m 238 ls []) rfl ?_
        refine lv_goto (tgt := 271) hx hb dX12_ofThings_238 (by decide) ?_
        exact cb_X12_ofThings_271 X Y (lv_sub hl [] rfl) h
    | 2, _, c98_ =>
      refine ⟨148, 273, rfl, by decide, ?_⟩
      replace h := h.2.2.2.1 (q_eqI c98_ (by decide))
      refine lv_aload_n hx hb dX12_ofThings_273 rfl (lv_at hl 0 rfl) ?_
      obtain ⟨k53_, h⟩ := h
      refine q_getP X Y kX12 93 rfl fl_X12_227 k53_ rfl dX12_ofThings_274 ?_
      refine lv_iload hx hb dX12_ofThings_277 (lv_at hl 5 rfl) ?_
      refine lv_iconst (v := 1) hx hb dX12_ofThings_279 (by decide) ?_
      obtain ⟨a54_, e55_, h⟩ := h
      refine q_nn [.int (1 : Int32), .int x8] e55_ ?_
      obtain ⟨k56_, h⟩ := h
      obtain ⟨i57_, h⟩ := h
      refine q_zst X Y k56_ i57_ dX12_ofThings_280 (fun H locs Y => ?_)
      refine lv_aload_n hx hb dX12_ofThings_281 rfl (lv_at hl 0 rfl) ?_
      refine lv_iload_n hx hb dX12_ofThings_282 rfl (lv_at hl 2 rfl) ?_
      refine lv_iconst (v := 2) hx hb dX12_ofThings_283 (by decide) ?_
      refine lv_iload hx hb dX12_ofThings_284 (lv_at hl 5 rfl) ?_
      refine lv_iconst (v := 0) hx hb dX12_ofThings_286 (by decide) ?_
      refine lv_iconst (v := 0) hx hb dX12_ofThings_287 (by decide) ?_
      refine q_callV X Y hl (cm_X12_allGet h) mt_X12_allGet mi_X12_allGet ml_X12_626 (ci := 12) rfl k53_ (by decide) rfl rfl (by first | exact Nat.le_of_ble_eq_true rfl | simp [q_cat, q_catI, q_catJ, q_catR]) ⟨Nat.le_of_ble_eq_true rfl, Nat.le_of_ble_eq_true rfl⟩ ⟨Nat.le_of_ble_eq_true rfl, Nat.le_of_ble_eq_true rfl⟩ dX12_ofThings_288 (fun r58_ S59_ H locs hp Y => ?_)
      obtain ⟨rfl, h⟩ := hp
      refine W.eq (g2 := F0 m 291 ls []) rfl ?_
      refine lv_iconst (v := 0) hx hb dX12_ofThings_291 (by decide) ?_
      exact q_iret X Y rfl (Nat.le_refl _) (Nat.le_refl _) h dX12_ofThings_292
    | 3, _, c98_ =>
      refine ⟨168, 293, rfl, by decide, ?_⟩
      replace h := h.2.2.2.2.1 (q_eqI c98_ (by decide))
      refine lv_aload_n hx hb dX12_ofThings_293 rfl (lv_at hl 0 rfl) ?_
      obtain ⟨k60_, h⟩ := h
      refine q_getP X Y kX12 93 rfl fl_X12_227 k60_ rfl dX12_ofThings_294 ?_
      refine lv_iload hx hb dX12_ofThings_297 (lv_at hl 5 rfl) ?_
      refine lv_iconst (v := 0) hx hb dX12_ofThings_299 (by decide) ?_
      obtain ⟨a61_, e62_, h⟩ := h
      refine q_nn [.int (0 : Int32), .int x8] e62_ ?_
      obtain ⟨k63_, h⟩ := h
      obtain ⟨i64_, h⟩ := h
      refine q_zst X Y k63_ i64_ dX12_ofThings_300 (fun H locs Y => ?_)
      refine lv_iconst (v := 0) hx hb dX12_ofThings_301 (by decide) ?_
      exact q_iret X Y rfl (Nat.le_refl _) (Nat.le_refl _) h dX12_ofThings_302
    | 4, _, c98_ =>
      refine ⟨178, 303, rfl, by decide, ?_⟩
      replace h := h.2.2.2.2.2.1 (q_eqI c98_ (by decide))
      refine lv_aload_n hx hb dX12_ofThings_303 rfl (lv_at hl 0 rfl) ?_
      obtain ⟨k65_, h⟩ := h
      refine q_getP X Y kX12 93 rfl fl_X12_227 k65_ rfl dX12_ofThings_304 ?_
      refine lv_iload hx hb dX12_ofThings_307 (lv_at hl 5 rfl) ?_
      obtain ⟨a66_, e67_, h⟩ := h
      refine q_nn [.int x8] e67_ ?_
      obtain ⟨k68_, h⟩ := h
      obtain ⟨i69_, h⟩ := h
      refine q_zld X Y k68_ i69_ dX12_ofThings_309 ?_
      refine lv_if_eq (tgt := 317) hx hb dX12_ofThings_310 (by decide) (fun c70_ => ?_) (fun c70_ => ?_)
      · replace h := h.1 c70_
        refine lv_aload_n hx hb dX12_ofThings_317 rfl (lv_at hl 0 rfl) ?_
        refine lv_iload_n hx hb dX12_ofThings_318 rfl (lv_at hl 3 rfl) ?_
        refine lv_iconst (v := 2) hx hb dX12_ofThings_319 (by decide) ?_
        refine lv_iload hx hb dX12_ofThings_320 (lv_at hl 5 rfl) ?_
        refine lv_iload hx hb dX12_ofThings_322 (lv_at hl 6 rfl) ?_
        refine q_callV X Y hl (cm_X12_waits h) mt_X12_waits mi_X12_waits ml_X12_622 (ci := 12) rfl k65_ (by decide) rfl rfl (by first | exact Nat.le_of_ble_eq_true rfl | simp [q_cat, q_catI, q_catJ, q_catR]) ⟨Nat.le_of_ble_eq_true rfl, Nat.le_of_ble_eq_true rfl⟩ ⟨Nat.le_of_ble_eq_true rfl, Nat.le_of_ble_eq_true rfl⟩ dX12_ofThings_324 (fun r71_ S72_ H locs hp Y => ?_)
        obtain ⟨x73_, rfl, h⟩ := hp
        refine W.eq (g2 := F0 m 327 ls [.int x73_]) rfl ?_
        exact cb_X12_ofThings_327 X Y (lv_sub hl [] rfl) h
      · replace h := h.2 c70_
        refine lv_iconst (v := 0) hx hb dX12_ofThings_313 (by decide) ?_
        refine lv_goto (tgt := 327) hx hb dX12_ofThings_314 (by decide) ?_
        exact cb_X12_ofThings_327 X Y (lv_sub hl [] rfl) h
    | 5, _, c98_ =>
      refine ⟨203, 328, rfl, by decide, ?_⟩
      replace h := h.2.2.2.2.2.2.1 (q_eqI c98_ (by decide))
      refine lv_aload_n hx hb dX12_ofThings_328 rfl (lv_at hl 0 rfl) ?_
      refine lv_iload_n hx hb dX12_ofThings_329 rfl (lv_at hl 3 rfl) ?_
      refine lv_iload hx hb dX12_ofThings_330 (lv_at hl 5 rfl) ?_
      refine lv_iload hx hb dX12_ofThings_332 (lv_at hl 4 rfl) ?_
      refine lv_iload hx hb dX12_ofThings_334 (lv_at hl 6 rfl) ?_
      obtain ⟨k74_, h⟩ := h
      refine q_callV X Y hl (cm_X12_puts h) mt_X12_puts mi_X12_puts ml_X12_630 (ci := 12) rfl k74_ (by decide) rfl rfl (by first | exact Nat.le_of_ble_eq_true rfl | simp [q_cat, q_catI, q_catJ, q_catR]) ⟨Nat.le_of_ble_eq_true rfl, Nat.le_of_ble_eq_true rfl⟩ ⟨Nat.le_of_ble_eq_true rfl, Nat.le_of_ble_eq_true rfl⟩ dX12_ofThings_336 (fun r75_ S76_ H locs hp Y => ?_)
      obtain ⟨x77_, rfl, h⟩ := hp
      refine W.eq (g2 := F0 m 339 ls [.int x77_]) rfl ?_
      exact q_iret X Y rfl (Nat.le_refl _) (Nat.le_refl _) h dX12_ofThings_339
    | 6, _, c98_ =>
      refine ⟨215, 340, rfl, by decide, ?_⟩
      replace h := h.2.2.2.2.2.2.2.1 (q_eqI c98_ (by decide))
      refine lv_aload_n hx hb dX12_ofThings_340 rfl (lv_at hl 0 rfl) ?_
      refine lv_iload_n hx hb dX12_ofThings_341 rfl (lv_at hl 3 rfl) ?_
      refine lv_iload hx hb dX12_ofThings_342 (lv_at hl 5 rfl) ?_
      refine lv_iload hx hb dX12_ofThings_344 (lv_at hl 6 rfl) ?_
      obtain ⟨k78_, h⟩ := h
      refine q_callV X Y hl (cm_X12_takes h) mt_X12_takes mi_X12_takes ml_X12_633 (ci := 12) rfl k78_ (by decide) rfl rfl (by first | exact Nat.le_of_ble_eq_true rfl | simp [q_cat, q_catI, q_catJ, q_catR]) ⟨Nat.le_of_ble_eq_true rfl, Nat.le_of_ble_eq_true rfl⟩ ⟨Nat.le_of_ble_eq_true rfl, Nat.le_of_ble_eq_true rfl⟩ dX12_ofThings_346 (fun r79_ S80_ H locs hp Y => ?_)
      obtain ⟨x81_, rfl, h⟩ := hp
      refine W.eq (g2 := F0 m 349 ls [.int x81_]) rfl ?_
      exact q_iret X Y rfl (Nat.le_refl _) (Nat.le_refl _) h dX12_ofThings_349
    | 7, _, c98_ =>
      refine ⟨225, 350, rfl, by decide, ?_⟩
      replace h := h.2.2.2.2.2.2.2.2.1 (q_eqI c98_ (by decide))
      refine lv_aload_n hx hb dX12_ofThings_350 rfl (lv_at hl 0 rfl) ?_
      obtain ⟨k82_, h⟩ := h
      refine q_getP X Y kX12 96 rfl fl_X12_236 k82_ rfl dX12_ofThings_351 ?_
      refine lv_iload hx hb dX12_ofThings_354 (lv_at hl 5 rfl) ?_
      refine lv_iconst (v := 1) hx hb dX12_ofThings_356 (by decide) ?_
      obtain ⟨a83_, e84_, h⟩ := h
      refine q_nn [.int (1 : Int32), .int x8] e84_ ?_
      obtain ⟨k85_, h⟩ := h
      obtain ⟨i86_, h⟩ := h
      refine q_zst X Y k85_ i86_ dX12_ofThings_357 (fun H locs Y => ?_)
      refine lv_aload_n hx hb dX12_ofThings_358 rfl (lv_at hl 0 rfl) ?_
      refine q_getP X Y kX12 97 rfl fl_X12_239 k82_ rfl dX12_ofThings_359 ?_
      refine lv_iload hx hb dX12_ofThings_362 (lv_at hl 5 rfl) ?_
      refine lv_iload hx hb dX12_ofThings_364 (lv_at hl 4 rfl) ?_
      obtain ⟨a87_, e88_, h⟩ := h
      refine q_nn [.int x5, .int x8] e88_ ?_
      obtain ⟨k89_, h⟩ := h
      obtain ⟨i90_, h⟩ := h
      refine q_ist X Y k89_ i90_ dX12_ofThings_366 (fun H locs Y => ?_)
      refine lv_aload_n hx hb dX12_ofThings_367 rfl (lv_at hl 0 rfl) ?_
      refine lv_iload_n hx hb dX12_ofThings_368 rfl (lv_at hl 2 rfl) ?_
      refine lv_iconst (v := 5) hx hb dX12_ofThings_369 (by decide) ?_
      refine lv_iload hx hb dX12_ofThings_370 (lv_at hl 5 rfl) ?_
      refine lv_iconst (v := 1) hx hb dX12_ofThings_372 (by decide) ?_
      refine lv_iload hx hb dX12_ofThings_373 (lv_at hl 4 rfl) ?_
      refine q_callV X Y hl (cm_X12_allGet h) mt_X12_allGet mi_X12_allGet ml_X12_626 (ci := 12) rfl k82_ (by decide) rfl rfl (by first | exact Nat.le_of_ble_eq_true rfl | simp [q_cat, q_catI, q_catJ, q_catR]) ⟨Nat.le_of_ble_eq_true rfl, Nat.le_of_ble_eq_true rfl⟩ ⟨Nat.le_of_ble_eq_true rfl, Nat.le_of_ble_eq_true rfl⟩ dX12_ofThings_375 (fun r91_ S92_ H locs hp Y => ?_)
      obtain ⟨rfl, h⟩ := hp
      refine W.eq (g2 := F0 m 378 ls []) rfl ?_
      refine lv_iconst (v := 0) hx hb dX12_ofThings_378 (by decide) ?_
      exact q_iret X Y rfl (Nat.le_refl _) (Nat.le_refl _) h dX12_ofThings_379
    | 8, _, c98_ =>
      refine ⟨255, 380, rfl, by decide, ?_⟩
      replace h := h.2.2.2.2.2.2.2.2.2 (q_eqI c98_ (by decide))
      refine lv_aload_n hx hb dX12_ofThings_380 rfl (lv_at hl 0 rfl) ?_
      obtain ⟨k93_, h⟩ := h
      refine q_getP X Y kX12 96 rfl fl_X12_236 k93_ rfl dX12_ofThings_381 ?_
      refine lv_iload hx hb dX12_ofThings_384 (lv_at hl 5 rfl) ?_
      refine lv_iconst (v := 0) hx hb dX12_ofThings_386 (by decide) ?_
      obtain ⟨a94_, e95_, h⟩ := h
      refine q_nn [.int (0 : Int32), .int x8] e95_ ?_
      obtain ⟨k96_, h⟩ := h
      obtain ⟨i97_, h⟩ := h
      refine q_zst X Y k96_ i97_ dX12_ofThings_387 (fun H locs Y => ?_)
      refine lv_iconst (v := 0) hx hb dX12_ofThings_388 (by decide) ?_
      exact q_iret X Y rfl (Nat.le_refl _) (Nat.le_refl _) h dX12_ofThings_389
    | z_ + 9, hj_, _ => exact absurd hj_ (by simp)
def wb_X12_ofThings_106  (S : q_S) (a0 : Nat) (x1 : Int32) (x2 : Int32) (x3 : Int32) (x5 : Int32) (x8 : Int32) (x9 : Int32) (xs0 : Int32) (Q : Option Value → q_S → Prop) : Prop := ((xs0 = 0 → (wb_X12_ofThings_124 S a0 x1 x2 x3 x5 x8 x9 Q)) ∧ (¬ xs0 = 0 → (q_K S a0 = 13 ∧ (wm_X12_isTime S a0 x9 (fun r102_ S103_ => ∃ x104_ : Int32, r102_ = some (.int x104_) ∧ (((¬ x104_ = 0 → (wb_X12_ofThings_124 S103_ a0 x1 x2 x3 x5 x8 x9 Q)) ∧ (x104_ = 0 → (Q (some (.int (1 : Int32))) S103_)))))))))
set_option maxHeartbeats 4000000 in
set_option maxRecDepth 100000 in
theorem cb_X12_ofThings_106 {p : Program} {l : Launch} {e : Env} {s : State} {m : MethodId} {args : Array Value} {below : List Frame} {meth : Method} {c : Code} {D : va_G} {cy : Nat → ClassId} {lo : Nat}  {S : q_S} {a0 : Nat} {x1 : Int32} {x2 : Int32} {x3 : Int32} {x5 : Int32} {x8 : Int32} {x9 : Int32} {xs0 : Int32} {Q : Option Value → q_S → Prop} {H : Heap} {locs : List Loc} {ls : Array Slot} (X : q_X p s m args meth c RX12 cX12_ofThings 12 (some .int) D cy lo)  (Y : q_Y D cy lo s S H locs) (hl : lv_has ls 12 [(0, .ref a0), (1, .int x1), (2, .int x2), (3, .int x3), (5, .int x5), (8, .int x8), (9, .int x9)]) (h : wb_X12_ofThings_106 S a0 x1 x2 x3 x5 x8 x9 xs0 Q) : W p l e ({ frames := 4, cells := 0, slots := 0, locals := 92 } : Room) s m args below meth c H locs 0 0 (MQ below (q_Q D cy lo Q) args s 0 0 (fun q => lo ≤ q)) (F0 m 106 ls [.int xs0]) := by
  have hx := X.1
  have hb := X.2.1
  unfold wb_X12_ofThings_106 at h
  refine lv_istore (i := 10) (lv' := [(10, .int xs0), (0, .ref a0), (1, .int x1), (2, .int x2), (3, .int x3), (5, .int x5), (8, .int x8), (9, .int x9)]) hx hb dX12_ofThings_106 hl (by decide) (by first | rfl | simp [q_cat, q_catI, q_catJ, q_catR]) (fun ls hl => ?_)
  refine lv_iload hx hb dX12_ofThings_108 (lv_at hl 0 rfl) ?_
  refine lv_if_eq (tgt := 124) hx hb dX12_ofThings_110 (by decide) (fun c100_ => ?_) (fun c100_ => ?_)
  · replace h := h.1 c100_
    exact cb_X12_ofThings_124 X Y (lv_sub hl [1, 2, 3, 4, 5, 6, 7] rfl) h
  · replace h := h.2 c100_
    refine lv_aload_n hx hb dX12_ofThings_113 rfl (lv_at hl 1 rfl) ?_
    refine lv_iload hx hb dX12_ofThings_114 (lv_at hl 7 rfl) ?_
    obtain ⟨k101_, h⟩ := h
    refine q_callV X Y hl (cm_X12_isTime h) mt_X12_isTime mi_X12_isTime ml_X12_619 (ci := 12) rfl k101_ (by decide) rfl rfl (by first | exact Nat.le_of_ble_eq_true rfl | simp [q_cat, q_catI, q_catJ, q_catR]) ⟨Nat.le_of_ble_eq_true rfl, Nat.le_of_ble_eq_true rfl⟩ ⟨Nat.le_of_ble_eq_true rfl, Nat.le_of_ble_eq_true rfl⟩ dX12_ofThings_116 (fun r102_ S103_ H locs hp Y => ?_)
    obtain ⟨x104_, rfl, h⟩ := hp
    refine W.eq (g2 := F0 m 119 ls [.int x104_]) rfl ?_
    refine lv_if_ne (tgt := 124) hx hb dX12_ofThings_119 (by decide) (fun c105_ => ?_) (fun c105_ => ?_)
    · replace h := h.1 c105_
      exact cb_X12_ofThings_124 X Y (lv_sub hl [1, 2, 3, 4, 5, 6, 7] rfl) h
    · replace h := h.2 c105_
      refine lv_iconst (v := 1) hx hb dX12_ofThings_122 (by decide) ?_
      exact q_iret X Y rfl (Nat.le_refl _) (Nat.le_refl _) h dX12_ofThings_123
def wb_X12_ofThings_101  (S : q_S) (a0 : Nat) (x1 : Int32) (x2 : Int32) (x3 : Int32) (x5 : Int32) (x8 : Int32) (x9 : Int32) (Q : Option Value → q_S → Prop) : Prop := wb_X12_ofThings_106 S a0 x1 x2 x3 x5 x8 x9 (1 : Int32) Q
set_option maxHeartbeats 4000000 in
set_option maxRecDepth 100000 in
theorem cb_X12_ofThings_101 {p : Program} {l : Launch} {e : Env} {s : State} {m : MethodId} {args : Array Value} {below : List Frame} {meth : Method} {c : Code} {D : va_G} {cy : Nat → ClassId} {lo : Nat}  {S : q_S} {a0 : Nat} {x1 : Int32} {x2 : Int32} {x3 : Int32} {x5 : Int32} {x8 : Int32} {x9 : Int32} {Q : Option Value → q_S → Prop} {H : Heap} {locs : List Loc} {ls : Array Slot} (X : q_X p s m args meth c RX12 cX12_ofThings 12 (some .int) D cy lo)  (Y : q_Y D cy lo s S H locs) (hl : lv_has ls 12 [(0, .ref a0), (1, .int x1), (2, .int x2), (3, .int x3), (5, .int x5), (8, .int x8), (9, .int x9)]) (h : wb_X12_ofThings_101 S a0 x1 x2 x3 x5 x8 x9 Q) : W p l e ({ frames := 4, cells := 0, slots := 0, locals := 92 } : Room) s m args below meth c H locs 0 0 (MQ below (q_Q D cy lo Q) args s 0 0 (fun q => lo ≤ q)) (F0 m 101 ls []) := by
  have hx := X.1
  have hb := X.2.1
  unfold wb_X12_ofThings_101 at h
  refine lv_iconst (v := 1) hx hb dX12_ofThings_101 (by decide) ?_
  refine lv_goto (tgt := 106) hx hb dX12_ofThings_102 (by decide) ?_
  exact cb_X12_ofThings_106 X Y (lv_sub hl [0, 1, 2, 3, 4, 5, 6] rfl) h
def wb_X12_ofThings_69  (S : q_S) (a0 : Nat) (x1 : Int32) (x2 : Int32) (x3 : Int32) (x5 : Int32) (x8 : Int32) (xs0 : Int32) (Q : Option Value → q_S → Prop) : Prop := ((x1 = (8 : Int32) → (wb_X12_ofThings_101 S a0 x1 x2 x3 x5 x8 xs0 Q)) ∧ (¬ x1 = (8 : Int32) → (((x1 = (12 : Int32) → (wb_X12_ofThings_101 S a0 x1 x2 x3 x5 x8 xs0 Q)) ∧ (¬ x1 = (12 : Int32) → (((x1 = (13 : Int32) → (wb_X12_ofThings_101 S a0 x1 x2 x3 x5 x8 xs0 Q)) ∧ (¬ x1 = (13 : Int32) → (((x1 = (14 : Int32) → (wb_X12_ofThings_101 S a0 x1 x2 x3 x5 x8 xs0 Q)) ∧ (¬ x1 = (14 : Int32) → (((¬ x1 = (17 : Int32) → (wb_X12_ofThings_106 S a0 x1 x2 x3 x5 x8 xs0 (0 : Int32) Q)) ∧ (x1 = (17 : Int32) → (wb_X12_ofThings_101 S a0 x1 x2 x3 x5 x8 xs0 Q)))))))))))))))
set_option maxHeartbeats 4000000 in
set_option maxRecDepth 100000 in
theorem cb_X12_ofThings_69 {p : Program} {l : Launch} {e : Env} {s : State} {m : MethodId} {args : Array Value} {below : List Frame} {meth : Method} {c : Code} {D : va_G} {cy : Nat → ClassId} {lo : Nat}  {S : q_S} {a0 : Nat} {x1 : Int32} {x2 : Int32} {x3 : Int32} {x5 : Int32} {x8 : Int32} {xs0 : Int32} {Q : Option Value → q_S → Prop} {H : Heap} {locs : List Loc} {ls : Array Slot} (X : q_X p s m args meth c RX12 cX12_ofThings 12 (some .int) D cy lo)  (Y : q_Y D cy lo s S H locs) (hl : lv_has ls 12 [(0, .ref a0), (1, .int x1), (2, .int x2), (3, .int x3), (5, .int x5), (8, .int x8)]) (h : wb_X12_ofThings_69 S a0 x1 x2 x3 x5 x8 xs0 Q) : W p l e ({ frames := 4, cells := 0, slots := 0, locals := 92 } : Room) s m args below meth c H locs 0 0 (MQ below (q_Q D cy lo Q) args s 0 0 (fun q => lo ≤ q)) (F0 m 69 ls [.int xs0]) := by
  have hx := X.1
  have hb := X.2.1
  unfold wb_X12_ofThings_69 at h
  refine lv_istore (i := 9) (lv' := [(9, .int xs0), (0, .ref a0), (1, .int x1), (2, .int x2), (3, .int x3), (5, .int x5), (8, .int x8)]) hx hb dX12_ofThings_69 hl (by decide) (by first | rfl | simp [q_cat, q_catI, q_catJ, q_catR]) (fun ls hl => ?_)
  refine lv_iload_n hx hb dX12_ofThings_71 rfl (lv_at hl 2 rfl) ?_
  refine lv_bipush (v := 8) hx hb dX12_ofThings_72 (by decide) ?_
  refine lv_icmp_eq (tgt := 101) hx hb dX12_ofThings_74 (by decide) (fun c106_ => ?_) (fun c106_ => ?_)
  · replace h := h.1 c106_
    exact cb_X12_ofThings_101 X Y (lv_sub hl [1, 2, 3, 4, 5, 6, 0] rfl) h
  · replace h := h.2 c106_
    refine lv_iload_n hx hb dX12_ofThings_77 rfl (lv_at hl 2 rfl) ?_
    refine lv_bipush (v := 12) hx hb dX12_ofThings_78 (by decide) ?_
    refine lv_icmp_eq (tgt := 101) hx hb dX12_ofThings_80 (by decide) (fun c107_ => ?_) (fun c107_ => ?_)
    · replace h := h.1 c107_
      exact cb_X12_ofThings_101 X Y (lv_sub hl [1, 2, 3, 4, 5, 6, 0] rfl) h
    · replace h := h.2 c107_
      refine lv_iload_n hx hb dX12_ofThings_83 rfl (lv_at hl 2 rfl) ?_
      refine lv_bipush (v := 13) hx hb dX12_ofThings_84 (by decide) ?_
      refine lv_icmp_eq (tgt := 101) hx hb dX12_ofThings_86 (by decide) (fun c108_ => ?_) (fun c108_ => ?_)
      · replace h := h.1 c108_
        exact cb_X12_ofThings_101 X Y (lv_sub hl [1, 2, 3, 4, 5, 6, 0] rfl) h
      · replace h := h.2 c108_
        refine lv_iload_n hx hb dX12_ofThings_89 rfl (lv_at hl 2 rfl) ?_
        refine lv_bipush (v := 14) hx hb dX12_ofThings_90 (by decide) ?_
        refine lv_icmp_eq (tgt := 101) hx hb dX12_ofThings_92 (by decide) (fun c109_ => ?_) (fun c109_ => ?_)
        · replace h := h.1 c109_
          exact cb_X12_ofThings_101 X Y (lv_sub hl [1, 2, 3, 4, 5, 6, 0] rfl) h
        · replace h := h.2 c109_
          refine lv_iload_n hx hb dX12_ofThings_95 rfl (lv_at hl 2 rfl) ?_
          refine lv_bipush (v := 17) hx hb dX12_ofThings_96 (by decide) ?_
          refine lv_icmp_ne (tgt := 105) hx hb dX12_ofThings_98 (by decide) (fun c110_ => ?_) (fun c110_ => ?_)
          · replace h := h.1 c110_
            refine lv_iconst (v := 0) hx hb dX12_ofThings_105 (by decide) ?_
            exact cb_X12_ofThings_106 X Y (lv_sub hl [1, 2, 3, 4, 5, 6, 0] rfl) h
          · replace h := h.2 c110_
            exact cb_X12_ofThings_101 X Y (lv_sub hl [1, 2, 3, 4, 5, 6, 0] rfl) h
def wb_X12_ofThings_31  (S : q_S) (a0 : Nat) (x1 : Int32) (x2 : Int32) (x3 : Int32) (x4 : Int32) (x5 : Int32) (x6 : Int32) (xs0 : Int32) (Q : Option Value → q_S → Prop) : Prop := q_K S a0 = 13 ∧ (wm_X12_isThing S a0 x2 xs0 x4 (fun r112_ S113_ => ∃ x114_ : Int32, r112_ = some (.int x114_) ∧ (((¬ x114_ = 0 → (((¬ x1 = (13 : Int32) → (wb_X12_ofThings_69 S113_ a0 x1 x2 x3 x5 (((8 : Int32) * x2) + x4) x5 Q)) ∧ (x1 = (13 : Int32) → (wb_X12_ofThings_69 S113_ a0 x1 x2 x3 x5 (((8 : Int32) * x2) + x4) x6 Q))))) ∧ (x114_ = 0 → (Q (some (.int (1 : Int32))) S113_))))))
set_option maxHeartbeats 4000000 in
set_option maxRecDepth 100000 in
theorem cb_X12_ofThings_31 {p : Program} {l : Launch} {e : Env} {s : State} {m : MethodId} {args : Array Value} {below : List Frame} {meth : Method} {c : Code} {D : va_G} {cy : Nat → ClassId} {lo : Nat}  {S : q_S} {a0 : Nat} {x1 : Int32} {x2 : Int32} {x3 : Int32} {x4 : Int32} {x5 : Int32} {x6 : Int32} {xs0 : Int32} {Q : Option Value → q_S → Prop} {H : Heap} {locs : List Loc} {ls : Array Slot} (X : q_X p s m args meth c RX12 cX12_ofThings 12 (some .int) D cy lo)  (Y : q_Y D cy lo s S H locs) (hl : lv_has ls 12 [(0, .ref a0), (1, .int x1), (2, .int x2), (3, .int x3), (4, .int x4), (5, .int x5), (6, .int x6)]) (h : wb_X12_ofThings_31 S a0 x1 x2 x3 x4 x5 x6 xs0 Q) : W p l e ({ frames := 4, cells := 0, slots := 0, locals := 92 } : Room) s m args below meth c H locs 0 0 (MQ below (q_Q D cy lo Q) args s 0 0 (fun q => lo ≤ q)) (F0 m 31 ls [.int xs0]) := by
  have hx := X.1
  have hb := X.2.1
  unfold wb_X12_ofThings_31 at h
  refine lv_istore (i := 7) (lv' := [(7, .int xs0), (0, .ref a0), (1, .int x1), (2, .int x2), (3, .int x3), (4, .int x4), (5, .int x5), (6, .int x6)]) hx hb dX12_ofThings_31 hl (by decide) (by first | rfl | simp [q_cat, q_catI, q_catJ, q_catR]) (fun ls hl => ?_)
  refine lv_aload_n hx hb dX12_ofThings_33 rfl (lv_at hl 1 rfl) ?_
  refine lv_iload_n hx hb dX12_ofThings_34 rfl (lv_at hl 3 rfl) ?_
  refine lv_iload hx hb dX12_ofThings_35 (lv_at hl 0 rfl) ?_
  refine lv_iload hx hb dX12_ofThings_37 (lv_at hl 5 rfl) ?_
  obtain ⟨k111_, h⟩ := h
  refine q_callV X Y hl (cm_X12_isThing h) mt_X12_isThing mi_X12_isThing ml_X12_616 (ci := 12) rfl k111_ (by decide) rfl rfl (by first | exact Nat.le_of_ble_eq_true rfl | simp [q_cat, q_catI, q_catJ, q_catR]) ⟨Nat.le_of_ble_eq_true rfl, Nat.le_of_ble_eq_true rfl⟩ ⟨Nat.le_of_ble_eq_true rfl, Nat.le_of_ble_eq_true rfl⟩ dX12_ofThings_39 (fun r112_ S113_ H locs hp Y => ?_)
  obtain ⟨x114_, rfl, h⟩ := hp
  refine W.eq (g2 := F0 m 42 ls [.int x114_]) rfl ?_
  refine lv_if_ne (tgt := 47) hx hb dX12_ofThings_42 (by decide) (fun c115_ => ?_) (fun c115_ => ?_)
  · replace h := h.1 c115_
    refine lv_bipush (v := 8) hx hb dX12_ofThings_47 (by decide) ?_
    refine lv_iload_n hx hb dX12_ofThings_49 rfl (lv_at hl 3 rfl) ?_
    refine lv_imul hx hb dX12_ofThings_50 ?_
    refine lv_iload hx hb dX12_ofThings_51 (lv_at hl 5 rfl) ?_
    refine lv_iadd hx hb dX12_ofThings_53 ?_
    refine lv_istore (i := 8) (lv' := [(8, .int (((8 : Int32) * x2) + x4)), (7, .int xs0), (0, .ref a0), (1, .int x1), (2, .int x2), (3, .int x3), (4, .int x4), (5, .int x5), (6, .int x6)]) hx hb dX12_ofThings_54 hl (by decide) (by first | rfl | simp [q_cat, q_catI, q_catJ, q_catR]) (fun ls hl => ?_)
    refine lv_iload_n hx hb dX12_ofThings_56 rfl (lv_at hl 3 rfl) ?_
    refine lv_bipush (v := 13) hx hb dX12_ofThings_57 (by decide) ?_
    refine lv_icmp_ne (tgt := 67) hx hb dX12_ofThings_59 (by decide) (fun c116_ => ?_) (fun c116_ => ?_)
    · replace h := h.1 c116_
      refine lv_iload hx hb dX12_ofThings_67 (lv_at hl 7 rfl) ?_
      exact cb_X12_ofThings_69 X Y (lv_sub hl [2, 3, 4, 5, 7, 0] rfl) h
    · replace h := h.2 c116_
      refine lv_iload hx hb dX12_ofThings_62 (lv_at hl 8 rfl) ?_
      refine lv_goto (tgt := 69) hx hb dX12_ofThings_64 (by decide) ?_
      exact cb_X12_ofThings_69 X Y (lv_sub hl [2, 3, 4, 5, 7, 0] rfl) h
  · replace h := h.2 c115_
    refine lv_iconst (v := 1) hx hb dX12_ofThings_45 (by decide) ?_
    exact q_iret X Y rfl (Nat.le_refl _) (Nat.le_refl _) h dX12_ofThings_46
def wm_X12_ofThings (S : q_S) (a0 : Nat) (x1 : Int32) (x2 : Int32) (x3 : Int32) (x4 : Int32) (x5 : Int32) (x6 : Int32) (Q : Option Value → q_S → Prop) : Prop := (((10 : Int32) ≤ x1 → ((((13 : Int32) ≤ x1 → ((((15 : Int32) ≤ x1 → (wb_X12_ofThings_31 S a0 x1 x2 x3 x4 x5 x6 (3 : Int32) Q)) ∧ (¬ (15 : Int32) ≤ x1 → (wb_X12_ofThings_31 S a0 x1 x2 x3 x4 x5 x6 (2 : Int32) Q))))) ∧ (¬ (13 : Int32) ≤ x1 → (wb_X12_ofThings_31 S a0 x1 x2 x3 x4 x5 x6 (1 : Int32) Q))))) ∧ (¬ (10 : Int32) ≤ x1 → (wb_X12_ofThings_31 S a0 x1 x2 x3 x4 x5 x6 (0 : Int32) Q)))
set_option maxHeartbeats 4000000 in
set_option maxRecDepth 100000 in
theorem cm_X12_ofThings {l : Launch} {D : va_G} {cy : Nat → ClassId} {lo : Nat} {S : q_S} {a0 : Nat} {x1 : Int32} {x2 : Int32} {x3 : Int32} {x4 : Int32} {x5 : Int32} {x6 : Int32} {Q : Option Value → q_S → Prop} (h : wm_X12_ofThings S a0 x1 x2 x3 x4 x5 x6 Q) : q_Met l D cy lo yX12_ofThings cX12_ofThings 12 (some .int) 4 92 0 0 [.ref a0, .int x1, .int x2, .int x3, .int x4, .int x5, .int x6] S Q := by
  refine q_body (by decide) (by first | exact Nat.le_of_ble_eq_true rfl | simp [lg_sl, q_cat, q_catI, q_catJ, q_catR]) ?_
  intro p e s m below meth c ls X hnm Y hl
  have hx := X.1
  have hb := X.2.1
  have hl : lv_has ls 12 [(0, .ref a0), (1, .int x1), (2, .int x2), (3, .int x3), (4, .int x4), (5, .int x5), (6, .int x6)] := by first | exact hl | simpa [lv_args, q_cat, q_catI, q_catJ, q_catR] using hl
  generalize hargs : ([.ref a0, .int x1, .int x2, .int x3, .int x4, .int x5, .int x6] : List Value).toArray = args at X ⊢
  unfold wm_X12_ofThings at h
  refine lv_iload_n hx hb dX12_ofThings_0 rfl (lv_at hl 1 rfl) ?_
  refine lv_bipush (v := 10) hx hb dX12_ofThings_1 (by decide) ?_
  refine lv_icmp_ge (tgt := 10) hx hb dX12_ofThings_3 (by decide) (fun c117_ => ?_) (fun c117_ => ?_)
  · replace h := h.1 c117_
    refine lv_iload_n hx hb dX12_ofThings_10 rfl (lv_at hl 1 rfl) ?_
    refine lv_bipush (v := 13) hx hb dX12_ofThings_11 (by decide) ?_
    refine lv_icmp_ge (tgt := 20) hx hb dX12_ofThings_13 (by decide) (fun c118_ => ?_) (fun c118_ => ?_)
    · replace h := h.1 c118_
      refine lv_iload_n hx hb dX12_ofThings_20 rfl (lv_at hl 1 rfl) ?_
      refine lv_bipush (v := 15) hx hb dX12_ofThings_21 (by decide) ?_
      refine lv_icmp_ge (tgt := 30) hx hb dX12_ofThings_23 (by decide) (fun c119_ => ?_) (fun c119_ => ?_)
      · replace h := h.1 c119_
        refine lv_iconst (v := 3) hx hb dX12_ofThings_30 (by decide) ?_
        exact cb_X12_ofThings_31 X Y (lv_sub hl [0, 1, 2, 3, 4, 5, 6] rfl) h
      · replace h := h.2 c119_
        refine lv_iconst (v := 2) hx hb dX12_ofThings_26 (by decide) ?_
        refine lv_goto (tgt := 31) hx hb dX12_ofThings_27 (by decide) ?_
        exact cb_X12_ofThings_31 X Y (lv_sub hl [0, 1, 2, 3, 4, 5, 6] rfl) h
    · replace h := h.2 c118_
      refine lv_iconst (v := 1) hx hb dX12_ofThings_16 (by decide) ?_
      refine lv_goto (tgt := 31) hx hb dX12_ofThings_17 (by decide) ?_
      exact cb_X12_ofThings_31 X Y (lv_sub hl [0, 1, 2, 3, 4, 5, 6] rfl) h
  · replace h := h.2 c117_
    refine lv_iconst (v := 0) hx hb dX12_ofThings_6 (by decide) ?_
    refine lv_goto (tgt := 31) hx hb dX12_ofThings_7 (by decide) ?_
    exact cb_X12_ofThings_31 X Y (lv_sub hl [0, 1, 2, 3, 4, 5, 6] rfl) h
