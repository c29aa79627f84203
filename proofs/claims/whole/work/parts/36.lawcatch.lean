-- L_load
theorem ml_L_7 : Cond.methodLink RL 7 yX11_load ∈ q_G := q_tb (i := 462) (by decide +kernel) (by decide +kernel)
theorem mt_X11_load : q_Mt yX11_load cX11_load 1 (some .int) 0 := ⟨q_tb (i := 465) (by decide +kernel) (by decide +kernel), q_tb (i := 1) (by decide +kernel) (by decide +kernel), by decide +kernel, by decide +kernel, by decide +kernel⟩
theorem cs_IAE : Cond.castable "java/lang/IllegalArgumentException" "java/lang/IllegalArgumentException" ∈ q_Nw := List.mem_filter.mpr ⟨List.mem_of_getElem? (i := 561) (by decide +kernel), rfl⟩
theorem cl_L_13 : Cond.classLink RL 13 "java/lang/IllegalArgumentException" ∈ q_G := q_tb (i := 461) (by decide +kernel) (by decide +kernel)
theorem mi_X11_load : Cond.instanceMethod yX11_load ∈ q_G ∧ Cond.selects yX11_load.cls yX11_load yX11_load ∈ q_G := ⟨q_tb (i := 463) (by decide +kernel) (by decide +kernel), q_tb (i := 464) (by decide +kernel) (by decide +kernel)⟩
theorem dL_load_0 : decode cL_load 0 = .ok (.aload_n 1, 1) := by decide +kernel
theorem dL_load_1 : decode cL_load 1 = .ok (.iconst 0, 1) := by decide +kernel
theorem dL_load_2 : decode cL_load 2 = .ok (.aload_n 0, 1) := by decide +kernel
theorem dL_load_3 : decode cL_load 3 = .ok (.invokevirtual 7, 3) := by decide +kernel
theorem dL_load_6 : decode cL_load 6 = .ok (.i2l, 1) := by decide +kernel
theorem dL_load_7 : decode cL_load 7 = .ok (.lastore, 1) := by decide +kernel
theorem dL_load_8 : decode cL_load 8 = .ok (.goto 6, 3) := by decide +kernel
theorem dL_load_11 : decode cL_load 11 = .ok (.astore_n 2, 1) := by decide +kernel
theorem dL_load_12 : decode cL_load 12 = .ok (.iconst 1, 1) := by decide +kernel
theorem dL_load_13 : decode cL_load 13 = .ok (.ireturn, 1) := by decide +kernel
theorem dL_load_14 : decode cL_load 14 = .ok (.iconst 0, 1) := by decide +kernel
theorem dL_load_15 : decode cL_load 15 = .ok (.ireturn, 1) := by decide +kernel
def wm_L_load (bc bs : Nat) (S : q_S) (r0 : Option Nat) (r1 : Option Nat) (Q : Option Value → q_S → Prop) : Prop := ∃ a1_ : Nat, r0 = some a1_ ∧ (q_K S a1_ = 12 ∧ (∃ m6_ m7_ : Nat, (0 + m6_ ≤ bc ∧ 0 + m7_ ≤ bs) ∧ (wm_X11_load m6_ m7_ S a1_ (fun r4_ S5_ => ∃ x9_ : Int32, r4_ = some (.int x9_) ∧ (∃ a14_ : Nat, r1 = some a14_ ∧ (q_K S5_ a14_ = 23 ∧ (vp_in (0 : Int32) (q_N S5_ a14_) ∧ (Q (some (.int (0 : Int32))) (qs_B S5_ a14_ (0 : Int32).toNatClampNeg (x9_.toInt64))))))) (fun C10_ S11_ => ∀ q12_ : Nat, ((C10_ = "java/lang/IllegalArgumentException" ∧ (Q (some (.int (1 : Int32))) S11_)))))))
set_option maxHeartbeats 4000000 in
set_option maxRecDepth 100000 in
theorem cm_L_load {l : Launch} {D : va_G} {cy : Nat → ClassId} {lo : Nat} {bc bs : Nat} {S : q_S} {r0 : Option Nat} {r1 : Option Nat} {Q : Option Value → q_S → Prop} (hst : l.stackTraces = false) (h : wm_L_load bc bs S r0 r1 Q) : q_MetW l D cy lo yL_load cL_load 3 (some .int) [(0, 8, 11, 13)] 13 249 bc bs [va_rf r0, va_rf r1] S Q := by
  refine q_bodyW (by decide) (by first | exact Nat.le_of_ble_eq_true rfl | simp [lg_sl, q_cat, q_catI, q_catJ, q_catR]) ?_
  intro p e s m below meth c ls X hNc htab Y hl
  have hx := X.1
  have hb := X.2.1
  have hl : lv_has ls 3 [(0, va_rf r0), (1, va_rf r1)] := by first | exact hl | simpa [lv_args, q_cat, q_catI, q_catJ, q_catR] using hl
  generalize hargs : ([va_rf r0, va_rf r1] : List Value).toArray = args at X ⊢
  have hu : 0 ≤ bc ∧ 0 ≤ bs := ⟨Nat.zero_le _, Nat.zero_le _⟩
  unfold wm_L_load at h
  refine q_aload_n hx hb dL_load_0 rfl (lv_at hl 1 rfl) ?_
  refine lv_iconst (v := 0) hx hb dL_load_1 (by decide) ?_
  refine q_aload_n hx hb dL_load_2 rfl (lv_at hl 0 rfl) ?_
  obtain ⟨a1_, e2_, h⟩ := h
  refine q_nn [] e2_ ?_
  obtain ⟨k3_, h⟩ := h
  obtain ⟨m6_, m7_, w8_, h⟩ := h
  refine q_callVC X Y hl (cm_X11_load hst h) mt_X11_load mi_X11_load ml_L_7 (ci := 11) rfl k3_ (by decide) rfl rfl (by first | exact Nat.le_of_ble_eq_true rfl | simp [q_cat, q_catI, q_catJ, q_catR]) ⟨Nat.le_of_ble_eq_true rfl, Nat.le_of_ble_eq_true rfl⟩ w8_ dL_load_3 (fun r4_ S5_ H locs hp Y => ?_) (fun C10_ ce_ q12_ S11_ H locs hE_ Y c13_1 c13_2 c13_3 => ?kx)
  case kx =>
    replace hu := w8_
    replace hE_ := hE_ q12_
    rcases hE_ with ⟨rfl, h⟩
    · refine qh_catch X.2.2.2.1 [] (⟨0, 8, 11, 13⟩ : ExceptionTableEntry) [] (by rw [htab]; rfl) (fun _ h_ => nomatch h_) (by decide) (by decide) (X.2.2.2.2.1 _ cl_L_13) (va_Nw.use rfl (X.2.2.2.2.2.2.1.1 _ cs_IAE)) c13_1 c13_2 c13_3 ?_
      refine lv_astore_n (i := 2) (lv' := [(2, .ref q12_), (0, va_rf r0), (1, va_rf r1)]) hx hb dL_load_11 rfl hl (by decide) (by first | rfl | simp [q_cat, q_catI, q_catJ, q_catR]) (fun ls hl => ?_)
      refine lv_iconst (v := 1) hx hb dL_load_12 (by decide) ?_
      exact q_iret X Y rfl hu.1 hu.2 h dL_load_13
  obtain ⟨x9_, rfl, h⟩ := hp
  replace hu := w8_
  refine W.eq (g2 := F0 m 6 ls [.int x9_, .int (0 : Int32), va_rf r1]) rfl ?_
  refine lv_i2l hx hb dL_load_6 rfl ?_
  obtain ⟨a14_, e15_, h⟩ := h
  refine q_nn [.long (x9_.toInt64), .int (0 : Int32)] e15_ ?_
  obtain ⟨k16_, h⟩ := h
  obtain ⟨i17_, h⟩ := h
  refine q_lst X Y k16_ i17_ dL_load_7 (fun H locs Y => ?_)
  refine lv_goto (tgt := 14) hx hb dL_load_8 (by decide) ?_
  refine lv_iconst (v := 0) hx hb dL_load_14 (by decide) ?_
  exact q_iret X Y rfl hu.1 hu.2 h dL_load_15
-- L_image
theorem ml_L_15 : Cond.methodLink RL 15 yX11_image ∈ q_G := q_tb (i := 1233) (by decide +kernel) (by decide +kernel)
theorem mt_X11_image : q_Mt yX11_image cX11_image 5 none 3 := ⟨q_tb (i := 1236) (by decide +kernel) (by decide +kernel), q_tb (i := 1) (by decide +kernel) (by decide +kernel), by decide +kernel, by decide +kernel, by decide +kernel⟩
theorem cs_IOB : Cond.castable "java/lang/IndexOutOfBoundsException" "java/lang/IndexOutOfBoundsException" ∈ q_Nw := List.mem_filter.mpr ⟨List.mem_of_getElem? (i := 1255) (by decide +kernel), rfl⟩
theorem cl_L_19 : Cond.classLink RL 19 "java/lang/IndexOutOfBoundsException" ∈ q_G := q_tb (i := 1231) (by decide +kernel) (by decide +kernel)
theorem cs_ISE : Cond.castable "java/lang/IllegalStateException" "java/lang/IllegalStateException" ∈ q_Nw := List.mem_filter.mpr ⟨List.mem_of_getElem? (i := 1239) (by decide +kernel), rfl⟩
theorem cl_L_21 : Cond.classLink RL 21 "java/lang/IllegalStateException" ∈ q_G := q_tb (i := 1232) (by decide +kernel) (by decide +kernel)
theorem mi_X11_image : Cond.instanceMethod yX11_image ∈ q_G ∧ Cond.selects yX11_image.cls yX11_image yX11_image ∈ q_G := ⟨q_tb (i := 1234) (by decide +kernel) (by decide +kernel), q_tb (i := 1235) (by decide +kernel) (by decide +kernel)⟩
theorem dL_image_0 : decode cL_image 0 = .ok (.aload_n 0, 1) := by decide +kernel
theorem dL_image_1 : decode cL_image 1 = .ok (.iload_n 1, 1) := by decide +kernel
theorem dL_image_2 : decode cL_image 2 = .ok (.iload_n 2, 1) := by decide +kernel
theorem dL_image_3 : decode cL_image 3 = .ok (.iload_n 3, 1) := by decide +kernel
theorem dL_image_4 : decode cL_image 4 = .ok (.invokevirtual 15, 3) := by decide +kernel
theorem dL_image_7 : decode cL_image 7 = .ok (.goto 11, 3) := by decide +kernel
theorem dL_image_10 : decode cL_image 10 = .ok (.astore 4, 2) := by decide +kernel
theorem dL_image_12 : decode cL_image 12 = .ok (.iconst 1, 1) := by decide +kernel
theorem dL_image_13 : decode cL_image 13 = .ok (.ireturn, 1) := by decide +kernel
theorem dL_image_14 : decode cL_image 14 = .ok (.astore 4, 2) := by decide +kernel
theorem dL_image_16 : decode cL_image 16 = .ok (.iconst 2, 1) := by decide +kernel
theorem dL_image_17 : decode cL_image 17 = .ok (.ireturn, 1) := by decide +kernel
theorem dL_image_18 : decode cL_image 18 = .ok (.iconst 0, 1) := by decide +kernel
theorem dL_image_19 : decode cL_image 19 = .ok (.ireturn, 1) := by decide +kernel
def wm_L_image (bc bs : Nat) (S : q_S) (r0 : Option Nat) (x1 : Int32) (x2 : Int32) (x3 : Int32) (Q : Option Value → q_S → Prop) : Prop := ∃ a1_ : Nat, r0 = some a1_ ∧ (q_K S a1_ = 12 ∧ (∃ m6_ m7_ : Nat, (0 + m6_ ≤ bc ∧ 0 + m7_ ≤ bs) ∧ (wm_X11_image m6_ m7_ S a1_ x1 x2 x3 (fun r4_ S5_ => r4_ = none ∧ (Q (some (.int (0 : Int32))) S5_)) (fun C9_ S10_ => ∀ q11_ : Nat, ((C9_ = "java/lang/IndexOutOfBoundsException" ∧ (Q (some (.int (1 : Int32))) S10_)) ∨ (C9_ = "java/lang/IllegalStateException" ∧ (Q (some (.int (2 : Int32))) S10_)))))))
set_option maxHeartbeats 4000000 in
set_option maxRecDepth 100000 in
theorem cm_L_image {l : Launch} {D : va_G} {cy : Nat → ClassId} {lo : Nat} {bc bs : Nat} {S : q_S} {r0 : Option Nat} {x1 : Int32} {x2 : Int32} {x3 : Int32} {Q : Option Value → q_S → Prop} (hst : l.stackTraces = false) (h : wm_L_image bc bs S r0 x1 x2 x3 Q) : q_MetW l D cy lo yL_image cL_image 5 (some .int) [(0, 7, 10, 19), (0, 7, 14, 21)] 7 120 bc bs [va_rf r0, .int x1, .int x2, .int x3] S Q := by
  refine q_bodyW (by decide) (by first | exact Nat.le_of_ble_eq_true rfl | simp [lg_sl, q_cat, q_catI, q_catJ, q_catR]) ?_
  intro p e s m below meth c ls X hNc htab Y hl
  have hx := X.1
  have hb := X.2.1
  have hl : lv_has ls 5 [(0, va_rf r0), (1, .int x1), (2, .int x2), (3, .int x3)] := by first | exact hl | simpa [lv_args, q_cat, q_catI, q_catJ, q_catR] using hl
  generalize hargs : ([va_rf r0, .int x1, .int x2, .int x3] : List Value).toArray = args at X ⊢
  have hu : 0 ≤ bc ∧ 0 ≤ bs := ⟨Nat.zero_le _, Nat.zero_le _⟩
  unfold wm_L_image at h
  refine q_aload_n hx hb dL_image_0 rfl (lv_at hl 0 rfl) ?_
  refine lv_iload_n hx hb dL_image_1 rfl (lv_at hl 1 rfl) ?_
  refine lv_iload_n hx hb dL_image_2 rfl (lv_at hl 2 rfl) ?_
  refine lv_iload_n hx hb dL_image_3 rfl (lv_at hl 3 rfl) ?_
  obtain ⟨a1_, e2_, h⟩ := h
  refine q_nn [.int x3, .int x2, .int x1] e2_ ?_
  obtain ⟨k3_, h⟩ := h
  obtain ⟨m6_, m7_, w8_, h⟩ := h
  refine q_callVC X Y hl (cm_X11_image hst h) mt_X11_image mi_X11_image ml_L_15 (ci := 11) rfl k3_ (by decide) rfl rfl (by first | exact Nat.le_of_ble_eq_true rfl | simp [q_cat, q_catI, q_catJ, q_catR]) ⟨Nat.le_of_ble_eq_true rfl, Nat.le_of_ble_eq_true rfl⟩ w8_ dL_image_4 (fun r4_ S5_ H locs hp Y => ?_) (fun C9_ ce_ q11_ S10_ H locs hE_ Y c12_1 c12_2 c12_3 => ?kx)
  case kx =>
    replace hu := w8_
    replace hE_ := hE_ q11_
    rcases hE_ with ⟨rfl, h⟩ | ⟨rfl, h⟩
    · refine qh_catch X.2.2.2.1 [] (⟨0, 7, 10, 19⟩ : ExceptionTableEntry) [(⟨0, 7, 14, 21⟩ : ExceptionTableEntry)] (by rw [htab]; rfl) (fun _ h_ => nomatch h_) (by decide) (by decide) (X.2.2.2.2.1 _ cl_L_19) (va_Nw.use rfl (X.2.2.2.2.2.2.1.1 _ cs_IOB)) c12_1 c12_2 c12_3 ?_
      refine lv_astore (i := 4) (lv' := [(4, .ref q11_), (0, va_rf r0), (1, .int x1), (2, .int x2), (3, .int x3)]) hx hb dL_image_10 hl (by decide) (by first | rfl | simp [q_cat, q_catI, q_catJ, q_catR]) (fun ls hl => ?_)
      refine lv_iconst (v := 1) hx hb dL_image_12 (by decide) ?_
      exact q_iret X Y rfl hu.1 hu.2 h dL_image_13
    · refine qh_catch X.2.2.2.1 [(⟨0, 7, 10, 19⟩ : ExceptionTableEntry)] (⟨0, 7, 14, 21⟩ : ExceptionTableEntry) [] (by rw [htab]; rfl) (List.forall_mem_cons.mpr ⟨Or.inr ⟨by decide, _, X.2.2.2.2.1 _ cl_L_19, hNc.1⟩, (fun _ h_ => nomatch h_)⟩) (by decide) (by decide) (X.2.2.2.2.1 _ cl_L_21) (va_Nw.use rfl (X.2.2.2.2.2.2.1.1 _ cs_ISE)) c12_1 c12_2 c12_3 ?_
      refine lv_astore (i := 4) (lv' := [(4, .ref q11_), (0, va_rf r0), (1, .int x1), (2, .int x2), (3, .int x3)]) hx hb dL_image_14 hl (by decide) (by first | rfl | simp [q_cat, q_catI, q_catJ, q_catR]) (fun ls hl => ?_)
      refine lv_iconst (v := 2) hx hb dL_image_16 (by decide) ?_
      exact q_iret X Y rfl hu.1 hu.2 h dL_image_17
  obtain ⟨rfl, h⟩ := hp
  replace hu := w8_
  refine W.eq (g2 := F0 m 7 ls []) rfl ?_
  refine lv_goto (tgt := 18) hx hb dL_image_7 (by decide) ?_
  refine lv_iconst (v := 0) hx hb dL_image_18 (by decide) ?_
  exact q_iret X Y rfl hu.1 hu.2 h dL_image_19
-- L_input
theorem ml_L_23 : Cond.methodLink RL 23 yX11_input ∈ q_G := q_tb (i := 1272) (by decide +kernel) (by decide +kernel)
theorem mt_X11_input : q_Mt yX11_input cX11_input 5 none 3 := ⟨q_tb (i := 1275) (by decide +kernel) (by decide +kernel), q_tb (i := 1) (by decide +kernel) (by decide +kernel), by decide +kernel, by decide +kernel, by decide +kernel⟩
theorem mi_X11_input : Cond.instanceMethod yX11_input ∈ q_G ∧ Cond.selects yX11_input.cls yX11_input yX11_input ∈ q_G := ⟨q_tb (i := 1273) (by decide +kernel) (by decide +kernel), q_tb (i := 1274) (by decide +kernel) (by decide +kernel)⟩
theorem dL_input_0 : decode cL_input 0 = .ok (.aload_n 0, 1) := by decide +kernel
theorem dL_input_1 : decode cL_input 1 = .ok (.iload_n 1, 1) := by decide +kernel
theorem dL_input_2 : decode cL_input 2 = .ok (.iload_n 2, 1) := by decide +kernel
theorem dL_input_3 : decode cL_input 3 = .ok (.iload_n 3, 1) := by decide +kernel
theorem dL_input_4 : decode cL_input 4 = .ok (.invokevirtual 23, 3) := by decide +kernel
theorem dL_input_7 : decode cL_input 7 = .ok (.goto 15, 3) := by decide +kernel
theorem dL_input_10 : decode cL_input 10 = .ok (.astore 4, 2) := by decide +kernel
theorem dL_input_12 : decode cL_input 12 = .ok (.iconst 1, 1) := by decide +kernel
theorem dL_input_13 : decode cL_input 13 = .ok (.ireturn, 1) := by decide +kernel
theorem dL_input_14 : decode cL_input 14 = .ok (.astore 4, 2) := by decide +kernel
theorem dL_input_16 : decode cL_input 16 = .ok (.iconst 2, 1) := by decide +kernel
theorem dL_input_17 : decode cL_input 17 = .ok (.ireturn, 1) := by decide +kernel
theorem dL_input_18 : decode cL_input 18 = .ok (.astore 4, 2) := by decide +kernel
theorem dL_input_20 : decode cL_input 20 = .ok (.iconst 3, 1) := by decide +kernel
theorem dL_input_21 : decode cL_input 21 = .ok (.ireturn, 1) := by decide +kernel
theorem dL_input_22 : decode cL_input 22 = .ok (.iconst 0, 1) := by decide +kernel
theorem dL_input_23 : decode cL_input 23 = .ok (.ireturn, 1) := by decide +kernel
def wm_L_input (bc bs : Nat) (S : q_S) (r0 : Option Nat) (x1 : Int32) (x2 : Int32) (x3 : Int32) (Q : Option Value → q_S → Prop) : Prop := ∃ a1_ : Nat, r0 = some a1_ ∧ (q_K S a1_ = 12 ∧ (∃ m6_ m7_ : Nat, (0 + m6_ ≤ bc ∧ 0 + m7_ ≤ bs) ∧ (wm_X11_input m6_ m7_ S a1_ x1 x2 x3 (fun r4_ S5_ => r4_ = none ∧ (Q (some (.int (0 : Int32))) S5_)) (fun C9_ S10_ => ∀ q11_ : Nat, ((C9_ = "java/lang/IndexOutOfBoundsException" ∧ (Q (some (.int (1 : Int32))) S10_)) ∨ (C9_ = "java/lang/IllegalArgumentException" ∧ (Q (some (.int (2 : Int32))) S10_)) ∨ (C9_ = "java/lang/IllegalStateException" ∧ (Q (some (.int (3 : Int32))) S10_)))))))
set_option maxHeartbeats 4000000 in
set_option maxRecDepth 100000 in
theorem cm_L_input {l : Launch} {D : va_G} {cy : Nat → ClassId} {lo : Nat} {bc bs : Nat} {S : q_S} {r0 : Option Nat} {x1 : Int32} {x2 : Int32} {x3 : Int32} {Q : Option Value → q_S → Prop} (hst : l.stackTraces = false) (h : wm_L_input bc bs S r0 x1 x2 x3 Q) : q_MetW l D cy lo yL_input cL_input 5 (some .int) [(0, 7, 10, 19), (0, 7, 14, 13), (0, 7, 18, 21)] 7 120 bc bs [va_rf r0, .int x1, .int x2, .int x3] S Q := by
  refine q_bodyW (by decide) (by first | exact Nat.le_of_ble_eq_true rfl | simp [lg_sl, q_cat, q_catI, q_catJ, q_catR]) ?_
  intro p e s m below meth c ls X hNc htab Y hl
  have hx := X.1
  have hb := X.2.1
  have hl : lv_has ls 5 [(0, va_rf r0), (1, .int x1), (2, .int x2), (3, .int x3)] := by first | exact hl | simpa [lv_args, q_cat, q_catI, q_catJ, q_catR] using hl
  generalize hargs : ([va_rf r0, .int x1, .int x2, .int x3] : List Value).toArray = args at X ⊢
  have hu : 0 ≤ bc ∧ 0 ≤ bs := ⟨Nat.zero_le _, Nat.zero_le _⟩
  unfold wm_L_input at h
  refine q_aload_n hx hb dL_input_0 rfl (lv_at hl 0 rfl) ?_
  refine lv_iload_n hx hb dL_input_1 rfl (lv_at hl 1 rfl) ?_
  refine lv_iload_n hx hb dL_input_2 rfl (lv_at hl 2 rfl) ?_
  refine lv_iload_n hx hb dL_input_3 rfl (lv_at hl 3 rfl) ?_
  obtain ⟨a1_, e2_, h⟩ := h
  refine q_nn [.int x3, .int x2, .int x1] e2_ ?_
  obtain ⟨k3_, h⟩ := h
  obtain ⟨m6_, m7_, w8_, h⟩ := h
  refine q_callVC X Y hl (cm_X11_input hst h) mt_X11_input mi_X11_input ml_L_23 (ci := 11) rfl k3_ (by decide) rfl rfl (by first | exact Nat.le_of_ble_eq_true rfl | simp [q_cat, q_catI, q_catJ, q_catR]) ⟨Nat.le_of_ble_eq_true rfl, Nat.le_of_ble_eq_true rfl⟩ w8_ dL_input_4 (fun r4_ S5_ H locs hp Y => ?_) (fun C9_ ce_ q11_ S10_ H locs hE_ Y c12_1 c12_2 c12_3 => ?kx)
  case kx =>
    replace hu := w8_
    replace hE_ := hE_ q11_
    rcases hE_ with ⟨rfl, h⟩ | ⟨rfl, h⟩ | ⟨rfl, h⟩
    · refine qh_catch X.2.2.2.1 [] (⟨0, 7, 10, 19⟩ : ExceptionTableEntry) [(⟨0, 7, 14, 13⟩ : ExceptionTableEntry), (⟨0, 7, 18, 21⟩ : ExceptionTableEntry)] (by rw [htab]; rfl) (fun _ h_ => nomatch h_) (by decide) (by decide) (X.2.2.2.2.1 _ cl_L_19) (va_Nw.use rfl (X.2.2.2.2.2.2.1.1 _ cs_IOB)) c12_1 c12_2 c12_3 ?_
      refine lv_astore (i := 4) (lv' := [(4, .ref q11_), (0, va_rf r0), (1, .int x1), (2, .int x2), (3, .int x3)]) hx hb dL_input_10 hl (by decide) (by first | rfl | simp [q_cat, q_catI, q_catJ, q_catR]) (fun ls hl => ?_)
      refine lv_iconst (v := 1) hx hb dL_input_12 (by decide) ?_
      exact q_iret X Y rfl hu.1 hu.2 h dL_input_13
    · refine qh_catch X.2.2.2.1 [(⟨0, 7, 10, 19⟩ : ExceptionTableEntry)] (⟨0, 7, 14, 13⟩ : ExceptionTableEntry) [(⟨0, 7, 18, 21⟩ : ExceptionTableEntry)] (by rw [htab]; rfl) (List.forall_mem_cons.mpr ⟨Or.inr ⟨by decide, _, X.2.2.2.2.1 _ cl_L_19, hNc.2.1⟩, (fun _ h_ => nomatch h_)⟩) (by decide) (by decide) (X.2.2.2.2.1 _ cl_L_13) (va_Nw.use rfl (X.2.2.2.2.2.2.1.1 _ cs_IAE)) c12_1 c12_2 c12_3 ?_
      refine lv_astore (i := 4) (lv' := [(4, .ref q11_), (0, va_rf r0), (1, .int x1), (2, .int x2), (3, .int x3)]) hx hb dL_input_14 hl (by decide) (by first | rfl | simp [q_cat, q_catI, q_catJ, q_catR]) (fun ls hl => ?_)
      refine lv_iconst (v := 2) hx hb dL_input_16 (by decide) ?_
      exact q_iret X Y rfl hu.1 hu.2 h dL_input_17
    · refine qh_catch X.2.2.2.1 [(⟨0, 7, 10, 19⟩ : ExceptionTableEntry), (⟨0, 7, 14, 13⟩ : ExceptionTableEntry)] (⟨0, 7, 18, 21⟩ : ExceptionTableEntry) [] (by rw [htab]; rfl) (List.forall_mem_cons.mpr ⟨Or.inr ⟨by decide, _, X.2.2.2.2.1 _ cl_L_19, hNc.1⟩, (List.forall_mem_cons.mpr ⟨Or.inr ⟨by decide, _, X.2.2.2.2.1 _ cl_L_13, hNc.2.2.1⟩, (fun _ h_ => nomatch h_)⟩)⟩) (by decide) (by decide) (X.2.2.2.2.1 _ cl_L_21) (va_Nw.use rfl (X.2.2.2.2.2.2.1.1 _ cs_ISE)) c12_1 c12_2 c12_3 ?_
      refine lv_astore (i := 4) (lv' := [(4, .ref q11_), (0, va_rf r0), (1, .int x1), (2, .int x2), (3, .int x3)]) hx hb dL_input_18 hl (by decide) (by first | rfl | simp [q_cat, q_catI, q_catJ, q_catR]) (fun ls hl => ?_)
      refine lv_iconst (v := 3) hx hb dL_input_20 (by decide) ?_
      exact q_iret X Y rfl hu.1 hu.2 h dL_input_21
  obtain ⟨rfl, h⟩ := hp
  replace hu := w8_
  refine W.eq (g2 := F0 m 7 ls []) rfl ?_
  refine lv_goto (tgt := 22) hx hb dL_input_7 (by decide) ?_
  refine lv_iconst (v := 0) hx hb dL_input_22 (by decide) ?_
  exact q_iret X Y rfl hu.1 hu.2 h dL_input_23
-- L_begin
theorem ml_L_26 : Cond.methodLink RL 26 yX11_begin ∈ q_G := q_tb (i := 1297) (by decide +kernel) (by decide +kernel)
theorem mt_X11_begin : q_Mt yX11_begin cX11_begin 2 none 0 := ⟨q_tb (i := 1300) (by decide +kernel) (by decide +kernel), q_tb (i := 1) (by decide +kernel) (by decide +kernel), by decide +kernel, by decide +kernel, by decide +kernel⟩
theorem mi_X11_begin : Cond.instanceMethod yX11_begin ∈ q_G ∧ Cond.selects yX11_begin.cls yX11_begin yX11_begin ∈ q_G := ⟨q_tb (i := 1298) (by decide +kernel) (by decide +kernel), q_tb (i := 1299) (by decide +kernel) (by decide +kernel)⟩
theorem dL_begin_0 : decode cL_begin 0 = .ok (.aload_n 0, 1) := by decide +kernel
theorem dL_begin_1 : decode cL_begin 1 = .ok (.invokevirtual 26, 3) := by decide +kernel
theorem dL_begin_4 : decode cL_begin 4 = .ok (.goto 6, 3) := by decide +kernel
theorem dL_begin_7 : decode cL_begin 7 = .ok (.astore_n 1, 1) := by decide +kernel
theorem dL_begin_8 : decode cL_begin 8 = .ok (.iconst 1, 1) := by decide +kernel
theorem dL_begin_9 : decode cL_begin 9 = .ok (.ireturn, 1) := by decide +kernel
theorem dL_begin_10 : decode cL_begin 10 = .ok (.iconst 0, 1) := by decide +kernel
theorem dL_begin_11 : decode cL_begin 11 = .ok (.ireturn, 1) := by decide +kernel
def wm_L_begin (bc bs : Nat) (S : q_S) (r0 : Option Nat) (Q : Option Value → q_S → Prop) : Prop := ∃ a1_ : Nat, r0 = some a1_ ∧ (q_K S a1_ = 12 ∧ (∃ m6_ m7_ : Nat, (0 + m6_ ≤ bc ∧ 0 + m7_ ≤ bs) ∧ (wm_X11_begin m6_ m7_ S a1_ (fun r4_ S5_ => r4_ = none ∧ (Q (some (.int (0 : Int32))) S5_)) (fun C9_ S10_ => ∀ q11_ : Nat, ((C9_ = "java/lang/IllegalStateException" ∧ (Q (some (.int (1 : Int32))) S10_)))))))
set_option maxHeartbeats 4000000 in
set_option maxRecDepth 100000 in
theorem cm_L_begin {l : Launch} {D : va_G} {cy : Nat → ClassId} {lo : Nat} {bc bs : Nat} {S : q_S} {r0 : Option Nat} {Q : Option Value → q_S → Prop} (hst : l.stackTraces = false) (h : wm_L_begin bc bs S r0 Q) : q_MetW l D cy lo yL_begin cL_begin 2 (some .int) [(0, 4, 7, 21)] 7 126 bc bs [va_rf r0] S Q := by
  refine q_bodyW (by decide) (by first | exact Nat.le_of_ble_eq_true rfl | simp [lg_sl, q_cat, q_catI, q_catJ, q_catR]) ?_
  intro p e s m below meth c ls X hNc htab Y hl
  have hx := X.1
  have hb := X.2.1
  have hl : lv_has ls 2 [(0, va_rf r0)] := by first | exact hl | simpa [lv_args, q_cat, q_catI, q_catJ, q_catR] using hl
  generalize hargs : ([va_rf r0] : List Value).toArray = args at X ⊢
  have hu : 0 ≤ bc ∧ 0 ≤ bs := ⟨Nat.zero_le _, Nat.zero_le _⟩
  unfold wm_L_begin at h
  refine q_aload_n hx hb dL_begin_0 rfl (lv_at hl 0 rfl) ?_
  obtain ⟨a1_, e2_, h⟩ := h
  refine q_nn [] e2_ ?_
  obtain ⟨k3_, h⟩ := h
  obtain ⟨m6_, m7_, w8_, h⟩ := h
  refine q_callVC X Y hl (cm_X11_begin hst h) mt_X11_begin mi_X11_begin ml_L_26 (ci := 11) rfl k3_ (by decide) rfl rfl (by first | exact Nat.le_of_ble_eq_true rfl | simp [q_cat, q_catI, q_catJ, q_catR]) ⟨Nat.le_of_ble_eq_true rfl, Nat.le_of_ble_eq_true rfl⟩ w8_ dL_begin_1 (fun r4_ S5_ H locs hp Y => ?_) (fun C9_ ce_ q11_ S10_ H locs hE_ Y c12_1 c12_2 c12_3 => ?kx)
  case kx =>
    replace hu := w8_
    replace hE_ := hE_ q11_
    rcases hE_ with ⟨rfl, h⟩
    · refine qh_catch X.2.2.2.1 [] (⟨0, 4, 7, 21⟩ : ExceptionTableEntry) [] (by rw [htab]; rfl) (fun _ h_ => nomatch h_) (by decide) (by decide) (X.2.2.2.2.1 _ cl_L_21) (va_Nw.use rfl (X.2.2.2.2.2.2.1.1 _ cs_ISE)) c12_1 c12_2 c12_3 ?_
      refine lv_astore_n (i := 1) (lv' := [(1, .ref q11_), (0, va_rf r0)]) hx hb dL_begin_7 rfl hl (by decide) (by first | rfl | simp [q_cat, q_catI, q_catJ, q_catR]) (fun ls hl => ?_)
      refine lv_iconst (v := 1) hx hb dL_begin_8 (by decide) ?_
      exact q_iret X Y rfl hu.1 hu.2 h dL_begin_9
  obtain ⟨rfl, h⟩ := hp
  replace hu := w8_
  refine W.eq (g2 := F0 m 4 ls []) rfl ?_
  refine lv_goto (tgt := 10) hx hb dL_begin_4 (by decide) ?_
  refine lv_iconst (v := 0) hx hb dL_begin_10 (by decide) ?_
  exact q_iret X Y rfl hu.1 hu.2 h dL_begin_11
-- L_run
theorem ml_L_29 : Cond.methodLink RL 29 yX11_run ∈ q_G := q_tb (i := 1344) (by decide +kernel) (by decide +kernel)
theorem mt_X11_run : q_Mt yX11_run cX11_run 4 (some .int) 1 := ⟨q_tb (i := 1347) (by decide +kernel) (by decide +kernel), q_tb (i := 1) (by decide +kernel) (by decide +kernel), by decide +kernel, by decide +kernel, by decide +kernel⟩
theorem mi_X11_run : Cond.instanceMethod yX11_run ∈ q_G ∧ Cond.selects yX11_run.cls yX11_run yX11_run ∈ q_G := ⟨q_tb (i := 1345) (by decide +kernel) (by decide +kernel), q_tb (i := 1346) (by decide +kernel) (by decide +kernel)⟩
theorem dL_run_0 : decode cL_run 0 = .ok (.aload_n 2, 1) := by decide +kernel
theorem dL_run_1 : decode cL_run 1 = .ok (.iconst 0, 1) := by decide +kernel
theorem dL_run_2 : decode cL_run 2 = .ok (.aload_n 0, 1) := by decide +kernel
theorem dL_run_3 : decode cL_run 3 = .ok (.iload_n 1, 1) := by decide +kernel
theorem dL_run_4 : decode cL_run 4 = .ok (.invokevirtual 29, 3) := by decide +kernel
theorem dL_run_7 : decode cL_run 7 = .ok (.i2l, 1) := by decide +kernel
theorem dL_run_8 : decode cL_run 8 = .ok (.lastore, 1) := by decide +kernel
theorem dL_run_9 : decode cL_run 9 = .ok (.goto 9, 3) := by decide +kernel
theorem dL_run_12 : decode cL_run 12 = .ok (.astore_n 3, 1) := by decide +kernel
theorem dL_run_13 : decode cL_run 13 = .ok (.iconst 1, 1) := by decide +kernel
theorem dL_run_14 : decode cL_run 14 = .ok (.ireturn, 1) := by decide +kernel
theorem dL_run_15 : decode cL_run 15 = .ok (.astore_n 3, 1) := by decide +kernel
theorem dL_run_16 : decode cL_run 16 = .ok (.iconst 2, 1) := by decide +kernel
theorem dL_run_17 : decode cL_run 17 = .ok (.ireturn, 1) := by decide +kernel
theorem dL_run_18 : decode cL_run 18 = .ok (.iconst 0, 1) := by decide +kernel
theorem dL_run_19 : decode cL_run 19 = .ok (.ireturn, 1) := by decide +kernel
def wm_L_run (bc bs : Nat) (S : q_S) (r0 : Option Nat) (x1 : Int32) (r2 : Option Nat) (Q : Option Value → q_S → Prop) : Prop := ∃ a1_ : Nat, r0 = some a1_ ∧ (q_K S a1_ = 12 ∧ (∃ m6_ m7_ : Nat, (0 + m6_ ≤ bc ∧ 0 + m7_ ≤ bs) ∧ (wm_X11_run m6_ m7_ S a1_ x1 (fun r4_ S5_ => ∃ x9_ : Int32, r4_ = some (.int x9_) ∧ (∃ a14_ : Nat, r2 = some a14_ ∧ (q_K S5_ a14_ = 23 ∧ (vp_in (0 : Int32) (q_N S5_ a14_) ∧ (Q (some (.int (0 : Int32))) (qs_B S5_ a14_ (0 : Int32).toNatClampNeg (x9_.toInt64))))))) (fun C10_ S11_ => ∀ q12_ : Nat, ((C10_ = "java/lang/IllegalStateException" ∧ (Q (some (.int (1 : Int32))) S11_)) ∨ (C10_ = "java/lang/IllegalArgumentException" ∧ (Q (some (.int (2 : Int32))) S11_)))))))
set_option maxHeartbeats 4000000 in
set_option maxRecDepth 100000 in
theorem cm_L_run {l : Launch} {D : va_G} {cy : Nat → ClassId} {lo : Nat} {bc bs : Nat} {S : q_S} {r0 : Option Nat} {x1 : Int32} {r2 : Option Nat} {Q : Option Value → q_S → Prop} (hst : l.stackTraces = false) (h : wm_L_run bc bs S r0 x1 r2 Q) : q_MetW l D cy lo yL_run cL_run 4 (some .int) [(0, 9, 12, 21), (0, 9, 15, 13)] 9 220 bc bs [va_rf r0, .int x1, va_rf r2] S Q := by
  refine q_bodyW (by decide) (by first | exact Nat.le_of_ble_eq_true rfl | simp [lg_sl, q_cat, q_catI, q_catJ, q_catR]) ?_
  intro p e s m below meth c ls X hNc htab Y hl
  have hx := X.1
  have hb := X.2.1
  have hl : lv_has ls 4 [(0, va_rf r0), (1, .int x1), (2, va_rf r2)] := by first | exact hl | simpa [lv_args, q_cat, q_catI, q_catJ, q_catR] using hl
  generalize hargs : ([va_rf r0, .int x1, va_rf r2] : List Value).toArray = args at X ⊢
  have hu : 0 ≤ bc ∧ 0 ≤ bs := ⟨Nat.zero_le _, Nat.zero_le _⟩
  unfold wm_L_run at h
  refine q_aload_n hx hb dL_run_0 rfl (lv_at hl 2 rfl) ?_
  refine lv_iconst (v := 0) hx hb dL_run_1 (by decide) ?_
  refine q_aload_n hx hb dL_run_2 rfl (lv_at hl 0 rfl) ?_
  refine lv_iload_n hx hb dL_run_3 rfl (lv_at hl 1 rfl) ?_
  obtain ⟨a1_, e2_, h⟩ := h
  refine q_nn [.int x1] e2_ ?_
  obtain ⟨k3_, h⟩ := h
  obtain ⟨m6_, m7_, w8_, h⟩ := h
  refine q_callVC X Y hl (cm_X11_run hst h) mt_X11_run mi_X11_run ml_L_29 (ci := 11) rfl k3_ (by decide) rfl rfl (by first | exact Nat.le_of_ble_eq_true rfl | simp [q_cat, q_catI, q_catJ, q_catR]) ⟨Nat.le_of_ble_eq_true rfl, Nat.le_of_ble_eq_true rfl⟩ w8_ dL_run_4 (fun r4_ S5_ H locs hp Y => ?_) (fun C10_ ce_ q12_ S11_ H locs hE_ Y c13_1 c13_2 c13_3 => ?kx)
  case kx =>
    replace hu := w8_
    replace hE_ := hE_ q12_
    rcases hE_ with ⟨rfl, h⟩ | ⟨rfl, h⟩
    · refine qh_catch X.2.2.2.1 [] (⟨0, 9, 12, 21⟩ : ExceptionTableEntry) [(⟨0, 9, 15, 13⟩ : ExceptionTableEntry)] (by rw [htab]; rfl) (fun _ h_ => nomatch h_) (by decide) (by decide) (X.2.2.2.2.1 _ cl_L_21) (va_Nw.use rfl (X.2.2.2.2.2.2.1.1 _ cs_ISE)) c13_1 c13_2 c13_3 ?_
      refine lv_astore_n (i := 3) (lv' := [(3, .ref q12_), (0, va_rf r0), (1, .int x1), (2, va_rf r2)]) hx hb dL_run_12 rfl hl (by decide) (by first | rfl | simp [q_cat, q_catI, q_catJ, q_catR]) (fun ls hl => ?_)
      refine lv_iconst (v := 1) hx hb dL_run_13 (by decide) ?_
      exact q_iret X Y rfl hu.1 hu.2 h dL_run_14
    · refine qh_catch X.2.2.2.1 [(⟨0, 9, 12, 21⟩ : ExceptionTableEntry)] (⟨0, 9, 15, 13⟩ : ExceptionTableEntry) [] (by rw [htab]; rfl) (List.forall_mem_cons.mpr ⟨Or.inr ⟨by decide, _, X.2.2.2.2.1 _ cl_L_21, hNc.2.2.2⟩, (fun _ h_ => nomatch h_)⟩) (by decide) (by decide) (X.2.2.2.2.1 _ cl_L_13) (va_Nw.use rfl (X.2.2.2.2.2.2.1.1 _ cs_IAE)) c13_1 c13_2 c13_3 ?_
      refine lv_astore_n (i := 3) (lv' := [(3, .ref q12_), (0, va_rf r0), (1, .int x1), (2, va_rf r2)]) hx hb dL_run_15 rfl hl (by decide) (by first | rfl | simp [q_cat, q_catI, q_catJ, q_catR]) (fun ls hl => ?_)
      refine lv_iconst (v := 2) hx hb dL_run_16 (by decide) ?_
      exact q_iret X Y rfl hu.1 hu.2 h dL_run_17
  obtain ⟨x9_, rfl, h⟩ := hp
  replace hu := w8_
  refine W.eq (g2 := F0 m 7 ls [.int x9_, .int (0 : Int32), va_rf r2]) rfl ?_
  refine lv_i2l hx hb dL_run_7 rfl ?_
  obtain ⟨a14_, e15_, h⟩ := h
  refine q_nn [.long (x9_.toInt64), .int (0 : Int32)] e15_ ?_
  obtain ⟨k16_, h⟩ := h
  obtain ⟨i17_, h⟩ := h
  refine q_lst X Y k16_ i17_ dL_run_8 (fun H locs Y => ?_)
  refine lv_goto (tgt := 18) hx hb dL_run_9 (by decide) ?_
  refine lv_iconst (v := 0) hx hb dL_run_18 (by decide) ?_
  exact q_iret X Y rfl hu.1 hu.2 h dL_run_19
