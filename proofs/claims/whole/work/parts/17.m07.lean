-- X11_peek
theorem ml_X11_85 : Cond.methodLink RX11 85 yX6_partitionAt ∈ q_G := q_tb (i := 326) (by decide +kernel) (by decide +kernel)
theorem ml_X11_95 : Cond.methodLink RX11 95 yX4_hasWord ∈ q_G := q_tb (i := 330) (by decide +kernel) (by decide +kernel)
theorem mt_X4_hasWord : q_Mt yX4_hasWord cX4_hasWord 2 (some .boolean) 1 := ⟨q_tb (i := 333) (by decide +kernel) (by decide +kernel), q_tb (i := 21) (by decide +kernel) (by decide +kernel), by decide +kernel, by decide +kernel, by decide +kernel⟩
theorem mi_X4_hasWord : Cond.instanceMethod yX4_hasWord ∈ q_G ∧ Cond.selects yX4_hasWord.cls yX4_hasWord yX4_hasWord ∈ q_G := ⟨q_tb (i := 331) (by decide +kernel) (by decide +kernel), q_tb (i := 332) (by decide +kernel) (by decide +kernel)⟩
theorem fl_X11_75 : Cond.fieldLink RX11 75 "PartitionWorks$Plan" "begun" "Z" ∈ q_G := q_tb (i := 106) (by decide +kernel) (by decide +kernel)
theorem fl_X11_106 : Cond.fieldLink RX11 106 "PartitionWorks$Memory" "image" "[I" ∈ q_G := q_tb (i := 664) (by decide +kernel) (by decide +kernel)
theorem fl_X11_248 : Cond.fieldLink RX11 248 "PartitionWorks$Memory" "words" "[I" ∈ q_G := q_tb (i := 662) (by decide +kernel) (by decide +kernel)
theorem dX11_peek_0 : decode cX11_peek 0 = .ok (.aload_n 0, 1) := by decide +kernel
theorem dX11_peek_1 : decode cX11_peek 1 = .ok (.getfield 20, 3) := by decide +kernel
theorem dX11_peek_4 : decode cX11_peek 4 = .ok (.iload_n 1, 1) := by decide +kernel
theorem dX11_peek_5 : decode cX11_peek 5 = .ok (.invokevirtual 85, 3) := by decide +kernel
theorem dX11_peek_8 : decode cX11_peek 8 = .ok (.astore_n 3, 1) := by decide +kernel
theorem dX11_peek_9 : decode cX11_peek 9 = .ok (.aload_n 3, 1) := by decide +kernel
theorem dX11_peek_10 : decode cX11_peek 10 = .ok (.ifnull 14, 3) := by decide +kernel
theorem dX11_peek_13 : decode cX11_peek 13 = .ok (.aload_n 3, 1) := by decide +kernel
theorem dX11_peek_14 : decode cX11_peek 14 = .ok (.getfield 89, 3) := by decide +kernel
theorem dX11_peek_17 : decode cX11_peek 17 = .ok (.iload_n 2, 1) := by decide +kernel
theorem dX11_peek_18 : decode cX11_peek 18 = .ok (.invokevirtual 95, 3) := by decide +kernel
theorem dX11_peek_21 : decode cX11_peek 21 = .ok (.ifCond .ne 5, 3) := by decide +kernel
theorem dX11_peek_24 : decode cX11_peek 24 = .ok (.iconst 0, 1) := by decide +kernel
theorem dX11_peek_25 : decode cX11_peek 25 = .ok (.ireturn, 1) := by decide +kernel
theorem dX11_peek_26 : decode cX11_peek 26 = .ok (.aload_n 0, 1) := by decide +kernel
theorem dX11_peek_27 : decode cX11_peek 27 = .ok (.getfield 20, 3) := by decide +kernel
theorem dX11_peek_30 : decode cX11_peek 30 = .ok (.getfield 75, 3) := by decide +kernel
theorem dX11_peek_33 : decode cX11_peek 33 = .ok (.ifCond .eq 17, 3) := by decide +kernel
theorem dX11_peek_36 : decode cX11_peek 36 = .ok (.aload_n 3, 1) := by decide +kernel
theorem dX11_peek_37 : decode cX11_peek 37 = .ok (.getfield 89, 3) := by decide +kernel
theorem dX11_peek_40 : decode cX11_peek 40 = .ok (.getfield 248, 3) := by decide +kernel
theorem dX11_peek_43 : decode cX11_peek 43 = .ok (.iload_n 2, 1) := by decide +kernel
theorem dX11_peek_44 : decode cX11_peek 44 = .ok (.iconst 2, 1) := by decide +kernel
theorem dX11_peek_45 : decode cX11_peek 45 = .ok (.ishr, 1) := by decide +kernel
theorem dX11_peek_46 : decode cX11_peek 46 = .ok (.iaload, 1) := by decide +kernel
theorem dX11_peek_47 : decode cX11_peek 47 = .ok (.goto 14, 3) := by decide +kernel
theorem dX11_peek_50 : decode cX11_peek 50 = .ok (.aload_n 3, 1) := by decide +kernel
theorem dX11_peek_51 : decode cX11_peek 51 = .ok (.getfield 89, 3) := by decide +kernel
theorem dX11_peek_54 : decode cX11_peek 54 = .ok (.getfield 106, 3) := by decide +kernel
theorem dX11_peek_57 : decode cX11_peek 57 = .ok (.iload_n 2, 1) := by decide +kernel
theorem dX11_peek_58 : decode cX11_peek 58 = .ok (.iconst 2, 1) := by decide +kernel
theorem dX11_peek_59 : decode cX11_peek 59 = .ok (.ishr, 1) := by decide +kernel
theorem dX11_peek_60 : decode cX11_peek 60 = .ok (.iaload, 1) := by decide +kernel
theorem dX11_peek_61 : decode cX11_peek 61 = .ok (.ireturn, 1) := by decide +kernel
def wb_X11_peek_24  (S : q_S) (Q : Option Value → q_S → Prop) : Prop := Q (some (.int (0 : Int32))) S
set_option maxHeartbeats 4000000 in
set_option maxRecDepth 100000 in
theorem cb_X11_peek_24 {p : Program} {l : Launch} {e : Env} {s : State} {m : MethodId} {args : Array Value} {below : List Frame} {meth : Method} {c : Code} {D : va_G} {cy : Nat → ClassId} {lo : Nat}  {S : q_S} {Q : Option Value → q_S → Prop} {H : Heap} {locs : List Loc} {ls : Array Slot} (X : q_X p s m args meth c RX11 cX11_peek 4 (some .int) D cy lo)  (Y : q_Y D cy lo s S H locs) (hl : lv_has ls 4 []) (h : wb_X11_peek_24 S Q) : W p l e ({ frames := 1, cells := 0, slots := 0, locals := 21 } : Room) s m args below meth c H locs 0 0 (MQ below (q_Q D cy lo Q) args s 0 0 (fun q => lo ≤ q)) (F0 m 24 ls []) := by
  have hx := X.1
  have hb := X.2.1
  unfold wb_X11_peek_24 at h
  refine lv_iconst (v := 0) hx hb dX11_peek_24 (by decide) ?_
  exact q_iret X Y rfl (Nat.le_refl _) (Nat.le_refl _) h dX11_peek_25
def wb_X11_peek_61  (S : q_S) (xs0 : Int32) (Q : Option Value → q_S → Prop) : Prop := Q (some (.int xs0)) S
set_option maxHeartbeats 4000000 in
set_option maxRecDepth 100000 in
theorem cb_X11_peek_61 {p : Program} {l : Launch} {e : Env} {s : State} {m : MethodId} {args : Array Value} {below : List Frame} {meth : Method} {c : Code} {D : va_G} {cy : Nat → ClassId} {lo : Nat}  {S : q_S} {xs0 : Int32} {Q : Option Value → q_S → Prop} {H : Heap} {locs : List Loc} {ls : Array Slot} (X : q_X p s m args meth c RX11 cX11_peek 4 (some .int) D cy lo)  (Y : q_Y D cy lo s S H locs) (hl : lv_has ls 4 []) (h : wb_X11_peek_61 S xs0 Q) : W p l e ({ frames := 1, cells := 0, slots := 0, locals := 21 } : Room) s m args below meth c H locs 0 0 (MQ below (q_Q D cy lo Q) args s 0 0 (fun q => lo ≤ q)) (F0 m 61 ls [.int xs0]) := by
  have hx := X.1
  have hb := X.2.1
  unfold wb_X11_peek_61 at h
  exact q_iret X Y rfl (Nat.le_refl _) (Nat.le_refl _) h dX11_peek_61
def wm_X11_peek (S : q_S) (a0 : Nat) (x1 : Int32) (x2 : Int32) (Q : Option Value → q_S → Prop) : Prop := q_K S a0 = 12 ∧ (∃ a2_ : Nat, (q_P S 2201 a0) = some a2_ ∧ (q_K S a2_ = 7 ∧ (wm_X6_partitionAt S a2_ x1 (fun r5_ S6_ => ∃ r7_ : Option Nat, r5_ = some (va_rf r7_) ∧ (((r7_ = none → (wb_X11_peek_24 S6_ Q)) ∧ (¬ r7_ = none → (∃ a9_ : Nat, r7_ = some a9_ ∧ (q_K S6_ a9_ = 6 ∧ (∃ a12_ : Nat, (q_P S6_ 1002 a9_) = some a12_ ∧ (q_K S6_ a12_ = 5 ∧ (wm_X4_hasWord S6_ a12_ x2 (fun r15_ S16_ => ∃ x17_ : Int32, r15_ = some (.int x17_) ∧ (((¬ x17_ = 0 → (q_K S16_ a0 = 12 ∧ (∃ a20_ : Nat, (q_P S16_ 2201 a0) = some a20_ ∧ (q_K S16_ a20_ = 7 ∧ ((((q_I S16_ 1214 a20_) = 0 → (q_K S16_ a9_ = 6 ∧ (∃ a25_ : Nat, (q_P S16_ 1002 a9_) = some a25_ ∧ (q_K S16_ a25_ = 5 ∧ (∃ a28_ : Nat, (q_P S16_ 802 a25_) = some a28_ ∧ (q_K S16_ a28_ = 21 ∧ (vp_in (x2 >>> ((2 : Int32) &&& 31)) (q_N S16_ a28_) ∧ (wb_X11_peek_61 S16_ (q_A S16_ a28_ (x2 >>> ((2 : Int32) &&& 31)).toNatClampNeg) Q)))))))) ∧ (¬ (q_I S16_ 1214 a20_) = 0 → (q_K S16_ a9_ = 6 ∧ (∃ a33_ : Nat, (q_P S16_ 1002 a9_) = some a33_ ∧ (q_K S16_ a33_ = 5 ∧ (∃ a36_ : Nat, (q_P S16_ 801 a33_) = some a36_ ∧ (q_K S16_ a36_ = 21 ∧ (vp_in (x2 >>> ((2 : Int32) &&& 31)) (q_N S16_ a36_) ∧ (wb_X11_peek_61 S16_ (q_A S16_ a36_ (x2 >>> ((2 : Int32) &&& 31)).toNatClampNeg) Q)))))))))))))) ∧ (x17_ = 0 → (wb_X11_peek_24 S16_ Q)))))))))))))))))
set_option maxHeartbeats 4000000 in
set_option maxRecDepth 100000 in
theorem cm_X11_peek {l : Launch} {D : va_G} {cy : Nat → ClassId} {lo : Nat} {S : q_S} {a0 : Nat} {x1 : Int32} {x2 : Int32} {Q : Option Value → q_S → Prop} (h : wm_X11_peek S a0 x1 x2 Q) : q_Met l D cy lo yX11_peek cX11_peek 4 (some .int) 1 21 0 0 [.ref a0, .int x1, .int x2] S Q := by
  refine q_body (by decide) (by first | exact Nat.le_of_ble_eq_true rfl | simp [lg_sl, q_cat, q_catI, q_catJ, q_catR]) ?_
  intro p e s m below meth c ls X hnm Y hl
  have hx := X.1
  have hb := X.2.1
  have hl : lv_has ls 4 [(0, .ref a0), (1, .int x1), (2, .int x2)] := by first | exact hl | simpa [lv_args, q_cat, q_catI, q_catJ, q_catR] using hl
  generalize hargs : ([.ref a0, .int x1, .int x2] : List Value).toArray = args at X ⊢
  unfold wm_X11_peek at h
  refine lv_aload_n hx hb dX11_peek_0 rfl (lv_at hl 0 rfl) ?_
  obtain ⟨k1_, h⟩ := h
  refine q_getP X Y kX11 1 rfl fl_X11_20 k1_ rfl dX11_peek_1 ?_
  refine lv_iload_n hx hb dX11_peek_4 rfl (lv_at hl 1 rfl) ?_
  obtain ⟨a2_, e3_, h⟩ := h
  refine q_nn [.int x1] e3_ ?_
  obtain ⟨k4_, h⟩ := h
  refine q_callV X Y hl (cm_X6_partitionAt h) mt_X6_partitionAt mi_X6_partitionAt ml_X11_85 (ci := 6) rfl k4_ (by decide) rfl rfl (by first | exact Nat.le_of_ble_eq_true rfl | simp [q_cat, q_catI, q_catJ, q_catR]) ⟨Nat.le_of_ble_eq_true rfl, Nat.le_of_ble_eq_true rfl⟩ ⟨Nat.le_of_ble_eq_true rfl, Nat.le_of_ble_eq_true rfl⟩ dX11_peek_5 (fun r5_ S6_ H locs hp Y => ?_)
  obtain ⟨r7_, rfl, h⟩ := hp
  refine W.eq (g2 := F0 m 8 ls [va_rf r7_]) rfl ?_
  refine q_astore_n (i := 3) (lv' := [(3, va_rf r7_), (0, .ref a0), (1, .int x1), (2, .int x2)]) hx hb dX11_peek_8 rfl hl (by decide) (by first | rfl | simp [q_cat, q_catI, q_catJ, q_catR]) (fun ls hl => ?_)
  refine q_aload_n hx hb dX11_peek_9 rfl (lv_at hl 0 rfl) ?_
  refine q_ifnull (r := r7_) (tgt := 24) hx hb dX11_peek_10 (by decide) (fun c8_ => ?_) (fun c8_ => ?_)
  · replace h := h.1 c8_
    exact cb_X11_peek_24 X Y (lv_sub hl [] rfl) h
  · replace h := h.2 c8_
    refine q_aload_n hx hb dX11_peek_13 rfl (lv_at hl 0 rfl) ?_
    obtain ⟨a9_, e10_, h⟩ := h
    refine q_nn [] e10_ ?_
    obtain ⟨k11_, h⟩ := h
    refine q_getP X Y kX5 2 rfl fl_X11_89 k11_ rfl dX11_peek_14 ?_
    refine lv_iload_n hx hb dX11_peek_17 rfl (lv_at hl 3 rfl) ?_
    obtain ⟨a12_, e13_, h⟩ := h
    refine q_nn [.int x2] e13_ ?_
    obtain ⟨k14_, h⟩ := h
    refine q_callV X Y hl (cm_X4_hasWord h) mt_X4_hasWord mi_X4_hasWord ml_X11_95 (ci := 4) rfl k14_ (by decide) rfl rfl (by first | exact Nat.le_of_ble_eq_true rfl | simp [q_cat, q_catI, q_catJ, q_catR]) ⟨Nat.le_of_ble_eq_true rfl, Nat.le_of_ble_eq_true rfl⟩ ⟨Nat.le_of_ble_eq_true rfl, Nat.le_of_ble_eq_true rfl⟩ dX11_peek_18 (fun r15_ S16_ H locs hp Y => ?_)
    obtain ⟨x17_, rfl, h⟩ := hp
    refine W.eq (g2 := F0 m 21 ls [.int x17_]) rfl ?_
    refine lv_if_ne (tgt := 26) hx hb dX11_peek_21 (by decide) (fun c18_ => ?_) (fun c18_ => ?_)
    · replace h := h.1 c18_
      refine lv_aload_n hx hb dX11_peek_26 rfl (lv_at hl 1 rfl) ?_
      obtain ⟨k19_, h⟩ := h
      refine q_getP X Y kX11 1 rfl fl_X11_20 k19_ rfl dX11_peek_27 ?_
      obtain ⟨a20_, e21_, h⟩ := h
      refine q_nn [] e21_ ?_
      obtain ⟨k22_, h⟩ := h
      refine q_getI X Y kX6 14 rfl fl_X11_75 k22_ dX11_peek_30 ?_
      refine lv_if_eq (tgt := 50) hx hb dX11_peek_33 (by decide) (fun c23_ => ?_) (fun c23_ => ?_)
      · replace h := h.1 c23_
        refine q_aload_n hx hb dX11_peek_50 rfl (lv_at hl 0 rfl) ?_
        refine q_nn [] e10_ ?_
        obtain ⟨k24_, h⟩ := h
        refine q_getP X Y kX5 2 rfl fl_X11_89 k24_ rfl dX11_peek_51 ?_
        obtain ⟨a25_, e26_, h⟩ := h
        refine q_nn [] e26_ ?_
        obtain ⟨k27_, h⟩ := h
        refine q_getP X Y kX4 2 rfl fl_X11_106 k27_ rfl dX11_peek_54 ?_
        refine lv_iload_n hx hb dX11_peek_57 rfl (lv_at hl 3 rfl) ?_
        refine lv_iconst (v := 2) hx hb dX11_peek_58 (by decide) ?_
        refine lv_ishr hx hb dX11_peek_59 ?_
        obtain ⟨a28_, e29_, h⟩ := h
        refine q_nn [.int (x2 >>> ((2 : Int32) &&& 31))] e29_ ?_
        obtain ⟨k30_, h⟩ := h
        obtain ⟨i31_, h⟩ := h
        refine q_ild X Y k30_ i31_ dX11_peek_60 ?_
        exact cb_X11_peek_61 X Y (lv_sub hl [] rfl) h
      · replace h := h.2 c23_
        refine q_aload_n hx hb dX11_peek_36 rfl (lv_at hl 0 rfl) ?_
        refine q_nn [] e10_ ?_
        obtain ⟨k32_, h⟩ := h
        refine q_getP X Y kX5 2 rfl fl_X11_89 k32_ rfl dX11_peek_37 ?_
        obtain ⟨a33_, e34_, h⟩ := h
        refine q_nn [] e34_ ?_
        obtain ⟨k35_, h⟩ := h
        refine q_getP X Y kX4 1 rfl fl_X11_248 k35_ rfl dX11_peek_40 ?_
        refine lv_iload_n hx hb dX11_peek_43 rfl (lv_at hl 3 rfl) ?_
        refine lv_iconst (v := 2) hx hb dX11_peek_44 (by decide) ?_
        refine lv_ishr hx hb dX11_peek_45 ?_
        obtain ⟨a36_, e37_, h⟩ := h
        refine q_nn [.int (x2 >>> ((2 : Int32) &&& 31))] e37_ ?_
        obtain ⟨k38_, h⟩ := h
        obtain ⟨i39_, h⟩ := h
        refine q_ild X Y k38_ i39_ dX11_peek_46 ?_
        refine lv_goto (tgt := 61) hx hb dX11_peek_47 (by decide) ?_
        exact cb_X11_peek_61 X Y (lv_sub hl [] rfl) h
    · replace h := h.2 c18_
      exact cb_X11_peek_24 X Y (lv_sub hl [] rfl) h
-- X11_register
theorem ml_X11_251 : Cond.methodLink RX11 251 yX6_processAt ∈ q_G := q_tb (i := 338) (by decide +kernel) (by decide +kernel)
theorem mt_X6_processAt : q_Mt yX6_processAt cX6_processAt 4 (some (.object "PartitionWorks$Process")) 2 := ⟨q_tb (i := 341) (by decide +kernel) (by decide +kernel), q_tb (i := 3) (by decide +kernel) (by decide +kernel), by decide +kernel, by decide +kernel, by decide +kernel⟩
theorem mi_X6_processAt : Cond.instanceMethod yX6_processAt ∈ q_G ∧ Cond.selects yX6_processAt.cls yX6_processAt yX6_processAt ∈ q_G := ⟨q_tb (i := 339) (by decide +kernel) (by decide +kernel), q_tb (i := 340) (by decide +kernel) (by decide +kernel)⟩
theorem dX11_register_0 : decode cX11_register 0 = .ok (.aload_n 0, 1) := by decide +kernel
theorem dX11_register_1 : decode cX11_register 1 = .ok (.getfield 20, 3) := by decide +kernel
theorem dX11_register_4 : decode cX11_register 4 = .ok (.iload_n 1, 1) := by decide +kernel
theorem dX11_register_5 : decode cX11_register 5 = .ok (.iload_n 2, 1) := by decide +kernel
theorem dX11_register_6 : decode cX11_register 6 = .ok (.invokevirtual 251, 3) := by decide +kernel
theorem dX11_register_9 : decode cX11_register 9 = .ok (.astore 4, 2) := by decide +kernel
theorem dX11_register_11 : decode cX11_register 11 = .ok (.aload 4, 2) := by decide +kernel
theorem dX11_register_13 : decode cX11_register 13 = .ok (.ifnull 13, 3) := by decide +kernel
theorem dX11_register_16 : decode cX11_register 16 = .ok (.iload_n 3, 1) := by decide +kernel
theorem dX11_register_17 : decode cX11_register 17 = .ok (.ifCond .lt 9, 3) := by decide +kernel
theorem dX11_register_20 : decode cX11_register 20 = .ok (.iload_n 3, 1) := by decide +kernel
theorem dX11_register_21 : decode cX11_register 21 = .ok (.bipush 31, 2) := by decide +kernel
theorem dX11_register_23 : decode cX11_register 23 = .ok (.if_icmp .le 7, 3) := by decide +kernel
theorem dX11_register_26 : decode cX11_register 26 = .ok (.iconst 0, 1) := by decide +kernel
theorem dX11_register_27 : decode cX11_register 27 = .ok (.goto 10, 3) := by decide +kernel
theorem dX11_register_30 : decode cX11_register 30 = .ok (.aload 4, 2) := by decide +kernel
theorem dX11_register_32 : decode cX11_register 32 = .ok (.getfield 195, 3) := by decide +kernel
theorem dX11_register_35 : decode cX11_register 35 = .ok (.iload_n 3, 1) := by decide +kernel
theorem dX11_register_36 : decode cX11_register 36 = .ok (.iaload, 1) := by decide +kernel
theorem dX11_register_37 : decode cX11_register 37 = .ok (.ireturn, 1) := by decide +kernel
def wb_X11_register_37  (S : q_S) (xs0 : Int32) (Q : Option Value → q_S → Prop) : Prop := Q (some (.int xs0)) S
set_option maxHeartbeats 4000000 in
set_option maxRecDepth 100000 in
theorem cb_X11_register_37 {p : Program} {l : Launch} {e : Env} {s : State} {m : MethodId} {args : Array Value} {below : List Frame} {meth : Method} {c : Code} {D : va_G} {cy : Nat → ClassId} {lo : Nat}  {S : q_S} {xs0 : Int32} {Q : Option Value → q_S → Prop} {H : Heap} {locs : List Loc} {ls : Array Slot} (X : q_X p s m args meth c RX11 cX11_register 5 (some .int) D cy lo)  (Y : q_Y D cy lo s S H locs) (hl : lv_has ls 5 []) (h : wb_X11_register_37 S xs0 Q) : W p l e ({ frames := 2, cells := 0, slots := 0, locals := 44 } : Room) s m args below meth c H locs 0 0 (MQ below (q_Q D cy lo Q) args s 0 0 (fun q => lo ≤ q)) (F0 m 37 ls [.int xs0]) := by
  have hx := X.1
  have hb := X.2.1
  unfold wb_X11_register_37 at h
  exact q_iret X Y rfl (Nat.le_refl _) (Nat.le_refl _) h dX11_register_37
def wb_X11_register_26  (S : q_S) (Q : Option Value → q_S → Prop) : Prop := wb_X11_register_37 S (0 : Int32) Q
set_option maxHeartbeats 4000000 in
set_option maxRecDepth 100000 in
theorem cb_X11_register_26 {p : Program} {l : Launch} {e : Env} {s : State} {m : MethodId} {args : Array Value} {below : List Frame} {meth : Method} {c : Code} {D : va_G} {cy : Nat → ClassId} {lo : Nat}  {S : q_S} {Q : Option Value → q_S → Prop} {H : Heap} {locs : List Loc} {ls : Array Slot} (X : q_X p s m args meth c RX11 cX11_register 5 (some .int) D cy lo)  (Y : q_Y D cy lo s S H locs) (hl : lv_has ls 5 []) (h : wb_X11_register_26 S Q) : W p l e ({ frames := 2, cells := 0, slots := 0, locals := 44 } : Room) s m args below meth c H locs 0 0 (MQ below (q_Q D cy lo Q) args s 0 0 (fun q => lo ≤ q)) (F0 m 26 ls []) := by
  have hx := X.1
  have hb := X.2.1
  unfold wb_X11_register_26 at h
  refine lv_iconst (v := 0) hx hb dX11_register_26 (by decide) ?_
  refine lv_goto (tgt := 37) hx hb dX11_register_27 (by decide) ?_
  exact cb_X11_register_37 X Y (lv_sub hl [] rfl) h
def wm_X11_register (S : q_S) (a0 : Nat) (x1 : Int32) (x2 : Int32) (x3 : Int32) (Q : Option Value → q_S → Prop) : Prop := q_K S a0 = 12 ∧ (∃ a2_ : Nat, (q_P S 2201 a0) = some a2_ ∧ (q_K S a2_ = 7 ∧ (wm_X6_processAt S a2_ x1 x2 (fun r5_ S6_ => ∃ r7_ : Option Nat, r5_ = some (va_rf r7_) ∧ (((r7_ = none → (wb_X11_register_26 S6_ Q)) ∧ (¬ r7_ = none → (((x3 < 0 → (wb_X11_register_26 S6_ Q)) ∧ (¬ x3 < 0 → (((x3 ≤ (31 : Int32) → (∃ a11_ : Nat, r7_ = some a11_ ∧ (q_K S6_ a11_ = 8 ∧ (∃ a14_ : Nat, (q_P S6_ 1411 a11_) = some a14_ ∧ (q_K S6_ a14_ = 21 ∧ (vp_in x3 (q_N S6_ a14_) ∧ (wb_X11_register_37 S6_ (q_A S6_ a14_ x3.toNatClampNeg) Q))))))) ∧ (¬ x3 ≤ (31 : Int32) → (wb_X11_register_26 S6_ Q))))))))))))))
set_option maxHeartbeats 4000000 in
set_option maxRecDepth 100000 in
theorem cm_X11_register {l : Launch} {D : va_G} {cy : Nat → ClassId} {lo : Nat} {S : q_S} {a0 : Nat} {x1 : Int32} {x2 : Int32} {x3 : Int32} {Q : Option Value → q_S → Prop} (h : wm_X11_register S a0 x1 x2 x3 Q) : q_Met l D cy lo yX11_register cX11_register 5 (some .int) 2 44 0 0 [.ref a0, .int x1, .int x2, .int x3] S Q := by
  refine q_body (by decide) (by first | exact Nat.le_of_ble_eq_true rfl | simp [lg_sl, q_cat, q_catI, q_catJ, q_catR]) ?_
  intro p e s m below meth c ls X hnm Y hl
  have hx := X.1
  have hb := X.2.1
  have hl : lv_has ls 5 [(0, .ref a0), (1, .int x1), (2, .int x2), (3, .int x3)] := by first | exact hl | simpa [lv_args, q_cat, q_catI, q_catJ, q_catR] using hl
  generalize hargs : ([.ref a0, .int x1, .int x2, .int x3] : List Value).toArray = args at X ⊢
  unfold wm_X11_register at h
  refine lv_aload_n hx hb dX11_register_0 rfl (lv_at hl 0 rfl) ?_
  obtain ⟨k1_, h⟩ := h
  refine q_getP X Y kX11 1 rfl fl_X11_20 k1_ rfl dX11_register_1 ?_
  refine lv_iload_n hx hb dX11_register_4 rfl (lv_at hl 1 rfl) ?_
  refine lv_iload_n hx hb dX11_register_5 rfl (lv_at hl 2 rfl) ?_
  obtain ⟨a2_, e3_, h⟩ := h
  refine q_nn [.int x2, .int x1] e3_ ?_
  obtain ⟨k4_, h⟩ := h
  refine q_callV X Y hl (cm_X6_processAt h) mt_X6_processAt mi_X6_processAt ml_X11_251 (ci := 6) rfl k4_ (by decide) rfl rfl (by first | exact Nat.le_of_ble_eq_true rfl | simp [q_cat, q_catI, q_catJ, q_catR]) ⟨Nat.le_of_ble_eq_true rfl, Nat.le_of_ble_eq_true rfl⟩ ⟨Nat.le_of_ble_eq_true rfl, Nat.le_of_ble_eq_true rfl⟩ dX11_register_6 (fun r5_ S6_ H locs hp Y => ?_)
  obtain ⟨r7_, rfl, h⟩ := hp
  refine W.eq (g2 := F0 m 9 ls [va_rf r7_]) rfl ?_
  refine q_astore (i := 4) (lv' := [(4, va_rf r7_), (0, .ref a0), (1, .int x1), (2, .int x2), (3, .int x3)]) hx hb dX11_register_9 hl (by decide) (by first | rfl | simp [q_cat, q_catI, q_catJ, q_catR]) (fun ls hl => ?_)
  refine q_aload hx hb dX11_register_11 (lv_at hl 0 rfl) ?_
  refine q_ifnull (r := r7_) (tgt := 26) hx hb dX11_register_13 (by decide) (fun c8_ => ?_) (fun c8_ => ?_)
  · replace h := h.1 c8_
    exact cb_X11_register_26 X Y (lv_sub hl [] rfl) h
  · replace h := h.2 c8_
    refine lv_iload_n hx hb dX11_register_16 rfl (lv_at hl 4 rfl) ?_
    refine lv_if_lt (tgt := 26) hx hb dX11_register_17 (by decide) (fun c9_ => ?_) (fun c9_ => ?_)
    · replace h := h.1 c9_
      exact cb_X11_register_26 X Y (lv_sub hl [] rfl) h
    · replace h := h.2 c9_
      refine lv_iload_n hx hb dX11_register_20 rfl (lv_at hl 4 rfl) ?_
      refine lv_bipush (v := 31) hx hb dX11_register_21 (by decide) ?_
      refine lv_icmp_le (tgt := 30) hx hb dX11_register_23 (by decide) (fun c10_ => ?_) (fun c10_ => ?_)
      · replace h := h.1 c10_
        refine q_aload hx hb dX11_register_30 (lv_at hl 0 rfl) ?_
        obtain ⟨a11_, e12_, h⟩ := h
        refine q_nn [] e12_ ?_
        obtain ⟨k13_, h⟩ := h
        refine q_getP X Y kX7 11 rfl fl_X11_195 k13_ rfl dX11_register_32 ?_
        refine lv_iload_n hx hb dX11_register_35 rfl (lv_at hl 4 rfl) ?_
        obtain ⟨a14_, e15_, h⟩ := h
        refine q_nn [.int x3] e15_ ?_
        obtain ⟨k16_, h⟩ := h
        obtain ⟨i17_, h⟩ := h
        refine q_ild X Y k16_ i17_ dX11_register_36 ?_
        exact cb_X11_register_37 X Y (lv_sub hl [] rfl) h
      · replace h := h.2 c10_
        exact cb_X11_register_26 X Y (lv_sub hl [] rfl) h
-- X11_state
theorem fl_X11_255 : Cond.fieldLink RX11 255 "PartitionWorks$Process" "state" "I" ∈ q_G := q_tb (i := 873) (by decide +kernel) (by decide +kernel)
theorem fl_X11_258 : Cond.fieldLink RX11 258 "PartitionWorks$Process" "priority" "I" ∈ q_G := q_tb (i := 851) (by decide +kernel) (by decide +kernel)
theorem fl_X11_261 : Cond.fieldLink RX11 261 "PartitionWorks$Process" "until" "I" ∈ q_G := q_tb (i := 888) (by decide +kernel) (by decide +kernel)
theorem fl_X11_264 : Cond.fieldLink RX11 264 "PartitionWorks$Process" "release" "I" ∈ q_G := q_tb (i := 893) (by decide +kernel) (by decide +kernel)
theorem fl_X11_267 : Cond.fieldLink RX11 267 "PartitionWorks$Process" "handler" "Z" ∈ q_G := q_tb (i := 865) (by decide +kernel) (by decide +kernel)
theorem fl_X11_270 : Cond.fieldLink RX11 270 "PartitionWorks$Process" "held" "Z" ∈ q_G := q_tb (i := 895) (by decide +kernel) (by decide +kernel)
theorem dX11_state_0 : decode cX11_state 0 = .ok (.aload_n 0, 1) := by decide +kernel
theorem dX11_state_1 : decode cX11_state 1 = .ok (.getfield 20, 3) := by decide +kernel
theorem dX11_state_4 : decode cX11_state 4 = .ok (.iload_n 1, 1) := by decide +kernel
theorem dX11_state_5 : decode cX11_state 5 = .ok (.iload_n 2, 1) := by decide +kernel
theorem dX11_state_6 : decode cX11_state 6 = .ok (.invokevirtual 251, 3) := by decide +kernel
theorem dX11_state_9 : decode cX11_state 9 = .ok (.astore 4, 2) := by decide +kernel
theorem dX11_state_11 : decode cX11_state 11 = .ok (.aload 4, 2) := by decide +kernel
theorem dX11_state_13 : decode cX11_state 13 = .ok (.ifnonnull 5, 3) := by decide +kernel
theorem dX11_state_16 : decode cX11_state 16 = .ok (.iconst (-1), 1) := by decide +kernel
theorem dX11_state_17 : decode cX11_state 17 = .ok (.ireturn, 1) := by decide +kernel
theorem dX11_state_18 : decode cX11_state 18 = .ok (.iload_n 3, 1) := by decide +kernel
theorem dX11_state_19 : decode cX11_state 19 = .ok (.tableswitch 119 0 8 #[49, 55, 61, 67, 73, 79, 85, 91, 105], 49) := by decide +kernel
theorem dX11_state_68 : decode cX11_state 68 = .ok (.aload 4, 2) := by decide +kernel
theorem dX11_state_70 : decode cX11_state 70 = .ok (.getfield 255, 3) := by decide +kernel
theorem dX11_state_73 : decode cX11_state 73 = .ok (.ireturn, 1) := by decide +kernel
theorem dX11_state_74 : decode cX11_state 74 = .ok (.aload 4, 2) := by decide +kernel
theorem dX11_state_76 : decode cX11_state 76 = .ok (.getfield 245, 3) := by decide +kernel
theorem dX11_state_79 : decode cX11_state 79 = .ok (.ireturn, 1) := by decide +kernel
theorem dX11_state_80 : decode cX11_state 80 = .ok (.aload 4, 2) := by decide +kernel
theorem dX11_state_82 : decode cX11_state 82 = .ok (.getfield 258, 3) := by decide +kernel
theorem dX11_state_85 : decode cX11_state 85 = .ok (.ireturn, 1) := by decide +kernel
theorem dX11_state_86 : decode cX11_state 86 = .ok (.aload 4, 2) := by decide +kernel
theorem dX11_state_88 : decode cX11_state 88 = .ok (.getfield 209, 3) := by decide +kernel
theorem dX11_state_91 : decode cX11_state 91 = .ok (.ireturn, 1) := by decide +kernel
theorem dX11_state_92 : decode cX11_state 92 = .ok (.aload 4, 2) := by decide +kernel
theorem dX11_state_94 : decode cX11_state 94 = .ok (.getfield 261, 3) := by decide +kernel
theorem dX11_state_97 : decode cX11_state 97 = .ok (.ireturn, 1) := by decide +kernel
theorem dX11_state_98 : decode cX11_state 98 = .ok (.aload 4, 2) := by decide +kernel
theorem dX11_state_100 : decode cX11_state 100 = .ok (.getfield 180, 3) := by decide +kernel
theorem dX11_state_103 : decode cX11_state 103 = .ok (.ireturn, 1) := by decide +kernel
theorem dX11_state_104 : decode cX11_state 104 = .ok (.aload 4, 2) := by decide +kernel
theorem dX11_state_106 : decode cX11_state 106 = .ok (.getfield 264, 3) := by decide +kernel
theorem dX11_state_109 : decode cX11_state 109 = .ok (.ireturn, 1) := by decide +kernel
theorem dX11_state_110 : decode cX11_state 110 = .ok (.aload 4, 2) := by decide +kernel
theorem dX11_state_112 : decode cX11_state 112 = .ok (.getfield 267, 3) := by decide +kernel
theorem dX11_state_115 : decode cX11_state 115 = .ok (.ifCond .eq 7, 3) := by decide +kernel
theorem dX11_state_118 : decode cX11_state 118 = .ok (.iconst 1, 1) := by decide +kernel
theorem dX11_state_119 : decode cX11_state 119 = .ok (.goto 4, 3) := by decide +kernel
theorem dX11_state_122 : decode cX11_state 122 = .ok (.iconst 0, 1) := by decide +kernel
theorem dX11_state_123 : decode cX11_state 123 = .ok (.ireturn, 1) := by decide +kernel
theorem dX11_state_124 : decode cX11_state 124 = .ok (.aload 4, 2) := by decide +kernel
theorem dX11_state_126 : decode cX11_state 126 = .ok (.getfield 270, 3) := by decide +kernel
theorem dX11_state_129 : decode cX11_state 129 = .ok (.ifCond .eq 7, 3) := by decide +kernel
theorem dX11_state_132 : decode cX11_state 132 = .ok (.iconst 1, 1) := by decide +kernel
theorem dX11_state_133 : decode cX11_state 133 = .ok (.goto 4, 3) := by decide +kernel
theorem dX11_state_136 : decode cX11_state 136 = .ok (.iconst 0, 1) := by decide +kernel
theorem dX11_state_137 : decode cX11_state 137 = .ok (.ireturn, 1) := by decide +kernel
theorem dX11_state_138 : decode cX11_state 138 = .ok (.iconst (-1), 1) := by decide +kernel
theorem dX11_state_139 : decode cX11_state 139 = .ok (.ireturn, 1) := by decide +kernel
def wb_X11_state_137  (S : q_S) (xs0 : Int32) (Q : Option Value → q_S → Prop) : Prop := Q (some (.int xs0)) S
set_option maxHeartbeats 4000000 in
set_option maxRecDepth 100000 in
theorem cb_X11_state_137 {p : Program} {l : Launch} {e : Env} {s : State} {m : MethodId} {args : Array Value} {below : List Frame} {meth : Method} {c : Code} {D : va_G} {cy : Nat → ClassId} {lo : Nat}  {S : q_S} {xs0 : Int32} {Q : Option Value → q_S → Prop} {H : Heap} {locs : List Loc} {ls : Array Slot} (X : q_X p s m args meth c RX11 cX11_state 5 (some .int) D cy lo)  (Y : q_Y D cy lo s S H locs) (hl : lv_has ls 5 []) (h : wb_X11_state_137 S xs0 Q) : W p l e ({ frames := 2, cells := 0, slots := 0, locals := 44 } : Room) s m args below meth c H locs 0 0 (MQ below (q_Q D cy lo Q) args s 0 0 (fun q => lo ≤ q)) (F0 m 137 ls [.int xs0]) := by
  have hx := X.1
  have hb := X.2.1
  unfold wb_X11_state_137 at h
  exact q_iret X Y rfl (Nat.le_refl _) (Nat.le_refl _) h dX11_state_137
def wb_X11_state_123  (S : q_S) (xs0 : Int32) (Q : Option Value → q_S → Prop) : Prop := Q (some (.int xs0)) S
set_option maxHeartbeats 4000000 in
set_option maxRecDepth 100000 in
theorem cb_X11_state_123 {p : Program} {l : Launch} {e : Env} {s : State} {m : MethodId} {args : Array Value} {below : List Frame} {meth : Method} {c : Code} {D : va_G} {cy : Nat → ClassId} {lo : Nat}  {S : q_S} {xs0 : Int32} {Q : Option Value → q_S → Prop} {H : Heap} {locs : List Loc} {ls : Array Slot} (X : q_X p s m args meth c RX11 cX11_state 5 (some .int) D cy lo)  (Y : q_Y D cy lo s S H locs) (hl : lv_has ls 5 []) (h : wb_X11_state_123 S xs0 Q) : W p l e ({ frames := 2, cells := 0, slots := 0, locals := 44 } : Room) s m args below meth c H locs 0 0 (MQ below (q_Q D cy lo Q) args s 0 0 (fun q => lo ≤ q)) (F0 m 123 ls [.int xs0]) := by
  have hx := X.1
  have hb := X.2.1
  unfold wb_X11_state_123 at h
  exact q_iret X Y rfl (Nat.le_refl _) (Nat.le_refl _) h dX11_state_123
def wm_X11_state (S : q_S) (a0 : Nat) (x1 : Int32) (x2 : Int32) (x3 : Int32) (Q : Option Value → q_S → Prop) : Prop := q_K S a0 = 12 ∧ (∃ a2_ : Nat, (q_P S 2201 a0) = some a2_ ∧ (q_K S a2_ = 7 ∧ (wm_X6_processAt S a2_ x1 x2 (fun r5_ S6_ => ∃ r7_ : Option Nat, r5_ = some (va_rf r7_) ∧ (((¬ r7_ = none → ((((x3.toInt < 0 ∨ 8 < x3.toInt) → (Q (some (.int (-1 : Int32))) S6_)) ∧ ((x3 = (0 : Int32)) → (∃ a9_ : Nat, r7_ = some a9_ ∧ (q_K S6_ a9_ = 8 ∧ (Q (some (.int (q_I S6_ 1409 a9_))) S6_)))) ∧ ((x3 = (1 : Int32)) → (∃ a12_ : Nat, r7_ = some a12_ ∧ (q_K S6_ a12_ = 8 ∧ (Q (some (.int (q_I S6_ 1410 a12_))) S6_)))) ∧ ((x3 = (2 : Int32)) → (∃ a15_ : Nat, r7_ = some a15_ ∧ (q_K S6_ a15_ = 8 ∧ (Q (some (.int (q_I S6_ 1403 a15_))) S6_)))) ∧ ((x3 = (3 : Int32)) → (∃ a18_ : Nat, r7_ = some a18_ ∧ (q_K S6_ a18_ = 8 ∧ (Q (some (.int (q_I S6_ 1412 a18_))) S6_)))) ∧ ((x3 = (4 : Int32)) → (∃ a21_ : Nat, r7_ = some a21_ ∧ (q_K S6_ a21_ = 8 ∧ (Q (some (.int (q_I S6_ 1413 a21_))) S6_)))) ∧ ((x3 = (5 : Int32)) → (∃ a24_ : Nat, r7_ = some a24_ ∧ (q_K S6_ a24_ = 8 ∧ (Q (some (.int (q_I S6_ 1414 a24_))) S6_)))) ∧ ((x3 = (6 : Int32)) → (∃ a27_ : Nat, r7_ = some a27_ ∧ (q_K S6_ a27_ = 8 ∧ (Q (some (.int (q_I S6_ 1415 a27_))) S6_)))) ∧ ((x3 = (7 : Int32)) → (∃ a30_ : Nat, r7_ = some a30_ ∧ (q_K S6_ a30_ = 8 ∧ ((((q_I S6_ 1407 a30_) = 0 → (wb_X11_state_123 S6_ (0 : Int32) Q)) ∧ (¬ (q_I S6_ 1407 a30_) = 0 → (wb_X11_state_123 S6_ (1 : Int32) Q))))))) ∧ ((x3 = (8 : Int32)) → (∃ a34_ : Nat, r7_ = some a34_ ∧ (q_K S6_ a34_ = 8 ∧ ((((q_I S6_ 1416 a34_) = 0 → (wb_X11_state_137 S6_ (0 : Int32) Q)) ∧ (¬ (q_I S6_ 1416 a34_) = 0 → (wb_X11_state_137 S6_ (1 : Int32) Q)))))))))) ∧ (r7_ = none → (Q (some (.int (-1 : Int32))) S6_))))))))
set_option maxHeartbeats 4000000 in
set_option maxRecDepth 100000 in
theorem cm_X11_state {l : Launch} {D : va_G} {cy : Nat → ClassId} {lo : Nat} {S : q_S} {a0 : Nat} {x1 : Int32} {x2 : Int32} {x3 : Int32} {Q : Option Value → q_S → Prop} (h : wm_X11_state S a0 x1 x2 x3 Q) : q_Met l D cy lo yX11_state cX11_state 5 (some .int) 2 44 0 0 [.ref a0, .int x1, .int x2, .int x3] S Q := by
  refine q_body (by decide) (by first | exact Nat.le_of_ble_eq_true rfl | simp [lg_sl, q_cat, q_catI, q_catJ, q_catR]) ?_
  intro p e s m below meth c ls X hnm Y hl
  have hx := X.1
  have hb := X.2.1
  have hl : lv_has ls 5 [(0, .ref a0), (1, .int x1), (2, .int x2), (3, .int x3)] := by first | exact hl | simpa [lv_args, q_cat, q_catI, q_catJ, q_catR] using hl
  generalize hargs : ([.ref a0, .int x1, .int x2, .int x3] : List Value).toArray = args at X ⊢
  unfold wm_X11_state at h
  refine lv_aload_n hx hb dX11_state_0 rfl (lv_at hl 0 rfl) ?_
  obtain ⟨k1_, h⟩ := h
  refine q_getP X Y kX11 1 rfl fl_X11_20 k1_ rfl dX11_state_1 ?_
  refine lv_iload_n hx hb dX11_state_4 rfl (lv_at hl 1 rfl) ?_
  refine lv_iload_n hx hb dX11_state_5 rfl (lv_at hl 2 rfl) ?_
  obtain ⟨a2_, e3_, h⟩ := h
  refine q_nn [.int x2, .int x1] e3_ ?_
  obtain ⟨k4_, h⟩ := h
  refine q_callV X Y hl (cm_X6_processAt h) mt_X6_processAt mi_X6_processAt ml_X11_251 (ci := 6) rfl k4_ (by decide) rfl rfl (by first | exact Nat.le_of_ble_eq_true rfl | simp [q_cat, q_catI, q_catJ, q_catR]) ⟨Nat.le_of_ble_eq_true rfl, Nat.le_of_ble_eq_true rfl⟩ ⟨Nat.le_of_ble_eq_true rfl, Nat.le_of_ble_eq_true rfl⟩ dX11_state_6 (fun r5_ S6_ H locs hp Y => ?_)
  obtain ⟨r7_, rfl, h⟩ := hp
  refine W.eq (g2 := F0 m 9 ls [va_rf r7_]) rfl ?_
  refine q_astore (i := 4) (lv' := [(4, va_rf r7_), (0, .ref a0), (1, .int x1), (2, .int x2), (3, .int x3)]) hx hb dX11_state_9 hl (by decide) (by first | rfl | simp [q_cat, q_catI, q_catJ, q_catR]) (fun ls hl => ?_)
  refine q_aload hx hb dX11_state_11 (lv_at hl 0 rfl) ?_
  refine q_ifnonnull (r := r7_) (tgt := 18) hx hb dX11_state_13 (by decide) (fun c8_ => ?_) (fun c8_ => ?_)
  · replace h := h.1 c8_
    refine lv_iload_n hx hb dX11_state_18 rfl (lv_at hl 4 rfl) ?_
    refine q_tsw (tgt := 138) hx hb dX11_state_19 (by decide) (by decide) (fun c38_ => ?_) (fun j39_ hj_ c38_ => ?_)
    · replace h := h.1 c38_
      refine lv_iconst (v := (-1)) hx hb dX11_state_138 (by decide) ?_
      exact q_iret X Y rfl (Nat.le_refl _) (Nat.le_refl _) h dX11_state_139
    · match j39_, hj_, c38_ with
      | 0, _, c38_ =>
        refine ⟨49, 68, rfl, by decide, ?_⟩
        replace h := h.2.1 (q_eqI c38_ (by decide))
        refine q_aload hx hb dX11_state_68 (lv_at hl 0 rfl) ?_
        obtain ⟨a9_, e10_, h⟩ := h
        refine q_nn [] e10_ ?_
        obtain ⟨k11_, h⟩ := h
        refine q_getI X Y kX7 9 rfl fl_X11_255 k11_ dX11_state_70 ?_
        exact q_iret X Y rfl (Nat.le_refl _) (Nat.le_refl _) h dX11_state_73
      | 1, _, c38_ =>
        refine ⟨55, 74, rfl, by decide, ?_⟩
        replace h := h.2.2.1 (q_eqI c38_ (by decide))
        refine q_aload hx hb dX11_state_74 (lv_at hl 0 rfl) ?_
        obtain ⟨a12_, e13_, h⟩ := h
        refine q_nn [] e13_ ?_
        obtain ⟨k14_, h⟩ := h
        refine q_getI X Y kX7 10 rfl fl_X11_245 k14_ dX11_state_76 ?_
        exact q_iret X Y rfl (Nat.le_refl _) (Nat.le_refl _) h dX11_state_79
      | 2, _, c38_ =>
        refine ⟨61, 80, rfl, by decide, ?_⟩
        replace h := h.2.2.2.1 (q_eqI c38_ (by decide))
        refine q_aload hx hb dX11_state_80 (lv_at hl 0 rfl) ?_
        obtain ⟨a15_, e16_, h⟩ := h
        refine q_nn [] e16_ ?_
        obtain ⟨k17_, h⟩ := h
        refine q_getI X Y kX7 3 rfl fl_X11_258 k17_ dX11_state_82 ?_
        exact q_iret X Y rfl (Nat.le_refl _) (Nat.le_refl _) h dX11_state_85
      | 3, _, c38_ =>
        refine ⟨67, 86, rfl, by decide, ?_⟩
        replace h := h.2.2.2.2.1 (q_eqI c38_ (by decide))
        refine q_aload hx hb dX11_state_86 (lv_at hl 0 rfl) ?_
        obtain ⟨a18_, e19_, h⟩ := h
        refine q_nn [] e19_ ?_
        obtain ⟨k20_, h⟩ := h
        refine q_getI X Y kX7 12 rfl fl_X11_209 k20_ dX11_state_88 ?_
        exact q_iret X Y rfl (Nat.le_refl _) (Nat.le_refl _) h dX11_state_91
      | 4, _, c38_ =>
        refine ⟨73, 92, rfl, by decide, ?_⟩
        replace h := h.2.2.2.2.2.1 (q_eqI c38_ (by decide))
        refine q_aload hx hb dX11_state_92 (lv_at hl 0 rfl) ?_
        obtain ⟨a21_, e22_, h⟩ := h
        refine q_nn [] e22_ ?_
        obtain ⟨k23_, h⟩ := h
        refine q_getI X Y kX7 13 rfl fl_X11_261 k23_ dX11_state_94 ?_
        exact q_iret X Y rfl (Nat.le_refl _) (Nat.le_refl _) h dX11_state_97
      | 5, _, c38_ =>
        refine ⟨79, 98, rfl, by decide, ?_⟩
        replace h := h.2.2.2.2.2.2.1 (q_eqI c38_ (by decide))
        refine q_aload hx hb dX11_state_98 (lv_at hl 0 rfl) ?_
        obtain ⟨a24_, e25_, h⟩ := h
        refine q_nn [] e25_ ?_
        obtain ⟨k26_, h⟩ := h
        refine q_getI X Y kX7 14 rfl fl_X11_180 k26_ dX11_state_100 ?_
        exact q_iret X Y rfl (Nat.le_refl _) (Nat.le_refl _) h dX11_state_103
      | 6, _, c38_ =>
        refine ⟨85, 104, rfl, by decide, ?_⟩
        replace h := h.2.2.2.2.2.2.2.1 (q_eqI c38_ (by decide))
        refine q_aload hx hb dX11_state_104 (lv_at hl 0 rfl) ?_
        obtain ⟨a27_, e28_, h⟩ := h
        refine q_nn [] e28_ ?_
        obtain ⟨k29_, h⟩ := h
        refine q_getI X Y kX7 15 rfl fl_X11_264 k29_ dX11_state_106 ?_
        exact q_iret X Y rfl (Nat.le_refl _) (Nat.le_refl _) h dX11_state_109
      | 7, _, c38_ =>
        refine ⟨91, 110, rfl, by decide, ?_⟩
        replace h := h.2.2.2.2.2.2.2.2.1 (q_eqI c38_ (by decide))
        refine q_aload hx hb dX11_state_110 (lv_at hl 0 rfl) ?_
        obtain ⟨a30_, e31_, h⟩ := h
        refine q_nn [] e31_ ?_
        obtain ⟨k32_, h⟩ := h
        refine q_getI X Y kX7 7 rfl fl_X11_267 k32_ dX11_state_112 ?_
        refine lv_if_eq (tgt := 122) hx hb dX11_state_115 (by decide) (fun c33_ => ?_) (fun c33_ => ?_)
        · replace h := h.1 c33_
          refine lv_iconst (v := 0) hx hb dX11_state_122 (by decide) ?_
          exact cb_X11_state_123 X Y (lv_sub hl [] rfl) h
        · replace h := h.2 c33_
          refine lv_iconst (v := 1) hx hb dX11_state_118 (by decide) ?_
          refine lv_goto (tgt := 123) hx hb dX11_state_119 (by decide) ?_
          exact cb_X11_state_123 X Y (lv_sub hl [] rfl) h
      | 8, _, c38_ =>
        refine ⟨105, 124, rfl, by decide, ?_⟩
        replace h := h.2.2.2.2.2.2.2.2.2 (q_eqI c38_ (by decide))
        refine q_aload hx hb dX11_state_124 (lv_at hl 0 rfl) ?_
        obtain ⟨a34_, e35_, h⟩ := h
        refine q_nn [] e35_ ?_
        obtain ⟨k36_, h⟩ := h
        refine q_getI X Y kX7 16 rfl fl_X11_270 k36_ dX11_state_126 ?_
        refine lv_if_eq (tgt := 136) hx hb dX11_state_129 (by decide) (fun c37_ => ?_) (fun c37_ => ?_)
        · replace h := h.1 c37_
          refine lv_iconst (v := 0) hx hb dX11_state_136 (by decide) ?_
          exact cb_X11_state_137 X Y (lv_sub hl [] rfl) h
        · replace h := h.2 c37_
          refine lv_iconst (v := 1) hx hb dX11_state_132 (by decide) ?_
          refine lv_goto (tgt := 137) hx hb dX11_state_133 (by decide) ?_
          exact cb_X11_state_137 X Y (lv_sub hl [] rfl) h
      | z_ + 9, hj_, _ => exact absurd hj_ (by simp)
  · replace h := h.2 c8_
    refine lv_iconst (v := (-1)) hx hb dX11_state_16 (by decide) ?_
    exact q_iret X Y rfl (Nat.le_refl _) (Nat.le_refl _) h dX11_state_17
-- X11_partition
theorem fl_X11_276 : Cond.fieldLink RX11 276 "PartitionWorks$Memory" "bytes" "I" ∈ q_G := q_tb (i := 659) (by decide +kernel) (by decide +kernel)
theorem fl_X11_279 : Cond.fieldLink RX11 279 "PartitionWorks$Partition" "begun" "I" ∈ q_G := q_tb (i := 715) (by decide +kernel) (by decide +kernel)
theorem fl_X11_281 : Cond.fieldLink RX11 281 "PartitionWorks$Partition" "locks" "I" ∈ q_G := q_tb (i := 720) (by decide +kernel) (by decide +kernel)
theorem fl_X11_284 : Cond.fieldLink RX11 284 "PartitionWorks$Partition" "how" "I" ∈ q_G := q_tb (i := 712) (by decide +kernel) (by decide +kernel)
theorem fl_X11_287 : Cond.fieldLink RX11 287 "PartitionWorks$Memory" "regions" "I" ∈ q_G := q_tb (i := 667) (by decide +kernel) (by decide +kernel)
theorem fl_X11_273 : Cond.fieldLink RX11 273 "PartitionWorks$Partition" "counts" "[I" ∈ q_G := q_tb (i := 705) (by decide +kernel) (by decide +kernel)
theorem dX11_partition_0 : decode cX11_partition 0 = .ok (.aload_n 0, 1) := by decide +kernel
theorem dX11_partition_1 : decode cX11_partition 1 = .ok (.getfield 20, 3) := by decide +kernel
theorem dX11_partition_4 : decode cX11_partition 4 = .ok (.iload_n 1, 1) := by decide +kernel
theorem dX11_partition_5 : decode cX11_partition 5 = .ok (.invokevirtual 85, 3) := by decide +kernel
theorem dX11_partition_8 : decode cX11_partition 8 = .ok (.astore_n 3, 1) := by decide +kernel
theorem dX11_partition_9 : decode cX11_partition 9 = .ok (.aload_n 3, 1) := by decide +kernel
theorem dX11_partition_10 : decode cX11_partition 10 = .ok (.ifnonnull 5, 3) := by decide +kernel
theorem dX11_partition_13 : decode cX11_partition 13 = .ok (.iconst (-1), 1) := by decide +kernel
theorem dX11_partition_14 : decode cX11_partition 14 = .ok (.ireturn, 1) := by decide +kernel
theorem dX11_partition_15 : decode cX11_partition 15 = .ok (.iload_n 2, 1) := by decide +kernel
theorem dX11_partition_16 : decode cX11_partition 16 = .ok (.iconst 3, 1) := by decide +kernel
theorem dX11_partition_17 : decode cX11_partition 17 = .ok (.if_icmp .lt 18, 3) := by decide +kernel
theorem dX11_partition_20 : decode cX11_partition 20 = .ok (.iload_n 2, 1) := by decide +kernel
theorem dX11_partition_21 : decode cX11_partition 21 = .ok (.bipush 8, 2) := by decide +kernel
theorem dX11_partition_23 : decode cX11_partition 23 = .ok (.if_icmp .ge 12, 3) := by decide +kernel
theorem dX11_partition_26 : decode cX11_partition 26 = .ok (.aload_n 3, 1) := by decide +kernel
theorem dX11_partition_27 : decode cX11_partition 27 = .ok (.getfield 273, 3) := by decide +kernel
theorem dX11_partition_30 : decode cX11_partition 30 = .ok (.iload_n 2, 1) := by decide +kernel
theorem dX11_partition_31 : decode cX11_partition 31 = .ok (.iconst 3, 1) := by decide +kernel
theorem dX11_partition_32 : decode cX11_partition 32 = .ok (.isub, 1) := by decide +kernel
theorem dX11_partition_33 : decode cX11_partition 33 = .ok (.iaload, 1) := by decide +kernel
theorem dX11_partition_34 : decode cX11_partition 34 = .ok (.ireturn, 1) := by decide +kernel
theorem dX11_partition_35 : decode cX11_partition 35 = .ok (.iload_n 2, 1) := by decide +kernel
theorem dX11_partition_36 : decode cX11_partition 36 = .ok (.tableswitch 139 0 13 #[72, 77, 85, 139, 139, 139, 139, 139, 90, 95, 100, 121, 126, 134], 72) := by decide +kernel
theorem dX11_partition_108 : decode cX11_partition 108 = .ok (.aload_n 3, 1) := by decide +kernel
theorem dX11_partition_109 : decode cX11_partition 109 = .ok (.getfield 165, 3) := by decide +kernel
theorem dX11_partition_112 : decode cX11_partition 112 = .ok (.ireturn, 1) := by decide +kernel
theorem dX11_partition_113 : decode cX11_partition 113 = .ok (.aload_n 3, 1) := by decide +kernel
theorem dX11_partition_114 : decode cX11_partition 114 = .ok (.getfield 89, 3) := by decide +kernel
theorem dX11_partition_117 : decode cX11_partition 117 = .ok (.getfield 276, 3) := by decide +kernel
theorem dX11_partition_120 : decode cX11_partition 120 = .ok (.ireturn, 1) := by decide +kernel
theorem dX11_partition_121 : decode cX11_partition 121 = .ok (.aload_n 3, 1) := by decide +kernel
theorem dX11_partition_122 : decode cX11_partition 122 = .ok (.getfield 202, 3) := by decide +kernel
theorem dX11_partition_125 : decode cX11_partition 125 = .ok (.ireturn, 1) := by decide +kernel
theorem dX11_partition_126 : decode cX11_partition 126 = .ok (.aload_n 3, 1) := by decide +kernel
theorem dX11_partition_127 : decode cX11_partition 127 = .ok (.getfield 279, 3) := by decide +kernel
theorem dX11_partition_130 : decode cX11_partition 130 = .ok (.ireturn, 1) := by decide +kernel
theorem dX11_partition_131 : decode cX11_partition 131 = .ok (.aload_n 3, 1) := by decide +kernel
theorem dX11_partition_132 : decode cX11_partition 132 = .ok (.getfield 281, 3) := by decide +kernel
theorem dX11_partition_135 : decode cX11_partition 135 = .ok (.ireturn, 1) := by decide +kernel
theorem dX11_partition_136 : decode cX11_partition 136 = .ok (.aload_n 3, 1) := by decide +kernel
theorem dX11_partition_137 : decode cX11_partition 137 = .ok (.invokevirtual 176, 3) := by decide +kernel
theorem dX11_partition_140 : decode cX11_partition 140 = .ok (.astore 4, 2) := by decide +kernel
theorem dX11_partition_142 : decode cX11_partition 142 = .ok (.aload 4, 2) := by decide +kernel
theorem dX11_partition_144 : decode cX11_partition 144 = .ok (.ifnonnull 7, 3) := by decide +kernel
theorem dX11_partition_147 : decode cX11_partition 147 = .ok (.iconst (-1), 1) := by decide +kernel
theorem dX11_partition_148 : decode cX11_partition 148 = .ok (.goto 8, 3) := by decide +kernel
theorem dX11_partition_151 : decode cX11_partition 151 = .ok (.aload 4, 2) := by decide +kernel
theorem dX11_partition_153 : decode cX11_partition 153 = .ok (.getfield 223, 3) := by decide +kernel
theorem dX11_partition_156 : decode cX11_partition 156 = .ok (.ireturn, 1) := by decide +kernel
theorem dX11_partition_157 : decode cX11_partition 157 = .ok (.aload_n 3, 1) := by decide +kernel
theorem dX11_partition_158 : decode cX11_partition 158 = .ok (.getfield 284, 3) := by decide +kernel
theorem dX11_partition_161 : decode cX11_partition 161 = .ok (.ireturn, 1) := by decide +kernel
theorem dX11_partition_162 : decode cX11_partition 162 = .ok (.aload_n 3, 1) := by decide +kernel
theorem dX11_partition_163 : decode cX11_partition 163 = .ok (.getfield 89, 3) := by decide +kernel
theorem dX11_partition_166 : decode cX11_partition 166 = .ok (.getfield 287, 3) := by decide +kernel
theorem dX11_partition_169 : decode cX11_partition 169 = .ok (.ireturn, 1) := by decide +kernel
theorem dX11_partition_170 : decode cX11_partition 170 = .ok (.aload_n 3, 1) := by decide +kernel
theorem dX11_partition_171 : decode cX11_partition 171 = .ok (.getfield 183, 3) := by decide +kernel
theorem dX11_partition_174 : decode cX11_partition 174 = .ok (.ireturn, 1) := by decide +kernel
theorem dX11_partition_175 : decode cX11_partition 175 = .ok (.iconst (-1), 1) := by decide +kernel
theorem dX11_partition_176 : decode cX11_partition 176 = .ok (.ireturn, 1) := by decide +kernel
def wb_X11_partition_156  (S : q_S) (xs0 : Int32) (Q : Option Value → q_S → Prop) : Prop := Q (some (.int xs0)) S
set_option maxHeartbeats 4000000 in
set_option maxRecDepth 100000 in
theorem cb_X11_partition_156 {p : Program} {l : Launch} {e : Env} {s : State} {m : MethodId} {args : Array Value} {below : List Frame} {meth : Method} {c : Code} {D : va_G} {cy : Nat → ClassId} {lo : Nat}  {S : q_S} {xs0 : Int32} {Q : Option Value → q_S → Prop} {H : Heap} {locs : List Loc} {ls : Array Slot} (X : q_X p s m args meth c RX11 cX11_partition 5 (some .int) D cy lo)  (Y : q_Y D cy lo s S H locs) (hl : lv_has ls 5 []) (h : wb_X11_partition_156 S xs0 Q) : W p l e ({ frames := 2, cells := 0, slots := 0, locals := 47 } : Room) s m args below meth c H locs 0 0 (MQ below (q_Q D cy lo Q) args s 0 0 (fun q => lo ≤ q)) (F0 m 156 ls [.int xs0]) := by
  have hx := X.1
  have hb := X.2.1
  unfold wb_X11_partition_156 at h
  exact q_iret X Y rfl (Nat.le_refl _) (Nat.le_refl _) h dX11_partition_156
def wb_X11_partition_35  (S : q_S) (x2 : Int32) (r3 : Option Nat) (Q : Option Value → q_S → Prop) : Prop := (((x2.toInt < 0 ∨ 13 < x2.toInt) → (Q (some (.int (-1 : Int32))) S)) ∧ ((x2 = (0 : Int32)) → (∃ a1_ : Nat, r3 = some a1_ ∧ (q_K S a1_ = 6 ∧ (Q (some (.int (q_I S 1009 a1_))) S)))) ∧ ((x2 = (1 : Int32)) → (∃ a4_ : Nat, r3 = some a4_ ∧ (q_K S a4_ = 6 ∧ (∃ a7_ : Nat, (q_P S 1002 a4_) = some a7_ ∧ (q_K S a7_ = 5 ∧ (Q (some (.int (q_I S 800 a7_))) S)))))) ∧ ((x2 = (2 : Int32)) → (∃ a10_ : Nat, r3 = some a10_ ∧ (q_K S a10_ = 6 ∧ (Q (some (.int (q_I S 1004 a10_))) S)))) ∧ ((x2 = (3 : Int32) ∨ x2 = (4 : Int32) ∨ x2 = (5 : Int32) ∨ x2 = (6 : Int32) ∨ x2 = (7 : Int32)) → (Q (some (.int (-1 : Int32))) S)) ∧ ((x2 = (8 : Int32)) → (∃ a13_ : Nat, r3 = some a13_ ∧ (q_K S a13_ = 6 ∧ (Q (some (.int (q_I S 1011 a13_))) S)))) ∧ ((x2 = (9 : Int32)) → (∃ a16_ : Nat, r3 = some a16_ ∧ (q_K S a16_ = 6 ∧ (Q (some (.int (q_I S 1013 a16_))) S)))) ∧ ((x2 = (10 : Int32)) → (∃ a19_ : Nat, r3 = some a19_ ∧ (q_K S a19_ = 6 ∧ (wm_X5_chosen S a19_ (fun r22_ S23_ => ∃ r24_ : Option Nat, r22_ = some (va_rf r24_) ∧ (((¬ r24_ = none → (∃ a26_ : Nat, r24_ = some a26_ ∧ (q_K S23_ a26_ = 8 ∧ (wb_X11_partition_156 S23_ (q_I S23_ 1400 a26_) Q)))) ∧ (r24_ = none → (wb_X11_partition_156 S23_ (-1 : Int32) Q))))))))) ∧ ((x2 = (11 : Int32)) → (∃ a29_ : Nat, r3 = some a29_ ∧ (q_K S a29_ = 6 ∧ (Q (some (.int (q_I S 1010 a29_))) S)))) ∧ ((x2 = (12 : Int32)) → (∃ a32_ : Nat, r3 = some a32_ ∧ (q_K S a32_ = 6 ∧ (∃ a35_ : Nat, (q_P S 1002 a32_) = some a35_ ∧ (q_K S a35_ = 5 ∧ (Q (some (.int (q_I S 803 a35_))) S)))))) ∧ ((x2 = (13 : Int32)) → (∃ a38_ : Nat, r3 = some a38_ ∧ (q_K S a38_ = 6 ∧ (Q (some (.int (q_I S 1012 a38_))) S)))))
set_option maxHeartbeats 4000000 in
set_option maxRecDepth 100000 in
theorem cb_X11_partition_35 {p : Program} {l : Launch} {e : Env} {s : State} {m : MethodId} {args : Array Value} {below : List Frame} {meth : Method} {c : Code} {D : va_G} {cy : Nat → ClassId} {lo : Nat}  {S : q_S} {x2 : Int32} {r3 : Option Nat} {Q : Option Value → q_S → Prop} {H : Heap} {locs : List Loc} {ls : Array Slot} (X : q_X p s m args meth c RX11 cX11_partition 5 (some .int) D cy lo)  (Y : q_Y D cy lo s S H locs) (hl : lv_has ls 5 [(2, .int x2), (3, va_rf r3)]) (h : wb_X11_partition_35 S x2 r3 Q) : W p l e ({ frames := 2, cells := 0, slots := 0, locals := 47 } : Room) s m args below meth c H locs 0 0 (MQ below (q_Q D cy lo Q) args s 0 0 (fun q => lo ≤ q)) (F0 m 35 ls []) := by
  have hx := X.1
  have hb := X.2.1
  unfold wb_X11_partition_35 at h
  refine lv_iload_n hx hb dX11_partition_35 rfl (lv_at hl 0 rfl) ?_
  refine q_tsw (tgt := 175) hx hb dX11_partition_36 (by decide) (by decide) (fun c41_ => ?_) (fun j42_ hj_ c41_ => ?_)
  · replace h := h.1 c41_
    refine lv_iconst (v := (-1)) hx hb dX11_partition_175 (by decide) ?_
    exact q_iret X Y rfl (Nat.le_refl _) (Nat.le_refl _) h dX11_partition_176
  · match j42_, hj_, c41_ with
    | 0, _, c41_ =>
      refine ⟨72, 108, rfl, by decide, ?_⟩
      replace h := h.2.1 (q_eqI c41_ (by decide))
      refine q_aload_n hx hb dX11_partition_108 rfl (lv_at hl 1 rfl) ?_
      obtain ⟨a1_, e2_, h⟩ := h
      refine q_nn [] e2_ ?_
      obtain ⟨k3_, h⟩ := h
      refine q_getI X Y kX5 9 rfl fl_X11_165 k3_ dX11_partition_109 ?_
      exact q_iret X Y rfl (Nat.le_refl _) (Nat.le_refl _) h dX11_partition_112
    | 1, _, c41_ =>
      refine ⟨77, 113, rfl, by decide, ?_⟩
      replace h := h.2.2.1 (q_eqI c41_ (by decide))
      refine q_aload_n hx hb dX11_partition_113 rfl (lv_at hl 1 rfl) ?_
      obtain ⟨a4_, e5_, h⟩ := h
      refine q_nn [] e5_ ?_
      obtain ⟨k6_, h⟩ := h
      refine q_getP X Y kX5 2 rfl fl_X11_89 k6_ rfl dX11_partition_114 ?_
      obtain ⟨a7_, e8_, h⟩ := h
      refine q_nn [] e8_ ?_
      obtain ⟨k9_, h⟩ := h
      refine q_getI X Y kX4 0 rfl fl_X11_276 k9_ dX11_partition_117 ?_
      exact q_iret X Y rfl (Nat.le_refl _) (Nat.le_refl _) h dX11_partition_120
    | 2, _, c41_ =>
      refine ⟨85, 121, rfl, by decide, ?_⟩
      replace h := h.2.2.2.1 (q_eqI c41_ (by decide))
      refine q_aload_n hx hb dX11_partition_121 rfl (lv_at hl 1 rfl) ?_
      obtain ⟨a10_, e11_, h⟩ := h
      refine q_nn [] e11_ ?_
      obtain ⟨k12_, h⟩ := h
      refine q_getI X Y kX5 4 rfl fl_X11_202 k12_ dX11_partition_122 ?_
      exact q_iret X Y rfl (Nat.le_refl _) (Nat.le_refl _) h dX11_partition_125
    | 3, _, c41_ =>
      refine ⟨139, 175, rfl, by decide, ?_⟩
      replace h := h.2.2.2.2.1 (Or.inl (q_eqI c41_ (by decide)))
      refine lv_iconst (v := (-1)) hx hb dX11_partition_175 (by decide) ?_
      exact q_iret X Y rfl (Nat.le_refl _) (Nat.le_refl _) h dX11_partition_176
    | 4, _, c41_ =>
      refine ⟨139, 175, rfl, by decide, ?_⟩
      replace h := h.2.2.2.2.1 (Or.inr (Or.inl (q_eqI c41_ (by decide))))
      refine lv_iconst (v := (-1)) hx hb dX11_partition_175 (by decide) ?_
      exact q_iret X Y rfl (Nat.le_refl _) (Nat.le_refl _) h dX11_partition_176
    | 5, _, c41_ =>
      refine ⟨139, 175, rfl, by decide, ?_⟩
      replace h := h.2.2.2.2.1 (Or.inr (Or.inr (Or.inl (q_eqI c41_ (by decide)))))
      refine lv_iconst (v := (-1)) hx hb dX11_partition_175 (by decide) ?_
      exact q_iret X Y rfl (Nat.le_refl _) (Nat.le_refl _) h dX11_partition_176
    | 6, _, c41_ =>
      refine ⟨139, 175, rfl, by decide, ?_⟩
      replace h := h.2.2.2.2.1 (Or.inr (Or.inr (Or.inr (Or.inl (q_eqI c41_ (by decide))))))
      refine lv_iconst (v := (-1)) hx hb dX11_partition_175 (by decide) ?_
      exact q_iret X Y rfl (Nat.le_refl _) (Nat.le_refl _) h dX11_partition_176
    | 7, _, c41_ =>
      refine ⟨139, 175, rfl, by decide, ?_⟩
      replace h := h.2.2.2.2.1 (Or.inr (Or.inr (Or.inr (Or.inr (q_eqI c41_ (by decide))))))
      refine lv_iconst (v := (-1)) hx hb dX11_partition_175 (by decide) ?_
      exact q_iret X Y rfl (Nat.le_refl _) (Nat.le_refl _) h dX11_partition_176
    | 8, _, c41_ =>
      refine ⟨90, 126, rfl, by decide, ?_⟩
      replace h := h.2.2.2.2.2.1 (q_eqI c41_ (by decide))
      refine q_aload_n hx hb dX11_partition_126 rfl (lv_at hl 1 rfl) ?_
      obtain ⟨a13_, e14_, h⟩ := h
      refine q_nn [] e14_ ?_
      obtain ⟨k15_, h⟩ := h
      refine q_getI X Y kX5 11 rfl fl_X11_279 k15_ dX11_partition_127 ?_
      exact q_iret X Y rfl (Nat.le_refl _) (Nat.le_refl _) h dX11_partition_130
    | 9, _, c41_ =>
      refine ⟨95, 131, rfl, by decide, ?_⟩
      replace h := h.2.2.2.2.2.2.1 (q_eqI c41_ (by decide))
      refine q_aload_n hx hb dX11_partition_131 rfl (lv_at hl 1 rfl) ?_
      obtain ⟨a16_, e17_, h⟩ := h
      refine q_nn [] e17_ ?_
      obtain ⟨k18_, h⟩ := h
      refine q_getI X Y kX5 13 rfl fl_X11_281 k18_ dX11_partition_132 ?_
      exact q_iret X Y rfl (Nat.le_refl _) (Nat.le_refl _) h dX11_partition_135
    | 10, _, c41_ =>
      refine ⟨100, 136, rfl, by decide, ?_⟩
      replace h := h.2.2.2.2.2.2.2.1 (q_eqI c41_ (by decide))
      refine q_aload_n hx hb dX11_partition_136 rfl (lv_at hl 1 rfl) ?_
      obtain ⟨a19_, e20_, h⟩ := h
      refine q_nn [] e20_ ?_
      obtain ⟨k21_, h⟩ := h
      refine q_callV X Y hl (cm_X5_chosen h) mt_X5_chosen mi_X5_chosen ml_X11_176 (ci := 5) rfl k21_ (by decide) rfl rfl (by first | exact Nat.le_of_ble_eq_true rfl | simp [q_cat, q_catI, q_catJ, q_catR]) ⟨Nat.le_of_ble_eq_true rfl, Nat.le_of_ble_eq_true rfl⟩ ⟨Nat.le_of_ble_eq_true rfl, Nat.le_of_ble_eq_true rfl⟩ dX11_partition_137 (fun r22_ S23_ H locs hp Y => ?_)
      obtain ⟨r24_, rfl, h⟩ := hp
      refine W.eq (g2 := F0 m 140 ls [va_rf r24_]) rfl ?_
      refine q_astore (i := 4) (lv' := [(4, va_rf r24_), (2, .int x2), (3, va_rf r3)]) hx hb dX11_partition_140 hl (by decide) (by first | rfl | simp [q_cat, q_catI, q_catJ, q_catR]) (fun ls hl => ?_)
      refine q_aload hx hb dX11_partition_142 (lv_at hl 0 rfl) ?_
      refine q_ifnonnull (r := r24_) (tgt := 151) hx hb dX11_partition_144 (by decide) (fun c25_ => ?_) (fun c25_ => ?_)
      · replace h := h.1 c25_
        refine q_aload hx hb dX11_partition_151 (lv_at hl 0 rfl) ?_
        obtain ⟨a26_, e27_, h⟩ := h
        refine q_nn [] e27_ ?_
        obtain ⟨k28_, h⟩ := h
        refine q_getI X Y kX7 0 rfl fl_X11_223 k28_ dX11_partition_153 ?_
        exact cb_X11_partition_156 X Y (lv_sub hl [] rfl) h
      · replace h := h.2 c25_
        refine lv_iconst (v := (-1)) hx hb dX11_partition_147 (by decide) ?_
        refine lv_goto (tgt := 156) hx hb dX11_partition_148 (by decide) ?_
        exact cb_X11_partition_156 X Y (lv_sub hl [] rfl) h
    | 11, _, c41_ =>
      refine ⟨121, 157, rfl, by decide, ?_⟩
      replace h := h.2.2.2.2.2.2.2.2.1 (q_eqI c41_ (by decide))
      refine q_aload_n hx hb dX11_partition_157 rfl (lv_at hl 1 rfl) ?_
      obtain ⟨a29_, e30_, h⟩ := h
      refine q_nn [] e30_ ?_
      obtain ⟨k31_, h⟩ := h
      refine q_getI X Y kX5 10 rfl fl_X11_284 k31_ dX11_partition_158 ?_
      exact q_iret X Y rfl (Nat.le_refl _) (Nat.le_refl _) h dX11_partition_161
    | 12, _, c41_ =>
      refine ⟨126, 162, rfl, by decide, ?_⟩
      replace h := h.2.2.2.2.2.2.2.2.2.1 (q_eqI c41_ (by decide))
      refine q_aload_n hx hb dX11_partition_162 rfl (lv_at hl 1 rfl) ?_
      obtain ⟨a32_, e33_, h⟩ := h
      refine q_nn [] e33_ ?_
      obtain ⟨k34_, h⟩ := h
      refine q_getP X Y kX5 2 rfl fl_X11_89 k34_ rfl dX11_partition_163 ?_
      obtain ⟨a35_, e36_, h⟩ := h
      refine q_nn [] e36_ ?_
      obtain ⟨k37_, h⟩ := h
      refine q_getI X Y kX4 3 rfl fl_X11_287 k37_ dX11_partition_166 ?_
      exact q_iret X Y rfl (Nat.le_refl _) (Nat.le_refl _) h dX11_partition_169
    | 13, _, c41_ =>
      refine ⟨134, 170, rfl, by decide, ?_⟩
      replace h := h.2.2.2.2.2.2.2.2.2.2 (q_eqI c41_ (by decide))
      refine q_aload_n hx hb dX11_partition_170 rfl (lv_at hl 1 rfl) ?_
      obtain ⟨a38_, e39_, h⟩ := h
      refine q_nn [] e39_ ?_
      obtain ⟨k40_, h⟩ := h
      refine q_getI X Y kX5 12 rfl fl_X11_183 k40_ dX11_partition_171 ?_
      exact q_iret X Y rfl (Nat.le_refl _) (Nat.le_refl _) h dX11_partition_174
    | z_ + 14, hj_, _ => exact absurd hj_ (by simp)
def wm_X11_partition (S : q_S) (a0 : Nat) (x1 : Int32) (x2 : Int32) (Q : Option Value → q_S → Prop) : Prop := q_K S a0 = 12 ∧ (∃ a44_ : Nat, (q_P S 2201 a0) = some a44_ ∧ (q_K S a44_ = 7 ∧ (wm_X6_partitionAt S a44_ x1 (fun r47_ S48_ => ∃ r49_ : Option Nat, r47_ = some (va_rf r49_) ∧ (((¬ r49_ = none → (((x2 < (3 : Int32) → (wb_X11_partition_35 S48_ x2 r49_ Q)) ∧ (¬ x2 < (3 : Int32) → ((((8 : Int32) ≤ x2 → (wb_X11_partition_35 S48_ x2 r49_ Q)) ∧ (¬ (8 : Int32) ≤ x2 → (∃ a53_ : Nat, r49_ = some a53_ ∧ (q_K S48_ a53_ = 6 ∧ (∃ a56_ : Nat, (q_P S48_ 1006 a53_) = some a56_ ∧ (q_K S48_ a56_ = 21 ∧ (vp_in (x2 - (3 : Int32)) (q_N S48_ a56_) ∧ (Q (some (.int (q_A S48_ a56_ (x2 - (3 : Int32)).toNatClampNeg))) S48_))))))))))))) ∧ (r49_ = none → (Q (some (.int (-1 : Int32))) S48_))))))))
set_option maxHeartbeats 4000000 in
set_option maxRecDepth 100000 in
theorem cm_X11_partition {l : Launch} {D : va_G} {cy : Nat → ClassId} {lo : Nat} {S : q_S} {a0 : Nat} {x1 : Int32} {x2 : Int32} {Q : Option Value → q_S → Prop} (h : wm_X11_partition S a0 x1 x2 Q) : q_Met l D cy lo yX11_partition cX11_partition 5 (some .int) 2 47 0 0 [.ref a0, .int x1, .int x2] S Q := by
  refine q_body (by decide) (by first | exact Nat.le_of_ble_eq_true rfl | simp [lg_sl, q_cat, q_catI, q_catJ, q_catR]) ?_
  intro p e s m below meth c ls X hnm Y hl
  have hx := X.1
  have hb := X.2.1
  have hl : lv_has ls 5 [(0, .ref a0), (1, .int x1), (2, .int x2)] := by first | exact hl | simpa [lv_args, q_cat, q_catI, q_catJ, q_catR] using hl
  generalize hargs : ([.ref a0, .int x1, .int x2] : List Value).toArray = args at X ⊢
  unfold wm_X11_partition at h
  refine lv_aload_n hx hb dX11_partition_0 rfl (lv_at hl 0 rfl) ?_
  obtain ⟨k43_, h⟩ := h
  refine q_getP X Y kX11 1 rfl fl_X11_20 k43_ rfl dX11_partition_1 ?_
  refine lv_iload_n hx hb dX11_partition_4 rfl (lv_at hl 1 rfl) ?_
  obtain ⟨a44_, e45_, h⟩ := h
  refine q_nn [.int x1] e45_ ?_
  obtain ⟨k46_, h⟩ := h
  refine q_callV X Y hl (cm_X6_partitionAt h) mt_X6_partitionAt mi_X6_partitionAt ml_X11_85 (ci := 6) rfl k46_ (by decide) rfl rfl (by first | exact Nat.le_of_ble_eq_true rfl | simp [q_cat, q_catI, q_catJ, q_catR]) ⟨Nat.le_of_ble_eq_true rfl, Nat.le_of_ble_eq_true rfl⟩ ⟨Nat.le_of_ble_eq_true rfl, Nat.le_of_ble_eq_true rfl⟩ dX11_partition_5 (fun r47_ S48_ H locs hp Y => ?_)
  obtain ⟨r49_, rfl, h⟩ := hp
  refine W.eq (g2 := F0 m 8 ls [va_rf r49_]) rfl ?_
  refine q_astore_n (i := 3) (lv' := [(3, va_rf r49_), (0, .ref a0), (1, .int x1), (2, .int x2)]) hx hb dX11_partition_8 rfl hl (by decide) (by first | rfl | simp [q_cat, q_catI, q_catJ, q_catR]) (fun ls hl => ?_)
  refine q_aload_n hx hb dX11_partition_9 rfl (lv_at hl 0 rfl) ?_
  refine q_ifnonnull (r := r49_) (tgt := 15) hx hb dX11_partition_10 (by decide) (fun c50_ => ?_) (fun c50_ => ?_)
  · replace h := h.1 c50_
    refine lv_iload_n hx hb dX11_partition_15 rfl (lv_at hl 3 rfl) ?_
    refine lv_iconst (v := 3) hx hb dX11_partition_16 (by decide) ?_
    refine lv_icmp_lt (tgt := 35) hx hb dX11_partition_17 (by decide) (fun c51_ => ?_) (fun c51_ => ?_)
    · replace h := h.1 c51_
      exact cb_X11_partition_35 X Y (lv_sub hl [3, 0] rfl) h
    · replace h := h.2 c51_
      refine lv_iload_n hx hb dX11_partition_20 rfl (lv_at hl 3 rfl) ?_
      refine lv_bipush (v := 8) hx hb dX11_partition_21 (by decide) ?_
      refine lv_icmp_ge (tgt := 35) hx hb dX11_partition_23 (by decide) (fun c52_ => ?_) (fun c52_ => ?_)
      · replace h := h.1 c52_
        exact cb_X11_partition_35 X Y (lv_sub hl [3, 0] rfl) h
      · replace h := h.2 c52_
        refine q_aload_n hx hb dX11_partition_26 rfl (lv_at hl 0 rfl) ?_
        obtain ⟨a53_, e54_, h⟩ := h
        refine q_nn [] e54_ ?_
        obtain ⟨k55_, h⟩ := h
        refine q_getP X Y kX5 6 rfl fl_X11_273 k55_ rfl dX11_partition_27 ?_
        refine lv_iload_n hx hb dX11_partition_30 rfl (lv_at hl 3 rfl) ?_
        refine lv_iconst (v := 3) hx hb dX11_partition_31 (by decide) ?_
        refine lv_isub hx hb dX11_partition_32 ?_
        obtain ⟨a56_, e57_, h⟩ := h
        refine q_nn [.int (x2 - (3 : Int32))] e57_ ?_
        obtain ⟨k58_, h⟩ := h
        obtain ⟨i59_, h⟩ := h
        refine q_ild X Y k58_ i59_ dX11_partition_33 ?_
        exact q_iret X Y rfl (Nat.le_refl _) (Nat.le_refl _) h dX11_partition_34
  · replace h := h.2 c50_
    refine lv_iconst (v := (-1)) hx hb dX11_partition_13 (by decide) ?_
    exact q_iret X Y rfl (Nat.le_refl _) (Nat.le_refl _) h dX11_partition_14
-- X11_thing
theorem ml_X11_290 : Cond.methodLink RX11 290 yX6_thingAt ∈ q_G := q_tb (i := 368) (by decide +kernel) (by decide +kernel)
theorem mt_X6_thingAt : q_Mt yX6_thingAt cX6_thingAt 5 (some (.object "PartitionWorks$Thing")) 3 := ⟨q_tb (i := 371) (by decide +kernel) (by decide +kernel), q_tb (i := 3) (by decide +kernel) (by decide +kernel), by decide +kernel, by decide +kernel, by decide +kernel⟩
theorem mi_X6_thingAt : Cond.instanceMethod yX6_thingAt ∈ q_G ∧ Cond.selects yX6_thingAt.cls yX6_thingAt yX6_thingAt ∈ q_G := ⟨q_tb (i := 369) (by decide +kernel) (by decide +kernel), q_tb (i := 370) (by decide +kernel) (by decide +kernel)⟩
theorem ml_X11_299 : Cond.methodLink RX11 299 yX10_value ∈ q_G := q_tb (i := 376) (by decide +kernel) (by decide +kernel)
theorem fl_X11_294 : Cond.fieldLink RX11 294 "PartitionWorks$Thing" "channel" "I" ∈ q_G := q_tb (i := 1021) (by decide +kernel) (by decide +kernel)
theorem dX11_thing_0 : decode cX11_thing 0 = .ok (.aload_n 0, 1) := by decide +kernel
theorem dX11_thing_1 : decode cX11_thing 1 = .ok (.getfield 20, 3) := by decide +kernel
theorem dX11_thing_4 : decode cX11_thing 4 = .ok (.iload_n 1, 1) := by decide +kernel
theorem dX11_thing_5 : decode cX11_thing 5 = .ok (.iload_n 2, 1) := by decide +kernel
theorem dX11_thing_6 : decode cX11_thing 6 = .ok (.iload_n 3, 1) := by decide +kernel
theorem dX11_thing_7 : decode cX11_thing 7 = .ok (.invokevirtual 290, 3) := by decide +kernel
theorem dX11_thing_10 : decode cX11_thing 10 = .ok (.astore 4, 2) := by decide +kernel
theorem dX11_thing_12 : decode cX11_thing 12 = .ok (.aload 4, 2) := by decide +kernel
theorem dX11_thing_14 : decode cX11_thing 14 = .ok (.ifnonnull 5, 3) := by decide +kernel
theorem dX11_thing_17 : decode cX11_thing 17 = .ok (.iconst (-1), 1) := by decide +kernel
theorem dX11_thing_18 : decode cX11_thing 18 = .ok (.ireturn, 1) := by decide +kernel
theorem dX11_thing_19 : decode cX11_thing 19 = .ok (.iload_n 2, 1) := by decide +kernel
theorem dX11_thing_20 : decode cX11_thing 20 = .ok (.iconst 4, 1) := by decide +kernel
theorem dX11_thing_21 : decode cX11_thing 21 = .ok (.if_icmp .ne 11, 3) := by decide +kernel
theorem dX11_thing_24 : decode cX11_thing 24 = .ok (.aload 4, 2) := by decide +kernel
theorem dX11_thing_26 : decode cX11_thing 26 = .ok (.getfield 294, 3) := by decide +kernel
theorem dX11_thing_29 : decode cX11_thing 29 = .ok (.goto 8, 3) := by decide +kernel
theorem dX11_thing_32 : decode cX11_thing 32 = .ok (.aload 4, 2) := by decide +kernel
theorem dX11_thing_34 : decode cX11_thing 34 = .ok (.invokevirtual 299, 3) := by decide +kernel
theorem dX11_thing_37 : decode cX11_thing 37 = .ok (.ireturn, 1) := by decide +kernel
def wb_X11_thing_37  (S : q_S) (xs0 : Int32) (Q : Option Value → q_S → Prop) : Prop := Q (some (.int xs0)) S
set_option maxHeartbeats 4000000 in
set_option maxRecDepth 100000 in
theorem cb_X11_thing_37 {p : Program} {l : Launch} {e : Env} {s : State} {m : MethodId} {args : Array Value} {below : List Frame} {meth : Method} {c : Code} {D : va_G} {cy : Nat → ClassId} {lo : Nat}  {S : q_S} {xs0 : Int32} {Q : Option Value → q_S → Prop} {H : Heap} {locs : List Loc} {ls : Array Slot} (X : q_X p s m args meth c RX11 cX11_thing 5 (some .int) D cy lo)  (Y : q_Y D cy lo s S H locs) (hl : lv_has ls 5 []) (h : wb_X11_thing_37 S xs0 Q) : W p l e ({ frames := 2, cells := 0, slots := 0, locals := 46 } : Room) s m args below meth c H locs 0 0 (MQ below (q_Q D cy lo Q) args s 0 0 (fun q => lo ≤ q)) (F0 m 37 ls [.int xs0]) := by
  have hx := X.1
  have hb := X.2.1
  unfold wb_X11_thing_37 at h
  exact q_iret X Y rfl (Nat.le_refl _) (Nat.le_refl _) h dX11_thing_37
def wm_X11_thing (S : q_S) (a0 : Nat) (x1 : Int32) (x2 : Int32) (x3 : Int32) (Q : Option Value → q_S → Prop) : Prop := q_K S a0 = 12 ∧ (∃ a2_ : Nat, (q_P S 2201 a0) = some a2_ ∧ (q_K S a2_ = 7 ∧ (wm_X6_thingAt S a2_ x1 x2 x3 (fun r5_ S6_ => ∃ r7_ : Option Nat, r5_ = some (va_rf r7_) ∧ (((¬ r7_ = none → (((¬ x2 = (4 : Int32) → (∃ a10_ : Nat, r7_ = some a10_ ∧ (q_K S6_ a10_ = 11 ∧ (wm_X10_value S6_ a10_ (fun r13_ S14_ => ∃ x15_ : Int32, r13_ = some (.int x15_) ∧ (wb_X11_thing_37 S14_ x15_ Q)))))) ∧ (x2 = (4 : Int32) → (∃ a16_ : Nat, r7_ = some a16_ ∧ (q_K S6_ a16_ = 11 ∧ (wb_X11_thing_37 S6_ (q_I S6_ 2008 a16_) Q))))))) ∧ (r7_ = none → (Q (some (.int (-1 : Int32))) S6_))))))))
set_option maxHeartbeats 4000000 in
set_option maxRecDepth 100000 in
theorem cm_X11_thing {l : Launch} {D : va_G} {cy : Nat → ClassId} {lo : Nat} {S : q_S} {a0 : Nat} {x1 : Int32} {x2 : Int32} {x3 : Int32} {Q : Option Value → q_S → Prop} (h : wm_X11_thing S a0 x1 x2 x3 Q) : q_Met l D cy lo yX11_thing cX11_thing 5 (some .int) 2 46 0 0 [.ref a0, .int x1, .int x2, .int x3] S Q := by
  refine q_body (by decide) (by first | exact Nat.le_of_ble_eq_true rfl | simp [lg_sl, q_cat, q_catI, q_catJ, q_catR]) ?_
  intro p e s m below meth c ls X hnm Y hl
  have hx := X.1
  have hb := X.2.1
  have hl : lv_has ls 5 [(0, .ref a0), (1, .int x1), (2, .int x2), (3, .int x3)] := by first | exact hl | simpa [lv_args, q_cat, q_catI, q_catJ, q_catR] using hl
  generalize hargs : ([.ref a0, .int x1, .int x2, .int x3] : List Value).toArray = args at X ⊢
  unfold wm_X11_thing at h
  refine lv_aload_n hx hb dX11_thing_0 rfl (lv_at hl 0 rfl) ?_
  obtain ⟨k1_, h⟩ := h
  refine q_getP X Y kX11 1 rfl fl_X11_20 k1_ rfl dX11_thing_1 ?_
  refine lv_iload_n hx hb dX11_thing_4 rfl (lv_at hl 1 rfl) ?_
  refine lv_iload_n hx hb dX11_thing_5 rfl (lv_at hl 2 rfl) ?_
  refine lv_iload_n hx hb dX11_thing_6 rfl (lv_at hl 3 rfl) ?_
  obtain ⟨a2_, e3_, h⟩ := h
  refine q_nn [.int x3, .int x2, .int x1] e3_ ?_
  obtain ⟨k4_, h⟩ := h
  refine q_callV X Y hl (cm_X6_thingAt h) mt_X6_thingAt mi_X6_thingAt ml_X11_290 (ci := 6) rfl k4_ (by decide) rfl rfl (by first | exact Nat.le_of_ble_eq_true rfl | simp [q_cat, q_catI, q_catJ, q_catR]) ⟨Nat.le_of_ble_eq_true rfl, Nat.le_of_ble_eq_true rfl⟩ ⟨Nat.le_of_ble_eq_true rfl, Nat.le_of_ble_eq_true rfl⟩ dX11_thing_7 (fun r5_ S6_ H locs hp Y => ?_)
  obtain ⟨r7_, rfl, h⟩ := hp
  refine W.eq (g2 := F0 m 10 ls [va_rf r7_]) rfl ?_
  refine q_astore (i := 4) (lv' := [(4, va_rf r7_), (0, .ref a0), (1, .int x1), (2, .int x2), (3, .int x3)]) hx hb dX11_thing_10 hl (by decide) (by first | rfl | simp [q_cat, q_catI, q_catJ, q_catR]) (fun ls hl => ?_)
  refine q_aload hx hb dX11_thing_12 (lv_at hl 0 rfl) ?_
  refine q_ifnonnull (r := r7_) (tgt := 19) hx hb dX11_thing_14 (by decide) (fun c8_ => ?_) (fun c8_ => ?_)
  · replace h := h.1 c8_
    refine lv_iload_n hx hb dX11_thing_19 rfl (lv_at hl 3 rfl) ?_
    refine lv_iconst (v := 4) hx hb dX11_thing_20 (by decide) ?_
    refine lv_icmp_ne (tgt := 32) hx hb dX11_thing_21 (by decide) (fun c9_ => ?_) (fun c9_ => ?_)
    · replace h := h.1 c9_
      refine q_aload hx hb dX11_thing_32 (lv_at hl 0 rfl) ?_
      obtain ⟨a10_, e11_, h⟩ := h
      refine q_nn [] e11_ ?_
      obtain ⟨k12_, h⟩ := h
      refine q_callV X Y hl (cm_X10_value h) mt_X10_value mi_X10_value ml_X11_299 (ci := 10) rfl k12_ (by decide) rfl rfl (by first | exact Nat.le_of_ble_eq_true rfl | simp [q_cat, q_catI, q_catJ, q_catR]) ⟨Nat.le_of_ble_eq_true rfl, Nat.le_of_ble_eq_true rfl⟩ ⟨Nat.le_of_ble_eq_true rfl, Nat.le_of_ble_eq_true rfl⟩ dX11_thing_34 (fun r13_ S14_ H locs hp Y => ?_)
      obtain ⟨x15_, rfl, h⟩ := hp
      refine W.eq (g2 := F0 m 37 ls [.int x15_]) rfl ?_
      exact cb_X11_thing_37 X Y (lv_sub hl [] rfl) h
    · replace h := h.2 c9_
      refine q_aload hx hb dX11_thing_24 (lv_at hl 0 rfl) ?_
      obtain ⟨a16_, e17_, h⟩ := h
      refine q_nn [] e17_ ?_
      obtain ⟨k18_, h⟩ := h
      refine q_getI X Y kX10 8 rfl fl_X11_294 k18_ dX11_thing_26 ?_
      refine lv_goto (tgt := 37) hx hb dX11_thing_29 (by decide) ?_
      exact cb_X11_thing_37 X Y (lv_sub hl [] rfl) h
  · replace h := h.2 c8_
    refine lv_iconst (v := (-1)) hx hb dX11_thing_17 (by decide) ?_
    exact q_iret X Y rfl (Nat.le_refl _) (Nat.le_refl _) h dX11_thing_18
-- X11_waiting
theorem ml_X11_302 : Cond.methodLink RX11 302 yX5_thingAt ∈ q_G := q_tb (i := 384) (by decide +kernel) (by decide +kernel)
theorem ml_X11_305 : Cond.methodLink RX11 305 yX5_countWaiting ∈ q_G := q_tb (i := 385) (by decide +kernel) (by decide +kernel)
theorem dX11_waiting_0 : decode cX11_waiting 0 = .ok (.aload_n 0, 1) := by decide +kernel
theorem dX11_waiting_1 : decode cX11_waiting 1 = .ok (.getfield 20, 3) := by decide +kernel
theorem dX11_waiting_4 : decode cX11_waiting 4 = .ok (.iload_n 1, 1) := by decide +kernel
theorem dX11_waiting_5 : decode cX11_waiting 5 = .ok (.invokevirtual 85, 3) := by decide +kernel
theorem dX11_waiting_8 : decode cX11_waiting 8 = .ok (.astore 4, 2) := by decide +kernel
theorem dX11_waiting_10 : decode cX11_waiting 10 = .ok (.aload 4, 2) := by decide +kernel
theorem dX11_waiting_12 : decode cX11_waiting 12 = .ok (.ifnull 13, 3) := by decide +kernel
theorem dX11_waiting_15 : decode cX11_waiting 15 = .ok (.aload 4, 2) := by decide +kernel
theorem dX11_waiting_17 : decode cX11_waiting 17 = .ok (.iload_n 2, 1) := by decide +kernel
theorem dX11_waiting_18 : decode cX11_waiting 18 = .ok (.iload_n 3, 1) := by decide +kernel
theorem dX11_waiting_19 : decode cX11_waiting 19 = .ok (.invokevirtual 302, 3) := by decide +kernel
theorem dX11_waiting_22 : decode cX11_waiting 22 = .ok (.ifnonnull 5, 3) := by decide +kernel
theorem dX11_waiting_25 : decode cX11_waiting 25 = .ok (.iconst (-1), 1) := by decide +kernel
theorem dX11_waiting_26 : decode cX11_waiting 26 = .ok (.ireturn, 1) := by decide +kernel
theorem dX11_waiting_27 : decode cX11_waiting 27 = .ok (.aload 4, 2) := by decide +kernel
theorem dX11_waiting_29 : decode cX11_waiting 29 = .ok (.iload_n 2, 1) := by decide +kernel
theorem dX11_waiting_30 : decode cX11_waiting 30 = .ok (.bipush 8, 2) := by decide +kernel
theorem dX11_waiting_32 : decode cX11_waiting 32 = .ok (.imul, 1) := by decide +kernel
theorem dX11_waiting_33 : decode cX11_waiting 33 = .ok (.iload_n 3, 1) := by decide +kernel
theorem dX11_waiting_34 : decode cX11_waiting 34 = .ok (.iadd, 1) := by decide +kernel
theorem dX11_waiting_35 : decode cX11_waiting 35 = .ok (.invokevirtual 305, 3) := by decide +kernel
theorem dX11_waiting_38 : decode cX11_waiting 38 = .ok (.ireturn, 1) := by decide +kernel
def wb_X11_waiting_25  (S : q_S) (Q : Option Value → q_S → Prop) : Prop := Q (some (.int (-1 : Int32))) S
set_option maxHeartbeats 4000000 in
set_option maxRecDepth 100000 in
theorem cb_X11_waiting_25 {p : Program} {l : Launch} {e : Env} {s : State} {m : MethodId} {args : Array Value} {below : List Frame} {meth : Method} {c : Code} {D : va_G} {cy : Nat → ClassId} {lo : Nat}  {S : q_S} {Q : Option Value → q_S → Prop} {H : Heap} {locs : List Loc} {ls : Array Slot} (X : q_X p s m args meth c RX11 cX11_waiting 5 (some .int) D cy lo)  (Y : q_Y D cy lo s S H locs) (hl : lv_has ls 5 []) (h : wb_X11_waiting_25 S Q) : W p l e ({ frames := 1, cells := 0, slots := 0, locals := 24 } : Room) s m args below meth c H locs 0 0 (MQ below (q_Q D cy lo Q) args s 0 0 (fun q => lo ≤ q)) (F0 m 25 ls []) := by
  have hx := X.1
  have hb := X.2.1
  unfold wb_X11_waiting_25 at h
  refine lv_iconst (v := (-1)) hx hb dX11_waiting_25 (by decide) ?_
  exact q_iret X Y rfl (Nat.le_refl _) (Nat.le_refl _) h dX11_waiting_26
def wm_X11_waiting (S : q_S) (a0 : Nat) (x1 : Int32) (x2 : Int32) (x3 : Int32) (Q : Option Value → q_S → Prop) : Prop := q_K S a0 = 12 ∧ (∃ a2_ : Nat, (q_P S 2201 a0) = some a2_ ∧ (q_K S a2_ = 7 ∧ (wm_X6_partitionAt S a2_ x1 (fun r5_ S6_ => ∃ r7_ : Option Nat, r5_ = some (va_rf r7_) ∧ (((r7_ = none → (wb_X11_waiting_25 S6_ Q)) ∧ (¬ r7_ = none → (∃ a9_ : Nat, r7_ = some a9_ ∧ (q_K S6_ a9_ = 6 ∧ (wm_X5_thingAt S6_ a9_ x2 x3 (fun r12_ S13_ => ∃ r14_ : Option Nat, r12_ = some (va_rf r14_) ∧ (((¬ r14_ = none → (q_K S13_ a9_ = 6 ∧ (wm_X5_countWaiting S13_ a9_ ((x2 * (8 : Int32)) + x3) (fun r17_ S18_ => ∃ x19_ : Int32, r17_ = some (.int x19_) ∧ (Q (some (.int x19_)) S18_))))) ∧ (r14_ = none → (wb_X11_waiting_25 S13_ Q)))))))))))))))
set_option maxHeartbeats 4000000 in
set_option maxRecDepth 100000 in
theorem cm_X11_waiting {l : Launch} {D : va_G} {cy : Nat → ClassId} {lo : Nat} {S : q_S} {a0 : Nat} {x1 : Int32} {x2 : Int32} {x3 : Int32} {Q : Option Value → q_S → Prop} (h : wm_X11_waiting S a0 x1 x2 x3 Q) : q_Met l D cy lo yX11_waiting cX11_waiting 5 (some .int) 1 24 0 0 [.ref a0, .int x1, .int x2, .int x3] S Q := by
  refine q_body (by decide) (by first | exact Nat.le_of_ble_eq_true rfl | simp [lg_sl, q_cat, q_catI, q_catJ, q_catR]) ?_
  intro p e s m below meth c ls X hnm Y hl
  have hx := X.1
  have hb := X.2.1
  have hl : lv_has ls 5 [(0, .ref a0), (1, .int x1), (2, .int x2), (3, .int x3)] := by first | exact hl | simpa [lv_args, q_cat, q_catI, q_catJ, q_catR] using hl
  generalize hargs : ([.ref a0, .int x1, .int x2, .int x3] : List Value).toArray = args at X ⊢
  unfold wm_X11_waiting at h
  refine lv_aload_n hx hb dX11_waiting_0 rfl (lv_at hl 0 rfl) ?_
  obtain ⟨k1_, h⟩ := h
  refine q_getP X Y kX11 1 rfl fl_X11_20 k1_ rfl dX11_waiting_1 ?_
  refine lv_iload_n hx hb dX11_waiting_4 rfl (lv_at hl 1 rfl) ?_
  obtain ⟨a2_, e3_, h⟩ := h
  refine q_nn [.int x1] e3_ ?_
  obtain ⟨k4_, h⟩ := h
  refine q_callV X Y hl (cm_X6_partitionAt h) mt_X6_partitionAt mi_X6_partitionAt ml_X11_85 (ci := 6) rfl k4_ (by decide) rfl rfl (by first | exact Nat.le_of_ble_eq_true rfl | simp [q_cat, q_catI, q_catJ, q_catR]) ⟨Nat.le_of_ble_eq_true rfl, Nat.le_of_ble_eq_true rfl⟩ ⟨Nat.le_of_ble_eq_true rfl, Nat.le_of_ble_eq_true rfl⟩ dX11_waiting_5 (fun r5_ S6_ H locs hp Y => ?_)
  obtain ⟨r7_, rfl, h⟩ := hp
  refine W.eq (g2 := F0 m 8 ls [va_rf r7_]) rfl ?_
  refine q_astore (i := 4) (lv' := [(4, va_rf r7_), (0, .ref a0), (1, .int x1), (2, .int x2), (3, .int x3)]) hx hb dX11_waiting_8 hl (by decide) (by first | rfl | simp [q_cat, q_catI, q_catJ, q_catR]) (fun ls hl => ?_)
  refine q_aload hx hb dX11_waiting_10 (lv_at hl 0 rfl) ?_
  refine q_ifnull (r := r7_) (tgt := 25) hx hb dX11_waiting_12 (by decide) (fun c8_ => ?_) (fun c8_ => ?_)
  · replace h := h.1 c8_
    exact cb_X11_waiting_25 X Y (lv_sub hl [] rfl) h
  · replace h := h.2 c8_
    refine q_aload hx hb dX11_waiting_15 (lv_at hl 0 rfl) ?_
    refine lv_iload_n hx hb dX11_waiting_17 rfl (lv_at hl 3 rfl) ?_
    refine lv_iload_n hx hb dX11_waiting_18 rfl (lv_at hl 4 rfl) ?_
    obtain ⟨a9_, e10_, h⟩ := h
    refine q_nn [.int x3, .int x2] e10_ ?_
    obtain ⟨k11_, h⟩ := h
    refine q_callV X Y hl (cm_X5_thingAt h) mt_X5_thingAt mi_X5_thingAt ml_X11_302 (ci := 5) rfl k11_ (by decide) rfl rfl (by first | exact Nat.le_of_ble_eq_true rfl | simp [q_cat, q_catI, q_catJ, q_catR]) ⟨Nat.le_of_ble_eq_true rfl, Nat.le_of_ble_eq_true rfl⟩ ⟨Nat.le_of_ble_eq_true rfl, Nat.le_of_ble_eq_true rfl⟩ dX11_waiting_19 (fun r12_ S13_ H locs hp Y => ?_)
    obtain ⟨r14_, rfl, h⟩ := hp
    refine W.eq (g2 := F0 m 22 ls [va_rf r14_]) rfl ?_
    refine q_ifnonnull (r := r14_) (tgt := 27) hx hb dX11_waiting_22 (by decide) (fun c15_ => ?_) (fun c15_ => ?_)
    · replace h := h.1 c15_
      refine q_aload hx hb dX11_waiting_27 (lv_at hl 0 rfl) ?_
      refine lv_iload_n hx hb dX11_waiting_29 rfl (lv_at hl 3 rfl) ?_
      refine lv_bipush (v := 8) hx hb dX11_waiting_30 (by decide) ?_
      refine lv_imul hx hb dX11_waiting_32 ?_
      refine lv_iload_n hx hb dX11_waiting_33 rfl (lv_at hl 4 rfl) ?_
      refine lv_iadd hx hb dX11_waiting_34 ?_
      refine q_nn [.int ((x2 * (8 : Int32)) + x3)] e10_ ?_
      obtain ⟨k16_, h⟩ := h
      refine q_callV X Y hl (cm_X5_countWaiting h) mt_X5_countWaiting mi_X5_countWaiting ml_X11_305 (ci := 5) rfl k16_ (by decide) rfl rfl (by first | exact Nat.le_of_ble_eq_true rfl | simp [q_cat, q_catI, q_catJ, q_catR]) ⟨Nat.le_of_ble_eq_true rfl, Nat.le_of_ble_eq_true rfl⟩ ⟨Nat.le_of_ble_eq_true rfl, Nat.le_of_ble_eq_true rfl⟩ dX11_waiting_35 (fun r17_ S18_ H locs hp Y => ?_)
      obtain ⟨x19_, rfl, h⟩ := hp
      refine W.eq (g2 := F0 m 38 ls [.int x19_]) rfl ?_
      exact q_iret X Y rfl (Nat.le_refl _) (Nat.le_refl _) h dX11_waiting_38
    · replace h := h.2 c15_
      exact cb_X11_waiting_25 X Y (lv_sub hl [] rfl) h
-- X11_region
theorem ml_X11_309 : Cond.methodLink RX11 309 yX4_firstOf ∈ q_G := q_tb (i := 393) (by decide +kernel) (by decide +kernel)
theorem mt_X4_firstOf : q_Mt yX4_firstOf cX4_firstOf 2 (some .int) 1 := ⟨q_tb (i := 396) (by decide +kernel) (by decide +kernel), q_tb (i := 21) (by decide +kernel) (by decide +kernel), by decide +kernel, by decide +kernel, by decide +kernel⟩
theorem mi_X4_firstOf : Cond.instanceMethod yX4_firstOf ∈ q_G ∧ Cond.selects yX4_firstOf.cls yX4_firstOf yX4_firstOf ∈ q_G := ⟨q_tb (i := 394) (by decide +kernel) (by decide +kernel), q_tb (i := 395) (by decide +kernel) (by decide +kernel)⟩
theorem fl_X11_312 : Cond.fieldLink RX11 312 "PartitionWorks$Memory" "ends" "[I" ∈ q_G := q_tb (i := 669) (by decide +kernel) (by decide +kernel)
theorem fl_X11_315 : Cond.fieldLink RX11 315 "PartitionWorks$Memory" "sorts" "[I" ∈ q_G := q_tb (i := 671) (by decide +kernel) (by decide +kernel)
theorem dX11_region_0 : decode cX11_region 0 = .ok (.aload_n 0, 1) := by decide +kernel
theorem dX11_region_1 : decode cX11_region 1 = .ok (.getfield 20, 3) := by decide +kernel
theorem dX11_region_4 : decode cX11_region 4 = .ok (.iload_n 1, 1) := by decide +kernel
theorem dX11_region_5 : decode cX11_region 5 = .ok (.invokevirtual 85, 3) := by decide +kernel
theorem dX11_region_8 : decode cX11_region 8 = .ok (.astore 4, 2) := by decide +kernel
theorem dX11_region_10 : decode cX11_region 10 = .ok (.aload 4, 2) := by decide +kernel
theorem dX11_region_12 : decode cX11_region 12 = .ok (.ifnull 19, 3) := by decide +kernel
theorem dX11_region_15 : decode cX11_region 15 = .ok (.iload_n 2, 1) := by decide +kernel
theorem dX11_region_16 : decode cX11_region 16 = .ok (.ifCond .lt 15, 3) := by decide +kernel
theorem dX11_region_19 : decode cX11_region 19 = .ok (.iload_n 2, 1) := by decide +kernel
theorem dX11_region_20 : decode cX11_region 20 = .ok (.aload 4, 2) := by decide +kernel
theorem dX11_region_22 : decode cX11_region 22 = .ok (.getfield 89, 3) := by decide +kernel
theorem dX11_region_25 : decode cX11_region 25 = .ok (.getfield 287, 3) := by decide +kernel
theorem dX11_region_28 : decode cX11_region 28 = .ok (.if_icmp .lt 5, 3) := by decide +kernel
theorem dX11_region_31 : decode cX11_region 31 = .ok (.iconst (-1), 1) := by decide +kernel
theorem dX11_region_32 : decode cX11_region 32 = .ok (.ireturn, 1) := by decide +kernel
theorem dX11_region_33 : decode cX11_region 33 = .ok (.iload_n 3, 1) := by decide +kernel
theorem dX11_region_34 : decode cX11_region 34 = .ok (.tableswitch 68 0 2 #[26, 36, 57], 26) := by decide +kernel
theorem dX11_region_60 : decode cX11_region 60 = .ok (.aload 4, 2) := by decide +kernel
theorem dX11_region_62 : decode cX11_region 62 = .ok (.getfield 89, 3) := by decide +kernel
theorem dX11_region_65 : decode cX11_region 65 = .ok (.iload_n 2, 1) := by decide +kernel
theorem dX11_region_66 : decode cX11_region 66 = .ok (.invokevirtual 309, 3) := by decide +kernel
theorem dX11_region_69 : decode cX11_region 69 = .ok (.ireturn, 1) := by decide +kernel
theorem dX11_region_70 : decode cX11_region 70 = .ok (.aload 4, 2) := by decide +kernel
theorem dX11_region_72 : decode cX11_region 72 = .ok (.getfield 89, 3) := by decide +kernel
theorem dX11_region_75 : decode cX11_region 75 = .ok (.getfield 312, 3) := by decide +kernel
theorem dX11_region_78 : decode cX11_region 78 = .ok (.iload_n 2, 1) := by decide +kernel
theorem dX11_region_79 : decode cX11_region 79 = .ok (.iaload, 1) := by decide +kernel
theorem dX11_region_80 : decode cX11_region 80 = .ok (.aload 4, 2) := by decide +kernel
theorem dX11_region_82 : decode cX11_region 82 = .ok (.getfield 89, 3) := by decide +kernel
theorem dX11_region_85 : decode cX11_region 85 = .ok (.iload_n 2, 1) := by decide +kernel
theorem dX11_region_86 : decode cX11_region 86 = .ok (.invokevirtual 309, 3) := by decide +kernel
theorem dX11_region_89 : decode cX11_region 89 = .ok (.isub, 1) := by decide +kernel
theorem dX11_region_90 : decode cX11_region 90 = .ok (.ireturn, 1) := by decide +kernel
theorem dX11_region_91 : decode cX11_region 91 = .ok (.aload 4, 2) := by decide +kernel
theorem dX11_region_93 : decode cX11_region 93 = .ok (.getfield 89, 3) := by decide +kernel
theorem dX11_region_96 : decode cX11_region 96 = .ok (.getfield 315, 3) := by decide +kernel
theorem dX11_region_99 : decode cX11_region 99 = .ok (.iload_n 2, 1) := by decide +kernel
theorem dX11_region_100 : decode cX11_region 100 = .ok (.iaload, 1) := by decide +kernel
theorem dX11_region_101 : decode cX11_region 101 = .ok (.ireturn, 1) := by decide +kernel
theorem dX11_region_102 : decode cX11_region 102 = .ok (.iconst (-1), 1) := by decide +kernel
theorem dX11_region_103 : decode cX11_region 103 = .ok (.ireturn, 1) := by decide +kernel
def wb_X11_region_31  (S : q_S) (Q : Option Value → q_S → Prop) : Prop := Q (some (.int (-1 : Int32))) S
set_option maxHeartbeats 4000000 in
set_option maxRecDepth 100000 in
theorem cb_X11_region_31 {p : Program} {l : Launch} {e : Env} {s : State} {m : MethodId} {args : Array Value} {below : List Frame} {meth : Method} {c : Code} {D : va_G} {cy : Nat → ClassId} {lo : Nat}  {S : q_S} {Q : Option Value → q_S → Prop} {H : Heap} {locs : List Loc} {ls : Array Slot} (X : q_X p s m args meth c RX11 cX11_region 5 (some .int) D cy lo)  (Y : q_Y D cy lo s S H locs) (hl : lv_has ls 5 []) (h : wb_X11_region_31 S Q) : W p l e ({ frames := 1, cells := 0, slots := 0, locals := 21 } : Room) s m args below meth c H locs 0 0 (MQ below (q_Q D cy lo Q) args s 0 0 (fun q => lo ≤ q)) (F0 m 31 ls []) := by
  have hx := X.1
  have hb := X.2.1
  unfold wb_X11_region_31 at h
  refine lv_iconst (v := (-1)) hx hb dX11_region_31 (by decide) ?_
  exact q_iret X Y rfl (Nat.le_refl _) (Nat.le_refl _) h dX11_region_32
def wm_X11_region (S : q_S) (a0 : Nat) (x1 : Int32) (x2 : Int32) (x3 : Int32) (Q : Option Value → q_S → Prop) : Prop := q_K S a0 = 12 ∧ (∃ a2_ : Nat, (q_P S 2201 a0) = some a2_ ∧ (q_K S a2_ = 7 ∧ (wm_X6_partitionAt S a2_ x1 (fun r5_ S6_ => ∃ r7_ : Option Nat, r5_ = some (va_rf r7_) ∧ (((r7_ = none → (wb_X11_region_31 S6_ Q)) ∧ (¬ r7_ = none → (((x2 < 0 → (wb_X11_region_31 S6_ Q)) ∧ (¬ x2 < 0 → (∃ a10_ : Nat, r7_ = some a10_ ∧ (q_K S6_ a10_ = 6 ∧ (∃ a13_ : Nat, (q_P S6_ 1002 a10_) = some a13_ ∧ (q_K S6_ a13_ = 5 ∧ (((x2 < (q_I S6_ 803 a13_) → ((((x3.toInt < 0 ∨ 2 < x3.toInt) → (Q (some (.int (-1 : Int32))) S6_)) ∧ ((x3 = (0 : Int32)) → (wm_X4_firstOf S6_ a13_ x2 (fun r17_ S18_ => ∃ x19_ : Int32, r17_ = some (.int x19_) ∧ (Q (some (.int x19_)) S18_)))) ∧ ((x3 = (1 : Int32)) → (∃ a20_ : Nat, (q_P S6_ 804 a13_) = some a20_ ∧ (q_K S6_ a20_ = 21 ∧ (vp_in x2 (q_N S6_ a20_) ∧ (wm_X4_firstOf S6_ a13_ x2 (fun r24_ S25_ => ∃ x26_ : Int32, r24_ = some (.int x26_) ∧ (Q (some (.int ((q_A S6_ a20_ x2.toNatClampNeg) - x26_))) S25_))))))) ∧ ((x3 = (2 : Int32)) → (∃ a27_ : Nat, (q_P S6_ 805 a13_) = some a27_ ∧ (q_K S6_ a27_ = 21 ∧ (vp_in x2 (q_N S6_ a27_) ∧ (Q (some (.int (q_A S6_ a27_ x2.toNatClampNeg))) S6_)))))))) ∧ (¬ x2 < (q_I S6_ 803 a13_) → (wb_X11_region_31 S6_ Q))))))))))))))))))
set_option maxHeartbeats 4000000 in
set_option maxRecDepth 100000 in
theorem cm_X11_region {l : Launch} {D : va_G} {cy : Nat → ClassId} {lo : Nat} {S : q_S} {a0 : Nat} {x1 : Int32} {x2 : Int32} {x3 : Int32} {Q : Option Value → q_S → Prop} (h : wm_X11_region S a0 x1 x2 x3 Q) : q_Met l D cy lo yX11_region cX11_region 5 (some .int) 1 21 0 0 [.ref a0, .int x1, .int x2, .int x3] S Q := by
  refine q_body (by decide) (by first | exact Nat.le_of_ble_eq_true rfl | simp [lg_sl, q_cat, q_catI, q_catJ, q_catR]) ?_
  intro p e s m below meth c ls X hnm Y hl
  have hx := X.1
  have hb := X.2.1
  have hl : lv_has ls 5 [(0, .ref a0), (1, .int x1), (2, .int x2), (3, .int x3)] := by first | exact hl | simpa [lv_args, q_cat, q_catI, q_catJ, q_catR] using hl
  generalize hargs : ([.ref a0, .int x1, .int x2, .int x3] : List Value).toArray = args at X ⊢
  unfold wm_X11_region at h
  refine lv_aload_n hx hb dX11_region_0 rfl (lv_at hl 0 rfl) ?_
  obtain ⟨k1_, h⟩ := h
  refine q_getP X Y kX11 1 rfl fl_X11_20 k1_ rfl dX11_region_1 ?_
  refine lv_iload_n hx hb dX11_region_4 rfl (lv_at hl 1 rfl) ?_
  obtain ⟨a2_, e3_, h⟩ := h
  refine q_nn [.int x1] e3_ ?_
  obtain ⟨k4_, h⟩ := h
  refine q_callV X Y hl (cm_X6_partitionAt h) mt_X6_partitionAt mi_X6_partitionAt ml_X11_85 (ci := 6) rfl k4_ (by decide) rfl rfl (by first | exact Nat.le_of_ble_eq_true rfl | simp [q_cat, q_catI, q_catJ, q_catR]) ⟨Nat.le_of_ble_eq_true rfl, Nat.le_of_ble_eq_true rfl⟩ ⟨Nat.le_of_ble_eq_true rfl, Nat.le_of_ble_eq_true rfl⟩ dX11_region_5 (fun r5_ S6_ H locs hp Y => ?_)
  obtain ⟨r7_, rfl, h⟩ := hp
  refine W.eq (g2 := F0 m 8 ls [va_rf r7_]) rfl ?_
  refine q_astore (i := 4) (lv' := [(4, va_rf r7_), (0, .ref a0), (1, .int x1), (2, .int x2), (3, .int x3)]) hx hb dX11_region_8 hl (by decide) (by first | rfl | simp [q_cat, q_catI, q_catJ, q_catR]) (fun ls hl => ?_)
  refine q_aload hx hb dX11_region_10 (lv_at hl 0 rfl) ?_
  refine q_ifnull (r := r7_) (tgt := 31) hx hb dX11_region_12 (by decide) (fun c8_ => ?_) (fun c8_ => ?_)
  · replace h := h.1 c8_
    exact cb_X11_region_31 X Y (lv_sub hl [] rfl) h
  · replace h := h.2 c8_
    refine lv_iload_n hx hb dX11_region_15 rfl (lv_at hl 3 rfl) ?_
    refine lv_if_lt (tgt := 31) hx hb dX11_region_16 (by decide) (fun c9_ => ?_) (fun c9_ => ?_)
    · replace h := h.1 c9_
      exact cb_X11_region_31 X Y (lv_sub hl [] rfl) h
    · replace h := h.2 c9_
      refine lv_iload_n hx hb dX11_region_19 rfl (lv_at hl 3 rfl) ?_
      refine q_aload hx hb dX11_region_20 (lv_at hl 0 rfl) ?_
      obtain ⟨a10_, e11_, h⟩ := h
      refine q_nn [] e11_ ?_
      obtain ⟨k12_, h⟩ := h
      refine q_getP X Y kX5 2 rfl fl_X11_89 k12_ rfl dX11_region_22 ?_
      obtain ⟨a13_, e14_, h⟩ := h
      refine q_nn [] e14_ ?_
      obtain ⟨k15_, h⟩ := h
      refine q_getI X Y kX4 3 rfl fl_X11_287 k15_ dX11_region_25 ?_
      refine lv_icmp_lt (tgt := 33) hx hb dX11_region_28 (by decide) (fun c16_ => ?_) (fun c16_ => ?_)
      · replace h := h.1 c16_
        refine lv_iload_n hx hb dX11_region_33 rfl (lv_at hl 4 rfl) ?_
        refine q_tsw (tgt := 102) hx hb dX11_region_34 (by decide) (by decide) (fun c31_ => ?_) (fun j32_ hj_ c31_ => ?_)
        · replace h := h.1 c31_
          refine lv_iconst (v := (-1)) hx hb dX11_region_102 (by decide) ?_
          exact q_iret X Y rfl (Nat.le_refl _) (Nat.le_refl _) h dX11_region_103
        · match j32_, hj_, c31_ with
          | 0, _, c31_ =>
            refine ⟨26, 60, rfl, by decide, ?_⟩
            replace h := h.2.1 (q_eqI c31_ (by decide))
            refine q_aload hx hb dX11_region_60 (lv_at hl 0 rfl) ?_
            refine q_nn [] e11_ ?_
            refine q_getR X Y kX5 2 rfl fl_X11_89 k12_ e14_ dX11_region_62 ?_
            refine lv_iload_n hx hb dX11_region_65 rfl (lv_at hl 3 rfl) ?_
            refine q_callV X Y hl (cm_X4_firstOf h) mt_X4_firstOf mi_X4_firstOf ml_X11_309 (ci := 4) rfl k15_ (by decide) rfl rfl (by first | exact Nat.le_of_ble_eq_true rfl | simp [q_cat, q_catI, q_catJ, q_catR]) ⟨Nat.le_of_ble_eq_true rfl, Nat.le_of_ble_eq_true rfl⟩ ⟨Nat.le_of_ble_eq_true rfl, Nat.le_of_ble_eq_true rfl⟩ dX11_region_66 (fun r17_ S18_ H locs hp Y => ?_)
            obtain ⟨x19_, rfl, h⟩ := hp
            refine W.eq (g2 := F0 m 69 ls [.int x19_]) rfl ?_
            exact q_iret X Y rfl (Nat.le_refl _) (Nat.le_refl _) h dX11_region_69
          | 1, _, c31_ =>
            refine ⟨36, 70, rfl, by decide, ?_⟩
            replace h := h.2.2.1 (q_eqI c31_ (by decide))
            refine q_aload hx hb dX11_region_70 (lv_at hl 0 rfl) ?_
            refine q_nn [] e11_ ?_
            refine q_getR X Y kX5 2 rfl fl_X11_89 k12_ e14_ dX11_region_72 ?_
            refine q_getP X Y kX4 4 rfl fl_X11_312 k15_ rfl dX11_region_75 ?_
            refine lv_iload_n hx hb dX11_region_78 rfl (lv_at hl 3 rfl) ?_
            obtain ⟨a20_, e21_, h⟩ := h
            refine q_nn [.int x2] e21_ ?_
            obtain ⟨k22_, h⟩ := h
            obtain ⟨i23_, h⟩ := h
            refine q_ild X Y k22_ i23_ dX11_region_79 ?_
            refine q_aload hx hb dX11_region_80 (lv_at hl 0 rfl) ?_
            refine q_nn [] e11_ ?_
            refine q_getR X Y kX5 2 rfl fl_X11_89 k12_ e14_ dX11_region_82 ?_
            refine lv_iload_n hx hb dX11_region_85 rfl (lv_at hl 3 rfl) ?_
            refine q_callV X Y hl (cm_X4_firstOf h) mt_X4_firstOf mi_X4_firstOf ml_X11_309 (ci := 4) rfl k15_ (by decide) rfl rfl (by first | exact Nat.le_of_ble_eq_true rfl | simp [q_cat, q_catI, q_catJ, q_catR]) ⟨Nat.le_of_ble_eq_true rfl, Nat.le_of_ble_eq_true rfl⟩ ⟨Nat.le_of_ble_eq_true rfl, Nat.le_of_ble_eq_true rfl⟩ dX11_region_86 (fun r24_ S25_ H locs hp Y => ?_)
            obtain ⟨x26_, rfl, h⟩ := hp
            refine W.eq (g2 := F0 m 89 ls [.int x26_, .int (q_A S6_ a20_ x2.toNatClampNeg)]) rfl ?_
            refine lv_isub hx hb dX11_region_89 ?_
            exact q_iret X Y rfl (Nat.le_refl _) (Nat.le_refl _) h dX11_region_90
          | 2, _, c31_ =>
            refine ⟨57, 91, rfl, by decide, ?_⟩
            replace h := h.2.2.2 (q_eqI c31_ (by decide))
            refine q_aload hx hb dX11_region_91 (lv_at hl 0 rfl) ?_
            refine q_nn [] e11_ ?_
            refine q_getR X Y kX5 2 rfl fl_X11_89 k12_ e14_ dX11_region_93 ?_
            refine q_getP X Y kX4 5 rfl fl_X11_315 k15_ rfl dX11_region_96 ?_
            refine lv_iload_n hx hb dX11_region_99 rfl (lv_at hl 3 rfl) ?_
            obtain ⟨a27_, e28_, h⟩ := h
            refine q_nn [.int x2] e28_ ?_
            obtain ⟨k29_, h⟩ := h
            obtain ⟨i30_, h⟩ := h
            refine q_ild X Y k29_ i30_ dX11_region_100 ?_
            exact q_iret X Y rfl (Nat.le_refl _) (Nat.le_refl _) h dX11_region_101
          | z_ + 3, hj_, _ => exact absurd hj_ (by simp)
      · replace h := h.2 c16_
        exact cb_X11_region_31 X Y (lv_sub hl [] rfl) h
-- X11_wordOf
theorem fl_X11_318 : Cond.fieldLink RX11 318 "PartitionWorks$Thing" "queue" "LPartitionWorks$Queue;" ∈ q_G := q_tb (i := 1026) (by decide +kernel) (by decide +kernel)
theorem fl_X11_327 : Cond.fieldLink RX11 327 "PartitionWorks$Thing" "count" "I" ∈ q_G := q_tb (i := 1002) (by decide +kernel) (by decide +kernel)
theorem fl_X11_330 : Cond.fieldLink RX11 330 "PartitionWorks$Thing" "word" "I" ∈ q_G := q_tb (i := 1013) (by decide +kernel) (by decide +kernel)
theorem ml_X11_322 : Cond.methodLink RX11 322 yX8_at ∈ q_G := q_tb (i := 401) (by decide +kernel) (by decide +kernel)
theorem dX11_wordOf_0 : decode cX11_wordOf 0 = .ok (.aload_n 0, 1) := by decide +kernel
theorem dX11_wordOf_1 : decode cX11_wordOf 1 = .ok (.getfield 20, 3) := by decide +kernel
theorem dX11_wordOf_4 : decode cX11_wordOf 4 = .ok (.iload_n 1, 1) := by decide +kernel
theorem dX11_wordOf_5 : decode cX11_wordOf 5 = .ok (.iload_n 2, 1) := by decide +kernel
theorem dX11_wordOf_6 : decode cX11_wordOf 6 = .ok (.iload_n 3, 1) := by decide +kernel
theorem dX11_wordOf_7 : decode cX11_wordOf 7 = .ok (.invokevirtual 290, 3) := by decide +kernel
theorem dX11_wordOf_10 : decode cX11_wordOf 10 = .ok (.astore 5, 2) := by decide +kernel
theorem dX11_wordOf_12 : decode cX11_wordOf 12 = .ok (.aload 5, 2) := by decide +kernel
theorem dX11_wordOf_14 : decode cX11_wordOf 14 = .ok (.ifnonnull 5, 3) := by decide +kernel
theorem dX11_wordOf_17 : decode cX11_wordOf 17 = .ok (.iconst 0, 1) := by decide +kernel
theorem dX11_wordOf_18 : decode cX11_wordOf 18 = .ok (.ireturn, 1) := by decide +kernel
theorem dX11_wordOf_19 : decode cX11_wordOf 19 = .ok (.aload 5, 2) := by decide +kernel
theorem dX11_wordOf_21 : decode cX11_wordOf 21 = .ok (.getfield 318, 3) := by decide +kernel
theorem dX11_wordOf_24 : decode cX11_wordOf 24 = .ok (.ifnull 14, 3) := by decide +kernel
theorem dX11_wordOf_27 : decode cX11_wordOf 27 = .ok (.aload 5, 2) := by decide +kernel
theorem dX11_wordOf_29 : decode cX11_wordOf 29 = .ok (.getfield 318, 3) := by decide +kernel
theorem dX11_wordOf_32 : decode cX11_wordOf 32 = .ok (.iload 4, 2) := by decide +kernel
theorem dX11_wordOf_34 : decode cX11_wordOf 34 = .ok (.invokevirtual 322, 3) := by decide +kernel
theorem dX11_wordOf_37 : decode cX11_wordOf 37 = .ok (.ireturn, 1) := by decide +kernel
theorem dX11_wordOf_38 : decode cX11_wordOf 38 = .ok (.iload_n 2, 1) := by decide +kernel
theorem dX11_wordOf_39 : decode cX11_wordOf 39 = .ok (.iconst 3, 1) := by decide +kernel
theorem dX11_wordOf_40 : decode cX11_wordOf 40 = .ok (.if_icmp .ne 24, 3) := by decide +kernel
theorem dX11_wordOf_43 : decode cX11_wordOf 43 = .ok (.aload 5, 2) := by decide +kernel
theorem dX11_wordOf_45 : decode cX11_wordOf 45 = .ok (.getfield 327, 3) := by decide +kernel
theorem dX11_wordOf_48 : decode cX11_wordOf 48 = .ok (.ifCond .eq 16, 3) := by decide +kernel
theorem dX11_wordOf_51 : decode cX11_wordOf 51 = .ok (.iload 4, 2) := by decide +kernel
theorem dX11_wordOf_53 : decode cX11_wordOf 53 = .ok (.ifCond .ne 11, 3) := by decide +kernel
theorem dX11_wordOf_56 : decode cX11_wordOf 56 = .ok (.aload 5, 2) := by decide +kernel
theorem dX11_wordOf_58 : decode cX11_wordOf 58 = .ok (.getfield 330, 3) := by decide +kernel
theorem dX11_wordOf_61 : decode cX11_wordOf 61 = .ok (.goto 4, 3) := by decide +kernel
theorem dX11_wordOf_64 : decode cX11_wordOf 64 = .ok (.iconst 0, 1) := by decide +kernel
theorem dX11_wordOf_65 : decode cX11_wordOf 65 = .ok (.ireturn, 1) := by decide +kernel
def wb_X11_wordOf_65  (S : q_S) (xs0 : Int32) (Q : Option Value → q_S → Prop) : Prop := Q (some (.int xs0)) S
set_option maxHeartbeats 4000000 in
set_option maxRecDepth 100000 in
theorem cb_X11_wordOf_65 {p : Program} {l : Launch} {e : Env} {s : State} {m : MethodId} {args : Array Value} {below : List Frame} {meth : Method} {c : Code} {D : va_G} {cy : Nat → ClassId} {lo : Nat}  {S : q_S} {xs0 : Int32} {Q : Option Value → q_S → Prop} {H : Heap} {locs : List Loc} {ls : Array Slot} (X : q_X p s m args meth c RX11 cX11_wordOf 6 (some .int) D cy lo)  (Y : q_Y D cy lo s S H locs) (hl : lv_has ls 6 []) (h : wb_X11_wordOf_65 S xs0 Q) : W p l e ({ frames := 2, cells := 0, slots := 0, locals := 46 } : Room) s m args below meth c H locs 0 0 (MQ below (q_Q D cy lo Q) args s 0 0 (fun q => lo ≤ q)) (F0 m 65 ls [.int xs0]) := by
  have hx := X.1
  have hb := X.2.1
  unfold wb_X11_wordOf_65 at h
  exact q_iret X Y rfl (Nat.le_refl _) (Nat.le_refl _) h dX11_wordOf_65
def wb_X11_wordOf_64  (S : q_S) (Q : Option Value → q_S → Prop) : Prop := wb_X11_wordOf_65 S (0 : Int32) Q
set_option maxHeartbeats 4000000 in
set_option maxRecDepth 100000 in
theorem cb_X11_wordOf_64 {p : Program} {l : Launch} {e : Env} {s : State} {m : MethodId} {args : Array Value} {below : List Frame} {meth : Method} {c : Code} {D : va_G} {cy : Nat → ClassId} {lo : Nat}  {S : q_S} {Q : Option Value → q_S → Prop} {H : Heap} {locs : List Loc} {ls : Array Slot} (X : q_X p s m args meth c RX11 cX11_wordOf 6 (some .int) D cy lo)  (Y : q_Y D cy lo s S H locs) (hl : lv_has ls 6 []) (h : wb_X11_wordOf_64 S Q) : W p l e ({ frames := 2, cells := 0, slots := 0, locals := 46 } : Room) s m args below meth c H locs 0 0 (MQ below (q_Q D cy lo Q) args s 0 0 (fun q => lo ≤ q)) (F0 m 64 ls []) := by
  have hx := X.1
  have hb := X.2.1
  unfold wb_X11_wordOf_64 at h
  refine lv_iconst (v := 0) hx hb dX11_wordOf_64 (by decide) ?_
  exact cb_X11_wordOf_65 X Y (lv_sub hl [] rfl) h
def wm_X11_wordOf (S : q_S) (a0 : Nat) (x1 : Int32) (x2 : Int32) (x3 : Int32) (x4 : Int32) (Q : Option Value → q_S → Prop) : Prop := q_K S a0 = 12 ∧ (∃ a2_ : Nat, (q_P S 2201 a0) = some a2_ ∧ (q_K S a2_ = 7 ∧ (wm_X6_thingAt S a2_ x1 x2 x3 (fun r5_ S6_ => ∃ r7_ : Option Nat, r5_ = some (va_rf r7_) ∧ (((¬ r7_ = none → (∃ a9_ : Nat, r7_ = some a9_ ∧ (q_K S6_ a9_ = 11 ∧ ((((q_P S6_ 2009 a9_) = none → (((¬ x2 = (3 : Int32) → (wb_X11_wordOf_64 S6_ Q)) ∧ (x2 = (3 : Int32) → ((((q_I S6_ 2001 a9_) = 0 → (wb_X11_wordOf_64 S6_ Q)) ∧ (¬ (q_I S6_ 2001 a9_) = 0 → (((¬ x4 = 0 → (wb_X11_wordOf_64 S6_ Q)) ∧ (x4 = 0 → (wb_X11_wordOf_65 S6_ (q_I S6_ 2005 a9_) Q))))))))))) ∧ (¬ (q_P S6_ 2009 a9_) = none → (∃ a16_ : Nat, (q_P S6_ 2009 a9_) = some a16_ ∧ (q_K S6_ a16_ = 9 ∧ (wm_X8_at S6_ a16_ x4 (fun r19_ S20_ => ∃ x21_ : Int32, r19_ = some (.int x21_) ∧ (Q (some (.int x21_)) S20_))))))))))) ∧ (r7_ = none → (Q (some (.int (0 : Int32))) S6_))))))))
set_option maxHeartbeats 4000000 in
set_option maxRecDepth 100000 in
theorem cm_X11_wordOf {l : Launch} {D : va_G} {cy : Nat → ClassId} {lo : Nat} {S : q_S} {a0 : Nat} {x1 : Int32} {x2 : Int32} {x3 : Int32} {x4 : Int32} {Q : Option Value → q_S → Prop} (h : wm_X11_wordOf S a0 x1 x2 x3 x4 Q) : q_Met l D cy lo yX11_wordOf cX11_wordOf 6 (some .int) 2 46 0 0 [.ref a0, .int x1, .int x2, .int x3, .int x4] S Q := by
  refine q_body (by decide) (by first | exact Nat.le_of_ble_eq_true rfl | simp [lg_sl, q_cat, q_catI, q_catJ, q_catR]) ?_
  intro p e s m below meth c ls X hnm Y hl
  have hx := X.1
  have hb := X.2.1
  have hl : lv_has ls 6 [(0, .ref a0), (1, .int x1), (2, .int x2), (3, .int x3), (4, .int x4)] := by first | exact hl | simpa [lv_args, q_cat, q_catI, q_catJ, q_catR] using hl
  generalize hargs : ([.ref a0, .int x1, .int x2, .int x3, .int x4] : List Value).toArray = args at X ⊢
  unfold wm_X11_wordOf at h
  refine lv_aload_n hx hb dX11_wordOf_0 rfl (lv_at hl 0 rfl) ?_
  obtain ⟨k1_, h⟩ := h
  refine q_getP X Y kX11 1 rfl fl_X11_20 k1_ rfl dX11_wordOf_1 ?_
  refine lv_iload_n hx hb dX11_wordOf_4 rfl (lv_at hl 1 rfl) ?_
  refine lv_iload_n hx hb dX11_wordOf_5 rfl (lv_at hl 2 rfl) ?_
  refine lv_iload_n hx hb dX11_wordOf_6 rfl (lv_at hl 3 rfl) ?_
  obtain ⟨a2_, e3_, h⟩ := h
  refine q_nn [.int x3, .int x2, .int x1] e3_ ?_
  obtain ⟨k4_, h⟩ := h
  refine q_callV X Y hl (cm_X6_thingAt h) mt_X6_thingAt mi_X6_thingAt ml_X11_290 (ci := 6) rfl k4_ (by decide) rfl rfl (by first | exact Nat.le_of_ble_eq_true rfl | simp [q_cat, q_catI, q_catJ, q_catR]) ⟨Nat.le_of_ble_eq_true rfl, Nat.le_of_ble_eq_true rfl⟩ ⟨Nat.le_of_ble_eq_true rfl, Nat.le_of_ble_eq_true rfl⟩ dX11_wordOf_7 (fun r5_ S6_ H locs hp Y => ?_)
  obtain ⟨r7_, rfl, h⟩ := hp
  refine W.eq (g2 := F0 m 10 ls [va_rf r7_]) rfl ?_
  refine q_astore (i := 5) (lv' := [(5, va_rf r7_), (0, .ref a0), (1, .int x1), (2, .int x2), (3, .int x3), (4, .int x4)]) hx hb dX11_wordOf_10 hl (by decide) (by first | rfl | simp [q_cat, q_catI, q_catJ, q_catR]) (fun ls hl => ?_)
  refine q_aload hx hb dX11_wordOf_12 (lv_at hl 0 rfl) ?_
  refine q_ifnonnull (r := r7_) (tgt := 19) hx hb dX11_wordOf_14 (by decide) (fun c8_ => ?_) (fun c8_ => ?_)
  · replace h := h.1 c8_
    refine q_aload hx hb dX11_wordOf_19 (lv_at hl 0 rfl) ?_
    obtain ⟨a9_, e10_, h⟩ := h
    refine q_nn [] e10_ ?_
    obtain ⟨k11_, h⟩ := h
    refine q_getP X Y kX10 9 rfl fl_X11_318 k11_ rfl dX11_wordOf_21 ?_
    refine q_ifnull (r := (q_P S6_ 2009 a9_)) (tgt := 38) hx hb dX11_wordOf_24 (by decide) (fun c12_ => ?_) (fun c12_ => ?_)
    · replace h := h.1 c12_
      refine lv_iload_n hx hb dX11_wordOf_38 rfl (lv_at hl 3 rfl) ?_
      refine lv_iconst (v := 3) hx hb dX11_wordOf_39 (by decide) ?_
      refine lv_icmp_ne (tgt := 64) hx hb dX11_wordOf_40 (by decide) (fun c13_ => ?_) (fun c13_ => ?_)
      · replace h := h.1 c13_
        exact cb_X11_wordOf_64 X Y (lv_sub hl [] rfl) h
      · replace h := h.2 c13_
        refine q_aload hx hb dX11_wordOf_43 (lv_at hl 0 rfl) ?_
        refine q_nn [] e10_ ?_
        refine q_getI X Y kX10 1 rfl fl_X11_327 k11_ dX11_wordOf_45 ?_
        refine lv_if_eq (tgt := 64) hx hb dX11_wordOf_48 (by decide) (fun c14_ => ?_) (fun c14_ => ?_)
        · replace h := h.1 c14_
          exact cb_X11_wordOf_64 X Y (lv_sub hl [] rfl) h
        · replace h := h.2 c14_
          refine lv_iload hx hb dX11_wordOf_51 (lv_at hl 5 rfl) ?_
          refine lv_if_ne (tgt := 64) hx hb dX11_wordOf_53 (by decide) (fun c15_ => ?_) (fun c15_ => ?_)
          · replace h := h.1 c15_
            exact cb_X11_wordOf_64 X Y (lv_sub hl [] rfl) h
          · replace h := h.2 c15_
            refine q_aload hx hb dX11_wordOf_56 (lv_at hl 0 rfl) ?_
            refine q_nn [] e10_ ?_
            refine q_getI X Y kX10 5 rfl fl_X11_330 k11_ dX11_wordOf_58 ?_
            refine lv_goto (tgt := 65) hx hb dX11_wordOf_61 (by decide) ?_
            exact cb_X11_wordOf_65 X Y (lv_sub hl [] rfl) h
    · replace h := h.2 c12_
      refine q_aload hx hb dX11_wordOf_27 (lv_at hl 0 rfl) ?_
      refine q_nn [] e10_ ?_
      refine q_getP X Y kX10 9 rfl fl_X11_318 k11_ rfl dX11_wordOf_29 ?_
      refine lv_iload hx hb dX11_wordOf_32 (lv_at hl 5 rfl) ?_
      obtain ⟨a16_, e17_, h⟩ := h
      refine q_nn [.int x4] e17_ ?_
      obtain ⟨k18_, h⟩ := h
      refine q_callV X Y hl (cm_X8_at h) mt_X8_at mi_X8_at ml_X11_322 (ci := 8) rfl k18_ (by decide) rfl rfl (by first | exact Nat.le_of_ble_eq_true rfl | simp [q_cat, q_catI, q_catJ, q_catR]) ⟨Nat.le_of_ble_eq_true rfl, Nat.le_of_ble_eq_true rfl⟩ ⟨Nat.le_of_ble_eq_true rfl, Nat.le_of_ble_eq_true rfl⟩ dX11_wordOf_34 (fun r19_ S20_ H locs hp Y => ?_)
      obtain ⟨x21_, rfl, h⟩ := hp
      refine W.eq (g2 := F0 m 37 ls [.int x21_]) rfl ?_
      exact q_iret X Y rfl (Nat.le_refl _) (Nat.le_refl _) h dX11_wordOf_37
  · replace h := h.2 c8_
    refine lv_iconst (v := 0) hx hb dX11_wordOf_17 (by decide) ?_
    exact q_iret X Y rfl (Nat.le_refl _) (Nat.le_refl _) h dX11_wordOf_18
-- X11_channel
theorem ml_X11_333 : Cond.methodLink RX11 333 yX6_channelAt ∈ q_G := q_tb (i := 414) (by decide +kernel) (by decide +kernel)
theorem fl_X11_336 : Cond.fieldLink RX11 336 "PartitionWorks$Channel" "queuing" "Z" ∈ q_G := q_tb (i := 1111) (by decide +kernel) (by decide +kernel)
theorem fl_X11_339 : Cond.fieldLink RX11 339 "PartitionWorks$Channel" "queue" "LPartitionWorks$Queue;" ∈ q_G := q_tb (i := 1122) (by decide +kernel) (by decide +kernel)
theorem fl_X11_340 : Cond.fieldLink RX11 340 "PartitionWorks$Queue" "count" "I" ∈ q_G := q_tb (i := 988) (by decide +kernel) (by decide +kernel)
theorem fl_X11_341 : Cond.fieldLink RX11 341 "PartitionWorks$Channel" "limit" "I" ∈ q_G := q_tb (i := 1118) (by decide +kernel) (by decide +kernel)
theorem fl_X11_344 : Cond.fieldLink RX11 344 "PartitionWorks$Channel" "stamp" "I" ∈ q_G := q_tb (i := 1125) (by decide +kernel) (by decide +kernel)
theorem fl_X11_347 : Cond.fieldLink RX11 347 "PartitionWorks$Channel" "lost" "I" ∈ q_G := q_tb (i := 1129) (by decide +kernel) (by decide +kernel)
theorem fl_X11_350 : Cond.fieldLink RX11 350 "PartitionWorks$Channel" "goals" "I" ∈ q_G := q_tb (i := 1131) (by decide +kernel) (by decide +kernel)
theorem dX11_channel_0 : decode cX11_channel 0 = .ok (.aload_n 0, 1) := by decide +kernel
theorem dX11_channel_1 : decode cX11_channel 1 = .ok (.getfield 20, 3) := by decide +kernel
theorem dX11_channel_4 : decode cX11_channel 4 = .ok (.iload_n 1, 1) := by decide +kernel
theorem dX11_channel_5 : decode cX11_channel 5 = .ok (.invokevirtual 333, 3) := by decide +kernel
theorem dX11_channel_8 : decode cX11_channel 8 = .ok (.astore_n 3, 1) := by decide +kernel
theorem dX11_channel_9 : decode cX11_channel 9 = .ok (.aload_n 3, 1) := by decide +kernel
theorem dX11_channel_10 : decode cX11_channel 10 = .ok (.ifnonnull 5, 3) := by decide +kernel
theorem dX11_channel_13 : decode cX11_channel 13 = .ok (.iconst (-1), 1) := by decide +kernel
theorem dX11_channel_14 : decode cX11_channel 14 = .ok (.ireturn, 1) := by decide +kernel
theorem dX11_channel_15 : decode cX11_channel 15 = .ok (.iload_n 2, 1) := by decide +kernel
theorem dX11_channel_16 : decode cX11_channel 16 = .ok (.tableswitch 81 0 5 #[40, 53, 61, 66, 71, 76], 40) := by decide +kernel
theorem dX11_channel_56 : decode cX11_channel 56 = .ok (.aload_n 3, 1) := by decide +kernel
theorem dX11_channel_57 : decode cX11_channel 57 = .ok (.getfield 336, 3) := by decide +kernel
theorem dX11_channel_60 : decode cX11_channel 60 = .ok (.ifCond .eq 7, 3) := by decide +kernel
theorem dX11_channel_63 : decode cX11_channel 63 = .ok (.iconst 1, 1) := by decide +kernel
theorem dX11_channel_64 : decode cX11_channel 64 = .ok (.goto 4, 3) := by decide +kernel
theorem dX11_channel_67 : decode cX11_channel 67 = .ok (.iconst 0, 1) := by decide +kernel
theorem dX11_channel_68 : decode cX11_channel 68 = .ok (.ireturn, 1) := by decide +kernel
theorem dX11_channel_69 : decode cX11_channel 69 = .ok (.aload_n 3, 1) := by decide +kernel
theorem dX11_channel_70 : decode cX11_channel 70 = .ok (.getfield 339, 3) := by decide +kernel
theorem dX11_channel_73 : decode cX11_channel 73 = .ok (.getfield 340, 3) := by decide +kernel
theorem dX11_channel_76 : decode cX11_channel 76 = .ok (.ireturn, 1) := by decide +kernel
theorem dX11_channel_77 : decode cX11_channel 77 = .ok (.aload_n 3, 1) := by decide +kernel
theorem dX11_channel_78 : decode cX11_channel 78 = .ok (.getfield 341, 3) := by decide +kernel
theorem dX11_channel_81 : decode cX11_channel 81 = .ok (.ireturn, 1) := by decide +kernel
theorem dX11_channel_82 : decode cX11_channel 82 = .ok (.aload_n 3, 1) := by decide +kernel
theorem dX11_channel_83 : decode cX11_channel 83 = .ok (.getfield 344, 3) := by decide +kernel
theorem dX11_channel_86 : decode cX11_channel 86 = .ok (.ireturn, 1) := by decide +kernel
theorem dX11_channel_87 : decode cX11_channel 87 = .ok (.aload_n 3, 1) := by decide +kernel
theorem dX11_channel_88 : decode cX11_channel 88 = .ok (.getfield 347, 3) := by decide +kernel
theorem dX11_channel_91 : decode cX11_channel 91 = .ok (.ireturn, 1) := by decide +kernel
theorem dX11_channel_92 : decode cX11_channel 92 = .ok (.aload_n 3, 1) := by decide +kernel
theorem dX11_channel_93 : decode cX11_channel 93 = .ok (.getfield 350, 3) := by decide +kernel
theorem dX11_channel_96 : decode cX11_channel 96 = .ok (.ireturn, 1) := by decide +kernel
theorem dX11_channel_97 : decode cX11_channel 97 = .ok (.iconst (-1), 1) := by decide +kernel
theorem dX11_channel_98 : decode cX11_channel 98 = .ok (.ireturn, 1) := by decide +kernel
def wb_X11_channel_68  (S : q_S) (xs0 : Int32) (Q : Option Value → q_S → Prop) : Prop := Q (some (.int xs0)) S
set_option maxHeartbeats 4000000 in
set_option maxRecDepth 100000 in
theorem cb_X11_channel_68 {p : Program} {l : Launch} {e : Env} {s : State} {m : MethodId} {args : Array Value} {below : List Frame} {meth : Method} {c : Code} {D : va_G} {cy : Nat → ClassId} {lo : Nat}  {S : q_S} {xs0 : Int32} {Q : Option Value → q_S → Prop} {H : Heap} {locs : List Loc} {ls : Array Slot} (X : q_X p s m args meth c RX11 cX11_channel 4 (some .int) D cy lo)  (Y : q_Y D cy lo s S H locs) (hl : lv_has ls 4 []) (h : wb_X11_channel_68 S xs0 Q) : W p l e ({ frames := 1, cells := 0, slots := 0, locals := 21 } : Room) s m args below meth c H locs 0 0 (MQ below (q_Q D cy lo Q) args s 0 0 (fun q => lo ≤ q)) (F0 m 68 ls [.int xs0]) := by
  have hx := X.1
  have hb := X.2.1
  unfold wb_X11_channel_68 at h
  exact q_iret X Y rfl (Nat.le_refl _) (Nat.le_refl _) h dX11_channel_68
def wm_X11_channel (S : q_S) (a0 : Nat) (x1 : Int32) (x2 : Int32) (Q : Option Value → q_S → Prop) : Prop := q_K S a0 = 12 ∧ (∃ a2_ : Nat, (q_P S 2201 a0) = some a2_ ∧ (q_K S a2_ = 7 ∧ (wm_X6_channelAt S a2_ x1 (fun r5_ S6_ => ∃ r7_ : Option Nat, r5_ = some (va_rf r7_) ∧ (((¬ r7_ = none → ((((x2.toInt < 0 ∨ 5 < x2.toInt) → (Q (some (.int (-1 : Int32))) S6_)) ∧ ((x2 = (0 : Int32)) → (∃ a9_ : Nat, r7_ = some a9_ ∧ (q_K S6_ a9_ = 2 ∧ ((((q_I S6_ 201 a9_) = 0 → (wb_X11_channel_68 S6_ (0 : Int32) Q)) ∧ (¬ (q_I S6_ 201 a9_) = 0 → (wb_X11_channel_68 S6_ (1 : Int32) Q))))))) ∧ ((x2 = (1 : Int32)) → (∃ a13_ : Nat, r7_ = some a13_ ∧ (q_K S6_ a13_ = 2 ∧ (∃ a16_ : Nat, (q_P S6_ 204 a13_) = some a16_ ∧ (q_K S6_ a16_ = 9 ∧ (Q (some (.int (q_I S6_ 1603 a16_))) S6_)))))) ∧ ((x2 = (2 : Int32)) → (∃ a19_ : Nat, r7_ = some a19_ ∧ (q_K S6_ a19_ = 2 ∧ (Q (some (.int (q_I S6_ 203 a19_))) S6_)))) ∧ ((x2 = (3 : Int32)) → (∃ a22_ : Nat, r7_ = some a22_ ∧ (q_K S6_ a22_ = 2 ∧ (Q (some (.int (q_I S6_ 205 a22_))) S6_)))) ∧ ((x2 = (4 : Int32)) → (∃ a25_ : Nat, r7_ = some a25_ ∧ (q_K S6_ a25_ = 2 ∧ (Q (some (.int (q_I S6_ 206 a25_))) S6_)))) ∧ ((x2 = (5 : Int32)) → (∃ a28_ : Nat, r7_ = some a28_ ∧ (q_K S6_ a28_ = 2 ∧ (Q (some (.int (q_I S6_ 207 a28_))) S6_))))))) ∧ (r7_ = none → (Q (some (.int (-1 : Int32))) S6_))))))))
set_option maxHeartbeats 4000000 in
set_option maxRecDepth 100000 in
theorem cm_X11_channel {l : Launch} {D : va_G} {cy : Nat → ClassId} {lo : Nat} {S : q_S} {a0 : Nat} {x1 : Int32} {x2 : Int32} {Q : Option Value → q_S → Prop} (h : wm_X11_channel S a0 x1 x2 Q) : q_Met l D cy lo yX11_channel cX11_channel 4 (some .int) 1 21 0 0 [.ref a0, .int x1, .int x2] S Q := by
  refine q_body (by decide) (by first | exact Nat.le_of_ble_eq_true rfl | simp [lg_sl, q_cat, q_catI, q_catJ, q_catR]) ?_
  intro p e s m below meth c ls X hnm Y hl
  have hx := X.1
  have hb := X.2.1
  have hl : lv_has ls 4 [(0, .ref a0), (1, .int x1), (2, .int x2)] := by first | exact hl | simpa [lv_args, q_cat, q_catI, q_catJ, q_catR] using hl
  generalize hargs : ([.ref a0, .int x1, .int x2] : List Value).toArray = args at X ⊢
  unfold wm_X11_channel at h
  refine lv_aload_n hx hb dX11_channel_0 rfl (lv_at hl 0 rfl) ?_
  obtain ⟨k1_, h⟩ := h
  refine q_getP X Y kX11 1 rfl fl_X11_20 k1_ rfl dX11_channel_1 ?_
  refine lv_iload_n hx hb dX11_channel_4 rfl (lv_at hl 1 rfl) ?_
  obtain ⟨a2_, e3_, h⟩ := h
  refine q_nn [.int x1] e3_ ?_
  obtain ⟨k4_, h⟩ := h
  refine q_callV X Y hl (cm_X6_channelAt h) mt_X6_channelAt mi_X6_channelAt ml_X11_333 (ci := 6) rfl k4_ (by decide) rfl rfl (by first | exact Nat.le_of_ble_eq_true rfl | simp [q_cat, q_catI, q_catJ, q_catR]) ⟨Nat.le_of_ble_eq_true rfl, Nat.le_of_ble_eq_true rfl⟩ ⟨Nat.le_of_ble_eq_true rfl, Nat.le_of_ble_eq_true rfl⟩ dX11_channel_5 (fun r5_ S6_ H locs hp Y => ?_)
  obtain ⟨r7_, rfl, h⟩ := hp
  refine W.eq (g2 := F0 m 8 ls [va_rf r7_]) rfl ?_
  refine q_astore_n (i := 3) (lv' := [(3, va_rf r7_), (0, .ref a0), (1, .int x1), (2, .int x2)]) hx hb dX11_channel_8 rfl hl (by decide) (by first | rfl | simp [q_cat, q_catI, q_catJ, q_catR]) (fun ls hl => ?_)
  refine q_aload_n hx hb dX11_channel_9 rfl (lv_at hl 0 rfl) ?_
  refine q_ifnonnull (r := r7_) (tgt := 15) hx hb dX11_channel_10 (by decide) (fun c8_ => ?_) (fun c8_ => ?_)
  · replace h := h.1 c8_
    refine lv_iload_n hx hb dX11_channel_15 rfl (lv_at hl 3 rfl) ?_
    refine q_tsw (tgt := 97) hx hb dX11_channel_16 (by decide) (by decide) (fun c31_ => ?_) (fun j32_ hj_ c31_ => ?_)
    · replace h := h.1 c31_
      refine lv_iconst (v := (-1)) hx hb dX11_channel_97 (by decide) ?_
      exact q_iret X Y rfl (Nat.le_refl _) (Nat.le_refl _) h dX11_channel_98
    · match j32_, hj_, c31_ with
      | 0, _, c31_ =>
        refine ⟨40, 56, rfl, by decide, ?_⟩
        replace h := h.2.1 (q_eqI c31_ (by decide))
        refine q_aload_n hx hb dX11_channel_56 rfl (lv_at hl 0 rfl) ?_
        obtain ⟨a9_, e10_, h⟩ := h
        refine q_nn [] e10_ ?_
        obtain ⟨k11_, h⟩ := h
        refine q_getI X Y kX1 1 rfl fl_X11_336 k11_ dX11_channel_57 ?_
        refine lv_if_eq (tgt := 67) hx hb dX11_channel_60 (by decide) (fun c12_ => ?_) (fun c12_ => ?_)
        · replace h := h.1 c12_
          refine lv_iconst (v := 0) hx hb dX11_channel_67 (by decide) ?_
          exact cb_X11_channel_68 X Y (lv_sub hl [] rfl) h
        · replace h := h.2 c12_
          refine lv_iconst (v := 1) hx hb dX11_channel_63 (by decide) ?_
          refine lv_goto (tgt := 68) hx hb dX11_channel_64 (by decide) ?_
          exact cb_X11_channel_68 X Y (lv_sub hl [] rfl) h
      | 1, _, c31_ =>
        refine ⟨53, 69, rfl, by decide, ?_⟩
        replace h := h.2.2.1 (q_eqI c31_ (by decide))
        refine q_aload_n hx hb dX11_channel_69 rfl (lv_at hl 0 rfl) ?_
        obtain ⟨a13_, e14_, h⟩ := h
        refine q_nn [] e14_ ?_
        obtain ⟨k15_, h⟩ := h
        refine q_getP X Y kX1 4 rfl fl_X11_339 k15_ rfl dX11_channel_70 ?_
        obtain ⟨a16_, e17_, h⟩ := h
        refine q_nn [] e17_ ?_
        obtain ⟨k18_, h⟩ := h
        refine q_getI X Y kX8 3 rfl fl_X11_340 k18_ dX11_channel_73 ?_
        exact q_iret X Y rfl (Nat.le_refl _) (Nat.le_refl _) h dX11_channel_76
      | 2, _, c31_ =>
        refine ⟨61, 77, rfl, by decide, ?_⟩
        replace h := h.2.2.2.1 (q_eqI c31_ (by decide))
        refine q_aload_n hx hb dX11_channel_77 rfl (lv_at hl 0 rfl) ?_
        obtain ⟨a19_, e20_, h⟩ := h
        refine q_nn [] e20_ ?_
        obtain ⟨k21_, h⟩ := h
        refine q_getI X Y kX1 3 rfl fl_X11_341 k21_ dX11_channel_78 ?_
        exact q_iret X Y rfl (Nat.le_refl _) (Nat.le_refl _) h dX11_channel_81
      | 3, _, c31_ =>
        refine ⟨66, 82, rfl, by decide, ?_⟩
        replace h := h.2.2.2.2.1 (q_eqI c31_ (by decide))
        refine q_aload_n hx hb dX11_channel_82 rfl (lv_at hl 0 rfl) ?_
        obtain ⟨a22_, e23_, h⟩ := h
        refine q_nn [] e23_ ?_
        obtain ⟨k24_, h⟩ := h
        refine q_getI X Y kX1 5 rfl fl_X11_344 k24_ dX11_channel_83 ?_
        exact q_iret X Y rfl (Nat.le_refl _) (Nat.le_refl _) h dX11_channel_86
      | 4, _, c31_ =>
        refine ⟨71, 87, rfl, by decide, ?_⟩
        replace h := h.2.2.2.2.2.1 (q_eqI c31_ (by decide))
        refine q_aload_n hx hb dX11_channel_87 rfl (lv_at hl 0 rfl) ?_
        obtain ⟨a25_, e26_, h⟩ := h
        refine q_nn [] e26_ ?_
        obtain ⟨k27_, h⟩ := h
        refine q_getI X Y kX1 6 rfl fl_X11_347 k27_ dX11_channel_88 ?_
        exact q_iret X Y rfl (Nat.le_refl _) (Nat.le_refl _) h dX11_channel_91
      | 5, _, c31_ =>
        refine ⟨76, 92, rfl, by decide, ?_⟩
        replace h := h.2.2.2.2.2.2 (q_eqI c31_ (by decide))
        refine q_aload_n hx hb dX11_channel_92 rfl (lv_at hl 0 rfl) ?_
        obtain ⟨a28_, e29_, h⟩ := h
        refine q_nn [] e29_ ?_
        obtain ⟨k30_, h⟩ := h
        refine q_getI X Y kX1 7 rfl fl_X11_350 k30_ dX11_channel_93 ?_
        exact q_iret X Y rfl (Nat.le_refl _) (Nat.le_refl _) h dX11_channel_96
      | z_ + 6, hj_, _ => exact absurd hj_ (by simp)
  · replace h := h.2 c8_
    refine lv_iconst (v := (-1)) hx hb dX11_channel_13 (by decide) ?_
    exact q_iret X Y rfl (Nat.le_refl _) (Nat.le_refl _) h dX11_channel_14
-- X11_wordAt
theorem dX11_wordAt_0 : decode cX11_wordAt 0 = .ok (.aload_n 0, 1) := by decide +kernel
theorem dX11_wordAt_1 : decode cX11_wordAt 1 = .ok (.getfield 20, 3) := by decide +kernel
theorem dX11_wordAt_4 : decode cX11_wordAt 4 = .ok (.iload_n 1, 1) := by decide +kernel
theorem dX11_wordAt_5 : decode cX11_wordAt 5 = .ok (.invokevirtual 333, 3) := by decide +kernel
theorem dX11_wordAt_8 : decode cX11_wordAt 8 = .ok (.astore_n 3, 1) := by decide +kernel
theorem dX11_wordAt_9 : decode cX11_wordAt 9 = .ok (.aload_n 3, 1) := by decide +kernel
theorem dX11_wordAt_10 : decode cX11_wordAt 10 = .ok (.ifnonnull 7, 3) := by decide +kernel
theorem dX11_wordAt_13 : decode cX11_wordAt 13 = .ok (.iconst 0, 1) := by decide +kernel
theorem dX11_wordAt_14 : decode cX11_wordAt 14 = .ok (.goto 11, 3) := by decide +kernel
theorem dX11_wordAt_17 : decode cX11_wordAt 17 = .ok (.aload_n 3, 1) := by decide +kernel
theorem dX11_wordAt_18 : decode cX11_wordAt 18 = .ok (.getfield 339, 3) := by decide +kernel
theorem dX11_wordAt_21 : decode cX11_wordAt 21 = .ok (.iload_n 2, 1) := by decide +kernel
theorem dX11_wordAt_22 : decode cX11_wordAt 22 = .ok (.invokevirtual 322, 3) := by decide +kernel
theorem dX11_wordAt_25 : decode cX11_wordAt 25 = .ok (.ireturn, 1) := by decide +kernel
def wb_X11_wordAt_25  (S : q_S) (xs0 : Int32) (Q : Option Value → q_S → Prop) : Prop := Q (some (.int xs0)) S
set_option maxHeartbeats 4000000 in
set_option maxRecDepth 100000 in
theorem cb_X11_wordAt_25 {p : Program} {l : Launch} {e : Env} {s : State} {m : MethodId} {args : Array Value} {below : List Frame} {meth : Method} {c : Code} {D : va_G} {cy : Nat → ClassId} {lo : Nat}  {S : q_S} {xs0 : Int32} {Q : Option Value → q_S → Prop} {H : Heap} {locs : List Loc} {ls : Array Slot} (X : q_X p s m args meth c RX11 cX11_wordAt 4 (some .int) D cy lo)  (Y : q_Y D cy lo s S H locs) (hl : lv_has ls 4 []) (h : wb_X11_wordAt_25 S xs0 Q) : W p l e ({ frames := 2, cells := 0, slots := 0, locals := 43 } : Room) s m args below meth c H locs 0 0 (MQ below (q_Q D cy lo Q) args s 0 0 (fun q => lo ≤ q)) (F0 m 25 ls [.int xs0]) := by
  have hx := X.1
  have hb := X.2.1
  unfold wb_X11_wordAt_25 at h
  exact q_iret X Y rfl (Nat.le_refl _) (Nat.le_refl _) h dX11_wordAt_25
def wm_X11_wordAt (S : q_S) (a0 : Nat) (x1 : Int32) (x2 : Int32) (Q : Option Value → q_S → Prop) : Prop := q_K S a0 = 12 ∧ (∃ a2_ : Nat, (q_P S 2201 a0) = some a2_ ∧ (q_K S a2_ = 7 ∧ (wm_X6_channelAt S a2_ x1 (fun r5_ S6_ => ∃ r7_ : Option Nat, r5_ = some (va_rf r7_) ∧ (((¬ r7_ = none → (∃ a9_ : Nat, r7_ = some a9_ ∧ (q_K S6_ a9_ = 2 ∧ (∃ a12_ : Nat, (q_P S6_ 204 a9_) = some a12_ ∧ (q_K S6_ a12_ = 9 ∧ (wm_X8_at S6_ a12_ x2 (fun r15_ S16_ => ∃ x17_ : Int32, r15_ = some (.int x17_) ∧ (wb_X11_wordAt_25 S16_ x17_ Q)))))))) ∧ (r7_ = none → (wb_X11_wordAt_25 S6_ (0 : Int32) Q))))))))
set_option maxHeartbeats 4000000 in
set_option maxRecDepth 100000 in
theorem cm_X11_wordAt {l : Launch} {D : va_G} {cy : Nat → ClassId} {lo : Nat} {S : q_S} {a0 : Nat} {x1 : Int32} {x2 : Int32} {Q : Option Value → q_S → Prop} (h : wm_X11_wordAt S a0 x1 x2 Q) : q_Met l D cy lo yX11_wordAt cX11_wordAt 4 (some .int) 2 43 0 0 [.ref a0, .int x1, .int x2] S Q := by
  refine q_body (by decide) (by first | exact Nat.le_of_ble_eq_true rfl | simp [lg_sl, q_cat, q_catI, q_catJ, q_catR]) ?_
  intro p e s m below meth c ls X hnm Y hl
  have hx := X.1
  have hb := X.2.1
  have hl : lv_has ls 4 [(0, .ref a0), (1, .int x1), (2, .int x2)] := by first | exact hl | simpa [lv_args, q_cat, q_catI, q_catJ, q_catR] using hl
  generalize hargs : ([.ref a0, .int x1, .int x2] : List Value).toArray = args at X ⊢
  unfold wm_X11_wordAt at h
  refine lv_aload_n hx hb dX11_wordAt_0 rfl (lv_at hl 0 rfl) ?_
  obtain ⟨k1_, h⟩ := h
  refine q_getP X Y kX11 1 rfl fl_X11_20 k1_ rfl dX11_wordAt_1 ?_
  refine lv_iload_n hx hb dX11_wordAt_4 rfl (lv_at hl 1 rfl) ?_
  obtain ⟨a2_, e3_, h⟩ := h
  refine q_nn [.int x1] e3_ ?_
  obtain ⟨k4_, h⟩ := h
  refine q_callV X Y hl (cm_X6_channelAt h) mt_X6_channelAt mi_X6_channelAt ml_X11_333 (ci := 6) rfl k4_ (by decide) rfl rfl (by first | exact Nat.le_of_ble_eq_true rfl | simp [q_cat, q_catI, q_catJ, q_catR]) ⟨Nat.le_of_ble_eq_true rfl, Nat.le_of_ble_eq_true rfl⟩ ⟨Nat.le_of_ble_eq_true rfl, Nat.le_of_ble_eq_true rfl⟩ dX11_wordAt_5 (fun r5_ S6_ H locs hp Y => ?_)
  obtain ⟨r7_, rfl, h⟩ := hp
  refine W.eq (g2 := F0 m 8 ls [va_rf r7_]) rfl ?_
  refine q_astore_n (i := 3) (lv' := [(3, va_rf r7_), (0, .ref a0), (1, .int x1), (2, .int x2)]) hx hb dX11_wordAt_8 rfl hl (by decide) (by first | rfl | simp [q_cat, q_catI, q_catJ, q_catR]) (fun ls hl => ?_)
  refine q_aload_n hx hb dX11_wordAt_9 rfl (lv_at hl 0 rfl) ?_
  refine q_ifnonnull (r := r7_) (tgt := 17) hx hb dX11_wordAt_10 (by decide) (fun c8_ => ?_) (fun c8_ => ?_)
  · replace h := h.1 c8_
    refine q_aload_n hx hb dX11_wordAt_17 rfl (lv_at hl 0 rfl) ?_
    obtain ⟨a9_, e10_, h⟩ := h
    refine q_nn [] e10_ ?_
    obtain ⟨k11_, h⟩ := h
    refine q_getP X Y kX1 4 rfl fl_X11_339 k11_ rfl dX11_wordAt_18 ?_
    refine lv_iload_n hx hb dX11_wordAt_21 rfl (lv_at hl 3 rfl) ?_
    obtain ⟨a12_, e13_, h⟩ := h
    refine q_nn [.int x2] e13_ ?_
    obtain ⟨k14_, h⟩ := h
    refine q_callV X Y hl (cm_X8_at h) mt_X8_at mi_X8_at ml_X11_322 (ci := 8) rfl k14_ (by decide) rfl rfl (by first | exact Nat.le_of_ble_eq_true rfl | simp [q_cat, q_catI, q_catJ, q_catR]) ⟨Nat.le_of_ble_eq_true rfl, Nat.le_of_ble_eq_true rfl⟩ ⟨Nat.le_of_ble_eq_true rfl, Nat.le_of_ble_eq_true rfl⟩ dX11_wordAt_22 (fun r15_ S16_ H locs hp Y => ?_)
    obtain ⟨x17_, rfl, h⟩ := hp
    refine W.eq (g2 := F0 m 25 ls [.int x17_]) rfl ?_
    exact cb_X11_wordAt_25 X Y (lv_sub hl [] rfl) h
  · replace h := h.2 c8_
    refine lv_iconst (v := 0) hx hb dX11_wordAt_13 (by decide) ?_
    refine lv_goto (tgt := 25) hx hb dX11_wordAt_14 (by decide) ?_
    exact cb_X11_wordAt_25 X Y (lv_sub hl [] rfl) h
-- X11_trace
theorem ml_X11_353 : Cond.methodLink RX11 353 yX2_shown ∈ q_G := q_tb (i := 426) (by decide +kernel) (by decide +kernel)
theorem mt_X2_shown : q_Mt yX2_shown cX2_shown 3 (some .int) 2 := ⟨q_tb (i := 429) (by decide +kernel) (by decide +kernel), q_tb (i := 4) (by decide +kernel) (by decide +kernel), by decide +kernel, by decide +kernel, by decide +kernel⟩
theorem mi_X2_shown : Cond.instanceMethod yX2_shown ∈ q_G ∧ Cond.selects yX2_shown.cls yX2_shown yX2_shown ∈ q_G := ⟨q_tb (i := 427) (by decide +kernel) (by decide +kernel), q_tb (i := 428) (by decide +kernel) (by decide +kernel)⟩
theorem dX11_trace_0 : decode cX11_trace 0 = .ok (.aload_n 0, 1) := by decide +kernel
theorem dX11_trace_1 : decode cX11_trace 1 = .ok (.getfield 20, 3) := by decide +kernel
theorem dX11_trace_4 : decode cX11_trace 4 = .ok (.getfield 216, 3) := by decide +kernel
theorem dX11_trace_7 : decode cX11_trace 7 = .ok (.iload_n 1, 1) := by decide +kernel
theorem dX11_trace_8 : decode cX11_trace 8 = .ok (.iload_n 2, 1) := by decide +kernel
theorem dX11_trace_9 : decode cX11_trace 9 = .ok (.invokevirtual 353, 3) := by decide +kernel
theorem dX11_trace_12 : decode cX11_trace 12 = .ok (.ireturn, 1) := by decide +kernel
def wm_X11_trace (S : q_S) (a0 : Nat) (x1 : Int32) (x2 : Int32) (Q : Option Value → q_S → Prop) : Prop := q_K S a0 = 12 ∧ (∃ a2_ : Nat, (q_P S 2201 a0) = some a2_ ∧ (q_K S a2_ = 7 ∧ (∃ a5_ : Nat, (q_P S 1210 a2_) = some a5_ ∧ (q_K S a5_ = 3 ∧ (wm_X2_shown S a5_ x1 x2 (fun r8_ S9_ => ∃ x10_ : Int32, r8_ = some (.int x10_) ∧ (Q (some (.int x10_)) S9_)))))))
set_option maxHeartbeats 4000000 in
set_option maxRecDepth 100000 in
theorem cm_X11_trace {l : Launch} {D : va_G} {cy : Nat → ClassId} {lo : Nat} {S : q_S} {a0 : Nat} {x1 : Int32} {x2 : Int32} {Q : Option Value → q_S → Prop} (h : wm_X11_trace S a0 x1 x2 Q) : q_Met l D cy lo yX11_trace cX11_trace 3 (some .int) 1 22 0 0 [.ref a0, .int x1, .int x2] S Q := by
  refine q_body (by decide) (by first | exact Nat.le_of_ble_eq_true rfl | simp [lg_sl, q_cat, q_catI, q_catJ, q_catR]) ?_
  intro p e s m below meth c ls X hnm Y hl
  have hx := X.1
  have hb := X.2.1
  have hl : lv_has ls 3 [(0, .ref a0), (1, .int x1), (2, .int x2)] := by first | exact hl | simpa [lv_args, q_cat, q_catI, q_catJ, q_catR] using hl
  generalize hargs : ([.ref a0, .int x1, .int x2] : List Value).toArray = args at X ⊢
  unfold wm_X11_trace at h
  refine lv_aload_n hx hb dX11_trace_0 rfl (lv_at hl 0 rfl) ?_
  obtain ⟨k1_, h⟩ := h
  refine q_getP X Y kX11 1 rfl fl_X11_20 k1_ rfl dX11_trace_1 ?_
  obtain ⟨a2_, e3_, h⟩ := h
  refine q_nn [] e3_ ?_
  obtain ⟨k4_, h⟩ := h
  refine q_getP X Y kX6 10 rfl fl_X11_216 k4_ rfl dX11_trace_4 ?_
  refine lv_iload_n hx hb dX11_trace_7 rfl (lv_at hl 1 rfl) ?_
  refine lv_iload_n hx hb dX11_trace_8 rfl (lv_at hl 2 rfl) ?_
  obtain ⟨a5_, e6_, h⟩ := h
  refine q_nn [.int x2, .int x1] e6_ ?_
  obtain ⟨k7_, h⟩ := h
  refine q_callV X Y hl (cm_X2_shown h) mt_X2_shown mi_X2_shown ml_X11_353 (ci := 2) rfl k7_ (by decide) rfl rfl (by first | exact Nat.le_of_ble_eq_true rfl | simp [q_cat, q_catI, q_catJ, q_catR]) ⟨Nat.le_of_ble_eq_true rfl, Nat.le_of_ble_eq_true rfl⟩ ⟨Nat.le_of_ble_eq_true rfl, Nat.le_of_ble_eq_true rfl⟩ dX11_trace_9 (fun r8_ S9_ H locs hp Y => ?_)
  obtain ⟨x10_, rfl, h⟩ := hp
  refine W.eq (g2 := F0 m 12 ls [.int x10_]) rfl ?_
  exact q_iret X Y rfl (Nat.le_refl _) (Nat.le_refl _) h dX11_trace_12
-- X11_error
theorem ml_X11_357 : Cond.methodLink RX11 357 yX2_noted ∈ q_G := q_tb (i := 434) (by decide +kernel) (by decide +kernel)
theorem mt_X2_noted : q_Mt yX2_noted cX2_noted 3 (some .int) 2 := ⟨q_tb (i := 437) (by decide +kernel) (by decide +kernel), q_tb (i := 4) (by decide +kernel) (by decide +kernel), by decide +kernel, by decide +kernel, by decide +kernel⟩
theorem mi_X2_noted : Cond.instanceMethod yX2_noted ∈ q_G ∧ Cond.selects yX2_noted.cls yX2_noted yX2_noted ∈ q_G := ⟨q_tb (i := 435) (by decide +kernel) (by decide +kernel), q_tb (i := 436) (by decide +kernel) (by decide +kernel)⟩
theorem dX11_error_0 : decode cX11_error 0 = .ok (.aload_n 0, 1) := by decide +kernel
theorem dX11_error_1 : decode cX11_error 1 = .ok (.getfield 20, 3) := by decide +kernel
theorem dX11_error_4 : decode cX11_error 4 = .ok (.getfield 216, 3) := by decide +kernel
theorem dX11_error_7 : decode cX11_error 7 = .ok (.iload_n 1, 1) := by decide +kernel
theorem dX11_error_8 : decode cX11_error 8 = .ok (.iload_n 2, 1) := by decide +kernel
theorem dX11_error_9 : decode cX11_error 9 = .ok (.invokevirtual 357, 3) := by decide +kernel
theorem dX11_error_12 : decode cX11_error 12 = .ok (.ireturn, 1) := by decide +kernel
def wm_X11_error (S : q_S) (a0 : Nat) (x1 : Int32) (x2 : Int32) (Q : Option Value → q_S → Prop) : Prop := q_K S a0 = 12 ∧ (∃ a2_ : Nat, (q_P S 2201 a0) = some a2_ ∧ (q_K S a2_ = 7 ∧ (∃ a5_ : Nat, (q_P S 1210 a2_) = some a5_ ∧ (q_K S a5_ = 3 ∧ (wm_X2_noted S a5_ x1 x2 (fun r8_ S9_ => ∃ x10_ : Int32, r8_ = some (.int x10_) ∧ (Q (some (.int x10_)) S9_)))))))
set_option maxHeartbeats 4000000 in
set_option maxRecDepth 100000 in
theorem cm_X11_error {l : Launch} {D : va_G} {cy : Nat → ClassId} {lo : Nat} {S : q_S} {a0 : Nat} {x1 : Int32} {x2 : Int32} {Q : Option Value → q_S → Prop} (h : wm_X11_error S a0 x1 x2 Q) : q_Met l D cy lo yX11_error cX11_error 3 (some .int) 1 22 0 0 [.ref a0, .int x1, .int x2] S Q := by
  refine q_body (by decide) (by first | exact Nat.le_of_ble_eq_true rfl | simp [lg_sl, q_cat, q_catI, q_catJ, q_catR]) ?_
  intro p e s m below meth c ls X hnm Y hl
  have hx := X.1
  have hb := X.2.1
  have hl : lv_has ls 3 [(0, .ref a0), (1, .int x1), (2, .int x2)] := by first | exact hl | simpa [lv_args, q_cat, q_catI, q_catJ, q_catR] using hl
  generalize hargs : ([.ref a0, .int x1, .int x2] : List Value).toArray = args at X ⊢
  unfold wm_X11_error at h
  refine lv_aload_n hx hb dX11_error_0 rfl (lv_at hl 0 rfl) ?_
  obtain ⟨k1_, h⟩ := h
  refine q_getP X Y kX11 1 rfl fl_X11_20 k1_ rfl dX11_error_1 ?_
  obtain ⟨a2_, e3_, h⟩ := h
  refine q_nn [] e3_ ?_
  obtain ⟨k4_, h⟩ := h
  refine q_getP X Y kX6 10 rfl fl_X11_216 k4_ rfl dX11_error_4 ?_
  refine lv_iload_n hx hb dX11_error_7 rfl (lv_at hl 1 rfl) ?_
  refine lv_iload_n hx hb dX11_error_8 rfl (lv_at hl 2 rfl) ?_
  obtain ⟨a5_, e6_, h⟩ := h
  refine q_nn [.int x2, .int x1] e6_ ?_
  obtain ⟨k7_, h⟩ := h
  refine q_callV X Y hl (cm_X2_noted h) mt_X2_noted mi_X2_noted ml_X11_357 (ci := 2) rfl k7_ (by decide) rfl rfl (by first | exact Nat.le_of_ble_eq_true rfl | simp [q_cat, q_catI, q_catJ, q_catR]) ⟨Nat.le_of_ble_eq_true rfl, Nat.le_of_ble_eq_true rfl⟩ ⟨Nat.le_of_ble_eq_true rfl, Nat.le_of_ble_eq_true rfl⟩ dX11_error_9 (fun r8_ S9_ H locs hp Y => ?_)
  obtain ⟨x10_, rfl, h⟩ := hp
  refine W.eq (g2 := F0 m 12 ls [.int x10_]) rfl ?_
  exact q_iret X Y rfl (Nat.le_refl _) (Nat.le_refl _) h dX11_error_12
-- X11_about
theorem fl_X11_360 : Cond.fieldLink RX11 360 "PartitionWorks$Journal" "errorCount" "I" ∈ q_G := q_tb (i := 64) (by decide +kernel) (by decide +kernel)
theorem ml_X11_155 : Cond.methodLink RX11 155 yX6_partitionNow ∈ q_G := q_tb (i := 442) (by decide +kernel) (by decide +kernel)
theorem mt_X6_partitionNow : q_Mt yX6_partitionNow cX6_partitionNow 2 (some .int) 0 := ⟨q_tb (i := 445) (by decide +kernel) (by decide +kernel), q_tb (i := 3) (by decide +kernel) (by decide +kernel), by decide +kernel, by decide +kernel, by decide +kernel⟩
theorem mi_X6_partitionNow : Cond.instanceMethod yX6_partitionNow ∈ q_G ∧ Cond.selects yX6_partitionNow.cls yX6_partitionNow yX6_partitionNow ∈ q_G := ⟨q_tb (i := 443) (by decide +kernel) (by decide +kernel), q_tb (i := 444) (by decide +kernel) (by decide +kernel)⟩
theorem fl_X11_363 : Cond.fieldLink RX11 363 "PartitionWorks$Journal" "traceCount" "I" ∈ q_G := q_tb (i := 62) (by decide +kernel) (by decide +kernel)
theorem fl_X11_60 : Cond.fieldLink RX11 60 "PartitionWorks$Plan" "partitionCount" "I" ∈ q_G := q_tb (i := 79) (by decide +kernel) (by decide +kernel)
theorem fl_X11_366 : Cond.fieldLink RX11 366 "PartitionWorks$Plan" "channelCount" "I" ∈ q_G := q_tb (i := 83) (by decide +kernel) (by decide +kernel)
theorem fl_X11_369 : Cond.fieldLink RX11 369 "PartitionWorks$Plan" "windowCount" "I" ∈ q_G := q_tb (i := 93) (by decide +kernel) (by decide +kernel)
theorem fl_X11_372 : Cond.fieldLink RX11 372 "PartitionWorks$Plan" "inputCount" "I" ∈ q_G := q_tb (i := 87) (by decide +kernel) (by decide +kernel)
theorem fl_X11_373 : Cond.fieldLink RX11 373 "PartitionWorks$Plan" "outputCount" "I" ∈ q_G := q_tb (i := 89) (by decide +kernel) (by decide +kernel)
theorem dX11_about_0 : decode cX11_about 0 = .ok (.iload_n 1, 1) := by decide +kernel
theorem dX11_about_1 : decode cX11_about 1 = .ok (.tableswitch 155 0 9 #[55, 63, 74, 82, 104, 115, 123, 131, 139, 147], 55) := by decide +kernel
theorem dX11_about_56 : decode cX11_about 56 = .ok (.aload_n 0, 1) := by decide +kernel
theorem dX11_about_57 : decode cX11_about 57 = .ok (.getfield 20, 3) := by decide +kernel
theorem dX11_about_60 : decode cX11_about 60 = .ok (.getfield 162, 3) := by decide +kernel
theorem dX11_about_63 : decode cX11_about 63 = .ok (.ireturn, 1) := by decide +kernel
theorem dX11_about_64 : decode cX11_about 64 = .ok (.aload_n 0, 1) := by decide +kernel
theorem dX11_about_65 : decode cX11_about 65 = .ok (.getfield 20, 3) := by decide +kernel
theorem dX11_about_68 : decode cX11_about 68 = .ok (.getfield 216, 3) := by decide +kernel
theorem dX11_about_71 : decode cX11_about 71 = .ok (.getfield 360, 3) := by decide +kernel
theorem dX11_about_74 : decode cX11_about 74 = .ok (.ireturn, 1) := by decide +kernel
theorem dX11_about_75 : decode cX11_about 75 = .ok (.aload_n 0, 1) := by decide +kernel
theorem dX11_about_76 : decode cX11_about 76 = .ok (.getfield 20, 3) := by decide +kernel
theorem dX11_about_79 : decode cX11_about 79 = .ok (.getfield 149, 3) := by decide +kernel
theorem dX11_about_82 : decode cX11_about 82 = .ok (.ireturn, 1) := by decide +kernel
theorem dX11_about_83 : decode cX11_about 83 = .ok (.aload_n 0, 1) := by decide +kernel
theorem dX11_about_84 : decode cX11_about 84 = .ok (.getfield 20, 3) := by decide +kernel
theorem dX11_about_87 : decode cX11_about 87 = .ok (.getfield 75, 3) := by decide +kernel
theorem dX11_about_90 : decode cX11_about 90 = .ok (.ifCond .eq 13, 3) := by decide +kernel
theorem dX11_about_93 : decode cX11_about 93 = .ok (.aload_n 0, 1) := by decide +kernel
theorem dX11_about_94 : decode cX11_about 94 = .ok (.getfield 20, 3) := by decide +kernel
theorem dX11_about_97 : decode cX11_about 97 = .ok (.invokevirtual 155, 3) := by decide +kernel
theorem dX11_about_100 : decode cX11_about 100 = .ok (.goto 4, 3) := by decide +kernel
theorem dX11_about_103 : decode cX11_about 103 = .ok (.iconst (-1), 1) := by decide +kernel
theorem dX11_about_104 : decode cX11_about 104 = .ok (.ireturn, 1) := by decide +kernel
theorem dX11_about_105 : decode cX11_about 105 = .ok (.aload_n 0, 1) := by decide +kernel
theorem dX11_about_106 : decode cX11_about 106 = .ok (.getfield 20, 3) := by decide +kernel
theorem dX11_about_109 : decode cX11_about 109 = .ok (.getfield 216, 3) := by decide +kernel
theorem dX11_about_112 : decode cX11_about 112 = .ok (.getfield 363, 3) := by decide +kernel
theorem dX11_about_115 : decode cX11_about 115 = .ok (.ireturn, 1) := by decide +kernel
theorem dX11_about_116 : decode cX11_about 116 = .ok (.aload_n 0, 1) := by decide +kernel
theorem dX11_about_117 : decode cX11_about 117 = .ok (.getfield 20, 3) := by decide +kernel
theorem dX11_about_120 : decode cX11_about 120 = .ok (.getfield 60, 3) := by decide +kernel
theorem dX11_about_123 : decode cX11_about 123 = .ok (.ireturn, 1) := by decide +kernel
theorem dX11_about_124 : decode cX11_about 124 = .ok (.aload_n 0, 1) := by decide +kernel
theorem dX11_about_125 : decode cX11_about 125 = .ok (.getfield 20, 3) := by decide +kernel
theorem dX11_about_128 : decode cX11_about 128 = .ok (.getfield 366, 3) := by decide +kernel
theorem dX11_about_131 : decode cX11_about 131 = .ok (.ireturn, 1) := by decide +kernel
theorem dX11_about_132 : decode cX11_about 132 = .ok (.aload_n 0, 1) := by decide +kernel
theorem dX11_about_133 : decode cX11_about 133 = .ok (.getfield 20, 3) := by decide +kernel
theorem dX11_about_136 : decode cX11_about 136 = .ok (.getfield 369, 3) := by decide +kernel
theorem dX11_about_139 : decode cX11_about 139 = .ok (.ireturn, 1) := by decide +kernel
theorem dX11_about_140 : decode cX11_about 140 = .ok (.aload_n 0, 1) := by decide +kernel
theorem dX11_about_141 : decode cX11_about 141 = .ok (.getfield 20, 3) := by decide +kernel
theorem dX11_about_144 : decode cX11_about 144 = .ok (.getfield 372, 3) := by decide +kernel
theorem dX11_about_147 : decode cX11_about 147 = .ok (.ireturn, 1) := by decide +kernel
theorem dX11_about_148 : decode cX11_about 148 = .ok (.aload_n 0, 1) := by decide +kernel
theorem dX11_about_149 : decode cX11_about 149 = .ok (.getfield 20, 3) := by decide +kernel
theorem dX11_about_152 : decode cX11_about 152 = .ok (.getfield 373, 3) := by decide +kernel
theorem dX11_about_155 : decode cX11_about 155 = .ok (.ireturn, 1) := by decide +kernel
theorem dX11_about_156 : decode cX11_about 156 = .ok (.iconst (-1), 1) := by decide +kernel
theorem dX11_about_157 : decode cX11_about 157 = .ok (.ireturn, 1) := by decide +kernel
def wb_X11_about_104  (S : q_S) (xs0 : Int32) (Q : Option Value → q_S → Prop) : Prop := Q (some (.int xs0)) S
set_option maxHeartbeats 4000000 in
set_option maxRecDepth 100000 in
theorem cb_X11_about_104 {p : Program} {l : Launch} {e : Env} {s : State} {m : MethodId} {args : Array Value} {below : List Frame} {meth : Method} {c : Code} {D : va_G} {cy : Nat → ClassId} {lo : Nat}  {S : q_S} {xs0 : Int32} {Q : Option Value → q_S → Prop} {H : Heap} {locs : List Loc} {ls : Array Slot} (X : q_X p s m args meth c RX11 cX11_about 2 (some .int) D cy lo)  (Y : q_Y D cy lo s S H locs) (hl : lv_has ls 2 []) (h : wb_X11_about_104 S xs0 Q) : W p l e ({ frames := 4, cells := 0, slots := 0, locals := 84 } : Room) s m args below meth c H locs 0 0 (MQ below (q_Q D cy lo Q) args s 0 0 (fun q => lo ≤ q)) (F0 m 104 ls [.int xs0]) := by
  have hx := X.1
  have hb := X.2.1
  unfold wb_X11_about_104 at h
  exact q_iret X Y rfl (Nat.le_refl _) (Nat.le_refl _) h dX11_about_104
def wm_X11_about (S : q_S) (a0 : Nat) (x1 : Int32) (Q : Option Value → q_S → Prop) : Prop := (((x1.toInt < 0 ∨ 9 < x1.toInt) → (Q (some (.int (-1 : Int32))) S)) ∧ ((x1 = (0 : Int32)) → (q_K S a0 = 12 ∧ (∃ a2_ : Nat, (q_P S 2201 a0) = some a2_ ∧ (q_K S a2_ = 7 ∧ (Q (some (.int (q_I S 1211 a2_))) S))))) ∧ ((x1 = (1 : Int32)) → (q_K S a0 = 12 ∧ (∃ a6_ : Nat, (q_P S 2201 a0) = some a6_ ∧ (q_K S a6_ = 7 ∧ (∃ a9_ : Nat, (q_P S 1210 a6_) = some a9_ ∧ (q_K S a9_ = 3 ∧ (Q (some (.int (q_I S 403 a9_))) S))))))) ∧ ((x1 = (2 : Int32)) → (q_K S a0 = 12 ∧ (∃ a13_ : Nat, (q_P S 2201 a0) = some a13_ ∧ (q_K S a13_ = 7 ∧ (Q (some (.int (q_I S 1212 a13_))) S))))) ∧ ((x1 = (3 : Int32)) → (q_K S a0 = 12 ∧ (∃ a17_ : Nat, (q_P S 2201 a0) = some a17_ ∧ (q_K S a17_ = 7 ∧ ((((q_I S 1214 a17_) = 0 → (wb_X11_about_104 S (-1 : Int32) Q)) ∧ (¬ (q_I S 1214 a17_) = 0 → (wm_X6_partitionNow S a17_ (fun r21_ S22_ => ∃ x23_ : Int32, r21_ = some (.int x23_) ∧ (wb_X11_about_104 S22_ x23_ Q)))))))))) ∧ ((x1 = (4 : Int32)) → (q_K S a0 = 12 ∧ (∃ a25_ : Nat, (q_P S 2201 a0) = some a25_ ∧ (q_K S a25_ = 7 ∧ (∃ a28_ : Nat, (q_P S 1210 a25_) = some a28_ ∧ (q_K S a28_ = 3 ∧ (Q (some (.int (q_I S 402 a28_))) S))))))) ∧ ((x1 = (5 : Int32)) → (q_K S a0 = 12 ∧ (∃ a32_ : Nat, (q_P S 2201 a0) = some a32_ ∧ (q_K S a32_ = 7 ∧ (Q (some (.int (q_I S 1201 a32_))) S))))) ∧ ((x1 = (6 : Int32)) → (q_K S a0 = 12 ∧ (∃ a36_ : Nat, (q_P S 2201 a0) = some a36_ ∧ (q_K S a36_ = 7 ∧ (Q (some (.int (q_I S 1203 a36_))) S))))) ∧ ((x1 = (7 : Int32)) → (q_K S a0 = 12 ∧ (∃ a40_ : Nat, (q_P S 2201 a0) = some a40_ ∧ (q_K S a40_ = 7 ∧ (Q (some (.int (q_I S 1209 a40_))) S))))) ∧ ((x1 = (8 : Int32)) → (q_K S a0 = 12 ∧ (∃ a44_ : Nat, (q_P S 2201 a0) = some a44_ ∧ (q_K S a44_ = 7 ∧ (Q (some (.int (q_I S 1205 a44_))) S))))) ∧ ((x1 = (9 : Int32)) → (q_K S a0 = 12 ∧ (∃ a48_ : Nat, (q_P S 2201 a0) = some a48_ ∧ (q_K S a48_ = 7 ∧ (Q (some (.int (q_I S 1206 a48_))) S))))))
set_option maxHeartbeats 4000000 in
set_option maxRecDepth 100000 in
theorem cm_X11_about {l : Launch} {D : va_G} {cy : Nat → ClassId} {lo : Nat} {S : q_S} {a0 : Nat} {x1 : Int32} {Q : Option Value → q_S → Prop} (h : wm_X11_about S a0 x1 Q) : q_Met l D cy lo yX11_about cX11_about 2 (some .int) 4 84 0 0 [.ref a0, .int x1] S Q := by
  refine q_body (by decide) (by first | exact Nat.le_of_ble_eq_true rfl | simp [lg_sl, q_cat, q_catI, q_catJ, q_catR]) ?_
  intro p e s m below meth c ls X hnm Y hl
  have hx := X.1
  have hb := X.2.1
  have hl : lv_has ls 2 [(0, .ref a0), (1, .int x1)] := by first | exact hl | simpa [lv_args, q_cat, q_catI, q_catJ, q_catR] using hl
  generalize hargs : ([.ref a0, .int x1] : List Value).toArray = args at X ⊢
  unfold wm_X11_about at h
  refine lv_iload_n hx hb dX11_about_0 rfl (lv_at hl 1 rfl) ?_
  refine q_tsw (tgt := 156) hx hb dX11_about_1 (by decide) (by decide) (fun c51_ => ?_) (fun j52_ hj_ c51_ => ?_)
  · replace h := h.1 c51_
    refine lv_iconst (v := (-1)) hx hb dX11_about_156 (by decide) ?_
    exact q_iret X Y rfl (Nat.le_refl _) (Nat.le_refl _) h dX11_about_157
  · match j52_, hj_, c51_ with
    | 0, _, c51_ =>
      refine ⟨55, 56, rfl, by decide, ?_⟩
      replace h := h.2.1 (q_eqI c51_ (by decide))
      refine lv_aload_n hx hb dX11_about_56 rfl (lv_at hl 0 rfl) ?_
      obtain ⟨k1_, h⟩ := h
      refine q_getP X Y kX11 1 rfl fl_X11_20 k1_ rfl dX11_about_57 ?_
      obtain ⟨a2_, e3_, h⟩ := h
      refine q_nn [] e3_ ?_
      obtain ⟨k4_, h⟩ := h
      refine q_getI X Y kX6 11 rfl fl_X11_162 k4_ dX11_about_60 ?_
      exact q_iret X Y rfl (Nat.le_refl _) (Nat.le_refl _) h dX11_about_63
    | 1, _, c51_ =>
      refine ⟨63, 64, rfl, by decide, ?_⟩
      replace h := h.2.2.1 (q_eqI c51_ (by decide))
      refine lv_aload_n hx hb dX11_about_64 rfl (lv_at hl 0 rfl) ?_
      obtain ⟨k5_, h⟩ := h
      refine q_getP X Y kX11 1 rfl fl_X11_20 k5_ rfl dX11_about_65 ?_
      obtain ⟨a6_, e7_, h⟩ := h
      refine q_nn [] e7_ ?_
      obtain ⟨k8_, h⟩ := h
      refine q_getP X Y kX6 10 rfl fl_X11_216 k8_ rfl dX11_about_68 ?_
      obtain ⟨a9_, e10_, h⟩ := h
      refine q_nn [] e10_ ?_
      obtain ⟨k11_, h⟩ := h
      refine q_getI X Y kX2 3 rfl fl_X11_360 k11_ dX11_about_71 ?_
      exact q_iret X Y rfl (Nat.le_refl _) (Nat.le_refl _) h dX11_about_74
    | 2, _, c51_ =>
      refine ⟨74, 75, rfl, by decide, ?_⟩
      replace h := h.2.2.2.1 (q_eqI c51_ (by decide))
      refine lv_aload_n hx hb dX11_about_75 rfl (lv_at hl 0 rfl) ?_
      obtain ⟨k12_, h⟩ := h
      refine q_getP X Y kX11 1 rfl fl_X11_20 k12_ rfl dX11_about_76 ?_
      obtain ⟨a13_, e14_, h⟩ := h
      refine q_nn [] e14_ ?_
      obtain ⟨k15_, h⟩ := h
      refine q_getI X Y kX6 12 rfl fl_X11_149 k15_ dX11_about_79 ?_
      exact q_iret X Y rfl (Nat.le_refl _) (Nat.le_refl _) h dX11_about_82
    | 3, _, c51_ =>
      refine ⟨82, 83, rfl, by decide, ?_⟩
      replace h := h.2.2.2.2.1 (q_eqI c51_ (by decide))
      refine lv_aload_n hx hb dX11_about_83 rfl (lv_at hl 0 rfl) ?_
      obtain ⟨k16_, h⟩ := h
      refine q_getP X Y kX11 1 rfl fl_X11_20 k16_ rfl dX11_about_84 ?_
      obtain ⟨a17_, e18_, h⟩ := h
      refine q_nn [] e18_ ?_
      obtain ⟨k19_, h⟩ := h
      refine q_getI X Y kX6 14 rfl fl_X11_75 k19_ dX11_about_87 ?_
      refine lv_if_eq (tgt := 103) hx hb dX11_about_90 (by decide) (fun c20_ => ?_) (fun c20_ => ?_)
      · replace h := h.1 c20_
        refine lv_iconst (v := (-1)) hx hb dX11_about_103 (by decide) ?_
        exact cb_X11_about_104 X Y (lv_sub hl [] rfl) h
      · replace h := h.2 c20_
        refine lv_aload_n hx hb dX11_about_93 rfl (lv_at hl 0 rfl) ?_
        refine q_getR X Y kX11 1 rfl fl_X11_20 k16_ e18_ dX11_about_94 ?_
        refine q_callV X Y hl (cm_X6_partitionNow h) mt_X6_partitionNow mi_X6_partitionNow ml_X11_155 (ci := 6) rfl k19_ (by decide) rfl rfl (by first | exact Nat.le_of_ble_eq_true rfl | simp [q_cat, q_catI, q_catJ, q_catR]) ⟨Nat.le_of_ble_eq_true rfl, Nat.le_of_ble_eq_true rfl⟩ ⟨Nat.le_of_ble_eq_true rfl, Nat.le_of_ble_eq_true rfl⟩ dX11_about_97 (fun r21_ S22_ H locs hp Y => ?_)
        obtain ⟨x23_, rfl, h⟩ := hp
        refine W.eq (g2 := F0 m 100 ls [.int x23_]) rfl ?_
        refine lv_goto (tgt := 104) hx hb dX11_about_100 (by decide) ?_
        exact cb_X11_about_104 X Y (lv_sub hl [] rfl) h
    | 4, _, c51_ =>
      refine ⟨104, 105, rfl, by decide, ?_⟩
      replace h := h.2.2.2.2.2.1 (q_eqI c51_ (by decide))
      refine lv_aload_n hx hb dX11_about_105 rfl (lv_at hl 0 rfl) ?_
      obtain ⟨k24_, h⟩ := h
      refine q_getP X Y kX11 1 rfl fl_X11_20 k24_ rfl dX11_about_106 ?_
      obtain ⟨a25_, e26_, h⟩ := h
      refine q_nn [] e26_ ?_
      obtain ⟨k27_, h⟩ := h
      refine q_getP X Y kX6 10 rfl fl_X11_216 k27_ rfl dX11_about_109 ?_
      obtain ⟨a28_, e29_, h⟩ := h
      refine q_nn [] e29_ ?_
      obtain ⟨k30_, h⟩ := h
      refine q_getI X Y kX2 2 rfl fl_X11_363 k30_ dX11_about_112 ?_
      exact q_iret X Y rfl (Nat.le_refl _) (Nat.le_refl _) h dX11_about_115
    | 5, _, c51_ =>
      refine ⟨115, 116, rfl, by decide, ?_⟩
      replace h := h.2.2.2.2.2.2.1 (q_eqI c51_ (by decide))
      refine lv_aload_n hx hb dX11_about_116 rfl (lv_at hl 0 rfl) ?_
      obtain ⟨k31_, h⟩ := h
      refine q_getP X Y kX11 1 rfl fl_X11_20 k31_ rfl dX11_about_117 ?_
      obtain ⟨a32_, e33_, h⟩ := h
      refine q_nn [] e33_ ?_
      obtain ⟨k34_, h⟩ := h
      refine q_getI X Y kX6 1 rfl fl_X11_60 k34_ dX11_about_120 ?_
      exact q_iret X Y rfl (Nat.le_refl _) (Nat.le_refl _) h dX11_about_123
    | 6, _, c51_ =>
      refine ⟨123, 124, rfl, by decide, ?_⟩
      replace h := h.2.2.2.2.2.2.2.1 (q_eqI c51_ (by decide))
      refine lv_aload_n hx hb dX11_about_124 rfl (lv_at hl 0 rfl) ?_
      obtain ⟨k35_, h⟩ := h
      refine q_getP X Y kX11 1 rfl fl_X11_20 k35_ rfl dX11_about_125 ?_
      obtain ⟨a36_, e37_, h⟩ := h
      refine q_nn [] e37_ ?_
      obtain ⟨k38_, h⟩ := h
      refine q_getI X Y kX6 3 rfl fl_X11_366 k38_ dX11_about_128 ?_
      exact q_iret X Y rfl (Nat.le_refl _) (Nat.le_refl _) h dX11_about_131
    | 7, _, c51_ =>
      refine ⟨131, 132, rfl, by decide, ?_⟩
      replace h := h.2.2.2.2.2.2.2.2.1 (q_eqI c51_ (by decide))
      refine lv_aload_n hx hb dX11_about_132 rfl (lv_at hl 0 rfl) ?_
      obtain ⟨k39_, h⟩ := h
      refine q_getP X Y kX11 1 rfl fl_X11_20 k39_ rfl dX11_about_133 ?_
      obtain ⟨a40_, e41_, h⟩ := h
      refine q_nn [] e41_ ?_
      obtain ⟨k42_, h⟩ := h
      refine q_getI X Y kX6 9 rfl fl_X11_369 k42_ dX11_about_136 ?_
      exact q_iret X Y rfl (Nat.le_refl _) (Nat.le_refl _) h dX11_about_139
    | 8, _, c51_ =>
      refine ⟨139, 140, rfl, by decide, ?_⟩
      replace h := h.2.2.2.2.2.2.2.2.2.1 (q_eqI c51_ (by decide))
      refine lv_aload_n hx hb dX11_about_140 rfl (lv_at hl 0 rfl) ?_
      obtain ⟨k43_, h⟩ := h
      refine q_getP X Y kX11 1 rfl fl_X11_20 k43_ rfl dX11_about_141 ?_
      obtain ⟨a44_, e45_, h⟩ := h
      refine q_nn [] e45_ ?_
      obtain ⟨k46_, h⟩ := h
      refine q_getI X Y kX6 5 rfl fl_X11_372 k46_ dX11_about_144 ?_
      exact q_iret X Y rfl (Nat.le_refl _) (Nat.le_refl _) h dX11_about_147
    | 9, _, c51_ =>
      refine ⟨147, 148, rfl, by decide, ?_⟩
      replace h := h.2.2.2.2.2.2.2.2.2.2 (q_eqI c51_ (by decide))
      refine lv_aload_n hx hb dX11_about_148 rfl (lv_at hl 0 rfl) ?_
      obtain ⟨k47_, h⟩ := h
      refine q_getP X Y kX11 1 rfl fl_X11_20 k47_ rfl dX11_about_149 ?_
      obtain ⟨a48_, e49_, h⟩ := h
      refine q_nn [] e49_ ?_
      obtain ⟨k50_, h⟩ := h
      refine q_getI X Y kX6 6 rfl fl_X11_373 k50_ dX11_about_152 ?_
      exact q_iret X Y rfl (Nat.le_refl _) (Nat.le_refl _) h dX11_about_155
    | z_ + 10, hj_, _ => exact absurd hj_ (by simp)
-- X12_init
theorem fl_X12_266 : Cond.fieldLink RX12 266 "PartitionWorksModel" "inputTime" "[I" ∈ q_G := q_tb (i := 1840) (by decide +kernel) (by decide +kernel)
theorem fl_X12_269 : Cond.fieldLink RX12 269 "PartitionWorksModel" "inputWord" "[I" ∈ q_G := q_tb (i := 1841) (by decide +kernel) (by decide +kernel)
theorem fl_X12_272 : Cond.fieldLink RX12 272 "PartitionWorksModel" "trace" "[I" ∈ q_G := q_tb (i := 1845) (by decide +kernel) (by decide +kernel)
theorem fl_X12_275 : Cond.fieldLink RX12 275 "PartitionWorksModel" "error" "[I" ∈ q_G := q_tb (i := 1846) (by decide +kernel) (by decide +kernel)
theorem fl_X12_230 : Cond.fieldLink RX12 230 "PartitionWorksModel" "words" "[I" ∈ q_G := q_tb (i := 1828) (by decide +kernel) (by decide +kernel)
theorem fl_X12_233 : Cond.fieldLink RX12 233 "PartitionWorksModel" "word" "[I" ∈ q_G := q_tb (i := 1829) (by decide +kernel) (by decide +kernel)
theorem ar_boolean : Cond.arrayClass .boolean ∈ q_G := q_tb (i := 2077) (by decide +kernel) (by decide +kernel)
theorem fl_X12_236 : Cond.fieldLink RX12 236 "PartitionWorksModel" "shows" "[Z" ∈ q_G := q_tb (i := 1830) (by decide +kernel) (by decide +kernel)
theorem fl_X12_239 : Cond.fieldLink RX12 239 "PartitionWorksModel" "shown" "[I" ∈ q_G := q_tb (i := 1831) (by decide +kernel) (by decide +kernel)
theorem fl_X12_242 : Cond.fieldLink RX12 242 "PartitionWorksModel" "has" "[Z" ∈ q_G := q_tb (i := 1832) (by decide +kernel) (by decide +kernel)
theorem fl_X12_245 : Cond.fieldLink RX12 245 "PartitionWorksModel" "sampled" "[I" ∈ q_G := q_tb (i := 1833) (by decide +kernel) (by decide +kernel)
theorem fl_X12_248 : Cond.fieldLink RX12 248 "PartitionWorksModel" "since" "[I" ∈ q_G := q_tb (i := 1834) (by decide +kernel) (by decide +kernel)
theorem fl_X12_251 : Cond.fieldLink RX12 251 "PartitionWorksModel" "queued" "[I" ∈ q_G := q_tb (i := 1835) (by decide +kernel) (by decide +kernel)
theorem fl_X12_254 : Cond.fieldLink RX12 254 "PartitionWorksModel" "queueWord" "[I" ∈ q_G := q_tb (i := 1836) (by decide +kernel) (by decide +kernel)
theorem fl_X12_257 : Cond.fieldLink RX12 257 "PartitionWorksModel" "lost" "[I" ∈ q_G := q_tb (i := 1837) (by decide +kernel) (by decide +kernel)
theorem fl_X12_260 : Cond.fieldLink RX12 260 "PartitionWorksModel" "inputMany" "[I" ∈ q_G := q_tb (i := 1838) (by decide +kernel) (by decide +kernel)
theorem fl_X12_263 : Cond.fieldLink RX12 263 "PartitionWorksModel" "inputNext" "[I" ∈ q_G := q_tb (i := 1839) (by decide +kernel) (by decide +kernel)
theorem fl_X12_194 : Cond.fieldLink RX12 194 "PartitionWorksModel" "waitWord" "[I" ∈ q_G := q_tb (i := 1816) (by decide +kernel) (by decide +kernel)
theorem fl_X12_197 : Cond.fieldLink RX12 197 "PartitionWorksModel" "mode" "[I" ∈ q_G := q_tb (i := 1817) (by decide +kernel) (by decide +kernel)
theorem fl_X12_200 : Cond.fieldLink RX12 200 "PartitionWorksModel" "how" "[I" ∈ q_G := q_tb (i := 1818) (by decide +kernel) (by decide +kernel)
theorem fl_X12_203 : Cond.fieldLink RX12 203 "PartitionWorksModel" "began" "[I" ∈ q_G := q_tb (i := 1819) (by decide +kernel) (by decide +kernel)
theorem fl_X12_206 : Cond.fieldLink RX12 206 "PartitionWorksModel" "locks" "[I" ∈ q_G := q_tb (i := 1820) (by decide +kernel) (by decide +kernel)
theorem fl_X12_209 : Cond.fieldLink RX12 209 "PartitionWorksModel" "locker" "[I" ∈ q_G := q_tb (i := 1821) (by decide +kernel) (by decide +kernel)
theorem fl_X12_212 : Cond.fieldLink RX12 212 "PartitionWorksModel" "faulted" "[I" ∈ q_G := q_tb (i := 1822) (by decide +kernel) (by decide +kernel)
theorem fl_X12_215 : Cond.fieldLink RX12 215 "PartitionWorksModel" "faultKind" "[I" ∈ q_G := q_tb (i := 1823) (by decide +kernel) (by decide +kernel)
theorem fl_X12_218 : Cond.fieldLink RX12 218 "PartitionWorksModel" "faultCode" "[I" ∈ q_G := q_tb (i := 1824) (by decide +kernel) (by decide +kernel)
theorem fl_X12_221 : Cond.fieldLink RX12 221 "PartitionWorksModel" "doneIn" "[I" ∈ q_G := q_tb (i := 1825) (by decide +kernel) (by decide +kernel)
theorem fl_X12_224 : Cond.fieldLink RX12 224 "PartitionWorksModel" "count" "[I" ∈ q_G := q_tb (i := 1826) (by decide +kernel) (by decide +kernel)
theorem fl_X12_227 : Cond.fieldLink RX12 227 "PartitionWorksModel" "up" "[Z" ∈ q_G := q_tb (i := 1827) (by decide +kernel) (by decide +kernel)
theorem fl_X12_158 : Cond.fieldLink RX12 158 "PartitionWorksModel" "hasDue" "[Z" ∈ q_G := q_tb (i := 1804) (by decide +kernel) (by decide +kernel)
theorem fl_X12_161 : Cond.fieldLink RX12 161 "PartitionWorksModel" "due" "[I" ∈ q_G := q_tb (i := 1805) (by decide +kernel) (by decide +kernel)
theorem fl_X12_164 : Cond.fieldLink RX12 164 "PartitionWorksModel" "until" "[I" ∈ q_G := q_tb (i := 1806) (by decide +kernel) (by decide +kernel)
theorem fl_X12_167 : Cond.fieldLink RX12 167 "PartitionWorksModel" "release" "[I" ∈ q_G := q_tb (i := 1807) (by decide +kernel) (by decide +kernel)
theorem fl_X12_170 : Cond.fieldLink RX12 170 "PartitionWorksModel" "did" "[I" ∈ q_G := q_tb (i := 1808) (by decide +kernel) (by decide +kernel)
theorem fl_X12_173 : Cond.fieldLink RX12 173 "PartitionWorksModel" "held" "[Z" ∈ q_G := q_tb (i := 1809) (by decide +kernel) (by decide +kernel)
theorem fl_X12_176 : Cond.fieldLink RX12 176 "PartitionWorksModel" "turn" "[I" ∈ q_G := q_tb (i := 1810) (by decide +kernel) (by decide +kernel)
theorem fl_X12_179 : Cond.fieldLink RX12 179 "PartitionWorksModel" "register" "[I" ∈ q_G := q_tb (i := 1811) (by decide +kernel) (by decide +kernel)
theorem fl_X12_182 : Cond.fieldLink RX12 182 "PartitionWorksModel" "waitSort" "[I" ∈ q_G := q_tb (i := 1812) (by decide +kernel) (by decide +kernel)
theorem fl_X12_185 : Cond.fieldLink RX12 185 "PartitionWorksModel" "waitThing" "[I" ∈ q_G := q_tb (i := 1813) (by decide +kernel) (by decide +kernel)
theorem fl_X12_188 : Cond.fieldLink RX12 188 "PartitionWorksModel" "waitPort" "[I" ∈ q_G := q_tb (i := 1814) (by decide +kernel) (by decide +kernel)
theorem fl_X12_191 : Cond.fieldLink RX12 191 "PartitionWorksModel" "waitTurn" "[I" ∈ q_G := q_tb (i := 1815) (by decide +kernel) (by decide +kernel)
theorem fl_X12_121 : Cond.fieldLink RX12 121 "PartitionWorksModel" "channelCome" "[Z" ∈ q_G := q_tb (i := 1790) (by decide +kernel) (by decide +kernel)
theorem fl_X12_124 : Cond.fieldLink RX12 124 "PartitionWorksModel" "source" "[I" ∈ q_G := q_tb (i := 1791) (by decide +kernel) (by decide +kernel)
theorem fl_X12_127 : Cond.fieldLink RX12 127 "PartitionWorksModel" "goalMany" "[I" ∈ q_G := q_tb (i := 1792) (by decide +kernel) (by decide +kernel)
theorem fl_X12_130 : Cond.fieldLink RX12 130 "PartitionWorksModel" "goal" "[I" ∈ q_G := q_tb (i := 1793) (by decide +kernel) (by decide +kernel)
theorem fl_X12_133 : Cond.fieldLink RX12 133 "PartitionWorksModel" "inputOf" "[I" ∈ q_G := q_tb (i := 1794) (by decide +kernel) (by decide +kernel)
theorem fl_X12_136 : Cond.fieldLink RX12 136 "PartitionWorksModel" "windowOf" "[I" ∈ q_G := q_tb (i := 1795) (by decide +kernel) (by decide +kernel)
theorem fl_X12_139 : Cond.fieldLink RX12 139 "PartitionWorksModel" "windowTicks" "[I" ∈ q_G := q_tb (i := 1796) (by decide +kernel) (by decide +kernel)
theorem co_X12_142 : Cond.constant RX12 142 (131072) ∈ q_G := q_tb (i := 1733) (by decide +kernel) (by decide +kernel)
theorem fl_X12_143 : Cond.fieldLink RX12 143 "PartitionWorksModel" "image" "[B" ∈ q_G := q_tb (i := 1799) (by decide +kernel) (by decide +kernel)
theorem fl_X12_146 : Cond.fieldLink RX12 146 "PartitionWorksModel" "memory" "[B" ∈ q_G := q_tb (i := 1800) (by decide +kernel) (by decide +kernel)
theorem fl_X12_149 : Cond.fieldLink RX12 149 "PartitionWorksModel" "state" "[I" ∈ q_G := q_tb (i := 1801) (by decide +kernel) (by decide +kernel)
theorem fl_X12_152 : Cond.fieldLink RX12 152 "PartitionWorksModel" "pc" "[I" ∈ q_G := q_tb (i := 1802) (by decide +kernel) (by decide +kernel)
theorem fl_X12_155 : Cond.fieldLink RX12 155 "PartitionWorksModel" "priority" "[I" ∈ q_G := q_tb (i := 1803) (by decide +kernel) (by decide +kernel)
theorem fl_X12_85 : Cond.fieldLink RX12 85 "PartitionWorksModel" "first" "[I" ∈ q_G := q_tb (i := 1777) (by decide +kernel) (by decide +kernel)
theorem fl_X12_88 : Cond.fieldLink RX12 88 "PartitionWorksModel" "most" "[I" ∈ q_G := q_tb (i := 1778) (by decide +kernel) (by decide +kernel)
theorem fl_X12_91 : Cond.fieldLink RX12 91 "PartitionWorksModel" "firstCome" "[Z" ∈ q_G := q_tb (i := 1779) (by decide +kernel) (by decide +kernel)
theorem fl_X12_94 : Cond.fieldLink RX12 94 "PartitionWorksModel" "room" "[I" ∈ q_G := q_tb (i := 1780) (by decide +kernel) (by decide +kernel)
theorem fl_X12_97 : Cond.fieldLink RX12 97 "PartitionWorksModel" "bufferCome" "[Z" ∈ q_G := q_tb (i := 1781) (by decide +kernel) (by decide +kernel)
theorem fl_X12_100 : Cond.fieldLink RX12 100 "PartitionWorksModel" "isOut" "[Z" ∈ q_G := q_tb (i := 1782) (by decide +kernel) (by decide +kernel)
theorem fl_X12_103 : Cond.fieldLink RX12 103 "PartitionWorksModel" "isQueue" "[Z" ∈ q_G := q_tb (i := 1783) (by decide +kernel) (by decide +kernel)
theorem fl_X12_106 : Cond.fieldLink RX12 106 "PartitionWorksModel" "channelOf" "[I" ∈ q_G := q_tb (i := 1784) (by decide +kernel) (by decide +kernel)
theorem fl_X12_109 : Cond.fieldLink RX12 109 "PartitionWorksModel" "hasTable" "[Z" ∈ q_G := q_tb (i := 1785) (by decide +kernel) (by decide +kernel)
theorem fl_X12_112 : Cond.fieldLink RX12 112 "PartitionWorksModel" "table" "[I" ∈ q_G := q_tb (i := 1786) (by decide +kernel) (by decide +kernel)
theorem fl_X12_115 : Cond.fieldLink RX12 115 "PartitionWorksModel" "queue" "[Z" ∈ q_G := q_tb (i := 1788) (by decide +kernel) (by decide +kernel)
theorem fl_X12_118 : Cond.fieldLink RX12 118 "PartitionWorksModel" "limit" "[I" ∈ q_G := q_tb (i := 1789) (by decide +kernel) (by decide +kernel)
theorem fl_X12_48 : Cond.fieldLink RX12 48 "PartitionWorksModel" "thingAt" "[I" ∈ q_G := q_tb (i := 1765) (by decide +kernel) (by decide +kernel)
theorem fl_X12_51 : Cond.fieldLink RX12 51 "PartitionWorksModel" "thingSize" "[I" ∈ q_G := q_tb (i := 1766) (by decide +kernel) (by decide +kernel)
theorem fl_X12_54 : Cond.fieldLink RX12 54 "PartitionWorksModel" "thingSort" "[I" ∈ q_G := q_tb (i := 1767) (by decide +kernel) (by decide +kernel)
theorem fl_X12_57 : Cond.fieldLink RX12 57 "PartitionWorksModel" "thingNumber" "[I" ∈ q_G := q_tb (i := 1768) (by decide +kernel) (by decide +kernel)
theorem fl_X12_60 : Cond.fieldLink RX12 60 "PartitionWorksModel" "many" "[I" ∈ q_G := q_tb (i := 1769) (by decide +kernel) (by decide +kernel)
theorem fl_X12_63 : Cond.fieldLink RX12 63 "PartitionWorksModel" "entry" "[I" ∈ q_G := q_tb (i := 1770) (by decide +kernel) (by decide +kernel)
theorem fl_X12_66 : Cond.fieldLink RX12 66 "PartitionWorksModel" "told" "[I" ∈ q_G := q_tb (i := 1771) (by decide +kernel) (by decide +kernel)
theorem fl_X12_69 : Cond.fieldLink RX12 69 "PartitionWorksModel" "period" "[I" ∈ q_G := q_tb (i := 1772) (by decide +kernel) (by decide +kernel)
theorem fl_X12_72 : Cond.fieldLink RX12 72 "PartitionWorksModel" "deadline" "[I" ∈ q_G := q_tb (i := 1773) (by decide +kernel) (by decide +kernel)
theorem fl_X12_75 : Cond.fieldLink RX12 75 "PartitionWorksModel" "delay" "[I" ∈ q_G := q_tb (i := 1774) (by decide +kernel) (by decide +kernel)
theorem fl_X12_78 : Cond.fieldLink RX12 78 "PartitionWorksModel" "stopped" "[Z" ∈ q_G := q_tb (i := 1775) (by decide +kernel) (by decide +kernel)
theorem fl_X12_82 : Cond.fieldLink RX12 82 "PartitionWorksModel" "handler" "[I" ∈ q_G := q_tb (i := 1776) (by decide +kernel) (by decide +kernel)
theorem ml_X12_1 : Cond.methodLink RX12 1 Lib.objectInit ∈ q_G := q_tb (i := 1732) (by decide +kernel) (by decide +kernel)
theorem fl_X12_7 : Cond.fieldLink RX12 7 "PartitionWorksModel" "ready" "[B" ∈ q_G := q_tb (i := 1735) (by decide +kernel) (by decide +kernel)
theorem fl_X12_13 : Cond.fieldLink RX12 13 "PartitionWorksModel" "text" "[B" ∈ q_G := q_tb (i := 1736) (by decide +kernel) (by decide +kernel)
theorem fl_X12_16 : Cond.fieldLink RX12 16 "PartitionWorksModel" "faultPlace" "I" ∈ q_G := q_tb (i := 1746) (by decide +kernel) (by decide +kernel)
theorem fl_X12_20 : Cond.fieldLink RX12 20 "PartitionWorksModel" "letters" "[B" ∈ q_G := q_tb (i := 1755) (by decide +kernel) (by decide +kernel)
theorem fl_X12_23 : Cond.fieldLink RX12 23 "PartitionWorksModel" "nameAt" "[I" ∈ q_G := q_tb (i := 1757) (by decide +kernel) (by decide +kernel)
theorem fl_X12_27 : Cond.fieldLink RX12 27 "PartitionWorksModel" "nameSize" "[I" ∈ q_G := q_tb (i := 1758) (by decide +kernel) (by decide +kernel)
theorem fl_X12_30 : Cond.fieldLink RX12 30 "PartitionWorksModel" "bytes" "[I" ∈ q_G := q_tb (i := 1759) (by decide +kernel) (by decide +kernel)
theorem fl_X12_33 : Cond.fieldLink RX12 33 "PartitionWorksModel" "regionMany" "[I" ∈ q_G := q_tb (i := 1760) (by decide +kernel) (by decide +kernel)
theorem fl_X12_36 : Cond.fieldLink RX12 36 "PartitionWorksModel" "regionAt" "[I" ∈ q_G := q_tb (i := 1761) (by decide +kernel) (by decide +kernel)
theorem fl_X12_39 : Cond.fieldLink RX12 39 "PartitionWorksModel" "regionBytes" "[I" ∈ q_G := q_tb (i := 1762) (by decide +kernel) (by decide +kernel)
theorem fl_X12_42 : Cond.fieldLink RX12 42 "PartitionWorksModel" "regionSort" "[I" ∈ q_G := q_tb (i := 1763) (by decide +kernel) (by decide +kernel)
theorem fl_X12_45 : Cond.fieldLink RX12 45 "PartitionWorksModel" "thingMany" "[I" ∈ q_G := q_tb (i := 1764) (by decide +kernel) (by decide +kernel)
theorem dX12_init_0 : decode cX12_init 0 = .ok (.aload_n 0, 1) := by decide +kernel
theorem dX12_init_1 : decode cX12_init 1 = .ok (.invokespecial 1, 3) := by decide +kernel
theorem dX12_init_4 : decode cX12_init 4 = .ok (.aload_n 0, 1) := by decide +kernel
theorem dX12_init_5 : decode cX12_init 5 = .ok (.bipush 20, 2) := by decide +kernel
theorem dX12_init_7 : decode cX12_init 7 = .ok (.newarray .byte, 2) := by decide +kernel
theorem dX12_init_9 : decode cX12_init 9 = .ok (.putfield 7, 3) := by decide +kernel
theorem dX12_init_12 : decode cX12_init 12 = .ok (.aload_n 0, 1) := by decide +kernel
theorem dX12_init_13 : decode cX12_init 13 = .ok (.sipush 4000, 3) := by decide +kernel
theorem dX12_init_16 : decode cX12_init 16 = .ok (.newarray .byte, 2) := by decide +kernel
theorem dX12_init_18 : decode cX12_init 18 = .ok (.putfield 13, 3) := by decide +kernel
theorem dX12_init_21 : decode cX12_init 21 = .ok (.aload_n 0, 1) := by decide +kernel
theorem dX12_init_22 : decode cX12_init 22 = .ok (.iconst (-1), 1) := by decide +kernel
theorem dX12_init_23 : decode cX12_init 23 = .ok (.putfield 16, 3) := by decide +kernel
theorem dX12_init_26 : decode cX12_init 26 = .ok (.aload_n 0, 1) := by decide +kernel
theorem dX12_init_27 : decode cX12_init 27 = .ok (.sipush 14000, 3) := by decide +kernel
theorem dX12_init_30 : decode cX12_init 30 = .ok (.newarray .byte, 2) := by decide +kernel
theorem dX12_init_32 : decode cX12_init 32 = .ok (.putfield 20, 3) := by decide +kernel
theorem dX12_init_35 : decode cX12_init 35 = .ok (.aload_n 0, 1) := by decide +kernel
theorem dX12_init_36 : decode cX12_init 36 = .ok (.bipush 16, 2) := by decide +kernel
theorem dX12_init_38 : decode cX12_init 38 = .ok (.newarray .int, 2) := by decide +kernel
theorem dX12_init_40 : decode cX12_init 40 = .ok (.putfield 23, 3) := by decide +kernel
theorem dX12_init_43 : decode cX12_init 43 = .ok (.aload_n 0, 1) := by decide +kernel
theorem dX12_init_44 : decode cX12_init 44 = .ok (.bipush 16, 2) := by decide +kernel
theorem dX12_init_46 : decode cX12_init 46 = .ok (.newarray .int, 2) := by decide +kernel
theorem dX12_init_48 : decode cX12_init 48 = .ok (.putfield 27, 3) := by decide +kernel
theorem dX12_init_51 : decode cX12_init 51 = .ok (.aload_n 0, 1) := by decide +kernel
theorem dX12_init_52 : decode cX12_init 52 = .ok (.bipush 16, 2) := by decide +kernel
theorem dX12_init_54 : decode cX12_init 54 = .ok (.newarray .int, 2) := by decide +kernel
theorem dX12_init_56 : decode cX12_init 56 = .ok (.putfield 30, 3) := by decide +kernel
theorem dX12_init_59 : decode cX12_init 59 = .ok (.aload_n 0, 1) := by decide +kernel
theorem dX12_init_60 : decode cX12_init 60 = .ok (.bipush 16, 2) := by decide +kernel
theorem dX12_init_62 : decode cX12_init 62 = .ok (.newarray .int, 2) := by decide +kernel
theorem dX12_init_64 : decode cX12_init 64 = .ok (.putfield 33, 3) := by decide +kernel
theorem dX12_init_67 : decode cX12_init 67 = .ok (.aload_n 0, 1) := by decide +kernel
theorem dX12_init_68 : decode cX12_init 68 = .ok (.bipush 96, 2) := by decide +kernel
theorem dX12_init_70 : decode cX12_init 70 = .ok (.newarray .int, 2) := by decide +kernel
theorem dX12_init_72 : decode cX12_init 72 = .ok (.putfield 36, 3) := by decide +kernel
theorem dX12_init_75 : decode cX12_init 75 = .ok (.aload_n 0, 1) := by decide +kernel
theorem dX12_init_76 : decode cX12_init 76 = .ok (.bipush 96, 2) := by decide +kernel
theorem dX12_init_78 : decode cX12_init 78 = .ok (.newarray .int, 2) := by decide +kernel
theorem dX12_init_80 : decode cX12_init 80 = .ok (.putfield 39, 3) := by decide +kernel
theorem dX12_init_83 : decode cX12_init 83 = .ok (.aload_n 0, 1) := by decide +kernel
theorem dX12_init_84 : decode cX12_init 84 = .ok (.bipush 96, 2) := by decide +kernel
theorem dX12_init_86 : decode cX12_init 86 = .ok (.newarray .int, 2) := by decide +kernel
theorem dX12_init_88 : decode cX12_init 88 = .ok (.putfield 42, 3) := by decide +kernel
theorem dX12_init_91 : decode cX12_init 91 = .ok (.aload_n 0, 1) := by decide +kernel
theorem dX12_init_92 : decode cX12_init 92 = .ok (.bipush 16, 2) := by decide +kernel
theorem dX12_init_94 : decode cX12_init 94 = .ok (.newarray .int, 2) := by decide +kernel
theorem dX12_init_96 : decode cX12_init 96 = .ok (.putfield 45, 3) := by decide +kernel
theorem dX12_init_99 : decode cX12_init 99 = .ok (.aload_n 0, 1) := by decide +kernel
theorem dX12_init_100 : decode cX12_init 100 = .ok (.sipush 1024, 3) := by decide +kernel
theorem dX12_init_103 : decode cX12_init 103 = .ok (.newarray .int, 2) := by decide +kernel
theorem dX12_init_105 : decode cX12_init 105 = .ok (.putfield 48, 3) := by decide +kernel
theorem dX12_init_108 : decode cX12_init 108 = .ok (.aload_n 0, 1) := by decide +kernel
theorem dX12_init_109 : decode cX12_init 109 = .ok (.sipush 1024, 3) := by decide +kernel
theorem dX12_init_112 : decode cX12_init 112 = .ok (.newarray .int, 2) := by decide +kernel
theorem dX12_init_114 : decode cX12_init 114 = .ok (.putfield 51, 3) := by decide +kernel
theorem dX12_init_117 : decode cX12_init 117 = .ok (.aload_n 0, 1) := by decide +kernel
theorem dX12_init_118 : decode cX12_init 118 = .ok (.sipush 1024, 3) := by decide +kernel
theorem dX12_init_121 : decode cX12_init 121 = .ok (.newarray .int, 2) := by decide +kernel
theorem dX12_init_123 : decode cX12_init 123 = .ok (.putfield 54, 3) := by decide +kernel
theorem dX12_init_126 : decode cX12_init 126 = .ok (.aload_n 0, 1) := by decide +kernel
theorem dX12_init_127 : decode cX12_init 127 = .ok (.sipush 1024, 3) := by decide +kernel
theorem dX12_init_130 : decode cX12_init 130 = .ok (.newarray .int, 2) := by decide +kernel
theorem dX12_init_132 : decode cX12_init 132 = .ok (.putfield 57, 3) := by decide +kernel
theorem dX12_init_135 : decode cX12_init 135 = .ok (.aload_n 0, 1) := by decide +kernel
theorem dX12_init_136 : decode cX12_init 136 = .ok (.bipush 96, 2) := by decide +kernel
theorem dX12_init_138 : decode cX12_init 138 = .ok (.newarray .int, 2) := by decide +kernel
theorem dX12_init_140 : decode cX12_init 140 = .ok (.putfield 60, 3) := by decide +kernel
theorem dX12_init_143 : decode cX12_init 143 = .ok (.aload_n 0, 1) := by decide +kernel
theorem dX12_init_144 : decode cX12_init 144 = .ok (.sipush 256, 3) := by decide +kernel
theorem dX12_init_147 : decode cX12_init 147 = .ok (.newarray .int, 2) := by decide +kernel
theorem dX12_init_149 : decode cX12_init 149 = .ok (.putfield 63, 3) := by decide +kernel
theorem dX12_init_152 : decode cX12_init 152 = .ok (.aload_n 0, 1) := by decide +kernel
theorem dX12_init_153 : decode cX12_init 153 = .ok (.sipush 256, 3) := by decide +kernel
theorem dX12_init_156 : decode cX12_init 156 = .ok (.newarray .int, 2) := by decide +kernel
theorem dX12_init_158 : decode cX12_init 158 = .ok (.putfield 66, 3) := by decide +kernel
theorem dX12_init_161 : decode cX12_init 161 = .ok (.aload_n 0, 1) := by decide +kernel
theorem dX12_init_162 : decode cX12_init 162 = .ok (.sipush 256, 3) := by decide +kernel
theorem dX12_init_165 : decode cX12_init 165 = .ok (.newarray .int, 2) := by decide +kernel
theorem dX12_init_167 : decode cX12_init 167 = .ok (.putfield 69, 3) := by decide +kernel
theorem dX12_init_170 : decode cX12_init 170 = .ok (.aload_n 0, 1) := by decide +kernel
theorem dX12_init_171 : decode cX12_init 171 = .ok (.sipush 256, 3) := by decide +kernel
theorem dX12_init_174 : decode cX12_init 174 = .ok (.newarray .int, 2) := by decide +kernel
theorem dX12_init_176 : decode cX12_init 176 = .ok (.putfield 72, 3) := by decide +kernel
theorem dX12_init_179 : decode cX12_init 179 = .ok (.aload_n 0, 1) := by decide +kernel
theorem dX12_init_180 : decode cX12_init 180 = .ok (.sipush 256, 3) := by decide +kernel
theorem dX12_init_183 : decode cX12_init 183 = .ok (.newarray .int, 2) := by decide +kernel
theorem dX12_init_185 : decode cX12_init 185 = .ok (.putfield 75, 3) := by decide +kernel
theorem dX12_init_188 : decode cX12_init 188 = .ok (.aload_n 0, 1) := by decide +kernel
theorem dX12_init_189 : decode cX12_init 189 = .ok (.sipush 256, 3) := by decide +kernel
theorem dX12_init_192 : decode cX12_init 192 = .ok (.newarray .boolean, 2) := by decide +kernel
theorem dX12_init_194 : decode cX12_init 194 = .ok (.putfield 78, 3) := by decide +kernel
theorem dX12_init_197 : decode cX12_init 197 = .ok (.aload_n 0, 1) := by decide +kernel
theorem dX12_init_198 : decode cX12_init 198 = .ok (.bipush 16, 2) := by decide +kernel
theorem dX12_init_200 : decode cX12_init 200 = .ok (.newarray .int, 2) := by decide +kernel
theorem dX12_init_202 : decode cX12_init 202 = .ok (.putfield 82, 3) := by decide +kernel
theorem dX12_init_205 : decode cX12_init 205 = .ok (.aload_n 0, 1) := by decide +kernel
theorem dX12_init_206 : decode cX12_init 206 = .ok (.sipush 128, 3) := by decide +kernel
theorem dX12_init_209 : decode cX12_init 209 = .ok (.newarray .int, 2) := by decide +kernel
theorem dX12_init_211 : decode cX12_init 211 = .ok (.putfield 85, 3) := by decide +kernel
theorem dX12_init_214 : decode cX12_init 214 = .ok (.aload_n 0, 1) := by decide +kernel
theorem dX12_init_215 : decode cX12_init 215 = .ok (.sipush 128, 3) := by decide +kernel
theorem dX12_init_218 : decode cX12_init 218 = .ok (.newarray .int, 2) := by decide +kernel
theorem dX12_init_220 : decode cX12_init 220 = .ok (.putfield 88, 3) := by decide +kernel
theorem dX12_init_223 : decode cX12_init 223 = .ok (.aload_n 0, 1) := by decide +kernel
theorem dX12_init_224 : decode cX12_init 224 = .ok (.sipush 128, 3) := by decide +kernel
theorem dX12_init_227 : decode cX12_init 227 = .ok (.newarray .boolean, 2) := by decide +kernel
theorem dX12_init_229 : decode cX12_init 229 = .ok (.putfield 91, 3) := by decide +kernel
theorem dX12_init_232 : decode cX12_init 232 = .ok (.aload_n 0, 1) := by decide +kernel
theorem dX12_init_233 : decode cX12_init 233 = .ok (.sipush 128, 3) := by decide +kernel
theorem dX12_init_236 : decode cX12_init 236 = .ok (.newarray .int, 2) := by decide +kernel
theorem dX12_init_238 : decode cX12_init 238 = .ok (.putfield 94, 3) := by decide +kernel
theorem dX12_init_241 : decode cX12_init 241 = .ok (.aload_n 0, 1) := by decide +kernel
theorem dX12_init_242 : decode cX12_init 242 = .ok (.sipush 128, 3) := by decide +kernel
theorem dX12_init_245 : decode cX12_init 245 = .ok (.newarray .boolean, 2) := by decide +kernel
theorem dX12_init_247 : decode cX12_init 247 = .ok (.putfield 97, 3) := by decide +kernel
theorem dX12_init_250 : decode cX12_init 250 = .ok (.aload_n 0, 1) := by decide +kernel
theorem dX12_init_251 : decode cX12_init 251 = .ok (.sipush 256, 3) := by decide +kernel
theorem dX12_init_254 : decode cX12_init 254 = .ok (.newarray .boolean, 2) := by decide +kernel
theorem dX12_init_256 : decode cX12_init 256 = .ok (.putfield 100, 3) := by decide +kernel
theorem dX12_init_259 : decode cX12_init 259 = .ok (.aload_n 0, 1) := by decide +kernel
theorem dX12_init_260 : decode cX12_init 260 = .ok (.sipush 256, 3) := by decide +kernel
theorem dX12_init_263 : decode cX12_init 263 = .ok (.newarray .boolean, 2) := by decide +kernel
theorem dX12_init_265 : decode cX12_init 265 = .ok (.putfield 103, 3) := by decide +kernel
theorem dX12_init_268 : decode cX12_init 268 = .ok (.aload_n 0, 1) := by decide +kernel
theorem dX12_init_269 : decode cX12_init 269 = .ok (.sipush 256, 3) := by decide +kernel
theorem dX12_init_272 : decode cX12_init 272 = .ok (.newarray .int, 2) := by decide +kernel
theorem dX12_init_274 : decode cX12_init 274 = .ok (.putfield 106, 3) := by decide +kernel
theorem dX12_init_277 : decode cX12_init 277 = .ok (.aload_n 0, 1) := by decide +kernel
theorem dX12_init_278 : decode cX12_init 278 = .ok (.bipush 16, 2) := by decide +kernel
theorem dX12_init_280 : decode cX12_init 280 = .ok (.newarray .boolean, 2) := by decide +kernel
theorem dX12_init_282 : decode cX12_init 282 = .ok (.putfield 109, 3) := by decide +kernel
theorem dX12_init_285 : decode cX12_init 285 = .ok (.aload_n 0, 1) := by decide +kernel
theorem dX12_init_286 : decode cX12_init 286 = .ok (.bipush 80, 2) := by decide +kernel
theorem dX12_init_288 : decode cX12_init 288 = .ok (.newarray .int, 2) := by decide +kernel
theorem dX12_init_290 : decode cX12_init 290 = .ok (.putfield 112, 3) := by decide +kernel
theorem dX12_init_293 : decode cX12_init 293 = .ok (.aload_n 0, 1) := by decide +kernel
theorem dX12_init_294 : decode cX12_init 294 = .ok (.bipush 24, 2) := by decide +kernel
theorem dX12_init_296 : decode cX12_init 296 = .ok (.newarray .boolean, 2) := by decide +kernel
theorem dX12_init_298 : decode cX12_init 298 = .ok (.putfield 115, 3) := by decide +kernel
theorem dX12_init_301 : decode cX12_init 301 = .ok (.aload_n 0, 1) := by decide +kernel
theorem dX12_init_302 : decode cX12_init 302 = .ok (.bipush 24, 2) := by decide +kernel
theorem dX12_init_304 : decode cX12_init 304 = .ok (.newarray .int, 2) := by decide +kernel
theorem dX12_init_306 : decode cX12_init 306 = .ok (.putfield 118, 3) := by decide +kernel
theorem dX12_init_309 : decode cX12_init 309 = .ok (.aload_n 0, 1) := by decide +kernel
theorem dX12_init_310 : decode cX12_init 310 = .ok (.bipush 24, 2) := by decide +kernel
theorem dX12_init_312 : decode cX12_init 312 = .ok (.newarray .boolean, 2) := by decide +kernel
theorem dX12_init_314 : decode cX12_init 314 = .ok (.putfield 121, 3) := by decide +kernel
theorem dX12_init_317 : decode cX12_init 317 = .ok (.aload_n 0, 1) := by decide +kernel
theorem dX12_init_318 : decode cX12_init 318 = .ok (.bipush 24, 2) := by decide +kernel
theorem dX12_init_320 : decode cX12_init 320 = .ok (.newarray .int, 2) := by decide +kernel
theorem dX12_init_322 : decode cX12_init 322 = .ok (.putfield 124, 3) := by decide +kernel
theorem dX12_init_325 : decode cX12_init 325 = .ok (.aload_n 0, 1) := by decide +kernel
theorem dX12_init_326 : decode cX12_init 326 = .ok (.bipush 24, 2) := by decide +kernel
theorem dX12_init_328 : decode cX12_init 328 = .ok (.newarray .int, 2) := by decide +kernel
theorem dX12_init_330 : decode cX12_init 330 = .ok (.putfield 127, 3) := by decide +kernel
theorem dX12_init_333 : decode cX12_init 333 = .ok (.aload_n 0, 1) := by decide +kernel
theorem dX12_init_334 : decode cX12_init 334 = .ok (.bipush 96, 2) := by decide +kernel
theorem dX12_init_336 : decode cX12_init 336 = .ok (.newarray .int, 2) := by decide +kernel
theorem dX12_init_338 : decode cX12_init 338 = .ok (.putfield 130, 3) := by decide +kernel
theorem dX12_init_341 : decode cX12_init 341 = .ok (.aload_n 0, 1) := by decide +kernel
theorem dX12_init_342 : decode cX12_init 342 = .ok (.bipush 24, 2) := by decide +kernel
theorem dX12_init_344 : decode cX12_init 344 = .ok (.newarray .int, 2) := by decide +kernel
theorem dX12_init_346 : decode cX12_init 346 = .ok (.putfield 133, 3) := by decide +kernel
theorem dX12_init_349 : decode cX12_init 349 = .ok (.aload_n 0, 1) := by decide +kernel
theorem dX12_init_350 : decode cX12_init 350 = .ok (.bipush 24, 2) := by decide +kernel
theorem dX12_init_352 : decode cX12_init 352 = .ok (.newarray .int, 2) := by decide +kernel
theorem dX12_init_354 : decode cX12_init 354 = .ok (.putfield 136, 3) := by decide +kernel
theorem dX12_init_357 : decode cX12_init 357 = .ok (.aload_n 0, 1) := by decide +kernel
theorem dX12_init_358 : decode cX12_init 358 = .ok (.bipush 24, 2) := by decide +kernel
theorem dX12_init_360 : decode cX12_init 360 = .ok (.newarray .int, 2) := by decide +kernel
theorem dX12_init_362 : decode cX12_init 362 = .ok (.putfield 139, 3) := by decide +kernel
theorem dX12_init_365 : decode cX12_init 365 = .ok (.aload_n 0, 1) := by decide +kernel
theorem dX12_init_366 : decode cX12_init 366 = .ok (.ldc 142, 2) := by decide +kernel
theorem dX12_init_368 : decode cX12_init 368 = .ok (.newarray .byte, 2) := by decide +kernel
theorem dX12_init_370 : decode cX12_init 370 = .ok (.putfield 143, 3) := by decide +kernel
theorem dX12_init_373 : decode cX12_init 373 = .ok (.aload_n 0, 1) := by decide +kernel
theorem dX12_init_374 : decode cX12_init 374 = .ok (.ldc 142, 2) := by decide +kernel
theorem dX12_init_376 : decode cX12_init 376 = .ok (.newarray .byte, 2) := by decide +kernel
theorem dX12_init_378 : decode cX12_init 378 = .ok (.putfield 146, 3) := by decide +kernel
theorem dX12_init_381 : decode cX12_init 381 = .ok (.aload_n 0, 1) := by decide +kernel
theorem dX12_init_382 : decode cX12_init 382 = .ok (.sipush 256, 3) := by decide +kernel
theorem dX12_init_385 : decode cX12_init 385 = .ok (.newarray .int, 2) := by decide +kernel
theorem dX12_init_387 : decode cX12_init 387 = .ok (.putfield 149, 3) := by decide +kernel
theorem dX12_init_390 : decode cX12_init 390 = .ok (.aload_n 0, 1) := by decide +kernel
theorem dX12_init_391 : decode cX12_init 391 = .ok (.sipush 256, 3) := by decide +kernel
theorem dX12_init_394 : decode cX12_init 394 = .ok (.newarray .int, 2) := by decide +kernel
theorem dX12_init_396 : decode cX12_init 396 = .ok (.putfield 152, 3) := by decide +kernel
theorem dX12_init_399 : decode cX12_init 399 = .ok (.aload_n 0, 1) := by decide +kernel
theorem dX12_init_400 : decode cX12_init 400 = .ok (.sipush 256, 3) := by decide +kernel
theorem dX12_init_403 : decode cX12_init 403 = .ok (.newarray .int, 2) := by decide +kernel
theorem dX12_init_405 : decode cX12_init 405 = .ok (.putfield 155, 3) := by decide +kernel
theorem dX12_init_408 : decode cX12_init 408 = .ok (.aload_n 0, 1) := by decide +kernel
theorem dX12_init_409 : decode cX12_init 409 = .ok (.sipush 256, 3) := by decide +kernel
theorem dX12_init_412 : decode cX12_init 412 = .ok (.newarray .boolean, 2) := by decide +kernel
theorem dX12_init_414 : decode cX12_init 414 = .ok (.putfield 158, 3) := by decide +kernel
theorem dX12_init_417 : decode cX12_init 417 = .ok (.aload_n 0, 1) := by decide +kernel
theorem dX12_init_418 : decode cX12_init 418 = .ok (.sipush 256, 3) := by decide +kernel
theorem dX12_init_421 : decode cX12_init 421 = .ok (.newarray .int, 2) := by decide +kernel
theorem dX12_init_423 : decode cX12_init 423 = .ok (.putfield 161, 3) := by decide +kernel
theorem dX12_init_426 : decode cX12_init 426 = .ok (.aload_n 0, 1) := by decide +kernel
theorem dX12_init_427 : decode cX12_init 427 = .ok (.sipush 256, 3) := by decide +kernel
theorem dX12_init_430 : decode cX12_init 430 = .ok (.newarray .int, 2) := by decide +kernel
theorem dX12_init_432 : decode cX12_init 432 = .ok (.putfield 164, 3) := by decide +kernel
theorem dX12_init_435 : decode cX12_init 435 = .ok (.aload_n 0, 1) := by decide +kernel
theorem dX12_init_436 : decode cX12_init 436 = .ok (.sipush 256, 3) := by decide +kernel
theorem dX12_init_439 : decode cX12_init 439 = .ok (.newarray .int, 2) := by decide +kernel
theorem dX12_init_441 : decode cX12_init 441 = .ok (.putfield 167, 3) := by decide +kernel
theorem dX12_init_444 : decode cX12_init 444 = .ok (.aload_n 0, 1) := by decide +kernel
theorem dX12_init_445 : decode cX12_init 445 = .ok (.sipush 256, 3) := by decide +kernel
theorem dX12_init_448 : decode cX12_init 448 = .ok (.newarray .int, 2) := by decide +kernel
theorem dX12_init_450 : decode cX12_init 450 = .ok (.putfield 170, 3) := by decide +kernel
theorem dX12_init_453 : decode cX12_init 453 = .ok (.aload_n 0, 1) := by decide +kernel
theorem dX12_init_454 : decode cX12_init 454 = .ok (.sipush 256, 3) := by decide +kernel
theorem dX12_init_457 : decode cX12_init 457 = .ok (.newarray .boolean, 2) := by decide +kernel
theorem dX12_init_459 : decode cX12_init 459 = .ok (.putfield 173, 3) := by decide +kernel
theorem dX12_init_462 : decode cX12_init 462 = .ok (.aload_n 0, 1) := by decide +kernel
theorem dX12_init_463 : decode cX12_init 463 = .ok (.sipush 256, 3) := by decide +kernel
theorem dX12_init_466 : decode cX12_init 466 = .ok (.newarray .int, 2) := by decide +kernel
theorem dX12_init_468 : decode cX12_init 468 = .ok (.putfield 176, 3) := by decide +kernel
theorem dX12_init_471 : decode cX12_init 471 = .ok (.aload_n 0, 1) := by decide +kernel
theorem dX12_init_472 : decode cX12_init 472 = .ok (.sipush 8192, 3) := by decide +kernel
theorem dX12_init_475 : decode cX12_init 475 = .ok (.newarray .int, 2) := by decide +kernel
theorem dX12_init_477 : decode cX12_init 477 = .ok (.putfield 179, 3) := by decide +kernel
theorem dX12_init_480 : decode cX12_init 480 = .ok (.aload_n 0, 1) := by decide +kernel
theorem dX12_init_481 : decode cX12_init 481 = .ok (.sipush 256, 3) := by decide +kernel
theorem dX12_init_484 : decode cX12_init 484 = .ok (.newarray .int, 2) := by decide +kernel
theorem dX12_init_486 : decode cX12_init 486 = .ok (.putfield 182, 3) := by decide +kernel
theorem dX12_init_489 : decode cX12_init 489 = .ok (.aload_n 0, 1) := by decide +kernel
theorem dX12_init_490 : decode cX12_init 490 = .ok (.sipush 256, 3) := by decide +kernel
theorem dX12_init_493 : decode cX12_init 493 = .ok (.newarray .int, 2) := by decide +kernel
theorem dX12_init_495 : decode cX12_init 495 = .ok (.putfield 185, 3) := by decide +kernel
theorem dX12_init_498 : decode cX12_init 498 = .ok (.aload_n 0, 1) := by decide +kernel
theorem dX12_init_499 : decode cX12_init 499 = .ok (.sipush 256, 3) := by decide +kernel
theorem dX12_init_502 : decode cX12_init 502 = .ok (.newarray .int, 2) := by decide +kernel
theorem dX12_init_504 : decode cX12_init 504 = .ok (.putfield 188, 3) := by decide +kernel
theorem dX12_init_507 : decode cX12_init 507 = .ok (.aload_n 0, 1) := by decide +kernel
theorem dX12_init_508 : decode cX12_init 508 = .ok (.sipush 256, 3) := by decide +kernel
theorem dX12_init_511 : decode cX12_init 511 = .ok (.newarray .int, 2) := by decide +kernel
theorem dX12_init_513 : decode cX12_init 513 = .ok (.putfield 191, 3) := by decide +kernel
theorem dX12_init_516 : decode cX12_init 516 = .ok (.aload_n 0, 1) := by decide +kernel
theorem dX12_init_517 : decode cX12_init 517 = .ok (.sipush 256, 3) := by decide +kernel
theorem dX12_init_520 : decode cX12_init 520 = .ok (.newarray .int, 2) := by decide +kernel
theorem dX12_init_522 : decode cX12_init 522 = .ok (.putfield 194, 3) := by decide +kernel
theorem dX12_init_525 : decode cX12_init 525 = .ok (.aload_n 0, 1) := by decide +kernel
theorem dX12_init_526 : decode cX12_init 526 = .ok (.bipush 16, 2) := by decide +kernel
theorem dX12_init_528 : decode cX12_init 528 = .ok (.newarray .int, 2) := by decide +kernel
theorem dX12_init_530 : decode cX12_init 530 = .ok (.putfield 197, 3) := by decide +kernel
theorem dX12_init_533 : decode cX12_init 533 = .ok (.aload_n 0, 1) := by decide +kernel
theorem dX12_init_534 : decode cX12_init 534 = .ok (.bipush 16, 2) := by decide +kernel
theorem dX12_init_536 : decode cX12_init 536 = .ok (.newarray .int, 2) := by decide +kernel
theorem dX12_init_538 : decode cX12_init 538 = .ok (.putfield 200, 3) := by decide +kernel
theorem dX12_init_541 : decode cX12_init 541 = .ok (.aload_n 0, 1) := by decide +kernel
theorem dX12_init_542 : decode cX12_init 542 = .ok (.bipush 16, 2) := by decide +kernel
theorem dX12_init_544 : decode cX12_init 544 = .ok (.newarray .int, 2) := by decide +kernel
theorem dX12_init_546 : decode cX12_init 546 = .ok (.putfield 203, 3) := by decide +kernel
theorem dX12_init_549 : decode cX12_init 549 = .ok (.aload_n 0, 1) := by decide +kernel
theorem dX12_init_550 : decode cX12_init 550 = .ok (.bipush 16, 2) := by decide +kernel
theorem dX12_init_552 : decode cX12_init 552 = .ok (.newarray .int, 2) := by decide +kernel
theorem dX12_init_554 : decode cX12_init 554 = .ok (.putfield 206, 3) := by decide +kernel
theorem dX12_init_557 : decode cX12_init 557 = .ok (.aload_n 0, 1) := by decide +kernel
theorem dX12_init_558 : decode cX12_init 558 = .ok (.bipush 16, 2) := by decide +kernel
theorem dX12_init_560 : decode cX12_init 560 = .ok (.newarray .int, 2) := by decide +kernel
theorem dX12_init_562 : decode cX12_init 562 = .ok (.putfield 209, 3) := by decide +kernel
theorem dX12_init_565 : decode cX12_init 565 = .ok (.aload_n 0, 1) := by decide +kernel
theorem dX12_init_566 : decode cX12_init 566 = .ok (.bipush 16, 2) := by decide +kernel
theorem dX12_init_568 : decode cX12_init 568 = .ok (.newarray .int, 2) := by decide +kernel
theorem dX12_init_570 : decode cX12_init 570 = .ok (.putfield 212, 3) := by decide +kernel
theorem dX12_init_573 : decode cX12_init 573 = .ok (.aload_n 0, 1) := by decide +kernel
theorem dX12_init_574 : decode cX12_init 574 = .ok (.bipush 16, 2) := by decide +kernel
theorem dX12_init_576 : decode cX12_init 576 = .ok (.newarray .int, 2) := by decide +kernel
theorem dX12_init_578 : decode cX12_init 578 = .ok (.putfield 215, 3) := by decide +kernel
theorem dX12_init_581 : decode cX12_init 581 = .ok (.aload_n 0, 1) := by decide +kernel
theorem dX12_init_582 : decode cX12_init 582 = .ok (.bipush 16, 2) := by decide +kernel
theorem dX12_init_584 : decode cX12_init 584 = .ok (.newarray .int, 2) := by decide +kernel
theorem dX12_init_586 : decode cX12_init 586 = .ok (.putfield 218, 3) := by decide +kernel
theorem dX12_init_589 : decode cX12_init 589 = .ok (.aload_n 0, 1) := by decide +kernel
theorem dX12_init_590 : decode cX12_init 590 = .ok (.bipush 16, 2) := by decide +kernel
theorem dX12_init_592 : decode cX12_init 592 = .ok (.newarray .int, 2) := by decide +kernel
theorem dX12_init_594 : decode cX12_init 594 = .ok (.putfield 221, 3) := by decide +kernel
theorem dX12_init_597 : decode cX12_init 597 = .ok (.aload_n 0, 1) := by decide +kernel
theorem dX12_init_598 : decode cX12_init 598 = .ok (.sipush 128, 3) := by decide +kernel
theorem dX12_init_601 : decode cX12_init 601 = .ok (.newarray .int, 2) := by decide +kernel
theorem dX12_init_603 : decode cX12_init 603 = .ok (.putfield 224, 3) := by decide +kernel
theorem dX12_init_606 : decode cX12_init 606 = .ok (.aload_n 0, 1) := by decide +kernel
theorem dX12_init_607 : decode cX12_init 607 = .ok (.sipush 128, 3) := by decide +kernel
theorem dX12_init_610 : decode cX12_init 610 = .ok (.newarray .boolean, 2) := by decide +kernel
theorem dX12_init_612 : decode cX12_init 612 = .ok (.putfield 227, 3) := by decide +kernel
theorem dX12_init_615 : decode cX12_init 615 = .ok (.aload_n 0, 1) := by decide +kernel
theorem dX12_init_616 : decode cX12_init 616 = .ok (.sipush 128, 3) := by decide +kernel
theorem dX12_init_619 : decode cX12_init 619 = .ok (.newarray .int, 2) := by decide +kernel
theorem dX12_init_621 : decode cX12_init 621 = .ok (.putfield 230, 3) := by decide +kernel
theorem dX12_init_624 : decode cX12_init 624 = .ok (.aload_n 0, 1) := by decide +kernel
theorem dX12_init_625 : decode cX12_init 625 = .ok (.sipush 2048, 3) := by decide +kernel
theorem dX12_init_628 : decode cX12_init 628 = .ok (.newarray .int, 2) := by decide +kernel
theorem dX12_init_630 : decode cX12_init 630 = .ok (.putfield 233, 3) := by decide +kernel
theorem dX12_init_633 : decode cX12_init 633 = .ok (.aload_n 0, 1) := by decide +kernel
theorem dX12_init_634 : decode cX12_init 634 = .ok (.sipush 128, 3) := by decide +kernel
theorem dX12_init_637 : decode cX12_init 637 = .ok (.newarray .boolean, 2) := by decide +kernel
theorem dX12_init_639 : decode cX12_init 639 = .ok (.putfield 236, 3) := by decide +kernel
theorem dX12_init_642 : decode cX12_init 642 = .ok (.aload_n 0, 1) := by decide +kernel
theorem dX12_init_643 : decode cX12_init 643 = .ok (.sipush 128, 3) := by decide +kernel
theorem dX12_init_646 : decode cX12_init 646 = .ok (.newarray .int, 2) := by decide +kernel
theorem dX12_init_648 : decode cX12_init 648 = .ok (.putfield 239, 3) := by decide +kernel
theorem dX12_init_651 : decode cX12_init 651 = .ok (.aload_n 0, 1) := by decide +kernel
theorem dX12_init_652 : decode cX12_init 652 = .ok (.bipush 24, 2) := by decide +kernel
theorem dX12_init_654 : decode cX12_init 654 = .ok (.newarray .boolean, 2) := by decide +kernel
theorem dX12_init_656 : decode cX12_init 656 = .ok (.putfield 242, 3) := by decide +kernel
theorem dX12_init_659 : decode cX12_init 659 = .ok (.aload_n 0, 1) := by decide +kernel
theorem dX12_init_660 : decode cX12_init 660 = .ok (.bipush 24, 2) := by decide +kernel
theorem dX12_init_662 : decode cX12_init 662 = .ok (.newarray .int, 2) := by decide +kernel
theorem dX12_init_664 : decode cX12_init 664 = .ok (.putfield 245, 3) := by decide +kernel
theorem dX12_init_667 : decode cX12_init 667 = .ok (.aload_n 0, 1) := by decide +kernel
theorem dX12_init_668 : decode cX12_init 668 = .ok (.bipush 24, 2) := by decide +kernel
theorem dX12_init_670 : decode cX12_init 670 = .ok (.newarray .int, 2) := by decide +kernel
theorem dX12_init_672 : decode cX12_init 672 = .ok (.putfield 248, 3) := by decide +kernel
theorem dX12_init_675 : decode cX12_init 675 = .ok (.aload_n 0, 1) := by decide +kernel
theorem dX12_init_676 : decode cX12_init 676 = .ok (.bipush 24, 2) := by decide +kernel
theorem dX12_init_678 : decode cX12_init 678 = .ok (.newarray .int, 2) := by decide +kernel
theorem dX12_init_680 : decode cX12_init 680 = .ok (.putfield 251, 3) := by decide +kernel
theorem dX12_init_683 : decode cX12_init 683 = .ok (.aload_n 0, 1) := by decide +kernel
theorem dX12_init_684 : decode cX12_init 684 = .ok (.sipush 768, 3) := by decide +kernel
theorem dX12_init_687 : decode cX12_init 687 = .ok (.newarray .int, 2) := by decide +kernel
theorem dX12_init_689 : decode cX12_init 689 = .ok (.putfield 254, 3) := by decide +kernel
theorem dX12_init_692 : decode cX12_init 692 = .ok (.aload_n 0, 1) := by decide +kernel
theorem dX12_init_693 : decode cX12_init 693 = .ok (.bipush 24, 2) := by decide +kernel
theorem dX12_init_695 : decode cX12_init 695 = .ok (.newarray .int, 2) := by decide +kernel
theorem dX12_init_697 : decode cX12_init 697 = .ok (.putfield 257, 3) := by decide +kernel
theorem dX12_init_700 : decode cX12_init 700 = .ok (.aload_n 0, 1) := by decide +kernel
theorem dX12_init_701 : decode cX12_init 701 = .ok (.bipush 24, 2) := by decide +kernel
theorem dX12_init_703 : decode cX12_init 703 = .ok (.newarray .int, 2) := by decide +kernel
theorem dX12_init_705 : decode cX12_init 705 = .ok (.putfield 260, 3) := by decide +kernel
theorem dX12_init_708 : decode cX12_init 708 = .ok (.aload_n 0, 1) := by decide +kernel
theorem dX12_init_709 : decode cX12_init 709 = .ok (.bipush 24, 2) := by decide +kernel
theorem dX12_init_711 : decode cX12_init 711 = .ok (.newarray .int, 2) := by decide +kernel
theorem dX12_init_713 : decode cX12_init 713 = .ok (.putfield 263, 3) := by decide +kernel
theorem dX12_init_716 : decode cX12_init 716 = .ok (.aload_n 0, 1) := by decide +kernel
theorem dX12_init_717 : decode cX12_init 717 = .ok (.sipush 1440, 3) := by decide +kernel
theorem dX12_init_720 : decode cX12_init 720 = .ok (.newarray .int, 2) := by decide +kernel
theorem dX12_init_722 : decode cX12_init 722 = .ok (.putfield 266, 3) := by decide +kernel
theorem dX12_init_725 : decode cX12_init 725 = .ok (.aload_n 0, 1) := by decide +kernel
theorem dX12_init_726 : decode cX12_init 726 = .ok (.sipush 1440, 3) := by decide +kernel
theorem dX12_init_729 : decode cX12_init 729 = .ok (.newarray .int, 2) := by decide +kernel
theorem dX12_init_731 : decode cX12_init 731 = .ok (.putfield 269, 3) := by decide +kernel
theorem dX12_init_734 : decode cX12_init 734 = .ok (.aload_n 0, 1) := by decide +kernel
theorem dX12_init_735 : decode cX12_init 735 = .ok (.sipush 900, 3) := by decide +kernel
theorem dX12_init_738 : decode cX12_init 738 = .ok (.newarray .int, 2) := by decide +kernel
theorem dX12_init_740 : decode cX12_init 740 = .ok (.putfield 272, 3) := by decide +kernel
theorem dX12_init_743 : decode cX12_init 743 = .ok (.aload_n 0, 1) := by decide +kernel
theorem dX12_init_744 : decode cX12_init 744 = .ok (.sipush 384, 3) := by decide +kernel
theorem dX12_init_747 : decode cX12_init 747 = .ok (.newarray .int, 2) := by decide +kernel
theorem dX12_init_749 : decode cX12_init 749 = .ok (.putfield 275, 3) := by decide +kernel
theorem dX12_init_752 : decode cX12_init 752 = .ok (.return_, 1) := by decide +kernel
def wb_X12_init_716 (bc bs : Nat)  (u v : Nat) (S : q_S) (a0 : Nat) (Q : Option Value → q_S → Prop) : Prop := (u + 1 ≤ bc ∧ v + 1440 ≤ bs) ∧ (∀ b1_ : Nat, q_K S b1_ = 0 → (q_K (qs_R S 21 1440 b1_) a0 = 13 ∧ (((u + 1) + 1 ≤ bc ∧ (v + 1440) + 1440 ≤ bs) ∧ (∀ b7_ : Nat, q_K (qs_P (qs_R S 21 1440 b1_) 2506 a0 (some b1_)) b7_ = 0 → (∀ S12_ : q_S, S12_ = (qs_R (qs_P (qs_R S 21 1440 b1_) 2506 a0 (some b1_)) 21 1440 b7_) → ((((u + 1) + 1) + 1 ≤ bc ∧ ((v + 1440) + 1440) + 900 ≤ bs) ∧ (∀ b13_ : Nat, q_K (qs_P S12_ 2507 a0 (some b7_)) b13_ = 0 → (∀ S18_ : q_S, S18_ = (qs_P (qs_R (qs_P S12_ 2507 a0 (some b7_)) 21 900 b13_) 2511 a0 (some b13_)) → (((((u + 1) + 1) + 1) + 1 ≤ bc ∧ (((v + 1440) + 1440) + 900) + 384 ≤ bs) ∧ (∀ b19_ : Nat, q_K S18_ b19_ = 0 → (Q none (qs_P (qs_R S18_ 21 384 b19_) 2512 a0 (some b19_)))))))))))))
set_option maxHeartbeats 4000000 in
set_option maxRecDepth 100000 in
theorem cb_X12_init_716 {p : Program} {l : Launch} {e : Env} {s : State} {m : MethodId} {args : Array Value} {below : List Frame} {meth : Method} {c : Code} {D : va_G} {cy : Nat → ClassId} {lo : Nat} {bc bs : Nat}  {u v : Nat} {S : q_S} {a0 : Nat} {Q : Option Value → q_S → Prop} {H : Heap} {locs : List Loc} {ls : Array Slot} (X : q_X p s m args meth c RX12 cX12_init 1 none D cy lo) (hnm : meth.name = "<init>")  (hu : u ≤ bc ∧ v ≤ bs) (Y : q_Y D cy lo s S H locs) (hl : lv_has ls 1 [(0, .ref a0)]) (h : wb_X12_init_716 bc bs u v S a0 Q) : W p l e ({ frames := 1, cells := bc, slots := bs, locals := 20 } : Room) s m args below meth c H locs u v (MQ below (q_Q D cy lo Q) args s bc bs (fun q => lo ≤ q)) (F0 m 716 ls []) := by
  have hx := X.1
  have hb := X.2.1
  unfold wb_X12_init_716 at h
  refine lv_aload_n hx hb dX12_init_716 rfl (lv_at hl 0 rfl) ?_
  refine lv_sipush (v := 1440) hx hb dX12_init_717 (by decide) ?_
  obtain ⟨w4_, h⟩ := h
  refine q_newa X Y (k := 21) (t := 1) (n := 1440) (ty := .int) rfl (by decide) rfl (fun _ _ => rfl) (by first | exact rfl | decide | simp [defaultValue]) ar_int (by decide) (by decide) (by decide) w4_ dX12_init_720 (fun b1_ H h2_ h3_ Y => ?_)
  replace h := h b1_ h2_
  replace hu := w4_
  have k5_ : q_K (qs_R S 21 1440 b1_) b1_ = 21 := qs_R_Ks
  obtain ⟨k6_, h⟩ := h
  refine q_putP X Y (some b1_) rfl kX12 106 rfl fl_X12_266 k6_ _ rfl (Or.inr ⟨_, rfl⟩) (Or.inr ⟨rfl, hnm, rfl⟩) dX12_init_722 (fun H locs Y => ?_)
  refine lv_aload_n hx hb dX12_init_725 rfl (lv_at hl 0 rfl) ?_
  refine lv_sipush (v := 1440) hx hb dX12_init_726 (by decide) ?_
  obtain ⟨w10_, h⟩ := h
  refine q_newa X Y (k := 21) (t := 1) (n := 1440) (ty := .int) rfl (by decide) rfl (fun _ _ => rfl) (by first | exact rfl | decide | simp [defaultValue]) ar_int (by decide) (by decide) (by decide) w10_ dX12_init_729 (fun b7_ H h8_ h9_ Y => ?_)
  replace h := h b7_ h8_
  replace hu := w10_
  replace k5_ := qs_R_keep (j := 21) (n := 1440) h8_ k5_ (by decide)
  replace k6_ := qs_R_keep (j := 21) (n := 1440) h8_ k6_ (by decide)
  have k11_ : q_K (qs_R (qs_P (qs_R S 21 1440 b1_) 2506 a0 (some b1_)) 21 1440 b7_) b7_ = 21 := qs_R_Ks
  obtain ⟨S12_, gS12_⟩ : ∃ z : q_S, z = (qs_R (qs_P (qs_R S 21 1440 b1_) 2506 a0 (some b1_)) 21 1440 b7_) := ⟨_, rfl⟩
  replace Y : q_Y D cy lo s S12_ H locs := by rw [gS12_]; exact Y
  replace h := h S12_ gS12_
  replace k5_ : q_K S12_ b1_ = 21 := by rw [gS12_]; exact k5_
  replace k6_ : q_K S12_ a0 = 13 := by rw [gS12_]; exact k6_
  replace k11_ : q_K S12_ b7_ = 21 := by rw [gS12_]; exact k11_
  refine q_putP X Y (some b7_) rfl kX12 107 rfl fl_X12_269 k6_ _ rfl (Or.inr ⟨_, rfl⟩) (Or.inr ⟨rfl, hnm, rfl⟩) dX12_init_731 (fun H locs Y => ?_)
  refine lv_aload_n hx hb dX12_init_734 rfl (lv_at hl 0 rfl) ?_
  refine lv_sipush (v := 900) hx hb dX12_init_735 (by decide) ?_
  obtain ⟨w16_, h⟩ := h
  refine q_newa X Y (k := 21) (t := 1) (n := 900) (ty := .int) rfl (by decide) rfl (fun _ _ => rfl) (by first | exact rfl | decide | simp [defaultValue]) ar_int (by decide) (by decide) (by decide) w16_ dX12_init_738 (fun b13_ H h14_ h15_ Y => ?_)
  replace h := h b13_ h14_
  replace hu := w16_
  replace k5_ := qs_R_keep (j := 21) (n := 900) h14_ k5_ (by decide)
  replace k6_ := qs_R_keep (j := 21) (n := 900) h14_ k6_ (by decide)
  replace k11_ := qs_R_keep (j := 21) (n := 900) h14_ k11_ (by decide)
  have k17_ : q_K (qs_R (qs_P S12_ 2507 a0 (some b7_)) 21 900 b13_) b13_ = 21 := qs_R_Ks
  refine q_putP X Y (some b13_) rfl kX12 111 rfl fl_X12_272 k6_ _ rfl (Or.inr ⟨_, rfl⟩) (Or.inr ⟨rfl, hnm, rfl⟩) dX12_init_740 (fun H locs Y => ?_)
  obtain ⟨S18_, gS18_⟩ : ∃ z : q_S, z = (qs_P (qs_R (qs_P S12_ 2507 a0 (some b7_)) 21 900 b13_) 2511 a0 (some b13_)) := ⟨_, rfl⟩
  replace Y : q_Y D cy lo s S18_ H locs := by rw [gS18_]; exact Y
  replace h := h S18_ gS18_
  replace k5_ : q_K S18_ b1_ = 21 := by rw [gS18_]; exact k5_
  replace k6_ : q_K S18_ a0 = 13 := by rw [gS18_]; exact k6_
  replace k11_ : q_K S18_ b7_ = 21 := by rw [gS18_]; exact k11_
  replace k17_ : q_K S18_ b13_ = 21 := by rw [gS18_]; exact k17_
  refine lv_aload_n hx hb dX12_init_743 rfl (lv_at hl 0 rfl) ?_
  refine lv_sipush (v := 384) hx hb dX12_init_744 (by decide) ?_
  obtain ⟨w22_, h⟩ := h
  refine q_newa X Y (k := 21) (t := 1) (n := 384) (ty := .int) rfl (by decide) rfl (fun _ _ => rfl) (by first | exact rfl | decide | simp [defaultValue]) ar_int (by decide) (by decide) (by decide) w22_ dX12_init_747 (fun b19_ H h20_ h21_ Y => ?_)
  replace h := h b19_ h20_
  replace hu := w22_
  replace k5_ := qs_R_keep (j := 21) (n := 384) h20_ k5_ (by decide)
  replace k6_ := qs_R_keep (j := 21) (n := 384) h20_ k6_ (by decide)
  replace k11_ := qs_R_keep (j := 21) (n := 384) h20_ k11_ (by decide)
  replace k17_ := qs_R_keep (j := 21) (n := 384) h20_ k17_ (by decide)
  have k23_ : q_K (qs_R S18_ 21 384 b19_) b19_ = 21 := qs_R_Ks
  refine q_putP X Y (some b19_) rfl kX12 112 rfl fl_X12_275 k6_ _ rfl (Or.inr ⟨_, rfl⟩) (Or.inr ⟨rfl, hnm, rfl⟩) dX12_init_749 (fun H locs Y => ?_)
  exact q_vret X Y hu.1 hu.2 h dX12_init_752
def wb_X12_init_615 (bc bs : Nat)  (u v : Nat) (S : q_S) (a0 : Nat) (Q : Option Value → q_S → Prop) : Prop := (u + 1 ≤ bc ∧ v + 128 ≤ bs) ∧ (∀ b24_ : Nat, q_K S b24_ = 0 → (q_K (qs_R S 21 128 b24_) a0 = 13 ∧ (((u + 1) + 1 ≤ bc ∧ (v + 128) + 2048 ≤ bs) ∧ (∀ b30_ : Nat, q_K (qs_P (qs_R S 21 128 b24_) 2494 a0 (some b24_)) b30_ = 0 → (∀ S35_ : q_S, S35_ = (qs_R (qs_P (qs_R S 21 128 b24_) 2494 a0 (some b24_)) 21 2048 b30_) → ((((u + 1) + 1) + 1 ≤ bc ∧ ((v + 128) + 2048) + 128 ≤ bs) ∧ (∀ b36_ : Nat, q_K (qs_P S35_ 2495 a0 (some b30_)) b36_ = 0 → (∀ S41_ : q_S, S41_ = (qs_P (qs_R (qs_P S35_ 2495 a0 (some b30_)) 22 128 b36_) 2496 a0 (some b36_)) → (((((u + 1) + 1) + 1) + 1 ≤ bc ∧ (((v + 128) + 2048) + 128) + 128 ≤ bs) ∧ (∀ b42_ : Nat, q_K S41_ b42_ = 0 → ((((((u + 1) + 1) + 1) + 1) + 1 ≤ bc ∧ ((((v + 128) + 2048) + 128) + 128) + 24 ≤ bs) ∧ (∀ b47_ : Nat, q_K (qs_P (qs_R S41_ 21 128 b42_) 2497 a0 (some b42_)) b47_ = 0 → (∀ S52_ : q_S, S52_ = (qs_R (qs_P (qs_R S41_ 21 128 b42_) 2497 a0 (some b42_)) 22 24 b47_) → (((((((u + 1) + 1) + 1) + 1) + 1) + 1 ≤ bc ∧ (((((v + 128) + 2048) + 128) + 128) + 24) + 24 ≤ bs) ∧ (∀ b53_ : Nat, q_K (qs_P S52_ 2498 a0 (some b47_)) b53_ = 0 → (∀ S58_ : q_S, S58_ = (qs_P (qs_R (qs_P S52_ 2498 a0 (some b47_)) 21 24 b53_) 2499 a0 (some b53_)) → ((((((((u + 1) + 1) + 1) + 1) + 1) + 1) + 1 ≤ bc ∧ ((((((v + 128) + 2048) + 128) + 128) + 24) + 24) + 24 ≤ bs) ∧ (∀ b59_ : Nat, q_K S58_ b59_ = 0 → (((((((((u + 1) + 1) + 1) + 1) + 1) + 1) + 1) + 1 ≤ bc ∧ (((((((v + 128) + 2048) + 128) + 128) + 24) + 24) + 24) + 24 ≤ bs) ∧ (∀ b64_ : Nat, q_K (qs_P (qs_R S58_ 21 24 b59_) 2500 a0 (some b59_)) b64_ = 0 → (∀ S69_ : q_S, S69_ = (qs_R (qs_P (qs_R S58_ 21 24 b59_) 2500 a0 (some b59_)) 21 24 b64_) → ((((((((((u + 1) + 1) + 1) + 1) + 1) + 1) + 1) + 1) + 1 ≤ bc ∧ ((((((((v + 128) + 2048) + 128) + 128) + 24) + 24) + 24) + 24) + 768 ≤ bs) ∧ (∀ b70_ : Nat, q_K (qs_P S69_ 2501 a0 (some b64_)) b70_ = 0 → (∀ S75_ : q_S, S75_ = (qs_P (qs_R (qs_P S69_ 2501 a0 (some b64_)) 21 768 b70_) 2502 a0 (some b70_)) → (((((((((((u + 1) + 1) + 1) + 1) + 1) + 1) + 1) + 1) + 1) + 1 ≤ bc ∧ (((((((((v + 128) + 2048) + 128) + 128) + 24) + 24) + 24) + 24) + 768) + 24 ≤ bs) ∧ (∀ b76_ : Nat, q_K S75_ b76_ = 0 → ((((((((((((u + 1) + 1) + 1) + 1) + 1) + 1) + 1) + 1) + 1) + 1) + 1 ≤ bc ∧ ((((((((((v + 128) + 2048) + 128) + 128) + 24) + 24) + 24) + 24) + 768) + 24) + 24 ≤ bs) ∧ (∀ b81_ : Nat, q_K (qs_P (qs_R S75_ 21 24 b76_) 2503 a0 (some b76_)) b81_ = 0 → (∀ S86_ : q_S, S86_ = (qs_R (qs_P (qs_R S75_ 21 24 b76_) 2503 a0 (some b76_)) 21 24 b81_) → (((((((((((((u + 1) + 1) + 1) + 1) + 1) + 1) + 1) + 1) + 1) + 1) + 1) + 1 ≤ bc ∧ (((((((((((v + 128) + 2048) + 128) + 128) + 24) + 24) + 24) + 24) + 768) + 24) + 24) + 24 ≤ bs) ∧ (∀ b87_ : Nat, q_K (qs_P S86_ 2504 a0 (some b81_)) b87_ = 0 → (∀ S92_ : q_S, S92_ = (qs_P (qs_R (qs_P S86_ 2504 a0 (some b81_)) 21 24 b87_) 2505 a0 (some b87_)) → (wb_X12_init_716 bc bs ((((((((((((u + 1) + 1) + 1) + 1) + 1) + 1) + 1) + 1) + 1) + 1) + 1) + 1) ((((((((((((v + 128) + 2048) + 128) + 128) + 24) + 24) + 24) + 24) + 768) + 24) + 24) + 24) S92_ a0 Q)))))))))))))))))))))))))))))))))
set_option maxHeartbeats 4000000 in
set_option maxRecDepth 100000 in
theorem cb_X12_init_615 {p : Program} {l : Launch} {e : Env} {s : State} {m : MethodId} {args : Array Value} {below : List Frame} {meth : Method} {c : Code} {D : va_G} {cy : Nat → ClassId} {lo : Nat} {bc bs : Nat}  {u v : Nat} {S : q_S} {a0 : Nat} {Q : Option Value → q_S → Prop} {H : Heap} {locs : List Loc} {ls : Array Slot} (X : q_X p s m args meth c RX12 cX12_init 1 none D cy lo) (hnm : meth.name = "<init>")  (hu : u ≤ bc ∧ v ≤ bs) (Y : q_Y D cy lo s S H locs) (hl : lv_has ls 1 [(0, .ref a0)]) (h : wb_X12_init_615 bc bs u v S a0 Q) : W p l e ({ frames := 1, cells := bc, slots := bs, locals := 20 } : Room) s m args below meth c H locs u v (MQ below (q_Q D cy lo Q) args s bc bs (fun q => lo ≤ q)) (F0 m 615 ls []) := by
  have hx := X.1
  have hb := X.2.1
  unfold wb_X12_init_615 at h
  refine lv_aload_n hx hb dX12_init_615 rfl (lv_at hl 0 rfl) ?_
  refine lv_sipush (v := 128) hx hb dX12_init_616 (by decide) ?_
  obtain ⟨w27_, h⟩ := h
  refine q_newa X Y (k := 21) (t := 1) (n := 128) (ty := .int) rfl (by decide) rfl (fun _ _ => rfl) (by first | exact rfl | decide | simp [defaultValue]) ar_int (by decide) (by decide) (by decide) w27_ dX12_init_619 (fun b24_ H h25_ h26_ Y => ?_)
  replace h := h b24_ h25_
  replace hu := w27_
  have k28_ : q_K (qs_R S 21 128 b24_) b24_ = 21 := qs_R_Ks
  obtain ⟨k29_, h⟩ := h
  refine q_putP X Y (some b24_) rfl kX12 94 rfl fl_X12_230 k29_ _ rfl (Or.inr ⟨_, rfl⟩) (Or.inr ⟨rfl, hnm, rfl⟩) dX12_init_621 (fun H locs Y => ?_)
  refine lv_aload_n hx hb dX12_init_624 rfl (lv_at hl 0 rfl) ?_
  refine lv_sipush (v := 2048) hx hb dX12_init_625 (by decide) ?_
  obtain ⟨w33_, h⟩ := h
  refine q_newa X Y (k := 21) (t := 1) (n := 2048) (ty := .int) rfl (by decide) rfl (fun _ _ => rfl) (by first | exact rfl | decide | simp [defaultValue]) ar_int (by decide) (by decide) (by decide) w33_ dX12_init_628 (fun b30_ H h31_ h32_ Y => ?_)
  replace h := h b30_ h31_
  replace hu := w33_
  replace k28_ := qs_R_keep (j := 21) (n := 2048) h31_ k28_ (by decide)
  replace k29_ := qs_R_keep (j := 21) (n := 2048) h31_ k29_ (by decide)
  have k34_ : q_K (qs_R (qs_P (qs_R S 21 128 b24_) 2494 a0 (some b24_)) 21 2048 b30_) b30_ = 21 := qs_R_Ks
  obtain ⟨S35_, gS35_⟩ : ∃ z : q_S, z = (qs_R (qs_P (qs_R S 21 128 b24_) 2494 a0 (some b24_)) 21 2048 b30_) := ⟨_, rfl⟩
  replace Y : q_Y D cy lo s S35_ H locs := by rw [gS35_]; exact Y
  replace h := h S35_ gS35_
  replace k28_ : q_K S35_ b24_ = 21 := by rw [gS35_]; exact k28_
  replace k29_ : q_K S35_ a0 = 13 := by rw [gS35_]; exact k29_
  replace k34_ : q_K S35_ b30_ = 21 := by rw [gS35_]; exact k34_
  refine q_putP X Y (some b30_) rfl kX12 95 rfl fl_X12_233 k29_ _ rfl (Or.inr ⟨_, rfl⟩) (Or.inr ⟨rfl, hnm, rfl⟩) dX12_init_630 (fun H locs Y => ?_)
  refine lv_aload_n hx hb dX12_init_633 rfl (lv_at hl 0 rfl) ?_
  refine lv_sipush (v := 128) hx hb dX12_init_634 (by decide) ?_
  obtain ⟨w39_, h⟩ := h
  refine q_newa X Y (k := 22) (t := 2) (n := 128) (ty := .boolean) rfl (by decide) rfl (fun _ _ => rfl) (by first | exact rfl | decide | simp [defaultValue]) ar_boolean (by decide) (by decide) (by decide) w39_ dX12_init_637 (fun b36_ H h37_ h38_ Y => ?_)
  replace h := h b36_ h37_
  replace hu := w39_
  replace k28_ := qs_R_keep (j := 22) (n := 128) h37_ k28_ (by decide)
  replace k29_ := qs_R_keep (j := 22) (n := 128) h37_ k29_ (by decide)
  replace k34_ := qs_R_keep (j := 22) (n := 128) h37_ k34_ (by decide)
  have k40_ : q_K (qs_R (qs_P S35_ 2495 a0 (some b30_)) 22 128 b36_) b36_ = 22 := qs_R_Ks
  refine q_putP X Y (some b36_) rfl kX12 96 rfl fl_X12_236 k29_ _ rfl (Or.inr ⟨_, rfl⟩) (Or.inr ⟨rfl, hnm, rfl⟩) dX12_init_639 (fun H locs Y => ?_)
  obtain ⟨S41_, gS41_⟩ : ∃ z : q_S, z = (qs_P (qs_R (qs_P S35_ 2495 a0 (some b30_)) 22 128 b36_) 2496 a0 (some b36_)) := ⟨_, rfl⟩
  replace Y : q_Y D cy lo s S41_ H locs := by rw [gS41_]; exact Y
  replace h := h S41_ gS41_
  replace k28_ : q_K S41_ b24_ = 21 := by rw [gS41_]; exact k28_
  replace k29_ : q_K S41_ a0 = 13 := by rw [gS41_]; exact k29_
  replace k34_ : q_K S41_ b30_ = 21 := by rw [gS41_]; exact k34_
  replace k40_ : q_K S41_ b36_ = 22 := by rw [gS41_]; exact k40_
  refine lv_aload_n hx hb dX12_init_642 rfl (lv_at hl 0 rfl) ?_
  refine lv_sipush (v := 128) hx hb dX12_init_643 (by decide) ?_
  obtain ⟨w45_, h⟩ := h
  refine q_newa X Y (k := 21) (t := 1) (n := 128) (ty := .int) rfl (by decide) rfl (fun _ _ => rfl) (by first | exact rfl | decide | simp [defaultValue]) ar_int (by decide) (by decide) (by decide) w45_ dX12_init_646 (fun b42_ H h43_ h44_ Y => ?_)
  replace h := h b42_ h43_
  replace hu := w45_
  replace k28_ := qs_R_keep (j := 21) (n := 128) h43_ k28_ (by decide)
  replace k29_ := qs_R_keep (j := 21) (n := 128) h43_ k29_ (by decide)
  replace k34_ := qs_R_keep (j := 21) (n := 128) h43_ k34_ (by decide)
  replace k40_ := qs_R_keep (j := 21) (n := 128) h43_ k40_ (by decide)
  have k46_ : q_K (qs_R S41_ 21 128 b42_) b42_ = 21 := qs_R_Ks
  refine q_putP X Y (some b42_) rfl kX12 97 rfl fl_X12_239 k29_ _ rfl (Or.inr ⟨_, rfl⟩) (Or.inr ⟨rfl, hnm, rfl⟩) dX12_init_648 (fun H locs Y => ?_)
  refine lv_aload_n hx hb dX12_init_651 rfl (lv_at hl 0 rfl) ?_
  refine lv_bipush (v := 24) hx hb dX12_init_652 (by decide) ?_
  obtain ⟨w50_, h⟩ := h
  refine q_newa X Y (k := 22) (t := 2) (n := 24) (ty := .boolean) rfl (by decide) rfl (fun _ _ => rfl) (by first | exact rfl | decide | simp [defaultValue]) ar_boolean (by decide) (by decide) (by decide) w50_ dX12_init_654 (fun b47_ H h48_ h49_ Y => ?_)
  replace h := h b47_ h48_
  replace hu := w50_
  replace k28_ := qs_R_keep (j := 22) (n := 24) h48_ k28_ (by decide)
  replace k29_ := qs_R_keep (j := 22) (n := 24) h48_ k29_ (by decide)
  replace k34_ := qs_R_keep (j := 22) (n := 24) h48_ k34_ (by decide)
  replace k40_ := qs_R_keep (j := 22) (n := 24) h48_ k40_ (by decide)
  replace k46_ := qs_R_keep (j := 22) (n := 24) h48_ k46_ (by decide)
  have k51_ : q_K (qs_R (qs_P (qs_R S41_ 21 128 b42_) 2497 a0 (some b42_)) 22 24 b47_) b47_ = 22 := qs_R_Ks
  obtain ⟨S52_, gS52_⟩ : ∃ z : q_S, z = (qs_R (qs_P (qs_R S41_ 21 128 b42_) 2497 a0 (some b42_)) 22 24 b47_) := ⟨_, rfl⟩
  replace Y : q_Y D cy lo s S52_ H locs := by rw [gS52_]; exact Y
  replace h := h S52_ gS52_
  replace k28_ : q_K S52_ b24_ = 21 := by rw [gS52_]; exact k28_
  replace k29_ : q_K S52_ a0 = 13 := by rw [gS52_]; exact k29_
  replace k34_ : q_K S52_ b30_ = 21 := by rw [gS52_]; exact k34_
  replace k40_ : q_K S52_ b36_ = 22 := by rw [gS52_]; exact k40_
  replace k46_ : q_K S52_ b42_ = 21 := by rw [gS52_]; exact k46_
  replace k51_ : q_K S52_ b47_ = 22 := by rw [gS52_]; exact k51_
  refine q_putP X Y (some b47_) rfl kX12 98 rfl fl_X12_242 k29_ _ rfl (Or.inr ⟨_, rfl⟩) (Or.inr ⟨rfl, hnm, rfl⟩) dX12_init_656 (fun H locs Y => ?_)
  refine lv_aload_n hx hb dX12_init_659 rfl (lv_at hl 0 rfl) ?_
  refine lv_bipush (v := 24) hx hb dX12_init_660 (by decide) ?_
  obtain ⟨w56_, h⟩ := h
  refine q_newa X Y (k := 21) (t := 1) (n := 24) (ty := .int) rfl (by decide) rfl (fun _ _ => rfl) (by first | exact rfl | decide | simp [defaultValue]) ar_int (by decide) (by decide) (by decide) w56_ dX12_init_662 (fun b53_ H h54_ h55_ Y => ?_)
  replace h := h b53_ h54_
  replace hu := w56_
  replace k28_ := qs_R_keep (j := 21) (n := 24) h54_ k28_ (by decide)
  replace k29_ := qs_R_keep (j := 21) (n := 24) h54_ k29_ (by decide)
  replace k34_ := qs_R_keep (j := 21) (n := 24) h54_ k34_ (by decide)
  replace k40_ := qs_R_keep (j := 21) (n := 24) h54_ k40_ (by decide)
  replace k46_ := qs_R_keep (j := 21) (n := 24) h54_ k46_ (by decide)
  replace k51_ := qs_R_keep (j := 21) (n := 24) h54_ k51_ (by decide)
  have k57_ : q_K (qs_R (qs_P S52_ 2498 a0 (some b47_)) 21 24 b53_) b53_ = 21 := qs_R_Ks
  refine q_putP X Y (some b53_) rfl kX12 99 rfl fl_X12_245 k29_ _ rfl (Or.inr ⟨_, rfl⟩) (Or.inr ⟨rfl, hnm, rfl⟩) dX12_init_664 (fun H locs Y => ?_)
  obtain ⟨S58_, gS58_⟩ : ∃ z : q_S, z = (qs_P (qs_R (qs_P S52_ 2498 a0 (some b47_)) 21 24 b53_) 2499 a0 (some b53_)) := ⟨_, rfl⟩
  replace Y : q_Y D cy lo s S58_ H locs := by rw [gS58_]; exact Y
  replace h := h S58_ gS58_
  replace k28_ : q_K S58_ b24_ = 21 := by rw [gS58_]; exact k28_
  replace k29_ : q_K S58_ a0 = 13 := by rw [gS58_]; exact k29_
  replace k34_ : q_K S58_ b30_ = 21 := by rw [gS58_]; exact k34_
  replace k40_ : q_K S58_ b36_ = 22 := by rw [gS58_]; exact k40_
  replace k46_ : q_K S58_ b42_ = 21 := by rw [gS58_]; exact k46_
  replace k51_ : q_K S58_ b47_ = 22 := by rw [gS58_]; exact k51_
  replace k57_ : q_K S58_ b53_ = 21 := by rw [gS58_]; exact k57_
  refine lv_aload_n hx hb dX12_init_667 rfl (lv_at hl 0 rfl) ?_
  refine lv_bipush (v := 24) hx hb dX12_init_668 (by decide) ?_
  obtain ⟨w62_, h⟩ := h
  refine q_newa X Y (k := 21) (t := 1) (n := 24) (ty := .int) rfl (by decide) rfl (fun _ _ => rfl) (by first | exact rfl | decide | simp [defaultValue]) ar_int (by decide) (by decide) (by decide) w62_ dX12_init_670 (fun b59_ H h60_ h61_ Y => ?_)
  replace h := h b59_ h60_
  replace hu := w62_
  replace k28_ := qs_R_keep (j := 21) (n := 24) h60_ k28_ (by decide)
  replace k29_ := qs_R_keep (j := 21) (n := 24) h60_ k29_ (by decide)
  replace k34_ := qs_R_keep (j := 21) (n := 24) h60_ k34_ (by decide)
  replace k40_ := qs_R_keep (j := 21) (n := 24) h60_ k40_ (by decide)
  replace k46_ := qs_R_keep (j := 21) (n := 24) h60_ k46_ (by decide)
  replace k51_ := qs_R_keep (j := 21) (n := 24) h60_ k51_ (by decide)
  replace k57_ := qs_R_keep (j := 21) (n := 24) h60_ k57_ (by decide)
  have k63_ : q_K (qs_R S58_ 21 24 b59_) b59_ = 21 := qs_R_Ks
  refine q_putP X Y (some b59_) rfl kX12 100 rfl fl_X12_248 k29_ _ rfl (Or.inr ⟨_, rfl⟩) (Or.inr ⟨rfl, hnm, rfl⟩) dX12_init_672 (fun H locs Y => ?_)
  refine lv_aload_n hx hb dX12_init_675 rfl (lv_at hl 0 rfl) ?_
  refine lv_bipush (v := 24) hx hb dX12_init_676 (by decide) ?_
  obtain ⟨w67_, h⟩ := h
  refine q_newa X Y (k := 21) (t := 1) (n := 24) (ty := .int) rfl (by decide) rfl (fun _ _ => rfl) (by first | exact rfl | decide | simp [defaultValue]) ar_int (by decide) (by decide) (by decide) w67_ dX12_init_678 (fun b64_ H h65_ h66_ Y => ?_)
  replace h := h b64_ h65_
  replace hu := w67_
  replace k28_ := qs_R_keep (j := 21) (n := 24) h65_ k28_ (by decide)
  replace k29_ := qs_R_keep (j := 21) (n := 24) h65_ k29_ (by decide)
  replace k34_ := qs_R_keep (j := 21) (n := 24) h65_ k34_ (by decide)
  replace k40_ := qs_R_keep (j := 21) (n := 24) h65_ k40_ (by decide)
  replace k46_ := qs_R_keep (j := 21) (n := 24) h65_ k46_ (by decide)
  replace k51_ := qs_R_keep (j := 21) (n := 24) h65_ k51_ (by decide)
  replace k57_ := qs_R_keep (j := 21) (n := 24) h65_ k57_ (by decide)
  replace k63_ := qs_R_keep (j := 21) (n := 24) h65_ k63_ (by decide)
  have k68_ : q_K (qs_R (qs_P (qs_R S58_ 21 24 b59_) 2500 a0 (some b59_)) 21 24 b64_) b64_ = 21 := qs_R_Ks
  obtain ⟨S69_, gS69_⟩ : ∃ z : q_S, z = (qs_R (qs_P (qs_R S58_ 21 24 b59_) 2500 a0 (some b59_)) 21 24 b64_) := ⟨_, rfl⟩
  replace Y : q_Y D cy lo s S69_ H locs := by rw [gS69_]; exact Y
  replace h := h S69_ gS69_
  replace k28_ : q_K S69_ b24_ = 21 := by rw [gS69_]; exact k28_
  replace k29_ : q_K S69_ a0 = 13 := by rw [gS69_]; exact k29_
  replace k34_ : q_K S69_ b30_ = 21 := by rw [gS69_]; exact k34_
  replace k40_ : q_K S69_ b36_ = 22 := by rw [gS69_]; exact k40_
  replace k46_ : q_K S69_ b42_ = 21 := by rw [gS69_]; exact k46_
  replace k51_ : q_K S69_ b47_ = 22 := by rw [gS69_]; exact k51_
  replace k57_ : q_K S69_ b53_ = 21 := by rw [gS69_]; exact k57_
  replace k63_ : q_K S69_ b59_ = 21 := by rw [gS69_]; exact k63_
  replace k68_ : q_K S69_ b64_ = 21 := by rw [gS69_]; exact k68_
  refine q_putP X Y (some b64_) rfl kX12 101 rfl fl_X12_251 k29_ _ rfl (Or.inr ⟨_, rfl⟩) (Or.inr ⟨rfl, hnm, rfl⟩) dX12_init_680 (fun H locs Y => ?_)
  refine lv_aload_n hx hb dX12_init_683 rfl (lv_at hl 0 rfl) ?_
  refine lv_sipush (v := 768) hx hb dX12_init_684 (by decide) ?_
  obtain ⟨w73_, h⟩ := h
  refine q_newa X Y (k := 21) (t := 1) (n := 768) (ty := .int) rfl (by decide) rfl (fun _ _ => rfl) (by first | exact rfl | decide | simp [defaultValue]) ar_int (by decide) (by decide) (by decide) w73_ dX12_init_687 (fun b70_ H h71_ h72_ Y => ?_)
  replace h := h b70_ h71_
  replace hu := w73_
  replace k28_ := qs_R_keep (j := 21) (n := 768) h71_ k28_ (by decide)
  replace k29_ := qs_R_keep (j := 21) (n := 768) h71_ k29_ (by decide)
  replace k34_ := qs_R_keep (j := 21) (n := 768) h71_ k34_ (by decide)
  replace k40_ := qs_R_keep (j := 21) (n := 768) h71_ k40_ (by decide)
  replace k46_ := qs_R_keep (j := 21) (n := 768) h71_ k46_ (by decide)
  replace k51_ := qs_R_keep (j := 21) (n := 768) h71_ k51_ (by decide)
  replace k57_ := qs_R_keep (j := 21) (n := 768) h71_ k57_ (by decide)
  replace k63_ := qs_R_keep (j := 21) (n := 768) h71_ k63_ (by decide)
  replace k68_ := qs_R_keep (j := 21) (n := 768) h71_ k68_ (by decide)
  have k74_ : q_K (qs_R (qs_P S69_ 2501 a0 (some b64_)) 21 768 b70_) b70_ = 21 := qs_R_Ks
  refine q_putP X Y (some b70_) rfl kX12 102 rfl fl_X12_254 k29_ _ rfl (Or.inr ⟨_, rfl⟩) (Or.inr ⟨rfl, hnm, rfl⟩) dX12_init_689 (fun H locs Y => ?_)
  obtain ⟨S75_, gS75_⟩ : ∃ z : q_S, z = (qs_P (qs_R (qs_P S69_ 2501 a0 (some b64_)) 21 768 b70_) 2502 a0 (some b70_)) := ⟨_, rfl⟩
  replace Y : q_Y D cy lo s S75_ H locs := by rw [gS75_]; exact Y
  replace h := h S75_ gS75_
  replace k28_ : q_K S75_ b24_ = 21 := by rw [gS75_]; exact k28_
  replace k29_ : q_K S75_ a0 = 13 := by rw [gS75_]; exact k29_
  replace k34_ : q_K S75_ b30_ = 21 := by rw [gS75_]; exact k34_
  replace k40_ : q_K S75_ b36_ = 22 := by rw [gS75_]; exact k40_
  replace k46_ : q_K S75_ b42_ = 21 := by rw [gS75_]; exact k46_
  replace k51_ : q_K S75_ b47_ = 22 := by rw [gS75_]; exact k51_
  replace k57_ : q_K S75_ b53_ = 21 := by rw [gS75_]; exact k57_
  replace k63_ : q_K S75_ b59_ = 21 := by rw [gS75_]; exact k63_
  replace k68_ : q_K S75_ b64_ = 21 := by rw [gS75_]; exact k68_
  replace k74_ : q_K S75_ b70_ = 21 := by rw [gS75_]; exact k74_
  refine lv_aload_n hx hb dX12_init_692 rfl (lv_at hl 0 rfl) ?_
  refine lv_bipush (v := 24) hx hb dX12_init_693 (by decide) ?_
  obtain ⟨w79_, h⟩ := h
  refine q_newa X Y (k := 21) (t := 1) (n := 24) (ty := .int) rfl (by decide) rfl (fun _ _ => rfl) (by first | exact rfl | decide | simp [defaultValue]) ar_int (by decide) (by decide) (by decide) w79_ dX12_init_695 (fun b76_ H h77_ h78_ Y => ?_)
  replace h := h b76_ h77_
  replace hu := w79_
  replace k28_ := qs_R_keep (j := 21) (n := 24) h77_ k28_ (by decide)
  replace k29_ := qs_R_keep (j := 21) (n := 24) h77_ k29_ (by decide)
  replace k34_ := qs_R_keep (j := 21) (n := 24) h77_ k34_ (by decide)
  replace k40_ := qs_R_keep (j := 21) (n := 24) h77_ k40_ (by decide)
  replace k46_ := qs_R_keep (j := 21) (n := 24) h77_ k46_ (by decide)
  replace k51_ := qs_R_keep (j := 21) (n := 24) h77_ k51_ (by decide)
  replace k57_ := qs_R_keep (j := 21) (n := 24) h77_ k57_ (by decide)
  replace k63_ := qs_R_keep (j := 21) (n := 24) h77_ k63_ (by decide)
  replace k68_ := qs_R_keep (j := 21) (n := 24) h77_ k68_ (by decide)
  replace k74_ := qs_R_keep (j := 21) (n := 24) h77_ k74_ (by decide)
  have k80_ : q_K (qs_R S75_ 21 24 b76_) b76_ = 21 := qs_R_Ks
  refine q_putP X Y (some b76_) rfl kX12 103 rfl fl_X12_257 k29_ _ rfl (Or.inr ⟨_, rfl⟩) (Or.inr ⟨rfl, hnm, rfl⟩) dX12_init_697 (fun H locs Y => ?_)
  refine lv_aload_n hx hb dX12_init_700 rfl (lv_at hl 0 rfl) ?_
  refine lv_bipush (v := 24) hx hb dX12_init_701 (by decide) ?_
  obtain ⟨w84_, h⟩ := h
  refine q_newa X Y (k := 21) (t := 1) (n := 24) (ty := .int) rfl (by decide) rfl (fun _ _ => rfl) (by first | exact rfl | decide | simp [defaultValue]) ar_int (by decide) (by decide) (by decide) w84_ dX12_init_703 (fun b81_ H h82_ h83_ Y => ?_)
  replace h := h b81_ h82_
  replace hu := w84_
  replace k28_ := qs_R_keep (j := 21) (n := 24) h82_ k28_ (by decide)
  replace k29_ := qs_R_keep (j := 21) (n := 24) h82_ k29_ (by decide)
  replace k34_ := qs_R_keep (j := 21) (n := 24) h82_ k34_ (by decide)
  replace k40_ := qs_R_keep (j := 21) (n := 24) h82_ k40_ (by decide)
  replace k46_ := qs_R_keep (j := 21) (n := 24) h82_ k46_ (by decide)
  replace k51_ := qs_R_keep (j := 21) (n := 24) h82_ k51_ (by decide)
  replace k57_ := qs_R_keep (j := 21) (n := 24) h82_ k57_ (by decide)
  replace k63_ := qs_R_keep (j := 21) (n := 24) h82_ k63_ (by decide)
  replace k68_ := qs_R_keep (j := 21) (n := 24) h82_ k68_ (by decide)
  replace k74_ := qs_R_keep (j := 21) (n := 24) h82_ k74_ (by decide)
  replace k80_ := qs_R_keep (j := 21) (n := 24) h82_ k80_ (by decide)
  have k85_ : q_K (qs_R (qs_P (qs_R S75_ 21 24 b76_) 2503 a0 (some b76_)) 21 24 b81_) b81_ = 21 := qs_R_Ks
  obtain ⟨S86_, gS86_⟩ : ∃ z : q_S, z = (qs_R (qs_P (qs_R S75_ 21 24 b76_) 2503 a0 (some b76_)) 21 24 b81_) := ⟨_, rfl⟩
  replace Y : q_Y D cy lo s S86_ H locs := by rw [gS86_]; exact Y
  replace h := h S86_ gS86_
  replace k28_ : q_K S86_ b24_ = 21 := by rw [gS86_]; exact k28_
  replace k29_ : q_K S86_ a0 = 13 := by rw [gS86_]; exact k29_
  replace k34_ : q_K S86_ b30_ = 21 := by rw [gS86_]; exact k34_
  replace k40_ : q_K S86_ b36_ = 22 := by rw [gS86_]; exact k40_
  replace k46_ : q_K S86_ b42_ = 21 := by rw [gS86_]; exact k46_
  replace k51_ : q_K S86_ b47_ = 22 := by rw [gS86_]; exact k51_
  replace k57_ : q_K S86_ b53_ = 21 := by rw [gS86_]; exact k57_
  replace k63_ : q_K S86_ b59_ = 21 := by rw [gS86_]; exact k63_
  replace k68_ : q_K S86_ b64_ = 21 := by rw [gS86_]; exact k68_
  replace k74_ : q_K S86_ b70_ = 21 := by rw [gS86_]; exact k74_
  replace k80_ : q_K S86_ b76_ = 21 := by rw [gS86_]; exact k80_
  replace k85_ : q_K S86_ b81_ = 21 := by rw [gS86_]; exact k85_
  refine q_putP X Y (some b81_) rfl kX12 104 rfl fl_X12_260 k29_ _ rfl (Or.inr ⟨_, rfl⟩) (Or.inr ⟨rfl, hnm, rfl⟩) dX12_init_705 (fun H locs Y => ?_)
  refine lv_aload_n hx hb dX12_init_708 rfl (lv_at hl 0 rfl) ?_
  refine lv_bipush (v := 24) hx hb dX12_init_709 (by decide) ?_
  obtain ⟨w90_, h⟩ := h
  refine q_newa X Y (k := 21) (t := 1) (n := 24) (ty := .int) rfl (by decide) rfl (fun _ _ => rfl) (by first | exact rfl | decide | simp [defaultValue]) ar_int (by decide) (by decide) (by decide) w90_ dX12_init_711 (fun b87_ H h88_ h89_ Y => ?_)
  replace h := h b87_ h88_
  replace hu := w90_
  replace k28_ := qs_R_keep (j := 21) (n := 24) h88_ k28_ (by decide)
  replace k29_ := qs_R_keep (j := 21) (n := 24) h88_ k29_ (by decide)
  replace k34_ := qs_R_keep (j := 21) (n := 24) h88_ k34_ (by decide)
  replace k40_ := qs_R_keep (j := 21) (n := 24) h88_ k40_ (by decide)
  replace k46_ := qs_R_keep (j := 21) (n := 24) h88_ k46_ (by decide)
  replace k51_ := qs_R_keep (j := 21) (n := 24) h88_ k51_ (by decide)
  replace k57_ := qs_R_keep (j := 21) (n := 24) h88_ k57_ (by decide)
  replace k63_ := qs_R_keep (j := 21) (n := 24) h88_ k63_ (by decide)
  replace k68_ := qs_R_keep (j := 21) (n := 24) h88_ k68_ (by decide)
  replace k74_ := qs_R_keep (j := 21) (n := 24) h88_ k74_ (by decide)
  replace k80_ := qs_R_keep (j := 21) (n := 24) h88_ k80_ (by decide)
  replace k85_ := qs_R_keep (j := 21) (n := 24) h88_ k85_ (by decide)
  have k91_ : q_K (qs_R (qs_P S86_ 2504 a0 (some b81_)) 21 24 b87_) b87_ = 21 := qs_R_Ks
  refine q_putP X Y (some b87_) rfl kX12 105 rfl fl_X12_263 k29_ _ rfl (Or.inr ⟨_, rfl⟩) (Or.inr ⟨rfl, hnm, rfl⟩) dX12_init_713 (fun H locs Y => ?_)
  obtain ⟨S92_, gS92_⟩ : ∃ z : q_S, z = (qs_P (qs_R (qs_P S86_ 2504 a0 (some b81_)) 21 24 b87_) 2505 a0 (some b87_)) := ⟨_, rfl⟩
  replace Y : q_Y D cy lo s S92_ H locs := by rw [gS92_]; exact Y
  replace h := h S92_ gS92_
  replace k28_ : q_K S92_ b24_ = 21 := by rw [gS92_]; exact k28_
  replace k29_ : q_K S92_ a0 = 13 := by rw [gS92_]; exact k29_
  replace k34_ : q_K S92_ b30_ = 21 := by rw [gS92_]; exact k34_
  replace k40_ : q_K S92_ b36_ = 22 := by rw [gS92_]; exact k40_
  replace k46_ : q_K S92_ b42_ = 21 := by rw [gS92_]; exact k46_
  replace k51_ : q_K S92_ b47_ = 22 := by rw [gS92_]; exact k51_
  replace k57_ : q_K S92_ b53_ = 21 := by rw [gS92_]; exact k57_
  replace k63_ : q_K S92_ b59_ = 21 := by rw [gS92_]; exact k63_
  replace k68_ : q_K S92_ b64_ = 21 := by rw [gS92_]; exact k68_
  replace k74_ : q_K S92_ b70_ = 21 := by rw [gS92_]; exact k74_
  replace k80_ : q_K S92_ b76_ = 21 := by rw [gS92_]; exact k80_
  replace k85_ : q_K S92_ b81_ = 21 := by rw [gS92_]; exact k85_
  replace k91_ : q_K S92_ b87_ = 21 := by rw [gS92_]; exact k91_
  exact cb_X12_init_716 X hnm hu Y (lv_sub hl [0] rfl) h
def wb_X12_init_516 (bc bs : Nat)  (u v : Nat) (S : q_S) (a0 : Nat) (Q : Option Value → q_S → Prop) : Prop := (u + 1 ≤ bc ∧ v + 256 ≤ bs) ∧ (∀ b93_ : Nat, q_K S b93_ = 0 → (q_K (qs_R S 21 256 b93_) a0 = 13 ∧ (((u + 1) + 1 ≤ bc ∧ (v + 256) + 16 ≤ bs) ∧ (∀ b99_ : Nat, q_K (qs_P (qs_R S 21 256 b93_) 2482 a0 (some b93_)) b99_ = 0 → (∀ S104_ : q_S, S104_ = (qs_R (qs_P (qs_R S 21 256 b93_) 2482 a0 (some b93_)) 21 16 b99_) → ((((u + 1) + 1) + 1 ≤ bc ∧ ((v + 256) + 16) + 16 ≤ bs) ∧ (∀ b105_ : Nat, q_K (qs_P S104_ 2483 a0 (some b99_)) b105_ = 0 → (∀ S110_ : q_S, S110_ = (qs_P (qs_R (qs_P S104_ 2483 a0 (some b99_)) 21 16 b105_) 2484 a0 (some b105_)) → (((((u + 1) + 1) + 1) + 1 ≤ bc ∧ (((v + 256) + 16) + 16) + 16 ≤ bs) ∧ (∀ b111_ : Nat, q_K S110_ b111_ = 0 → ((((((u + 1) + 1) + 1) + 1) + 1 ≤ bc ∧ ((((v + 256) + 16) + 16) + 16) + 16 ≤ bs) ∧ (∀ b116_ : Nat, q_K (qs_P (qs_R S110_ 21 16 b111_) 2485 a0 (some b111_)) b116_ = 0 → (∀ S121_ : q_S, S121_ = (qs_R (qs_P (qs_R S110_ 21 16 b111_) 2485 a0 (some b111_)) 21 16 b116_) → (((((((u + 1) + 1) + 1) + 1) + 1) + 1 ≤ bc ∧ (((((v + 256) + 16) + 16) + 16) + 16) + 16 ≤ bs) ∧ (∀ b122_ : Nat, q_K (qs_P S121_ 2486 a0 (some b116_)) b122_ = 0 → (∀ S127_ : q_S, S127_ = (qs_P (qs_R (qs_P S121_ 2486 a0 (some b116_)) 21 16 b122_) 2487 a0 (some b122_)) → ((((((((u + 1) + 1) + 1) + 1) + 1) + 1) + 1 ≤ bc ∧ ((((((v + 256) + 16) + 16) + 16) + 16) + 16) + 16 ≤ bs) ∧ (∀ b128_ : Nat, q_K S127_ b128_ = 0 → (((((((((u + 1) + 1) + 1) + 1) + 1) + 1) + 1) + 1 ≤ bc ∧ (((((((v + 256) + 16) + 16) + 16) + 16) + 16) + 16) + 16 ≤ bs) ∧ (∀ b133_ : Nat, q_K (qs_P (qs_R S127_ 21 16 b128_) 2488 a0 (some b128_)) b133_ = 0 → (∀ S138_ : q_S, S138_ = (qs_R (qs_P (qs_R S127_ 21 16 b128_) 2488 a0 (some b128_)) 21 16 b133_) → ((((((((((u + 1) + 1) + 1) + 1) + 1) + 1) + 1) + 1) + 1 ≤ bc ∧ ((((((((v + 256) + 16) + 16) + 16) + 16) + 16) + 16) + 16) + 16 ≤ bs) ∧ (∀ b139_ : Nat, q_K (qs_P S138_ 2489 a0 (some b133_)) b139_ = 0 → (∀ S144_ : q_S, S144_ = (qs_P (qs_R (qs_P S138_ 2489 a0 (some b133_)) 21 16 b139_) 2490 a0 (some b139_)) → (((((((((((u + 1) + 1) + 1) + 1) + 1) + 1) + 1) + 1) + 1) + 1 ≤ bc ∧ (((((((((v + 256) + 16) + 16) + 16) + 16) + 16) + 16) + 16) + 16) + 16 ≤ bs) ∧ (∀ b145_ : Nat, q_K S144_ b145_ = 0 → ((((((((((((u + 1) + 1) + 1) + 1) + 1) + 1) + 1) + 1) + 1) + 1) + 1 ≤ bc ∧ ((((((((((v + 256) + 16) + 16) + 16) + 16) + 16) + 16) + 16) + 16) + 16) + 128 ≤ bs) ∧ (∀ b150_ : Nat, q_K (qs_P (qs_R S144_ 21 16 b145_) 2491 a0 (some b145_)) b150_ = 0 → (∀ S155_ : q_S, S155_ = (qs_R (qs_P (qs_R S144_ 21 16 b145_) 2491 a0 (some b145_)) 21 128 b150_) → (((((((((((((u + 1) + 1) + 1) + 1) + 1) + 1) + 1) + 1) + 1) + 1) + 1) + 1 ≤ bc ∧ (((((((((((v + 256) + 16) + 16) + 16) + 16) + 16) + 16) + 16) + 16) + 16) + 128) + 128 ≤ bs) ∧ (∀ b156_ : Nat, q_K (qs_P S155_ 2492 a0 (some b150_)) b156_ = 0 → (∀ S161_ : q_S, S161_ = (qs_P (qs_R (qs_P S155_ 2492 a0 (some b150_)) 22 128 b156_) 2493 a0 (some b156_)) → (wb_X12_init_615 bc bs ((((((((((((u + 1) + 1) + 1) + 1) + 1) + 1) + 1) + 1) + 1) + 1) + 1) + 1) ((((((((((((v + 256) + 16) + 16) + 16) + 16) + 16) + 16) + 16) + 16) + 16) + 128) + 128) S161_ a0 Q)))))))))))))))))))))))))))))))))
set_option maxHeartbeats 4000000 in
set_option maxRecDepth 100000 in
theorem cb_X12_init_516 {p : Program} {l : Launch} {e : Env} {s : State} {m : MethodId} {args : Array Value} {below : List Frame} {meth : Method} {c : Code} {D : va_G} {cy : Nat → ClassId} {lo : Nat} {bc bs : Nat}  {u v : Nat} {S : q_S} {a0 : Nat} {Q : Option Value → q_S → Prop} {H : Heap} {locs : List Loc} {ls : Array Slot} (X : q_X p s m args meth c RX12 cX12_init 1 none D cy lo) (hnm : meth.name = "<init>")  (hu : u ≤ bc ∧ v ≤ bs) (Y : q_Y D cy lo s S H locs) (hl : lv_has ls 1 [(0, .ref a0)]) (h : wb_X12_init_516 bc bs u v S a0 Q) : W p l e ({ frames := 1, cells := bc, slots := bs, locals := 20 } : Room) s m args below meth c H locs u v (MQ below (q_Q D cy lo Q) args s bc bs (fun q => lo ≤ q)) (F0 m 516 ls []) := by
  have hx := X.1
  have hb := X.2.1
  unfold wb_X12_init_516 at h
  refine lv_aload_n hx hb dX12_init_516 rfl (lv_at hl 0 rfl) ?_
  refine lv_sipush (v := 256) hx hb dX12_init_517 (by decide) ?_
  obtain ⟨w96_, h⟩ := h
  refine q_newa X Y (k := 21) (t := 1) (n := 256) (ty := .int) rfl (by decide) rfl (fun _ _ => rfl) (by first | exact rfl | decide | simp [defaultValue]) ar_int (by decide) (by decide) (by decide) w96_ dX12_init_520 (fun b93_ H h94_ h95_ Y => ?_)
  replace h := h b93_ h94_
  replace hu := w96_
  have k97_ : q_K (qs_R S 21 256 b93_) b93_ = 21 := qs_R_Ks
  obtain ⟨k98_, h⟩ := h
  refine q_putP X Y (some b93_) rfl kX12 82 rfl fl_X12_194 k98_ _ rfl (Or.inr ⟨_, rfl⟩) (Or.inr ⟨rfl, hnm, rfl⟩) dX12_init_522 (fun H locs Y => ?_)
  refine lv_aload_n hx hb dX12_init_525 rfl (lv_at hl 0 rfl) ?_
  refine lv_bipush (v := 16) hx hb dX12_init_526 (by decide) ?_
  obtain ⟨w102_, h⟩ := h
  refine q_newa X Y (k := 21) (t := 1) (n := 16) (ty := .int) rfl (by decide) rfl (fun _ _ => rfl) (by first | exact rfl | decide | simp [defaultValue]) ar_int (by decide) (by decide) (by decide) w102_ dX12_init_528 (fun b99_ H h100_ h101_ Y => ?_)
  replace h := h b99_ h100_
  replace hu := w102_
  replace k97_ := qs_R_keep (j := 21) (n := 16) h100_ k97_ (by decide)
  replace k98_ := qs_R_keep (j := 21) (n := 16) h100_ k98_ (by decide)
  have k103_ : q_K (qs_R (qs_P (qs_R S 21 256 b93_) 2482 a0 (some b93_)) 21 16 b99_) b99_ = 21 := qs_R_Ks
  obtain ⟨S104_, gS104_⟩ : ∃ z : q_S, z = (qs_R (qs_P (qs_R S 21 256 b93_) 2482 a0 (some b93_)) 21 16 b99_) := ⟨_, rfl⟩
  replace Y : q_Y D cy lo s S104_ H locs := by rw [gS104_]; exact Y
  replace h := h S104_ gS104_
  replace k97_ : q_K S104_ b93_ = 21 := by rw [gS104_]; exact k97_
  replace k98_ : q_K S104_ a0 = 13 := by rw [gS104_]; exact k98_
  replace k103_ : q_K S104_ b99_ = 21 := by rw [gS104_]; exact k103_
  refine q_putP X Y (some b99_) rfl kX12 83 rfl fl_X12_197 k98_ _ rfl (Or.inr ⟨_, rfl⟩) (Or.inr ⟨rfl, hnm, rfl⟩) dX12_init_530 (fun H locs Y => ?_)
  refine lv_aload_n hx hb dX12_init_533 rfl (lv_at hl 0 rfl) ?_
  refine lv_bipush (v := 16) hx hb dX12_init_534 (by decide) ?_
  obtain ⟨w108_, h⟩ := h
  refine q_newa X Y (k := 21) (t := 1) (n := 16) (ty := .int) rfl (by decide) rfl (fun _ _ => rfl) (by first | exact rfl | decide | simp [defaultValue]) ar_int (by decide) (by decide) (by decide) w108_ dX12_init_536 (fun b105_ H h106_ h107_ Y => ?_)
  replace h := h b105_ h106_
  replace hu := w108_
  replace k97_ := qs_R_keep (j := 21) (n := 16) h106_ k97_ (by decide)
  replace k98_ := qs_R_keep (j := 21) (n := 16) h106_ k98_ (by decide)
  replace k103_ := qs_R_keep (j := 21) (n := 16) h106_ k103_ (by decide)
  have k109_ : q_K (qs_R (qs_P S104_ 2483 a0 (some b99_)) 21 16 b105_) b105_ = 21 := qs_R_Ks
  refine q_putP X Y (some b105_) rfl kX12 84 rfl fl_X12_200 k98_ _ rfl (Or.inr ⟨_, rfl⟩) (Or.inr ⟨rfl, hnm, rfl⟩) dX12_init_538 (fun H locs Y => ?_)
  obtain ⟨S110_, gS110_⟩ : ∃ z : q_S, z = (qs_P (qs_R (qs_P S104_ 2483 a0 (some b99_)) 21 16 b105_) 2484 a0 (some b105_)) := ⟨_, rfl⟩
  replace Y : q_Y D cy lo s S110_ H locs := by rw [gS110_]; exact Y
  replace h := h S110_ gS110_
  replace k97_ : q_K S110_ b93_ = 21 := by rw [gS110_]; exact k97_
  replace k98_ : q_K S110_ a0 = 13 := by rw [gS110_]; exact k98_
  replace k103_ : q_K S110_ b99_ = 21 := by rw [gS110_]; exact k103_
  replace k109_ : q_K S110_ b105_ = 21 := by rw [gS110_]; exact k109_
  refine lv_aload_n hx hb dX12_init_541 rfl (lv_at hl 0 rfl) ?_
  refine lv_bipush (v := 16) hx hb dX12_init_542 (by decide) ?_
  obtain ⟨w114_, h⟩ := h
  refine q_newa X Y (k := 21) (t := 1) (n := 16) (ty := .int) rfl (by decide) rfl (fun _ _ => rfl) (by first | exact rfl | decide | simp [defaultValue]) ar_int (by decide) (by decide) (by decide) w114_ dX12_init_544 (fun b111_ H h112_ h113_ Y => ?_)
  replace h := h b111_ h112_
  replace hu := w114_
  replace k97_ := qs_R_keep (j := 21) (n := 16) h112_ k97_ (by decide)
  replace k98_ := qs_R_keep (j := 21) (n := 16) h112_ k98_ (by decide)
  replace k103_ := qs_R_keep (j := 21) (n := 16) h112_ k103_ (by decide)
  replace k109_ := qs_R_keep (j := 21) (n := 16) h112_ k109_ (by decide)
  have k115_ : q_K (qs_R S110_ 21 16 b111_) b111_ = 21 := qs_R_Ks
  refine q_putP X Y (some b111_) rfl kX12 85 rfl fl_X12_203 k98_ _ rfl (Or.inr ⟨_, rfl⟩) (Or.inr ⟨rfl, hnm, rfl⟩) dX12_init_546 (fun H locs Y => ?_)
  refine lv_aload_n hx hb dX12_init_549 rfl (lv_at hl 0 rfl) ?_
  refine lv_bipush (v := 16) hx hb dX12_init_550 (by decide) ?_
  obtain ⟨w119_, h⟩ := h
  refine q_newa X Y (k := 21) (t := 1) (n := 16) (ty := .int) rfl (by decide) rfl (fun _ _ => rfl) (by first | exact rfl | decide | simp [defaultValue]) ar_int (by decide) (by decide) (by decide) w119_ dX12_init_552 (fun b116_ H h117_ h118_ Y => ?_)
  replace h := h b116_ h117_
  replace hu := w119_
  replace k97_ := qs_R_keep (j := 21) (n := 16) h117_ k97_ (by decide)
  replace k98_ := qs_R_keep (j := 21) (n := 16) h117_ k98_ (by decide)
  replace k103_ := qs_R_keep (j := 21) (n := 16) h117_ k103_ (by decide)
  replace k109_ := qs_R_keep (j := 21) (n := 16) h117_ k109_ (by decide)
  replace k115_ := qs_R_keep (j := 21) (n := 16) h117_ k115_ (by decide)
  have k120_ : q_K (qs_R (qs_P (qs_R S110_ 21 16 b111_) 2485 a0 (some b111_)) 21 16 b116_) b116_ = 21 := qs_R_Ks
  obtain ⟨S121_, gS121_⟩ : ∃ z : q_S, z = (qs_R (qs_P (qs_R S110_ 21 16 b111_) 2485 a0 (some b111_)) 21 16 b116_) := ⟨_, rfl⟩
  replace Y : q_Y D cy lo s S121_ H locs := by rw [gS121_]; exact Y
  replace h := h S121_ gS121_
  replace k97_ : q_K S121_ b93_ = 21 := by rw [gS121_]; exact k97_
  replace k98_ : q_K S121_ a0 = 13 := by rw [gS121_]; exact k98_
  replace k103_ : q_K S121_ b99_ = 21 := by rw [gS121_]; exact k103_
  replace k109_ : q_K S121_ b105_ = 21 := by rw [gS121_]; exact k109_
  replace k115_ : q_K S121_ b111_ = 21 := by rw [gS121_]; exact k115_
  replace k120_ : q_K S121_ b116_ = 21 := by rw [gS121_]; exact k120_
  refine q_putP X Y (some b116_) rfl kX12 86 rfl fl_X12_206 k98_ _ rfl (Or.inr ⟨_, rfl⟩) (Or.inr ⟨rfl, hnm, rfl⟩) dX12_init_554 (fun H locs Y => ?_)
  refine lv_aload_n hx hb dX12_init_557 rfl (lv_at hl 0 rfl) ?_
  refine lv_bipush (v := 16) hx hb dX12_init_558 (by decide) ?_
  obtain ⟨w125_, h⟩ := h
  refine q_newa X Y (k := 21) (t := 1) (n := 16) (ty := .int) rfl (by decide) rfl (fun _ _ => rfl) (by first | exact rfl | decide | simp [defaultValue]) ar_int (by decide) (by decide) (by decide) w125_ dX12_init_560 (fun b122_ H h123_ h124_ Y => ?_)
  replace h := h b122_ h123_
  replace hu := w125_
  replace k97_ := qs_R_keep (j := 21) (n := 16) h123_ k97_ (by decide)
  replace k98_ := qs_R_keep (j := 21) (n := 16) h123_ k98_ (by decide)
  replace k103_ := qs_R_keep (j := 21) (n := 16) h123_ k103_ (by decide)
  replace k109_ := qs_R_keep (j := 21) (n := 16) h123_ k109_ (by decide)
  replace k115_ := qs_R_keep (j := 21) (n := 16) h123_ k115_ (by decide)
  replace k120_ := qs_R_keep (j := 21) (n := 16) h123_ k120_ (by decide)
  have k126_ : q_K (qs_R (qs_P S121_ 2486 a0 (some b116_)) 21 16 b122_) b122_ = 21 := qs_R_Ks
  refine q_putP X Y (some b122_) rfl kX12 87 rfl fl_X12_209 k98_ _ rfl (Or.inr ⟨_, rfl⟩) (Or.inr ⟨rfl, hnm, rfl⟩) dX12_init_562 (fun H locs Y => ?_)
  obtain ⟨S127_, gS127_⟩ : ∃ z : q_S, z = (qs_P (qs_R (qs_P S121_ 2486 a0 (some b116_)) 21 16 b122_) 2487 a0 (some b122_)) := ⟨_, rfl⟩
  replace Y : q_Y D cy lo s S127_ H locs := by rw [gS127_]; exact Y
  replace h := h S127_ gS127_
  replace k97_ : q_K S127_ b93_ = 21 := by rw [gS127_]; exact k97_
  replace k98_ : q_K S127_ a0 = 13 := by rw [gS127_]; exact k98_
  replace k103_ : q_K S127_ b99_ = 21 := by rw [gS127_]; exact k103_
  replace k109_ : q_K S127_ b105_ = 21 := by rw [gS127_]; exact k109_
  replace k115_ : q_K S127_ b111_ = 21 := by rw [gS127_]; exact k115_
  replace k120_ : q_K S127_ b116_ = 21 := by rw [gS127_]; exact k120_
  replace k126_ : q_K S127_ b122_ = 21 := by rw [gS127_]; exact k126_
  refine lv_aload_n hx hb dX12_init_565 rfl (lv_at hl 0 rfl) ?_
  refine lv_bipush (v := 16) hx hb dX12_init_566 (by decide) ?_
  obtain ⟨w131_, h⟩ := h
  refine q_newa X Y (k := 21) (t := 1) (n := 16) (ty := .int) rfl (by decide) rfl (fun _ _ => rfl) (by first | exact rfl | decide | simp [defaultValue]) ar_int (by decide) (by decide) (by decide) w131_ dX12_init_568 (fun b128_ H h129_ h130_ Y => ?_)
  replace h := h b128_ h129_
  replace hu := w131_
  replace k97_ := qs_R_keep (j := 21) (n := 16) h129_ k97_ (by decide)
  replace k98_ := qs_R_keep (j := 21) (n := 16) h129_ k98_ (by decide)
  replace k103_ := qs_R_keep (j := 21) (n := 16) h129_ k103_ (by decide)
  replace k109_ := qs_R_keep (j := 21) (n := 16) h129_ k109_ (by decide)
  replace k115_ := qs_R_keep (j := 21) (n := 16) h129_ k115_ (by decide)
  replace k120_ := qs_R_keep (j := 21) (n := 16) h129_ k120_ (by decide)
  replace k126_ := qs_R_keep (j := 21) (n := 16) h129_ k126_ (by decide)
  have k132_ : q_K (qs_R S127_ 21 16 b128_) b128_ = 21 := qs_R_Ks
  refine q_putP X Y (some b128_) rfl kX12 88 rfl fl_X12_212 k98_ _ rfl (Or.inr ⟨_, rfl⟩) (Or.inr ⟨rfl, hnm, rfl⟩) dX12_init_570 (fun H locs Y => ?_)
  refine lv_aload_n hx hb dX12_init_573 rfl (lv_at hl 0 rfl) ?_
  refine lv_bipush (v := 16) hx hb dX12_init_574 (by decide) ?_
  obtain ⟨w136_, h⟩ := h
  refine q_newa X Y (k := 21) (t := 1) (n := 16) (ty := .int) rfl (by decide) rfl (fun _ _ => rfl) (by first | exact rfl | decide | simp [defaultValue]) ar_int (by decide) (by decide) (by decide) w136_ dX12_init_576 (fun b133_ H h134_ h135_ Y => ?_)
  replace h := h b133_ h134_
  replace hu := w136_
  replace k97_ := qs_R_keep (j := 21) (n := 16) h134_ k97_ (by decide)
  replace k98_ := qs_R_keep (j := 21) (n := 16) h134_ k98_ (by decide)
  replace k103_ := qs_R_keep (j := 21) (n := 16) h134_ k103_ (by decide)
  replace k109_ := qs_R_keep (j := 21) (n := 16) h134_ k109_ (by decide)
  replace k115_ := qs_R_keep (j := 21) (n := 16) h134_ k115_ (by decide)
  replace k120_ := qs_R_keep (j := 21) (n := 16) h134_ k120_ (by decide)
  replace k126_ := qs_R_keep (j := 21) (n := 16) h134_ k126_ (by decide)
  replace k132_ := qs_R_keep (j := 21) (n := 16) h134_ k132_ (by decide)
  have k137_ : q_K (qs_R (qs_P (qs_R S127_ 21 16 b128_) 2488 a0 (some b128_)) 21 16 b133_) b133_ = 21 := qs_R_Ks
  obtain ⟨S138_, gS138_⟩ : ∃ z : q_S, z = (qs_R (qs_P (qs_R S127_ 21 16 b128_) 2488 a0 (some b128_)) 21 16 b133_) := ⟨_, rfl⟩
  replace Y : q_Y D cy lo s S138_ H locs := by rw [gS138_]; exact Y
  replace h := h S138_ gS138_
  replace k97_ : q_K S138_ b93_ = 21 := by rw [gS138_]; exact k97_
  replace k98_ : q_K S138_ a0 = 13 := by rw [gS138_]; exact k98_
  replace k103_ : q_K S138_ b99_ = 21 := by rw [gS138_]; exact k103_
  replace k109_ : q_K S138_ b105_ = 21 := by rw [gS138_]; exact k109_
  replace k115_ : q_K S138_ b111_ = 21 := by rw [gS138_]; exact k115_
  replace k120_ : q_K S138_ b116_ = 21 := by rw [gS138_]; exact k120_
  replace k126_ : q_K S138_ b122_ = 21 := by rw [gS138_]; exact k126_
  replace k132_ : q_K S138_ b128_ = 21 := by rw [gS138_]; exact k132_
  replace k137_ : q_K S138_ b133_ = 21 := by rw [gS138_]; exact k137_
  refine q_putP X Y (some b133_) rfl kX12 89 rfl fl_X12_215 k98_ _ rfl (Or.inr ⟨_, rfl⟩) (Or.inr ⟨rfl, hnm, rfl⟩) dX12_init_578 (fun H locs Y => ?_)
  refine lv_aload_n hx hb dX12_init_581 rfl (lv_at hl 0 rfl) ?_
  refine lv_bipush (v := 16) hx hb dX12_init_582 (by decide) ?_
  obtain ⟨w142_, h⟩ := h
  refine q_newa X Y (k := 21) (t := 1) (n := 16) (ty := .int) rfl (by decide) rfl (fun _ _ => rfl) (by first | exact rfl | decide | simp [defaultValue]) ar_int (by decide) (by decide) (by decide) w142_ dX12_init_584 (fun b139_ H h140_ h141_ Y => ?_)
  replace h := h b139_ h140_
  replace hu := w142_
  replace k97_ := qs_R_keep (j := 21) (n := 16) h140_ k97_ (by decide)
  replace k98_ := qs_R_keep (j := 21) (n := 16) h140_ k98_ (by decide)
  replace k103_ := qs_R_keep (j := 21) (n := 16) h140_ k103_ (by decide)
  replace k109_ := qs_R_keep (j := 21) (n := 16) h140_ k109_ (by decide)
  replace k115_ := qs_R_keep (j := 21) (n := 16) h140_ k115_ (by decide)
  replace k120_ := qs_R_keep (j := 21) (n := 16) h140_ k120_ (by decide)
  replace k126_ := qs_R_keep (j := 21) (n := 16) h140_ k126_ (by decide)
  replace k132_ := qs_R_keep (j := 21) (n := 16) h140_ k132_ (by decide)
  replace k137_ := qs_R_keep (j := 21) (n := 16) h140_ k137_ (by decide)
  have k143_ : q_K (qs_R (qs_P S138_ 2489 a0 (some b133_)) 21 16 b139_) b139_ = 21 := qs_R_Ks
  refine q_putP X Y (some b139_) rfl kX12 90 rfl fl_X12_218 k98_ _ rfl (Or.inr ⟨_, rfl⟩) (Or.inr ⟨rfl, hnm, rfl⟩) dX12_init_586 (fun H locs Y => ?_)
  obtain ⟨S144_, gS144_⟩ : ∃ z : q_S, z = (qs_P (qs_R (qs_P S138_ 2489 a0 (some b133_)) 21 16 b139_) 2490 a0 (some b139_)) := ⟨_, rfl⟩
  replace Y : q_Y D cy lo s S144_ H locs := by rw [gS144_]; exact Y
  replace h := h S144_ gS144_
  replace k97_ : q_K S144_ b93_ = 21 := by rw [gS144_]; exact k97_
  replace k98_ : q_K S144_ a0 = 13 := by rw [gS144_]; exact k98_
  replace k103_ : q_K S144_ b99_ = 21 := by rw [gS144_]; exact k103_
  replace k109_ : q_K S144_ b105_ = 21 := by rw [gS144_]; exact k109_
  replace k115_ : q_K S144_ b111_ = 21 := by rw [gS144_]; exact k115_
  replace k120_ : q_K S144_ b116_ = 21 := by rw [gS144_]; exact k120_
  replace k126_ : q_K S144_ b122_ = 21 := by rw [gS144_]; exact k126_
  replace k132_ : q_K S144_ b128_ = 21 := by rw [gS144_]; exact k132_
  replace k137_ : q_K S144_ b133_ = 21 := by rw [gS144_]; exact k137_
  replace k143_ : q_K S144_ b139_ = 21 := by rw [gS144_]; exact k143_
  refine lv_aload_n hx hb dX12_init_589 rfl (lv_at hl 0 rfl) ?_
  refine lv_bipush (v := 16) hx hb dX12_init_590 (by decide) ?_
  obtain ⟨w148_, h⟩ := h
  refine q_newa X Y (k := 21) (t := 1) (n := 16) (ty := .int) rfl (by decide) rfl (fun _ _ => rfl) (by first | exact rfl | decide | simp [defaultValue]) ar_int (by decide) (by decide) (by decide) w148_ dX12_init_592 (fun b145_ H h146_ h147_ Y => ?_)
  replace h := h b145_ h146_
  replace hu := w148_
  replace k97_ := qs_R_keep (j := 21) (n := 16) h146_ k97_ (by decide)
  replace k98_ := qs_R_keep (j := 21) (n := 16) h146_ k98_ (by decide)
  replace k103_ := qs_R_keep (j := 21) (n := 16) h146_ k103_ (by decide)
  replace k109_ := qs_R_keep (j := 21) (n := 16) h146_ k109_ (by decide)
  replace k115_ := qs_R_keep (j := 21) (n := 16) h146_ k115_ (by decide)
  replace k120_ := qs_R_keep (j := 21) (n := 16) h146_ k120_ (by decide)
  replace k126_ := qs_R_keep (j := 21) (n := 16) h146_ k126_ (by decide)
  replace k132_ := qs_R_keep (j := 21) (n := 16) h146_ k132_ (by decide)
  replace k137_ := qs_R_keep (j := 21) (n := 16) h146_ k137_ (by decide)
  replace k143_ := qs_R_keep (j := 21) (n := 16) h146_ k143_ (by decide)
  have k149_ : q_K (qs_R S144_ 21 16 b145_) b145_ = 21 := qs_R_Ks
  refine q_putP X Y (some b145_) rfl kX12 91 rfl fl_X12_221 k98_ _ rfl (Or.inr ⟨_, rfl⟩) (Or.inr ⟨rfl, hnm, rfl⟩) dX12_init_594 (fun H locs Y => ?_)
  refine lv_aload_n hx hb dX12_init_597 rfl (lv_at hl 0 rfl) ?_
  refine lv_sipush (v := 128) hx hb dX12_init_598 (by decide) ?_
  obtain ⟨w153_, h⟩ := h
  refine q_newa X Y (k := 21) (t := 1) (n := 128) (ty := .int) rfl (by decide) rfl (fun _ _ => rfl) (by first | exact rfl | decide | simp [defaultValue]) ar_int (by decide) (by decide) (by decide) w153_ dX12_init_601 (fun b150_ H h151_ h152_ Y => ?_)
  replace h := h b150_ h151_
  replace hu := w153_
  replace k97_ := qs_R_keep (j := 21) (n := 128) h151_ k97_ (by decide)
  replace k98_ := qs_R_keep (j := 21) (n := 128) h151_ k98_ (by decide)
  replace k103_ := qs_R_keep (j := 21) (n := 128) h151_ k103_ (by decide)
  replace k109_ := qs_R_keep (j := 21) (n := 128) h151_ k109_ (by decide)
  replace k115_ := qs_R_keep (j := 21) (n := 128) h151_ k115_ (by decide)
  replace k120_ := qs_R_keep (j := 21) (n := 128) h151_ k120_ (by decide)
  replace k126_ := qs_R_keep (j := 21) (n := 128) h151_ k126_ (by decide)
  replace k132_ := qs_R_keep (j := 21) (n := 128) h151_ k132_ (by decide)
  replace k137_ := qs_R_keep (j := 21) (n := 128) h151_ k137_ (by decide)
  replace k143_ := qs_R_keep (j := 21) (n := 128) h151_ k143_ (by decide)
  replace k149_ := qs_R_keep (j := 21) (n := 128) h151_ k149_ (by decide)
  have k154_ : q_K (qs_R (qs_P (qs_R S144_ 21 16 b145_) 2491 a0 (some b145_)) 21 128 b150_) b150_ = 21 := qs_R_Ks
  obtain ⟨S155_, gS155_⟩ : ∃ z : q_S, z = (qs_R (qs_P (qs_R S144_ 21 16 b145_) 2491 a0 (some b145_)) 21 128 b150_) := ⟨_, rfl⟩
  replace Y : q_Y D cy lo s S155_ H locs := by rw [gS155_]; exact Y
  replace h := h S155_ gS155_
  replace k97_ : q_K S155_ b93_ = 21 := by rw [gS155_]; exact k97_
  replace k98_ : q_K S155_ a0 = 13 := by rw [gS155_]; exact k98_
  replace k103_ : q_K S155_ b99_ = 21 := by rw [gS155_]; exact k103_
  replace k109_ : q_K S155_ b105_ = 21 := by rw [gS155_]; exact k109_
  replace k115_ : q_K S155_ b111_ = 21 := by rw [gS155_]; exact k115_
  replace k120_ : q_K S155_ b116_ = 21 := by rw [gS155_]; exact k120_
  replace k126_ : q_K S155_ b122_ = 21 := by rw [gS155_]; exact k126_
  replace k132_ : q_K S155_ b128_ = 21 := by rw [gS155_]; exact k132_
  replace k137_ : q_K S155_ b133_ = 21 := by rw [gS155_]; exact k137_
  replace k143_ : q_K S155_ b139_ = 21 := by rw [gS155_]; exact k143_
  replace k149_ : q_K S155_ b145_ = 21 := by rw [gS155_]; exact k149_
  replace k154_ : q_K S155_ b150_ = 21 := by rw [gS155_]; exact k154_
  refine q_putP X Y (some b150_) rfl kX12 92 rfl fl_X12_224 k98_ _ rfl (Or.inr ⟨_, rfl⟩) (Or.inr ⟨rfl, hnm, rfl⟩) dX12_init_603 (fun H locs Y => ?_)
  refine lv_aload_n hx hb dX12_init_606 rfl (lv_at hl 0 rfl) ?_
  refine lv_sipush (v := 128) hx hb dX12_init_607 (by decide) ?_
  obtain ⟨w159_, h⟩ := h
  refine q_newa X Y (k := 22) (t := 2) (n := 128) (ty := .boolean) rfl (by decide) rfl (fun _ _ => rfl) (by first | exact rfl | decide | simp [defaultValue]) ar_boolean (by decide) (by decide) (by decide) w159_ dX12_init_610 (fun b156_ H h157_ h158_ Y => ?_)
  replace h := h b156_ h157_
  replace hu := w159_
  replace k97_ := qs_R_keep (j := 22) (n := 128) h157_ k97_ (by decide)
  replace k98_ := qs_R_keep (j := 22) (n := 128) h157_ k98_ (by decide)
  replace k103_ := qs_R_keep (j := 22) (n := 128) h157_ k103_ (by decide)
  replace k109_ := qs_R_keep (j := 22) (n := 128) h157_ k109_ (by decide)
  replace k115_ := qs_R_keep (j := 22) (n := 128) h157_ k115_ (by decide)
  replace k120_ := qs_R_keep (j := 22) (n := 128) h157_ k120_ (by decide)
  replace k126_ := qs_R_keep (j := 22) (n := 128) h157_ k126_ (by decide)
  replace k132_ := qs_R_keep (j := 22) (n := 128) h157_ k132_ (by decide)
  replace k137_ := qs_R_keep (j := 22) (n := 128) h157_ k137_ (by decide)
  replace k143_ := qs_R_keep (j := 22) (n := 128) h157_ k143_ (by decide)
  replace k149_ := qs_R_keep (j := 22) (n := 128) h157_ k149_ (by decide)
  replace k154_ := qs_R_keep (j := 22) (n := 128) h157_ k154_ (by decide)
  have k160_ : q_K (qs_R (qs_P S155_ 2492 a0 (some b150_)) 22 128 b156_) b156_ = 22 := qs_R_Ks
  refine q_putP X Y (some b156_) rfl kX12 93 rfl fl_X12_227 k98_ _ rfl (Or.inr ⟨_, rfl⟩) (Or.inr ⟨rfl, hnm, rfl⟩) dX12_init_612 (fun H locs Y => ?_)
  obtain ⟨S161_, gS161_⟩ : ∃ z : q_S, z = (qs_P (qs_R (qs_P S155_ 2492 a0 (some b150_)) 22 128 b156_) 2493 a0 (some b156_)) := ⟨_, rfl⟩
  replace Y : q_Y D cy lo s S161_ H locs := by rw [gS161_]; exact Y
  replace h := h S161_ gS161_
  replace k97_ : q_K S161_ b93_ = 21 := by rw [gS161_]; exact k97_
  replace k98_ : q_K S161_ a0 = 13 := by rw [gS161_]; exact k98_
  replace k103_ : q_K S161_ b99_ = 21 := by rw [gS161_]; exact k103_
  replace k109_ : q_K S161_ b105_ = 21 := by rw [gS161_]; exact k109_
  replace k115_ : q_K S161_ b111_ = 21 := by rw [gS161_]; exact k115_
  replace k120_ : q_K S161_ b116_ = 21 := by rw [gS161_]; exact k120_
  replace k126_ : q_K S161_ b122_ = 21 := by rw [gS161_]; exact k126_
  replace k132_ : q_K S161_ b128_ = 21 := by rw [gS161_]; exact k132_
  replace k137_ : q_K S161_ b133_ = 21 := by rw [gS161_]; exact k137_
  replace k143_ : q_K S161_ b139_ = 21 := by rw [gS161_]; exact k143_
  replace k149_ : q_K S161_ b145_ = 21 := by rw [gS161_]; exact k149_
  replace k154_ : q_K S161_ b150_ = 21 := by rw [gS161_]; exact k154_
  replace k160_ : q_K S161_ b156_ = 22 := by rw [gS161_]; exact k160_
  exact cb_X12_init_615 X hnm hu Y (lv_sub hl [0] rfl) h
def wb_X12_init_408 (bc bs : Nat)  (u v : Nat) (S : q_S) (a0 : Nat) (Q : Option Value → q_S → Prop) : Prop := (u + 1 ≤ bc ∧ v + 256 ≤ bs) ∧ (∀ b162_ : Nat, q_K S b162_ = 0 → (q_K (qs_R S 22 256 b162_) a0 = 13 ∧ (((u + 1) + 1 ≤ bc ∧ (v + 256) + 256 ≤ bs) ∧ (∀ b168_ : Nat, q_K (qs_P (qs_R S 22 256 b162_) 2470 a0 (some b162_)) b168_ = 0 → (∀ S173_ : q_S, S173_ = (qs_R (qs_P (qs_R S 22 256 b162_) 2470 a0 (some b162_)) 21 256 b168_) → ((((u + 1) + 1) + 1 ≤ bc ∧ ((v + 256) + 256) + 256 ≤ bs) ∧ (∀ b174_ : Nat, q_K (qs_P S173_ 2471 a0 (some b168_)) b174_ = 0 → (∀ S179_ : q_S, S179_ = (qs_P (qs_R (qs_P S173_ 2471 a0 (some b168_)) 21 256 b174_) 2472 a0 (some b174_)) → (((((u + 1) + 1) + 1) + 1 ≤ bc ∧ (((v + 256) + 256) + 256) + 256 ≤ bs) ∧ (∀ b180_ : Nat, q_K S179_ b180_ = 0 → ((((((u + 1) + 1) + 1) + 1) + 1 ≤ bc ∧ ((((v + 256) + 256) + 256) + 256) + 256 ≤ bs) ∧ (∀ b185_ : Nat, q_K (qs_P (qs_R S179_ 21 256 b180_) 2473 a0 (some b180_)) b185_ = 0 → (∀ S190_ : q_S, S190_ = (qs_R (qs_P (qs_R S179_ 21 256 b180_) 2473 a0 (some b180_)) 21 256 b185_) → (((((((u + 1) + 1) + 1) + 1) + 1) + 1 ≤ bc ∧ (((((v + 256) + 256) + 256) + 256) + 256) + 256 ≤ bs) ∧ (∀ b191_ : Nat, q_K (qs_P S190_ 2474 a0 (some b185_)) b191_ = 0 → (∀ S196_ : q_S, S196_ = (qs_P (qs_R (qs_P S190_ 2474 a0 (some b185_)) 22 256 b191_) 2475 a0 (some b191_)) → ((((((((u + 1) + 1) + 1) + 1) + 1) + 1) + 1 ≤ bc ∧ ((((((v + 256) + 256) + 256) + 256) + 256) + 256) + 256 ≤ bs) ∧ (∀ b197_ : Nat, q_K S196_ b197_ = 0 → (((((((((u + 1) + 1) + 1) + 1) + 1) + 1) + 1) + 1 ≤ bc ∧ (((((((v + 256) + 256) + 256) + 256) + 256) + 256) + 256) + 8192 ≤ bs) ∧ (∀ b202_ : Nat, q_K (qs_P (qs_R S196_ 21 256 b197_) 2476 a0 (some b197_)) b202_ = 0 → (∀ S207_ : q_S, S207_ = (qs_R (qs_P (qs_R S196_ 21 256 b197_) 2476 a0 (some b197_)) 21 8192 b202_) → ((((((((((u + 1) + 1) + 1) + 1) + 1) + 1) + 1) + 1) + 1 ≤ bc ∧ ((((((((v + 256) + 256) + 256) + 256) + 256) + 256) + 256) + 8192) + 256 ≤ bs) ∧ (∀ b208_ : Nat, q_K (qs_P S207_ 2477 a0 (some b202_)) b208_ = 0 → (∀ S213_ : q_S, S213_ = (qs_P (qs_R (qs_P S207_ 2477 a0 (some b202_)) 21 256 b208_) 2478 a0 (some b208_)) → (((((((((((u + 1) + 1) + 1) + 1) + 1) + 1) + 1) + 1) + 1) + 1 ≤ bc ∧ (((((((((v + 256) + 256) + 256) + 256) + 256) + 256) + 256) + 8192) + 256) + 256 ≤ bs) ∧ (∀ b214_ : Nat, q_K S213_ b214_ = 0 → ((((((((((((u + 1) + 1) + 1) + 1) + 1) + 1) + 1) + 1) + 1) + 1) + 1 ≤ bc ∧ ((((((((((v + 256) + 256) + 256) + 256) + 256) + 256) + 256) + 8192) + 256) + 256) + 256 ≤ bs) ∧ (∀ b219_ : Nat, q_K (qs_P (qs_R S213_ 21 256 b214_) 2479 a0 (some b214_)) b219_ = 0 → (∀ S224_ : q_S, S224_ = (qs_R (qs_P (qs_R S213_ 21 256 b214_) 2479 a0 (some b214_)) 21 256 b219_) → (((((((((((((u + 1) + 1) + 1) + 1) + 1) + 1) + 1) + 1) + 1) + 1) + 1) + 1 ≤ bc ∧ (((((((((((v + 256) + 256) + 256) + 256) + 256) + 256) + 256) + 8192) + 256) + 256) + 256) + 256 ≤ bs) ∧ (∀ b225_ : Nat, q_K (qs_P S224_ 2480 a0 (some b219_)) b225_ = 0 → (∀ S230_ : q_S, S230_ = (qs_P (qs_R (qs_P S224_ 2480 a0 (some b219_)) 21 256 b225_) 2481 a0 (some b225_)) → (wb_X12_init_516 bc bs ((((((((((((u + 1) + 1) + 1) + 1) + 1) + 1) + 1) + 1) + 1) + 1) + 1) + 1) ((((((((((((v + 256) + 256) + 256) + 256) + 256) + 256) + 256) + 8192) + 256) + 256) + 256) + 256) S230_ a0 Q)))))))))))))))))))))))))))))))))
set_option maxHeartbeats 4000000 in
set_option maxRecDepth 100000 in
theorem cb_X12_init_408 {p : Program} {l : Launch} {e : Env} {s : State} {m : MethodId} {args : Array Value} {below : List Frame} {meth : Method} {c : Code} {D : va_G} {cy : Nat → ClassId} {lo : Nat} {bc bs : Nat}  {u v : Nat} {S : q_S} {a0 : Nat} {Q : Option Value → q_S → Prop} {H : Heap} {locs : List Loc} {ls : Array Slot} (X : q_X p s m args meth c RX12 cX12_init 1 none D cy lo) (hnm : meth.name = "<init>")  (hu : u ≤ bc ∧ v ≤ bs) (Y : q_Y D cy lo s S H locs) (hl : lv_has ls 1 [(0, .ref a0)]) (h : wb_X12_init_408 bc bs u v S a0 Q) : W p l e ({ frames := 1, cells := bc, slots := bs, locals := 20 } : Room) s m args below meth c H locs u v (MQ below (q_Q D cy lo Q) args s bc bs (fun q => lo ≤ q)) (F0 m 408 ls []) := by
  have hx := X.1
  have hb := X.2.1
  unfold wb_X12_init_408 at h
  refine lv_aload_n hx hb dX12_init_408 rfl (lv_at hl 0 rfl) ?_
  refine lv_sipush (v := 256) hx hb dX12_init_409 (by decide) ?_
  obtain ⟨w165_, h⟩ := h
  refine q_newa X Y (k := 22) (t := 2) (n := 256) (ty := .boolean) rfl (by decide) rfl (fun _ _ => rfl) (by first | exact rfl | decide | simp [defaultValue]) ar_boolean (by decide) (by decide) (by decide) w165_ dX12_init_412 (fun b162_ H h163_ h164_ Y => ?_)
  replace h := h b162_ h163_
  replace hu := w165_
  have k166_ : q_K (qs_R S 22 256 b162_) b162_ = 22 := qs_R_Ks
  obtain ⟨k167_, h⟩ := h
  refine q_putP X Y (some b162_) rfl kX12 70 rfl fl_X12_158 k167_ _ rfl (Or.inr ⟨_, rfl⟩) (Or.inr ⟨rfl, hnm, rfl⟩) dX12_init_414 (fun H locs Y => ?_)
  refine lv_aload_n hx hb dX12_init_417 rfl (lv_at hl 0 rfl) ?_
  refine lv_sipush (v := 256) hx hb dX12_init_418 (by decide) ?_
  obtain ⟨w171_, h⟩ := h
  refine q_newa X Y (k := 21) (t := 1) (n := 256) (ty := .int) rfl (by decide) rfl (fun _ _ => rfl) (by first | exact rfl | decide | simp [defaultValue]) ar_int (by decide) (by decide) (by decide) w171_ dX12_init_421 (fun b168_ H h169_ h170_ Y => ?_)
  replace h := h b168_ h169_
  replace hu := w171_
  replace k166_ := qs_R_keep (j := 21) (n := 256) h169_ k166_ (by decide)
  replace k167_ := qs_R_keep (j := 21) (n := 256) h169_ k167_ (by decide)
  have k172_ : q_K (qs_R (qs_P (qs_R S 22 256 b162_) 2470 a0 (some b162_)) 21 256 b168_) b168_ = 21 := qs_R_Ks
  obtain ⟨S173_, gS173_⟩ : ∃ z : q_S, z = (qs_R (qs_P (qs_R S 22 256 b162_) 2470 a0 (some b162_)) 21 256 b168_) := ⟨_, rfl⟩
  replace Y : q_Y D cy lo s S173_ H locs := by rw [gS173_]; exact Y
  replace h := h S173_ gS173_
  replace k166_ : q_K S173_ b162_ = 22 := by rw [gS173_]; exact k166_
  replace k167_ : q_K S173_ a0 = 13 := by rw [gS173_]; exact k167_
  replace k172_ : q_K S173_ b168_ = 21 := by rw [gS173_]; exact k172_
  refine q_putP X Y (some b168_) rfl kX12 71 rfl fl_X12_161 k167_ _ rfl (Or.inr ⟨_, rfl⟩) (Or.inr ⟨rfl, hnm, rfl⟩) dX12_init_423 (fun H locs Y => ?_)
  refine lv_aload_n hx hb dX12_init_426 rfl (lv_at hl 0 rfl) ?_
  refine lv_sipush (v := 256) hx hb dX12_init_427 (by decide) ?_
  obtain ⟨w177_, h⟩ := h
  refine q_newa X Y (k := 21) (t := 1) (n := 256) (ty := .int) rfl (by decide) rfl (fun _ _ => rfl) (by first | exact rfl | decide | simp [defaultValue]) ar_int (by decide) (by decide) (by decide) w177_ dX12_init_430 (fun b174_ H h175_ h176_ Y => ?_)
  replace h := h b174_ h175_
  replace hu := w177_
  replace k166_ := qs_R_keep (j := 21) (n := 256) h175_ k166_ (by decide)
  replace k167_ := qs_R_keep (j := 21) (n := 256) h175_ k167_ (by decide)
  replace k172_ := qs_R_keep (j := 21) (n := 256) h175_ k172_ (by decide)
  have k178_ : q_K (qs_R (qs_P S173_ 2471 a0 (some b168_)) 21 256 b174_) b174_ = 21 := qs_R_Ks
  refine q_putP X Y (some b174_) rfl kX12 72 rfl fl_X12_164 k167_ _ rfl (Or.inr ⟨_, rfl⟩) (Or.inr ⟨rfl, hnm, rfl⟩) dX12_init_432 (fun H locs Y => ?_)
  obtain ⟨S179_, gS179_⟩ : ∃ z : q_S, z = (qs_P (qs_R (qs_P S173_ 2471 a0 (some b168_)) 21 256 b174_) 2472 a0 (some b174_)) := ⟨_, rfl⟩
  replace Y : q_Y D cy lo s S179_ H locs := by rw [gS179_]; exact Y
  replace h := h S179_ gS179_
  replace k166_ : q_K S179_ b162_ = 22 := by rw [gS179_]; exact k166_
  replace k167_ : q_K S179_ a0 = 13 := by rw [gS179_]; exact k167_
  replace k172_ : q_K S179_ b168_ = 21 := by rw [gS179_]; exact k172_
  replace k178_ : q_K S179_ b174_ = 21 := by rw [gS179_]; exact k178_
  refine lv_aload_n hx hb dX12_init_435 rfl (lv_at hl 0 rfl) ?_
  refine lv_sipush (v := 256) hx hb dX12_init_436 (by decide) ?_
  obtain ⟨w183_, h⟩ := h
  refine q_newa X Y (k := 21) (t := 1) (n := 256) (ty := .int) rfl (by decide) rfl (fun _ _ => rfl) (by first | exact rfl | decide | simp [defaultValue]) ar_int (by decide) (by decide) (by decide) w183_ dX12_init_439 (fun b180_ H h181_ h182_ Y => ?_)
  replace h := h b180_ h181_
  replace hu := w183_
  replace k166_ := qs_R_keep (j := 21) (n := 256) h181_ k166_ (by decide)
  replace k167_ := qs_R_keep (j := 21) (n := 256) h181_ k167_ (by decide)
  replace k172_ := qs_R_keep (j := 21) (n := 256) h181_ k172_ (by decide)
  replace k178_ := qs_R_keep (j := 21) (n := 256) h181_ k178_ (by decide)
  have k184_ : q_K (qs_R S179_ 21 256 b180_) b180_ = 21 := qs_R_Ks
  refine q_putP X Y (some b180_) rfl kX12 73 rfl fl_X12_167 k167_ _ rfl (Or.inr ⟨_, rfl⟩) (Or.inr ⟨rfl, hnm, rfl⟩) dX12_init_441 (fun H locs Y => ?_)
  refine lv_aload_n hx hb dX12_init_444 rfl (lv_at hl 0 rfl) ?_
  refine lv_sipush (v := 256) hx hb dX12_init_445 (by decide) ?_
  obtain ⟨w188_, h⟩ := h
  refine q_newa X Y (k := 21) (t := 1) (n := 256) (ty := .int) rfl (by decide) rfl (fun _ _ => rfl) (by first | exact rfl | decide | simp [defaultValue]) ar_int (by decide) (by decide) (by decide) w188_ dX12_init_448 (fun b185_ H h186_ h187_ Y => ?_)
  replace h := h b185_ h186_
  replace hu := w188_
  replace k166_ := qs_R_keep (j := 21) (n := 256) h186_ k166_ (by decide)
  replace k167_ := qs_R_keep (j := 21) (n := 256) h186_ k167_ (by decide)
  replace k172_ := qs_R_keep (j := 21) (n := 256) h186_ k172_ (by decide)
  replace k178_ := qs_R_keep (j := 21) (n := 256) h186_ k178_ (by decide)
  replace k184_ := qs_R_keep (j := 21) (n := 256) h186_ k184_ (by decide)
  have k189_ : q_K (qs_R (qs_P (qs_R S179_ 21 256 b180_) 2473 a0 (some b180_)) 21 256 b185_) b185_ = 21 := qs_R_Ks
  obtain ⟨S190_, gS190_⟩ : ∃ z : q_S, z = (qs_R (qs_P (qs_R S179_ 21 256 b180_) 2473 a0 (some b180_)) 21 256 b185_) := ⟨_, rfl⟩
  replace Y : q_Y D cy lo s S190_ H locs := by rw [gS190_]; exact Y
  replace h := h S190_ gS190_
  replace k166_ : q_K S190_ b162_ = 22 := by rw [gS190_]; exact k166_
  replace k167_ : q_K S190_ a0 = 13 := by rw [gS190_]; exact k167_
  replace k172_ : q_K S190_ b168_ = 21 := by rw [gS190_]; exact k172_
  replace k178_ : q_K S190_ b174_ = 21 := by rw [gS190_]; exact k178_
  replace k184_ : q_K S190_ b180_ = 21 := by rw [gS190_]; exact k184_
  replace k189_ : q_K S190_ b185_ = 21 := by rw [gS190_]; exact k189_
  refine q_putP X Y (some b185_) rfl kX12 74 rfl fl_X12_170 k167_ _ rfl (Or.inr ⟨_, rfl⟩) (Or.inr ⟨rfl, hnm, rfl⟩) dX12_init_450 (fun H locs Y => ?_)
  refine lv_aload_n hx hb dX12_init_453 rfl (lv_at hl 0 rfl) ?_
  refine lv_sipush (v := 256) hx hb dX12_init_454 (by decide) ?_
  obtain ⟨w194_, h⟩ := h
  refine q_newa X Y (k := 22) (t := 2) (n := 256) (ty := .boolean) rfl (by decide) rfl (fun _ _ => rfl) (by first | exact rfl | decide | simp [defaultValue]) ar_boolean (by decide) (by decide) (by decide) w194_ dX12_init_457 (fun b191_ H h192_ h193_ Y => ?_)
  replace h := h b191_ h192_
  replace hu := w194_
  replace k166_ := qs_R_keep (j := 22) (n := 256) h192_ k166_ (by decide)
  replace k167_ := qs_R_keep (j := 22) (n := 256) h192_ k167_ (by decide)
  replace k172_ := qs_R_keep (j := 22) (n := 256) h192_ k172_ (by decide)
  replace k178_ := qs_R_keep (j := 22) (n := 256) h192_ k178_ (by decide)
  replace k184_ := qs_R_keep (j := 22) (n := 256) h192_ k184_ (by decide)
  replace k189_ := qs_R_keep (j := 22) (n := 256) h192_ k189_ (by decide)
  have k195_ : q_K (qs_R (qs_P S190_ 2474 a0 (some b185_)) 22 256 b191_) b191_ = 22 := qs_R_Ks
  refine q_putP X Y (some b191_) rfl kX12 75 rfl fl_X12_173 k167_ _ rfl (Or.inr ⟨_, rfl⟩) (Or.inr ⟨rfl, hnm, rfl⟩) dX12_init_459 (fun H locs Y => ?_)
  obtain ⟨S196_, gS196_⟩ : ∃ z : q_S, z = (qs_P (qs_R (qs_P S190_ 2474 a0 (some b185_)) 22 256 b191_) 2475 a0 (some b191_)) := ⟨_, rfl⟩
  replace Y : q_Y D cy lo s S196_ H locs := by rw [gS196_]; exact Y
  replace h := h S196_ gS196_
  replace k166_ : q_K S196_ b162_ = 22 := by rw [gS196_]; exact k166_
  replace k167_ : q_K S196_ a0 = 13 := by rw [gS196_]; exact k167_
  replace k172_ : q_K S196_ b168_ = 21 := by rw [gS196_]; exact k172_
  replace k178_ : q_K S196_ b174_ = 21 := by rw [gS196_]; exact k178_
  replace k184_ : q_K S196_ b180_ = 21 := by rw [gS196_]; exact k184_
  replace k189_ : q_K S196_ b185_ = 21 := by rw [gS196_]; exact k189_
  replace k195_ : q_K S196_ b191_ = 22 := by rw [gS196_]; exact k195_
  refine lv_aload_n hx hb dX12_init_462 rfl (lv_at hl 0 rfl) ?_
  refine lv_sipush (v := 256) hx hb dX12_init_463 (by decide) ?_
  obtain ⟨w200_, h⟩ := h
  refine q_newa X Y (k := 21) (t := 1) (n := 256) (ty := .int) rfl (by decide) rfl (fun _ _ => rfl) (by first | exact rfl | decide | simp [defaultValue]) ar_int (by decide) (by decide) (by decide) w200_ dX12_init_466 (fun b197_ H h198_ h199_ Y => ?_)
  replace h := h b197_ h198_
  replace hu := w200_
  replace k166_ := qs_R_keep (j := 21) (n := 256) h198_ k166_ (by decide)
  replace k167_ := qs_R_keep (j := 21) (n := 256) h198_ k167_ (by decide)
  replace k172_ := qs_R_keep (j := 21) (n := 256) h198_ k172_ (by decide)
  replace k178_ := qs_R_keep (j := 21) (n := 256) h198_ k178_ (by decide)
  replace k184_ := qs_R_keep (j := 21) (n := 256) h198_ k184_ (by decide)
  replace k189_ := qs_R_keep (j := 21) (n := 256) h198_ k189_ (by decide)
  replace k195_ := qs_R_keep (j := 21) (n := 256) h198_ k195_ (by decide)
  have k201_ : q_K (qs_R S196_ 21 256 b197_) b197_ = 21 := qs_R_Ks
  refine q_putP X Y (some b197_) rfl kX12 76 rfl fl_X12_176 k167_ _ rfl (Or.inr ⟨_, rfl⟩) (Or.inr ⟨rfl, hnm, rfl⟩) dX12_init_468 (fun H locs Y => ?_)
  refine lv_aload_n hx hb dX12_init_471 rfl (lv_at hl 0 rfl) ?_
  refine lv_sipush (v := 8192) hx hb dX12_init_472 (by decide) ?_
  obtain ⟨w205_, h⟩ := h
  refine q_newa X Y (k := 21) (t := 1) (n := 8192) (ty := .int) rfl (by decide) rfl (fun _ _ => rfl) (by first | exact rfl | decide | simp [defaultValue]) ar_int (by decide) (by decide) (by decide) w205_ dX12_init_475 (fun b202_ H h203_ h204_ Y => ?_)
  replace h := h b202_ h203_
  replace hu := w205_
  replace k166_ := qs_R_keep (j := 21) (n := 8192) h203_ k166_ (by decide)
  replace k167_ := qs_R_keep (j := 21) (n := 8192) h203_ k167_ (by decide)
  replace k172_ := qs_R_keep (j := 21) (n := 8192) h203_ k172_ (by decide)
  replace k178_ := qs_R_keep (j := 21) (n := 8192) h203_ k178_ (by decide)
  replace k184_ := qs_R_keep (j := 21) (n := 8192) h203_ k184_ (by decide)
  replace k189_ := qs_R_keep (j := 21) (n := 8192) h203_ k189_ (by decide)
  replace k195_ := qs_R_keep (j := 21) (n := 8192) h203_ k195_ (by decide)
  replace k201_ := qs_R_keep (j := 21) (n := 8192) h203_ k201_ (by decide)
  have k206_ : q_K (qs_R (qs_P (qs_R S196_ 21 256 b197_) 2476 a0 (some b197_)) 21 8192 b202_) b202_ = 21 := qs_R_Ks
  obtain ⟨S207_, gS207_⟩ : ∃ z : q_S, z = (qs_R (qs_P (qs_R S196_ 21 256 b197_) 2476 a0 (some b197_)) 21 8192 b202_) := ⟨_, rfl⟩
  replace Y : q_Y D cy lo s S207_ H locs := by rw [gS207_]; exact Y
  replace h := h S207_ gS207_
  replace k166_ : q_K S207_ b162_ = 22 := by rw [gS207_]; exact k166_
  replace k167_ : q_K S207_ a0 = 13 := by rw [gS207_]; exact k167_
  replace k172_ : q_K S207_ b168_ = 21 := by rw [gS207_]; exact k172_
  replace k178_ : q_K S207_ b174_ = 21 := by rw [gS207_]; exact k178_
  replace k184_ : q_K S207_ b180_ = 21 := by rw [gS207_]; exact k184_
  replace k189_ : q_K S207_ b185_ = 21 := by rw [gS207_]; exact k189_
  replace k195_ : q_K S207_ b191_ = 22 := by rw [gS207_]; exact k195_
  replace k201_ : q_K S207_ b197_ = 21 := by rw [gS207_]; exact k201_
  replace k206_ : q_K S207_ b202_ = 21 := by rw [gS207_]; exact k206_
  refine q_putP X Y (some b202_) rfl kX12 77 rfl fl_X12_179 k167_ _ rfl (Or.inr ⟨_, rfl⟩) (Or.inr ⟨rfl, hnm, rfl⟩) dX12_init_477 (fun H locs Y => ?_)
  refine lv_aload_n hx hb dX12_init_480 rfl (lv_at hl 0 rfl) ?_
  refine lv_sipush (v := 256) hx hb dX12_init_481 (by decide) ?_
  obtain ⟨w211_, h⟩ := h
  refine q_newa X Y (k := 21) (t := 1) (n := 256) (ty := .int) rfl (by decide) rfl (fun _ _ => rfl) (by first | exact rfl | decide | simp [defaultValue]) ar_int (by decide) (by decide) (by decide) w211_ dX12_init_484 (fun b208_ H h209_ h210_ Y => ?_)
  replace h := h b208_ h209_
  replace hu := w211_
  replace k166_ := qs_R_keep (j := 21) (n := 256) h209_ k166_ (by decide)
  replace k167_ := qs_R_keep (j := 21) (n := 256) h209_ k167_ (by decide)
  replace k172_ := qs_R_keep (j := 21) (n := 256) h209_ k172_ (by decide)
  replace k178_ := qs_R_keep (j := 21) (n := 256) h209_ k178_ (by decide)
  replace k184_ := qs_R_keep (j := 21) (n := 256) h209_ k184_ (by decide)
  replace k189_ := qs_R_keep (j := 21) (n := 256) h209_ k189_ (by decide)
  replace k195_ := qs_R_keep (j := 21) (n := 256) h209_ k195_ (by decide)
  replace k201_ := qs_R_keep (j := 21) (n := 256) h209_ k201_ (by decide)
  replace k206_ := qs_R_keep (j := 21) (n := 256) h209_ k206_ (by decide)
  have k212_ : q_K (qs_R (qs_P S207_ 2477 a0 (some b202_)) 21 256 b208_) b208_ = 21 := qs_R_Ks
  refine q_putP X Y (some b208_) rfl kX12 78 rfl fl_X12_182 k167_ _ rfl (Or.inr ⟨_, rfl⟩) (Or.inr ⟨rfl, hnm, rfl⟩) dX12_init_486 (fun H locs Y => ?_)
  obtain ⟨S213_, gS213_⟩ : ∃ z : q_S, z = (qs_P (qs_R (qs_P S207_ 2477 a0 (some b202_)) 21 256 b208_) 2478 a0 (some b208_)) := ⟨_, rfl⟩
  replace Y : q_Y D cy lo s S213_ H locs := by rw [gS213_]; exact Y
  replace h := h S213_ gS213_
  replace k166_ : q_K S213_ b162_ = 22 := by rw [gS213_]; exact k166_
  replace k167_ : q_K S213_ a0 = 13 := by rw [gS213_]; exact k167_
  replace k172_ : q_K S213_ b168_ = 21 := by rw [gS213_]; exact k172_
  replace k178_ : q_K S213_ b174_ = 21 := by rw [gS213_]; exact k178_
  replace k184_ : q_K S213_ b180_ = 21 := by rw [gS213_]; exact k184_
  replace k189_ : q_K S213_ b185_ = 21 := by rw [gS213_]; exact k189_
  replace k195_ : q_K S213_ b191_ = 22 := by rw [gS213_]; exact k195_
  replace k201_ : q_K S213_ b197_ = 21 := by rw [gS213_]; exact k201_
  replace k206_ : q_K S213_ b202_ = 21 := by rw [gS213_]; exact k206_
  replace k212_ : q_K S213_ b208_ = 21 := by rw [gS213_]; exact k212_
  refine lv_aload_n hx hb dX12_init_489 rfl (lv_at hl 0 rfl) ?_
  refine lv_sipush (v := 256) hx hb dX12_init_490 (by decide) ?_
  obtain ⟨w217_, h⟩ := h
  refine q_newa X Y (k := 21) (t := 1) (n := 256) (ty := .int) rfl (by decide) rfl (fun _ _ => rfl) (by first | exact rfl | decide | simp [defaultValue]) ar_int (by decide) (by decide) (by decide) w217_ dX12_init_493 (fun b214_ H h215_ h216_ Y => ?_)
  replace h := h b214_ h215_
  replace hu := w217_
  replace k166_ := qs_R_keep (j := 21) (n := 256) h215_ k166_ (by decide)
  replace k167_ := qs_R_keep (j := 21) (n := 256) h215_ k167_ (by decide)
  replace k172_ := qs_R_keep (j := 21) (n := 256) h215_ k172_ (by decide)
  replace k178_ := qs_R_keep (j := 21) (n := 256) h215_ k178_ (by decide)
  replace k184_ := qs_R_keep (j := 21) (n := 256) h215_ k184_ (by decide)
  replace k189_ := qs_R_keep (j := 21) (n := 256) h215_ k189_ (by decide)
  replace k195_ := qs_R_keep (j := 21) (n := 256) h215_ k195_ (by decide)
  replace k201_ := qs_R_keep (j := 21) (n := 256) h215_ k201_ (by decide)
  replace k206_ := qs_R_keep (j := 21) (n := 256) h215_ k206_ (by decide)
  replace k212_ := qs_R_keep (j := 21) (n := 256) h215_ k212_ (by decide)
  have k218_ : q_K (qs_R S213_ 21 256 b214_) b214_ = 21 := qs_R_Ks
  refine q_putP X Y (some b214_) rfl kX12 79 rfl fl_X12_185 k167_ _ rfl (Or.inr ⟨_, rfl⟩) (Or.inr ⟨rfl, hnm, rfl⟩) dX12_init_495 (fun H locs Y => ?_)
  refine lv_aload_n hx hb dX12_init_498 rfl (lv_at hl 0 rfl) ?_
  refine lv_sipush (v := 256) hx hb dX12_init_499 (by decide) ?_
  obtain ⟨w222_, h⟩ := h
  refine q_newa X Y (k := 21) (t := 1) (n := 256) (ty := .int) rfl (by decide) rfl (fun _ _ => rfl) (by first | exact rfl | decide | simp [defaultValue]) ar_int (by decide) (by decide) (by decide) w222_ dX12_init_502 (fun b219_ H h220_ h221_ Y => ?_)
  replace h := h b219_ h220_
  replace hu := w222_
  replace k166_ := qs_R_keep (j := 21) (n := 256) h220_ k166_ (by decide)
  replace k167_ := qs_R_keep (j := 21) (n := 256) h220_ k167_ (by decide)
  replace k172_ := qs_R_keep (j := 21) (n := 256) h220_ k172_ (by decide)
  replace k178_ := qs_R_keep (j := 21) (n := 256) h220_ k178_ (by decide)
  replace k184_ := qs_R_keep (j := 21) (n := 256) h220_ k184_ (by decide)
  replace k189_ := qs_R_keep (j := 21) (n := 256) h220_ k189_ (by decide)
  replace k195_ := qs_R_keep (j := 21) (n := 256) h220_ k195_ (by decide)
  replace k201_ := qs_R_keep (j := 21) (n := 256) h220_ k201_ (by decide)
  replace k206_ := qs_R_keep (j := 21) (n := 256) h220_ k206_ (by decide)
  replace k212_ := qs_R_keep (j := 21) (n := 256) h220_ k212_ (by decide)
  replace k218_ := qs_R_keep (j := 21) (n := 256) h220_ k218_ (by decide)
  have k223_ : q_K (qs_R (qs_P (qs_R S213_ 21 256 b214_) 2479 a0 (some b214_)) 21 256 b219_) b219_ = 21 := qs_R_Ks
  obtain ⟨S224_, gS224_⟩ : ∃ z : q_S, z = (qs_R (qs_P (qs_R S213_ 21 256 b214_) 2479 a0 (some b214_)) 21 256 b219_) := ⟨_, rfl⟩
  replace Y : q_Y D cy lo s S224_ H locs := by rw [gS224_]; exact Y
  replace h := h S224_ gS224_
  replace k166_ : q_K S224_ b162_ = 22 := by rw [gS224_]; exact k166_
  replace k167_ : q_K S224_ a0 = 13 := by rw [gS224_]; exact k167_
  replace k172_ : q_K S224_ b168_ = 21 := by rw [gS224_]; exact k172_
  replace k178_ : q_K S224_ b174_ = 21 := by rw [gS224_]; exact k178_
  replace k184_ : q_K S224_ b180_ = 21 := by rw [gS224_]; exact k184_
  replace k189_ : q_K S224_ b185_ = 21 := by rw [gS224_]; exact k189_
  replace k195_ : q_K S224_ b191_ = 22 := by rw [gS224_]; exact k195_
  replace k201_ : q_K S224_ b197_ = 21 := by rw [gS224_]; exact k201_
  replace k206_ : q_K S224_ b202_ = 21 := by rw [gS224_]; exact k206_
  replace k212_ : q_K S224_ b208_ = 21 := by rw [gS224_]; exact k212_
  replace k218_ : q_K S224_ b214_ = 21 := by rw [gS224_]; exact k218_
  replace k223_ : q_K S224_ b219_ = 21 := by rw [gS224_]; exact k223_
  refine q_putP X Y (some b219_) rfl kX12 80 rfl fl_X12_188 k167_ _ rfl (Or.inr ⟨_, rfl⟩) (Or.inr ⟨rfl, hnm, rfl⟩) dX12_init_504 (fun H locs Y => ?_)
  refine lv_aload_n hx hb dX12_init_507 rfl (lv_at hl 0 rfl) ?_
  refine lv_sipush (v := 256) hx hb dX12_init_508 (by decide) ?_
  obtain ⟨w228_, h⟩ := h
  refine q_newa X Y (k := 21) (t := 1) (n := 256) (ty := .int) rfl (by decide) rfl (fun _ _ => rfl) (by first | exact rfl | decide | simp [defaultValue]) ar_int (by decide) (by decide) (by decide) w228_ dX12_init_511 (fun b225_ H h226_ h227_ Y => ?_)
  replace h := h b225_ h226_
  replace hu := w228_
  replace k166_ := qs_R_keep (j := 21) (n := 256) h226_ k166_ (by decide)
  replace k167_ := qs_R_keep (j := 21) (n := 256) h226_ k167_ (by decide)
  replace k172_ := qs_R_keep (j := 21) (n := 256) h226_ k172_ (by decide)
  replace k178_ := qs_R_keep (j := 21) (n := 256) h226_ k178_ (by decide)
  replace k184_ := qs_R_keep (j := 21) (n := 256) h226_ k184_ (by decide)
  replace k189_ := qs_R_keep (j := 21) (n := 256) h226_ k189_ (by decide)
  replace k195_ := qs_R_keep (j := 21) (n := 256) h226_ k195_ (by decide)
  replace k201_ := qs_R_keep (j := 21) (n := 256) h226_ k201_ (by decide)
  replace k206_ := qs_R_keep (j := 21) (n := 256) h226_ k206_ (by decide)
  replace k212_ := qs_R_keep (j := 21) (n := 256) h226_ k212_ (by decide)
  replace k218_ := qs_R_keep (j := 21) (n := 256) h226_ k218_ (by decide)
  replace k223_ := qs_R_keep (j := 21) (n := 256) h226_ k223_ (by decide)
  have k229_ : q_K (qs_R (qs_P S224_ 2480 a0 (some b219_)) 21 256 b225_) b225_ = 21 := qs_R_Ks
  refine q_putP X Y (some b225_) rfl kX12 81 rfl fl_X12_191 k167_ _ rfl (Or.inr ⟨_, rfl⟩) (Or.inr ⟨rfl, hnm, rfl⟩) dX12_init_513 (fun H locs Y => ?_)
  obtain ⟨S230_, gS230_⟩ : ∃ z : q_S, z = (qs_P (qs_R (qs_P S224_ 2480 a0 (some b219_)) 21 256 b225_) 2481 a0 (some b225_)) := ⟨_, rfl⟩
  replace Y : q_Y D cy lo s S230_ H locs := by rw [gS230_]; exact Y
  replace h := h S230_ gS230_
  replace k166_ : q_K S230_ b162_ = 22 := by rw [gS230_]; exact k166_
  replace k167_ : q_K S230_ a0 = 13 := by rw [gS230_]; exact k167_
  replace k172_ : q_K S230_ b168_ = 21 := by rw [gS230_]; exact k172_
  replace k178_ : q_K S230_ b174_ = 21 := by rw [gS230_]; exact k178_
  replace k184_ : q_K S230_ b180_ = 21 := by rw [gS230_]; exact k184_
  replace k189_ : q_K S230_ b185_ = 21 := by rw [gS230_]; exact k189_
  replace k195_ : q_K S230_ b191_ = 22 := by rw [gS230_]; exact k195_
  replace k201_ : q_K S230_ b197_ = 21 := by rw [gS230_]; exact k201_
  replace k206_ : q_K S230_ b202_ = 21 := by rw [gS230_]; exact k206_
  replace k212_ : q_K S230_ b208_ = 21 := by rw [gS230_]; exact k212_
  replace k218_ : q_K S230_ b214_ = 21 := by rw [gS230_]; exact k218_
  replace k223_ : q_K S230_ b219_ = 21 := by rw [gS230_]; exact k223_
  replace k229_ : q_K S230_ b225_ = 21 := by rw [gS230_]; exact k229_
  exact cb_X12_init_516 X hnm hu Y (lv_sub hl [0] rfl) h
def wb_X12_init_309 (bc bs : Nat)  (u v : Nat) (S : q_S) (a0 : Nat) (Q : Option Value → q_S → Prop) : Prop := (u + 1 ≤ bc ∧ v + 24 ≤ bs) ∧ (∀ b231_ : Nat, q_K S b231_ = 0 → (q_K (qs_R S 22 24 b231_) a0 = 13 ∧ (((u + 1) + 1 ≤ bc ∧ (v + 24) + 24 ≤ bs) ∧ (∀ b237_ : Nat, q_K (qs_P (qs_R S 22 24 b231_) 2456 a0 (some b231_)) b237_ = 0 → (∀ S242_ : q_S, S242_ = (qs_R (qs_P (qs_R S 22 24 b231_) 2456 a0 (some b231_)) 21 24 b237_) → ((((u + 1) + 1) + 1 ≤ bc ∧ ((v + 24) + 24) + 24 ≤ bs) ∧ (∀ b243_ : Nat, q_K (qs_P S242_ 2457 a0 (some b237_)) b243_ = 0 → (∀ S248_ : q_S, S248_ = (qs_P (qs_R (qs_P S242_ 2457 a0 (some b237_)) 21 24 b243_) 2458 a0 (some b243_)) → (((((u + 1) + 1) + 1) + 1 ≤ bc ∧ (((v + 24) + 24) + 24) + 96 ≤ bs) ∧ (∀ b249_ : Nat, q_K S248_ b249_ = 0 → ((((((u + 1) + 1) + 1) + 1) + 1 ≤ bc ∧ ((((v + 24) + 24) + 24) + 96) + 24 ≤ bs) ∧ (∀ b254_ : Nat, q_K (qs_P (qs_R S248_ 21 96 b249_) 2459 a0 (some b249_)) b254_ = 0 → (∀ S259_ : q_S, S259_ = (qs_R (qs_P (qs_R S248_ 21 96 b249_) 2459 a0 (some b249_)) 21 24 b254_) → (((((((u + 1) + 1) + 1) + 1) + 1) + 1 ≤ bc ∧ (((((v + 24) + 24) + 24) + 96) + 24) + 24 ≤ bs) ∧ (∀ b260_ : Nat, q_K (qs_P S259_ 2460 a0 (some b254_)) b260_ = 0 → (∀ S265_ : q_S, S265_ = (qs_P (qs_R (qs_P S259_ 2460 a0 (some b254_)) 21 24 b260_) 2461 a0 (some b260_)) → ((((((((u + 1) + 1) + 1) + 1) + 1) + 1) + 1 ≤ bc ∧ ((((((v + 24) + 24) + 24) + 96) + 24) + 24) + 24 ≤ bs) ∧ (∀ b266_ : Nat, q_K S265_ b266_ = 0 → (((((((((u + 1) + 1) + 1) + 1) + 1) + 1) + 1) + 1 ≤ bc ∧ (((((((v + 24) + 24) + 24) + 96) + 24) + 24) + 24) + 131072 ≤ bs) ∧ (∀ b271_ : Nat, q_K (qs_P (qs_R S265_ 21 24 b266_) 2462 a0 (some b266_)) b271_ = 0 → (∀ S276_ : q_S, S276_ = (qs_R (qs_P (qs_R S265_ 21 24 b266_) 2462 a0 (some b266_)) 20 131072 b271_) → ((((((((((u + 1) + 1) + 1) + 1) + 1) + 1) + 1) + 1) + 1 ≤ bc ∧ ((((((((v + 24) + 24) + 24) + 96) + 24) + 24) + 24) + 131072) + 131072 ≤ bs) ∧ (∀ b277_ : Nat, q_K (qs_P S276_ 2465 a0 (some b271_)) b277_ = 0 → (∀ S282_ : q_S, S282_ = (qs_P (qs_R (qs_P S276_ 2465 a0 (some b271_)) 20 131072 b277_) 2466 a0 (some b277_)) → (((((((((((u + 1) + 1) + 1) + 1) + 1) + 1) + 1) + 1) + 1) + 1 ≤ bc ∧ (((((((((v + 24) + 24) + 24) + 96) + 24) + 24) + 24) + 131072) + 131072) + 256 ≤ bs) ∧ (∀ b283_ : Nat, q_K S282_ b283_ = 0 → ((((((((((((u + 1) + 1) + 1) + 1) + 1) + 1) + 1) + 1) + 1) + 1) + 1 ≤ bc ∧ ((((((((((v + 24) + 24) + 24) + 96) + 24) + 24) + 24) + 131072) + 131072) + 256) + 256 ≤ bs) ∧ (∀ b288_ : Nat, q_K (qs_P (qs_R S282_ 21 256 b283_) 2467 a0 (some b283_)) b288_ = 0 → (∀ S293_ : q_S, S293_ = (qs_R (qs_P (qs_R S282_ 21 256 b283_) 2467 a0 (some b283_)) 21 256 b288_) → (((((((((((((u + 1) + 1) + 1) + 1) + 1) + 1) + 1) + 1) + 1) + 1) + 1) + 1 ≤ bc ∧ (((((((((((v + 24) + 24) + 24) + 96) + 24) + 24) + 24) + 131072) + 131072) + 256) + 256) + 256 ≤ bs) ∧ (∀ b294_ : Nat, q_K (qs_P S293_ 2468 a0 (some b288_)) b294_ = 0 → (∀ S299_ : q_S, S299_ = (qs_P (qs_R (qs_P S293_ 2468 a0 (some b288_)) 21 256 b294_) 2469 a0 (some b294_)) → (wb_X12_init_408 bc bs ((((((((((((u + 1) + 1) + 1) + 1) + 1) + 1) + 1) + 1) + 1) + 1) + 1) + 1) ((((((((((((v + 24) + 24) + 24) + 96) + 24) + 24) + 24) + 131072) + 131072) + 256) + 256) + 256) S299_ a0 Q)))))))))))))))))))))))))))))))))
set_option maxHeartbeats 4000000 in
set_option maxRecDepth 100000 in
theorem cb_X12_init_309 {p : Program} {l : Launch} {e : Env} {s : State} {m : MethodId} {args : Array Value} {below : List Frame} {meth : Method} {c : Code} {D : va_G} {cy : Nat → ClassId} {lo : Nat} {bc bs : Nat}  {u v : Nat} {S : q_S} {a0 : Nat} {Q : Option Value → q_S → Prop} {H : Heap} {locs : List Loc} {ls : Array Slot} (X : q_X p s m args meth c RX12 cX12_init 1 none D cy lo) (hnm : meth.name = "<init>")  (hu : u ≤ bc ∧ v ≤ bs) (Y : q_Y D cy lo s S H locs) (hl : lv_has ls 1 [(0, .ref a0)]) (h : wb_X12_init_309 bc bs u v S a0 Q) : W p l e ({ frames := 1, cells := bc, slots := bs, locals := 20 } : Room) s m args below meth c H locs u v (MQ below (q_Q D cy lo Q) args s bc bs (fun q => lo ≤ q)) (F0 m 309 ls []) := by
  have hx := X.1
  have hb := X.2.1
  unfold wb_X12_init_309 at h
  refine lv_aload_n hx hb dX12_init_309 rfl (lv_at hl 0 rfl) ?_
  refine lv_bipush (v := 24) hx hb dX12_init_310 (by decide) ?_
  obtain ⟨w234_, h⟩ := h
  refine q_newa X Y (k := 22) (t := 2) (n := 24) (ty := .boolean) rfl (by decide) rfl (fun _ _ => rfl) (by first | exact rfl | decide | simp [defaultValue]) ar_boolean (by decide) (by decide) (by decide) w234_ dX12_init_312 (fun b231_ H h232_ h233_ Y => ?_)
  replace h := h b231_ h232_
  replace hu := w234_
  have k235_ : q_K (qs_R S 22 24 b231_) b231_ = 22 := qs_R_Ks
  obtain ⟨k236_, h⟩ := h
  refine q_putP X Y (some b231_) rfl kX12 56 rfl fl_X12_121 k236_ _ rfl (Or.inr ⟨_, rfl⟩) (Or.inr ⟨rfl, hnm, rfl⟩) dX12_init_314 (fun H locs Y => ?_)
  refine lv_aload_n hx hb dX12_init_317 rfl (lv_at hl 0 rfl) ?_
  refine lv_bipush (v := 24) hx hb dX12_init_318 (by decide) ?_
  obtain ⟨w240_, h⟩ := h
  refine q_newa X Y (k := 21) (t := 1) (n := 24) (ty := .int) rfl (by decide) rfl (fun _ _ => rfl) (by first | exact rfl | decide | simp [defaultValue]) ar_int (by decide) (by decide) (by decide) w240_ dX12_init_320 (fun b237_ H h238_ h239_ Y => ?_)
  replace h := h b237_ h238_
  replace hu := w240_
  replace k235_ := qs_R_keep (j := 21) (n := 24) h238_ k235_ (by decide)
  replace k236_ := qs_R_keep (j := 21) (n := 24) h238_ k236_ (by decide)
  have k241_ : q_K (qs_R (qs_P (qs_R S 22 24 b231_) 2456 a0 (some b231_)) 21 24 b237_) b237_ = 21 := qs_R_Ks
  obtain ⟨S242_, gS242_⟩ : ∃ z : q_S, z = (qs_R (qs_P (qs_R S 22 24 b231_) 2456 a0 (some b231_)) 21 24 b237_) := ⟨_, rfl⟩
  replace Y : q_Y D cy lo s S242_ H locs := by rw [gS242_]; exact Y
  replace h := h S242_ gS242_
  replace k235_ : q_K S242_ b231_ = 22 := by rw [gS242_]; exact k235_
  replace k236_ : q_K S242_ a0 = 13 := by rw [gS242_]; exact k236_
  replace k241_ : q_K S242_ b237_ = 21 := by rw [gS242_]; exact k241_
  refine q_putP X Y (some b237_) rfl kX12 57 rfl fl_X12_124 k236_ _ rfl (Or.inr ⟨_, rfl⟩) (Or.inr ⟨rfl, hnm, rfl⟩) dX12_init_322 (fun H locs Y => ?_)
  refine lv_aload_n hx hb dX12_init_325 rfl (lv_at hl 0 rfl) ?_
  refine lv_bipush (v := 24) hx hb dX12_init_326 (by decide) ?_
  obtain ⟨w246_, h⟩ := h
  refine q_newa X Y (k := 21) (t := 1) (n := 24) (ty := .int) rfl (by decide) rfl (fun _ _ => rfl) (by first | exact rfl | decide | simp [defaultValue]) ar_int (by decide) (by decide) (by decide) w246_ dX12_init_328 (fun b243_ H h244_ h245_ Y => ?_)
  replace h := h b243_ h244_
  replace hu := w246_
  replace k235_ := qs_R_keep (j := 21) (n := 24) h244_ k235_ (by decide)
  replace k236_ := qs_R_keep (j := 21) (n := 24) h244_ k236_ (by decide)
  replace k241_ := qs_R_keep (j := 21) (n := 24) h244_ k241_ (by decide)
  have k247_ : q_K (qs_R (qs_P S242_ 2457 a0 (some b237_)) 21 24 b243_) b243_ = 21 := qs_R_Ks
  refine q_putP X Y (some b243_) rfl kX12 58 rfl fl_X12_127 k236_ _ rfl (Or.inr ⟨_, rfl⟩) (Or.inr ⟨rfl, hnm, rfl⟩) dX12_init_330 (fun H locs Y => ?_)
  obtain ⟨S248_, gS248_⟩ : ∃ z : q_S, z = (qs_P (qs_R (qs_P S242_ 2457 a0 (some b237_)) 21 24 b243_) 2458 a0 (some b243_)) := ⟨_, rfl⟩
  replace Y : q_Y D cy lo s S248_ H locs := by rw [gS248_]; exact Y
  replace h := h S248_ gS248_
  replace k235_ : q_K S248_ b231_ = 22 := by rw [gS248_]; exact k235_
  replace k236_ : q_K S248_ a0 = 13 := by rw [gS248_]; exact k236_
  replace k241_ : q_K S248_ b237_ = 21 := by rw [gS248_]; exact k241_
  replace k247_ : q_K S248_ b243_ = 21 := by rw [gS248_]; exact k247_
  refine lv_aload_n hx hb dX12_init_333 rfl (lv_at hl 0 rfl) ?_
  refine lv_bipush (v := 96) hx hb dX12_init_334 (by decide) ?_
  obtain ⟨w252_, h⟩ := h
  refine q_newa X Y (k := 21) (t := 1) (n := 96) (ty := .int) rfl (by decide) rfl (fun _ _ => rfl) (by first | exact rfl | decide | simp [defaultValue]) ar_int (by decide) (by decide) (by decide) w252_ dX12_init_336 (fun b249_ H h250_ h251_ Y => ?_)
  replace h := h b249_ h250_
  replace hu := w252_
  replace k235_ := qs_R_keep (j := 21) (n := 96) h250_ k235_ (by decide)
  replace k236_ := qs_R_keep (j := 21) (n := 96) h250_ k236_ (by decide)
  replace k241_ := qs_R_keep (j := 21) (n := 96) h250_ k241_ (by decide)
  replace k247_ := qs_R_keep (j := 21) (n := 96) h250_ k247_ (by decide)
  have k253_ : q_K (qs_R S248_ 21 96 b249_) b249_ = 21 := qs_R_Ks
  refine q_putP X Y (some b249_) rfl kX12 59 rfl fl_X12_130 k236_ _ rfl (Or.inr ⟨_, rfl⟩) (Or.inr ⟨rfl, hnm, rfl⟩) dX12_init_338 (fun H locs Y => ?_)
  refine lv_aload_n hx hb dX12_init_341 rfl (lv_at hl 0 rfl) ?_
  refine lv_bipush (v := 24) hx hb dX12_init_342 (by decide) ?_
  obtain ⟨w257_, h⟩ := h
  refine q_newa X Y (k := 21) (t := 1) (n := 24) (ty := .int) rfl (by decide) rfl (fun _ _ => rfl) (by first | exact rfl | decide | simp [defaultValue]) ar_int (by decide) (by decide) (by decide) w257_ dX12_init_344 (fun b254_ H h255_ h256_ Y => ?_)
  replace h := h b254_ h255_
  replace hu := w257_
  replace k235_ := qs_R_keep (j := 21) (n := 24) h255_ k235_ (by decide)
  replace k236_ := qs_R_keep (j := 21) (n := 24) h255_ k236_ (by decide)
  replace k241_ := qs_R_keep (j := 21) (n := 24) h255_ k241_ (by decide)
  replace k247_ := qs_R_keep (j := 21) (n := 24) h255_ k247_ (by decide)
  replace k253_ := qs_R_keep (j := 21) (n := 24) h255_ k253_ (by decide)
  have k258_ : q_K (qs_R (qs_P (qs_R S248_ 21 96 b249_) 2459 a0 (some b249_)) 21 24 b254_) b254_ = 21 := qs_R_Ks
  obtain ⟨S259_, gS259_⟩ : ∃ z : q_S, z = (qs_R (qs_P (qs_R S248_ 21 96 b249_) 2459 a0 (some b249_)) 21 24 b254_) := ⟨_, rfl⟩
  replace Y : q_Y D cy lo s S259_ H locs := by rw [gS259_]; exact Y
  replace h := h S259_ gS259_
  replace k235_ : q_K S259_ b231_ = 22 := by rw [gS259_]; exact k235_
  replace k236_ : q_K S259_ a0 = 13 := by rw [gS259_]; exact k236_
  replace k241_ : q_K S259_ b237_ = 21 := by rw [gS259_]; exact k241_
  replace k247_ : q_K S259_ b243_ = 21 := by rw [gS259_]; exact k247_
  replace k253_ : q_K S259_ b249_ = 21 := by rw [gS259_]; exact k253_
  replace k258_ : q_K S259_ b254_ = 21 := by rw [gS259_]; exact k258_
  refine q_putP X Y (some b254_) rfl kX12 60 rfl fl_X12_133 k236_ _ rfl (Or.inr ⟨_, rfl⟩) (Or.inr ⟨rfl, hnm, rfl⟩) dX12_init_346 (fun H locs Y => ?_)
  refine lv_aload_n hx hb dX12_init_349 rfl (lv_at hl 0 rfl) ?_
  refine lv_bipush (v := 24) hx hb dX12_init_350 (by decide) ?_
  obtain ⟨w263_, h⟩ := h
  refine q_newa X Y (k := 21) (t := 1) (n := 24) (ty := .int) rfl (by decide) rfl (fun _ _ => rfl) (by first | exact rfl | decide | simp [defaultValue]) ar_int (by decide) (by decide) (by decide) w263_ dX12_init_352 (fun b260_ H h261_ h262_ Y => ?_)
  replace h := h b260_ h261_
  replace hu := w263_
  replace k235_ := qs_R_keep (j := 21) (n := 24) h261_ k235_ (by decide)
  replace k236_ := qs_R_keep (j := 21) (n := 24) h261_ k236_ (by decide)
  replace k241_ := qs_R_keep (j := 21) (n := 24) h261_ k241_ (by decide)
  replace k247_ := qs_R_keep (j := 21) (n := 24) h261_ k247_ (by decide)
  replace k253_ := qs_R_keep (j := 21) (n := 24) h261_ k253_ (by decide)
  replace k258_ := qs_R_keep (j := 21) (n := 24) h261_ k258_ (by decide)
  have k264_ : q_K (qs_R (qs_P S259_ 2460 a0 (some b254_)) 21 24 b260_) b260_ = 21 := qs_R_Ks
  refine q_putP X Y (some b260_) rfl kX12 61 rfl fl_X12_136 k236_ _ rfl (Or.inr ⟨_, rfl⟩) (Or.inr ⟨rfl, hnm, rfl⟩) dX12_init_354 (fun H locs Y => ?_)
  obtain ⟨S265_, gS265_⟩ : ∃ z : q_S, z = (qs_P (qs_R (qs_P S259_ 2460 a0 (some b254_)) 21 24 b260_) 2461 a0 (some b260_)) := ⟨_, rfl⟩
  replace Y : q_Y D cy lo s S265_ H locs := by rw [gS265_]; exact Y
  replace h := h S265_ gS265_
  replace k235_ : q_K S265_ b231_ = 22 := by rw [gS265_]; exact k235_
  replace k236_ : q_K S265_ a0 = 13 := by rw [gS265_]; exact k236_
  replace k241_ : q_K S265_ b237_ = 21 := by rw [gS265_]; exact k241_
  replace k247_ : q_K S265_ b243_ = 21 := by rw [gS265_]; exact k247_
  replace k253_ : q_K S265_ b249_ = 21 := by rw [gS265_]; exact k253_
  replace k258_ : q_K S265_ b254_ = 21 := by rw [gS265_]; exact k258_
  replace k264_ : q_K S265_ b260_ = 21 := by rw [gS265_]; exact k264_
  refine lv_aload_n hx hb dX12_init_357 rfl (lv_at hl 0 rfl) ?_
  refine lv_bipush (v := 24) hx hb dX12_init_358 (by decide) ?_
  obtain ⟨w269_, h⟩ := h
  refine q_newa X Y (k := 21) (t := 1) (n := 24) (ty := .int) rfl (by decide) rfl (fun _ _ => rfl) (by first | exact rfl | decide | simp [defaultValue]) ar_int (by decide) (by decide) (by decide) w269_ dX12_init_360 (fun b266_ H h267_ h268_ Y => ?_)
  replace h := h b266_ h267_
  replace hu := w269_
  replace k235_ := qs_R_keep (j := 21) (n := 24) h267_ k235_ (by decide)
  replace k236_ := qs_R_keep (j := 21) (n := 24) h267_ k236_ (by decide)
  replace k241_ := qs_R_keep (j := 21) (n := 24) h267_ k241_ (by decide)
  replace k247_ := qs_R_keep (j := 21) (n := 24) h267_ k247_ (by decide)
  replace k253_ := qs_R_keep (j := 21) (n := 24) h267_ k253_ (by decide)
  replace k258_ := qs_R_keep (j := 21) (n := 24) h267_ k258_ (by decide)
  replace k264_ := qs_R_keep (j := 21) (n := 24) h267_ k264_ (by decide)
  have k270_ : q_K (qs_R S265_ 21 24 b266_) b266_ = 21 := qs_R_Ks
  refine q_putP X Y (some b266_) rfl kX12 62 rfl fl_X12_139 k236_ _ rfl (Or.inr ⟨_, rfl⟩) (Or.inr ⟨rfl, hnm, rfl⟩) dX12_init_362 (fun H locs Y => ?_)
  refine lv_aload_n hx hb dX12_init_365 rfl (lv_at hl 0 rfl) ?_
  refine lv_ldc (v := 131072) hx hb X.2.2.2.1 (X.2.2.2.2.1 _ co_X12_142) dX12_init_366 ?_
  obtain ⟨w274_, h⟩ := h
  refine q_newa X Y (k := 20) (t := 0) (n := 131072) (ty := .byte) rfl (by decide) rfl (fun _ _ => rfl) (by first | exact rfl | decide | simp [defaultValue]) ar_byte (by decide) (by decide) (by decide) w274_ dX12_init_368 (fun b271_ H h272_ h273_ Y => ?_)
  replace h := h b271_ h272_
  replace hu := w274_
  replace k235_ := qs_R_keep (j := 20) (n := 131072) h272_ k235_ (by decide)
  replace k236_ := qs_R_keep (j := 20) (n := 131072) h272_ k236_ (by decide)
  replace k241_ := qs_R_keep (j := 20) (n := 131072) h272_ k241_ (by decide)
  replace k247_ := qs_R_keep (j := 20) (n := 131072) h272_ k247_ (by decide)
  replace k253_ := qs_R_keep (j := 20) (n := 131072) h272_ k253_ (by decide)
  replace k258_ := qs_R_keep (j := 20) (n := 131072) h272_ k258_ (by decide)
  replace k264_ := qs_R_keep (j := 20) (n := 131072) h272_ k264_ (by decide)
  replace k270_ := qs_R_keep (j := 20) (n := 131072) h272_ k270_ (by decide)
  have k275_ : q_K (qs_R (qs_P (qs_R S265_ 21 24 b266_) 2462 a0 (some b266_)) 20 131072 b271_) b271_ = 20 := qs_R_Ks
  obtain ⟨S276_, gS276_⟩ : ∃ z : q_S, z = (qs_R (qs_P (qs_R S265_ 21 24 b266_) 2462 a0 (some b266_)) 20 131072 b271_) := ⟨_, rfl⟩
  replace Y : q_Y D cy lo s S276_ H locs := by rw [gS276_]; exact Y
  replace h := h S276_ gS276_
  replace k235_ : q_K S276_ b231_ = 22 := by rw [gS276_]; exact k235_
  replace k236_ : q_K S276_ a0 = 13 := by rw [gS276_]; exact k236_
  replace k241_ : q_K S276_ b237_ = 21 := by rw [gS276_]; exact k241_
  replace k247_ : q_K S276_ b243_ = 21 := by rw [gS276_]; exact k247_
  replace k253_ : q_K S276_ b249_ = 21 := by rw [gS276_]; exact k253_
  replace k258_ : q_K S276_ b254_ = 21 := by rw [gS276_]; exact k258_
  replace k264_ : q_K S276_ b260_ = 21 := by rw [gS276_]; exact k264_
  replace k270_ : q_K S276_ b266_ = 21 := by rw [gS276_]; exact k270_
  replace k275_ : q_K S276_ b271_ = 20 := by rw [gS276_]; exact k275_
  refine q_putP X Y (some b271_) rfl kX12 65 rfl fl_X12_143 k236_ _ rfl (Or.inr ⟨_, rfl⟩) (Or.inr ⟨rfl, hnm, rfl⟩) dX12_init_370 (fun H locs Y => ?_)
  refine lv_aload_n hx hb dX12_init_373 rfl (lv_at hl 0 rfl) ?_
  refine lv_ldc (v := 131072) hx hb X.2.2.2.1 (X.2.2.2.2.1 _ co_X12_142) dX12_init_374 ?_
  obtain ⟨w280_, h⟩ := h
  refine q_newa X Y (k := 20) (t := 0) (n := 131072) (ty := .byte) rfl (by decide) rfl (fun _ _ => rfl) (by first | exact rfl | decide | simp [defaultValue]) ar_byte (by decide) (by decide) (by decide) w280_ dX12_init_376 (fun b277_ H h278_ h279_ Y => ?_)
  replace h := h b277_ h278_
  replace hu := w280_
  replace k235_ := qs_R_keep (j := 20) (n := 131072) h278_ k235_ (by decide)
  replace k236_ := qs_R_keep (j := 20) (n := 131072) h278_ k236_ (by decide)
  replace k241_ := qs_R_keep (j := 20) (n := 131072) h278_ k241_ (by decide)
  replace k247_ := qs_R_keep (j := 20) (n := 131072) h278_ k247_ (by decide)
  replace k253_ := qs_R_keep (j := 20) (n := 131072) h278_ k253_ (by decide)
  replace k258_ := qs_R_keep (j := 20) (n := 131072) h278_ k258_ (by decide)
  replace k264_ := qs_R_keep (j := 20) (n := 131072) h278_ k264_ (by decide)
  replace k270_ := qs_R_keep (j := 20) (n := 131072) h278_ k270_ (by decide)
  replace k275_ := qs_R_keep (j := 20) (n := 131072) h278_ k275_ (by decide)
  have k281_ : q_K (qs_R (qs_P S276_ 2465 a0 (some b271_)) 20 131072 b277_) b277_ = 20 := qs_R_Ks
  refine q_putP X Y (some b277_) rfl kX12 66 rfl fl_X12_146 k236_ _ rfl (Or.inr ⟨_, rfl⟩) (Or.inr ⟨rfl, hnm, rfl⟩) dX12_init_378 (fun H locs Y => ?_)
  obtain ⟨S282_, gS282_⟩ : ∃ z : q_S, z = (qs_P (qs_R (qs_P S276_ 2465 a0 (some b271_)) 20 131072 b277_) 2466 a0 (some b277_)) := ⟨_, rfl⟩
  replace Y : q_Y D cy lo s S282_ H locs := by rw [gS282_]; exact Y
  replace h := h S282_ gS282_
  replace k235_ : q_K S282_ b231_ = 22 := by rw [gS282_]; exact k235_
  replace k236_ : q_K S282_ a0 = 13 := by rw [gS282_]; exact k236_
  replace k241_ : q_K S282_ b237_ = 21 := by rw [gS282_]; exact k241_
  replace k247_ : q_K S282_ b243_ = 21 := by rw [gS282_]; exact k247_
  replace k253_ : q_K S282_ b249_ = 21 := by rw [gS282_]; exact k253_
  replace k258_ : q_K S282_ b254_ = 21 := by rw [gS282_]; exact k258_
  replace k264_ : q_K S282_ b260_ = 21 := by rw [gS282_]; exact k264_
  replace k270_ : q_K S282_ b266_ = 21 := by rw [gS282_]; exact k270_
  replace k275_ : q_K S282_ b271_ = 20 := by rw [gS282_]; exact k275_
  replace k281_ : q_K S282_ b277_ = 20 := by rw [gS282_]; exact k281_
  refine lv_aload_n hx hb dX12_init_381 rfl (lv_at hl 0 rfl) ?_
  refine lv_sipush (v := 256) hx hb dX12_init_382 (by decide) ?_
  obtain ⟨w286_, h⟩ := h
  refine q_newa X Y (k := 21) (t := 1) (n := 256) (ty := .int) rfl (by decide) rfl (fun _ _ => rfl) (by first | exact rfl | decide | simp [defaultValue]) ar_int (by decide) (by decide) (by decide) w286_ dX12_init_385 (fun b283_ H h284_ h285_ Y => ?_)
  replace h := h b283_ h284_
  replace hu := w286_
  replace k235_ := qs_R_keep (j := 21) (n := 256) h284_ k235_ (by decide)
  replace k236_ := qs_R_keep (j := 21) (n := 256) h284_ k236_ (by decide)
  replace k241_ := qs_R_keep (j := 21) (n := 256) h284_ k241_ (by decide)
  replace k247_ := qs_R_keep (j := 21) (n := 256) h284_ k247_ (by decide)
  replace k253_ := qs_R_keep (j := 21) (n := 256) h284_ k253_ (by decide)
  replace k258_ := qs_R_keep (j := 21) (n := 256) h284_ k258_ (by decide)
  replace k264_ := qs_R_keep (j := 21) (n := 256) h284_ k264_ (by decide)
  replace k270_ := qs_R_keep (j := 21) (n := 256) h284_ k270_ (by decide)
  replace k275_ := qs_R_keep (j := 21) (n := 256) h284_ k275_ (by decide)
  replace k281_ := qs_R_keep (j := 21) (n := 256) h284_ k281_ (by decide)
  have k287_ : q_K (qs_R S282_ 21 256 b283_) b283_ = 21 := qs_R_Ks
  refine q_putP X Y (some b283_) rfl kX12 67 rfl fl_X12_149 k236_ _ rfl (Or.inr ⟨_, rfl⟩) (Or.inr ⟨rfl, hnm, rfl⟩) dX12_init_387 (fun H locs Y => ?_)
  refine lv_aload_n hx hb dX12_init_390 rfl (lv_at hl 0 rfl) ?_
  refine lv_sipush (v := 256) hx hb dX12_init_391 (by decide) ?_
  obtain ⟨w291_, h⟩ := h
  refine q_newa X Y (k := 21) (t := 1) (n := 256) (ty := .int) rfl (by decide) rfl (fun _ _ => rfl) (by first | exact rfl | decide | simp [defaultValue]) ar_int (by decide) (by decide) (by decide) w291_ dX12_init_394 (fun b288_ H h289_ h290_ Y => ?_)
  replace h := h b288_ h289_
  replace hu := w291_
  replace k235_ := qs_R_keep (j := 21) (n := 256) h289_ k235_ (by decide)
  replace k236_ := qs_R_keep (j := 21) (n := 256) h289_ k236_ (by decide)
  replace k241_ := qs_R_keep (j := 21) (n := 256) h289_ k241_ (by decide)
  replace k247_ := qs_R_keep (j := 21) (n := 256) h289_ k247_ (by decide)
  replace k253_ := qs_R_keep (j := 21) (n := 256) h289_ k253_ (by decide)
  replace k258_ := qs_R_keep (j := 21) (n := 256) h289_ k258_ (by decide)
  replace k264_ := qs_R_keep (j := 21) (n := 256) h289_ k264_ (by decide)
  replace k270_ := qs_R_keep (j := 21) (n := 256) h289_ k270_ (by decide)
  replace k275_ := qs_R_keep (j := 21) (n := 256) h289_ k275_ (by decide)
  replace k281_ := qs_R_keep (j := 21) (n := 256) h289_ k281_ (by decide)
  replace k287_ := qs_R_keep (j := 21) (n := 256) h289_ k287_ (by decide)
  have k292_ : q_K (qs_R (qs_P (qs_R S282_ 21 256 b283_) 2467 a0 (some b283_)) 21 256 b288_) b288_ = 21 := qs_R_Ks
  obtain ⟨S293_, gS293_⟩ : ∃ z : q_S, z = (qs_R (qs_P (qs_R S282_ 21 256 b283_) 2467 a0 (some b283_)) 21 256 b288_) := ⟨_, rfl⟩
  replace Y : q_Y D cy lo s S293_ H locs := by rw [gS293_]; exact Y
  replace h := h S293_ gS293_
  replace k235_ : q_K S293_ b231_ = 22 := by rw [gS293_]; exact k235_
  replace k236_ : q_K S293_ a0 = 13 := by rw [gS293_]; exact k236_
  replace k241_ : q_K S293_ b237_ = 21 := by rw [gS293_]; exact k241_
  replace k247_ : q_K S293_ b243_ = 21 := by rw [gS293_]; exact k247_
  replace k253_ : q_K S293_ b249_ = 21 := by rw [gS293_]; exact k253_
  replace k258_ : q_K S293_ b254_ = 21 := by rw [gS293_]; exact k258_
  replace k264_ : q_K S293_ b260_ = 21 := by rw [gS293_]; exact k264_
  replace k270_ : q_K S293_ b266_ = 21 := by rw [gS293_]; exact k270_
  replace k275_ : q_K S293_ b271_ = 20 := by rw [gS293_]; exact k275_
  replace k281_ : q_K S293_ b277_ = 20 := by rw [gS293_]; exact k281_
  replace k287_ : q_K S293_ b283_ = 21 := by rw [gS293_]; exact k287_
  replace k292_ : q_K S293_ b288_ = 21 := by rw [gS293_]; exact k292_
  refine q_putP X Y (some b288_) rfl kX12 68 rfl fl_X12_152 k236_ _ rfl (Or.inr ⟨_, rfl⟩) (Or.inr ⟨rfl, hnm, rfl⟩) dX12_init_396 (fun H locs Y => ?_)
  refine lv_aload_n hx hb dX12_init_399 rfl (lv_at hl 0 rfl) ?_
  refine lv_sipush (v := 256) hx hb dX12_init_400 (by decide) ?_
  obtain ⟨w297_, h⟩ := h
  refine q_newa X Y (k := 21) (t := 1) (n := 256) (ty := .int) rfl (by decide) rfl (fun _ _ => rfl) (by first | exact rfl | decide | simp [defaultValue]) ar_int (by decide) (by decide) (by decide) w297_ dX12_init_403 (fun b294_ H h295_ h296_ Y => ?_)
  replace h := h b294_ h295_
  replace hu := w297_
  replace k235_ := qs_R_keep (j := 21) (n := 256) h295_ k235_ (by decide)
  replace k236_ := qs_R_keep (j := 21) (n := 256) h295_ k236_ (by decide)
  replace k241_ := qs_R_keep (j := 21) (n := 256) h295_ k241_ (by decide)
  replace k247_ := qs_R_keep (j := 21) (n := 256) h295_ k247_ (by decide)
  replace k253_ := qs_R_keep (j := 21) (n := 256) h295_ k253_ (by decide)
  replace k258_ := qs_R_keep (j := 21) (n := 256) h295_ k258_ (by decide)
  replace k264_ := qs_R_keep (j := 21) (n := 256) h295_ k264_ (by decide)
  replace k270_ := qs_R_keep (j := 21) (n := 256) h295_ k270_ (by decide)
  replace k275_ := qs_R_keep (j := 21) (n := 256) h295_ k275_ (by decide)
  replace k281_ := qs_R_keep (j := 21) (n := 256) h295_ k281_ (by decide)
  replace k287_ := qs_R_keep (j := 21) (n := 256) h295_ k287_ (by decide)
  replace k292_ := qs_R_keep (j := 21) (n := 256) h295_ k292_ (by decide)
  have k298_ : q_K (qs_R (qs_P S293_ 2468 a0 (some b288_)) 21 256 b294_) b294_ = 21 := qs_R_Ks
  refine q_putP X Y (some b294_) rfl kX12 69 rfl fl_X12_155 k236_ _ rfl (Or.inr ⟨_, rfl⟩) (Or.inr ⟨rfl, hnm, rfl⟩) dX12_init_405 (fun H locs Y => ?_)
  obtain ⟨S299_, gS299_⟩ : ∃ z : q_S, z = (qs_P (qs_R (qs_P S293_ 2468 a0 (some b288_)) 21 256 b294_) 2469 a0 (some b294_)) := ⟨_, rfl⟩
  replace Y : q_Y D cy lo s S299_ H locs := by rw [gS299_]; exact Y
  replace h := h S299_ gS299_
  replace k235_ : q_K S299_ b231_ = 22 := by rw [gS299_]; exact k235_
  replace k236_ : q_K S299_ a0 = 13 := by rw [gS299_]; exact k236_
  replace k241_ : q_K S299_ b237_ = 21 := by rw [gS299_]; exact k241_
  replace k247_ : q_K S299_ b243_ = 21 := by rw [gS299_]; exact k247_
  replace k253_ : q_K S299_ b249_ = 21 := by rw [gS299_]; exact k253_
  replace k258_ : q_K S299_ b254_ = 21 := by rw [gS299_]; exact k258_
  replace k264_ : q_K S299_ b260_ = 21 := by rw [gS299_]; exact k264_
  replace k270_ : q_K S299_ b266_ = 21 := by rw [gS299_]; exact k270_
  replace k275_ : q_K S299_ b271_ = 20 := by rw [gS299_]; exact k275_
  replace k281_ : q_K S299_ b277_ = 20 := by rw [gS299_]; exact k281_
  replace k287_ : q_K S299_ b283_ = 21 := by rw [gS299_]; exact k287_
  replace k292_ : q_K S299_ b288_ = 21 := by rw [gS299_]; exact k292_
  replace k298_ : q_K S299_ b294_ = 21 := by rw [gS299_]; exact k298_
  exact cb_X12_init_408 X hnm hu Y (lv_sub hl [0] rfl) h
def wb_X12_init_205 (bc bs : Nat)  (u v : Nat) (S : q_S) (a0 : Nat) (Q : Option Value → q_S → Prop) : Prop := (u + 1 ≤ bc ∧ v + 128 ≤ bs) ∧ (∀ b300_ : Nat, q_K S b300_ = 0 → (q_K (qs_R S 21 128 b300_) a0 = 13 ∧ (((u + 1) + 1 ≤ bc ∧ (v + 128) + 128 ≤ bs) ∧ (∀ b306_ : Nat, q_K (qs_P (qs_R S 21 128 b300_) 2443 a0 (some b300_)) b306_ = 0 → (∀ S311_ : q_S, S311_ = (qs_R (qs_P (qs_R S 21 128 b300_) 2443 a0 (some b300_)) 21 128 b306_) → ((((u + 1) + 1) + 1 ≤ bc ∧ ((v + 128) + 128) + 128 ≤ bs) ∧ (∀ b312_ : Nat, q_K (qs_P S311_ 2444 a0 (some b306_)) b312_ = 0 → (∀ S317_ : q_S, S317_ = (qs_P (qs_R (qs_P S311_ 2444 a0 (some b306_)) 22 128 b312_) 2445 a0 (some b312_)) → (((((u + 1) + 1) + 1) + 1 ≤ bc ∧ (((v + 128) + 128) + 128) + 128 ≤ bs) ∧ (∀ b318_ : Nat, q_K S317_ b318_ = 0 → ((((((u + 1) + 1) + 1) + 1) + 1 ≤ bc ∧ ((((v + 128) + 128) + 128) + 128) + 128 ≤ bs) ∧ (∀ b323_ : Nat, q_K (qs_P (qs_R S317_ 21 128 b318_) 2446 a0 (some b318_)) b323_ = 0 → (∀ S328_ : q_S, S328_ = (qs_R (qs_P (qs_R S317_ 21 128 b318_) 2446 a0 (some b318_)) 22 128 b323_) → (((((((u + 1) + 1) + 1) + 1) + 1) + 1 ≤ bc ∧ (((((v + 128) + 128) + 128) + 128) + 128) + 256 ≤ bs) ∧ (∀ b329_ : Nat, q_K (qs_P S328_ 2447 a0 (some b323_)) b329_ = 0 → (∀ S334_ : q_S, S334_ = (qs_P (qs_R (qs_P S328_ 2447 a0 (some b323_)) 22 256 b329_) 2448 a0 (some b329_)) → ((((((((u + 1) + 1) + 1) + 1) + 1) + 1) + 1 ≤ bc ∧ ((((((v + 128) + 128) + 128) + 128) + 128) + 256) + 256 ≤ bs) ∧ (∀ b335_ : Nat, q_K S334_ b335_ = 0 → (((((((((u + 1) + 1) + 1) + 1) + 1) + 1) + 1) + 1 ≤ bc ∧ (((((((v + 128) + 128) + 128) + 128) + 128) + 256) + 256) + 256 ≤ bs) ∧ (∀ b340_ : Nat, q_K (qs_P (qs_R S334_ 22 256 b335_) 2449 a0 (some b335_)) b340_ = 0 → (∀ S345_ : q_S, S345_ = (qs_R (qs_P (qs_R S334_ 22 256 b335_) 2449 a0 (some b335_)) 21 256 b340_) → ((((((((((u + 1) + 1) + 1) + 1) + 1) + 1) + 1) + 1) + 1 ≤ bc ∧ ((((((((v + 128) + 128) + 128) + 128) + 128) + 256) + 256) + 256) + 16 ≤ bs) ∧ (∀ b346_ : Nat, q_K (qs_P S345_ 2450 a0 (some b340_)) b346_ = 0 → (∀ S351_ : q_S, S351_ = (qs_P (qs_R (qs_P S345_ 2450 a0 (some b340_)) 22 16 b346_) 2451 a0 (some b346_)) → (((((((((((u + 1) + 1) + 1) + 1) + 1) + 1) + 1) + 1) + 1) + 1 ≤ bc ∧ (((((((((v + 128) + 128) + 128) + 128) + 128) + 256) + 256) + 256) + 16) + 80 ≤ bs) ∧ (∀ b352_ : Nat, q_K S351_ b352_ = 0 → ((((((((((((u + 1) + 1) + 1) + 1) + 1) + 1) + 1) + 1) + 1) + 1) + 1 ≤ bc ∧ ((((((((((v + 128) + 128) + 128) + 128) + 128) + 256) + 256) + 256) + 16) + 80) + 24 ≤ bs) ∧ (∀ b357_ : Nat, q_K (qs_P (qs_R S351_ 21 80 b352_) 2452 a0 (some b352_)) b357_ = 0 → (∀ S362_ : q_S, S362_ = (qs_R (qs_P (qs_R S351_ 21 80 b352_) 2452 a0 (some b352_)) 22 24 b357_) → (((((((((((((u + 1) + 1) + 1) + 1) + 1) + 1) + 1) + 1) + 1) + 1) + 1) + 1 ≤ bc ∧ (((((((((((v + 128) + 128) + 128) + 128) + 128) + 256) + 256) + 256) + 16) + 80) + 24) + 24 ≤ bs) ∧ (∀ b363_ : Nat, q_K (qs_P S362_ 2454 a0 (some b357_)) b363_ = 0 → (∀ S368_ : q_S, S368_ = (qs_P (qs_R (qs_P S362_ 2454 a0 (some b357_)) 21 24 b363_) 2455 a0 (some b363_)) → (wb_X12_init_309 bc bs ((((((((((((u + 1) + 1) + 1) + 1) + 1) + 1) + 1) + 1) + 1) + 1) + 1) + 1) ((((((((((((v + 128) + 128) + 128) + 128) + 128) + 256) + 256) + 256) + 16) + 80) + 24) + 24) S368_ a0 Q)))))))))))))))))))))))))))))))))
set_option maxHeartbeats 4000000 in
set_option maxRecDepth 100000 in
theorem cb_X12_init_205 {p : Program} {l : Launch} {e : Env} {s : State} {m : MethodId} {args : Array Value} {below : List Frame} {meth : Method} {c : Code} {D : va_G} {cy : Nat → ClassId} {lo : Nat} {bc bs : Nat}  {u v : Nat} {S : q_S} {a0 : Nat} {Q : Option Value → q_S → Prop} {H : Heap} {locs : List Loc} {ls : Array Slot} (X : q_X p s m args meth c RX12 cX12_init 1 none D cy lo) (hnm : meth.name = "<init>")  (hu : u ≤ bc ∧ v ≤ bs) (Y : q_Y D cy lo s S H locs) (hl : lv_has ls 1 [(0, .ref a0)]) (h : wb_X12_init_205 bc bs u v S a0 Q) : W p l e ({ frames := 1, cells := bc, slots := bs, locals := 20 } : Room) s m args below meth c H locs u v (MQ below (q_Q D cy lo Q) args s bc bs (fun q => lo ≤ q)) (F0 m 205 ls []) := by
  have hx := X.1
  have hb := X.2.1
  unfold wb_X12_init_205 at h
  refine lv_aload_n hx hb dX12_init_205 rfl (lv_at hl 0 rfl) ?_
  refine lv_sipush (v := 128) hx hb dX12_init_206 (by decide) ?_
  obtain ⟨w303_, h⟩ := h
  refine q_newa X Y (k := 21) (t := 1) (n := 128) (ty := .int) rfl (by decide) rfl (fun _ _ => rfl) (by first | exact rfl | decide | simp [defaultValue]) ar_int (by decide) (by decide) (by decide) w303_ dX12_init_209 (fun b300_ H h301_ h302_ Y => ?_)
  replace h := h b300_ h301_
  replace hu := w303_
  have k304_ : q_K (qs_R S 21 128 b300_) b300_ = 21 := qs_R_Ks
  obtain ⟨k305_, h⟩ := h
  refine q_putP X Y (some b300_) rfl kX12 43 rfl fl_X12_85 k305_ _ rfl (Or.inr ⟨_, rfl⟩) (Or.inr ⟨rfl, hnm, rfl⟩) dX12_init_211 (fun H locs Y => ?_)
  refine lv_aload_n hx hb dX12_init_214 rfl (lv_at hl 0 rfl) ?_
  refine lv_sipush (v := 128) hx hb dX12_init_215 (by decide) ?_
  obtain ⟨w309_, h⟩ := h
  refine q_newa X Y (k := 21) (t := 1) (n := 128) (ty := .int) rfl (by decide) rfl (fun _ _ => rfl) (by first | exact rfl | decide | simp [defaultValue]) ar_int (by decide) (by decide) (by decide) w309_ dX12_init_218 (fun b306_ H h307_ h308_ Y => ?_)
  replace h := h b306_ h307_
  replace hu := w309_
  replace k304_ := qs_R_keep (j := 21) (n := 128) h307_ k304_ (by decide)
  replace k305_ := qs_R_keep (j := 21) (n := 128) h307_ k305_ (by decide)
  have k310_ : q_K (qs_R (qs_P (qs_R S 21 128 b300_) 2443 a0 (some b300_)) 21 128 b306_) b306_ = 21 := qs_R_Ks
  obtain ⟨S311_, gS311_⟩ : ∃ z : q_S, z = (qs_R (qs_P (qs_R S 21 128 b300_) 2443 a0 (some b300_)) 21 128 b306_) := ⟨_, rfl⟩
  replace Y : q_Y D cy lo s S311_ H locs := by rw [gS311_]; exact Y
  replace h := h S311_ gS311_
  replace k304_ : q_K S311_ b300_ = 21 := by rw [gS311_]; exact k304_
  replace k305_ : q_K S311_ a0 = 13 := by rw [gS311_]; exact k305_
  replace k310_ : q_K S311_ b306_ = 21 := by rw [gS311_]; exact k310_
  refine q_putP X Y (some b306_) rfl kX12 44 rfl fl_X12_88 k305_ _ rfl (Or.inr ⟨_, rfl⟩) (Or.inr ⟨rfl, hnm, rfl⟩) dX12_init_220 (fun H locs Y => ?_)
  refine lv_aload_n hx hb dX12_init_223 rfl (lv_at hl 0 rfl) ?_
  refine lv_sipush (v := 128) hx hb dX12_init_224 (by decide) ?_
  obtain ⟨w315_, h⟩ := h
  refine q_newa X Y (k := 22) (t := 2) (n := 128) (ty := .boolean) rfl (by decide) rfl (fun _ _ => rfl) (by first | exact rfl | decide | simp [defaultValue]) ar_boolean (by decide) (by decide) (by decide) w315_ dX12_init_227 (fun b312_ H h313_ h314_ Y => ?_)
  replace h := h b312_ h313_
  replace hu := w315_
  replace k304_ := qs_R_keep (j := 22) (n := 128) h313_ k304_ (by decide)
  replace k305_ := qs_R_keep (j := 22) (n := 128) h313_ k305_ (by decide)
  replace k310_ := qs_R_keep (j := 22) (n := 128) h313_ k310_ (by decide)
  have k316_ : q_K (qs_R (qs_P S311_ 2444 a0 (some b306_)) 22 128 b312_) b312_ = 22 := qs_R_Ks
  refine q_putP X Y (some b312_) rfl kX12 45 rfl fl_X12_91 k305_ _ rfl (Or.inr ⟨_, rfl⟩) (Or.inr ⟨rfl, hnm, rfl⟩) dX12_init_229 (fun H locs Y => ?_)
  obtain ⟨S317_, gS317_⟩ : ∃ z : q_S, z = (qs_P (qs_R (qs_P S311_ 2444 a0 (some b306_)) 22 128 b312_) 2445 a0 (some b312_)) := ⟨_, rfl⟩
  replace Y : q_Y D cy lo s S317_ H locs := by rw [gS317_]; exact Y
  replace h := h S317_ gS317_
  replace k304_ : q_K S317_ b300_ = 21 := by rw [gS317_]; exact k304_
  replace k305_ : q_K S317_ a0 = 13 := by rw [gS317_]; exact k305_
  replace k310_ : q_K S317_ b306_ = 21 := by rw [gS317_]; exact k310_
  replace k316_ : q_K S317_ b312_ = 22 := by rw [gS317_]; exact k316_
  refine lv_aload_n hx hb dX12_init_232 rfl (lv_at hl 0 rfl) ?_
  refine lv_sipush (v := 128) hx hb dX12_init_233 (by decide) ?_
  obtain ⟨w321_, h⟩ := h
  refine q_newa X Y (k := 21) (t := 1) (n := 128) (ty := .int) rfl (by decide) rfl (fun _ _ => rfl) (by first | exact rfl | decide | simp [defaultValue]) ar_int (by decide) (by decide) (by decide) w321_ dX12_init_236 (fun b318_ H h319_ h320_ Y => ?_)
  replace h := h b318_ h319_
  replace hu := w321_
  replace k304_ := qs_R_keep (j := 21) (n := 128) h319_ k304_ (by decide)
  replace k305_ := qs_R_keep (j := 21) (n := 128) h319_ k305_ (by decide)
  replace k310_ := qs_R_keep (j := 21) (n := 128) h319_ k310_ (by decide)
  replace k316_ := qs_R_keep (j := 21) (n := 128) h319_ k316_ (by decide)
  have k322_ : q_K (qs_R S317_ 21 128 b318_) b318_ = 21 := qs_R_Ks
  refine q_putP X Y (some b318_) rfl kX12 46 rfl fl_X12_94 k305_ _ rfl (Or.inr ⟨_, rfl⟩) (Or.inr ⟨rfl, hnm, rfl⟩) dX12_init_238 (fun H locs Y => ?_)
  refine lv_aload_n hx hb dX12_init_241 rfl (lv_at hl 0 rfl) ?_
  refine lv_sipush (v := 128) hx hb dX12_init_242 (by decide) ?_
  obtain ⟨w326_, h⟩ := h
  refine q_newa X Y (k := 22) (t := 2) (n := 128) (ty := .boolean) rfl (by decide) rfl (fun _ _ => rfl) (by first | exact rfl | decide | simp [defaultValue]) ar_boolean (by decide) (by decide) (by decide) w326_ dX12_init_245 (fun b323_ H h324_ h325_ Y => ?_)
  replace h := h b323_ h324_
  replace hu := w326_
  replace k304_ := qs_R_keep (j := 22) (n := 128) h324_ k304_ (by decide)
  replace k305_ := qs_R_keep (j := 22) (n := 128) h324_ k305_ (by decide)
  replace k310_ := qs_R_keep (j := 22) (n := 128) h324_ k310_ (by decide)
  replace k316_ := qs_R_keep (j := 22) (n := 128) h324_ k316_ (by decide)
  replace k322_ := qs_R_keep (j := 22) (n := 128) h324_ k322_ (by decide)
  have k327_ : q_K (qs_R (qs_P (qs_R S317_ 21 128 b318_) 2446 a0 (some b318_)) 22 128 b323_) b323_ = 22 := qs_R_Ks
  obtain ⟨S328_, gS328_⟩ : ∃ z : q_S, z = (qs_R (qs_P (qs_R S317_ 21 128 b318_) 2446 a0 (some b318_)) 22 128 b323_) := ⟨_, rfl⟩
  replace Y : q_Y D cy lo s S328_ H locs := by rw [gS328_]; exact Y
  replace h := h S328_ gS328_
  replace k304_ : q_K S328_ b300_ = 21 := by rw [gS328_]; exact k304_
  replace k305_ : q_K S328_ a0 = 13 := by rw [gS328_]; exact k305_
  replace k310_ : q_K S328_ b306_ = 21 := by rw [gS328_]; exact k310_
  replace k316_ : q_K S328_ b312_ = 22 := by rw [gS328_]; exact k316_
  replace k322_ : q_K S328_ b318_ = 21 := by rw [gS328_]; exact k322_
  replace k327_ : q_K S328_ b323_ = 22 := by rw [gS328_]; exact k327_
  refine q_putP X Y (some b323_) rfl kX12 47 rfl fl_X12_97 k305_ _ rfl (Or.inr ⟨_, rfl⟩) (Or.inr ⟨rfl, hnm, rfl⟩) dX12_init_247 (fun H locs Y => ?_)
  refine lv_aload_n hx hb dX12_init_250 rfl (lv_at hl 0 rfl) ?_
  refine lv_sipush (v := 256) hx hb dX12_init_251 (by decide) ?_
  obtain ⟨w332_, h⟩ := h
  refine q_newa X Y (k := 22) (t := 2) (n := 256) (ty := .boolean) rfl (by decide) rfl (fun _ _ => rfl) (by first | exact rfl | decide | simp [defaultValue]) ar_boolean (by decide) (by decide) (by decide) w332_ dX12_init_254 (fun b329_ H h330_ h331_ Y => ?_)
  replace h := h b329_ h330_
  replace hu := w332_
  replace k304_ := qs_R_keep (j := 22) (n := 256) h330_ k304_ (by decide)
  replace k305_ := qs_R_keep (j := 22) (n := 256) h330_ k305_ (by decide)
  replace k310_ := qs_R_keep (j := 22) (n := 256) h330_ k310_ (by decide)
  replace k316_ := qs_R_keep (j := 22) (n := 256) h330_ k316_ (by decide)
  replace k322_ := qs_R_keep (j := 22) (n := 256) h330_ k322_ (by decide)
  replace k327_ := qs_R_keep (j := 22) (n := 256) h330_ k327_ (by decide)
  have k333_ : q_K (qs_R (qs_P S328_ 2447 a0 (some b323_)) 22 256 b329_) b329_ = 22 := qs_R_Ks
  refine q_putP X Y (some b329_) rfl kX12 48 rfl fl_X12_100 k305_ _ rfl (Or.inr ⟨_, rfl⟩) (Or.inr ⟨rfl, hnm, rfl⟩) dX12_init_256 (fun H locs Y => ?_)
  obtain ⟨S334_, gS334_⟩ : ∃ z : q_S, z = (qs_P (qs_R (qs_P S328_ 2447 a0 (some b323_)) 22 256 b329_) 2448 a0 (some b329_)) := ⟨_, rfl⟩
  replace Y : q_Y D cy lo s S334_ H locs := by rw [gS334_]; exact Y
  replace h := h S334_ gS334_
  replace k304_ : q_K S334_ b300_ = 21 := by rw [gS334_]; exact k304_
  replace k305_ : q_K S334_ a0 = 13 := by rw [gS334_]; exact k305_
  replace k310_ : q_K S334_ b306_ = 21 := by rw [gS334_]; exact k310_
  replace k316_ : q_K S334_ b312_ = 22 := by rw [gS334_]; exact k316_
  replace k322_ : q_K S334_ b318_ = 21 := by rw [gS334_]; exact k322_
  replace k327_ : q_K S334_ b323_ = 22 := by rw [gS334_]; exact k327_
  replace k333_ : q_K S334_ b329_ = 22 := by rw [gS334_]; exact k333_
  refine lv_aload_n hx hb dX12_init_259 rfl (lv_at hl 0 rfl) ?_
  refine lv_sipush (v := 256) hx hb dX12_init_260 (by decide) ?_
  obtain ⟨w338_, h⟩ := h
  refine q_newa X Y (k := 22) (t := 2) (n := 256) (ty := .boolean) rfl (by decide) rfl (fun _ _ => rfl) (by first | exact rfl | decide | simp [defaultValue]) ar_boolean (by decide) (by decide) (by decide) w338_ dX12_init_263 (fun b335_ H h336_ h337_ Y => ?_)
  replace h := h b335_ h336_
  replace hu := w338_
  replace k304_ := qs_R_keep (j := 22) (n := 256) h336_ k304_ (by decide)
  replace k305_ := qs_R_keep (j := 22) (n := 256) h336_ k305_ (by decide)
  replace k310_ := qs_R_keep (j := 22) (n := 256) h336_ k310_ (by decide)
  replace k316_ := qs_R_keep (j := 22) (n := 256) h336_ k316_ (by decide)
  replace k322_ := qs_R_keep (j := 22) (n := 256) h336_ k322_ (by decide)
  replace k327_ := qs_R_keep (j := 22) (n := 256) h336_ k327_ (by decide)
  replace k333_ := qs_R_keep (j := 22) (n := 256) h336_ k333_ (by decide)
  have k339_ : q_K (qs_R S334_ 22 256 b335_) b335_ = 22 := qs_R_Ks
  refine q_putP X Y (some b335_) rfl kX12 49 rfl fl_X12_103 k305_ _ rfl (Or.inr ⟨_, rfl⟩) (Or.inr ⟨rfl, hnm, rfl⟩) dX12_init_265 (fun H locs Y => ?_)
  refine lv_aload_n hx hb dX12_init_268 rfl (lv_at hl 0 rfl) ?_
  refine lv_sipush (v := 256) hx hb dX12_init_269 (by decide) ?_
  obtain ⟨w343_, h⟩ := h
  refine q_newa X Y (k := 21) (t := 1) (n := 256) (ty := .int) rfl (by decide) rfl (fun _ _ => rfl) (by first | exact rfl | decide | simp [defaultValue]) ar_int (by decide) (by decide) (by decide) w343_ dX12_init_272 (fun b340_ H h341_ h342_ Y => ?_)
  replace h := h b340_ h341_
  replace hu := w343_
  replace k304_ := qs_R_keep (j := 21) (n := 256) h341_ k304_ (by decide)
  replace k305_ := qs_R_keep (j := 21) (n := 256) h341_ k305_ (by decide)
  replace k310_ := qs_R_keep (j := 21) (n := 256) h341_ k310_ (by decide)
  replace k316_ := qs_R_keep (j := 21) (n := 256) h341_ k316_ (by decide)
  replace k322_ := qs_R_keep (j := 21) (n := 256) h341_ k322_ (by decide)
  replace k327_ := qs_R_keep (j := 21) (n := 256) h341_ k327_ (by decide)
  replace k333_ := qs_R_keep (j := 21) (n := 256) h341_ k333_ (by decide)
  replace k339_ := qs_R_keep (j := 21) (n := 256) h341_ k339_ (by decide)
  have k344_ : q_K (qs_R (qs_P (qs_R S334_ 22 256 b335_) 2449 a0 (some b335_)) 21 256 b340_) b340_ = 21 := qs_R_Ks
  obtain ⟨S345_, gS345_⟩ : ∃ z : q_S, z = (qs_R (qs_P (qs_R S334_ 22 256 b335_) 2449 a0 (some b335_)) 21 256 b340_) := ⟨_, rfl⟩
  replace Y : q_Y D cy lo s S345_ H locs := by rw [gS345_]; exact Y
  replace h := h S345_ gS345_
  replace k304_ : q_K S345_ b300_ = 21 := by rw [gS345_]; exact k304_
  replace k305_ : q_K S345_ a0 = 13 := by rw [gS345_]; exact k305_
  replace k310_ : q_K S345_ b306_ = 21 := by rw [gS345_]; exact k310_
  replace k316_ : q_K S345_ b312_ = 22 := by rw [gS345_]; exact k316_
  replace k322_ : q_K S345_ b318_ = 21 := by rw [gS345_]; exact k322_
  replace k327_ : q_K S345_ b323_ = 22 := by rw [gS345_]; exact k327_
  replace k333_ : q_K S345_ b329_ = 22 := by rw [gS345_]; exact k333_
  replace k339_ : q_K S345_ b335_ = 22 := by rw [gS345_]; exact k339_
  replace k344_ : q_K S345_ b340_ = 21 := by rw [gS345_]; exact k344_
  refine q_putP X Y (some b340_) rfl kX12 50 rfl fl_X12_106 k305_ _ rfl (Or.inr ⟨_, rfl⟩) (Or.inr ⟨rfl, hnm, rfl⟩) dX12_init_274 (fun H locs Y => ?_)
  refine lv_aload_n hx hb dX12_init_277 rfl (lv_at hl 0 rfl) ?_
  refine lv_bipush (v := 16) hx hb dX12_init_278 (by decide) ?_
  obtain ⟨w349_, h⟩ := h
  refine q_newa X Y (k := 22) (t := 2) (n := 16) (ty := .boolean) rfl (by decide) rfl (fun _ _ => rfl) (by first | exact rfl | decide | simp [defaultValue]) ar_boolean (by decide) (by decide) (by decide) w349_ dX12_init_280 (fun b346_ H h347_ h348_ Y => ?_)
  replace h := h b346_ h347_
  replace hu := w349_
  replace k304_ := qs_R_keep (j := 22) (n := 16) h347_ k304_ (by decide)
  replace k305_ := qs_R_keep (j := 22) (n := 16) h347_ k305_ (by decide)
  replace k310_ := qs_R_keep (j := 22) (n := 16) h347_ k310_ (by decide)
  replace k316_ := qs_R_keep (j := 22) (n := 16) h347_ k316_ (by decide)
  replace k322_ := qs_R_keep (j := 22) (n := 16) h347_ k322_ (by decide)
  replace k327_ := qs_R_keep (j := 22) (n := 16) h347_ k327_ (by decide)
  replace k333_ := qs_R_keep (j := 22) (n := 16) h347_ k333_ (by decide)
  replace k339_ := qs_R_keep (j := 22) (n := 16) h347_ k339_ (by decide)
  replace k344_ := qs_R_keep (j := 22) (n := 16) h347_ k344_ (by decide)
  have k350_ : q_K (qs_R (qs_P S345_ 2450 a0 (some b340_)) 22 16 b346_) b346_ = 22 := qs_R_Ks
  refine q_putP X Y (some b346_) rfl kX12 51 rfl fl_X12_109 k305_ _ rfl (Or.inr ⟨_, rfl⟩) (Or.inr ⟨rfl, hnm, rfl⟩) dX12_init_282 (fun H locs Y => ?_)
  obtain ⟨S351_, gS351_⟩ : ∃ z : q_S, z = (qs_P (qs_R (qs_P S345_ 2450 a0 (some b340_)) 22 16 b346_) 2451 a0 (some b346_)) := ⟨_, rfl⟩
  replace Y : q_Y D cy lo s S351_ H locs := by rw [gS351_]; exact Y
  replace h := h S351_ gS351_
  replace k304_ : q_K S351_ b300_ = 21 := by rw [gS351_]; exact k304_
  replace k305_ : q_K S351_ a0 = 13 := by rw [gS351_]; exact k305_
  replace k310_ : q_K S351_ b306_ = 21 := by rw [gS351_]; exact k310_
  replace k316_ : q_K S351_ b312_ = 22 := by rw [gS351_]; exact k316_
  replace k322_ : q_K S351_ b318_ = 21 := by rw [gS351_]; exact k322_
  replace k327_ : q_K S351_ b323_ = 22 := by rw [gS351_]; exact k327_
  replace k333_ : q_K S351_ b329_ = 22 := by rw [gS351_]; exact k333_
  replace k339_ : q_K S351_ b335_ = 22 := by rw [gS351_]; exact k339_
  replace k344_ : q_K S351_ b340_ = 21 := by rw [gS351_]; exact k344_
  replace k350_ : q_K S351_ b346_ = 22 := by rw [gS351_]; exact k350_
  refine lv_aload_n hx hb dX12_init_285 rfl (lv_at hl 0 rfl) ?_
  refine lv_bipush (v := 80) hx hb dX12_init_286 (by decide) ?_
  obtain ⟨w355_, h⟩ := h
  refine q_newa X Y (k := 21) (t := 1) (n := 80) (ty := .int) rfl (by decide) rfl (fun _ _ => rfl) (by first | exact rfl | decide | simp [defaultValue]) ar_int (by decide) (by decide) (by decide) w355_ dX12_init_288 (fun b352_ H h353_ h354_ Y => ?_)
  replace h := h b352_ h353_
  replace hu := w355_
  replace k304_ := qs_R_keep (j := 21) (n := 80) h353_ k304_ (by decide)
  replace k305_ := qs_R_keep (j := 21) (n := 80) h353_ k305_ (by decide)
  replace k310_ := qs_R_keep (j := 21) (n := 80) h353_ k310_ (by decide)
  replace k316_ := qs_R_keep (j := 21) (n := 80) h353_ k316_ (by decide)
  replace k322_ := qs_R_keep (j := 21) (n := 80) h353_ k322_ (by decide)
  replace k327_ := qs_R_keep (j := 21) (n := 80) h353_ k327_ (by decide)
  replace k333_ := qs_R_keep (j := 21) (n := 80) h353_ k333_ (by decide)
  replace k339_ := qs_R_keep (j := 21) (n := 80) h353_ k339_ (by decide)
  replace k344_ := qs_R_keep (j := 21) (n := 80) h353_ k344_ (by decide)
  replace k350_ := qs_R_keep (j := 21) (n := 80) h353_ k350_ (by decide)
  have k356_ : q_K (qs_R S351_ 21 80 b352_) b352_ = 21 := qs_R_Ks
  refine q_putP X Y (some b352_) rfl kX12 52 rfl fl_X12_112 k305_ _ rfl (Or.inr ⟨_, rfl⟩) (Or.inr ⟨rfl, hnm, rfl⟩) dX12_init_290 (fun H locs Y => ?_)
  refine lv_aload_n hx hb dX12_init_293 rfl (lv_at hl 0 rfl) ?_
  refine lv_bipush (v := 24) hx hb dX12_init_294 (by decide) ?_
  obtain ⟨w360_, h⟩ := h
  refine q_newa X Y (k := 22) (t := 2) (n := 24) (ty := .boolean) rfl (by decide) rfl (fun _ _ => rfl) (by first | exact rfl | decide | simp [defaultValue]) ar_boolean (by decide) (by decide) (by decide) w360_ dX12_init_296 (fun b357_ H h358_ h359_ Y => ?_)
  replace h := h b357_ h358_
  replace hu := w360_
  replace k304_ := qs_R_keep (j := 22) (n := 24) h358_ k304_ (by decide)
  replace k305_ := qs_R_keep (j := 22) (n := 24) h358_ k305_ (by decide)
  replace k310_ := qs_R_keep (j := 22) (n := 24) h358_ k310_ (by decide)
  replace k316_ := qs_R_keep (j := 22) (n := 24) h358_ k316_ (by decide)
  replace k322_ := qs_R_keep (j := 22) (n := 24) h358_ k322_ (by decide)
  replace k327_ := qs_R_keep (j := 22) (n := 24) h358_ k327_ (by decide)
  replace k333_ := qs_R_keep (j := 22) (n := 24) h358_ k333_ (by decide)
  replace k339_ := qs_R_keep (j := 22) (n := 24) h358_ k339_ (by decide)
  replace k344_ := qs_R_keep (j := 22) (n := 24) h358_ k344_ (by decide)
  replace k350_ := qs_R_keep (j := 22) (n := 24) h358_ k350_ (by decide)
  replace k356_ := qs_R_keep (j := 22) (n := 24) h358_ k356_ (by decide)
  have k361_ : q_K (qs_R (qs_P (qs_R S351_ 21 80 b352_) 2452 a0 (some b352_)) 22 24 b357_) b357_ = 22 := qs_R_Ks
  obtain ⟨S362_, gS362_⟩ : ∃ z : q_S, z = (qs_R (qs_P (qs_R S351_ 21 80 b352_) 2452 a0 (some b352_)) 22 24 b357_) := ⟨_, rfl⟩
  replace Y : q_Y D cy lo s S362_ H locs := by rw [gS362_]; exact Y
  replace h := h S362_ gS362_
  replace k304_ : q_K S362_ b300_ = 21 := by rw [gS362_]; exact k304_
  replace k305_ : q_K S362_ a0 = 13 := by rw [gS362_]; exact k305_
  replace k310_ : q_K S362_ b306_ = 21 := by rw [gS362_]; exact k310_
  replace k316_ : q_K S362_ b312_ = 22 := by rw [gS362_]; exact k316_
  replace k322_ : q_K S362_ b318_ = 21 := by rw [gS362_]; exact k322_
  replace k327_ : q_K S362_ b323_ = 22 := by rw [gS362_]; exact k327_
  replace k333_ : q_K S362_ b329_ = 22 := by rw [gS362_]; exact k333_
  replace k339_ : q_K S362_ b335_ = 22 := by rw [gS362_]; exact k339_
  replace k344_ : q_K S362_ b340_ = 21 := by rw [gS362_]; exact k344_
  replace k350_ : q_K S362_ b346_ = 22 := by rw [gS362_]; exact k350_
  replace k356_ : q_K S362_ b352_ = 21 := by rw [gS362_]; exact k356_
  replace k361_ : q_K S362_ b357_ = 22 := by rw [gS362_]; exact k361_
  refine q_putP X Y (some b357_) rfl kX12 54 rfl fl_X12_115 k305_ _ rfl (Or.inr ⟨_, rfl⟩) (Or.inr ⟨rfl, hnm, rfl⟩) dX12_init_298 (fun H locs Y => ?_)
  refine lv_aload_n hx hb dX12_init_301 rfl (lv_at hl 0 rfl) ?_
  refine lv_bipush (v := 24) hx hb dX12_init_302 (by decide) ?_
  obtain ⟨w366_, h⟩ := h
  refine q_newa X Y (k := 21) (t := 1) (n := 24) (ty := .int) rfl (by decide) rfl (fun _ _ => rfl) (by first | exact rfl | decide | simp [defaultValue]) ar_int (by decide) (by decide) (by decide) w366_ dX12_init_304 (fun b363_ H h364_ h365_ Y => ?_)
  replace h := h b363_ h364_
  replace hu := w366_
  replace k304_ := qs_R_keep (j := 21) (n := 24) h364_ k304_ (by decide)
  replace k305_ := qs_R_keep (j := 21) (n := 24) h364_ k305_ (by decide)
  replace k310_ := qs_R_keep (j := 21) (n := 24) h364_ k310_ (by decide)
  replace k316_ := qs_R_keep (j := 21) (n := 24) h364_ k316_ (by decide)
  replace k322_ := qs_R_keep (j := 21) (n := 24) h364_ k322_ (by decide)
  replace k327_ := qs_R_keep (j := 21) (n := 24) h364_ k327_ (by decide)
  replace k333_ := qs_R_keep (j := 21) (n := 24) h364_ k333_ (by decide)
  replace k339_ := qs_R_keep (j := 21) (n := 24) h364_ k339_ (by decide)
  replace k344_ := qs_R_keep (j := 21) (n := 24) h364_ k344_ (by decide)
  replace k350_ := qs_R_keep (j := 21) (n := 24) h364_ k350_ (by decide)
  replace k356_ := qs_R_keep (j := 21) (n := 24) h364_ k356_ (by decide)
  replace k361_ := qs_R_keep (j := 21) (n := 24) h364_ k361_ (by decide)
  have k367_ : q_K (qs_R (qs_P S362_ 2454 a0 (some b357_)) 21 24 b363_) b363_ = 21 := qs_R_Ks
  refine q_putP X Y (some b363_) rfl kX12 55 rfl fl_X12_118 k305_ _ rfl (Or.inr ⟨_, rfl⟩) (Or.inr ⟨rfl, hnm, rfl⟩) dX12_init_306 (fun H locs Y => ?_)
  obtain ⟨S368_, gS368_⟩ : ∃ z : q_S, z = (qs_P (qs_R (qs_P S362_ 2454 a0 (some b357_)) 21 24 b363_) 2455 a0 (some b363_)) := ⟨_, rfl⟩
  replace Y : q_Y D cy lo s S368_ H locs := by rw [gS368_]; exact Y
  replace h := h S368_ gS368_
  replace k304_ : q_K S368_ b300_ = 21 := by rw [gS368_]; exact k304_
  replace k305_ : q_K S368_ a0 = 13 := by rw [gS368_]; exact k305_
  replace k310_ : q_K S368_ b306_ = 21 := by rw [gS368_]; exact k310_
  replace k316_ : q_K S368_ b312_ = 22 := by rw [gS368_]; exact k316_
  replace k322_ : q_K S368_ b318_ = 21 := by rw [gS368_]; exact k322_
  replace k327_ : q_K S368_ b323_ = 22 := by rw [gS368_]; exact k327_
  replace k333_ : q_K S368_ b329_ = 22 := by rw [gS368_]; exact k333_
  replace k339_ : q_K S368_ b335_ = 22 := by rw [gS368_]; exact k339_
  replace k344_ : q_K S368_ b340_ = 21 := by rw [gS368_]; exact k344_
  replace k350_ : q_K S368_ b346_ = 22 := by rw [gS368_]; exact k350_
  replace k356_ : q_K S368_ b352_ = 21 := by rw [gS368_]; exact k356_
  replace k361_ : q_K S368_ b357_ = 22 := by rw [gS368_]; exact k361_
  replace k367_ : q_K S368_ b363_ = 21 := by rw [gS368_]; exact k367_
  exact cb_X12_init_309 X hnm hu Y (lv_sub hl [0] rfl) h
def wb_X12_init_99 (bc bs : Nat)  (u v : Nat) (S : q_S) (a0 : Nat) (Q : Option Value → q_S → Prop) : Prop := (u + 1 ≤ bc ∧ v + 1024 ≤ bs) ∧ (∀ b369_ : Nat, q_K S b369_ = 0 → (q_K (qs_R S 21 1024 b369_) a0 = 13 ∧ (((u + 1) + 1 ≤ bc ∧ (v + 1024) + 1024 ≤ bs) ∧ (∀ b375_ : Nat, q_K (qs_P (qs_R S 21 1024 b369_) 2431 a0 (some b369_)) b375_ = 0 → (∀ S380_ : q_S, S380_ = (qs_R (qs_P (qs_R S 21 1024 b369_) 2431 a0 (some b369_)) 21 1024 b375_) → ((((u + 1) + 1) + 1 ≤ bc ∧ ((v + 1024) + 1024) + 1024 ≤ bs) ∧ (∀ b381_ : Nat, q_K (qs_P S380_ 2432 a0 (some b375_)) b381_ = 0 → (∀ S386_ : q_S, S386_ = (qs_P (qs_R (qs_P S380_ 2432 a0 (some b375_)) 21 1024 b381_) 2433 a0 (some b381_)) → (((((u + 1) + 1) + 1) + 1 ≤ bc ∧ (((v + 1024) + 1024) + 1024) + 1024 ≤ bs) ∧ (∀ b387_ : Nat, q_K S386_ b387_ = 0 → ((((((u + 1) + 1) + 1) + 1) + 1 ≤ bc ∧ ((((v + 1024) + 1024) + 1024) + 1024) + 96 ≤ bs) ∧ (∀ b392_ : Nat, q_K (qs_P (qs_R S386_ 21 1024 b387_) 2434 a0 (some b387_)) b392_ = 0 → (∀ S397_ : q_S, S397_ = (qs_R (qs_P (qs_R S386_ 21 1024 b387_) 2434 a0 (some b387_)) 21 96 b392_) → (((((((u + 1) + 1) + 1) + 1) + 1) + 1 ≤ bc ∧ (((((v + 1024) + 1024) + 1024) + 1024) + 96) + 256 ≤ bs) ∧ (∀ b398_ : Nat, q_K (qs_P S397_ 2435 a0 (some b392_)) b398_ = 0 → (∀ S403_ : q_S, S403_ = (qs_P (qs_R (qs_P S397_ 2435 a0 (some b392_)) 21 256 b398_) 2436 a0 (some b398_)) → ((((((((u + 1) + 1) + 1) + 1) + 1) + 1) + 1 ≤ bc ∧ ((((((v + 1024) + 1024) + 1024) + 1024) + 96) + 256) + 256 ≤ bs) ∧ (∀ b404_ : Nat, q_K S403_ b404_ = 0 → (((((((((u + 1) + 1) + 1) + 1) + 1) + 1) + 1) + 1 ≤ bc ∧ (((((((v + 1024) + 1024) + 1024) + 1024) + 96) + 256) + 256) + 256 ≤ bs) ∧ (∀ b409_ : Nat, q_K (qs_P (qs_R S403_ 21 256 b404_) 2437 a0 (some b404_)) b409_ = 0 → (∀ S414_ : q_S, S414_ = (qs_R (qs_P (qs_R S403_ 21 256 b404_) 2437 a0 (some b404_)) 21 256 b409_) → ((((((((((u + 1) + 1) + 1) + 1) + 1) + 1) + 1) + 1) + 1 ≤ bc ∧ ((((((((v + 1024) + 1024) + 1024) + 1024) + 96) + 256) + 256) + 256) + 256 ≤ bs) ∧ (∀ b415_ : Nat, q_K (qs_P S414_ 2438 a0 (some b409_)) b415_ = 0 → (∀ S420_ : q_S, S420_ = (qs_P (qs_R (qs_P S414_ 2438 a0 (some b409_)) 21 256 b415_) 2439 a0 (some b415_)) → (((((((((((u + 1) + 1) + 1) + 1) + 1) + 1) + 1) + 1) + 1) + 1 ≤ bc ∧ (((((((((v + 1024) + 1024) + 1024) + 1024) + 96) + 256) + 256) + 256) + 256) + 256 ≤ bs) ∧ (∀ b421_ : Nat, q_K S420_ b421_ = 0 → ((((((((((((u + 1) + 1) + 1) + 1) + 1) + 1) + 1) + 1) + 1) + 1) + 1 ≤ bc ∧ ((((((((((v + 1024) + 1024) + 1024) + 1024) + 96) + 256) + 256) + 256) + 256) + 256) + 256 ≤ bs) ∧ (∀ b426_ : Nat, q_K (qs_P (qs_R S420_ 21 256 b421_) 2440 a0 (some b421_)) b426_ = 0 → (∀ S431_ : q_S, S431_ = (qs_R (qs_P (qs_R S420_ 21 256 b421_) 2440 a0 (some b421_)) 22 256 b426_) → (((((((((((((u + 1) + 1) + 1) + 1) + 1) + 1) + 1) + 1) + 1) + 1) + 1) + 1 ≤ bc ∧ (((((((((((v + 1024) + 1024) + 1024) + 1024) + 96) + 256) + 256) + 256) + 256) + 256) + 256) + 16 ≤ bs) ∧ (∀ b432_ : Nat, q_K (qs_P S431_ 2441 a0 (some b426_)) b432_ = 0 → (∀ S437_ : q_S, S437_ = (qs_P (qs_R (qs_P S431_ 2441 a0 (some b426_)) 21 16 b432_) 2442 a0 (some b432_)) → (wb_X12_init_205 bc bs ((((((((((((u + 1) + 1) + 1) + 1) + 1) + 1) + 1) + 1) + 1) + 1) + 1) + 1) ((((((((((((v + 1024) + 1024) + 1024) + 1024) + 96) + 256) + 256) + 256) + 256) + 256) + 256) + 16) S437_ a0 Q)))))))))))))))))))))))))))))))))
set_option maxHeartbeats 4000000 in
set_option maxRecDepth 100000 in
theorem cb_X12_init_99 {p : Program} {l : Launch} {e : Env} {s : State} {m : MethodId} {args : Array Value} {below : List Frame} {meth : Method} {c : Code} {D : va_G} {cy : Nat → ClassId} {lo : Nat} {bc bs : Nat}  {u v : Nat} {S : q_S} {a0 : Nat} {Q : Option Value → q_S → Prop} {H : Heap} {locs : List Loc} {ls : Array Slot} (X : q_X p s m args meth c RX12 cX12_init 1 none D cy lo) (hnm : meth.name = "<init>")  (hu : u ≤ bc ∧ v ≤ bs) (Y : q_Y D cy lo s S H locs) (hl : lv_has ls 1 [(0, .ref a0)]) (h : wb_X12_init_99 bc bs u v S a0 Q) : W p l e ({ frames := 1, cells := bc, slots := bs, locals := 20 } : Room) s m args below meth c H locs u v (MQ below (q_Q D cy lo Q) args s bc bs (fun q => lo ≤ q)) (F0 m 99 ls []) := by
  have hx := X.1
  have hb := X.2.1
  unfold wb_X12_init_99 at h
  refine lv_aload_n hx hb dX12_init_99 rfl (lv_at hl 0 rfl) ?_
  refine lv_sipush (v := 1024) hx hb dX12_init_100 (by decide) ?_
  obtain ⟨w372_, h⟩ := h
  refine q_newa X Y (k := 21) (t := 1) (n := 1024) (ty := .int) rfl (by decide) rfl (fun _ _ => rfl) (by first | exact rfl | decide | simp [defaultValue]) ar_int (by decide) (by decide) (by decide) w372_ dX12_init_103 (fun b369_ H h370_ h371_ Y => ?_)
  replace h := h b369_ h370_
  replace hu := w372_
  have k373_ : q_K (qs_R S 21 1024 b369_) b369_ = 21 := qs_R_Ks
  obtain ⟨k374_, h⟩ := h
  refine q_putP X Y (some b369_) rfl kX12 31 rfl fl_X12_48 k374_ _ rfl (Or.inr ⟨_, rfl⟩) (Or.inr ⟨rfl, hnm, rfl⟩) dX12_init_105 (fun H locs Y => ?_)
  refine lv_aload_n hx hb dX12_init_108 rfl (lv_at hl 0 rfl) ?_
  refine lv_sipush (v := 1024) hx hb dX12_init_109 (by decide) ?_
  obtain ⟨w378_, h⟩ := h
  refine q_newa X Y (k := 21) (t := 1) (n := 1024) (ty := .int) rfl (by decide) rfl (fun _ _ => rfl) (by first | exact rfl | decide | simp [defaultValue]) ar_int (by decide) (by decide) (by decide) w378_ dX12_init_112 (fun b375_ H h376_ h377_ Y => ?_)
  replace h := h b375_ h376_
  replace hu := w378_
  replace k373_ := qs_R_keep (j := 21) (n := 1024) h376_ k373_ (by decide)
  replace k374_ := qs_R_keep (j := 21) (n := 1024) h376_ k374_ (by decide)
  have k379_ : q_K (qs_R (qs_P (qs_R S 21 1024 b369_) 2431 a0 (some b369_)) 21 1024 b375_) b375_ = 21 := qs_R_Ks
  obtain ⟨S380_, gS380_⟩ : ∃ z : q_S, z = (qs_R (qs_P (qs_R S 21 1024 b369_) 2431 a0 (some b369_)) 21 1024 b375_) := ⟨_, rfl⟩
  replace Y : q_Y D cy lo s S380_ H locs := by rw [gS380_]; exact Y
  replace h := h S380_ gS380_
  replace k373_ : q_K S380_ b369_ = 21 := by rw [gS380_]; exact k373_
  replace k374_ : q_K S380_ a0 = 13 := by rw [gS380_]; exact k374_
  replace k379_ : q_K S380_ b375_ = 21 := by rw [gS380_]; exact k379_
  refine q_putP X Y (some b375_) rfl kX12 32 rfl fl_X12_51 k374_ _ rfl (Or.inr ⟨_, rfl⟩) (Or.inr ⟨rfl, hnm, rfl⟩) dX12_init_114 (fun H locs Y => ?_)
  refine lv_aload_n hx hb dX12_init_117 rfl (lv_at hl 0 rfl) ?_
  refine lv_sipush (v := 1024) hx hb dX12_init_118 (by decide) ?_
  obtain ⟨w384_, h⟩ := h
  refine q_newa X Y (k := 21) (t := 1) (n := 1024) (ty := .int) rfl (by decide) rfl (fun _ _ => rfl) (by first | exact rfl | decide | simp [defaultValue]) ar_int (by decide) (by decide) (by decide) w384_ dX12_init_121 (fun b381_ H h382_ h383_ Y => ?_)
  replace h := h b381_ h382_
  replace hu := w384_
  replace k373_ := qs_R_keep (j := 21) (n := 1024) h382_ k373_ (by decide)
  replace k374_ := qs_R_keep (j := 21) (n := 1024) h382_ k374_ (by decide)
  replace k379_ := qs_R_keep (j := 21) (n := 1024) h382_ k379_ (by decide)
  have k385_ : q_K (qs_R (qs_P S380_ 2432 a0 (some b375_)) 21 1024 b381_) b381_ = 21 := qs_R_Ks
  refine q_putP X Y (some b381_) rfl kX12 33 rfl fl_X12_54 k374_ _ rfl (Or.inr ⟨_, rfl⟩) (Or.inr ⟨rfl, hnm, rfl⟩) dX12_init_123 (fun H locs Y => ?_)
  obtain ⟨S386_, gS386_⟩ : ∃ z : q_S, z = (qs_P (qs_R (qs_P S380_ 2432 a0 (some b375_)) 21 1024 b381_) 2433 a0 (some b381_)) := ⟨_, rfl⟩
  replace Y : q_Y D cy lo s S386_ H locs := by rw [gS386_]; exact Y
  replace h := h S386_ gS386_
  replace k373_ : q_K S386_ b369_ = 21 := by rw [gS386_]; exact k373_
  replace k374_ : q_K S386_ a0 = 13 := by rw [gS386_]; exact k374_
  replace k379_ : q_K S386_ b375_ = 21 := by rw [gS386_]; exact k379_
  replace k385_ : q_K S386_ b381_ = 21 := by rw [gS386_]; exact k385_
  refine lv_aload_n hx hb dX12_init_126 rfl (lv_at hl 0 rfl) ?_
  refine lv_sipush (v := 1024) hx hb dX12_init_127 (by decide) ?_
  obtain ⟨w390_, h⟩ := h
  refine q_newa X Y (k := 21) (t := 1) (n := 1024) (ty := .int) rfl (by decide) rfl (fun _ _ => rfl) (by first | exact rfl | decide | simp [defaultValue]) ar_int (by decide) (by decide) (by decide) w390_ dX12_init_130 (fun b387_ H h388_ h389_ Y => ?_)
  replace h := h b387_ h388_
  replace hu := w390_
  replace k373_ := qs_R_keep (j := 21) (n := 1024) h388_ k373_ (by decide)
  replace k374_ := qs_R_keep (j := 21) (n := 1024) h388_ k374_ (by decide)
  replace k379_ := qs_R_keep (j := 21) (n := 1024) h388_ k379_ (by decide)
  replace k385_ := qs_R_keep (j := 21) (n := 1024) h388_ k385_ (by decide)
  have k391_ : q_K (qs_R S386_ 21 1024 b387_) b387_ = 21 := qs_R_Ks
  refine q_putP X Y (some b387_) rfl kX12 34 rfl fl_X12_57 k374_ _ rfl (Or.inr ⟨_, rfl⟩) (Or.inr ⟨rfl, hnm, rfl⟩) dX12_init_132 (fun H locs Y => ?_)
  refine lv_aload_n hx hb dX12_init_135 rfl (lv_at hl 0 rfl) ?_
  refine lv_bipush (v := 96) hx hb dX12_init_136 (by decide) ?_
  obtain ⟨w395_, h⟩ := h
  refine q_newa X Y (k := 21) (t := 1) (n := 96) (ty := .int) rfl (by decide) rfl (fun _ _ => rfl) (by first | exact rfl | decide | simp [defaultValue]) ar_int (by decide) (by decide) (by decide) w395_ dX12_init_138 (fun b392_ H h393_ h394_ Y => ?_)
  replace h := h b392_ h393_
  replace hu := w395_
  replace k373_ := qs_R_keep (j := 21) (n := 96) h393_ k373_ (by decide)
  replace k374_ := qs_R_keep (j := 21) (n := 96) h393_ k374_ (by decide)
  replace k379_ := qs_R_keep (j := 21) (n := 96) h393_ k379_ (by decide)
  replace k385_ := qs_R_keep (j := 21) (n := 96) h393_ k385_ (by decide)
  replace k391_ := qs_R_keep (j := 21) (n := 96) h393_ k391_ (by decide)
  have k396_ : q_K (qs_R (qs_P (qs_R S386_ 21 1024 b387_) 2434 a0 (some b387_)) 21 96 b392_) b392_ = 21 := qs_R_Ks
  obtain ⟨S397_, gS397_⟩ : ∃ z : q_S, z = (qs_R (qs_P (qs_R S386_ 21 1024 b387_) 2434 a0 (some b387_)) 21 96 b392_) := ⟨_, rfl⟩
  replace Y : q_Y D cy lo s S397_ H locs := by rw [gS397_]; exact Y
  replace h := h S397_ gS397_
  replace k373_ : q_K S397_ b369_ = 21 := by rw [gS397_]; exact k373_
  replace k374_ : q_K S397_ a0 = 13 := by rw [gS397_]; exact k374_
  replace k379_ : q_K S397_ b375_ = 21 := by rw [gS397_]; exact k379_
  replace k385_ : q_K S397_ b381_ = 21 := by rw [gS397_]; exact k385_
  replace k391_ : q_K S397_ b387_ = 21 := by rw [gS397_]; exact k391_
  replace k396_ : q_K S397_ b392_ = 21 := by rw [gS397_]; exact k396_
  refine q_putP X Y (some b392_) rfl kX12 35 rfl fl_X12_60 k374_ _ rfl (Or.inr ⟨_, rfl⟩) (Or.inr ⟨rfl, hnm, rfl⟩) dX12_init_140 (fun H locs Y => ?_)
  refine lv_aload_n hx hb dX12_init_143 rfl (lv_at hl 0 rfl) ?_
  refine lv_sipush (v := 256) hx hb dX12_init_144 (by decide) ?_
  obtain ⟨w401_, h⟩ := h
  refine q_newa X Y (k := 21) (t := 1) (n := 256) (ty := .int) rfl (by decide) rfl (fun _ _ => rfl) (by first | exact rfl | decide | simp [defaultValue]) ar_int (by decide) (by decide) (by decide) w401_ dX12_init_147 (fun b398_ H h399_ h400_ Y => ?_)
  replace h := h b398_ h399_
  replace hu := w401_
  replace k373_ := qs_R_keep (j := 21) (n := 256) h399_ k373_ (by decide)
  replace k374_ := qs_R_keep (j := 21) (n := 256) h399_ k374_ (by decide)
  replace k379_ := qs_R_keep (j := 21) (n := 256) h399_ k379_ (by decide)
  replace k385_ := qs_R_keep (j := 21) (n := 256) h399_ k385_ (by decide)
  replace k391_ := qs_R_keep (j := 21) (n := 256) h399_ k391_ (by decide)
  replace k396_ := qs_R_keep (j := 21) (n := 256) h399_ k396_ (by decide)
  have k402_ : q_K (qs_R (qs_P S397_ 2435 a0 (some b392_)) 21 256 b398_) b398_ = 21 := qs_R_Ks
  refine q_putP X Y (some b398_) rfl kX12 36 rfl fl_X12_63 k374_ _ rfl (Or.inr ⟨_, rfl⟩) (Or.inr ⟨rfl, hnm, rfl⟩) dX12_init_149 (fun H locs Y => ?_)
  obtain ⟨S403_, gS403_⟩ : ∃ z : q_S, z = (qs_P (qs_R (qs_P S397_ 2435 a0 (some b392_)) 21 256 b398_) 2436 a0 (some b398_)) := ⟨_, rfl⟩
  replace Y : q_Y D cy lo s S403_ H locs := by rw [gS403_]; exact Y
  replace h := h S403_ gS403_
  replace k373_ : q_K S403_ b369_ = 21 := by rw [gS403_]; exact k373_
  replace k374_ : q_K S403_ a0 = 13 := by rw [gS403_]; exact k374_
  replace k379_ : q_K S403_ b375_ = 21 := by rw [gS403_]; exact k379_
  replace k385_ : q_K S403_ b381_ = 21 := by rw [gS403_]; exact k385_
  replace k391_ : q_K S403_ b387_ = 21 := by rw [gS403_]; exact k391_
  replace k396_ : q_K S403_ b392_ = 21 := by rw [gS403_]; exact k396_
  replace k402_ : q_K S403_ b398_ = 21 := by rw [gS403_]; exact k402_
  refine lv_aload_n hx hb dX12_init_152 rfl (lv_at hl 0 rfl) ?_
  refine lv_sipush (v := 256) hx hb dX12_init_153 (by decide) ?_
  obtain ⟨w407_, h⟩ := h
  refine q_newa X Y (k := 21) (t := 1) (n := 256) (ty := .int) rfl (by decide) rfl (fun _ _ => rfl) (by first | exact rfl | decide | simp [defaultValue]) ar_int (by decide) (by decide) (by decide) w407_ dX12_init_156 (fun b404_ H h405_ h406_ Y => ?_)
  replace h := h b404_ h405_
  replace hu := w407_
  replace k373_ := qs_R_keep (j := 21) (n := 256) h405_ k373_ (by decide)
  replace k374_ := qs_R_keep (j := 21) (n := 256) h405_ k374_ (by decide)
  replace k379_ := qs_R_keep (j := 21) (n := 256) h405_ k379_ (by decide)
  replace k385_ := qs_R_keep (j := 21) (n := 256) h405_ k385_ (by decide)
  replace k391_ := qs_R_keep (j := 21) (n := 256) h405_ k391_ (by decide)
  replace k396_ := qs_R_keep (j := 21) (n := 256) h405_ k396_ (by decide)
  replace k402_ := qs_R_keep (j := 21) (n := 256) h405_ k402_ (by decide)
  have k408_ : q_K (qs_R S403_ 21 256 b404_) b404_ = 21 := qs_R_Ks
  refine q_putP X Y (some b404_) rfl kX12 37 rfl fl_X12_66 k374_ _ rfl (Or.inr ⟨_, rfl⟩) (Or.inr ⟨rfl, hnm, rfl⟩) dX12_init_158 (fun H locs Y => ?_)
  refine lv_aload_n hx hb dX12_init_161 rfl (lv_at hl 0 rfl) ?_
  refine lv_sipush (v := 256) hx hb dX12_init_162 (by decide) ?_
  obtain ⟨w412_, h⟩ := h
  refine q_newa X Y (k := 21) (t := 1) (n := 256) (ty := .int) rfl (by decide) rfl (fun _ _ => rfl) (by first | exact rfl | decide | simp [defaultValue]) ar_int (by decide) (by decide) (by decide) w412_ dX12_init_165 (fun b409_ H h410_ h411_ Y => ?_)
  replace h := h b409_ h410_
  replace hu := w412_
  replace k373_ := qs_R_keep (j := 21) (n := 256) h410_ k373_ (by decide)
  replace k374_ := qs_R_keep (j := 21) (n := 256) h410_ k374_ (by decide)
  replace k379_ := qs_R_keep (j := 21) (n := 256) h410_ k379_ (by decide)
  replace k385_ := qs_R_keep (j := 21) (n := 256) h410_ k385_ (by decide)
  replace k391_ := qs_R_keep (j := 21) (n := 256) h410_ k391_ (by decide)
  replace k396_ := qs_R_keep (j := 21) (n := 256) h410_ k396_ (by decide)
  replace k402_ := qs_R_keep (j := 21) (n := 256) h410_ k402_ (by decide)
  replace k408_ := qs_R_keep (j := 21) (n := 256) h410_ k408_ (by decide)
  have k413_ : q_K (qs_R (qs_P (qs_R S403_ 21 256 b404_) 2437 a0 (some b404_)) 21 256 b409_) b409_ = 21 := qs_R_Ks
  obtain ⟨S414_, gS414_⟩ : ∃ z : q_S, z = (qs_R (qs_P (qs_R S403_ 21 256 b404_) 2437 a0 (some b404_)) 21 256 b409_) := ⟨_, rfl⟩
  replace Y : q_Y D cy lo s S414_ H locs := by rw [gS414_]; exact Y
  replace h := h S414_ gS414_
  replace k373_ : q_K S414_ b369_ = 21 := by rw [gS414_]; exact k373_
  replace k374_ : q_K S414_ a0 = 13 := by rw [gS414_]; exact k374_
  replace k379_ : q_K S414_ b375_ = 21 := by rw [gS414_]; exact k379_
  replace k385_ : q_K S414_ b381_ = 21 := by rw [gS414_]; exact k385_
  replace k391_ : q_K S414_ b387_ = 21 := by rw [gS414_]; exact k391_
  replace k396_ : q_K S414_ b392_ = 21 := by rw [gS414_]; exact k396_
  replace k402_ : q_K S414_ b398_ = 21 := by rw [gS414_]; exact k402_
  replace k408_ : q_K S414_ b404_ = 21 := by rw [gS414_]; exact k408_
  replace k413_ : q_K S414_ b409_ = 21 := by rw [gS414_]; exact k413_
  refine q_putP X Y (some b409_) rfl kX12 38 rfl fl_X12_69 k374_ _ rfl (Or.inr ⟨_, rfl⟩) (Or.inr ⟨rfl, hnm, rfl⟩) dX12_init_167 (fun H locs Y => ?_)
  refine lv_aload_n hx hb dX12_init_170 rfl (lv_at hl 0 rfl) ?_
  refine lv_sipush (v := 256) hx hb dX12_init_171 (by decide) ?_
  obtain ⟨w418_, h⟩ := h
  refine q_newa X Y (k := 21) (t := 1) (n := 256) (ty := .int) rfl (by decide) rfl (fun _ _ => rfl) (by first | exact rfl | decide | simp [defaultValue]) ar_int (by decide) (by decide) (by decide) w418_ dX12_init_174 (fun b415_ H h416_ h417_ Y => ?_)
  replace h := h b415_ h416_
  replace hu := w418_
  replace k373_ := qs_R_keep (j := 21) (n := 256) h416_ k373_ (by decide)
  replace k374_ := qs_R_keep (j := 21) (n := 256) h416_ k374_ (by decide)
  replace k379_ := qs_R_keep (j := 21) (n := 256) h416_ k379_ (by decide)
  replace k385_ := qs_R_keep (j := 21) (n := 256) h416_ k385_ (by decide)
  replace k391_ := qs_R_keep (j := 21) (n := 256) h416_ k391_ (by decide)
  replace k396_ := qs_R_keep (j := 21) (n := 256) h416_ k396_ (by decide)
  replace k402_ := qs_R_keep (j := 21) (n := 256) h416_ k402_ (by decide)
  replace k408_ := qs_R_keep (j := 21) (n := 256) h416_ k408_ (by decide)
  replace k413_ := qs_R_keep (j := 21) (n := 256) h416_ k413_ (by decide)
  have k419_ : q_K (qs_R (qs_P S414_ 2438 a0 (some b409_)) 21 256 b415_) b415_ = 21 := qs_R_Ks
  refine q_putP X Y (some b415_) rfl kX12 39 rfl fl_X12_72 k374_ _ rfl (Or.inr ⟨_, rfl⟩) (Or.inr ⟨rfl, hnm, rfl⟩) dX12_init_176 (fun H locs Y => ?_)
  obtain ⟨S420_, gS420_⟩ : ∃ z : q_S, z = (qs_P (qs_R (qs_P S414_ 2438 a0 (some b409_)) 21 256 b415_) 2439 a0 (some b415_)) := ⟨_, rfl⟩
  replace Y : q_Y D cy lo s S420_ H locs := by rw [gS420_]; exact Y
  replace h := h S420_ gS420_
  replace k373_ : q_K S420_ b369_ = 21 := by rw [gS420_]; exact k373_
  replace k374_ : q_K S420_ a0 = 13 := by rw [gS420_]; exact k374_
  replace k379_ : q_K S420_ b375_ = 21 := by rw [gS420_]; exact k379_
  replace k385_ : q_K S420_ b381_ = 21 := by rw [gS420_]; exact k385_
  replace k391_ : q_K S420_ b387_ = 21 := by rw [gS420_]; exact k391_
  replace k396_ : q_K S420_ b392_ = 21 := by rw [gS420_]; exact k396_
  replace k402_ : q_K S420_ b398_ = 21 := by rw [gS420_]; exact k402_
  replace k408_ : q_K S420_ b404_ = 21 := by rw [gS420_]; exact k408_
  replace k413_ : q_K S420_ b409_ = 21 := by rw [gS420_]; exact k413_
  replace k419_ : q_K S420_ b415_ = 21 := by rw [gS420_]; exact k419_
  refine lv_aload_n hx hb dX12_init_179 rfl (lv_at hl 0 rfl) ?_
  refine lv_sipush (v := 256) hx hb dX12_init_180 (by decide) ?_
  obtain ⟨w424_, h⟩ := h
  refine q_newa X Y (k := 21) (t := 1) (n := 256) (ty := .int) rfl (by decide) rfl (fun _ _ => rfl) (by first | exact rfl | decide | simp [defaultValue]) ar_int (by decide) (by decide) (by decide) w424_ dX12_init_183 (fun b421_ H h422_ h423_ Y => ?_)
  replace h := h b421_ h422_
  replace hu := w424_
  replace k373_ := qs_R_keep (j := 21) (n := 256) h422_ k373_ (by decide)
  replace k374_ := qs_R_keep (j := 21) (n := 256) h422_ k374_ (by decide)
  replace k379_ := qs_R_keep (j := 21) (n := 256) h422_ k379_ (by decide)
  replace k385_ := qs_R_keep (j := 21) (n := 256) h422_ k385_ (by decide)
  replace k391_ := qs_R_keep (j := 21) (n := 256) h422_ k391_ (by decide)
  replace k396_ := qs_R_keep (j := 21) (n := 256) h422_ k396_ (by decide)
  replace k402_ := qs_R_keep (j := 21) (n := 256) h422_ k402_ (by decide)
  replace k408_ := qs_R_keep (j := 21) (n := 256) h422_ k408_ (by decide)
  replace k413_ := qs_R_keep (j := 21) (n := 256) h422_ k413_ (by decide)
  replace k419_ := qs_R_keep (j := 21) (n := 256) h422_ k419_ (by decide)
  have k425_ : q_K (qs_R S420_ 21 256 b421_) b421_ = 21 := qs_R_Ks
  refine q_putP X Y (some b421_) rfl kX12 40 rfl fl_X12_75 k374_ _ rfl (Or.inr ⟨_, rfl⟩) (Or.inr ⟨rfl, hnm, rfl⟩) dX12_init_185 (fun H locs Y => ?_)
  refine lv_aload_n hx hb dX12_init_188 rfl (lv_at hl 0 rfl) ?_
  refine lv_sipush (v := 256) hx hb dX12_init_189 (by decide) ?_
  obtain ⟨w429_, h⟩ := h
  refine q_newa X Y (k := 22) (t := 2) (n := 256) (ty := .boolean) rfl (by decide) rfl (fun _ _ => rfl) (by first | exact rfl | decide | simp [defaultValue]) ar_boolean (by decide) (by decide) (by decide) w429_ dX12_init_192 (fun b426_ H h427_ h428_ Y => ?_)
  replace h := h b426_ h427_
  replace hu := w429_
  replace k373_ := qs_R_keep (j := 22) (n := 256) h427_ k373_ (by decide)
  replace k374_ := qs_R_keep (j := 22) (n := 256) h427_ k374_ (by decide)
  replace k379_ := qs_R_keep (j := 22) (n := 256) h427_ k379_ (by decide)
  replace k385_ := qs_R_keep (j := 22) (n := 256) h427_ k385_ (by decide)
  replace k391_ := qs_R_keep (j := 22) (n := 256) h427_ k391_ (by decide)
  replace k396_ := qs_R_keep (j := 22) (n := 256) h427_ k396_ (by decide)
  replace k402_ := qs_R_keep (j := 22) (n := 256) h427_ k402_ (by decide)
  replace k408_ := qs_R_keep (j := 22) (n := 256) h427_ k408_ (by decide)
  replace k413_ := qs_R_keep (j := 22) (n := 256) h427_ k413_ (by decide)
  replace k419_ := qs_R_keep (j := 22) (n := 256) h427_ k419_ (by decide)
  replace k425_ := qs_R_keep (j := 22) (n := 256) h427_ k425_ (by decide)
  have k430_ : q_K (qs_R (qs_P (qs_R S420_ 21 256 b421_) 2440 a0 (some b421_)) 22 256 b426_) b426_ = 22 := qs_R_Ks
  obtain ⟨S431_, gS431_⟩ : ∃ z : q_S, z = (qs_R (qs_P (qs_R S420_ 21 256 b421_) 2440 a0 (some b421_)) 22 256 b426_) := ⟨_, rfl⟩
  replace Y : q_Y D cy lo s S431_ H locs := by rw [gS431_]; exact Y
  replace h := h S431_ gS431_
  replace k373_ : q_K S431_ b369_ = 21 := by rw [gS431_]; exact k373_
  replace k374_ : q_K S431_ a0 = 13 := by rw [gS431_]; exact k374_
  replace k379_ : q_K S431_ b375_ = 21 := by rw [gS431_]; exact k379_
  replace k385_ : q_K S431_ b381_ = 21 := by rw [gS431_]; exact k385_
  replace k391_ : q_K S431_ b387_ = 21 := by rw [gS431_]; exact k391_
  replace k396_ : q_K S431_ b392_ = 21 := by rw [gS431_]; exact k396_
  replace k402_ : q_K S431_ b398_ = 21 := by rw [gS431_]; exact k402_
  replace k408_ : q_K S431_ b404_ = 21 := by rw [gS431_]; exact k408_
  replace k413_ : q_K S431_ b409_ = 21 := by rw [gS431_]; exact k413_
  replace k419_ : q_K S431_ b415_ = 21 := by rw [gS431_]; exact k419_
  replace k425_ : q_K S431_ b421_ = 21 := by rw [gS431_]; exact k425_
  replace k430_ : q_K S431_ b426_ = 22 := by rw [gS431_]; exact k430_
  refine q_putP X Y (some b426_) rfl kX12 41 rfl fl_X12_78 k374_ _ rfl (Or.inr ⟨_, rfl⟩) (Or.inr ⟨rfl, hnm, rfl⟩) dX12_init_194 (fun H locs Y => ?_)
  refine lv_aload_n hx hb dX12_init_197 rfl (lv_at hl 0 rfl) ?_
  refine lv_bipush (v := 16) hx hb dX12_init_198 (by decide) ?_
  obtain ⟨w435_, h⟩ := h
  refine q_newa X Y (k := 21) (t := 1) (n := 16) (ty := .int) rfl (by decide) rfl (fun _ _ => rfl) (by first | exact rfl | decide | simp [defaultValue]) ar_int (by decide) (by decide) (by decide) w435_ dX12_init_200 (fun b432_ H h433_ h434_ Y => ?_)
  replace h := h b432_ h433_
  replace hu := w435_
  replace k373_ := qs_R_keep (j := 21) (n := 16) h433_ k373_ (by decide)
  replace k374_ := qs_R_keep (j := 21) (n := 16) h433_ k374_ (by decide)
  replace k379_ := qs_R_keep (j := 21) (n := 16) h433_ k379_ (by decide)
  replace k385_ := qs_R_keep (j := 21) (n := 16) h433_ k385_ (by decide)
  replace k391_ := qs_R_keep (j := 21) (n := 16) h433_ k391_ (by decide)
  replace k396_ := qs_R_keep (j := 21) (n := 16) h433_ k396_ (by decide)
  replace k402_ := qs_R_keep (j := 21) (n := 16) h433_ k402_ (by decide)
  replace k408_ := qs_R_keep (j := 21) (n := 16) h433_ k408_ (by decide)
  replace k413_ := qs_R_keep (j := 21) (n := 16) h433_ k413_ (by decide)
  replace k419_ := qs_R_keep (j := 21) (n := 16) h433_ k419_ (by decide)
  replace k425_ := qs_R_keep (j := 21) (n := 16) h433_ k425_ (by decide)
  replace k430_ := qs_R_keep (j := 21) (n := 16) h433_ k430_ (by decide)
  have k436_ : q_K (qs_R (qs_P S431_ 2441 a0 (some b426_)) 21 16 b432_) b432_ = 21 := qs_R_Ks
  refine q_putP X Y (some b432_) rfl kX12 42 rfl fl_X12_82 k374_ _ rfl (Or.inr ⟨_, rfl⟩) (Or.inr ⟨rfl, hnm, rfl⟩) dX12_init_202 (fun H locs Y => ?_)
  obtain ⟨S437_, gS437_⟩ : ∃ z : q_S, z = (qs_P (qs_R (qs_P S431_ 2441 a0 (some b426_)) 21 16 b432_) 2442 a0 (some b432_)) := ⟨_, rfl⟩
  replace Y : q_Y D cy lo s S437_ H locs := by rw [gS437_]; exact Y
  replace h := h S437_ gS437_
  replace k373_ : q_K S437_ b369_ = 21 := by rw [gS437_]; exact k373_
  replace k374_ : q_K S437_ a0 = 13 := by rw [gS437_]; exact k374_
  replace k379_ : q_K S437_ b375_ = 21 := by rw [gS437_]; exact k379_
  replace k385_ : q_K S437_ b381_ = 21 := by rw [gS437_]; exact k385_
  replace k391_ : q_K S437_ b387_ = 21 := by rw [gS437_]; exact k391_
  replace k396_ : q_K S437_ b392_ = 21 := by rw [gS437_]; exact k396_
  replace k402_ : q_K S437_ b398_ = 21 := by rw [gS437_]; exact k402_
  replace k408_ : q_K S437_ b404_ = 21 := by rw [gS437_]; exact k408_
  replace k413_ : q_K S437_ b409_ = 21 := by rw [gS437_]; exact k413_
  replace k419_ : q_K S437_ b415_ = 21 := by rw [gS437_]; exact k419_
  replace k425_ : q_K S437_ b421_ = 21 := by rw [gS437_]; exact k425_
  replace k430_ : q_K S437_ b426_ = 22 := by rw [gS437_]; exact k430_
  replace k436_ : q_K S437_ b432_ = 21 := by rw [gS437_]; exact k436_
  exact cb_X12_init_205 X hnm hu Y (lv_sub hl [0] rfl) h
def wm_X12_init (bc bs : Nat) (S : q_S) (a0 : Nat) (Q : Option Value → q_S → Prop) : Prop := (0 + 1 ≤ bc ∧ 0 + 20 ≤ bs) ∧ (∀ b438_ : Nat, q_K S b438_ = 0 → (q_K (qs_R S 20 20 b438_) a0 = 13 ∧ (((0 + 1) + 1 ≤ bc ∧ (0 + 20) + 4000 ≤ bs) ∧ (∀ b444_ : Nat, q_K (qs_P (qs_R S 20 20 b438_) 2401 a0 (some b438_)) b444_ = 0 → (∀ S449_ : q_S, S449_ = (qs_R (qs_P (qs_R S 20 20 b438_) 2401 a0 (some b438_)) 20 4000 b444_) → ((((0 + 1) + 1) + 1 ≤ bc ∧ ((0 + 20) + 4000) + 14000 ≤ bs) ∧ (∀ b450_ : Nat, q_K (qs_I (qs_P S449_ 2402 a0 (some b444_)) 2412 a0 (-1 : Int32)) b450_ = 0 → (∀ S455_ : q_S, S455_ = (qs_R (qs_I (qs_P S449_ 2402 a0 (some b444_)) 2412 a0 (-1 : Int32)) 20 14000 b450_) → (((((0 + 1) + 1) + 1) + 1 ≤ bc ∧ (((0 + 20) + 4000) + 14000) + 16 ≤ bs) ∧ (∀ b456_ : Nat, q_K (qs_P S455_ 2421 a0 (some b450_)) b456_ = 0 → (∀ S461_ : q_S, S461_ = (qs_P (qs_R (qs_P S455_ 2421 a0 (some b450_)) 21 16 b456_) 2423 a0 (some b456_)) → ((((((0 + 1) + 1) + 1) + 1) + 1 ≤ bc ∧ ((((0 + 20) + 4000) + 14000) + 16) + 16 ≤ bs) ∧ (∀ b462_ : Nat, q_K S461_ b462_ = 0 → (((((((0 + 1) + 1) + 1) + 1) + 1) + 1 ≤ bc ∧ (((((0 + 20) + 4000) + 14000) + 16) + 16) + 16 ≤ bs) ∧ (∀ b467_ : Nat, q_K (qs_P (qs_R S461_ 21 16 b462_) 2424 a0 (some b462_)) b467_ = 0 → (∀ S472_ : q_S, S472_ = (qs_R (qs_P (qs_R S461_ 21 16 b462_) 2424 a0 (some b462_)) 21 16 b467_) → ((((((((0 + 1) + 1) + 1) + 1) + 1) + 1) + 1 ≤ bc ∧ ((((((0 + 20) + 4000) + 14000) + 16) + 16) + 16) + 16 ≤ bs) ∧ (∀ b473_ : Nat, q_K (qs_P S472_ 2425 a0 (some b467_)) b473_ = 0 → (∀ S478_ : q_S, S478_ = (qs_P (qs_R (qs_P S472_ 2425 a0 (some b467_)) 21 16 b473_) 2426 a0 (some b473_)) → (((((((((0 + 1) + 1) + 1) + 1) + 1) + 1) + 1) + 1 ≤ bc ∧ (((((((0 + 20) + 4000) + 14000) + 16) + 16) + 16) + 16) + 96 ≤ bs) ∧ (∀ b479_ : Nat, q_K S478_ b479_ = 0 → ((((((((((0 + 1) + 1) + 1) + 1) + 1) + 1) + 1) + 1) + 1 ≤ bc ∧ ((((((((0 + 20) + 4000) + 14000) + 16) + 16) + 16) + 16) + 96) + 96 ≤ bs) ∧ (∀ b484_ : Nat, q_K (qs_P (qs_R S478_ 21 96 b479_) 2427 a0 (some b479_)) b484_ = 0 → (∀ S489_ : q_S, S489_ = (qs_R (qs_P (qs_R S478_ 21 96 b479_) 2427 a0 (some b479_)) 21 96 b484_) → (((((((((((0 + 1) + 1) + 1) + 1) + 1) + 1) + 1) + 1) + 1) + 1 ≤ bc ∧ (((((((((0 + 20) + 4000) + 14000) + 16) + 16) + 16) + 16) + 96) + 96) + 96 ≤ bs) ∧ (∀ b490_ : Nat, q_K (qs_P S489_ 2428 a0 (some b484_)) b490_ = 0 → (∀ S495_ : q_S, S495_ = (qs_P (qs_R (qs_P S489_ 2428 a0 (some b484_)) 21 96 b490_) 2429 a0 (some b490_)) → ((((((((((((0 + 1) + 1) + 1) + 1) + 1) + 1) + 1) + 1) + 1) + 1) + 1 ≤ bc ∧ ((((((((((0 + 20) + 4000) + 14000) + 16) + 16) + 16) + 16) + 96) + 96) + 96) + 16 ≤ bs) ∧ (∀ b496_ : Nat, q_K S495_ b496_ = 0 → (wb_X12_init_99 bc bs (((((((((((0 + 1) + 1) + 1) + 1) + 1) + 1) + 1) + 1) + 1) + 1) + 1) (((((((((((0 + 20) + 4000) + 14000) + 16) + 16) + 16) + 16) + 96) + 96) + 96) + 16) (qs_P (qs_R S495_ 21 16 b496_) 2430 a0 (some b496_)) a0 Q))))))))))))))))))))))))))))))
set_option maxHeartbeats 4000000 in
set_option maxRecDepth 100000 in
theorem cm_X12_init {l : Launch} {D : va_G} {cy : Nat → ClassId} {lo : Nat} {bc bs : Nat} {S : q_S} {a0 : Nat} {Q : Option Value → q_S → Prop} (h : wm_X12_init bc bs S a0 Q) : q_Met l D cy lo yX12_init cX12_init 1 none 1 20 bc bs [.ref a0] S Q := by
  refine q_body (by decide) (by first | exact Nat.le_of_ble_eq_true rfl | simp [lg_sl, q_cat, q_catI, q_catJ, q_catR]) ?_
  intro p e s m below meth c ls X hnm Y hl
  have hx := X.1
  have hb := X.2.1
  have hl : lv_has ls 1 [(0, .ref a0)] := by first | exact hl | simpa [lv_args, q_cat, q_catI, q_catJ, q_catR] using hl
  generalize hargs : ([.ref a0] : List Value).toArray = args at X ⊢
  have hu : 0 ≤ bc ∧ 0 ≤ bs := ⟨Nat.zero_le _, Nat.zero_le _⟩
  unfold wm_X12_init at h
  refine lv_aload_n hx hb dX12_init_0 rfl (lv_at hl 0 rfl) ?_
  refine q_obj X hl ml_X12_1 oi_ oc_ ⟨Nat.le_of_ble_eq_true rfl, (by first | exact Nat.le_of_ble_eq_true rfl | simp [q_cat, q_catI, q_catJ, q_catR])⟩ dX12_init_1 ?_
  refine lv_aload_n hx hb dX12_init_4 rfl (lv_at hl 0 rfl) ?_
  refine lv_bipush (v := 20) hx hb dX12_init_5 (by decide) ?_
  obtain ⟨w441_, h⟩ := h
  refine q_newa X Y (k := 20) (t := 0) (n := 20) (ty := .byte) rfl (by decide) rfl (fun _ _ => rfl) (by first | exact rfl | decide | simp [defaultValue]) ar_byte (by decide) (by decide) (by decide) w441_ dX12_init_7 (fun b438_ H h439_ h440_ Y => ?_)
  replace h := h b438_ h439_
  replace hu := w441_
  have k442_ : q_K (qs_R S 20 20 b438_) b438_ = 20 := qs_R_Ks
  obtain ⟨k443_, h⟩ := h
  refine q_putP X Y (some b438_) rfl kX12 1 rfl fl_X12_7 k443_ _ rfl (Or.inr ⟨_, rfl⟩) (Or.inr ⟨rfl, hnm, rfl⟩) dX12_init_9 (fun H locs Y => ?_)
  refine lv_aload_n hx hb dX12_init_12 rfl (lv_at hl 0 rfl) ?_
  refine lv_sipush (v := 4000) hx hb dX12_init_13 (by decide) ?_
  obtain ⟨w447_, h⟩ := h
  refine q_newa X Y (k := 20) (t := 0) (n := 4000) (ty := .byte) rfl (by decide) rfl (fun _ _ => rfl) (by first | exact rfl | decide | simp [defaultValue]) ar_byte (by decide) (by decide) (by decide) w447_ dX12_init_16 (fun b444_ H h445_ h446_ Y => ?_)
  replace h := h b444_ h445_
  replace hu := w447_
  replace k442_ := qs_R_keep (j := 20) (n := 4000) h445_ k442_ (by decide)
  replace k443_ := qs_R_keep (j := 20) (n := 4000) h445_ k443_ (by decide)
  have k448_ : q_K (qs_R (qs_P (qs_R S 20 20 b438_) 2401 a0 (some b438_)) 20 4000 b444_) b444_ = 20 := qs_R_Ks
  obtain ⟨S449_, gS449_⟩ : ∃ z : q_S, z = (qs_R (qs_P (qs_R S 20 20 b438_) 2401 a0 (some b438_)) 20 4000 b444_) := ⟨_, rfl⟩
  replace Y : q_Y D cy lo s S449_ H locs := by rw [gS449_]; exact Y
  replace h := h S449_ gS449_
  replace k442_ : q_K S449_ b438_ = 20 := by rw [gS449_]; exact k442_
  replace k443_ : q_K S449_ a0 = 13 := by rw [gS449_]; exact k443_
  replace k448_ : q_K S449_ b444_ = 20 := by rw [gS449_]; exact k448_
  refine q_putP X Y (some b444_) rfl kX12 2 rfl fl_X12_13 k443_ _ rfl (Or.inr ⟨_, rfl⟩) (Or.inr ⟨rfl, hnm, rfl⟩) dX12_init_18 (fun H locs Y => ?_)
  refine lv_aload_n hx hb dX12_init_21 rfl (lv_at hl 0 rfl) ?_
  refine lv_iconst (v := (-1)) hx hb dX12_init_22 (by decide) ?_
  refine q_putI X Y kX12 12 rfl fl_X12_16 k443_ .int rfl ⟨rfl, rfl⟩ rfl dX12_init_23 (fun H locs Y => ?_)
  refine lv_aload_n hx hb dX12_init_26 rfl (lv_at hl 0 rfl) ?_
  refine lv_sipush (v := 14000) hx hb dX12_init_27 (by decide) ?_
  obtain ⟨w453_, h⟩ := h
  refine q_newa X Y (k := 20) (t := 0) (n := 14000) (ty := .byte) rfl (by decide) rfl (fun _ _ => rfl) (by first | exact rfl | decide | simp [defaultValue]) ar_byte (by decide) (by decide) (by decide) w453_ dX12_init_30 (fun b450_ H h451_ h452_ Y => ?_)
  replace h := h b450_ h451_
  replace hu := w453_
  replace k442_ := qs_R_keep (j := 20) (n := 14000) h451_ k442_ (by decide)
  replace k443_ := qs_R_keep (j := 20) (n := 14000) h451_ k443_ (by decide)
  replace k448_ := qs_R_keep (j := 20) (n := 14000) h451_ k448_ (by decide)
  have k454_ : q_K (qs_R (qs_I (qs_P S449_ 2402 a0 (some b444_)) 2412 a0 (-1 : Int32)) 20 14000 b450_) b450_ = 20 := qs_R_Ks
  obtain ⟨S455_, gS455_⟩ : ∃ z : q_S, z = (qs_R (qs_I (qs_P S449_ 2402 a0 (some b444_)) 2412 a0 (-1 : Int32)) 20 14000 b450_) := ⟨_, rfl⟩
  replace Y : q_Y D cy lo s S455_ H locs := by rw [gS455_]; exact Y
  replace h := h S455_ gS455_
  replace k442_ : q_K S455_ b438_ = 20 := by rw [gS455_]; exact k442_
  replace k443_ : q_K S455_ a0 = 13 := by rw [gS455_]; exact k443_
  replace k448_ : q_K S455_ b444_ = 20 := by rw [gS455_]; exact k448_
  replace k454_ : q_K S455_ b450_ = 20 := by rw [gS455_]; exact k454_
  refine q_putP X Y (some b450_) rfl kX12 21 rfl fl_X12_20 k443_ _ rfl (Or.inr ⟨_, rfl⟩) (Or.inr ⟨rfl, hnm, rfl⟩) dX12_init_32 (fun H locs Y => ?_)
  refine lv_aload_n hx hb dX12_init_35 rfl (lv_at hl 0 rfl) ?_
  refine lv_bipush (v := 16) hx hb dX12_init_36 (by decide) ?_
  obtain ⟨w459_, h⟩ := h
  refine q_newa X Y (k := 21) (t := 1) (n := 16) (ty := .int) rfl (by decide) rfl (fun _ _ => rfl) (by first | exact rfl | decide | simp [defaultValue]) ar_int (by decide) (by decide) (by decide) w459_ dX12_init_38 (fun b456_ H h457_ h458_ Y => ?_)
  replace h := h b456_ h457_
  replace hu := w459_
  replace k442_ := qs_R_keep (j := 21) (n := 16) h457_ k442_ (by decide)
  replace k443_ := qs_R_keep (j := 21) (n := 16) h457_ k443_ (by decide)
  replace k448_ := qs_R_keep (j := 21) (n := 16) h457_ k448_ (by decide)
  replace k454_ := qs_R_keep (j := 21) (n := 16) h457_ k454_ (by decide)
  have k460_ : q_K (qs_R (qs_P S455_ 2421 a0 (some b450_)) 21 16 b456_) b456_ = 21 := qs_R_Ks
  refine q_putP X Y (some b456_) rfl kX12 23 rfl fl_X12_23 k443_ _ rfl (Or.inr ⟨_, rfl⟩) (Or.inr ⟨rfl, hnm, rfl⟩) dX12_init_40 (fun H locs Y => ?_)
  obtain ⟨S461_, gS461_⟩ : ∃ z : q_S, z = (qs_P (qs_R (qs_P S455_ 2421 a0 (some b450_)) 21 16 b456_) 2423 a0 (some b456_)) := ⟨_, rfl⟩
  replace Y : q_Y D cy lo s S461_ H locs := by rw [gS461_]; exact Y
  replace h := h S461_ gS461_
  replace k442_ : q_K S461_ b438_ = 20 := by rw [gS461_]; exact k442_
  replace k443_ : q_K S461_ a0 = 13 := by rw [gS461_]; exact k443_
  replace k448_ : q_K S461_ b444_ = 20 := by rw [gS461_]; exact k448_
  replace k454_ : q_K S461_ b450_ = 20 := by rw [gS461_]; exact k454_
  replace k460_ : q_K S461_ b456_ = 21 := by rw [gS461_]; exact k460_
  refine lv_aload_n hx hb dX12_init_43 rfl (lv_at hl 0 rfl) ?_
  refine lv_bipush (v := 16) hx hb dX12_init_44 (by decide) ?_
  obtain ⟨w465_, h⟩ := h
  refine q_newa X Y (k := 21) (t := 1) (n := 16) (ty := .int) rfl (by decide) rfl (fun _ _ => rfl) (by first | exact rfl | decide | simp [defaultValue]) ar_int (by decide) (by decide) (by decide) w465_ dX12_init_46 (fun b462_ H h463_ h464_ Y => ?_)
  replace h := h b462_ h463_
  replace hu := w465_
  replace k442_ := qs_R_keep (j := 21) (n := 16) h463_ k442_ (by decide)
  replace k443_ := qs_R_keep (j := 21) (n := 16) h463_ k443_ (by decide)
  replace k448_ := qs_R_keep (j := 21) (n := 16) h463_ k448_ (by decide)
  replace k454_ := qs_R_keep (j := 21) (n := 16) h463_ k454_ (by decide)
  replace k460_ := qs_R_keep (j := 21) (n := 16) h463_ k460_ (by decide)
  have k466_ : q_K (qs_R S461_ 21 16 b462_) b462_ = 21 := qs_R_Ks
  refine q_putP X Y (some b462_) rfl kX12 24 rfl fl_X12_27 k443_ _ rfl (Or.inr ⟨_, rfl⟩) (Or.inr ⟨rfl, hnm, rfl⟩) dX12_init_48 (fun H locs Y => ?_)
  refine lv_aload_n hx hb dX12_init_51 rfl (lv_at hl 0 rfl) ?_
  refine lv_bipush (v := 16) hx hb dX12_init_52 (by decide) ?_
  obtain ⟨w470_, h⟩ := h
  refine q_newa X Y (k := 21) (t := 1) (n := 16) (ty := .int) rfl (by decide) rfl (fun _ _ => rfl) (by first | exact rfl | decide | simp [defaultValue]) ar_int (by decide) (by decide) (by decide) w470_ dX12_init_54 (fun b467_ H h468_ h469_ Y => ?_)
  replace h := h b467_ h468_
  replace hu := w470_
  replace k442_ := qs_R_keep (j := 21) (n := 16) h468_ k442_ (by decide)
  replace k443_ := qs_R_keep (j := 21) (n := 16) h468_ k443_ (by decide)
  replace k448_ := qs_R_keep (j := 21) (n := 16) h468_ k448_ (by decide)
  replace k454_ := qs_R_keep (j := 21) (n := 16) h468_ k454_ (by decide)
  replace k460_ := qs_R_keep (j := 21) (n := 16) h468_ k460_ (by decide)
  replace k466_ := qs_R_keep (j := 21) (n := 16) h468_ k466_ (by decide)
  have k471_ : q_K (qs_R (qs_P (qs_R S461_ 21 16 b462_) 2424 a0 (some b462_)) 21 16 b467_) b467_ = 21 := qs_R_Ks
  obtain ⟨S472_, gS472_⟩ : ∃ z : q_S, z = (qs_R (qs_P (qs_R S461_ 21 16 b462_) 2424 a0 (some b462_)) 21 16 b467_) := ⟨_, rfl⟩
  replace Y : q_Y D cy lo s S472_ H locs := by rw [gS472_]; exact Y
  replace h := h S472_ gS472_
  replace k442_ : q_K S472_ b438_ = 20 := by rw [gS472_]; exact k442_
  replace k443_ : q_K S472_ a0 = 13 := by rw [gS472_]; exact k443_
  replace k448_ : q_K S472_ b444_ = 20 := by rw [gS472_]; exact k448_
  replace k454_ : q_K S472_ b450_ = 20 := by rw [gS472_]; exact k454_
  replace k460_ : q_K S472_ b456_ = 21 := by rw [gS472_]; exact k460_
  replace k466_ : q_K S472_ b462_ = 21 := by rw [gS472_]; exact k466_
  replace k471_ : q_K S472_ b467_ = 21 := by rw [gS472_]; exact k471_
  refine q_putP X Y (some b467_) rfl kX12 25 rfl fl_X12_30 k443_ _ rfl (Or.inr ⟨_, rfl⟩) (Or.inr ⟨rfl, hnm, rfl⟩) dX12_init_56 (fun H locs Y => ?_)
  refine lv_aload_n hx hb dX12_init_59 rfl (lv_at hl 0 rfl) ?_
  refine lv_bipush (v := 16) hx hb dX12_init_60 (by decide) ?_
  obtain ⟨w476_, h⟩ := h
  refine q_newa X Y (k := 21) (t := 1) (n := 16) (ty := .int) rfl (by decide) rfl (fun _ _ => rfl) (by first | exact rfl | decide | simp [defaultValue]) ar_int (by decide) (by decide) (by decide) w476_ dX12_init_62 (fun b473_ H h474_ h475_ Y => ?_)
  replace h := h b473_ h474_
  replace hu := w476_
  replace k442_ := qs_R_keep (j := 21) (n := 16) h474_ k442_ (by decide)
  replace k443_ := qs_R_keep (j := 21) (n := 16) h474_ k443_ (by decide)
  replace k448_ := qs_R_keep (j := 21) (n := 16) h474_ k448_ (by decide)
  replace k454_ := qs_R_keep (j := 21) (n := 16) h474_ k454_ (by decide)
  replace k460_ := qs_R_keep (j := 21) (n := 16) h474_ k460_ (by decide)
  replace k466_ := qs_R_keep (j := 21) (n := 16) h474_ k466_ (by decide)
  replace k471_ := qs_R_keep (j := 21) (n := 16) h474_ k471_ (by decide)
  have k477_ : q_K (qs_R (qs_P S472_ 2425 a0 (some b467_)) 21 16 b473_) b473_ = 21 := qs_R_Ks
  refine q_putP X Y (some b473_) rfl kX12 26 rfl fl_X12_33 k443_ _ rfl (Or.inr ⟨_, rfl⟩) (Or.inr ⟨rfl, hnm, rfl⟩) dX12_init_64 (fun H locs Y => ?_)
  obtain ⟨S478_, gS478_⟩ : ∃ z : q_S, z = (qs_P (qs_R (qs_P S472_ 2425 a0 (some b467_)) 21 16 b473_) 2426 a0 (some b473_)) := ⟨_, rfl⟩
  replace Y : q_Y D cy lo s S478_ H locs := by rw [gS478_]; exact Y
  replace h := h S478_ gS478_
  replace k442_ : q_K S478_ b438_ = 20 := by rw [gS478_]; exact k442_
  replace k443_ : q_K S478_ a0 = 13 := by rw [gS478_]; exact k443_
  replace k448_ : q_K S478_ b444_ = 20 := by rw [gS478_]; exact k448_
  replace k454_ : q_K S478_ b450_ = 20 := by rw [gS478_]; exact k454_
  replace k460_ : q_K S478_ b456_ = 21 := by rw [gS478_]; exact k460_
  replace k466_ : q_K S478_ b462_ = 21 := by rw [gS478_]; exact k466_
  replace k471_ : q_K S478_ b467_ = 21 := by rw [gS478_]; exact k471_
  replace k477_ : q_K S478_ b473_ = 21 := by rw [gS478_]; exact k477_
  refine lv_aload_n hx hb dX12_init_67 rfl (lv_at hl 0 rfl) ?_
  refine lv_bipush (v := 96) hx hb dX12_init_68 (by decide) ?_
  obtain ⟨w482_, h⟩ := h
  refine q_newa X Y (k := 21) (t := 1) (n := 96) (ty := .int) rfl (by decide) rfl (fun _ _ => rfl) (by first | exact rfl | decide | simp [defaultValue]) ar_int (by decide) (by decide) (by decide) w482_ dX12_init_70 (fun b479_ H h480_ h481_ Y => ?_)
  replace h := h b479_ h480_
  replace hu := w482_
  replace k442_ := qs_R_keep (j := 21) (n := 96) h480_ k442_ (by decide)
  replace k443_ := qs_R_keep (j := 21) (n := 96) h480_ k443_ (by decide)
  replace k448_ := qs_R_keep (j := 21) (n := 96) h480_ k448_ (by decide)
  replace k454_ := qs_R_keep (j := 21) (n := 96) h480_ k454_ (by decide)
  replace k460_ := qs_R_keep (j := 21) (n := 96) h480_ k460_ (by decide)
  replace k466_ := qs_R_keep (j := 21) (n := 96) h480_ k466_ (by decide)
  replace k471_ := qs_R_keep (j := 21) (n := 96) h480_ k471_ (by decide)
  replace k477_ := qs_R_keep (j := 21) (n := 96) h480_ k477_ (by decide)
  have k483_ : q_K (qs_R S478_ 21 96 b479_) b479_ = 21 := qs_R_Ks
  refine q_putP X Y (some b479_) rfl kX12 27 rfl fl_X12_36 k443_ _ rfl (Or.inr ⟨_, rfl⟩) (Or.inr ⟨rfl, hnm, rfl⟩) dX12_init_72 (fun H locs Y => ?_)
  refine lv_aload_n hx hb dX12_init_75 rfl (lv_at hl 0 rfl) ?_
  refine lv_bipush (v := 96) hx hb dX12_init_76 (by decide) ?_
  obtain ⟨w487_, h⟩ := h
  refine q_newa X Y (k := 21) (t := 1) (n := 96) (ty := .int) rfl (by decide) rfl (fun _ _ => rfl) (by first | exact rfl | decide | simp [defaultValue]) ar_int (by decide) (by decide) (by decide) w487_ dX12_init_78 (fun b484_ H h485_ h486_ Y => ?_)
  replace h := h b484_ h485_
  replace hu := w487_
  replace k442_ := qs_R_keep (j := 21) (n := 96) h485_ k442_ (by decide)
  replace k443_ := qs_R_keep (j := 21) (n := 96) h485_ k443_ (by decide)
  replace k448_ := qs_R_keep (j := 21) (n := 96) h485_ k448_ (by decide)
  replace k454_ := qs_R_keep (j := 21) (n := 96) h485_ k454_ (by decide)
  replace k460_ := qs_R_keep (j := 21) (n := 96) h485_ k460_ (by decide)
  replace k466_ := qs_R_keep (j := 21) (n := 96) h485_ k466_ (by decide)
  replace k471_ := qs_R_keep (j := 21) (n := 96) h485_ k471_ (by decide)
  replace k477_ := qs_R_keep (j := 21) (n := 96) h485_ k477_ (by decide)
  replace k483_ := qs_R_keep (j := 21) (n := 96) h485_ k483_ (by decide)
  have k488_ : q_K (qs_R (qs_P (qs_R S478_ 21 96 b479_) 2427 a0 (some b479_)) 21 96 b484_) b484_ = 21 := qs_R_Ks
  obtain ⟨S489_, gS489_⟩ : ∃ z : q_S, z = (qs_R (qs_P (qs_R S478_ 21 96 b479_) 2427 a0 (some b479_)) 21 96 b484_) := ⟨_, rfl⟩
  replace Y : q_Y D cy lo s S489_ H locs := by rw [gS489_]; exact Y
  replace h := h S489_ gS489_
  replace k442_ : q_K S489_ b438_ = 20 := by rw [gS489_]; exact k442_
  replace k443_ : q_K S489_ a0 = 13 := by rw [gS489_]; exact k443_
  replace k448_ : q_K S489_ b444_ = 20 := by rw [gS489_]; exact k448_
  replace k454_ : q_K S489_ b450_ = 20 := by rw [gS489_]; exact k454_
  replace k460_ : q_K S489_ b456_ = 21 := by rw [gS489_]; exact k460_
  replace k466_ : q_K S489_ b462_ = 21 := by rw [gS489_]; exact k466_
  replace k471_ : q_K S489_ b467_ = 21 := by rw [gS489_]; exact k471_
  replace k477_ : q_K S489_ b473_ = 21 := by rw [gS489_]; exact k477_
  replace k483_ : q_K S489_ b479_ = 21 := by rw [gS489_]; exact k483_
  replace k488_ : q_K S489_ b484_ = 21 := by rw [gS489_]; exact k488_
  refine q_putP X Y (some b484_) rfl kX12 28 rfl fl_X12_39 k443_ _ rfl (Or.inr ⟨_, rfl⟩) (Or.inr ⟨rfl, hnm, rfl⟩) dX12_init_80 (fun H locs Y => ?_)
  refine lv_aload_n hx hb dX12_init_83 rfl (lv_at hl 0 rfl) ?_
  refine lv_bipush (v := 96) hx hb dX12_init_84 (by decide) ?_
  obtain ⟨w493_, h⟩ := h
  refine q_newa X Y (k := 21) (t := 1) (n := 96) (ty := .int) rfl (by decide) rfl (fun _ _ => rfl) (by first | exact rfl | decide | simp [defaultValue]) ar_int (by decide) (by decide) (by decide) w493_ dX12_init_86 (fun b490_ H h491_ h492_ Y => ?_)
  replace h := h b490_ h491_
  replace hu := w493_
  replace k442_ := qs_R_keep (j := 21) (n := 96) h491_ k442_ (by decide)
  replace k443_ := qs_R_keep (j := 21) (n := 96) h491_ k443_ (by decide)
  replace k448_ := qs_R_keep (j := 21) (n := 96) h491_ k448_ (by decide)
  replace k454_ := qs_R_keep (j := 21) (n := 96) h491_ k454_ (by decide)
  replace k460_ := qs_R_keep (j := 21) (n := 96) h491_ k460_ (by decide)
  replace k466_ := qs_R_keep (j := 21) (n := 96) h491_ k466_ (by decide)
  replace k471_ := qs_R_keep (j := 21) (n := 96) h491_ k471_ (by decide)
  replace k477_ := qs_R_keep (j := 21) (n := 96) h491_ k477_ (by decide)
  replace k483_ := qs_R_keep (j := 21) (n := 96) h491_ k483_ (by decide)
  replace k488_ := qs_R_keep (j := 21) (n := 96) h491_ k488_ (by decide)
  have k494_ : q_K (qs_R (qs_P S489_ 2428 a0 (some b484_)) 21 96 b490_) b490_ = 21 := qs_R_Ks
  refine q_putP X Y (some b490_) rfl kX12 29 rfl fl_X12_42 k443_ _ rfl (Or.inr ⟨_, rfl⟩) (Or.inr ⟨rfl, hnm, rfl⟩) dX12_init_88 (fun H locs Y => ?_)
  obtain ⟨S495_, gS495_⟩ : ∃ z : q_S, z = (qs_P (qs_R (qs_P S489_ 2428 a0 (some b484_)) 21 96 b490_) 2429 a0 (some b490_)) := ⟨_, rfl⟩
  replace Y : q_Y D cy lo s S495_ H locs := by rw [gS495_]; exact Y
  replace h := h S495_ gS495_
  replace k442_ : q_K S495_ b438_ = 20 := by rw [gS495_]; exact k442_
  replace k443_ : q_K S495_ a0 = 13 := by rw [gS495_]; exact k443_
  replace k448_ : q_K S495_ b444_ = 20 := by rw [gS495_]; exact k448_
  replace k454_ : q_K S495_ b450_ = 20 := by rw [gS495_]; exact k454_
  replace k460_ : q_K S495_ b456_ = 21 := by rw [gS495_]; exact k460_
  replace k466_ : q_K S495_ b462_ = 21 := by rw [gS495_]; exact k466_
  replace k471_ : q_K S495_ b467_ = 21 := by rw [gS495_]; exact k471_
  replace k477_ : q_K S495_ b473_ = 21 := by rw [gS495_]; exact k477_
  replace k483_ : q_K S495_ b479_ = 21 := by rw [gS495_]; exact k483_
  replace k488_ : q_K S495_ b484_ = 21 := by rw [gS495_]; exact k488_
  replace k494_ : q_K S495_ b490_ = 21 := by rw [gS495_]; exact k494_
  refine lv_aload_n hx hb dX12_init_91 rfl (lv_at hl 0 rfl) ?_
  refine lv_bipush (v := 16) hx hb dX12_init_92 (by decide) ?_
  obtain ⟨w499_, h⟩ := h
  refine q_newa X Y (k := 21) (t := 1) (n := 16) (ty := .int) rfl (by decide) rfl (fun _ _ => rfl) (by first | exact rfl | decide | simp [defaultValue]) ar_int (by decide) (by decide) (by decide) w499_ dX12_init_94 (fun b496_ H h497_ h498_ Y => ?_)
  replace h := h b496_ h497_
  replace hu := w499_
  replace k442_ := qs_R_keep (j := 21) (n := 16) h497_ k442_ (by decide)
  replace k443_ := qs_R_keep (j := 21) (n := 16) h497_ k443_ (by decide)
  replace k448_ := qs_R_keep (j := 21) (n := 16) h497_ k448_ (by decide)
  replace k454_ := qs_R_keep (j := 21) (n := 16) h497_ k454_ (by decide)
  replace k460_ := qs_R_keep (j := 21) (n := 16) h497_ k460_ (by decide)
  replace k466_ := qs_R_keep (j := 21) (n := 16) h497_ k466_ (by decide)
  replace k471_ := qs_R_keep (j := 21) (n := 16) h497_ k471_ (by decide)
  replace k477_ := qs_R_keep (j := 21) (n := 16) h497_ k477_ (by decide)
  replace k483_ := qs_R_keep (j := 21) (n := 16) h497_ k483_ (by decide)
  replace k488_ := qs_R_keep (j := 21) (n := 16) h497_ k488_ (by decide)
  replace k494_ := qs_R_keep (j := 21) (n := 16) h497_ k494_ (by decide)
  have k500_ : q_K (qs_R S495_ 21 16 b496_) b496_ = 21 := qs_R_Ks
  refine q_putP X Y (some b496_) rfl kX12 30 rfl fl_X12_45 k443_ _ rfl (Or.inr ⟨_, rfl⟩) (Or.inr ⟨rfl, hnm, rfl⟩) dX12_init_96 (fun H locs Y => ?_)
  exact cb_X12_init_99 X hnm hu Y (lv_sub hl [0] rfl) h
