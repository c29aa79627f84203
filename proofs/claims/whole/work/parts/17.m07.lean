-- X11_peek
theorem ml_X11_85 : Cond.methodLink RX11 85 yX6_partitionAt ∈ q_G := q_tb (i := 326) (by decide +kernel) (by decide +kernel)
theorem ml_X11_95 : Cond.methodLink RX11 95 yX4_hasWord ∈ q_G := q_tb (i := 330) (by decide +kernel) (by decide +kernel)
theorem mt_X4_hasWord : q_Mt yX4_hasWord cX4_hasWord 2 (some .boolean) 1 := ⟨q_tb (i := 333) (by decide +kernel) (by decide +kernel), q_tb (i := 21) (by decide +kernel) (by decide +kernel), by decide +kernel, by decide +kernel, by decide +kernel⟩
theorem mi_X4_hasWord : Cond.instanceMethod yX4_hasWord ∈ q_G ∧ Cond.selects yX4_hasWord.cls yX4_hasWord yX4_hasWord ∈ q_G := ⟨q_tb (i := 331) (by decide +kernel) (by decide +kernel), q_tb (i := 332) (by decide +kernel) (by decide +kernel)⟩
theorem fl_X11_75 : Cond.fieldLink RX11 75 "PartitionWorks$Plan" "begun" "Z" ∈ q_G := q_tb (i := 106) (by decide +kernel) (by decide +kernel)
theorem fl_X11_106 : Cond.fieldLink RX11 106 "PartitionWorks$Memory" "image" "[I" ∈ q_G := q_tb (i := 664) (by decide +kernel) (by decide +kernel)
theorem fl_X11_248 : Cond.fieldLink RX11 248 "PartitionWorks$Memory" "words" "[I" ∈ q_G := q_tb (i := 662) (by decide +kernel) (by decide +kernel)
theorem dX11_peek_0 : decode cX11_peek 0 = .ok (.aload_n 0, 1) := by decide +kernel
theorem dX11_peek_1 : decode cX11_peek 1 = .ok (.getfield 20, 3) := by decide +kernel
theorem dX11_peek_4 : decode cX11_peek 4 = .ok (.iload_n 1, 1) := by decide +kernel
theorem dX11_peek_5 : decode cX11_peek 5 = .ok (.invokevirtual 85, 3) := by decide +kernel
theorem dX11_peek_8 : decode cX11_peek 8 = .ok (.astore_n 3, 1) := by decide +kernel
theorem dX11_peek_9 : decode cX11_peek 9 = .ok (.aload_n 3, 1) := by decide +kernel
theorem dX11_peek_10 : decode cX11_peek 10 = .ok (.ifnull 14, 3) := by decide +kernel
theorem dX11_peek_13 : decode cX11_peek 13 = .ok (.aload_n 3, 1) := by decide +kernel
theorem dX11_peek_14 : decode cX11_peek 14 = .ok (.getfield 89, 3) := by decide +kernel
theorem dX11_peek_17 : decode cX11_peek 17 = .ok (.iload_n 2, 1) := by decide +kernel
theorem dX11_peek_18 : decode cX11_peek 18 = .ok (.invokevirtual 95, 3) := by decide +kernel
theorem dX11_peek_21 : decode cX11_peek 21 = .ok (.ifCond .ne 5, 3) := by decide +kernel
theorem dX11_peek_24 : decode cX11_peek 24 = .ok (.iconst 0, 1) := by decide +kernel
theorem dX11_peek_25 : decode cX11_peek 25 = .ok (.ireturn, 1) := by decide +kernel
theorem dX11_peek_26 : decode cX11_peek 26 = .ok (.aload_n 0, 1) := by decide +kernel
theorem dX11_peek_27 : decode cX11_peek 27 = .ok (.getfield 20, 3) := by decide +kernel
theorem dX11_peek_30 : decode cX11_peek 30 = .ok (.getfield 75, 3) := by decide +kernel
theorem dX11_peek_33 : decode cX11_peek 33 = .ok (.ifCond .eq 17, 3) := by decide +kernel
theorem dX11_peek_36 : decode cX11_peek 36 = .ok (.aload_n 3, 1) := by decide +kernel
theorem dX11_peek_37 : decode cX11_peek 37 = .ok (.getfield 89, 3) := by decide +kernel
theorem dX11_peek_40 : decode cX11_peek 40 = .ok (.getfield 248, 3) := by decide +kernel
theorem dX11_peek_43 : decode cX11_peek 43 = .ok (.iload_n 2, 1) := by decide +kernel
theorem dX11_peek_44 : decode cX11_peek 44 = .ok (.iconst 2, 1) := by decide +kernel
theorem dX11_peek_45 : decode cX11_peek 45 = .ok (.ishr, 1) := by decide +kernel
theorem dX11_peek_46 : decode cX11_peek 46 = .ok (.iaload, 1) := by decide +kernel
theorem dX11_peek_47 : decode cX11_peek 47 = .ok (.goto 14, 3) := by decide +kernel
theorem dX11_peek_50 : decode cX11_peek 50 = .ok (.aload_n 3, 1) := by decide +kernel
theorem dX11_peek_51 : decode cX11_peek 51 = .ok (.getfield 89, 3) := by decide +kernel
theorem dX11_peek_54 : decode cX11_peek 54 = .ok (.getfield 106, 3) := by decide +kernel
theorem dX11_peek_57 : decode cX11_peek 57 = .ok (.iload_n 2, 1) := by decide +kernel
theorem dX11_peek_58 : decode cX11_peek 58 = .ok (.iconst 2, 1) := by decide +kernel
theorem dX11_peek_59 : decode cX11_peek 59 = .ok (.ishr, 1) := by decide +kernel
theorem dX11_peek_60 : decode cX11_peek 60 = .ok (.iaload, 1) := by decide +kernel
theorem dX11_peek_61 : decode cX11_peek 61 = .ok (.ireturn, 1) := by decide +kernel
def wb_X11_peek_24  (S : q_S) (Q : Option Value → q_S → Prop) : Prop := Q (some (.int (0 : Int32))) S
set_option maxHeartbeats 4000000 in
set_option maxRecDepth 100000 in
theorem cb_X11_peek_24 {p : Program} {l : Launch} {e : Env} {s : State} {m : MethodId} {args : Array Value} {below : List Frame} {meth : Method} {c : Code} {D : va_G} {cy : Nat → ClassId} {lo : Nat}  {S : q_S} {Q : Option Value → q_S → Prop} {H : Heap} {locs : List Loc} {ls : Array Slot} (X : q_X p s m args meth c RX11 cX11_peek 4 (some .int) D cy lo)  (Y : q_Y D cy lo s S H locs) (hl : lv_has ls 4 []) (h : wb_X11_peek_24 S Q) : W p l e ({ frames := 1, cells := 0, slots := 0, locals := 21 } : Room) s m args below meth c H locs 0 0 (MQ below (q_Q D cy lo Q) args s 0 0 (fun q => lo ≤ q)) (F0 m 24 ls []) := by
  have hx := X.1
  have hb := X.2.1
  unfold wb_X11_peek_24 at h
  refine lv_iconst (v := 0) hx hb dX11_peek_24 (by decide) ?_
  exact q_iret X Y rfl (Nat.le_refl _) (Nat.le_refl _) h dX11_peek_25
def wb_X11_peek_61  (S : q_S) (xs0 : Int32) (Q : Option Value → q_S → Prop) : Prop := Q (some (.int xs0)) S
set_option maxHeartbeats 4000000 in
set_option maxRecDepth 100000 in
theorem cb_X11_peek_61 {p : Program} {l : Launch} {e : Env} {s : State} {m : MethodId} {args : Array Value} {below : List Frame} {meth : Method} {c : Code} {D : va_G} {cy : Nat → ClassId} {lo : Nat}  {S : q_S} {xs0 : Int32} {Q : Option Value → q_S → Prop} {H : Heap} {locs : List Loc} {ls : Array Slot} (X : q_X p s m args meth c RX11 cX11_peek 4 (some .int) D cy lo)  (Y : q_Y D cy lo s S H locs) (hl : lv_has ls 4 []) (h : wb_X11_peek_61 S xs0 Q) : W p l e ({ frames := 1, cells := 0, slots := 0, locals := 21 } : Room) s m args below meth c H locs 0 0 (MQ below (q_Q D cy lo Q) args s 0 0 (fun q => lo ≤ q)) (F0 m 61 ls [.int xs0]) := by
  have hx := X.1
  have hb := X.2.1
  unfold wb_X11_peek_61 at h
  exact q_iret X Y rfl (Nat.le_refl _) (Nat.le_refl _) h dX11_peek_61
def wm_X11_peek (S : q_S) (a0 : Nat) (x1 : Int32) (x2 : Int32) (Q : Option Value → q_S → Prop) : Prop := q_K S a0 = 12 ∧ (∃ a2_ : Nat, (q_P S 2201 a0) = some a2_ ∧ (q_K S a2_ = 7 ∧ (wm_X6_partitionAt S a2_ x1 (fun r5_ S6_ => ∃ r7_ : Option Nat, r5_ = some (va_rf r7_) ∧ (((r7_ = none → (wb_X11_peek_24 S6_ Q)) ∧ (¬ r7_ = none → (∃ a9_ : Nat, r7_ = some a9_ ∧ (q_K S6_ a9_ = 6 ∧ (∃ a12_ : Nat, (q_P S6_ 1002 a9_) = some a12_ ∧ (q_K S6_ a12_ = 5 ∧ (wm_X4_hasWord S6_ a12_ x2 (fun r15_ S16_ => ∃ x17_ : Int32, r15_ = some (.int x17_) ∧ (((¬ x17_ = 0 → (q_K S16_ a0 = 12 ∧ (∃ a20_ : Nat, (q_P S16_ 2201 a0) = some a20_ ∧ (q_K S16_ a20_ = 7 ∧ ((((q_I S16_ 1214 a20_) = 0 → (q_K S16_ a9_ = 6 ∧ (∃ a25_ : Nat, (q_P S16_ 1002 a9_) = some a25_ ∧ (q_K S16_ a25_ = 5 ∧ (∃ a28_ : Nat, (q_P S16_ 802 a25_) = some a28_ ∧ (q_K S16_ a28_ = 21 ∧ (vp_in (x2 >>> ((2 : Int32) &&& 31)) (q_N S16_ a28_) ∧ (wb_X11_peek_61 S16_ (q_A S16_ a28_ (x2 >>> ((2 : Int32) &&& 31)).toNatClampNeg) Q)))))))) ∧ (¬ (q_I S16_ 1214 a20_) = 0 → (q_K S16_ a9_ = 6 ∧ (∃ a33_ : Nat, (q_P S16_ 1002 a9_) = some a33_ ∧ (q_K S16_ a33_ = 5 ∧ (∃ a36_ : Nat, (q_P S16_ 801 a33_) = some a36_ ∧ (q_K S16_ a36_ = 21 ∧ (vp_in (x2 >>> ((2 : Int32) &&& 31)) (q_N S16_ a36_) ∧ (wb_X11_peek_61 S16_ (q_A S16_ a36_ (x2 >>> ((2 : Int32) &&& 31)).toNatClampNeg) Q)))))))))))))) ∧ (x17_ = 0 → (wb_X11_peek_24 S16_ Q)))))))))))))))))
set_option maxHeartbeats 4000000 in
set_option maxRecDepth 100000 in
theorem cm_X11_peek {l : Launch} {D : va_G} {cy : Nat → ClassId} {lo : Nat} {S : q_S} {a0 : Nat} {x1 : Int32} {x2 : Int32} {Q : Option Value → q_S → Prop} (h : wm_X11_peek S a0 x1 x2 Q) : q_Met l D cy lo yX11_peek cX11_peek 4 (some .int) 1 21 0 0 [.ref a0, .int x1, .int x2] S Q := by
  refine q_body (by decide) (by first | exact Nat.le_of_ble_eq_true rfl | simp [lg_sl, q_cat, q_catI, q_catJ, q_catR]) ?_
  intro p e s m below meth c ls X hnm Y hl
  have hx := X.1
  have hb := X.2.1
  have hl : lv_has ls 4 [(0, .ref a0), (1, .int x1), (2, .int x2)] := by first | exact hl | simpa [lv_args, q_cat, q_catI, q_catJ, q_catR] using hl
  generalize hargs : ([.ref a0, .int x1, .int x2] : List Value).toArray = args at X ⊢
  unfold wm_X11_peek at h
  refine lv_aload_n hx hb dX11_peek_0 rfl (lv_at hl 0 rfl) ?_
  obtain ⟨k1_, h⟩ := h
  refine q_getP X Y kX11 1 rfl fl_X11_20 k1_ rfl dX11_peek_1 ?_
  refine lv_iload_n hx hb dX11_peek_4 rfl (lv_at hl 1 rfl) ?_
  obtain ⟨a2_, e3_, h⟩ := h
  refine q_nn [.int x1] e3_ ?_
  obtain ⟨k4_, h⟩ := h
  refine q_callV X Y hl (cm_X6_partitionAt h) mt_X6_partitionAt mi_X6_partitionAt ml_X11_85 (ci := 6) rfl k4_ (by decide) rfl rfl (by first | exact Nat.le_of_ble_eq_true rfl | simp [q_cat, q_catI, q_catJ, q_catR]) ⟨Nat.le_of_ble_eq_true rfl, Nat.le_of_ble_eq_true rfl⟩ ⟨Nat.le_of_ble_eq_true rfl, Nat.le_of_ble_eq_true rfl⟩ dX11_peek_5 (fun r5_ S6_ H locs hp Y => ?_)
  obtain ⟨r7_, rfl, h⟩ := hp
  refine W.eq (g2 := F0 m 8 ls [va_rf r7_]) rfl ?_
  refine q_astore_n (i := 3) (lv' := [(3, va_rf r7_), (0, .ref a0), (1, .int x1), (2, .int x2)]) hx hb dX11_peek_8 rfl hl (by decide) (by first | rfl | simp [q_cat, q_catI, q_catJ, q_catR]) (fun ls hl => ?_)
  refine q_aload_n hx hb dX11_peek_9 rfl (lv_at hl 0 rfl) ?_
  refine q_ifnull (r := r7_) (tgt := 24) hx hb dX11_peek_10 (by decide) (fun c8_ => ?_) (fun c8_ => ?_)
  · replace h := h.1 c8_
    exact cb_X11_peek_24 X Y (lv_sub hl [] rfl) h
  · replace h := h.2 c8_
    refine q_aload_n hx hb dX11_peek_13 rfl (lv_at hl 0 rfl) ?_
    obtain ⟨a9_, e10_, h⟩ := h
    refine q_nn [] e10_ ?_
    obtain ⟨k11_, h⟩ := h
    refine q_getP X Y kX5 2 rfl fl_X11_89 k11_ rfl dX11_peek_14 ?_
    refine lv_iload_n hx hb dX11_peek_17 rfl (lv_at hl 3 rfl) ?_
    obtain ⟨a12_, e13_, h⟩ := h
    refine q_nn [.int x2] e13_ ?_
    obtain ⟨k14_, h⟩ := h
    refine q_callV X Y hl (cm_X4_hasWord h) mt_X4_hasWord mi_X4_hasWord ml_X11_95 (ci := 4) rfl k14_ (by decide) rfl rfl (by first | exact Nat.le_of_ble_eq_true rfl | simp [q_cat, q_catI, q_catJ, q_catR]) ⟨Nat.le_of_ble_eq_true rfl, Nat.le_of_ble_eq_true rfl⟩ ⟨Nat.le_of_ble_eq_true rfl, Nat.le_of_ble_eq_true rfl⟩ dX11_peek_18 (fun r15_ S16_ H locs hp Y => ?_)
    obtain ⟨x17_, rfl, h⟩ := hp
    refine W.eq (g2 := F0 m 21 ls [.int x17_]) rfl ?_
    refine lv_if_ne (tgt := 26) hx hb dX11_peek_21 (by decide) (fun c18_ => ?_) (fun c18_ => ?_)
    · replace h := h.1 c18_
      refine lv_aload_n hx hb dX11_peek_26 rfl (lv_at hl 1 rfl) ?_
      obtain ⟨k19_, h⟩ := h
      refine q_getP X Y kX11 1 rfl fl_X11_20 k19_ rfl dX11_peek_27 ?_
      obtain ⟨a20_, e21_, h⟩ := h
      refine q_nn [] e21_ ?_
      obtain ⟨k22_, h⟩ := h
      refine q_getI X Y kX6 14 rfl fl_X11_75 k22_ dX11_peek_30 ?_
      refine lv_if_eq (tgt := 50) hx hb dX11_peek_33 (by decide) (fun c23_ => ?_) (fun c23_ => ?_)
      · replace h := h.1 c23_
        refine q_aload_n hx hb dX11_peek_50 rfl (lv_at hl 0 rfl) ?_
        refine q_nn [] e10_ ?_
        obtain ⟨k24_, h⟩ := h
        refine q_getP X Y kX5 2 rfl fl_X11_89 k24_ rfl dX11_peek_51 ?_
        obtain ⟨a25_, e26_, h⟩ := h
        refine q_nn [] e26_ ?_
        obtain ⟨k27_, h⟩ := h
        refine q_getP X Y kX4 2 rfl fl_X11_106 k27_ rfl dX11_peek_54 ?_
        refine lv_iload_n hx hb dX11_peek_57 rfl (lv_at hl 3 rfl) ?_
        refine lv_iconst (v := 2) hx hb dX11_peek_58 (by decide) ?_
        refine lv_ishr hx hb dX11_peek_59 ?_
        obtain ⟨a28_, e29_, h⟩ := h
        refine q_nn [.int (x2 >>> ((2 : Int32) &&& 31))] e29_ ?_
        obtain ⟨k30_, h⟩ := h
        obtain ⟨i31_, h⟩ := h
        refine q_ild X Y k30_ i31_ dX11_peek_60 ?_
        exact cb_X11_peek_61 X Y (lv_sub hl [] rfl) h
      · replace h := h.2 c23_
        refine q_aload_n hx hb dX11_peek_36 rfl (lv_at hl 0 rfl) ?_
        refine q_nn [] e10_ ?_
        obtain ⟨k32_, h⟩ := h
        refine q_getP X Y kX5 2 rfl fl_X11_89 k32_ rfl dX11_peek_37 ?_
        obtain ⟨a33_, e34_, h⟩ := h
        refine q_nn [] e34_ ?_
        obtain ⟨k35_, h⟩ := h
        refine q_getP X Y kX4 1 rfl fl_X11_248 k35_ rfl dX11_peek_40 ?_
        refine lv_iload_n hx hb dX11_peek_43 rfl (lv_at hl 3 rfl) ?_
        refine lv_iconst (v := 2) hx hb dX11_peek_44 (by decide) ?_
        refine lv_ishr hx hb dX11_peek_45 ?_
        obtain ⟨a36_, e37_, h⟩ := h
        refine q_nn [.int (x2 >>> ((2 : Int32) &&& 31))] e37_ ?_
        obtain ⟨k38_, h⟩ := h
        obtain ⟨i39_, h⟩ := h
        refine q_ild X Y k38_ i39_ dX11_peek_46 ?_
        refine lv_goto (tgt := 61) hx hb dX11_peek_47 (by decide) ?_
        exact cb_X11_peek_61 X Y (lv_sub hl [] rfl) h
    · replace h := h.2 c18_
      exact cb_X11_peek_24 X Y (lv_sub hl [] rfl) h
-- X11_register
theorem ml_X11_251 : Cond.methodLink RX11 251 yX6_processAt ∈ q_G := q_tb (i := 338) (by decide +kernel) (by decide +kernel)
theorem mt_X6_processAt : q_Mt yX6_processAt cX6_processAt 4 (some (.object "PartitionWorks$Process")) 2 := ⟨q_tb (i := 341) (by decide +kernel) (by decide +kernel), q_tb (i := 3) (by decide +kernel) (by decide +kernel), by decide +kernel, by decide +kernel, by decide +kernel⟩
theorem mi_X6_processAt : Cond.instanceMethod yX6_processAt ∈ q_G ∧ Cond.selects yX6_processAt.cls yX6_processAt yX6_processAt ∈ q_G := ⟨q_tb (i := 339) (by decide +kernel) (by decide +kernel), q_tb (i := 340) (by decide +kernel) (by decide +kernel)⟩
theorem dX11_register_0 : decode cX11_register 0 = .ok (.aload_n 0, 1) := by decide +kernel
theorem dX11_register_1 : decode cX11_register 1 = .ok (.getfield 20, 3) := by decide +kernel
theorem dX11_register_4 : decode cX11_register 4 = .ok (.iload_n 1, 1) := by decide +kernel
theorem dX11_register_5 : decode cX11_register 5 = .ok (.iload_n 2, 1) := by decide +kernel
theorem dX11_register_6 : decode cX11_register 6 = .ok (.invokevirtual 251, 3) := by decide +kernel
theorem dX11_register_9 : decode cX11_register 9 = .ok (.astore 4, 2) := by decide +kernel
theorem dX11_register_11 : decode cX11_register 11 = .ok (.aload 4, 2) := by decide +kernel
theorem dX11_register_13 : decode cX11_register 13 = .ok (.ifnull 13, 3) := by decide +kernel
theorem dX11_register_16 : decode cX11_register 16 = .ok (.iload_n 3, 1) := by decide +kernel
theorem dX11_register_17 : decode cX11_register 17 = .ok (.ifCond .lt 9, 3) := by decide +kernel
theorem dX11_register_20 : decode cX11_register 20 = .ok (.iload_n 3, 1) := by decide +kernel
theorem dX11_register_21 : decode cX11_register 21 = .ok (.bipush 31, 2) := by decide +kernel
theorem dX11_register_23 : decode cX11_register 23 = .ok (.if_icmp .le 7, 3) := by decide +kernel
theorem dX11_register_26 : decode cX11_register 26 = .ok (.iconst 0, 1) := by decide +kernel
theorem dX11_register_27 : decode cX11_register 27 = .ok (.goto 10, 3) := by decide +kernel
theorem dX11_register_30 : decode cX11_register 30 = .ok (.aload 4, 2) := by decide +kernel
theorem dX11_register_32 : decode cX11_register 32 = .ok (.getfield 195, 3) := by decide +kernel
theorem dX11_register_35 : decode cX11_register 35 = .ok (.iload_n 3, 1) := by decide +kernel
theorem dX11_register_36 : decode cX11_register 36 = .ok (.iaload, 1) := by decide +kernel
theorem dX11_register_37 : decode cX11_register 37 = .ok (.ireturn, 1) := by decide +kernel
def wb_X11_register_37  (S : q_S) (xs0 : Int32) (Q : Option Value → q_S → Prop) : Prop := Q (some (.int xs0)) S
set_option maxHeartbeats 4000000 in
set_option maxRecDepth 100000 in
theorem cb_X11_register_37 {p : Program} {l : Launch} {e : Env} {s : State} {m : MethodId} {args : Array Value} {below : List Frame} {meth : Method} {c : Code} {D : va_G} {cy : Nat → ClassId} {lo : Nat}  {S : q_S} {xs0 : Int32} {Q : Option Value → q_S → Prop} {H : Heap} {locs : List Loc} {ls : Array Slot} (X : q_X p s m args meth c RX11 cX11_register 5 (some .int) D cy lo)  (Y : q_Y D cy lo s S H locs) (hl : lv_has ls 5 []) (h : wb_X11_register_37 S xs0 Q) : W p l e ({ frames := 2, cells := 0, slots := 0, locals := 44 } : Room) s m args below meth c H locs 0 0 (MQ below (q_Q D cy lo Q) args s 0 0 (fun q => lo ≤ q)) (F0 m 37 ls [.int xs0]) := by
  have hx := X.1
  have hb := X.2.1
  unfold wb_X11_register_37 at h
  exact q_iret X Y rfl (Nat.le_refl _) (Nat.le_refl _) h dX11_register_37
def wb_X11_register_26  (S : q_S) (Q : Option Value → q_S → Prop) : Prop := wb_X11_register_37 S (0 : Int32) Q
set_option maxHeartbeats 4000000 in
set_option maxRecDepth 100000 in
theorem cb_X11_register_26 {p : Program} {l : Launch} {e : Env} {s : State} {m : MethodId} {args : Array Value} {below : List Frame} {meth : Method} {c : Code} {D : va_G} {cy : Nat → ClassId} {lo : Nat}  {S : q_S} {Q : Option Value → q_S → Prop} {H : Heap} {locs : List Loc} {ls : Array Slot} (X : q_X p s m args meth c RX11 cX11_register 5 (some .int) D cy lo)  (Y : q_Y D cy lo s S H locs) (hl : lv_has ls 5 []) (h : wb_X11_register_26 S Q) : W p l e ({ frames := 2, cells := 0, slots := 0, locals := 44 } : Room) s m args below meth c H locs 0 0 (MQ below (q_Q D cy lo Q) args s 0 0 (fun q => lo ≤ q)) (F0 m 26 ls []) := by
  have hx := X.1
  have hb := X.2.1
  unfold wb_X11_register_26 at h
  refine lv_iconst (v := 0) hx hb dX11_register_26 (by decide) ?_
  refine lv_goto (tgt := 37) hx hb dX11_register_27 (by decide) ?_
  exact cb_X11_register_37 X Y (lv_sub hl [] rfl) h
def wm_X11_register (S : q_S) (a0 : Nat) (x1 : Int32) (x2 : Int32) (x3 : Int32) (Q : Option Value → q_S → Prop) : Prop := q_K S a0 = 12 ∧ (∃ a2_ : Nat, (q_P S 2201 a0) = some a2_ ∧ (q_K S a2_ = 7 ∧ (wm_X6_processAt S a2_ x1 x2 (fun r5_ S6_ => ∃ r7_ : Option Nat, r5_ = some (va_rf r7_) ∧ (((r7_ = none → (wb_X11_register_26 S6_ Q)) ∧ (¬ r7_ = none → (((x3 < 0 → (wb_X11_register_26 S6_ Q)) ∧ (¬ x3 < 0 → (((x3 ≤ (31 : Int32) → (∃ a11_ : Nat, r7_ = some a11_ ∧ (q_K S6_ a11_ = 8 ∧ (∃ a14_ : Nat, (q_P S6_ 1411 a11_) = some a14_ ∧ (q_K S6_ a14_ = 21 ∧ (vp_in x3 (q_N S6_ a14_) ∧ (wb_X11_register_37 S6_ (q_A S6_ a14_ x3.toNatClampNeg) Q))))))) ∧ (¬ x3 ≤ (31 : Int32) → (wb_X11_register_26 S6_ Q))))))))))))))
set_option maxHeartbeats 4000000 in
set_option maxRecDepth 100000 in
theorem cm_X11_register {l : Launch} {D : va_G} {cy : Nat → ClassId} {lo : Nat} {S : q_S} {a0 : Nat} {x1 : Int32} {x2 : Int32} {x3 : Int32} {Q : Option Value → q_S → Prop} (h : wm_X11_register S a0 x1 x2 x3 Q) : q_Met l D cy lo yX11_register cX11_register 5 (some .int) 2 44 0 0 [.ref a0, .int x1, .int x2, .int x3] S Q := by
  refine q_body (by decide) (by first | exact Nat.le_of_ble_eq_true rfl | simp [lg_sl, q_cat, q_catI, q_catJ, q_catR]) ?_
  intro p e s m below meth c ls X hnm Y hl
  have hx := X.1
  have hb := X.2.1
  have hl : lv_has ls 5 [(0, .ref a0), (1, .int x1), (2, .int x2), (3, .int x3)] := by first | exact hl | simpa [lv_args, q_cat, q_catI, q_catJ, q_catR] using hl
  generalize hargs : ([.ref a0, .int x1, .int x2, .int x3] : List Value).toArray = args at X ⊢
  unfold wm_X11_register at h
  refine lv_aload_n hx hb dX11_register_0 rfl (lv_at hl 0 rfl) ?_
  obtain ⟨k1_, h⟩ := h
  refine q_getP X Y kX11 1 rfl fl_X11_20 k1_ rfl dX11_register_1 ?_
  refine lv_iload_n hx hb dX11_register_4 rfl (lv_at hl 1 rfl) ?_
  refine lv_iload_n hx hb dX11_register_5 rfl (lv_at hl 2 rfl) ?_
  obtain ⟨a2_, e3_, h⟩ := h
  refine q_nn [.int x2, .int x1] e3_ ?_
  obtain ⟨k4_, h⟩ := h
  refine q_callV X Y hl (cm_X6_processAt h) mt_X6_processAt mi_X6_processAt ml_X11_251 (ci := 6) rfl k4_ (by decide) rfl rfl (by first | exact Nat.le_of_ble_eq_true rfl | simp [q_cat, q_catI, q_catJ, q_catR]) ⟨Nat.le_of_ble_eq_true rfl, Nat.le_of_ble_eq_true rfl⟩ ⟨Nat.le_of_ble_eq_true rfl, Nat.le_of_ble_eq_true rfl⟩ dX11_register_6 (fun r5_ S6_ H locs hp Y => ?_)
  obtain ⟨r7_, rfl, h⟩ := hp
  refine W.eq (g2 := F0 m 9 ls [va_rf r7_]) rfl ?_
  refine q_astore (i := 4) (lv' := [(4, va_rf r7_), (0, .ref a0), (1, .int x1), (2, .int x2), (3, .int x3)]) hx hb dX11_register_9 hl (by decide) (by first | rfl | simp [q_cat, q_catI, q_catJ, q_catR]) (fun ls hl => ?_)
  refine q_aload hx hb dX11_register_11 (lv_at hl 0 rfl) ?_
  refine q_ifnull (r := r7_) (tgt := 26) hx hb dX11_register_13 (by decide) (fun c8_ => ?_) (fun c8_ => ?_)
  · replace h := h.1 c8_
    exact cb_X11_register_26 X Y (lv_sub hl [] rfl) h
  · replace h := h.2 c8_
    refine lv_iload_n hx hb dX11_register_16 rfl (lv_at hl 4 rfl) ?_
    refine lv_if_lt (tgt := 26) hx hb dX11_register_17 (by decide) (fun c9_ => ?_) (fun c9_ => ?_)
    · replace h := h.1 c9_
      exact cb_X11_register_26 X Y (lv_sub hl [] rfl) h
    · replace h := h.2 c9_
      refine lv_iload_n hx hb dX11_register_20 rfl (lv_at hl 4 rfl) ?_
      refine lv_bipush (v := 31) hx hb dX11_register_21 (by decide) ?_
      refine lv_icmp_le (tgt := 30) hx hb dX11_register_23 (by decide) (fun c10_ => ?_) (fun c10_ => ?_)
      · replace h := h.1 c10_
        refine q_aload hx hb dX11_register_30 (lv_at hl 0 rfl) ?_
        obtain ⟨a11_, e12_, h⟩ := h
        refine q_nn [] e12_ ?_
        obtain ⟨k13_, h⟩ := h
        refine q_getP X Y kX7 11 rfl fl_X11_195 k13_ rfl dX11_register_32 ?_
        refine lv_iload_n hx hb dX11_register_35 rfl (lv_at hl 4 rfl) ?_
        obtain ⟨a14_, e15_, h⟩ := h
        refine q_nn [.int x3] e15_ ?_
        obtain ⟨k16_, h⟩ := h
        obtain ⟨i17_, h⟩ := h
        refine q_ild X Y k16_ i17_ dX11_register_36 ?_
        exact cb_X11_register_37 X Y (lv_sub hl [] rfl) h
      · replace h := h.2 c10_
        exact cb_X11_register_26 X Y (lv_sub hl [] rfl) h
-- X11_state
theorem fl_X11_255 : Cond.fieldLink RX11 255 "PartitionWorks$Process" "state" "I" ∈ q_G := q_tb (i := 873) (by decide +kernel) (by decide +kernel)
theorem fl_X11_258 : Cond.fieldLink RX11 258 "PartitionWorks$Process" "priority" "I" ∈ q_G := q_tb (i := 851) (by decide +kernel) (by decide +kernel)
theorem fl_X11_261 : Cond.fieldLink RX11 261 "PartitionWorks$Process" "until" "I" ∈ q_G := q_tb (i := 888) (by decide +kernel) (by decide +kernel)
theorem fl_X11_264 : Cond.fieldLink RX11 264 "PartitionWorks$Process" "release" "I" ∈ q_G := q_tb (i := 893) (by decide +kernel) (by decide +kernel)
theorem fl_X11_267 : Cond.fieldLink RX11 267 "PartitionWorks$Process" "handler" "Z" ∈ q_G := q_tb (i := 865) (by decide +kernel) (by decide +kernel)
theorem fl_X11_270 : Cond.fieldLink RX11 270 "PartitionWorks$Process" "held" "Z" ∈ q_G := q_tb (i := 895) (by decide +kernel) (by decide +kernel)
theorem dX11_state_0 : decode cX11_state 0 = .ok (.aload_n 0, 1) := by decide +kernel
theorem dX11_state_1 : decode cX11_state 1 = .ok (.getfield 20, 3) := by decide +kernel
theorem dX11_state_4 : decode cX11_state 4 = .ok (.iload_n 1, 1) := by decide +kernel
theorem dX11_state_5 : decode cX11_state 5 = .ok (.iload_n 2, 1) := by decide +kernel
theorem dX11_state_6 : decode cX11_state 6 = .ok (.invokevirtual 251, 3) := by decide +kernel
theorem dX11_state_9 : decode cX11_state 9 = .ok (.astore 4, 2) := by decide +kernel
theorem dX11_state_11 : decode cX11_state 11 = .ok (.aload 4, 2) := by decide +kernel
theorem dX11_state_13 : decode cX11_state 13 = .ok (.ifnonnull 5, 3) := by decide +kernel
theorem dX11_state_16 : decode cX11_state 16 = .ok (.iconst (-1), 1) := by decide +kernel
theorem dX11_state_17 : decode cX11_state 17 = .ok (.ireturn, 1) := by decide +kernel
theorem dX11_state_18 : decode cX11_state 18 = .ok (.iload_n 3, 1) := by decide +kernel
theorem dX11_state_19 : decode cX11_state 19 = .ok (.tableswitch 119 0 8 #[49, 55, 61, 67, 73, 79, 85, 91, 105], 49) := by decide +kernel
theorem dX11_state_68 : decode cX11_state 68 = .ok (.aload 4, 2) := by decide +kernel
theorem dX11_state_70 : decode cX11_state 70 = .ok (.getfield 255, 3) := by decide +kernel
theorem dX11_state_73 : decode cX11_state 73 = .ok (.ireturn, 1) := by decide +kernel
theorem dX11_state_74 : decode cX11_state 74 = .ok (.aload 4, 2) := by decide +kernel
theorem dX11_state_76 : decode cX11_state 76 = .ok (.getfield 245, 3) := by decide +kernel
theorem dX11_state_79 : decode cX11_state 79 = .ok (.ireturn, 1) := by decide +kernel
theorem dX11_state_80 : decode cX11_state 80 = .ok (.aload 4, 2) := by decide +kernel
theorem dX11_state_82 : decode cX11_state 82 = .ok (.getfield 258, 3) := by decide +kernel
theorem dX11_state_85 : decode cX11_state 85 = .ok (.ireturn, 1) := by decide +kernel
theorem dX11_state_86 : decode cX11_state 86 = .ok (.aload 4, 2) := by decide +kernel
theorem dX11_state_88 : decode cX11_state 88 = .ok (.getfield 209, 3) := by decide +kernel
theorem dX11_state_91 : decode cX11_state 91 = .ok (.ireturn, 1) := by decide +kernel
theorem dX11_state_92 : decode cX11_state 92 = .ok (.aload 4, 2) := by decide +kernel
theorem dX11_state_94 : decode cX11_state 94 = .ok (.getfield 261, 3) := by decide +kernel
theorem dX11_state_97 : decode cX11_state 97 = .ok (.ireturn, 1) := by decide +kernel
theorem dX11_state_98 : decode cX11_state 98 = .ok (.aload 4, 2) := by decide +kernel
theorem dX11_state_100 : decode cX11_state 100 = .ok (.getfield 180, 3) := by decide +kernel
theorem dX11_state_103 : decode cX11_state 103 = .ok (.ireturn, 1) := by decide +kernel
theorem dX11_state_104 : decode cX11_state 104 = .ok (.aload 4, 2) := by decide +kernel
theorem dX11_state_106 : decode cX11_state 106 = .ok (.getfield 264, 3) := by decide +kernel
theorem dX11_state_109 : decode cX11_state 109 = .ok (.ireturn, 1) := by decide +kernel
theorem dX11_state_110 : decode cX11_state 110 = .ok (.aload 4, 2) := by decide +kernel
theorem dX11_state_112 : decode cX11_state 112 = .ok (.getfield 267, 3) := by decide +kernel
theorem dX11_state_115 : decode cX11_state 115 = .ok (.ifCond .eq 7, 3) := by decide +kernel
theorem dX11_state_118 : decode cX11_state 118 = .ok (.iconst 1, 1) := by decide +kernel
theorem dX11_state_119 : decode cX11_state 119 = .ok (.goto 4, 3) := by decide +kernel
theorem dX11_state_122 : decode cX11_state 122 = .ok (.iconst 0, 1) := by decide +kernel
theorem dX11_state_123 : decode cX11_state 123 = .ok (.ireturn, 1) := by decide +kernel
theorem dX11_state_124 : decode cX11_state 124 = .ok (.aload 4, 2) := by decide +kernel
theorem dX11_state_126 : decode cX11_state 126 = .ok (.getfield 270, 3) := by decide +kernel
theorem dX11_state_129 : decode cX11_state 129 = .ok (.ifCond .eq 7, 3) := by decide +kernel
theorem dX11_state_132 : decode cX11_state 132 = .ok (.iconst 1, 1) := by decide +kernel
theorem dX11_state_133 : decode cX11_state 133 = .ok (.goto 4, 3) := by decide +kernel
theorem dX11_state_136 : decode cX11_state 136 = .ok (.iconst 0, 1) := by decide +kernel
theorem dX11_state_137 : decode cX11_state 137 = .ok (.ireturn, 1) := by decide +kernel
theorem dX11_state_138 : decode cX11_state 138 = .ok (.iconst (-1), 1) := by decide +kernel
theorem dX11_state_139 : decode cX11_state 139 = .ok (.ireturn, 1) := by decide +kernel
def wb_X11_state_137  (S : q_S) (xs0 : Int32) (Q : Option Value → q_S → Prop) : Prop := Q (some (.int xs0)) S
set_option maxHeartbeats 4000000 in
set_option maxRecDepth 100000 in
theorem cb_X11_state_137 {p : Program} {l : Launch} {e : Env} {s : State} {m : MethodId} {args : Array Value} {below : List Frame} {meth : Method} {c : Code} {D : va_G} {cy : Nat → ClassId} {lo : Nat}  {S : q_S} {xs0 : Int32} {Q : Option Value → q_S → Prop} {H : Heap} {locs : List Loc} {ls : Array Slot} (X : q_X p s m args meth c RX11 cX11_state 5 (some .int) D cy lo)  (Y : q_Y D cy lo s S H locs) (hl : lv_has ls 5 []) (h : wb_X11_state_137 S xs0 Q) : W p l e ({ frames := 2, cells := 0, slots := 0, locals := 44 } : Room) s m args below meth c H locs 0 0 (MQ below (q_Q D cy lo Q) args s 0 0 (fun q => lo ≤ q)) (F0 m 137 ls [.int xs0]) := by
  have hx := X.1
  have hb := X.2.1
  unfold wb_X11_state_137 at h
  exact q_iret X Y rfl (Nat.le_refl _) (Nat.le_refl _) h dX11_state_137
def wb_X11_state_123  (S : q_S) (xs0 : Int32) (Q : Option Value → q_S → Prop) : Prop := Q (some (.int xs0)) S
set_option maxHeartbeats 4000000 in
set_option maxRecDepth 100000 in
theorem cb_X11_state_123 {p : Program} {l : Launch} {e : Env} {s : State} {m : MethodId} {args : Array Value} {below : List Frame} {meth : Method} {c : Code} {D : va_G} {cy : Nat → ClassId} {lo : Nat}  {S : q_S} {xs0 : Int32} {Q : Option Value → q_S → Prop} {H : Heap} {locs : List Loc} {ls : Array Slot} (X : q_X p s m args meth c RX11 cX11_state 5 (some .int) D cy lo)  (Y : q_Y D cy lo s S H locs) (hl : lv_has ls 5 []) (h : wb_X11_state_123 S xs0 Q) : W p l e ({ frames := 2, cells := 0, slots := 0, locals := 44 } : Room) s m args below meth c H locs 0 0 (MQ below (q_Q D cy lo Q) args s 0 0 (fun q => lo ≤ q)) (F0 m 123 ls [.int xs0]) := by
  have hx := X.1
  have hb := X.2.1
  unfold wb_X11_state_123 at h
  exact q_iret X Y rfl (Nat.le_refl _) (Nat.le_refl _) h dX11_state_123
def wm_X11_state (S : q_S) (a0 : Nat) (x1 : Int32) (x2 : Int32) (x3 : Int32) (Q : Option Value → q_S → Prop) : Prop := q_K S a0 = 12 ∧ (∃ a2_ : Nat, (q_P S 2201 a0) = some a2_ ∧ (q_K S a2_ = 7 ∧ (wm_X6_processAt S a2_ x1 x2 (fun r5_ S6_ => ∃ r7_ : Option Nat, r5_ = some (va_rf r7_) ∧ (((¬ r7_ = none → ((((x3.toInt < 0 ∨ 8 < x3.toInt) → (Q (some (.int (-1 : Int32))) S6_)) ∧ ((x3 = (0 : Int32)) → (∃ a9_ : Nat, r7_ = some a9_ ∧ (q_K S6_ a9_ = 8 ∧ (Q (some (.int (q_I S6_ 1409 a9_))) S6_)))) ∧ ((x3 = (1 : Int32)) → (∃ a12_ : Nat, r7_ = some a12_ ∧ (q_K S6_ a12_ = 8 ∧ (Q (some (.int (q_I S6_ 1410 a12_))) S6_)))) ∧ ((x3 = (2 : Int32)) → (∃ a15_ : Nat, r7_ = some a15_ ∧ (q_K S6_ a15_ = 8 ∧ (Q (some (.int (q_I S6_ 1403 a15_))) S6_)))) ∧ ((x3 = (3 : Int32)) → (∃ a18_ : Nat, r7_ = some a18_ ∧ (q_K S6_ a18_ = 8 ∧ (Q (some (.int (q_I S6_ 1412 a18_))) S6_)))) ∧ ((x3 = (4 : Int32)) → (∃ a21_ : Nat, r7_ = some a21_ ∧ (q_K S6_ a21_ = 8 ∧ (Q (some (.int (q_I S6_ 1413 a21_))) S6_)))) ∧ ((x3 = (5 : Int32)) → (∃ a24_ : Nat, r7_ = some a24_ ∧ (q_K S6_ a24_ = 8 ∧ (Q (some (.int (q_I S6_ 1414 a24_))) S6_)))) ∧ ((x3 = (6 : Int32)) → (∃ a27_ : Nat, r7_ = some a27_ ∧ (q_K S6_ a27_ = 8 ∧ (Q (some (.int (q_I S6_ 1415 a27_))) S6_)))) ∧ ((x3 = (7 : Int32)) → (∃ a30_ : Nat, r7_ = some a30_ ∧ (q_K S6_ a30_ = 8 ∧ ((((q_I S6_ 1407 a30_) = 0 → (wb_X11_state_123 S6_ (0 : Int32) Q)) ∧ (¬ (q_I S6_ 1407 a30_) = 0 → (wb_X11_state_123 S6_ (1 : Int32) Q))))))) ∧ ((x3 = (8 : Int32)) → (∃ a34_ : Nat, r7_ = some a34_ ∧ (q_K S6_ a34_ = 8 ∧ ((((q_I S6_ 1416 a34_) = 0 → (wb_X11_state_137 S6_ (0 : Int32) Q)) ∧ (¬ (q_I S6_ 1416 a34_) = 0 → (wb_X11_state_137 S6_ (1 : Int32) Q)))))))))) ∧ (r7_ = none → (Q (some (.int (-1 : Int32))) S6_))))))))
set_option maxHeartbeats 4000000 in
set_option maxRecDepth 100000 in
theorem cm_X11_state {l : Launch} {D : va_G} {cy : Nat → ClassId} {lo : Nat} {S : q_S} {a0 : Nat} {x1 : Int32} {x2 : Int32} {x3 : Int32} {Q : Option Value → q_S → Prop} (h : wm_X11_state S a0 x1 x2 x3 Q) : q_Met l D cy lo yX11_state cX11_state 5 (some .int) 2 44 0 0 [.ref a0, .int x1, .int x2, .int x3] S Q := by
  refine q_body (by decide) (by first | exact Nat.le_of_ble_eq_true rfl | simp [lg_sl, q_cat, q_catI, q_catJ, q_catR]) ?_
  intro p e s m below meth c ls X hnm Y hl
  have hx := X.1
  have hb := X.2.1
  have hl : lv_has ls 5 [(0, .ref a0), (1, .int x1), (2, .int x2), (3, .int x3)] := by first | exact hl | simpa [lv_args, q_cat, q_catI, q_catJ, q_catR] using hl
  generalize hargs : ([.ref a0, .int x1, .int x2, .int x3] : List Value).toArray = args at X ⊢
  unfold wm_X11_state at h
  refine lv_aload_n hx hb dX11_state_0 rfl (lv_at hl 0 rfl) ?_
  obtain ⟨k1_, h⟩ := h
  refine q_getP X Y kX11 1 rfl fl_X11_20 k1_ rfl dX11_state_1 ?_
  refine lv_iload_n hx hb dX11_state_4 rfl (lv_at hl 1 rfl) ?_
  refine lv_iload_n hx hb dX11_state_5 rfl (lv_at hl 2 rfl) ?_
  obtain ⟨a2_, e3_, h⟩ := h
  refine q_nn [.int x2, .int x1] e3_ ?_
  obtain ⟨k4_, h⟩ := h
  refine q_callV X Y hl (cm_X6_processAt h) mt_X6_processAt mi_X6_processAt ml_X11_251 (ci := 6) rfl k4_ (by decide) rfl rfl (by first | exact Nat.le_of_ble_eq_true rfl | simp [q_cat, q_catI, q_catJ, q_catR]) ⟨Nat.le_of_ble_eq_true rfl, Nat.le_of_ble_eq_true rfl⟩ ⟨Nat.le_of_ble_eq_true rfl, Nat.le_of_ble_eq_true rfl⟩ dX11_state_6 (fun r5_ S6_ H locs hp Y => ?_)
  obtain ⟨r7_, rfl, h⟩ := hp
  refine W.eq (g2 := F0 m 9 ls [va_rf r7_]) rfl ?_
  refine q_astore (i := 4) (lv' := [(4, va_rf r7_), (0, .ref a0), (1, .int x1), (2, .int x2), (3, .int x3)]) hx hb dX11_state_9 hl (by decide) (by first | rfl | simp [q_cat, q_catI, q_catJ, q_catR]) (fun ls hl => ?_)
  refine q_aload hx hb dX11_state_11 (lv_at hl 0 rfl) ?_
  refine q_ifnonnull (r := r7_) (tgt := 18) hx hb dX11_state_13 (by decide) (fun c8_ => ?_) (fun c8_ => ?_)
  · replace h := h.1 c8_
    refine lv_iload_n hx hb dX11_state_18 rfl (lv_at hl 4 rfl) ?_
    refine q_tsw (tgt := 138) hx hb dX11_state_19 (by decide) (by decide) (fun c38_ => ?_) (fun j39_ hj_ c38_ => ?_)
    · replace h := h.1 c38_
      refine lv_iconst (v := (-1)) hx hb dX11_state_138 (by decide) ?_
      exact q_iret X Y rfl (Nat.le_refl _) (Nat.le_refl _) h dX11_state_139
    · match j39_, hj_, c38_ with
      | 0, _, c38_ =>
        refine ⟨49, 68, rfl, by decide, ?_⟩
        replace h := h.2.1 (q_eqI c38_ (by decide))
        refine q_aload hx hb dX11_state_68 (lv_at hl 0 rfl) ?_
        obtain ⟨a9_, e10_, h⟩ := h
        refine q_nn [] e10_ ?_
        obtain ⟨k11_, h⟩ := h
        refine q_getI X Y kX7 9 rfl fl_X11_255 k11_ dX11_state_70 ?_
        exact q_iret X Y rfl (Nat.le_refl _) (Nat.le_refl _) h dX11_state_73
      | 1, _, c38_ =>
        refine ⟨55, 74, rfl, by decide, ?_⟩
        replace h := h.2.2.1 (q_eqI c38_ (by decide))
        refine q_aload hx hb dX11_state_74 (lv_at hl 0 rfl) ?_
        obtain ⟨a12_, e13_, h⟩ := h
        refine q_nn [] e13_ ?_
        obtain ⟨k14_, h⟩ := h
        refine q_getI X Y kX7 10 rfl fl_X11_245 k14_ dX11_state_76 ?_
        exact q_iret X Y rfl (Nat.le_refl _) (Nat.le_refl _) h dX11_state_79
      | 2, _, c38_ =>
        refine ⟨61, 80, rfl, by decide, ?_⟩
        replace h := h.2.2.2.1 (q_eqI c38_ (by decide))
        refine q_aload hx hb dX11_state_80 (lv_at hl 0 rfl) ?_
        obtain ⟨a15_, e16_, h⟩ := h
        refine q_nn [] e16_ ?_
        obtain ⟨k17_, h⟩ := h
        refine q_getI X Y kX7 3 rfl fl_X11_258 k17_ dX11_state_82 ?_
        exact q_iret X Y rfl (Nat.le_refl _) (Nat.le_refl _) h dX11_state_85
      | 3, _, c38_ =>
        refine ⟨67, 86, rfl, by decide, ?_⟩
        replace h := h.2.2.2.2.1 (q_eqI c38_ (by decide))
        refine q_aload hx hb dX11_state_86 (lv_at hl 0 rfl) ?_
        obtain ⟨a18_, e19_, h⟩ := h
        refine q_nn [] e19_ ?_
        obtain ⟨k20_, h⟩ := h
        refine q_getI X Y kX7 12 rfl fl_X11_209 k20_ dX11_state_88 ?_
        exact q_iret X Y rfl (Nat.le_refl _) (Nat.le_refl _) h dX11_state_91
      | 4, _, c38_ =>
        refine ⟨73, 92, rfl, by decide, ?_⟩
        replace h := h.2.2.2.2.2.1 (q_eqI c38_ (by decide))
        refine q_aload hx hb dX11_state_92 (lv_at hl 0 rfl) ?_
        obtain ⟨a21_, e22_, h⟩ := h
        refine q_nn [] e22_ ?_
        obtain ⟨k23_, h⟩ := h
        refine q_getI X Y kX7 13 rfl fl_X11_261 k23_ dX11_state_94 ?_
        exact q_iret X Y rfl (Nat.le_refl _) (Nat.le_refl _) h dX11_state_97
      | 5, _, c38_ =>
        refine ⟨79, 98, rfl, by decide, ?_⟩
        replace h := h.2.2.2.2.2.2.1 (q_eqI c38_ (by decide))
        refine q_aload hx hb dX11_state_98 (lv_at hl 0 rfl) ?_
        obtain ⟨a24_, e25_, h⟩ := h
        refine q_nn [] e25_ ?_
        obtain ⟨k26_, h⟩ := h
        refine q_getI X Y kX7 14 rfl fl_X11_180 k26_ dX11_state_100 ?_
        exact q_iret X Y rfl (Nat.le_refl _) (Nat.le_refl _) h dX11_state_103
      | 6, _, c38_ =>
        refine ⟨85, 104, rfl, by decide, ?_⟩
        replace h := h.2.2.2.2.2.2.2.1 (q_eqI c38_ (by decide))
        refine q_aload hx hb dX11_state_104 (lv_at hl 0 rfl) ?_
        obtain ⟨a27_, e28_, h⟩ := h
        refine q_nn [] e28_ ?_
        obtain ⟨k29_, h⟩ := h
        refine q_getI X Y kX7 15 rfl fl_X11_264 k29_ dX11_state_106 ?_
        exact q_iret X Y rfl (Nat.le_refl _) (Nat.le_refl _) h dX11_state_109
      | 7, _, c38_ =>
        refine ⟨91, 110, rfl, by decide, ?_⟩
        replace h := h.2.2.2.2.2.2.2.2.1 (q_eqI c38_ (by decide))
        refine q_aload hx hb dX11_state_110 (lv_at hl 0 rfl) ?_
        obtain ⟨a30_, e31_, h⟩ := h
        refine q_nn [] e31_ ?_
        obtain ⟨k32_, h⟩ := h
        refine q_getI X Y kX7 7 rfl fl_X11_267 k32_ dX11_state_112 ?_
        refine lv_if_eq (tgt := 122) hx hb dX11_state_115 (by decide) (fun c33_ => ?_) (fun c33_ => ?_)
        · replace h := h.1 c33_
          refine lv_iconst (v := 0) hx hb dX11_state_122 (by decide) ?_
          exact cb_X11_state_123 X Y (lv_sub hl [] rfl) h
        · replace h := h.2 c33_
          refine lv_iconst (v := 1) hx hb dX11_state_118 (by decide) ?_
          refine lv_goto (tgt := 123) hx hb dX11_state_119 (by decide) ?_
          exact cb_X11_state_123 X Y (lv_sub hl [] rfl) h
      | 8, _, c38_ =>
        refine ⟨105, 124, rfl, by decide, ?_⟩
        replace h := h.2.2.2.2.2.2.2.2.2 (q_eqI c38_ (by decide))
        refine q_aload hx hb dX11_state_124 (lv_at hl 0 rfl) ?_
        obtain ⟨a34_, e35_, h⟩ := h
        refine q_nn [] e35_ ?_
        obtain ⟨k36_, h⟩ := h
        refine q_getI X Y kX7 16 rfl fl_X11_270 k36_ dX11_state_126 ?_
        refine lv_if_eq (tgt := 136) hx hb dX11_state_129 (by decide) (fun c37_ => ?_) (fun c37_ => ?_)
        · replace h := h.1 c37_
          refine lv_iconst (v := 0) hx hb dX11_state_136 (by decide) ?_
          exact cb_X11_state_137 X Y (lv_sub hl [] rfl) h
        · replace h := h.2 c37_
          refine lv_iconst (v := 1) hx hb dX11_state_132 (by decide) ?_
          refine lv_goto (tgt := 137) hx hb dX11_state_133 (by decide) ?_
          exact cb_X11_state_137 X Y (lv_sub hl [] rfl) h
      | z_ + 9, hj_, _ => exact absurd hj_ (by simp)
  · replace h := h.2 c8_
    refine lv_iconst (v := (-1)) hx hb dX11_state_16 (by decide) ?_
    exact q_iret X Y rfl (Nat.le_refl _) (Nat.le_refl _) h dX11_state_17
-- X11_partition
theorem fl_X11_276 : Cond.fieldLink RX11 276 "PartitionWorks$Memory" "bytes" "I" ∈ q_G := q_tb (i := 659) (by decide +kernel) (by decide +kernel)
theorem fl_X11_279 : Cond.fieldLink RX11 279 "PartitionWorks$Partition" "begun" "I" ∈ q_G := q_tb (i := 715) (by decide +kernel) (by decide +kernel)
theorem fl_X11_281 : Cond.fieldLink RX11 281 "PartitionWorks$Partition" "locks" "I" ∈ q_G := q_tb (i := 720) (by decide +kernel) (by decide +kernel)
theorem fl_X11_284 : Cond.fieldLink RX11 284 "PartitionWorks$Partition" "how" "I" ∈ q_G := q_tb (i := 712) (by decide +kernel) (by decide +kernel)
theorem fl_X11_287 : Cond.fieldLink RX11 287 "PartitionWorks$Memory" "regions" "I" ∈ q_G := q_tb (i := 667) (by decide +kernel) (by decide +kernel)
theorem fl_X11_273 : Cond.fieldLink RX11 273 "PartitionWorks$Partition" "counts" "[I" ∈ q_G := q_tb (i := 705) (by decide +kernel) (by decide +kernel)
theorem dX11_partition_0 : decode cX11_partition 0 = .ok (.aload_n 0, 1) := by decide +kernel
theorem dX11_partition_1 : decode cX11_partition 1 = .ok (.getfield 20, 3) := by decide +kernel
theorem dX11_partition_4 : decode cX11_partition 4 = .ok (.iload_n 1, 1) := by decide +kernel
theorem dX11_partition_5 : decode cX11_partition 5 = .ok (.invokevirtual 85, 3) := by decide +kernel
theorem dX11_partition_8 : decode cX11_partition 8 = .ok (.astore_n 3, 1) := by decide +kernel
theorem dX11_partition_9 : decode cX11_partition 9 = .ok (.aload_n 3, 1) := by decide +kernel
theorem dX11_partition_10 : decode cX11_partition 10 = .ok (.ifnonnull 5, 3) := by decide +kernel
theorem dX11_partition_13 : decode cX11_partition 13 = .ok (.iconst (-1), 1) := by decide +kernel
theorem dX11_partition_14 : decode cX11_partition 14 = .ok (.ireturn, 1) := by decide +kernel
theorem dX11_partition_15 : decode cX11_partition 15 = .ok (.iload_n 2, 1) := by decide +kernel
theorem dX11_partition_16 : decode cX11_partition 16 = .ok (.iconst 3, 1) := by decide +kernel
theorem dX11_partition_17 : decode cX11_partition 17 = .ok (.if_icmp .lt 18, 3) := by decide +kernel
theorem dX11_partition_20 : decode cX11_partition 20 = .ok (.iload_n 2, 1) := by decide +kernel
theorem dX11_partition_21 : decode cX11_partition 21 = .ok (.bipush 8, 2) := by decide +kernel
theorem dX11_partition_23 : decode cX11_partition 23 = .ok (.if_icmp .ge 12, 3) := by decide +kernel
theorem dX11_partition_26 : decode cX11_partition 26 = .ok (.aload_n 3, 1) := by decide +kernel
theorem dX11_partition_27 : decode cX11_partition 27 = .ok (.getfield 273, 3) := by decide +kernel
theorem dX11_partition_30 : decode cX11_partition 30 = .ok (.iload_n 2, 1) := by decide +kernel
theorem dX11_partition_31 : decode cX11_partition 31 = .ok (.iconst 3, 1) := by decide +kernel
theorem dX11_partition_32 : decode cX11_partition 32 = .ok (.isub, 1) := by decide +kernel
theorem dX11_partition_33 : decode cX11_partition 33 = .ok (.iaload, 1) := by decide +kernel
theorem dX11_partition_34 : decode cX11_partition 34 = .ok (.ireturn, 1) := by decide +kernel
theorem dX11_partition_35 : decode cX11_partition 35 = .ok (.iload_n 2, 1) := by decide +kernel
theorem dX11_partition_36 : decode cX11_partition 36 = .ok (.tableswitch 139 0 13 #[72, 77, 85, 139, 139, 139, 139, 139, 90, 95, 100, 121, 126, 134], 72) := by decide +kernel
theorem dX11_partition_108 : decode cX11_partition 108 = .ok (.aload_n 3, 1) := by decide +kernel
theorem dX11_partition_109 : decode cX11_partition 109 = .ok (.getfield 165, 3) := by decide +kernel
theorem dX11_partition_112 : decode cX11_partition 112 = .ok (.ireturn, 1) := by decide +kernel
theorem dX11_partition_113 : decode cX11_partition 113 = .ok (.aload_n 3, 1) := by decide +kernel
theorem dX11_partition_114 : decode cX11_partition 114 = .ok (.getfield 89, 3) := by decide +kernel
theorem dX11_partition_117 : decode cX11_partition 117 = .ok (.getfield 276, 3) := by decide +kernel
theorem dX11_partition_120 : decode cX11_partition 120 = .ok (.ireturn, 1) := by decide +kernel
theorem dX11_partition_121 : decode cX11_partition 121 = .ok (.aload_n 3, 1) := by decide +kernel
theorem dX11_partition_122 : decode cX11_partition 122 = .ok (.getfield 202, 3) := by decide +kernel
theorem dX11_partition_125 : decode cX11_partition 125 = .ok (.ireturn, 1) := by decide +kernel
theorem dX11_partition_126 : decode cX11_partition 126 = .ok (.aload_n 3, 1) := by decide +kernel
theorem dX11_partition_127 : decode cX11_partition 127 = .ok (.getfield 279, 3) := by decide +kernel
theorem dX11_partition_130 : decode cX11_partition 130 = .ok (.ireturn, 1) := by decide +kernel
theorem dX11_partition_131 : decode cX11_partition 131 = .ok (.aload_n 3, 1) := by decide +kernel
theorem dX11_partition_132 : decode cX11_partition 132 = .ok (.getfield 281, 3) := by decide +kernel
theorem dX11_partition_135 : decode cX11_partition 135 = .ok (.ireturn, 1) := by decide +kernel
theorem dX11_partition_136 : decode cX11_partition 136 = .ok (.aload_n 3, 1) := by decide +kernel
theorem dX11_partition_137 : decode cX11_partition 137 = .ok (.invokevirtual 176, 3) := by decide +kernel
theorem dX11_partition_140 : decode cX11_partition 140 = .ok (.astore 4, 2) := by decide +kernel
theorem dX11_partition_142 : decode cX11_partition 142 = .ok (.aload 4, 2) := by decide +kernel
theorem dX11_partition_144 : decode cX11_partition 144 = .ok (.ifnonnull 7, 3) := by decide +kernel
theorem dX11_partition_147 : decode cX11_partition 147 = .ok (.iconst (-1), 1) := by decide +kernel
theorem dX11_partition_148 : decode cX11_partition 148 = .ok (.goto 8, 3) := by decide +kernel
theorem dX11_partition_151 : decode cX11_partition 151 = .ok (.aload 4, 2) := by decide +kernel
theorem dX11_partition_153 : decode cX11_partition 153 = .ok (.getfield 223, 3) := by decide +kernel
theorem dX11_partition_156 : decode cX11_partition 156 = .ok (.ireturn, 1) := by decide +kernel
theorem dX11_partition_157 : decode cX11_partition 157 = .ok (.aload_n 3, 1) := by decide +kernel
theorem dX11_partition_158 : decode cX11_partition 158 = .ok (.getfield 284, 3) := by decide +kernel
theorem dX11_partition_161 : decode cX11_partition 161 = .ok (.ireturn, 1) := by decide +kernel
theorem dX11_partition_162 : decode cX11_partition 162 = .ok (.aload_n 3, 1) := by decide +kernel
theorem dX11_partition_163 : decode cX11_partition 163 = .ok (.getfield 89, 3) := by decide +kernel
theorem dX11_partition_166 : decode cX11_partition 166 = .ok (.getfield 287, 3) := by decide +kernel
theorem dX11_partition_169 : decode cX11_partition 169 = .ok (.ireturn, 1) := by decide +kernel
theorem dX11_partition_170 : decode cX11_partition 170 = .ok (.aload_n 3, 1) := by decide +kernel
theorem dX11_partition_171 : decode cX11_partition 171 = .ok (.getfield 183, 3) := by decide +kernel
theorem dX11_partition_174 : decode cX11_partition 174 = .ok (.ireturn, 1) := by decide +kernel
theorem dX11_partition_175 : decode cX11_partition 175 = .ok (.iconst (-1), 1) := by decide +kernel
theorem dX11_partition_176 : decode cX11_partition 176 = .ok (.ireturn, 1) := by decide +kernel
def wb_X11_partition_156  (S : q_S) (xs0 : Int32) (Q : Option Value → q_S → Prop) : Prop := Q (some (.int xs0)) S
set_option maxHeartbeats 4000000 in
set_option maxRecDepth 100000 in
theorem cb_X11_partition_156 {p : Program} {l : Launch} {e : Env} {s : State} {m : MethodId} {args : Array Value} {below : List Frame} {meth : Method} {c : Code} {D : va_G} {cy : Nat → ClassId} {lo : Nat}  {S : q_S} {xs0 : Int32} {Q : Option Value → q_S → Prop} {H : Heap} {locs : List Loc} {ls : Array Slot} (X : q_X p s m args meth c RX11 cX11_partition 5 (some .int) D cy lo)  (Y : q_Y D cy lo s S H locs) (hl : lv_has ls 5 []) (h : wb_X11_partition_156 S xs0 Q) : W p l e ({ frames := 2, cells := 0, slots := 0, locals := 47 } : Room) s m args below meth c H locs 0 0 (MQ below (q_Q D cy lo Q) args s 0 0 (fun q => lo ≤ q)) (F0 m 156 ls [.int xs0]) := by
  have hx := X.1
  have hb := X.2.1
  unfold wb_X11_partition_156 at h
  exact q_iret X Y rfl (Nat.le_refl _) (Nat.le_refl _) h dX11_partition_156
def wb_X11_partition_35  (S : q_S) (x2 : Int32) (r3 : Option Nat) (Q : Option Value → q_S → Prop) : Prop := (((x2.toInt < 0 ∨ 13 < x2.toInt) → (Q (some (.int (-1 : Int32))) S)) ∧ ((x2 = (0 : Int32)) → (∃ a1_ : Nat, r3 = some a1_ ∧ (q_K S a1_ = 6 ∧ (Q (some (.int (q_I S 1009 a1_))) S)))) ∧ ((x2 = (1 : Int32)) → (∃ a4_ : Nat, r3 = some a4_ ∧ (q_K S a4_ = 6 ∧ (∃ a7_ : Nat, (q_P S 1002 a4_) = some a7_ ∧ (q_K S a7_ = 5 ∧ (Q (some (.int (q_I S 800 a7_))) S)))))) ∧ ((x2 = (2 : Int32)) → (∃ a10_ : Nat, r3 = some a10_ ∧ (q_K S a10_ = 6 ∧ (Q (some (.int (q_I S 1004 a10_))) S)))) ∧ ((x2 = (3 : Int32) ∨ x2 = (4 : Int32) ∨ x2 = (5 : Int32) ∨ x2 = (6 : Int32) ∨ x2 = (7 : Int32)) → (Q (some (.int (-1 : Int32))) S)) ∧ ((x2 = (8 : Int32)) → (∃ a13_ : Nat, r3 = some a13_ ∧ (q_K S a13_ = 6 ∧ (Q (some (.int (q_I S 1011 a13_))) S)))) ∧ ((x2 = (9 : Int32)) → (∃ a16_ : Nat, r3 = some a16_ ∧ (q_K S a16_ = 6 ∧ (Q (some (.int (q_I S 1013 a16_))) S)))) ∧ ((x2 = (10 : Int32)) → (∃ a19_ : Nat, r3 = some a19_ ∧ (q_K S a19_ = 6 ∧ (wm_X5_chosen S a19_ (fun r22_ S23_ => ∃ r24_ : Option Nat, r22_ = some (va_rf r24_) ∧ (((¬ r24_ = none → (∃ a26_ : Nat, r24_ = some a26_ ∧ (q_K S23_ a26_ = 8 ∧ (wb_X11_partition_156 S23_ (q_I S23_ 1400 a26_) Q)))) ∧ (r24_ = none → (wb_X11_partition_156 S23_ (-1 : Int32) Q))))))))) ∧ ((x2 = (11 : Int32)) → (∃ a29_ : Nat, r3 = some a29_ ∧ (q_K S a29_ = 6 ∧ (Q (some (.int (q_I S 1010 a29_))) S)))) ∧ ((x2 = (12 : Int32)) → (∃ a32_ : Nat, r3 = some a32_ ∧ (q_K S a32_ = 6 ∧ (∃ a35_ : Nat, (q_P S 1002 a32_) = some a35_ ∧ (q_K S a35_ = 5 ∧ (Q (some (.int (q_I S 803 a35_))) S)))))) ∧ ((x2 = (13 : Int32)) → (∃ a38_ : Nat, r3 = some a38_ ∧ (q_K S a38_ = 6 ∧ (Q (some (.int (q_I S 1012 a38_))) S)))))
set_option maxHeartbeats 4000000 in
set_option maxRecDepth 100000 in
theorem cb_X11_partition_35 {p : Program} {l : Launch} {e : Env} {s : State} {m : MethodId} {args : Array Value} {below : List Frame} {meth : Method} {c : Code} {D : va_G} {cy : Nat → ClassId} {lo : Nat}  {S : q_S} {x2 : Int32} {r3 : Option Nat} {Q : Option Value → q_S → Prop} {H : Heap} {locs : List Loc} {ls : Array Slot} (X : q_X p s m args meth c RX11 cX11_partition 5 (some .int) D cy lo)  (Y : q_Y D cy lo s S H locs) (hl : lv_has ls 5 [(2, .int x2), (3, va_rf r3)]) (h : wb_X11_partition_35 S x2 r3 Q) : W p l e ({ frames := 2, cells := 0, slots := 0, locals := 47 } : Room) s m args below meth c H locs 0 0 (MQ below (q_Q D cy lo Q) args s 0 0 (fun q => lo ≤ q)) (F0 m 35 ls []) := by
  have hx := X.1
  have hb := X.2.1
  unfold wb_X11_partition_35 at h
  refine lv_iload_n hx hb dX11_partition_35 rfl (lv_at hl 0 rfl) ?_
  refine q_tsw (tgt := 175) hx hb dX11_partition_36 (by decide) (by decide) (fun c41_ => ?_) (fun j42_ hj_ c41_ => ?_)
  · replace h := h.1 c41_
    refine lv_iconst (v := (-1)) hx hb dX11_partition_175 (by decide) ?_
    exact q_iret X Y rfl (Nat.le_refl _) (Nat.le_refl _) h dX11_partition_176
  · match j42_, hj_, c41_ with
    | 0, _, c41_ =>
      refine ⟨72, 108, rfl, by decide, ?_⟩
      replace h := h.2.1 (q_eqI c41_ (by decide))
      refine q_aload_n hx hb dX11_partition_108 rfl (lv_at hl 1 rfl) ?_
      obtain ⟨a1_, e2_, h⟩ := h
      refine q_nn [] e2_ ?_
      obtain ⟨k3_, h⟩ := h
      refine q_getI X Y kX5 9 rfl fl_X11_165 k3_ dX11_partition_109 ?_
      exact q_iret X Y rfl (Nat.le_refl _) (Nat.le_refl _) h dX11_partition_112
    | 1, _, c41_ =>
      refine ⟨77, 113, rfl, by decide, ?_⟩
      replace h := h.2.2.1 (q_eqI c41_ (by decide))
      refine q_aload_n hx hb dX11_partition_113 rfl (lv_at hl 1 rfl) ?_
      obtain ⟨a4_, e5_, h⟩ := h
      refine q_nn [] e5_ ?_
      obtain ⟨k6_, h⟩ := h
      refine q_getP X Y kX5 2 rfl fl_X11_89 k6_ rfl dX11_partition_114 ?_
      obtain ⟨a7_, e8_, h⟩ := h
      refine q_nn [] e8_ ?_
      obtain ⟨k9_, h⟩ := h
      refine q_getI X Y kX4 0 rfl fl_X11_276 k9_ dX11_partition_117 ?_
      exact q_iret X Y rfl (Nat.le_refl _) (Nat.le_refl _) h dX11_partition_120
    | 2, _, c41_ =>
      refine ⟨85, 121, rfl, by decide, ?_⟩
      replace h := h.2.2.2.1 (q_eqI c41_ (by decide))
      refine q_aload_n hx hb dX11_partition_121 rfl (lv_at hl 1 rfl) ?_
      obtain ⟨a10_, e11_, h⟩ := h
      refine q_nn [] e11_ ?_
      obtain ⟨k12_, h⟩ := h
      refine q_getI X Y kX5 4 rfl fl_X11_202 k12_ dX11_partition_122 ?_
      exact q_iret X Y rfl (Nat.le_refl _) (Nat.le_refl _) h dX11_partition_125
    | 3, _, c41_ =>
      refine ⟨139, 175, rfl, by decide, ?_⟩
      replace h := h.2.2.2.2.1 (Or.inl (q_eqI c41_ (by decide)))
      refine lv_iconst (v := (-1)) hx hb dX11_partition_175 (by decide) ?_
      exact q_iret X Y rfl (Nat.le_refl _) (Nat.le_refl _) h dX11_partition_176
    | 4, _, c41_ =>
      refine ⟨139, 175, rfl, by decide, ?_⟩
      replace h := h.2.2.2.2.1 (Or.inr (Or.inl (q_eqI c41_ (by decide))))
      refine lv_iconst (v := (-1)) hx hb dX11_partition_175 (by decide) ?_
      exact q_iret X Y rfl (Nat.le_refl _) (Nat.le_refl _) h dX11_partition_176
    | 5, _, c41_ =>
      refine ⟨139, 175, rfl, by decide, ?_⟩
      replace h := h.2.2.2.2.1 (Or.inr (Or.inr (Or.inl (q_eqI c41_ (by decide)))))
      refine lv_iconst (v := (-1)) hx hb dX11_partition_175 (by decide) ?_
      exact q_iret X Y rfl (Nat.le_refl _) (Nat.le_refl _) h dX11_partition_176
    | 6, _, c41_ =>
      refine ⟨139, 175, rfl, by decide, ?_⟩
      replace h := h.2.2.2.2.1 (Or.inr (Or.inr (Or.inr (Or.inl (q_eqI c41_ (by decide))))))
      refine lv_iconst (v := (-1)) hx hb dX11_partition_175 (by decide) ?_
      exact q_iret X Y rfl (Nat.le_refl _) (Nat.le_refl _) h dX11_partition_176
    | 7, _, c41_ =>
      refine ⟨139, 175, rfl, by decide, ?_⟩
      replace h := h.2.2.2.2.1 (Or.inr (Or.inr (Or.inr (Or.inr (q_eqI c41_ (by decide))))))
      refine lv_iconst (v := (-1)) hx hb dX11_partition_175 (by decide) ?_
      exact q_iret X Y rfl (Nat.le_refl _) (Nat.le_refl _) h dX11_partition_176
    | 8, _, c41_ =>
      refine ⟨90, 126, rfl, by decide, ?_⟩
      replace h := h.2.2.2.2.2.1 (q_eqI c41_ (by decide))
      refine q_aload_n hx hb dX11_partition_126 rfl (lv_at hl 1 rfl) ?_
      obtain ⟨a13_, e14_, h⟩ := h
      refine q_nn [] e14_ ?_
      obtain ⟨k15_, h⟩ := h
      refine q_getI X Y kX5 11 rfl fl_X11_279 k15_ dX11_partition_127 ?_
      exact q_iret X Y rfl (Nat.le_refl _) (Nat.le_refl _) h dX11_partition_130
    | 9, _, c41_ =>
      refine ⟨95, 131, rfl, by decide, ?_⟩
      replace h := h.2.2.2.2.2.2.1 (q_eqI c41_ (by decide))
      refine q_aload_n hx hb dX11_partition_131 rfl (lv_at hl 1 rfl) ?_
      obtain ⟨a16_, e17_, h⟩ := h
      refine q_nn [] e17_ ?_
      obtain ⟨k18_, h⟩ := h
      refine q_getI X Y kX5 13 rfl fl_X11_281 k18_ dX11_partition_132 ?_
      exact q_iret X Y rfl (Nat.le_refl _) (Nat.le_refl _) h dX11_partition_135
    | 10, _, c41_ =>
      refine ⟨100, 136, rfl, by decide, ?_⟩
      replace h := h.2.2.2.2.2.2.2.1 (q_eqI c41_ (by decide))
      refine q_aload_n hx hb dX11_partition_136 rfl (lv_at hl 1 rfl) ?_
      obtain ⟨a19_, e20_, h⟩ := h
      refine q_nn [] e20_ ?_
      obtain ⟨k21_, h⟩ := h
      refine q_callV X Y hl (cm_X5_chosen h) mt_X5_chosen mi_X5_chosen ml_X11_176 (ci := 5) rfl k21_ (by decide) rfl rfl (by first | exact Nat.le_of_ble_eq_true rfl | simp [q_cat, q_catI, q_catJ, q_catR]) ⟨Nat.le_of_ble_eq_true rfl, Nat.le_of_ble_eq_true rfl⟩ ⟨Nat.le_of_ble_eq_true rfl, Nat.le_of_ble_eq_true rfl⟩ dX11_partition_137 (fun r22_ S23_ H locs hp Y => ?_)
      obtain ⟨r24_, rfl, h⟩ := hp
      refine W.eq (g2 := F0 m 140 ls [va_rf r24_]) rfl ?_
      refine q_astore (i := 4) (lv' := [(4, va_rf r24_), (2, .int x2), (3, va_rf r3)]) hx hb dX11_partition_140 hl (by decide) (by first | rfl | simp [q_cat, q_catI, q_catJ, q_catR]) (fun ls hl => ?_)
      refine q_aload hx hb dX11_partition_142 (lv_at hl 0 rfl) ?_
      refine q_ifnonnull (r := r24_) (tgt := 151) hx hb dX11_partition_144 (by decide) (fun c25_ => ?_) (fun c25_ => ?_)
      · replace h := h.1 c25_
        refine q_aload hx hb dX11_partition_151 (lv_at hl 0 rfl) ?_
        obtain ⟨a26_, e27_, h⟩ := h
        refine q_nn [] e27_ ?_
        obtain ⟨k28_, h⟩ := h
        refine q_getI X Y kX7 0 rfl fl_X11_223 k28_ dX11_partition_153 ?_
        exact cb_X11_partition_156 X Y (lv_sub hl [] rfl) h
      · replace h := h.2 c25_
        refine lv_iconst (v := (-1)) hx hb dX11_partition_147 (by decide) ?_
        refine lv_goto (tgt := 156) hx hb dX11_partition_148 (by decide) ?_
        exact cb_X11_partition_156 X Y (lv_sub hl [] rfl) h
    | 11, _, c41_ =>
      refine ⟨121, 157, rfl, by decide, ?_⟩
      replace h := h.2.2.2.2.2.2.2.2.1 (q_eqI c41_ (by decide))
      refine q_aload_n hx hb dX11_partition_157 rfl (lv_at hl 1 rfl) ?_
      obtain ⟨a29_, e30_, h⟩ := h
      refine q_nn [] e30_ ?_
      obtain ⟨k31_, h⟩ := h
      refine q_getI X Y kX5 10 rfl fl_X11_284 k31_ dX11_partition_158 ?_
      exact q_iret X Y rfl (Nat.le_refl _) (Nat.le_refl _) h dX11_partition_161
    | 12, _, c41_ =>
      refine ⟨126, 162, rfl, by decide, ?_⟩
      replace h := h.2.2.2.2.2.2.2.2.2.1 (q_eqI c41_ (by decide))
      refine q_aload_n hx hb dX11_partition_162 rfl (lv_at hl 1 rfl) ?_
      obtain ⟨a32_, e33_, h⟩ := h
      refine q_nn [] e33_ ?_
      obtain ⟨k34_, h⟩ := h
      refine q_getP X Y kX5 2 rfl fl_X11_89 k34_ rfl dX11_partition_163 ?_
      obtain ⟨a35_, e36_, h⟩ := h
      refine q_nn [] e36_ ?_
      obtain ⟨k37_, h⟩ := h
      refine q_getI X Y kX4 3 rfl fl_X11_287 k37_ dX11_partition_166 ?_
      exact q_iret X Y rfl (Nat.le_refl _) (Nat.le_refl _) h dX11_partition_169
    | 13, _, c41_ =>
      refine ⟨134, 170, rfl, by decide, ?_⟩
      replace h := h.2.2.2.2.2.2.2.2.2.2 (q_eqI c41_ (by decide))
      refine q_aload_n hx hb dX11_partition_170 rfl (lv_at hl 1 rfl) ?_
      obtain ⟨a38_, e39_, h⟩ := h
      refine q_nn [] e39_ ?_
      obtain ⟨k40_, h⟩ := h
      refine q_getI X Y kX5 12 rfl fl_X11_183 k40_ dX11_partition_171 ?_
      exact q_iret X Y rfl (Nat.le_refl _) (Nat.le_refl _) h dX11_partition_174
    | z_ + 14, hj_, _ => exact absurd hj_ (by simp)
def wm_X11_partition (S : q_S) (a0 : Nat) (x1 : Int32) (x2 : Int32) (Q : Option Value → q_S → Prop) : Prop := q_K S a0 = 12 ∧ (∃ a44_ : Nat, (q_P S 2201 a0) = some a44_ ∧ (q_K S a44_ = 7 ∧ (wm_X6_partitionAt S a44_ x1 (fun r47_ S48_ => ∃ r49_ : Option Nat, r47_ = some (va_rf r49_) ∧ (((¬ r49_ = none → (((x2 < (3 : Int32) → (wb_X11_partition_35 S48_ x2 r49_ Q)) ∧ (¬ x2 < (3 : Int32) → ((((8 : Int32) ≤ x2 → (wb_X11_partition_35 S48_ x2 r49_ Q)) ∧ (¬ (8 : Int32) ≤ x2 → (∃ a53_ : Nat, r49_ = some a53_ ∧ (q_K S48_ a53_ = 6 ∧ (∃ a56_ : Nat, (q_P S48_ 1006 a53_) = some a56_ ∧ (q_K S48_ a56_ = 21 ∧ (vp_in (x2 - (3 : Int32)) (q_N S48_ a56_) ∧ (Q (some (.int (q_A S48_ a56_ (x2 - (3 : Int32)).toNatClampNeg))) S48_))))))))))))) ∧ (r49_ = none → (Q (some (.int (-1 : Int32))) S48_))))))))
set_option maxHeartbeats 4000000 in
set_option maxRecDepth 100000 in
theorem cm_X11_partition {l : Launch} {D : va_G} {cy : Nat → ClassId} {lo : Nat} {S : q_S} {a0 : Nat} {x1 : Int32} {x2 : Int32} {Q : Option Value → q_S → Prop} (h : wm_X11_partition S a0 x1 x2 Q) : q_Met l D cy lo yX11_partition cX11_partition 5 (some .int) 2 47 0 0 [.ref a0, .int x1, .int x2] S Q := by
  refine q_body (by decide) (by first | exact Nat.le_of_ble_eq_true rfl | simp [lg_sl, q_cat, q_catI, q_catJ, q_catR]) ?_
  intro p e s m below meth c ls X hnm Y hl
  have hx := X.1
  have hb := X.2.1
  have hl : lv_has ls 5 [(0, .ref a0), (1, .int x1), (2, .int x2)] := by first | exact hl | simpa [lv_args, q_cat, q_catI, q_catJ, q_catR] using hl
  generalize hargs : ([.ref a0, .int x1, .int x2] : List Value).toArray = args at X ⊢
  unfold wm_X11_partition at h
  refine lv_aload_n hx hb dX11_partition_0 rfl (lv_at hl 0 rfl) ?_
  obtain ⟨k43_, h⟩ := h
  refine q_getP X Y kX11 1 rfl fl_X11_20 k43_ rfl dX11_partition_1 ?_
  refine lv_iload_n hx hb dX11_partition_4 rfl (lv_at hl 1 rfl) ?_
  obtain ⟨a44_, e45_, h⟩ := h
  refine q_nn [.int x1] e45_ ?_
  obtain ⟨k46_, h⟩ := h
  refine q_callV X Y hl (cm_X6_partitionAt h) mt_X6_partitionAt mi_X6_partitionAt ml_X11_85 (ci := 6) rfl k46_ (by decide) rfl rfl (by first | exact Nat.le_of_ble_eq_true rfl | simp [q_cat, q_catI, q_catJ, q_catR]) ⟨Nat.le_of_ble_eq_true rfl, Nat.le_of_ble_eq_true rfl⟩ ⟨Nat.le_of_ble_eq_true rfl, Nat.le_of_ble_eq_true rfl⟩ dX11_partition_5 (fun r47_ S48_ H locs hp Y => ?_)
  obtain ⟨r49_, rfl, h⟩ := hp
  refine W.eq (g2 := F0 m 8 ls [va_rf r49_]) rfl ?_
  refine q_astore_n (i := 3) (lv' := [(3, va_rf r49_), (0, .ref a0), (1, .int x1), (2, .int x2)]) hx hb dX11_partition_8 rfl hl (by decide) (by first | rfl | simp [q_cat, q_catI, q_catJ, q_catR]) (fun ls hl => ?_)
  refine q_aload_n hx hb dX11_partition_9 rfl (lv_at hl 0 rfl) ?_
  refine q_ifnonnull (r := r49_) (tgt := 15) hx hb dX11_partition_10 (by decide) (fun c50_ => ?_) (fun c50_ => ?_)
  · replace h := h.1 c50_
    refine lv_iload_n hx hb dX11_partition_15 rfl (lv_at hl 3 rfl) ?_
    refine lv_iconst (v := 3) hx hb dX11_partition_16 (by decide) ?_
    refine lv_icmp_lt (tgt := 35) hx hb dX11_partition_17 (by decide) (fun c51_ => ?_) (fun c51_ => ?_)
    · replace h := h.1 c51_
      exact cb_X11_partition_35 X Y (lv_sub hl [3, 0] rfl) h
    · replace h := h.2 c51_
      refine lv_iload_n hx hb dX11_partition_20 rfl (lv_at hl 3 rfl) ?_
      refine lv_bipush (v := 8) hx hb dX11_partition_21 (by decide) ?_
      refine lv_icmp_ge (tgt := 35) hx hb dX11_partition_23 (by decide) (fun c52_ => ?_) (fun c52_ => ?_)
      · replace h := h.1 c52_
        exact cb_X11_partition_35 X Y (lv_sub hl [3, 0] rfl) h
      · replace h := h.2 c52_
        refine q_aload_n hx hb dX11_partition_26 rfl (lv_at hl 0 rfl) ?_
        obtain ⟨a53_, e54_, h⟩ := h
        refine q_nn [] e54_ ?_
        obtain ⟨k55_, h⟩ := h
        refine q_getP X Y kX5 6 rfl fl_X11_273 k55_ rfl dX11_partition_27 ?_
        refine lv_iload_n hx hb dX11_partition_30 rfl (lv_at hl 3 rfl) ?_
        refine lv_iconst (v := 3) hx hb dX11_partition_31 (by decide) ?_
        refine lv_isub hx hb dX11_partition_32 ?_
        obtain ⟨a56_, e57_, h⟩ := h
        refine q_nn [.int (x2 - (3 : Int32))] e57_ ?_
        obtain ⟨k58_, h⟩ := h
        obtain ⟨i59_, h⟩ := h
        refine q_ild X Y k58_ i59_ dX11_partition_33 ?_
        exact q_iret X Y rfl (Nat.le_refl _) (Nat.le_refl _) h dX11_partition_34
  · replace h := h.2 c50_
    refine lv_iconst (v := (-1)) hx hb dX11_partition_13 (by decide) ?_
    exact q_iret X Y rfl (Nat.le_refl _) (Nat.le_refl _) h dX11_partition_14
-- X11_thing
theorem ml_X11_290 : Cond.methodLink RX11 290 yX6_thingAt ∈ q_G := q_tb (i := 368) (by decide +kernel) (by decide +kernel)
theorem mt_X6_thingAt : q_Mt yX6_thingAt cX6_thingAt 5 (some (.object "PartitionWorks$Thing")) 3 := ⟨q_tb (i := 371) (by decide +kernel) (by decide +kernel), q_tb (i := 3) (by decide +kernel) (by decide +kernel), by decide +kernel, by decide +kernel, by decide +kernel⟩
theorem mi_X6_thingAt : Cond.instanceMethod yX6_thingAt ∈ q_G ∧ Cond.selects yX6_thingAt.cls yX6_thingAt yX6_thingAt ∈ q_G := ⟨q_tb (i := 369) (by decide +kernel) (by decide +kernel), q_tb (i := 370) (by decide +kernel) (by decide +kernel)⟩
theorem ml_X11_299 : Cond.methodLink RX11 299 yX10_value ∈ q_G := q_tb (i := 376) (by decide +kernel) (by decide +kernel)
theorem fl_X11_294 : Cond.fieldLink RX11 294 "PartitionWorks$Thing" "channel" "I" ∈ q_G := q_tb (i := 1021) (by decide +kernel) (by decide +kernel)
theorem dX11_thing_0 : decode cX11_thing 0 = .ok (.aload_n 0, 1) := by decide +kernel
theorem dX11_thing_1 : decode cX11_thing 1 = .ok (.getfield 20, 3) := by decide +kernel
theorem dX11_thing_4 : decode cX11_thing 4 = .ok (.iload_n 1, 1) := by decide +kernel
theorem dX11_thing_5 : decode cX11_thing 5 = .ok (.iload_n 2, 1) := by decide +kernel
theorem dX11_thing_6 : decode cX11_thing 6 = .ok (.iload_n 3, 1) := by decide +kernel
theorem dX11_thing_7 : decode cX11_thing 7 = .ok (.invokevirtual 290, 3) := by decide +kernel
theorem dX11_thing_10 : decode cX11_thing 10 = .ok (.astore 4, 2) := by decide +kernel
theorem dX11_thing_12 : decode cX11_thing 12 = .ok (.aload 4, 2) := by decide +kernel
theorem dX11_thing_14 : decode cX11_thing 14 = .ok (.ifnonnull 5, 3) := by decide +kernel
theorem dX11_thing_17 : decode cX11_thing 17 = .ok (.iconst (-1), 1) := by decide +kernel
theorem dX11_thing_18 : decode cX11_thing 18 = .ok (.ireturn, 1) := by decide +kernel
theorem dX11_thing_19 : decode cX11_thing 19 = .ok (.iload_n 2, 1) := by decide +kernel
theorem dX11_thing_20 : decode cX11_thing 20 = .ok (.iconst 4, 1) := by decide +kernel
theorem dX11_thing_21 : decode cX11_thing 21 = .ok (.if_icmp .ne 11, 3) := by decide +kernel
theorem dX11_thing_24 : decode cX11_thing 24 = .ok (.aload 4, 2) := by decide +kernel
theorem dX11_thing_26 : decode cX11_thing 26 = .ok (.getfield 294, 3) := by decide +kernel
theorem dX11_thing_29 : decode cX11_thing 29 = .ok (.goto 8, 3) := by decide +kernel
theorem dX11_thing_32 : decode cX11_thing 32 = .ok (.aload 4, 2) := by decide +kernel
theorem dX11_thing_34 : decode cX11_thing 34 = .ok (.invokevirtual 299, 3) := by decide +kernel
theorem dX11_thing_37 : decode cX11_thing 37 = .ok (.ireturn, 1) := by decide +kernel
def wb_X11_thing_37  (S : q_S) (xs0 : Int32) (Q : Option Value → q_S → Prop) : Prop := Q (some (.int xs0)) S
set_option maxHeartbeats 4000000 in
set_option maxRecDepth 100000 in
theorem cb_X11_thing_37 {p : Program} {l : Launch} {e : Env} {s : State} {m : MethodId} {args : Array Value} {below : List Frame} {meth : Method} {c : Code} {D : va_G} {cy : Nat → ClassId} {lo : Nat}  {S : q_S} {xs0 : Int32} {Q : Option Value → q_S → Prop} {H : Heap} {locs : List Loc} {ls : Array Slot} (X : q_X p s m args meth c RX11 cX11_thing 5 (some .int) D cy lo)  (Y : q_Y D cy lo s S H locs) (hl : lv_has ls 5 []) (h : wb_X11_thing_37 S xs0 Q) : W p l e ({ frames := 2, cells := 0, slots := 0, locals := 46 } : Room) s m args below meth c H locs 0 0 (MQ below (q_Q D cy lo Q) args s 0 0 (fun q => lo ≤ q)) (F0 m 37 ls [.int xs0]) := by
  have hx := X.1
  have hb := X.2.1
  unfold wb_X11_thing_37 at h
  exact q_iret X Y rfl (Nat.le_refl _) (Nat.le_refl _) h dX11_thing_37
def wm_X11_thing (S : q_S) (a0 : Nat) (x1 : Int32) (x2 : Int32) (x3 : Int32) (Q : Option Value → q_S → Prop) : Prop := q_K S a0 = 12 ∧ (∃ a2_ : Nat, (q_P S 2201 a0) = some a2_ ∧ (q_K S a2_ = 7 ∧ (wm_X6_thingAt S a2_ x1 x2 x3 (fun r5_ S6_ => ∃ r7_ : Option Nat, r5_ = some (va_rf r7_) ∧ (((¬ r7_ = none → (((¬ x2 = (4 : Int32) → (∃ a10_ : Nat, r7_ = some a10_ ∧ (q_K S6_ a10_ = 11 ∧ (wm_X10_value S6_ a10_ (fun r13_ S14_ => ∃ x15_ : Int32, r13_ = some (.int x15_) ∧ (wb_X11_thing_37 S14_ x15_ Q)))))) ∧ (x2 = (4 : Int32) → (∃ a16_ : Nat, r7_ = some a16_ ∧ (q_K S6_ a16_ = 11 ∧ (wb_X11_thing_37 S6_ (q_I S6_ 2008 a16_) Q))))))) ∧ (r7_ = none → (Q (some (.int (-1 : Int32))) S6_))))))))
set_option maxHeartbeats 4000000 in
set_option maxRecDepth 100000 in
theorem cm_X11_thing {l : Launch} {D : va_G} {cy : Nat → ClassId} {lo : Nat} {S : q_S} {a0 : Nat} {x1 : Int32} {x2 : Int32} {x3 : Int32} {Q : Option Value → q_S → Prop} (h : wm_X11_thing S a0 x1 x2 x3 Q) : q_Met l D cy lo yX11_thing cX11_thing 5 (some .int) 2 46 0 0 [.ref a0, .int x1, .int x2, .int x3] S Q := by
  refine q_body (by decide) (by first | exact Nat.le_of_ble_eq_true rfl | simp [lg_sl, q_cat, q_catI, q_catJ, q_catR]) ?_
  intro p e s m below meth c ls X hnm Y hl
  have hx := X.1
  have hb := X.2.1
  have hl : lv_has ls 5 [(0, .ref a0), (1, .int x1), (2, .int x2), (3, .int x3)] := by first | exact hl | simpa [lv_args, q_cat, q_catI, q_catJ, q_catR] using hl
  generalize hargs : ([.ref a0, .int x1, .int x2, .int x3] : List Value).toArray = args at X ⊢
  unfold wm_X11_thing at h
  refine lv_aload_n hx hb dX11_thing_0 rfl (lv_at hl 0 rfl) ?_
  obtain ⟨k1_, h⟩ := h
  refine q_getP X Y kX11 1 rfl fl_X11_20 k1_ rfl dX11_thing_1 ?_
  refine lv_iload_n hx hb dX11_thing_4 rfl (lv_at hl 1 rfl) ?_
  refine lv_iload_n hx hb dX11_thing_5 rfl (lv_at hl 2 rfl) ?_
  refine lv_iload_n hx hb dX11_thing_6 rfl (lv_at hl 3 rfl) ?_
  obtain ⟨a2_, e3_, h⟩ := h
  refine q_nn [.int x3, .int x2, .int x1] e3_ ?_
  obtain ⟨k4_, h⟩ := h
  refine q_callV X Y hl (cm_X6_thingAt h) mt_X6_thingAt mi_X6_thingAt ml_X11_290 (ci := 6) rfl k4_ (by decide) rfl rfl (by first | exact Nat.le_of_ble_eq_true rfl | simp [q_cat, q_catI, q_catJ, q_catR]) ⟨Nat.le_of_ble_eq_true rfl, Nat.le_of_ble_eq_true rfl⟩ ⟨Nat.le_of_ble_eq_true rfl, Nat.le_of_ble_eq_true rfl⟩ dX11_thing_7 (fun r5_ S6_ H locs hp Y => ?_)
  obtain ⟨r7_, rfl, h⟩ := hp
  refine W.eq (g2 := F0 m 10 ls [va_rf r7_]) rfl ?_
  refine q_astore (i := 4) (lv' := [(4, va_rf r7_), (0, .ref a0), (1, .int x1), (2, .int x2), (3, .int x3)]) hx hb dX11_thing_10 hl (by decide) (by first | rfl | simp [q_cat, q_catI, q_catJ, q_catR]) (fun ls hl => ?_)
  refine q_aload hx hb dX11_thing_12 (lv_at hl 0 rfl) ?_
  refine q_ifnonnull (r := r7_) (tgt := 19) hx hb dX11_thing_14 (by decide) (fun c8_ => ?_) (fun c8_ => ?_)
  · replace h := h.1 c8_
    refine lv_iload_n hx hb dX11_thing_19 rfl (lv_at hl 3 rfl) ?_
    refine lv_iconst (v := 4) hx hb dX11_thing_20 (by decide) ?_
    refine lv_icmp_ne (tgt := 32) hx hb dX11_thing_21 (by decide) (fun c9_ => ?_) (fun c9_ => ?_)
    · replace h := h.1 c9_
      refine q_aload hx hb dX11_thing_32 (lv_at hl 0 rfl) ?_
      obtain ⟨a10_, e11_, h⟩ := h
      refine q_nn [] e11_ ?_
      obtain ⟨k12_, h⟩ := h
      refine q_callV X Y hl (cm_X10_value h) mt_X10_value mi_X10_value ml_X11_299 (ci := 10) rfl k12_ (by decide) rfl rfl (by first | exact Nat.le_of_ble_eq_true rfl | simp [q_cat, q_catI, q_catJ, q_catR]) ⟨Nat.le_of_ble_eq_true rfl, Nat.le_of_ble_eq_true rfl⟩ ⟨Nat.le_of_ble_eq_true rfl, Nat.le_of_ble_eq_true rfl⟩ dX11_thing_34 (fun r13_ S14_ H locs hp Y => ?_)
      obtain ⟨x15_, rfl, h⟩ := hp
      refine W.eq (g2 := F0 m 37 ls [.int x15_]) rfl ?_
      exact cb_X11_thing_37 X Y (lv_sub hl [] rfl) h
    · replace h := h.2 c9_
      refine q_aload hx hb dX11_thing_24 (lv_at hl 0 rfl) ?_
      obtain ⟨a16_, e17_, h⟩ := h
      refine q_nn [] e17_ ?_
      obtain ⟨k18_, h⟩ := h
      refine q_getI X Y kX10 8 rfl fl_X11_294 k18_ dX11_thing_26 ?_
      refine lv_goto (tgt := 37) hx hb dX11_thing_29 (by decide) ?_
      exact cb_X11_thing_37 X Y (lv_sub hl [] rfl) h
  · replace h := h.2 c8_
    refine lv_iconst (v := (-1)) hx hb dX11_thing_17 (by decide) ?_
    exact q_iret X Y rfl (Nat.le_refl _) (Nat.le_refl _) h dX11_thing_18
-- X11_waiting
theorem ml_X11_302 : Cond.methodLink RX11 302 yX5_thingAt ∈ q_G := q_tb (i := 384) (by decide +kernel) (by decide +kernel)
theorem ml_X11_305 : Cond.methodLink RX11 305 yX5_countWaiting ∈ q_G := q_tb (i := 385) (by decide +kernel) (by decide +kernel)
theorem dX11_waiting_0 : decode cX11_waiting 0 = .ok (.aload_n 0, 1) := by decide +kernel
theorem dX11_waiting_1 : decode cX11_waiting 1 = .ok (.getfield 20, 3) := by decide +kernel
theorem dX11_waiting_4 : decode cX11_waiting 4 = .ok (.iload_n 1, 1) := by decide +kernel
theorem dX11_waiting_5 : decode cX11_waiting 5 = .ok (.invokevirtual 85, 3) := by decide +kernel
theorem dX11_waiting_8 : decode cX11_waiting 8 = .ok (.astore 4, 2) := by decide +kernel
theorem dX11_waiting_10 : decode cX11_waiting 10 = .ok (.aload 4, 2) := by decide +kernel
theorem dX11_waiting_12 : decode cX11_waiting 12 = .ok (.ifnull 13, 3) := by decide +kernel
theorem dX11_waiting_15 : decode cX11_waiting 15 = .ok (.aload 4, 2) := by decide +kernel
theorem dX11_waiting_17 : decode cX11_waiting 17 = .ok (.iload_n 2, 1) := by decide +kernel
theorem dX11_waiting_18 : decode cX11_waiting 18 = .ok (.iload_n 3, 1) := by decide +kernel
theorem dX11_waiting_19 : decode cX11_waiting 19 = .ok (.invokevirtual 302, 3) := by decide +kernel
theorem dX11_waiting_22 : decode cX11_waiting 22 = .ok (.ifnonnull 5, 3) := by decide +kernel
theorem dX11_waiting_25 : decode cX11_waiting 25 = .ok (.iconst (-1), 1) := by decide +kernel
theorem dX11_waiting_26 : decode cX11_waiting 26 = .ok (.ireturn, 1) := by decide +kernel
theorem dX11_waiting_27 : decode cX11_waiting 27 = .ok (.aload 4, 2) := by decide +kernel
theorem dX11_waiting_29 : decode cX11_waiting 29 = .ok (.iload_n 2, 1) := by decide +kernel
theorem dX11_waiting_30 : decode cX11_waiting 30 = .ok (.bipush 8, 2) := by decide +kernel
theorem dX11_waiting_32 : decode cX11_waiting 32 = .ok (.imul, 1) := by decide +kernel
theorem dX11_waiting_33 : decode cX11_waiting 33 = .ok (.iload_n 3, 1) := by decide +kernel
theorem dX11_waiting_34 : decode cX11_waiting 34 = .ok (.iadd, 1) := by decide +kernel
theorem dX11_waiting_35 : decode cX11_waiting 35 = .ok (.invokevirtual 305, 3) := by decide +kernel
theorem dX11_waiting_38 : decode cX11_waiting 38 = .ok (.ireturn, 1) := by decide +kernel
def wb_X11_waiting_25  (S : q_S) (Q : Option Value → q_S → Prop) : Prop := Q (some (.int (-1 : Int32))) S
set_option maxHeartbeats 4000000 in
set_option maxRecDepth 100000 in
theorem cb_X11_waiting_25 {p : Program} {l : Launch} {e : Env} {s : State} {m : MethodId} {args : Array Value} {below : List Frame} {meth : Method} {c : Code} {D : va_G} {cy : Nat → ClassId} {lo : Nat}  {S : q_S} {Q : Option Value → q_S → Prop} {H : Heap} {locs : List Loc} {ls : Array Slot} (X : q_X p s m args meth c RX11 cX11_waiting 5 (some .int) D cy lo)  (Y : q_Y D cy lo s S H locs) (hl : lv_has ls 5 []) (h : wb_X11_waiting_25 S Q) : W p l e ({ frames := 1, cells := 0, slots := 0, locals := 24 } : Room) s m args below meth c H locs 0 0 (MQ below (q_Q D cy lo Q) args s 0 0 (fun q => lo ≤ q)) (F0 m 25 ls []) := by
  have hx := X.1
  have hb := X.2.1
  unfold wb_X11_waiting_25 at h
  refine lv_iconst (v := (-1)) hx hb dX11_waiting_25 (by decide) ?_
  exact q_iret X Y rfl (Nat.le_refl _) (Nat.le_refl _) h dX11_waiting_26
def wm_X11_waiting (S : q_S) (a0 : Nat) (x1 : Int32) (x2 : Int32) (x3 : Int32) (Q : Option Value → q_S → Prop) : Prop := q_K S a0 = 12 ∧ (∃ a2_ : Nat, (q_P S 2201 a0) = some a2_ ∧ (q_K S a2_ = 7 ∧ (wm_X6_partitionAt S a2_ x1 (fun r5_ S6_ => ∃ r7_ : Option Nat, r5_ = some (va_rf r7_) ∧ (((r7_ = none → (wb_X11_waiting_25 S6_ Q)) ∧ (¬ r7_ = none → (∃ a9_ : Nat, r7_ = some a9_ ∧ (q_K S6_ a9_ = 6 ∧ (wm_X5_thingAt S6_ a9_ x2 x3 (fun r12_ S13_ => ∃ r14_ : Option Nat, r12_ = some (va_rf r14_) ∧ (((¬ r14_ = none → (q_K S13_ a9_ = 6 ∧ (wm_X5_countWaiting S13_ a9_ ((x2 * (8 : Int32)) + x3) (fun r17_ S18_ => ∃ x19_ : Int32, r17_ = some (.int x19_) ∧ (Q (some (.int x19_)) S18_))))) ∧ (r14_ = none → (wb_X11_waiting_25 S13_ Q)))))))))))))))
set_option maxHeartbeats 4000000 in
set_option maxRecDepth 100000 in
theorem cm_X11_waiting {l : Launch} {D : va_G} {cy : Nat → ClassId} {lo : Nat} {S : q_S} {a0 : Nat} {x1 : Int32} {x2 : Int32} {x3 : Int32} {Q : Option Value → q_S → Prop} (h : wm_X11_waiting S a0 x1 x2 x3 Q) : q_Met l D cy lo yX11_waiting cX11_waiting 5 (some .int) 1 24 0 0 [.ref a0, .int x1, .int x2, .int x3] S Q := by
  refine q_body (by decide) (by first | exact Nat.le_of_ble_eq_true rfl | simp [lg_sl, q_cat, q_catI, q_catJ, q_catR]) ?_
  intro p e s m below meth c ls X hnm Y hl
  have hx := X.1
  have hb := X.2.1
  have hl : lv_has ls 5 [(0, .ref a0), (1, .int x1), (2, .int x2), (3, .int x3)] := by first | exact hl | simpa [lv_args, q_cat, q_catI, q_catJ, q_catR] using hl
  generalize hargs : ([.ref a0, .int x1, .int x2, .int x3] : List Value).toArray = args at X ⊢
  unfold wm_X11_waiting at h
  refine lv_aload_n hx hb dX11_waiting_0 rfl (lv_at hl 0 rfl) ?_
  obtain ⟨k1_, h⟩ := h
  refine q_getP X Y kX11 1 rfl fl_X11_20 k1_ rfl dX11_waiting_1 ?_
  refine lv_iload_n hx hb dX11_waiting_4 rfl (lv_at hl 1 rfl) ?_
  obtain ⟨a2_, e3_, h⟩ := h
  refine q_nn [.int x1] e3_ ?_
  obtain ⟨k4_, h⟩ := h
  refine q_callV X Y hl (cm_X6_partitionAt h) mt_X6_partitionAt mi_X6_partitionAt ml_X11_85 (ci := 6) rfl k4_ (by decide) rfl rfl (by first | exact Nat.le_of_ble_eq_true rfl | simp [q_cat, q_catI, q_catJ, q_catR]) ⟨Nat.le_of_ble_eq_true rfl, Nat.le_of_ble_eq_true rfl⟩ ⟨Nat.le_of_ble_eq_true rfl, Nat.le_of_ble_eq_true rfl⟩ dX11_waiting_5 (fun r5_ S6_ H locs hp Y => ?_)
  obtain ⟨r7_, rfl, h⟩ := hp
  refine W.eq (g2 := F0 m 8 ls [va_rf r7_]) rfl ?_
  refine q_astore (i := 4) (lv' := [(4, va_rf r7_), (0, .ref a0), (1, .int x1), (2, .int x2), (3, .int x3)]) hx hb dX11_waiting_8 hl (by decide) (by first | rfl | simp [q_cat, q_catI, q_catJ, q_catR]) (fun ls hl => ?_)
  refine q_aload hx hb dX11_waiting_10 (lv_at hl 0 rfl) ?_
  refine q_ifnull (r := r7_) (tgt := 25) hx hb dX11_waiting_12 (by decide) (fun c8_ => ?_) (fun c8_ => ?_)
  · replace h := h.1 c8_
    exact cb_X11_waiting_25 X Y (lv_sub hl [] rfl) h
  · replace h := h.2 c8_
    refine q_aload hx hb dX11_waiting_15 (lv_at hl 0 rfl) ?_
    refine lv_iload_n hx hb dX11_waiting_17 rfl (lv_at hl 3 rfl) ?_
    refine lv_iload_n hx hb dX11_waiting_18 rfl (lv_at hl 4 rfl) ?_
    obtain ⟨a9_, e10_, h⟩ := h
    refine q_nn [.int x3, .int x2] e10_ ?_
    obtain ⟨k11_, h⟩ := h
    refine q_callV X Y hl (cm_X5_thingAt h) mt_X5_thingAt mi_X5_thingAt ml_X11_302 (ci := 5) rfl k11_ (by decide) rfl rfl (by first | exact Nat.le_of_ble_eq_true rfl | simp [q_cat, q_catI, q_catJ, q_catR]) ⟨Nat.le_of_ble_eq_true rfl, Nat.le_of_ble_eq_true rfl⟩ ⟨Nat.le_of_ble_eq_true rfl, Nat.le_of_ble_eq_true rfl⟩ dX11_waiting_19 (fun r12_ S13_ H locs hp Y => ?_)
    obtain ⟨r14_, rfl, h⟩ := hp
    refine W.eq (g2 := F0 m 22 ls [va_rf r14_]) rfl ?_
    refine q_ifnonnull (r := r14_) (tgt := 27) hx hb dX11_waiting_22 (by decide) (fun c15_ => ?_) (fun c15_ => ?_)
    · replace h := h.1 c15_
      refine q_aload hx hb dX11_waiting_27 (lv_at hl 0 rfl) ?_
      refine lv_iload_n hx hb dX11_waiting_29 rfl (lv_at hl 3 rfl) ?_
      refine lv_bipush (v := 8) hx hb dX11_waiting_30 (by decide) ?_
      refine lv_imul hx hb dX11_waiting_32 ?_
      refine lv_iload_n hx hb dX11_waiting_33 rfl (lv_at hl 4 rfl) ?_
      refine lv_iadd hx hb dX11_waiting_34 ?_
      refine q_nn [.int ((x2 * (8 : Int32)) + x3)] e10_ ?_
      obtain ⟨k16_, h⟩ := h
      refine q_callV X Y hl (cm_X5_countWaiting h) mt_X5_countWaiting mi_X5_countWaiting ml_X11_305 (ci := 5) rfl k16_ (by decide) rfl rfl (by first | exact Nat.le_of_ble_eq_true rfl | simp [q_cat, q_catI, q_catJ, q_catR]) ⟨Nat.le_of_ble_eq_true rfl, Nat.le_of_ble_eq_true rfl⟩ ⟨Nat.le_of_ble_eq_true rfl, Nat.le_of_ble_eq_true rfl⟩ dX11_waiting_35 (fun r17_ S18_ H locs hp Y => ?_)
      obtain ⟨x19_, rfl, h⟩ := hp
      refine W.eq (g2 := F0 m 38 ls [.int x19_]) rfl ?_
      exact q_iret X Y rfl (Nat.le_refl _) (Nat.le_refl _) h dX11_waiting_38
    · replace h := h.2 c15_
      exact cb_X11_waiting_25 X Y (lv_sub hl [] rfl) h
-- X11_region
theorem ml_X11_309 : Cond.methodLink RX11 309 yX4_firstOf ∈ q_G := q_tb (i := 393) (by decide +kernel) (by decide +kernel)
theorem mt_X4_firstOf : q_Mt yX4_firstOf cX4_firstOf 2 (some .int) 1 := ⟨q_tb (i := 396) (by decide +kernel) (by decide +kernel), q_tb (i := 21) (by decide +kernel) (by decide +kernel), by decide +kernel, by decide +kernel, by decide +kernel⟩
theorem mi_X4_firstOf : Cond.instanceMethod yX4_firstOf ∈ q_G ∧ Cond.selects yX4_firstOf.cls yX4_firstOf yX4_firstOf ∈ q_G := ⟨q_tb (i := 394) (by decide +kernel) (by decide +kernel), q_tb (i := 395) (by decide +kernel) (by decide +kernel)⟩
theorem fl_X11_312 : Cond.fieldLink RX11 312 "PartitionWorks$Memory" "ends" "[I" ∈ q_G := q_tb (i := 669) (by decide +kernel) (by decide +kernel)
theorem fl_X11_315 : Cond.fieldLink RX11 315 "PartitionWorks$Memory" "sorts" "[I" ∈ q_G := q_tb (i := 671) (by decide +kernel) (by decide +kernel)
theorem dX11_region_0 : decode cX11_region 0 = .ok (.aload_n 0, 1) := by decide +kernel
theorem dX11_region_1 : decode cX11_region 1 = .ok (.getfield 20, 3) := by decide +kernel
theorem dX11_region_4 : decode cX11_region 4 = .ok (.iload_n 1, 1) := by decide +kernel
theorem dX11_region_5 : decode cX11_region 5 = .ok (.invokevirtual 85, 3) := by decide +kernel
theorem dX11_region_8 : decode cX11_region 8 = .ok (.astore 4, 2) := by decide +kernel
theorem dX11_region_10 : decode cX11_region 10 = .ok (.aload 4, 2) := by decide +kernel
theorem dX11_region_12 : decode cX11_region 12 = .ok (.ifnull 19, 3) := by decide +kernel
theorem dX11_region_15 : decode cX11_region 15 = .ok (.iload_n 2, 1) := by decide +kernel
theorem dX11_region_16 : decode cX11_region 16 = .ok (.ifCond .lt 15, 3) := by decide +kernel
theorem dX11_region_19 : decode cX11_region 19 = .ok (.iload_n 2, 1) := by decide +kernel
theorem dX11_region_20 : decode cX11_region 20 = .ok (.aload 4, 2) := by decide +kernel
theorem dX11_region_22 : decode cX11_region 22 = .ok (.getfield 89, 3) := by decide +kernel
theorem dX11_region_25 : decode cX11_region 25 = .ok (.getfield 287, 3) := by decide +kernel
theorem dX11_region_28 : decode cX11_region 28 = .ok (.if_icmp .lt 5, 3) := by decide +kernel
theorem dX11_region_31 : decode cX11_region 31 = .ok (.iconst (-1), 1) := by decide +kernel
theorem dX11_region_32 : decode cX11_region 32 = .ok (.ireturn, 1) := by decide +kernel
theorem dX11_region_33 : decode cX11_region 33 = .ok (.iload_n 3, 1) := by decide +kernel
theorem dX11_region_34 : decode cX11_region 34 = .ok (.tableswitch 68 0 2 #[26, 36, 57], 26) := by decide +kernel
theorem dX11_region_60 : decode cX11_region 60 = .ok (.aload 4, 2) := by decide +kernel
theorem dX11_region_62 : decode cX11_region 62 = .ok (.getfield 89, 3) := by decide +kernel
theorem dX11_region_65 : decode cX11_region 65 = .ok (.iload_n 2, 1) := by decide +kernel
theorem dX11_region_66 : decode cX11_region 66 = .ok (.invokevirtual 309, 3) := by decide +kernel
theorem dX11_region_69 : decode cX11_region 69 = .ok (.ireturn, 1) := by decide +kernel
theorem dX11_region_70 : decode cX11_region 70 = .ok (.aload 4, 2) := by decide +kernel
theorem dX11_region_72 : decode cX11_region 72 = .ok (.getfield 89, 3) := by decide +kernel
theorem dX11_region_75 : decode cX11_region 75 = .ok (.getfield 312, 3) := by decide +kernel
theorem dX11_region_78 : decode cX11_region 78 = .ok (.iload_n 2, 1) := by decide +kernel
theorem dX11_region_79 : decode cX11_region 79 = .ok (.iaload, 1) := by decide +kernel
theorem dX11_region_80 : decode cX11_region 80 = .ok (.aload 4, 2) := by decide +kernel
theorem dX11_region_82 : decode cX11_region 82 = .ok (.getfield 89, 3) := by decide +kernel
theorem dX11_region_85 : decode cX11_region 85 = .ok (.iload_n 2, 1) := by decide +kernel
theorem dX11_region_86 : decode cX11_region 86 = .ok (.invokevirtual 309, 3) := by decide +kernel
theorem dX11_region_89 : decode cX11_region 89 = .ok (.isub, 1) := by decide +kernel
theorem dX11_region_90 : decode cX11_region 90 = .ok (.ireturn, 1) := by decide +kernel
theorem dX11_region_91 : decode cX11_region 91 = .ok (.aload 4, 2) := by decide +kernel
theorem dX11_region_93 : decode cX11_region 93 = .ok (.getfield 89, 3) := by decide +kernel
theorem dX11_region_96 : decode cX11_region 96 = .ok (.getfield 315, 3) := by decide +kernel
theorem dX11_region_99 : decode cX11_region 99 = .ok (.iload_n 2, 1) := by decide +kernel
theorem dX11_region_100 : decode cX11_region 100 = .ok (.iaload, 1) := by decide +kernel
theorem dX11_region_101 : decode cX11_region 101 = .ok (.ireturn, 1) := by decide +kernel
theorem dX11_region_102 : decode cX11_region 102 = .ok (.iconst (-1), 1) := by decide +kernel
theorem dX11_region_103 : decode cX11_region 103 = .ok (.ireturn, 1) := by decide +kernel
def wb_X11_region_31  (S : q_S) (Q : Option Value → q_S → Prop) : Prop := Q (some (.int (-1 : Int32))) S
set_option maxHeartbeats 4000000 in
set_option maxRecDepth 100000 in
theorem cb_X11_region_31 {p : Program} {l : Launch} {e : Env} {s : State} {m : MethodId} {args : Array Value} {below : List Frame} {meth : Method} {c : Code} {D : va_G} {cy : Nat → ClassId} {lo : Nat}  {S : q_S} {Q : Option Value → q_S → Prop} {H : Heap} {locs : List Loc} {ls : Array Slot} (X : q_X p s m args meth c RX11 cX11_region 5 (some .int) D cy lo)  (Y : q_Y D cy lo s S H locs) (hl : lv_has ls 5 []) (h : wb_X11_region_31 S Q) : W p l e ({ frames := 1, cells := 0, slots := 0, locals := 21 } : Room) s m args below meth c H locs 0 0 (MQ below (q_Q D cy lo Q) args s 0 0 (fun q => lo ≤ q)) (F0 m 31 ls []) := by
  have hx := X.1
  have hb := X.2.1
  unfold wb_X11_region_31 at h
  refine lv_iconst (v := (-1)) hx hb dX11_region_31 (by decide) ?_
  exact q_iret X Y rfl (Nat.le_refl _) (Nat.le_refl _) h dX11_region_32
def wm_X11_region (S : q_S) (a0 : Nat) (x1 : Int32) (x2 : Int32) (x3 : Int32) (Q : Option Value → q_S → Prop) : Prop := q_K S a0 = 12 ∧ (∃ a2_ : Nat, (q_P S 2201 a0) = some a2_ ∧ (q_K S a2_ = 7 ∧ (wm_X6_partitionAt S a2_ x1 (fun r5_ S6_ => ∃ r7_ : Option Nat, r5_ = some (va_rf r7_) ∧ (((r7_ = none → (wb_X11_region_31 S6_ Q)) ∧ (¬ r7_ = none → (((x2 < 0 → (wb_X11_region_31 S6_ Q)) ∧ (¬ x2 < 0 → (∃ a10_ : Nat, r7_ = some a10_ ∧ (q_K S6_ a10_ = 6 ∧ (∃ a13_ : Nat, (q_P S6_ 1002 a10_) = some a13_ ∧ (q_K S6_ a13_ = 5 ∧ (((x2 < (q_I S6_ 803 a13_) → ((((x3.toInt < 0 ∨ 2 < x3.toInt) → (Q (some (.int (-1 : Int32))) S6_)) ∧ ((x3 = (0 : Int32)) → (wm_X4_firstOf S6_ a13_ x2 (fun r17_ S18_ => ∃ x19_ : Int32, r17_ = some (.int x19_) ∧ (Q (some (.int x19_)) S18_)))) ∧ ((x3 = (1 : Int32)) → (∃ a20_ : Nat, (q_P S6_ 804 a13_) = some a20_ ∧ (q_K S6_ a20_ = 21 ∧ (vp_in x2 (q_N S6_ a20_) ∧ (wm_X4_firstOf S6_ a13_ x2 (fun r24_ S25_ => ∃ x26_ : Int32, r24_ = some (.int x26_) ∧ (Q (some (.int ((q_A S6_ a20_ x2.toNatClampNeg) - x26_))) S25_))))))) ∧ ((x3 = (2 : Int32)) → (∃ a27_ : Nat, (q_P S6_ 805 a13_) = some a27_ ∧ (q_K S6_ a27_ = 21 ∧ (vp_in x2 (q_N S6_ a27_) ∧ (Q (some (.int (q_A S6_ a27_ x2.toNatClampNeg))) S6_)))))))) ∧ (¬ x2 < (q_I S6_ 803 a13_) → (wb_X11_region_31 S6_ Q))))))))))))))))))
set_option maxHeartbeats 4000000 in
set_option maxRecDepth 100000 in
theorem cm_X11_region {l : Launch} {D : va_G} {cy : Nat → ClassId} {lo : Nat} {S : q_S} {a0 : Nat} {x1 : Int32} {x2 : Int32} {x3 : Int32} {Q : Option Value → q_S → Prop} (h : wm_X11_region S a0 x1 x2 x3 Q) : q_Met l D cy lo yX11_region cX11_region 5 (some .int) 1 21 0 0 [.ref a0, .int x1, .int x2, .int x3] S Q := by
  refine q_body (by decide) (by first | exact Nat.le_of_ble_eq_true rfl | simp [lg_sl, q_cat, q_catI, q_catJ, q_catR]) ?_
  intro p e s m below meth c ls X hnm Y hl
  have hx := X.1
  have hb := X.2.1
  have hl : lv_has ls 5 [(0, .ref a0), (1, .int x1), (2, .int x2), (3, .int x3)] := by first | exact hl | simpa [lv_args, q_cat, q_catI, q_catJ, q_catR] using hl
  generalize hargs : ([.ref a0, .int x1, .int x2, .int x3] : List Value).toArray = args at X ⊢
  unfold wm_X11_region at h
  refine lv_aload_n hx hb dX11_region_0 rfl (lv_at hl 0 rfl) ?_
  obtain ⟨k1_, h⟩ := h
  refine q_getP X Y kX11 1 rfl fl_X11_20 k1_ rfl dX11_region_1 ?_
  refine lv_iload_n hx hb dX11_region_4 rfl (lv_at hl 1 rfl) ?_
  obtain ⟨a2_, e3_, h⟩ := h
  refine q_nn [.int x1] e3_ ?_
  obtain ⟨k4_, h⟩ := h
  refine q_callV X Y hl (cm_X6_partitionAt h) mt_X6_partitionAt mi_X6_partitionAt ml_X11_85 (ci := 6) rfl k4_ (by decide) rfl rfl (by first | exact Nat.le_of_ble_eq_true rfl | simp [q_cat, q_catI, q_catJ, q_catR]) ⟨Nat.le_of_ble_eq_true rfl, Nat.le_of_ble_eq_true rfl⟩ ⟨Nat.le_of_ble_eq_true rfl, Nat.le_of_ble_eq_true rfl⟩ dX11_region_5 (fun r5_ S6_ H locs hp Y => ?_)
  obtain ⟨r7_, rfl, h⟩ := hp
  refine W.eq (g2 := F0 m 8 ls [va_rf r7_]) rfl ?_
  refine q_astore (i := 4) (lv' := [(4, va_rf r7_), (0, .ref a0), (1, .int x1), (2, .int x2), (3, .int x3)]) hx hb dX11_region_8 hl (by decide) (by first | rfl | simp [q_cat, q_catI, q_catJ, q_catR]) (fun ls hl => ?_)
  refine q_aload hx hb dX11_region_10 (lv_at hl 0 rfl) ?_
  refine q_ifnull (r := r7_) (tgt := 31) hx hb dX11_region_12 (by decide) (fun c8_ => ?_) (fun c8_ => ?_)
  · replace h := h.1 c8_
    exact cb_X11_region_31 X Y (lv_sub hl [] rfl) h
  · replace h := h.2 c8_
    refine lv_iload_n hx hb dX11_region_15 rfl (lv_at hl 3 rfl) ?_
    refine lv_if_lt (tgt := 31) hx hb dX11_region_16 (by decide) (fun c9_ => ?_) (fun c9_ => ?_)
    · replace h := h.1 c9_
      exact cb_X11_region_31 X Y (lv_sub hl [] rfl) h
    · replace h := h.2 c9_
      refine lv_iload_n hx hb dX11_region_19 rfl (lv_at hl 3 rfl) ?_
      refine q_aload hx hb dX11_region_20 (lv_at hl 0 rfl) ?_
      obtain ⟨a10_, e11_, h⟩ := h
      refine q_nn [] e11_ ?_
      obtain ⟨k12_, h⟩ := h
      refine q_getP X Y kX5 2 rfl fl_X11_89 k12_ rfl dX11_region_22 ?_
      obtain ⟨a13_, e14_, h⟩ := h
      refine q_nn [] e14_ ?_
      obtain ⟨k15_, h⟩ := h
      refine q_getI X Y kX4 3 rfl fl_X11_287 k15_ dX11_region_25 ?_
      refine lv_icmp_lt (tgt := 33) hx hb dX11_region_28 (by decide) (fun c16_ => ?_) (fun c16_ => ?_)
      · replace h := h.1 c16_
        refine lv_iload_n hx hb dX11_region_33 rfl (lv_at hl 4 rfl) ?_
        refine q_tsw (tgt := 102) hx hb dX11_region_34 (by decide) (by decide) (fun c31_ => ?_) (fun j32_ hj_ c31_ => ?_)
        · replace h := h.1 c31_
          refine lv_iconst (v := (-1)) hx hb dX11_region_102 (by decide) ?_
          exact q_iret X Y rfl (Nat.le_refl _) (Nat.le_refl _) h dX11_region_103
        · match j32_, hj_, c31_ with
          | 0, _, c31_ =>
            refine ⟨26, 60, rfl, by decide, ?_⟩
            replace h := h.2.1 (q_eqI c31_ (by decide))
            refine q_aload hx hb dX11_region_60 (lv_at hl 0 rfl) ?_
            refine q_nn [] e11_ ?_
            refine q_getR X Y kX5 2 rfl fl_X11_89 k12_ e14_ dX11_region_62 ?_
            refine lv_iload_n hx hb dX11_region_65 rfl (lv_at hl 3 rfl) ?_
            refine q_callV X Y hl (cm_X4_firstOf h) mt_X4_firstOf mi_X4_firstOf ml_X11_309 (ci := 4) rfl k15_ (by decide) rfl rfl (by first | exact Nat.le_of_ble_eq_true rfl | simp [q_cat, q_catI, q_catJ, q_catR]) ⟨Nat.le_of_ble_eq_true rfl, Nat.le_of_ble_eq_true rfl⟩ ⟨Nat.le_of_ble_eq_true rfl, Nat.le_of_ble_eq_true rfl⟩ dX11_region_66 (fun r17_ S18_ H locs hp Y => ?_)
            obtain ⟨x19_, rfl, h⟩ := hp
            refine W.eq (g2 := F0 m 69 ls [.int x19_]) rfl ?_
            exact q_iret X Y rfl (Nat.le_refl _) (Nat.le_refl _) h dX11_region_69
          | 1, _, c31_ =>
            refine ⟨36, 70, rfl, by decide, ?_⟩
            replace h := h.2.2.1 (q_eqI c31_ (by decide))
            refine q_aload hx hb dX11_region_70 (lv_at hl 0 rfl) ?_
            refine q_nn [] e11_ ?_
            refine q_getR X Y kX5 2 rfl fl_X11_89 k12_ e14_ dX11_region_72 ?_
            refine q_getP X Y kX4 4 rfl fl_X11_312 k15_ rfl dX11_region_75 ?_
            refine lv_iload_n hx hb dX11_region_78 rfl (lv_at hl 3 rfl) ?_
            obtain ⟨a20_, e21_, h⟩ := h
            refine q_nn [.int x2] e21_ ?_
            obtain ⟨k22_, h⟩ := h
            obtain ⟨i23_, h⟩ := h
            refine q_ild X Y k22_ i23_ dX11_region_79 ?_
            refine q_aload hx hb dX11_region_80 (lv_at hl 0 rfl) ?_
            refine q_nn [] e11_ ?_
            refine q_getR X Y kX5 2 rfl fl_X11_89 k12_ e14_ dX11_region_82 ?_
            refine lv_iload_n hx hb dX11_region_85 rfl (lv_at hl 3 rfl) ?_
            refine q_callV X Y hl (cm_X4_firstOf h) mt_X4_firstOf mi_X4_firstOf ml_X11_309 (ci := 4) rfl k15_ (by decide) rfl rfl (by first | exact Nat.le_of_ble_eq_true rfl | simp [q_cat, q_catI, q_catJ, q_catR]) ⟨Nat.le_of_ble_eq_true rfl, Nat.le_of_ble_eq_true rfl⟩ ⟨Nat.le_of_ble_eq_true rfl, Nat.le_of_ble_eq_true rfl⟩ dX11_region_86 (fun r24_ S25_ H locs hp Y => ?_)
            obtain ⟨x26_, rfl, h⟩ := hp
            refine W.eq (g2 := F0 m 89 ls [.int x26_, .int (q_A S6_ a20_ x2.toNatClampNeg)]) rfl ?_
            refine lv_isub hx hb dX11_region_89 ?_
            exact q_iret X Y rfl (Nat.le_refl _) (Nat.le_refl _) h dX11_region_90
          | 2, _, c31_ =>
            refine ⟨57, 91, rfl, by decide, ?_⟩
            replace h := h.2.2.2 (q_eqI c31_ (by decide))
            refine q_aload hx hb dX11_region_91 (lv_at hl 0 rfl) ?_
            refine q_nn [] e11_ ?_
            refine q_getR X Y kX5 2 rfl fl_X11_89 k12_ e14_ dX11_region_93 ?_
            refine q_getP X Y kX4 5 rfl fl_X11_315 k15_ rfl dX11_region_96 ?_
            refine lv_iload_n hx hb dX11_region_99 rfl (lv_at hl 3 rfl) ?_
            obtain ⟨a27_, e28_, h⟩ := h
            refine q_nn [.int x2] e28_ ?_
            obtain ⟨k29_, h⟩ := h
            obtain ⟨i30_, h⟩ := h
            refine q_ild X Y k29_ i30_ dX11_region_100 ?_
            exact q_iret X Y rfl (Nat.le_refl _) (Nat.le_refl _) h dX11_region_101
          | z_ + 3, hj_, _ => exact absurd hj_ (by simp)
      · replace h := h.2 c16_
        exact cb_X11_region_31 X Y (lv_sub hl [] rfl) h
-- X11_wordOf
theorem fl_X11_318 : Cond.fieldLink RX11 318 "PartitionWorks$Thing" "queue" "LPartitionWorks$Queue;" ∈ q_G := q_tb (i := 1026) (by decide +kernel) (by decide +kernel)
theorem fl_X11_327 : Cond.fieldLink RX11 327 "PartitionWorks$Thing" "count" "I" ∈ q_G := q_tb (i := 1002) (by decide +kernel) (by decide +kernel)
theorem fl_X11_330 : Cond.fieldLink RX11 330 "PartitionWorks$Thing" "word" "I" ∈ q_G := q_tb (i := 1013) (by decide +kernel) (by decide +kernel)
theorem ml_X11_322 : Cond.methodLink RX11 322 yX8_at ∈ q_G := q_tb (i := 401) (by decide +kernel) (by decide +kernel)
theorem dX11_wordOf_0 : decode cX11_wordOf 0 = .ok (.aload_n 0, 1) := by decide +kernel
theorem dX11_wordOf_1 : decode cX11_wordOf 1 = .ok (.getfield 20, 3) := by decide +kernel
theorem dX11_wordOf_4 : decode cX11_wordOf 4 = .ok (.iload_n 1, 1) := by decide +kernel
theorem dX11_wordOf_5 : decode cX11_wordOf 5 = .ok (.iload_n 2, 1) := by decide +kernel
theorem dX11_wordOf_6 : decode cX11_wordOf 6 = .ok (.iload_n 3, 1) := by decide +kernel
theorem dX11_wordOf_7 : decode cX11_wordOf 7 = .ok (.invokevirtual 290, 3) := by decide +kernel
theorem dX11_wordOf_10 : decode cX11_wordOf 10 = .ok (.astore 5, 2) := by decide +kernel
theorem dX11_wordOf_12 : decode cX11_wordOf 12 = .ok (.aload 5, 2) := by decide +kernel
theorem dX11_wordOf_14 : decode cX11_wordOf 14 = .ok (.ifnonnull 5, 3) := by decide +kernel
theorem dX11_wordOf_17 : decode cX11_wordOf 17 = .ok (.iconst 0, 1) := by decide +kernel
theorem dX11_wordOf_18 : decode cX11_wordOf 18 = .ok (.ireturn, 1) := by decide +kernel
theorem dX11_wordOf_19 : decode cX11_wordOf 19 = .ok (.aload 5, 2) := by decide +kernel
theorem dX11_wordOf_21 : decode cX11_wordOf 21 = .ok (.getfield 318, 3) := by decide +kernel
theorem dX11_wordOf_24 : decode cX11_wordOf 24 = .ok (.ifnull 14, 3) := by decide +kernel
theorem dX11_wordOf_27 : decode cX11_wordOf 27 = .ok (.aload 5, 2) := by decide +kernel
theorem dX11_wordOf_29 : decode cX11_wordOf 29 = .ok (.getfield 318, 3) := by decide +kernel
theorem dX11_wordOf_32 : decode cX11_wordOf 32 = .ok (.iload 4, 2) := by decide +kernel
theorem dX11_wordOf_34 : decode cX11_wordOf 34 = .ok (.invokevirtual 322, 3) := by decide +kernel
theorem dX11_wordOf_37 : decode cX11_wordOf 37 = .ok (.ireturn, 1) := by decide +kernel
theorem dX11_wordOf_38 : decode cX11_wordOf 38 = .ok (.iload_n 2, 1) := by decide +kernel
theorem dX11_wordOf_39 : decode cX11_wordOf 39 = .ok (.iconst 3, 1) := by decide +kernel
theorem dX11_wordOf_40 : decode cX11_wordOf 40 = .ok (.if_icmp .ne 24, 3) := by decide +kernel
theorem dX11_wordOf_43 : decode cX11_wordOf 43 = .ok (.aload 5, 2) := by decide +kernel
theorem dX11_wordOf_45 : decode cX11_wordOf 45 = .ok (.getfield 327, 3) := by decide +kernel
theorem dX11_wordOf_48 : decode cX11_wordOf 48 = .ok (.ifCond .eq 16, 3) := by decide +kernel
theorem dX11_wordOf_51 : decode cX11_wordOf 51 = .ok (.iload 4, 2) := by decide +kernel
theorem dX11_wordOf_53 : decode cX11_wordOf 53 = .ok (.ifCond .ne 11, 3) := by decide +kernel
theorem dX11_wordOf_56 : decode cX11_wordOf 56 = .ok (.aload 5, 2) := by decide +kernel
theorem dX11_wordOf_58 : decode cX11_wordOf 58 = .ok (.getfield 330, 3) := by decide +kernel
theorem dX11_wordOf_61 : decode cX11_wordOf 61 = .ok (.goto 4, 3) := by decide +kernel
theorem dX11_wordOf_64 : decode cX11_wordOf 64 = .ok (.iconst 0, 1) := by decide +kernel
theorem dX11_wordOf_65 : decode cX11_wordOf 65 = .ok (.ireturn, 1) := by decide +kernel
def wb_X11_wordOf_65  (S : q_S) (xs0 : Int32) (Q : Option Value → q_S → Prop) : Prop := Q (some (.int xs0)) S
set_option maxHeartbeats 4000000 in
set_option maxRecDepth 100000 in
theorem cb_X11_wordOf_65 {p : Program} {l : Launch} {e : Env} {s : State} {m : MethodId} {args : Array Value} {below : List Frame} {meth : Method} {c : Code} {D : va_G} {cy : Nat → ClassId} {lo : Nat}  {S : q_S} {xs0 : Int32} {Q : Option Value → q_S → Prop} {H : Heap} {locs : List Loc} {ls : Array Slot} (X : q_X p s m args meth c RX11 cX11_wordOf 6 (some .int) D cy lo)  (Y : q_Y D cy lo s S H locs) (hl : lv_has ls 6 []) (h : wb_X11_wordOf_65 S xs0 Q) : W p l e ({ frames := 2, cells := 0, slots := 0, locals := 46 } : Room) s m args below meth c H locs 0 0 (MQ below (q_Q D cy lo Q) args s 0 0 (fun q => lo ≤ q)) (F0 m 65 ls [.int xs0]) := by
  have hx := X.1
  have hb := X.2.1
  unfold wb_X11_wordOf_65 at h
  exact q_iret X Y rfl (Nat.le_refl _) (Nat.le_refl _) h dX11_wordOf_65
def wb_X11_wordOf_64  (S : q_S) (Q : Option Value → q_S → Prop) : Prop := wb_X11_wordOf_65 S (0 : Int32) Q
set_option maxHeartbeats 4000000 in
set_option maxRecDepth 100000 in
theorem cb_X11_wordOf_64 {p : Program} {l : Launch} {e : Env} {s : State} {m : MethodId} {args : Array Value} {below : List Frame} {meth : Method} {c : Code} {D : va_G} {cy : Nat → ClassId} {lo : Nat}  {S : q_S} {Q : Option Value → q_S → Prop} {H : Heap} {locs : List Loc} {ls : Array Slot} (X : q_X p s m args meth c RX11 cX11_wordOf 6 (some .int) D cy lo)  (Y : q_Y D cy lo s S H locs) (hl : lv_has ls 6 []) (h : wb_X11_wordOf_64 S Q) : W p l e ({ frames := 2, cells := 0, slots := 0, locals := 46 } : Room) s m args below meth c H locs 0 0 (MQ below (q_Q D cy lo Q) args s 0 0 (fun q => lo ≤ q)) (F0 m 64 ls []) := by
  have hx := X.1
  have hb := X.2.1
  unfold wb_X11_wordOf_64 at h
  refine lv_iconst (v := 0) hx hb dX11_wordOf_64 (by decide) ?_
  exact cb_X11_wordOf_65 X Y (lv_sub hl [] rfl) h
def wm_X11_wordOf (S : q_S) (a0 : Nat) (x1 : Int32) (x2 : Int32) (x3 : Int32) (x4 : Int32) (Q : Option Value → q_S → Prop) : Prop := q_K S a0 = 12 ∧ (∃ a2_ : Nat, (q_P S 2201 a0) = some a2_ ∧ (q_K S a2_ = 7 ∧ (wm_X6_thingAt S a2_ x1 x2 x3 (fun r5_ S6_ => ∃ r7_ : Option Nat, r5_ = some (va_rf r7_) ∧ (((¬ r7_ = none → (∃ a9_ : Nat, r7_ = some a9_ ∧ (q_K S6_ a9_ = 11 ∧ ((((q_P S6_ 2009 a9_) = none → (((¬ x2 = (3 : Int32) → (wb_X11_wordOf_64 S6_ Q)) ∧ (x2 = (3 : Int32) → ((((q_I S6_ 2001 a9_) = 0 → (wb_X11_wordOf_64 S6_ Q)) ∧ (¬ (q_I S6_ 2001 a9_) = 0 → (((¬ x4 = 0 → (wb_X11_wordOf_64 S6_ Q)) ∧ (x4 = 0 → (wb_X11_wordOf_65 S6_ (q_I S6_ 2005 a9_) Q))))))))))) ∧ (¬ (q_P S6_ 2009 a9_) = none → (∃ a16_ : Nat, (q_P S6_ 2009 a9_) = some a16_ ∧ (q_K S6_ a16_ = 9 ∧ (wm_X8_at S6_ a16_ x4 (fun r19_ S20_ => ∃ x21_ : Int32, r19_ = some (.int x21_) ∧ (Q (some (.int x21_)) S20_))))))))))) ∧ (r7_ = none → (Q (some (.int (0 : Int32))) S6_))))))))
set_option maxHeartbeats 4000000 in
set_option maxRecDepth 100000 in
theorem cm_X11_wordOf {l : Launch} {D : va_G} {cy : Nat → ClassId} {lo : Nat} {S : q_S} {a0 : Nat} {x1 : Int32} {x2 : Int32} {x3 : Int32} {x4 : Int32} {Q : Option Value → q_S → Prop} (h : wm_X11_wordOf S a0 x1 x2 x3 x4 Q) : q_Met l D cy lo yX11_wordOf cX11_wordOf 6 (some .int) 2 46 0 0 [.ref a0, .int x1, .int x2, .int x3, .int x4] S Q := by
  refine q_body (by decide) (by first | exact Nat.le_of_ble_eq_true rfl | simp [lg_sl, q_cat, q_catI, q_catJ, q_catR]) ?_
  intro p e s m below meth c ls X hnm Y hl
  have hx := X.1
  have hb := X.2.1
  have hl : lv_has ls 6 [(0, .ref a0), (1, .int x1), (2, .int x2), (3, .int x3), (4, .int x4)] := by first | exact hl | simpa [lv_args, q_cat, q_catI, q_catJ, q_catR] using hl
  generalize hargs : ([.ref a0, .int x1, .int x2, .int x3, .int x4] : List Value).toArray = args at X ⊢
  unfold wm_X11_wordOf at h
  refine lv_aload_n hx hb dX11_wordOf_0 rfl (lv_at hl 0 rfl) ?_
  obtain ⟨k1_, h⟩ := h
  refine q_getP X Y kX11 1 rfl fl_X11_20 k1_ rfl dX11_wordOf_1 ?_
  refine lv_iload_n hx hb dX11_wordOf_4 rfl (lv_at hl 1 rfl) ?_
  refine lv_iload_n hx hb dX11_wordOf_5 rfl (lv_at hl 2 rfl) ?_
  refine lv_iload_n hx hb dX11_wordOf_6 rfl (lv_at hl 3 rfl) ?_
  obtain ⟨a2_, e3_, h⟩ := h
  refine q_nn [.int x3, .int x2, .int x1] e3_ ?_
  obtain ⟨k4_, h⟩ := h
  refine q_callV X Y hl (cm_X6_thingAt h) mt_X6_thingAt mi_X6_thingAt ml_X11_290 (ci := 6) rfl k4_ (by decide) rfl rfl (by first | exact Nat.le_of_ble_eq_true rfl | simp [q_cat, q_catI, q_catJ, q_catR]) ⟨Nat.le_of_ble_eq_true rfl, Nat.le_of_ble_eq_true rfl⟩ ⟨Nat.le_of_ble_eq_true rfl, Nat.le_of_ble_eq_true rfl⟩ dX11_wordOf_7 (fun r5_ S6_ H locs hp Y => ?_)
  obtain ⟨r7_, rfl, h⟩ := hp
  refine W.eq (g2 := F0 m 10 ls [va_rf r7_]) rfl ?_
  refine q_astore (i := 5) (lv' := [(5, va_rf r7_), (0, .ref a0), (1, .int x1), (2, .int x2), (3, .int x3), (4, .int x4)]) hx hb dX11_wordOf_10 hl (by decide) (by first | rfl | simp [q_cat, q_catI, q_catJ, q_catR]) (fun ls hl => ?_)
  refine q_aload hx hb dX11_wordOf_12 (lv_at hl 0 rfl) ?_
  refine q_ifnonnull (r := r7_) (tgt := 19) hx hb dX11_wordOf_14 (by decide) (fun c8_ => ?_) (fun c8_ => ?_)
  · replace h := h.1 c8_
    refine q_aload hx hb dX11_wordOf_19 (lv_at hl 0 rfl) ?_
    obtain ⟨a9_, e10_, h⟩ := h
    refine q_nn [] e10_ ?_
    obtain ⟨k11_, h⟩ := h
    refine q_getP X Y kX10 9 rfl fl_X11_318 k11_ rfl dX11_wordOf_21 ?_
    refine q_ifnull (r := (q_P S6_ 2009 a9_)) (tgt := 38) hx hb dX11_wordOf_24 (by decide) (fun c12_ => ?_) (fun c12_ => ?_)
    · replace h := h.1 c12_
      refine lv_iload_n hx hb dX11_wordOf_38 rfl (lv_at hl 3 rfl) ?_
      refine lv_iconst (v := 3) hx hb dX11_wordOf_39 (by decide) ?_
      refine lv_icmp_ne (tgt := 64) hx hb dX11_wordOf_40 (by decide) (fun c13_ => ?_) (fun c13_ => ?_)
      · replace h := h.1 c13_
        exact cb_X11_wordOf_64 X Y (lv_sub hl [] rfl) h
      · replace h := h.2 c13_
        refine q_aload hx hb dX11_wordOf_43 (lv_at hl 0 rfl) ?_
        refine q_nn [] e10_ ?_
        refine q_getI X Y kX10 1 rfl fl_X11_327 k11_ dX11_wordOf_45 ?_
        refine lv_if_eq (tgt := 64) hx hb dX11_wordOf_48 (by decide) (fun c14_ => ?_) (fun c14_ => ?_)
        · replace h := h.1 c14_
          exact cb_X11_wordOf_64 X Y (lv_sub hl [] rfl) h
        · replace h := h.2 c14_
          refine lv_iload hx hb dX11_wordOf_51 (lv_at hl 5 rfl) ?_
          refine lv_if_ne (tgt := 64) hx hb dX11_wordOf_53 (by decide) (fun c15_ => ?_) (fun c15_ => ?_)
          · replace h := h.1 c15_
            exact cb_X11_wordOf_64 X Y (lv_sub hl [] rfl) h
          · replace h := h.2 c15_
            refine q_aload hx hb dX11_wordOf_56 (lv_at hl 0 rfl) ?_
            refine q_nn [] e10_ ?_
            refine q_getI X Y kX10 5 rfl fl_X11_330 k11_ dX11_wordOf_58 ?_
            refine lv_goto (tgt := 65) hx hb dX11_wordOf_61 (by decide) ?_
            exact cb_X11_wordOf_65 X Y (lv_sub hl [] rfl) h
    · replace h := h.2 c12_
      refine q_aload hx hb dX11_wordOf_27 (lv_at hl 0 rfl) ?_
      refine q_nn [] e10_ ?_
      refine q_getP X Y kX10 9 rfl fl_X11_318 k11_ rfl dX11_wordOf_29 ?_
      refine lv_iload hx hb dX11_wordOf_32 (lv_at hl 5 rfl) ?_
      obtain ⟨a16_, e17_, h⟩ := h
      refine q_nn [.int x4] e17_ ?_
      obtain ⟨k18_, h⟩ := h
      refine q_callV X Y hl (cm_X8_at h) mt_X8_at mi_X8_at ml_X11_322 (ci := 8) rfl k18_ (by decide) rfl rfl (by first | exact Nat.le_of_ble_eq_true rfl | simp [q_cat, q_catI, q_catJ, q_catR]) ⟨Nat.le_of_ble_eq_true rfl, Nat.le_of_ble_eq_true rfl⟩ ⟨Nat.le_of_ble_eq_true rfl, Nat.le_of_ble_eq_true rfl⟩ dX11_wordOf_34 (fun r19_ S20_ H locs hp Y => ?_)
      obtain ⟨x21_, rfl, h⟩ := hp
      refine W.eq (g2 := F0 m 37 ls [.int x21_]) rfl ?_
      exact q_iret X Y rfl (Nat.le_refl _) (Nat.le_refl _) h dX11_wordOf_37
  · replace h := h.2 c8_
    refine lv_iconst (v := 0) hx hb dX11_wordOf_17 (by decide) ?_
    exact q_iret X Y rfl (Nat.le_refl _) (Nat.le_refl _) h dX11_wordOf_18
-- X11_channel
theorem ml_X11_333 : Cond.methodLink RX11 333 yX6_channelAt ∈ q_G := q_tb (i := 414) (by decide +kernel) (by decide +kernel)
theorem fl_X11_336 : Cond.fieldLink RX11 336 "PartitionWorks$Channel" "queuing" "Z" ∈ q_G := q_tb (i := 1111) (by decide +kernel) (by decide +kernel)
theorem fl_X11_339 : Cond.fieldLink RX11 339 "PartitionWorks$Channel" "queue" "LPartitionWorks$Queue;" ∈ q_G := q_tb (i := 1122) (by decide +kernel) (by decide +kernel)
theorem fl_X11_340 : Cond.fieldLink RX11 340 "PartitionWorks$Queue" "count" "I" ∈ q_G := q_tb (i := 988) (by decide +kernel) (by decide +kernel)
theorem fl_X11_341 : Cond.fieldLink RX11 341 "PartitionWorks$Channel" "limit" "I" ∈ q_G := q_tb (i := 1118) (by decide +kernel) (by decide +kernel)
theorem fl_X11_344 : Cond.fieldLink RX11 344 "PartitionWorks$Channel" "stamp" "I" ∈ q_G := q_tb (i := 1125) (by decide +kernel) (by decide +kernel)
theorem fl_X11_347 : Cond.fieldLink RX11 347 "PartitionWorks$Channel" "lost" "I" ∈ q_G := q_tb (i := 1129) (by decide +kernel) (by decide +kernel)
theorem fl_X11_350 : Cond.fieldLink RX11 350 "PartitionWorks$Channel" "goals" "I" ∈ q_G := q_tb (i := 1131) (by decide +kernel) (by decide +kernel)
theorem dX11_channel_0 : decode cX11_channel 0 = .ok (.aload_n 0, 1) := by decide +kernel
theorem dX11_channel_1 : decode cX11_channel 1 = .ok (.getfield 20, 3) := by decide +kernel
theorem dX11_channel_4 : decode cX11_channel 4 = .ok (.iload_n 1, 1) := by decide +kernel
theorem dX11_channel_5 : decode cX11_channel 5 = .ok (.invokevirtual 333, 3) := by decide +kernel
theorem dX11_channel_8 : decode cX11_channel 8 = .ok (.astore_n 3, 1) := by decide +kernel
theorem dX11_channel_9 : decode cX11_channel 9 = .ok (.aload_n 3, 1) := by decide +kernel
theorem dX11_channel_10 : decode cX11_channel 10 = .ok (.ifnonnull 5, 3) := by decide +kernel
theorem dX11_channel_13 : decode cX11_channel 13 = .ok (.iconst (-1), 1) := by decide +kernel
theorem dX11_channel_14 : decode cX11_channel 14 = .ok (.ireturn, 1) := by decide +kernel
theorem dX11_channel_15 : decode cX11_channel 15 = .ok (.iload_n 2, 1) := by decide +kernel
theorem dX11_channel_16 : decode cX11_channel 16 = .ok (.tableswitch 81 0 5 #[40, 53, 61, 66, 71, 76], 40) := by decide +kernel
theorem dX11_channel_56 : decode cX11_channel 56 = .ok (.aload_n 3, 1) := by decide +kernel
theorem dX11_channel_57 : decode cX11_channel 57 = .ok (.getfield 336, 3) := by decide +kernel
theorem dX11_channel_60 : decode cX11_channel 60 = .ok (.ifCond .eq 7, 3) := by decide +kernel
theorem dX11_channel_63 : decode cX11_channel 63 = .ok (.iconst 1, 1) := by decide +kernel
theorem dX11_channel_64 : decode cX11_channel 64 = .ok (.goto 4, 3) := by decide +kernel
theorem dX11_channel_67 : decode cX11_channel 67 = .ok (.iconst 0, 1) := by decide +kernel
theorem dX11_channel_68 : decode cX11_channel 68 = .ok (.ireturn, 1) := by decide +kernel
theorem dX11_channel_69 : decode cX11_channel 69 = .ok (.aload_n 3, 1) := by decide +kernel
theorem dX11_channel_70 : decode cX11_channel 70 = .ok (.getfield 339, 3) := by decide +kernel
theorem dX11_channel_73 : decode cX11_channel 73 = .ok (.getfield 340, 3) := by decide +kernel
theorem dX11_channel_76 : decode cX11_channel 76 = .ok (.ireturn, 1) := by decide +kernel
theorem dX11_channel_77 : decode cX11_channel 77 = .ok (.aload_n 3, 1) := by decide +kernel
theorem dX11_channel_78 : decode cX11_channel 78 = .ok (.getfield 341, 3) := by decide +kernel
theorem dX11_channel_81 : decode cX11_channel 81 = .ok (.ireturn, 1) := by decide +kernel
theorem dX11_channel_82 : decode cX11_channel 82 = .ok (.aload_n 3, 1) := by decide +kernel
theorem dX11_channel_83 : decode cX11_channel 83 = .ok (.getfield 344, 3) := by decide +kernel
theorem dX11_channel_86 : decode cX11_channel 86 = .ok (.ireturn, 1) := by decide +kernel
theorem dX11_channel_87 : decode cX11_channel 87 = .ok (.aload_n 3, 1) := by decide +kernel
theorem dX11_channel_88 : decode cX11_channel 88 = .ok (.getfield 347, 3) := by decide +kernel
theorem dX11_channel_91 : decode cX11_channel 91 = .ok (.ireturn, 1) := by decide +kernel
theorem dX11_channel_92 : decode cX11_channel 92 = .ok (.aload_n 3, 1) := by decide +kernel
theorem dX11_channel_93 : decode cX11_channel 93 = .ok (.getfield 350, 3) := by decide +kernel
theorem dX11_channel_96 : decode cX11_channel 96 = .ok (.ireturn, 1) := by decide +kernel
theorem dX11_channel_97 : decode cX11_channel 97 = .ok (.iconst (-1), 1) := by decide +kernel
theorem dX11_channel_98 : decode cX11_channel 98 = .ok (.ireturn, 1) := by decide +kernel
def wb_X11_channel_68  (S : q_S) (xs0 : Int32) (Q : Option Value → q_S → Prop) : Prop := Q (some (.int xs0)) S
set_option maxHeartbeats 4000000 in
set_option maxRecDepth 100000 in
theorem cb_X11_channel_68 {p : Program} {l : Launch} {e : Env} {s : State} {m : MethodId} {args : Array Value} {below : List Frame} {meth : Method} {c : Code} {D : va_G} {cy : Nat → ClassId} {lo : Nat}  {S : q_S} {xs0 : Int32} {Q : Option Value → q_S → Prop} {H : Heap} {locs : List Loc} {ls : Array Slot} (X : q_X p s m args meth c RX11 cX11_channel 4 (some .int) D cy lo)  (Y : q_Y D cy lo s S H locs) (hl : lv_has ls 4 []) (h : wb_X11_channel_68 S xs0 Q) : W p l e ({ frames := 1, cells := 0, slots := 0, locals := 21 } : Room) s m args below meth c H locs 0 0 (MQ below (q_Q D cy lo Q) args s 0 0 (fun q => lo ≤ q)) (F0 m 68 ls [.int xs0]) := by
  have hx := X.1
  have hb := X.2.1
  unfold wb_X11_channel_68 at h
  exact q_iret X Y rfl (Nat.le_refl _) (Nat.le_refl _) h dX11_channel_68
def wm_X11_channel (S : q_S) (a0 : Nat) (x1 : Int32) (x2 : Int32) (Q : Option Value → q_S → Prop) : Prop := q_K S a0 = 12 ∧ (∃ a2_ : Nat, (q_P S 2201 a0) = some a2_ ∧ (q_K S a2_ = 7 ∧ (wm_X6_channelAt S a2_ x1 (fun r5_ S6_ => ∃ r7_ : Option Nat, r5_ = some (va_rf r7_) ∧ (((¬ r7_ = none → ((((x2.toInt < 0 ∨ 5 < x2.toInt) → (Q (some (.int (-1 : Int32))) S6_)) ∧ ((x2 = (0 : Int32)) → (∃ a9_ : Nat, r7_ = some a9_ ∧ (q_K S6_ a9_ = 2 ∧ ((((q_I S6_ 201 a9_) = 0 → (wb_X11_channel_68 S6_ (0 : Int32) Q)) ∧ (¬ (q_I S6_ 201 a9_) = 0 → (wb_X11_channel_68 S6_ (1 : Int32) Q))))))) ∧ ((x2 = (1 : Int32)) → (∃ a13_ : Nat, r7_ = some a13_ ∧ (q_K S6_ a13_ = 2 ∧ (∃ a16_ : Nat, (q_P S6_ 204 a13_) = some a16_ ∧ (q_K S6_ a16_ = 9 ∧ (Q (some (.int (q_I S6_ 1603 a16_))) S6_)))))) ∧ ((x2 = (2 : Int32)) → (∃ a19_ : Nat, r7_ = some a19_ ∧ (q_K S6_ a19_ = 2 ∧ (Q (some (.int (q_I S6_ 203 a19_))) S6_)))) ∧ ((x2 = (3 : Int32)) → (∃ a22_ : Nat, r7_ = some a22_ ∧ (q_K S6_ a22_ = 2 ∧ (Q (some (.int (q_I S6_ 205 a22_))) S6_)))) ∧ ((x2 = (4 : Int32)) → (∃ a25_ : Nat, r7_ = some a25_ ∧ (q_K S6_ a25_ = 2 ∧ (Q (some (.int (q_I S6_ 206 a25_))) S6_)))) ∧ ((x2 = (5 : Int32)) → (∃ a28_ : Nat, r7_ = some a28_ ∧ (q_K S6_ a28_ = 2 ∧ (Q (some (.int (q_I S6_ 207 a28_))) S6_))))))) ∧ (r7_ = none → (Q (some (.int (-1 : Int32))) S6_))))))))
set_option maxHeartbeats 4000000 in
set_option maxRecDepth 100000 in
theorem cm_X11_channel {l : Launch} {D : va_G} {cy : Nat → ClassId} {lo : Nat} {S : q_S} {a0 : Nat} {x1 : Int32} {x2 : Int32} {Q : Option Value → q_S → Prop} (h : wm_X11_channel S a0 x1 x2 Q) : q_Met l D cy lo yX11_channel cX11_channel 4 (some .int) 1 21 0 0 [.ref a0, .int x1, .int x2] S Q := by
  refine q_body (by decide) (by first | exact Nat.le_of_ble_eq_true rfl | simp [lg_sl, q_cat, q_catI, q_catJ, q_catR]) ?_
  intro p e s m below meth c ls X hnm Y hl
  have hx := X.1
  have hb := X.2.1
  have hl : lv_has ls 4 [(0, .ref a0), (1, .int x1), (2, .int x2)] := by first | exact hl | simpa [lv_args, q_cat, q_catI, q_catJ, q_catR] using hl
  generalize hargs : ([.ref a0, .int x1, .int x2] : List Value).toArray = args at X ⊢
  unfold wm_X11_channel at h
  refine lv_aload_n hx hb dX11_channel_0 rfl (lv_at hl 0 rfl) ?_
  obtain ⟨k1_, h⟩ := h
  refine q_getP X Y kX11 1 rfl fl_X11_20 k1_ rfl dX11_channel_1 ?_
  refine lv_iload_n hx hb dX11_channel_4 rfl (lv_at hl 1 rfl) ?_
  obtain ⟨a2_, e3_, h⟩ := h
  refine q_nn [.int x1] e3_ ?_
  obtain ⟨k4_, h⟩ := h
  refine q_callV X Y hl (cm_X6_channelAt h) mt_X6_channelAt mi_X6_channelAt ml_X11_333 (ci := 6) rfl k4_ (by decide) rfl rfl (by first | exact Nat.le_of_ble_eq_true rfl | simp [q_cat, q_catI, q_catJ, q_catR]) ⟨Nat.le_of_ble_eq_true rfl, Nat.le_of_ble_eq_true rfl⟩ ⟨Nat.le_of_ble_eq_true rfl, Nat.le_of_ble_eq_true rfl⟩ dX11_channel_5 (fun r5_ S6_ H locs hp Y => ?_)
  obtain ⟨r7_, rfl, h⟩ := hp
  refine W.eq (g2 := F0 m 8 ls [va_rf r7_]) rfl ?_
  refine q_astore_n (i := 3) (lv' := [(3, va_rf r7_), (0, .ref a0), (1, .int x1), (2, .int x2)]) hx hb dX11_channel_8 rfl hl (by decide) (by first | rfl | simp [q_cat, q_catI, q_catJ, q_catR]) (fun ls hl => ?_)
  refine q_aload_n hx hb dX11_channel_9 rfl (lv_at hl 0 rfl) ?_
  refine q_ifnonnull (r := r7_) (tgt := 15) hx hb dX11_channel_10 (by decide) (fun c8_ => ?_) (fun c8_ => ?_)
  · replace h := h.1 c8_
    refine lv_iload_n hx hb dX11_channel_15 rfl (lv_at hl 3 rfl) ?_
    refine q_tsw (tgt := 97) hx hb dX11_channel_16 (by decide) (by decide) (fun c31_ => ?_) (fun j32_ hj_ c31_ => ?_)
    · replace h := h.1 c31_
      refine lv_iconst (v := (-1)) hx hb dX11_channel_97 (by decide) ?_
      exact q_iret X Y rfl (Nat.le_refl _) (Nat.le_refl _) h dX11_channel_98
    · match j32_, hj_, c31_ with
      | 0, _, c31_ =>
        refine ⟨40, 56, rfl, by decide, ?_⟩
        replace h := h.2.1 (q_eqI c31_ (by decide))
        refine q_aload_n hx hb dX11_channel_56 rfl (lv_at hl 0 rfl) ?_
        obtain ⟨a9_, e10_, h⟩ := h
        refine q_nn [] e10_ ?_
        obtain ⟨k11_, h⟩ := h
        refine q_getI X Y kX1 1 rfl fl_X11_336 k11_ dX11_channel_57 ?_
        refine lv_if_eq (tgt := 67) hx hb dX11_channel_60 (by decide) (fun c12_ => ?_) (fun c12_ => ?_)
        · replace h := h.1 c12_
          refine lv_iconst (v := 0) hx hb dX11_channel_67 (by decide) ?_
          exact cb_X11_channel_68 X Y (lv_sub hl [] rfl) h
        · replace h := h.2 c12_
          refine lv_iconst (v := 1) hx hb dX11_channel_63 (by decide) ?_
          refine lv_goto (tgt := 68) hx hb dX11_channel_64 (by decide) ?_
          exact cb_X11_channel_68 X Y (lv_sub hl [] rfl) h
      | 1, _, c31_ =>
        refine ⟨53, 69, rfl, by decide, ?_⟩
        replace h := h.2.2.1 (q_eqI c31_ (by decide))
        refine q_aload_n hx hb dX11_channel_69 rfl (lv_at hl 0 rfl) ?_
        obtain ⟨a13_, e14_, h⟩ := h
        refine q_nn [] e14_ ?_
        obtain ⟨k15_, h⟩ := h
        refine q_getP X Y kX1 4 rfl fl_X11_339 k15_ rfl dX11_channel_70 ?_
        obtain ⟨a16_, e17_, h⟩ := h
        refine q_nn [] e17_ ?_
        obtain ⟨k18_, h⟩ := h
        refine q_getI X Y kX8 3 rfl fl_X11_340 k18_ dX11_channel_73 ?_
        exact q_iret X Y rfl (Nat.le_refl _) (Nat.le_refl _) h dX11_channel_76
      | 2, _, c31_ =>
        refine ⟨61, 77, rfl, by decide, ?_⟩
        replace h := h.2.2.2.1 (q_eqI c31_ (by decide))
        refine q_aload_n hx hb dX11_channel_77 rfl (lv_at hl 0 rfl) ?_
        obtain ⟨a19_, e20_, h⟩ := h
        refine q_nn [] e20_ ?_
        obtain ⟨k21_, h⟩ := h
        refine q_getI X Y kX1 3 rfl fl_X11_341 k21_ dX11_channel_78 ?_
        exact q_iret X Y rfl (Nat.le_refl _) (Nat.le_refl _) h dX11_channel_81
      | 3, _, c31_ =>
        refine ⟨66, 82, rfl, by decide, ?_⟩
        replace h := h.2.2.2.2.1 (q_eqI c31_ (by decide))
        refine q_aload_n hx hb dX11_channel_82 rfl (lv_at hl 0 rfl) ?_
        obtain ⟨a22_, e23_, h⟩ := h
        refine q_nn [] e23_ ?_
        obtain ⟨k24_, h⟩ := h
        refine q_getI X Y kX1 5 rfl fl_X11_344 k24_ dX11_channel_83 ?_
        exact q_iret X Y rfl (Nat.le_refl _) (Nat.le_refl _) h dX11_channel_86
      | 4, _, c31_ =>
        refine ⟨71, 87, rfl, by decide, ?_⟩
        replace h := h.2.2.2.2.2.1 (q_eqI c31_ (by decide))
        refine q_aload_n hx hb dX11_channel_87 rfl (lv_at hl 0 rfl) ?_
        obtain ⟨a25_, e26_, h⟩ := h
        refine q_nn [] e26_ ?_
        obtain ⟨k27_, h⟩ := h
        refine q_getI X Y kX1 6 rfl fl_X11_347 k27_ dX11_channel_88 ?_
        exact q_iret X Y rfl (Nat.le_refl _) (Nat.le_refl _) h dX11_channel_91
      | 5, _, c31_ =>
        refine ⟨76, 92, rfl, by decide, ?_⟩
        replace h := h.2.2.2.2.2.2 (q_eqI c31_ (by decide))
        refine q_aload_n hx hb dX11_channel_92 rfl (lv_at hl 0 rfl) ?_
        obtain ⟨a28_, e29_, h⟩ := h
        refine q_nn [] e29_ ?_
        obtain ⟨k30_, h⟩ := h
        refine q_getI X Y kX1 7 rfl fl_X11_350 k30_ dX11_channel_93 ?_
        exact q_iret X Y rfl (Nat.le_refl _) (Nat.le_refl _) h dX11_channel_96
      | z_ + 6, hj_, _ => exact absurd hj_ (by simp)
  · replace h := h.2 c8_
    refine lv_iconst (v := (-1)) hx hb dX11_channel_13 (by decide) ?_
    exact q_iret X Y rfl (Nat.le_refl _) (Nat.le_refl _) h dX11_channel_14
-- X11_wordAt
theorem dX11_wordAt_0 : decode cX11_wordAt 0 = .ok (.aload_n 0, 1) := by decide +kernel
theorem dX11_wordAt_1 : decode cX11_wordAt 1 = .ok (.getfield 20, 3) := by decide +kernel
theorem dX11_wordAt_4 : decode cX11_wordAt 4 = .ok (.iload_n 1, 1) := by decide +kernel
theorem dX11_wordAt_5 : decode cX11_wordAt 5 = .ok (.invokevirtual 333, 3) := by decide +kernel
theorem dX11_wordAt_8 : decode cX11_wordAt 8 = .ok (.astore_n 3, 1) := by decide +kernel
theorem dX11_wordAt_9 : decode cX11_wordAt 9 = .ok (.aload_n 3, 1) := by decide +kernel
theorem dX11_wordAt_10 : decode cX11_wordAt 10 = .ok (.ifnonnull 7, 3) := by decide +kernel
theorem dX11_wordAt_13 : decode cX11_wordAt 13 = .ok (.iconst 0, 1) := by decide +kernel
theorem dX11_wordAt_14 : decode cX11_wordAt 14 = .ok (.goto 11, 3) := by decide +kernel
theorem dX11_wordAt_17 : decode cX11_wordAt 17 = .ok (.aload_n 3, 1) := by decide +kernel
theorem dX11_wordAt_18 : decode cX11_wordAt 18 = .ok (.getfield 339, 3) := by decide +kernel
theorem dX11_wordAt_21 : decode cX11_wordAt 21 = .ok (.iload_n 2, 1) := by decide +kernel
theorem dX11_wordAt_22 : decode cX11_wordAt 22 = .ok (.invokevirtual 322, 3) := by decide +kernel
theorem dX11_wordAt_25 : decode cX11_wordAt 25 = .ok (.ireturn, 1) := by decide +kernel
def wb_X11_wordAt_25  (S : q_S) (xs0 : Int32) (Q : Option Value → q_S → Prop) : Prop := Q (some (.int xs0)) S
set_option maxHeartbeats 4000000 in
set_option maxRecDepth 100000 in
theorem cb_X11_wordAt_25 {p : Program} {l : Launch} {e : Env} {s : State} {m : MethodId} {args : Array Value} {below : List Frame} {meth : Method} {c : Code} {D : va_G} {cy : Nat → ClassId} {lo : Nat}  {S : q_S} {xs0 : Int32} {Q : Option Value → q_S → Prop} {H : Heap} {locs : List Loc} {ls : Array Slot} (X : q_X p s m args meth c RX11 cX11_wordAt 4 (some .int) D cy lo)  (Y : q_Y D cy lo s S H locs) (hl : lv_has ls 4 []) (h : wb_X11_wordAt_25 S xs0 Q) : W p l e ({ frames := 2, cells := 0, slots := 0, locals := 43 } : Room) s m args below meth c H locs 0 0 (MQ below (q_Q D cy lo Q) args s 0 0 (fun q => lo ≤ q)) (F0 m 25 ls [.int xs0]) := by
  have hx := X.1
  have hb := X.2.1
  unfold wb_X11_wordAt_25 at h
  exact q_iret X Y rfl (Nat.le_refl _) (Nat.le_refl _) h dX11_wordAt_25
def wm_X11_wordAt (S : q_S) (a0 : Nat) (x1 : Int32) (x2 : Int32) (Q : Option Value → q_S → Prop) : Prop := q_K S a0 = 12 ∧ (∃ a2_ : Nat, (q_P S 2201 a0) = some a2_ ∧ (q_K S a2_ = 7 ∧ (wm_X6_channelAt S a2_ x1 (fun r5_ S6_ => ∃ r7_ : Option Nat, r5_ = some (va_rf r7_) ∧ (((¬ r7_ = none → (∃ a9_ : Nat, r7_ = some a9_ ∧ (q_K S6_ a9_ = 2 ∧ (∃ a12_ : Nat, (q_P S6_ 204 a9_) = some a12_ ∧ (q_K S6_ a12_ = 9 ∧ (wm_X8_at S6_ a12_ x2 (fun r15_ S16_ => ∃ x17_ : Int32, r15_ = some (.int x17_) ∧ (wb_X11_wordAt_25 S16_ x17_ Q)))))))) ∧ (r7_ = none → (wb_X11_wordAt_25 S6_ (0 : Int32) Q))))))))
set_option maxHeartbeats 4000000 in
set_option maxRecDepth 100000 in
theorem cm_X11_wordAt {l : Launch} {D : va_G} {cy : Nat → ClassId} {lo : Nat} {S : q_S} {a0 : Nat} {x1 : Int32} {x2 : Int32} {Q : Option Value → q_S → Prop} (h : wm_X11_wordAt S a0 x1 x2 Q) : q_Met l D cy lo yX11_wordAt cX11_wordAt 4 (some .int) 2 43 0 0 [.ref a0, .int x1, .int x2] S Q := by
  refine q_body (by decide) (by first | exact Nat.le_of_ble_eq_true rfl | simp [lg_sl, q_cat, q_catI, q_catJ, q_catR]) ?_
  intro p e s m below meth c ls X hnm Y hl
  have hx := X.1
  have hb := X.2.1
  have hl : lv_has ls 4 [(0, .ref a0), (1, .int x1), (2, .int x2)] := by first | exact hl | simpa [lv_args, q_cat, q_catI, q_catJ, q_catR] using hl
  generalize hargs : ([.ref a0, .int x1, .int x2] : List Value).toArray = args at X ⊢
  unfold wm_X11_wordAt at h
  refine lv_aload_n hx hb dX11_wordAt_0 rfl (lv_at hl 0 rfl) ?_
  obtain ⟨k1_, h⟩ := h
  refine q_getP X Y kX11 1 rfl fl_X11_20 k1_ rfl dX11_wordAt_1 ?_
  refine lv_iload_n hx hb dX11_wordAt_4 rfl (lv_at hl 1 rfl) ?_
  obtain ⟨a2_, e3_, h⟩ := h
  refine q_nn [.int x1] e3_ ?_
  obtain ⟨k4_, h⟩ := h
  refine q_callV X Y hl (cm_X6_channelAt h) mt_X6_channelAt mi_X6_channelAt ml_X11_333 (ci := 6) rfl k4_ (by decide) rfl rfl (by first | exact Nat.le_of_ble_eq_true rfl | simp [q_cat, q_catI, q_catJ, q_catR]) ⟨Nat.le_of_ble_eq_true rfl, Nat.le_of_ble_eq_true rfl⟩ ⟨Nat.le_of_ble_eq_true rfl, Nat.le_of_ble_eq_true rfl⟩ dX11_wordAt_5 (fun r5_ S6_ H locs hp Y => ?_)
  obtain ⟨r7_, rfl, h⟩ := hp
  refine W.eq (g2 := F0 m 8 ls [va_rf r7_]) rfl ?_
  refine q_astore_n (i := 3) (lv' := [(3, va_rf r7_), (0, .ref a0), (1, .int x1), (2, .int x2)]) hx hb dX11_wordAt_8 rfl hl (by decide) (by first | rfl | simp [q_cat, q_catI, q_catJ, q_catR]) (fun ls hl => ?_)
  refine q_aload_n hx hb dX11_wordAt_9 rfl (lv_at hl 0 rfl) ?_
  refine q_ifnonnull (r := r7_) (tgt := 17) hx hb dX11_wordAt_10 (by decide) (fun c8_ => ?_) (fun c8_ => ?_)
  · replace h := h.1 c8_
    refine q_aload_n hx hb dX11_wordAt_17 rfl (lv_at hl 0 rfl) ?_
    obtain ⟨a9_, e10_, h⟩ := h
    refine q_nn [] e10_ ?_
    obtain ⟨k11_, h⟩ := h
    refine q_getP X Y kX1 4 rfl fl_X11_339 k11_ rfl dX11_wordAt_18 ?_
    refine lv_iload_n hx hb dX11_wordAt_21 rfl (lv_at hl 3 rfl) ?_
    obtain ⟨a12_, e13_, h⟩ := h
    refine q_nn [.int x2] e13_ ?_
    obtain ⟨k14_, h⟩ := h
    refine q_callV X Y hl (cm_X8_at h) mt_X8_at mi_X8_at ml_X11_322 (ci := 8) rfl k14_ (by decide) rfl rfl (by first | exact Nat.le_of_ble_eq_true rfl | simp [q_cat, q_catI, q_catJ, q_catR]) ⟨Nat.le_of_ble_eq_true rfl, Nat.le_of_ble_eq_true rfl⟩ ⟨Nat.le_of_ble_eq_true rfl, Nat.le_of_ble_eq_true rfl⟩ dX11_wordAt_22 (fun r15_ S16_ H locs hp Y => ?_)
    obtain ⟨x17_, rfl, h⟩ := hp
    refine W.eq (g2 := F0 m 25 ls [.int x17_]) rfl ?_
    exact cb_X11_wordAt_25 X Y (lv_sub hl [] rfl) h
  · replace h := h.2 c8_
    refine lv_iconst (v := 0) hx hb dX11_wordAt_13 (by decide) ?_
    refine lv_goto (tgt := 25) hx hb dX11_wordAt_14 (by decide) ?_
    exact cb_X11_wordAt_25 X Y (lv_sub hl [] rfl) h
-- X11_trace
theorem ml_X11_353 : Cond.methodLink RX11 353 yX2_shown ∈ q_G := q_tb (i := 426) (by decide +kernel) (by decide +kernel)
theorem mt_X2_shown : q_Mt yX2_shown cX2_shown 3 (some .int) 2 := ⟨q_tb (i := 429) (by decide +kernel) (by decide +kernel), q_tb (i := 4) (by decide +kernel) (by decide +kernel), by decide +kernel, by decide +kernel, by decide +kernel⟩
theorem mi_X2_shown : Cond.instanceMethod yX2_shown ∈ q_G ∧ Cond.selects yX2_shown.cls yX2_shown yX2_shown ∈ q_G := ⟨q_tb (i := 427) (by decide +kernel) (by decide +kernel), q_tb (i := 428) (by decide +kernel) (by decide +kernel)⟩
theorem dX11_trace_0 : decode cX11_trace 0 = .ok (.aload_n 0, 1) := by decide +kernel
theorem dX11_trace_1 : decode cX11_trace 1 = .ok (.getfield 20, 3) := by decide +kernel
theorem dX11_trace_4 : decode cX11_trace 4 = .ok (.getfield 216, 3) := by decide +kernel
theorem dX11_trace_7 : decode cX11_trace 7 = .ok (.iload_n 1, 1) := by decide +kernel
theorem dX11_trace_8 : decode cX11_trace 8 = .ok (.iload_n 2, 1) := by decide +kernel
theorem dX11_trace_9 : decode cX11_trace 9 = .ok (.invokevirtual 353, 3) := by decide +kernel
theorem dX11_trace_12 : decode cX11_trace 12 = .ok (.ireturn, 1) := by decide +kernel
def wm_X11_trace (S : q_S) (a0 : Nat) (x1 : Int32) (x2 : Int32) (Q : Option Value → q_S → Prop) : Prop := q_K S a0 = 12 ∧ (∃ a2_ : Nat, (q_P S 2201 a0) = some a2_ ∧ (q_K S a2_ = 7 ∧ (∃ a5_ : Nat, (q_P S 1210 a2_) = some a5_ ∧ (q_K S a5_ = 3 ∧ (wm_X2_shown S a5_ x1 x2 (fun r8_ S9_ => ∃ x10_ : Int32, r8_ = some (.int x10_) ∧ (Q (some (.int x10_)) S9_)))))))
set_option maxHeartbeats 4000000 in
set_option maxRecDepth 100000 in
theorem cm_X11_trace {l : Launch} {D : va_G} {cy : Nat → ClassId} {lo : Nat} {S : q_S} {a0 : Nat} {x1 : Int32} {x2 : Int32} {Q : Option Value → q_S → Prop} (h : wm_X11_trace S a0 x1 x2 Q) : q_Met l D cy lo yX11_trace cX11_trace 3 (some .int) 1 22 0 0 [.ref a0, .int x1, .int x2] S Q := by
  refine q_body (by decide) (by first | exact Nat.le_of_ble_eq_true rfl | simp [lg_sl, q_cat, q_catI, q_catJ, q_catR]) ?_
  intro p e s m below meth c ls X hnm Y hl
  have hx := X.1
  have hb := X.2.1
  have hl : lv_has ls 3 [(0, .ref a0), (1, .int x1), (2, .int x2)] := by first | exact hl | simpa [lv_args, q_cat, q_catI, q_catJ, q_catR] using hl
  generalize hargs : ([.ref a0, .int x1, .int x2] : List Value).toArray = args at X ⊢
  unfold wm_X11_trace at h
  refine lv_aload_n hx hb dX11_trace_0 rfl (lv_at hl 0 rfl) ?_
  obtain ⟨k1_, h⟩ := h
  refine q_getP X Y kX11 1 rfl fl_X11_20 k1_ rfl dX11_trace_1 ?_
  obtain ⟨a2_, e3_, h⟩ := h
  refine q_nn [] e3_ ?_
  obtain ⟨k4_, h⟩ := h
  refine q_getP X Y kX6 10 rfl fl_X11_216 k4_ rfl dX11_trace_4 ?_
  refine lv_iload_n hx hb dX11_trace_7 rfl (lv_at hl 1 rfl) ?_
  refine lv_iload_n hx hb dX11_trace_8 rfl (lv_at hl 2 rfl) ?_
  obtain ⟨a5_, e6_, h⟩ := h
  refine q_nn [.int x2, .int x1] e6_ ?_
  obtain ⟨k7_, h⟩ := h
  refine q_callV X Y hl (cm_X2_shown h) mt_X2_shown mi_X2_shown ml_X11_353 (ci := 2) rfl k7_ (by decide) rfl rfl (by first | exact Nat.le_of_ble_eq_true rfl | simp [q_cat, q_catI, q_catJ, q_catR]) ⟨Nat.le_of_ble_eq_true rfl, Nat.le_of_ble_eq_true rfl⟩ ⟨Nat.le_of_ble_eq_true rfl, Nat.le_of_ble_eq_true rfl⟩ dX11_trace_9 (fun r8_ S9_ H locs hp Y => ?_)
  obtain ⟨x10_, rfl, h⟩ := hp
  refine W.eq (g2 := F0 m 12 ls [.int x10_]) rfl ?_
  exact q_iret X Y rfl (Nat.le_refl _) (Nat.le_refl _) h dX11_trace_12
-- X11_error
theorem ml_X11_357 : Cond.methodLink RX11 357 yX2_noted ∈ q_G := q_tb (i := 434) (by decide +kernel) (by decide +kernel)
theorem mt_X2_noted : q_Mt yX2_noted cX2_noted 3 (some .int) 2 := ⟨q_tb (i := 437) (by decide +kernel) (by decide +kernel), q_tb (i := 4) (by decide +kernel) (by decide +kernel), by decide +kernel, by decide +kernel, by decide +kernel⟩
theorem mi_X2_noted : Cond.instanceMethod yX2_noted ∈ q_G ∧ Cond.selects yX2_noted.cls yX2_noted yX2_noted ∈ q_G := ⟨q_tb (i := 435) (by decide +kernel) (by decide +kernel), q_tb (i := 436) (by decide +kernel) (by decide +kernel)⟩
theorem dX11_error_0 : decode cX11_error 0 = .ok (.aload_n 0, 1) := by decide +kernel
theorem dX11_error_1 : decode cX11_error 1 = .ok (.getfield 20, 3) := by decide +kernel
theorem dX11_error_4 : decode cX11_error 4 = .ok (.getfield 216, 3) := by decide +kernel
theorem dX11_error_7 : decode cX11_error 7 = .ok (.iload_n 1, 1) := by decide +kernel
theorem dX11_error_8 : decode cX11_error 8 = .ok (.iload_n 2, 1) := by decide +kernel
theorem dX11_error_9 : decode cX11_error 9 = .ok (.invokevirtual 357, 3) := by decide +kernel
theorem dX11_error_12 : decode cX11_error 12 = .ok (.ireturn, 1) := by decide +kernel
def wm_X11_error (S : q_S) (a0 : Nat) (x1 : Int32) (x2 : Int32) (Q : Option Value → q_S → Prop) : Prop := q_K S a0 = 12 ∧ (∃ a2_ : Nat, (q_P S 2201 a0) = some a2_ ∧ (q_K S a2_ = 7 ∧ (∃ a5_ : Nat, (q_P S 1210 a2_) = some a5_ ∧ (q_K S a5_ = 3 ∧ (wm_X2_noted S a5_ x1 x2 (fun r8_ S9_ => ∃ x10_ : Int32, r8_ = some (.int x10_) ∧ (Q (some (.int x10_)) S9_)))))))
set_option maxHeartbeats 4000000 in
set_option maxRecDepth 100000 in
theorem cm_X11_error {l : Launch} {D : va_G} {cy : Nat → ClassId} {lo : Nat} {S : q_S} {a0 : Nat} {x1 : Int32} {x2 : Int32} {Q : Option Value → q_S → Prop} (h : wm_X11_error S a0 x1 x2 Q) : q_Met l D cy lo yX11_error cX11_error 3 (some .int) 1 22 0 0 [.ref a0, .int x1, .int x2] S Q := by
  refine q_body (by decide) (by first | exact Nat.le_of_ble_eq_true rfl | simp [lg_sl, q_cat, q_catI, q_catJ, q_catR]) ?_
  intro p e s m below meth c ls X hnm Y hl
  have hx := X.1
  have hb := X.2.1
  have hl : lv_has ls 3 [(0, .ref a0), (1, .int x1), (2, .int x2)] := by first | exact hl | simpa [lv_args, q_cat, q_catI, q_catJ, q_catR] using hl
  generalize hargs : ([.ref a0, .int x1, .int x2] : List Value).toArray = args at X ⊢
  unfold wm_X11_error at h
  refine lv_aload_n hx hb dX11_error_0 rfl (lv_at hl 0 rfl) ?_
  obtain ⟨k1_, h⟩ := h
  refine q_getP X Y kX11 1 rfl fl_X11_20 k1_ rfl dX11_error_1 ?_
  obtain ⟨a2_, e3_, h⟩ := h
  refine q_nn [] e3_ ?_
  obtain ⟨k4_, h⟩ := h
  refine q_getP X Y kX6 10 rfl fl_X11_216 k4_ rfl dX11_error_4 ?_
  refine lv_iload_n hx hb dX11_error_7 rfl (lv_at hl 1 rfl) ?_
  refine lv_iload_n hx hb dX11_error_8 rfl (lv_at hl 2 rfl) ?_
  obtain ⟨a5_, e6_, h⟩ := h
  refine q_nn [.int x2, .int x1] e6_ ?_
  obtain ⟨k7_, h⟩ := h
  refine q_callV X Y hl (cm_X2_noted h) mt_X2_noted mi_X2_noted ml_X11_357 (ci := 2) rfl k7_ (by decide) rfl rfl (by first | exact Nat.le_of_ble_eq_true rfl | simp [q_cat, q_catI, q_catJ, q_catR]) ⟨Nat.le_of_ble_eq_true rfl, Nat.le_of_ble_eq_true rfl⟩ ⟨Nat.le_of_ble_eq_true rfl, Nat.le_of_ble_eq_true rfl⟩ dX11_error_9 (fun r8_ S9_ H locs hp Y => ?_)
  obtain ⟨x10_, rfl, h⟩ := hp
  refine W.eq (g2 := F0 m 12 ls [.int x10_]) rfl ?_
  exact q_iret X Y rfl (Nat.le_refl _) (Nat.le_refl _) h dX11_error_12
-- X11_about
theorem fl_X11_360 : Cond.fieldLink RX11 360 "PartitionWorks$Journal" "errorCount" "I" ∈ q_G := q_tb (i := 64) (by decide +kernel) (by decide +kernel)
theorem ml_X11_155 : Cond.methodLink RX11 155 yX6_partitionNow ∈ q_G := q_tb (i := 442) (by decide +kernel) (by decide +kernel)
theorem mt_X6_partitionNow : q_Mt yX6_partitionNow cX6_partitionNow 2 (some .int) 0 := ⟨q_tb (i := 445) (by decide +kernel) (by decide +kernel), q_tb (i := 3) (by decide +kernel) (by decide +kernel), by decide +kernel, by decide +kernel, by decide +kernel⟩
theorem mi_X6_partitionNow : Cond.instanceMethod yX6_partitionNow ∈ q_G ∧ Cond.selects yX6_partitionNow.cls yX6_partitionNow yX6_partitionNow ∈ q_G := ⟨q_tb (i := 443) (by decide +kernel) (by decide +kernel), q_tb (i := 444) (by decide +kernel) (by decide +kernel)⟩
theorem fl_X11_363 : Cond.fieldLink RX11 363 "PartitionWorks$Journal" "traceCount" "I" ∈ q_G := q_tb (i := 62) (by decide +kernel) (by decide +kernel)
theorem fl_X11_60 : Cond.fieldLink RX11 60 "PartitionWorks$Plan" "partitionCount" "I" ∈ q_G := q_tb (i := 79) (by decide +kernel) (by decide +kernel)
theorem fl_X11_366 : Cond.fieldLink RX11 366 "PartitionWorks$Plan" "channelCount" "I" ∈ q_G := q_tb (i := 83) (by decide +kernel) (by decide +kernel)
theorem fl_X11_369 : Cond.fieldLink RX11 369 "PartitionWorks$Plan" "windowCount" "I" ∈ q_G := q_tb (i := 93) (by decide +kernel) (by decide +kernel)
theorem fl_X11_372 : Cond.fieldLink RX11 372 "PartitionWorks$Plan" "inputCount" "I" ∈ q_G := q_tb (i := 87) (by decide +kernel) (by decide +kernel)
theorem fl_X11_373 : Cond.fieldLink RX11 373 "PartitionWorks$Plan" "outputCount" "I" ∈ q_G := q_tb (i := 89) (by decide +kernel) (by decide +kernel)
theorem dX11_about_0 : decode cX11_about 0 = .ok (.iload_n 1, 1) := by decide +kernel
theorem dX11_about_1 : decode cX11_about 1 = .ok (.tableswitch 155 0 9 #[55, 63, 74, 82, 104, 115, 123, 131, 139, 147], 55) := by decide +kernel
theorem dX11_about_56 : decode cX11_about 56 = .ok (.aload_n 0, 1) := by decide +kernel
theorem dX11_about_57 : decode cX11_about 57 = .ok (.getfield 20, 3) := by decide +kernel
theorem dX11_about_60 : decode cX11_about 60 = .ok (.getfield 162, 3) := by decide +kernel
theorem dX11_about_63 : decode cX11_about 63 = .ok (.ireturn, 1) := by decide +kernel
theorem dX11_about_64 : decode cX11_about 64 = .ok (.aload_n 0, 1) := by decide +kernel
theorem dX11_about_65 : decode cX11_about 65 = .ok (.getfield 20, 3) := by decide +kernel
theorem dX11_about_68 : decode cX11_about 68 = .ok (.getfield 216, 3) := by decide +kernel
theorem dX11_about_71 : decode cX11_about 71 = .ok (.getfield 360, 3) := by decide +kernel
theorem dX11_about_74 : decode cX11_about 74 = .ok (.ireturn, 1) := by decide +kernel
theorem dX11_about_75 : decode cX11_about 75 = .ok (.aload_n 0, 1) := by decide +kernel
theorem dX11_about_76 : decode cX11_about 76 = .ok (.getfield 20, 3) := by decide +kernel
theorem dX11_about_79 : decode cX11_about 79 = .ok (.getfield 149, 3) := by decide +kernel
theorem dX11_about_82 : decode cX11_about 82 = .ok (.ireturn, 1) := by decide +kernel
theorem dX11_about_83 : decode cX11_about 83 = .ok (.aload_n 0, 1) := by decide +kernel
theorem dX11_about_84 : decode cX11_about 84 = .ok (.getfield 20, 3) := by decide +kernel
theorem dX11_about_87 : decode cX11_about 87 = .ok (.getfield 75, 3) := by decide +kernel
theorem dX11_about_90 : decode cX11_about 90 = .ok (.ifCond .eq 13, 3) := by decide +kernel
theorem dX11_about_93 : decode cX11_about 93 = .ok (.aload_n 0, 1) := by decide +kernel
theorem dX11_about_94 : decode cX11_about 94 = .ok (.getfield 20, 3) := by decide +kernel
theorem dX11_about_97 : decode cX11_about 97 = .ok (.invokevirtual 155, 3) := by decide +kernel
theorem dX11_about_100 : decode cX11_about 100 = .ok (.goto 4, 3) := by decide +kernel
theorem dX11_about_103 : decode cX11_about 103 = .ok (.iconst (-1), 1) := by decide +kernel
theorem dX11_about_104 : decode cX11_about 104 = .ok (.ireturn, 1) := by decide +kernel
theorem dX11_about_105 : decode cX11_about 105 = .ok (.aload_n 0, 1) := by decide +kernel
theorem dX11_about_106 : decode cX11_about 106 = .ok (.getfield 20, 3) := by decide +kernel
theorem dX11_about_109 : decode cX11_about 109 = .ok (.getfield 216, 3) := by decide +kernel
theorem dX11_about_112 : decode cX11_about 112 = .ok (.getfield 363, 3) := by decide +kernel
theorem dX11_about_115 : decode cX11_about 115 = .ok (.ireturn, 1) := by decide +kernel
theorem dX11_about_116 : decode cX11_about 116 = .ok (.aload_n 0, 1) := by decide +kernel
theorem dX11_about_117 : decode cX11_about 117 = .ok (.getfield 20, 3) := by decide +kernel
theorem dX11_about_120 : decode cX11_about 120 = .ok (.getfield 60, 3) := by decide +kernel
theorem dX11_about_123 : decode cX11_about 123 = .ok (.ireturn, 1) := by decide +kernel
theorem dX11_about_124 : decode cX11_about 124 = .ok (.aload_n 0, 1) := by decide +kernel
theorem dX11_about_125 : decode cX11_about 125 = .ok (.getfield 20, 3) := by decide +kernel
theorem dX11_about_128 : decode cX11_about 128 = .ok (.getfield 366, 3) := by decide +kernel
theorem dX11_about_131 : decode cX11_about 131 = .ok (.ireturn, 1) := by decide +kernel
theorem dX11_about_132 : decode cX11_about 132 = .ok (.aload_n 0, 1) := by decide +kernel
theorem dX11_about_133 : decode cX11_about 133 = .ok (.getfield 20, 3) := by decide +kernel
theorem dX11_about_136 : decode cX11_about 136 = .ok (.getfield 369, 3) := by decide +kernel
theorem dX11_about_139 : decode cX11_about 139 = .ok (.ireturn, 1) := by decide +kernel
theorem dX11_about_140 : decode cX11_about 140 = .ok (.aload_n 0, 1) := by decide +kernel
theorem dX11_about_141 : decode cX11_about 141 = .ok (.getfield 20, 3) := by decide +kernel
theorem dX11_about_144 : decode cX11_about 144 = .ok (.getfield 372, 3) := by decide +kernel
theorem dX11_about_147 : decode cX11_about 147 = .ok (.ireturn, 1) := by decide +kernel
theorem dX11_about_148 : decode cX11_about 148 = .ok (.aload_n 0, 1) := by decide +kernel
theorem dX11_about_149 : decode cX11_about 149 = .ok (.getfield 20, 3) := by decide +kernel
theorem dX11_about_152 : decode cX11_about 152 = .ok (.getfield 373, 3) := by decide +kernel
theorem dX11_about_155 : decode cX11_about 155 = .ok (.ireturn, 1) := by decide +kernel
theorem dX11_about_156 : decode cX11_about 156 = .ok (.iconst (-1), 1) := by decide +kernel
theorem dX11_about_157 : decode cX11_about 157 = .ok (.ireturn, 1) := by decide +kernel
def wb_X11_about_104  (S : q_S) (xs0 : Int32) (Q : Option Value → q_S → Prop) : Prop := Q (some (.int xs0)) S
set_option maxHeartbeats 4000000 in
set_option maxRecDepth 100000 in
theorem cb_X11_about_104 {p : Program} {l : Launch} {e : Env} {s : State} {m : MethodId} {args : Array Value} {below : List Frame} {meth : Method} {c : Code} {D : va_G} {cy : Nat → ClassId} {lo : Nat}  {S : q_S} {xs0 : Int32} {Q : Option Value → q_S → Prop} {H : Heap} {locs : List Loc} {ls : Array Slot} (X : q_X p s m args meth c RX11 cX11_about 2 (some .int) D cy lo)  (Y : q_Y D cy lo s S H locs) (hl : lv_has ls 2 []) (h : wb_X11_about_104 S xs0 Q) : W p l e ({ frames := 4, cells := 0, slots := 0, locals := 84 } : Room) s m args below meth c H locs 0 0 (MQ below (q_Q D cy lo Q) args s 0 0 (fun q => lo ≤ q)) (F0 m 104 ls [.int xs0]) := by
  have hx := X.1
  have hb := X.2.1
  unfold wb_X11_about_104 at h
  exact q_iret X Y rfl (Nat.le_refl _) (Nat.le_refl _) h dX11_about_104
def wm_X11_about (S : q_S) (a0 : Nat) (x1 : Int32) (Q : Option Value → q_S → Prop) : Prop := (((x1.toInt < 0 ∨ 9 < x1.toInt) → (Q (some (.int (-1 : Int32))) S)) ∧ ((x1 = (0 : Int32)) → (q_K S a0 = 12 ∧ (∃ a2_ : Nat, (q_P S 2201 a0) = some a2_ ∧ (q_K S a2_ = 7 ∧ (Q (some (.int (q_I S 1211 a2_))) S))))) ∧ ((x1 = (1 : Int32)) → (q_K S a0 = 12 ∧ (∃ a6_ : Nat, (q_P S 2201 a0) = some a6_ ∧ (q_K S a6_ = 7 ∧ (∃ a9_ : Nat, (q_P S 1210 a6_) = some a9_ ∧ (q_K S a9_ = 3 ∧ (Q (some (.int (q_I S 403 a9_))) S))))))) ∧ ((x1 = (2 : Int32)) → (q_K S a0 = 12 ∧ (∃ a13_ : Nat, (q_P S 2201 a0) = some a13_ ∧ (q_K S a13_ = 7 ∧ (Q (some (.int (q_I S 1212 a13_))) S))))) ∧ ((x1 = (3 : Int32)) → (q_K S a0 = 12 ∧ (∃ a17_ : Nat, (q_P S 2201 a0) = some a17_ ∧ (q_K S a17_ = 7 ∧ ((((q_I S 1214 a17_) = 0 → (wb_X11_about_104 S (-1 : Int32) Q)) ∧ (¬ (q_I S 1214 a17_) = 0 → (wm_X6_partitionNow S a17_ (fun r21_ S22_ => ∃ x23_ : Int32, r21_ = some (.int x23_) ∧ (wb_X11_about_104 S22_ x23_ Q)))))))))) ∧ ((x1 = (4 : Int32)) → (q_K S a0 = 12 ∧ (∃ a25_ : Nat, (q_P S 2201 a0) = some a25_ ∧ (q_K S a25_ = 7 ∧ (∃ a28_ : Nat, (q_P S 1210 a25_) = some a28_ ∧ (q_K S a28_ = 3 ∧ (Q (some (.int (q_I S 402 a28_))) S))))))) ∧ ((x1 = (5 : Int32)) → (q_K S a0 = 12 ∧ (∃ a32_ : Nat, (q_P S 2201 a0) = some a32_ ∧ (q_K S a32_ = 7 ∧ (Q (some (.int (q_I S 1201 a32_))) S))))) ∧ ((x1 = (6 : Int32)) → (q_K S a0 = 12 ∧ (∃ a36_ : Nat, (q_P S 2201 a0) = some a36_ ∧ (q_K S a36_ = 7 ∧ (Q (some (.int (q_I S 1203 a36_))) S))))) ∧ ((x1 = (7 : Int32)) → (q_K S a0 = 12 ∧ (∃ a40_ : Nat, (q_P S 2201 a0) = some a40_ ∧ (q_K S a40_ = 7 ∧ (Q (some (.int (q_I S 1209 a40_))) S))))) ∧ ((x1 = (8 : Int32)) → (q_K S a0 = 12 ∧ (∃ a44_ : Nat, (q_P S 2201 a0) = some a44_ ∧ (q_K S a44_ = 7 ∧ (Q (some (.int (q_I S 1205 a44_))) S))))) ∧ ((x1 = (9 : Int32)) → (q_K S a0 = 12 ∧ (∃ a48_ : Nat, (q_P S 2201 a0) = some a48_ ∧ (q_K S a48_ = 7 ∧ (Q (some (.int (q_I S 1206 a48_))) S))))))
set_option maxHeartbeats 4000000 in
set_option maxRecDepth 100000 in
theorem cm_X11_about {l : Launch} {D : va_G} {cy : Nat → ClassId} {lo : Nat} {S : q_S} {a0 : Nat} {x1 : Int32} {Q : Option Value → q_S → Prop} (h : wm_X11_about S a0 x1 Q) : q_Met l D cy lo yX11_about cX11_about 2 (some .int) 4 84 0 0 [.ref a0, .int x1] S Q := by
  refine q_body (by decide) (by first | exact Nat.le_of_ble_eq_true rfl | simp [lg_sl, q_cat, q_catI, q_catJ, q_catR]) ?_
  intro p e s m below meth c ls X hnm Y hl
  have hx := X.1
  have hb := X.2.1
  have hl : lv_has ls 2 [(0, .ref a0), (1, .int x1)] := by first | exact hl | simpa [lv_args, q_cat, q_catI, q_catJ, q_catR] using hl
  generalize hargs : ([.ref a0, .int x1] : List Value).toArray = args at X ⊢
  unfold wm_X11_about at h
  refine lv_iload_n hx hb dX11_about_0 rfl (lv_at hl 1 rfl) ?_
  refine q_tsw (tgt := 156) hx hb dX11_about_1 (by decide) (by decide) (fun c51_ => ?_) (fun j52_ hj_ c51_ => ?_)
  · replace h := h.1 c51_
    refine lv_iconst (v := (-1)) hx hb dX11_about_156 (by decide) ?_
    exact q_iret X Y rfl (Nat.le_refl _) (Nat.le_refl _) h dX11_about_157
  · match j52_, hj_, c51_ with
    | 0, _, c51_ =>
      refine ⟨55, 56, rfl, by decide, ?_⟩
      replace h := h.2.1 (q_eqI c51_ (by decide))
      refine lv_aload_n hx hb dX11_about_56 rfl (lv_at hl 0 rfl) ?_
      obtain ⟨k1_, h⟩ := h
      refine q_getP X Y kX11 1 rfl fl_X11_20 k1_ rfl dX11_about_57 ?_
      obtain ⟨a2_, e3_, h⟩ := h
      refine q_nn [] e3_ ?_
      obtain ⟨k4_, h⟩ := h
      refine q_getI X Y kX6 11 rfl fl_X11_162 k4_ dX11_about_60 ?_
      exact q_iret X Y rfl (Nat.le_refl _) (Nat.le_refl _) h dX11_about_63
    | 1, _, c51_ =>
      refine ⟨63, 64, rfl, by decide, ?_⟩
      replace h := h.2.2.1 (q_eqI c51_ (by decide))
      refine lv_aload_n hx hb dX11_about_64 rfl (lv_at hl 0 rfl) ?_
      obtain ⟨k5_, h⟩ := h
      refine q_getP X Y kX11 1 rfl fl_X11_20 k5_ rfl dX11_about_65 ?_
      obtain ⟨a6_, e7_, h⟩ := h
      refine q_nn [] e7_ ?_
      obtain ⟨k8_, h⟩ := h
      refine q_getP X Y kX6 10 rfl fl_X11_216 k8_ rfl dX11_about_68 ?_
      obtain ⟨a9_, e10_, h⟩ := h
      refine q_nn [] e10_ ?_
      obtain ⟨k11_, h⟩ := h
      refine q_getI X Y kX2 3 rfl fl_X11_360 k11_ dX11_about_71 ?_
      exact q_iret X Y rfl (Nat.le_refl _) (Nat.le_refl _) h dX11_about_74
    | 2, _, c51_ =>
      refine ⟨74, 75, rfl, by decide, ?_⟩
      replace h := h.2.2.2.1 (q_eqI c51_ (by decide))
      refine lv_aload_n hx hb dX11_about_75 rfl (lv_at hl 0 rfl) ?_
      obtain ⟨k12_, h⟩ := h
      refine q_getP X Y kX11 1 rfl fl_X11_20 k12_ rfl dX11_about_76 ?_
      obtain ⟨a13_, e14_, h⟩ := h
      refine q_nn [] e14_ ?_
      obtain ⟨k15_, h⟩ := h
      refine q_getI X Y kX6 12 rfl fl_X11_149 k15_ dX11_about_79 ?_
      exact q_iret X Y rfl (Nat.le_refl _) (Nat.le_refl _) h dX11_about_82
    | 3, _, c51_ =>
      refine ⟨82, 83, rfl, by decide, ?_⟩
      replace h := h.2.2.2.2.1 (q_eqI c51_ (by decide))
      refine lv_aload_n hx hb dX11_about_83 rfl (lv_at hl 0 rfl) ?_
      obtain ⟨k16_, h⟩ := h
      refine q_getP X Y kX11 1 rfl fl_X11_20 k16_ rfl dX11_about_84 ?_
      obtain ⟨a17_, e18_, h⟩ := h
      refine q_nn [] e18_ ?_
      obtain ⟨k19_, h⟩ := h
      refine q_getI X Y kX6 14 rfl fl_X11_75 k19_ dX11_about_87 ?_
      refine lv_if_eq (tgt := 103) hx hb dX11_about_90 (by decide) (fun c20_ => ?_) (fun c20_ => ?_)
      · replace h := h.1 c20_
        refine lv_iconst (v := (-1)) hx hb dX11_about_103 (by decide) ?_
        exact cb_X11_about_104 X Y (lv_sub hl [] rfl) h
      · replace h := h.2 c20_
        refine lv_aload_n hx hb dX11_about_93 rfl (lv_at hl 0 rfl) ?_
        refine q_getR X Y kX11 1 rfl fl_X11_20 k16_ e18_ dX11_about_94 ?_
        refine q_callV X Y hl (cm_X6_partitionNow h) mt_X6_partitionNow mi_X6_partitionNow ml_X11_155 (ci := 6) rfl k19_ (by decide) rfl rfl (by first | exact Nat.le_of_ble_eq_true rfl | simp [q_cat, q_catI, q_catJ, q_catR]) ⟨Nat.le_of_ble_eq_true rfl, Nat.le_of_ble_eq_true rfl⟩ ⟨Nat.le_of_ble_eq_true rfl, Nat.le_of_ble_eq_true rfl⟩ dX11_about_97 (fun r21_ S22_ H locs hp Y => ?_)
        obtain ⟨x23_, rfl, h⟩ := hp
        refine W.eq (g2 := F0 m 100 ls [.int x23_]) rfl ?_
        refine lv_goto (tgt := 104) hx hb dX11_about_100 (by decide) ?_
        exact cb_X11_about_104 X Y (lv_sub hl [] rfl) h
    | 4, _, c51_ =>
      refine ⟨104, 105, rfl, by decide, ?_⟩
      replace h := h.2.2.2.2.2.1 (q_eqI c51_ (by decide))
      refine lv_aload_n hx hb dX11_about_105 rfl (lv_at hl 0 rfl) ?_
      obtain ⟨k24_, h⟩ := h
      refine q_getP X Y kX11 1 rfl fl_X11_20 k24_ rfl dX11_about_106 ?_
      obtain ⟨a25_, e26_, h⟩ := h
      refine q_nn [] e26_ ?_
      obtain ⟨k27_, h⟩ := h
      refine q_getP X Y kX6 10 rfl fl_X11_216 k27_ rfl dX11_about_109 ?_
      obtain ⟨a28_, e29_, h⟩ := h
      refine q_nn [] e29_ ?_
      obtain ⟨k30_, h⟩ := h
      refine q_getI X Y kX2 2 rfl fl_X11_363 k30_ dX11_about_112 ?_
      exact q_iret X Y rfl (Nat.le_refl _) (Nat.le_refl _) h dX11_about_115
    | 5, _, c51_ =>
      refine ⟨115, 116, rfl, by decide, ?_⟩
      replace h := h.2.2.2.2.2.2.1 (q_eqI c51_ (by decide))
      refine lv_aload_n hx hb dX11_about_116 rfl (lv_at hl 0 rfl) ?_
      obtain ⟨k31_, h⟩ := h
      refine q_getP X Y kX11 1 rfl fl_X11_20 k31_ rfl dX11_about_117 ?_
      obtain ⟨a32_, e33_, h⟩ := h
      refine q_nn [] e33_ ?_
      obtain ⟨k34_, h⟩ := h
      refine q_getI X Y kX6 1 rfl fl_X11_60 k34_ dX11_about_120 ?_
      exact q_iret X Y rfl (Nat.le_refl _) (Nat.le_refl _) h dX11_about_123
    | 6, _, c51_ =>
      refine ⟨123, 124, rfl, by decide, ?_⟩
      replace h := h.2.2.2.2.2.2.2.1 (q_eqI c51_ (by decide))
      refine lv_aload_n hx hb dX11_about_124 rfl (lv_at hl 0 rfl) ?_
      obtain ⟨k35_, h⟩ := h
      refine q_getP X Y kX11 1 rfl fl_X11_20 k35_ rfl dX11_about_125 ?_
      obtain ⟨a36_, e37_, h⟩ := h
      refine q_nn [] e37_ ?_
      obtain ⟨k38_, h⟩ := h
      refine q_getI X Y kX6 3 rfl fl_X11_366 k38_ dX11_about_128 ?_
      exact q_iret X Y rfl (Nat.le_refl _) (Nat.le_refl _) h dX11_about_131
    | 7, _, c51_ =>
      refine ⟨131, 132, rfl, by decide, ?_⟩
      replace h := h.2.2.2.2.2.2.2.2.1 (q_eqI c51_ (by decide))
      refine lv_aload_n hx hb dX11_about_132 rfl (lv_at hl 0 rfl) ?_
      obtain ⟨k39_, h⟩ := h
      refine q_getP X Y kX11 1 rfl fl_X11_20 k39_ rfl dX11_about_133 ?_
      obtain ⟨a40_, e41_, h⟩ := h
      refine q_nn [] e41_ ?_
      obtain ⟨k42_, h⟩ := h
      refine q_getI X Y kX6 9 rfl fl_X11_369 k42_ dX11_about_136 ?_
      exact q_iret X Y rfl (Nat.le_refl _) (Nat.le_refl _) h dX11_about_139
    | 8, _, c51_ =>
      refine ⟨139, 140, rfl, by decide, ?_⟩
      replace h := h.2.2.2.2.2.2.2.2.2.1 (q_eqI c51_ (by decide))
      refine lv_aload_n hx hb dX11_about_140 rfl (lv_at hl 0 rfl) ?_
      obtain ⟨k43_, h⟩ := h
      refine q_getP X Y kX11 1 rfl fl_X11_20 k43_ rfl dX11_about_141 ?_
      obtain ⟨a44_, e45_, h⟩ := h
      refine q_nn [] e45_ ?_
      obtain ⟨k46_, h⟩ := h
      refine q_getI X Y kX6 5 rfl fl_X11_372 k46_ dX11_about_144 ?_
      exact q_iret X Y rfl (Nat.le_refl _) (Nat.le_refl _) h dX11_about_147
    | 9, _, c51_ =>
      refine ⟨147, 148, rfl, by decide, ?_⟩
      replace h := h.2.2.2.2.2.2.2.2.2.2 (q_eqI c51_ (by decide))
      refine lv_aload_n hx hb dX11_about_148 rfl (lv_at hl 0 rfl) ?_
      obtain ⟨k47_, h⟩ := h
      refine q_getP X Y kX11 1 rfl fl_X11_20 k47_ rfl dX11_about_149 ?_
      obtain ⟨a48_, e49_, h⟩ := h
      refine q_nn [] e49_ ?_
      obtain ⟨k50_, h⟩ := h
      refine q_getI X Y kX6 6 rfl fl_X11_373 k50_ dX11_about_152 ?_
      exact q_iret X Y rfl (Nat.le_refl _) (Nat.le_refl _) h dX11_about_155
    | z_ + 10, hj_, _ => exact absurd hj_ (by simp)
-- X12_init
theorem ml_X12_1 : Cond.methodLink RX12 1 Lib.objectInit ∈ q_G := q_tb (i := 1732) (by decide +kernel) (by decide +kernel)
theorem fl_X12_7 : Cond.fieldLink RX12 7 "PartitionWorksModel" "ready" "[B" ∈ q_G := q_tb (i := 1735) (by decide +kernel) (by decide +kernel)
theorem fl_X12_13 : Cond.fieldLink RX12 13 "PartitionWorksModel" "text" "[B" ∈ q_G := q_tb (i := 1736) (by decide +kernel) (by decide +kernel)
theorem fl_X12_16 : Cond.fieldLink RX12 16 "PartitionWorksModel" "faultPlace" "I" ∈ q_G := q_tb (i := 1746) (by decide +kernel) (by decide +kernel)
theorem fl_X12_20 : Cond.fieldLink RX12 20 "PartitionWorksModel" "letters" "[B" ∈ q_G := q_tb (i := 1755) (by decide +kernel) (by decide +kernel)
theorem fl_X12_23 : Cond.fieldLink RX12 23 "PartitionWorksModel" "nameAt" "[I" ∈ q_G := q_tb (i := 1757) (by decide +kernel) (by decide +kernel)
theorem fl_X12_27 : Cond.fieldLink RX12 27 "PartitionWorksModel" "nameSize" "[I" ∈ q_G := q_tb (i := 1758) (by decide +kernel) (by decide +kernel)
theorem fl_X12_30 : Cond.fieldLink RX12 30 "PartitionWorksModel" "bytes" "[I" ∈ q_G := q_tb (i := 1759) (by decide +kernel) (by decide +kernel)
theorem fl_X12_33 : Cond.fieldLink RX12 33 "PartitionWorksModel" "regionMany" "[I" ∈ q_G := q_tb (i := 1760) (by decide +kernel) (by decide +kernel)
theorem fl_X12_36 : Cond.fieldLink RX12 36 "PartitionWorksModel" "regionAt" "[I" ∈ q_G := q_tb (i := 1761) (by decide +kernel) (by decide +kernel)
theorem fl_X12_39 : Cond.fieldLink RX12 39 "PartitionWorksModel" "regionBytes" "[I" ∈ q_G := q_tb (i := 1762) (by decide +kernel) (by decide +kernel)
theorem fl_X12_42 : Cond.fieldLink RX12 42 "PartitionWorksModel" "regionSort" "[I" ∈ q_G := q_tb (i := 1763) (by decide +kernel) (by decide +kernel)
theorem fl_X12_45 : Cond.fieldLink RX12 45 "PartitionWorksModel" "thingMany" "[I" ∈ q_G := q_tb (i := 1764) (by decide +kernel) (by decide +kernel)
theorem fl_X12_48 : Cond.fieldLink RX12 48 "PartitionWorksModel" "thingAt" "[I" ∈ q_G := q_tb (i := 1765) (by decide +kernel) (by decide +kernel)
theorem fl_X12_51 : Cond.fieldLink RX12 51 "PartitionWorksModel" "thingSize" "[I" ∈ q_G := q_tb (i := 1766) (by decide +kernel) (by decide +kernel)
theorem fl_X12_54 : Cond.fieldLink RX12 54 "PartitionWorksModel" "thingSort" "[I" ∈ q_G := q_tb (i := 1767) (by decide +kernel) (by decide +kernel)
theorem fl_X12_57 : Cond.fieldLink RX12 57 "PartitionWorksModel" "thingNumber" "[I" ∈ q_G := q_tb (i := 1768) (by decide +kernel) (by decide +kernel)
theorem fl_X12_60 : Cond.fieldLink RX12 60 "PartitionWorksModel" "many" "[I" ∈ q_G := q_tb (i := 1769) (by decide +kernel) (by decide +kernel)
theorem fl_X12_63 : Cond.fieldLink RX12 63 "PartitionWorksModel" "entry" "[I" ∈ q_G := q_tb (i := 1770) (by decide +kernel) (by decide +kernel)
theorem fl_X12_66 : Cond.fieldLink RX12 66 "PartitionWorksModel" "told" "[I" ∈ q_G := q_tb (i := 1771) (by decide +kernel) (by decide +kernel)
theorem fl_X12_69 : Cond.fieldLink RX12 69 "PartitionWorksModel" "period" "[I" ∈ q_G := q_tb (i := 1772) (by decide +kernel) (by decide +kernel)
theorem fl_X12_72 : Cond.fieldLink RX12 72 "PartitionWorksModel" "deadline" "[I" ∈ q_G := q_tb (i := 1773) (by decide +kernel) (by decide +kernel)
theorem fl_X12_75 : Cond.fieldLink RX12 75 "PartitionWorksModel" "delay" "[I" ∈ q_G := q_tb (i := 1774) (by decide +kernel) (by decide +kernel)
theorem ar_boolean : Cond.arrayClass .boolean ∈ q_G := q_tb (i := 2077) (by decide +kernel) (by decide +kernel)
theorem fl_X12_78 : Cond.fieldLink RX12 78 "PartitionWorksModel" "stopped" "[Z" ∈ q_G := q_tb (i := 1775) (by decide +kernel) (by decide +kernel)
theorem fl_X12_82 : Cond.fieldLink RX12 82 "PartitionWorksModel" "handler" "[I" ∈ q_G := q_tb (i := 1776) (by decide +kernel) (by decide +kernel)
theorem fl_X12_85 : Cond.fieldLink RX12 85 "PartitionWorksModel" "first" "[I" ∈ q_G := q_tb (i := 1777) (by decide +kernel) (by decide +kernel)
theorem fl_X12_88 : Cond.fieldLink RX12 88 "PartitionWorksModel" "most" "[I" ∈ q_G := q_tb (i := 1778) (by decide +kernel) (by decide +kernel)
theorem fl_X12_91 : Cond.fieldLink RX12 91 "PartitionWorksModel" "firstCome" "[Z" ∈ q_G := q_tb (i := 1779) (by decide +kernel) (by decide +kernel)
theorem fl_X12_94 : Cond.fieldLink RX12 94 "PartitionWorksModel" "room" "[I" ∈ q_G := q_tb (i := 1780) (by decide +kernel) (by decide +kernel)
theorem fl_X12_97 : Cond.fieldLink RX12 97 "PartitionWorksModel" "bufferCome" "[Z" ∈ q_G := q_tb (i := 1781) (by decide +kernel) (by decide +kernel)
theorem fl_X12_100 : Cond.fieldLink RX12 100 "PartitionWorksModel" "isOut" "[Z" ∈ q_G := q_tb (i := 1782) (by decide +kernel) (by decide +kernel)
theorem fl_X12_103 : Cond.fieldLink RX12 103 "PartitionWorksModel" "isQueue" "[Z" ∈ q_G := q_tb (i := 1783) (by decide +kernel) (by decide +kernel)
theorem fl_X12_106 : Cond.fieldLink RX12 106 "PartitionWorksModel" "channelOf" "[I" ∈ q_G := q_tb (i := 1784) (by decide +kernel) (by decide +kernel)
theorem fl_X12_109 : Cond.fieldLink RX12 109 "PartitionWorksModel" "hasTable" "[Z" ∈ q_G := q_tb (i := 1785) (by decide +kernel) (by decide +kernel)
theorem fl_X12_112 : Cond.fieldLink RX12 112 "PartitionWorksModel" "table" "[I" ∈ q_G := q_tb (i := 1786) (by decide +kernel) (by decide +kernel)
theorem fl_X12_115 : Cond.fieldLink RX12 115 "PartitionWorksModel" "queue" "[Z" ∈ q_G := q_tb (i := 1788) (by decide +kernel) (by decide +kernel)
theorem fl_X12_118 : Cond.fieldLink RX12 118 "PartitionWorksModel" "limit" "[I" ∈ q_G := q_tb (i := 1789) (by decide +kernel) (by decide +kernel)
theorem fl_X12_121 : Cond.fieldLink RX12 121 "PartitionWorksModel" "channelCome" "[Z" ∈ q_G := q_tb (i := 1790) (by decide +kernel) (by decide +kernel)
theorem fl_X12_124 : Cond.fieldLink RX12 124 "PartitionWorksModel" "source" "[I" ∈ q_G := q_tb (i := 1791) (by decide +kernel) (by decide +kernel)
theorem fl_X12_127 : Cond.fieldLink RX12 127 "PartitionWorksModel" "goalMany" "[I" ∈ q_G := q_tb (i := 1792) (by decide +kernel) (by decide +kernel)
theorem fl_X12_130 : Cond.fieldLink RX12 130 "PartitionWorksModel" "goal" "[I" ∈ q_G := q_tb (i := 1793) (by decide +kernel) (by decide +kernel)
theorem fl_X12_133 : Cond.fieldLink RX12 133 "PartitionWorksModel" "inputOf" "[I" ∈ q_G := q_tb (i := 1794) (by decide +kernel) (by decide +kernel)
theorem fl_X12_136 : Cond.fieldLink RX12 136 "PartitionWorksModel" "windowOf" "[I" ∈ q_G := q_tb (i := 1795) (by decide +kernel) (by decide +kernel)
theorem fl_X12_139 : Cond.fieldLink RX12 139 "PartitionWorksModel" "windowTicks" "[I" ∈ q_G := q_tb (i := 1796) (by decide +kernel) (by decide +kernel)
theorem co_X12_142 : Cond.constant RX12 142 (131072) ∈ q_G := q_tb (i := 1733) (by decide +kernel) (by decide +kernel)
theorem fl_X12_143 : Cond.fieldLink RX12 143 "PartitionWorksModel" "image" "[B" ∈ q_G := q_tb (i := 1799) (by decide +kernel) (by decide +kernel)
theorem fl_X12_146 : Cond.fieldLink RX12 146 "PartitionWorksModel" "memory" "[B" ∈ q_G := q_tb (i := 1800) (by decide +kernel) (by decide +kernel)
theorem fl_X12_149 : Cond.fieldLink RX12 149 "PartitionWorksModel" "state" "[I" ∈ q_G := q_tb (i := 1801) (by decide +kernel) (by decide +kernel)
theorem fl_X12_152 : Cond.fieldLink RX12 152 "PartitionWorksModel" "pc" "[I" ∈ q_G := q_tb (i := 1802) (by decide +kernel) (by decide +kernel)
theorem fl_X12_155 : Cond.fieldLink RX12 155 "PartitionWorksModel" "priority" "[I" ∈ q_G := q_tb (i := 1803) (by decide +kernel) (by decide +kernel)
theorem fl_X12_158 : Cond.fieldLink RX12 158 "PartitionWorksModel" "hasDue" "[Z" ∈ q_G := q_tb (i := 1804) (by decide +kernel) (by decide +kernel)
theorem fl_X12_161 : Cond.fieldLink RX12 161 "PartitionWorksModel" "due" "[I" ∈ q_G := q_tb (i := 1805) (by decide +kernel) (by decide +kernel)
theorem fl_X12_164 : Cond.fieldLink RX12 164 "PartitionWorksModel" "until" "[I" ∈ q_G := q_tb (i := 1806) (by decide +kernel) (by decide +kernel)
theorem fl_X12_167 : Cond.fieldLink RX12 167 "PartitionWorksModel" "release" "[I" ∈ q_G := q_tb (i := 1807) (by decide +kernel) (by decide +kernel)
theorem fl_X12_170 : Cond.fieldLink RX12 170 "PartitionWorksModel" "did" "[I" ∈ q_G := q_tb (i := 1808) (by decide +kernel) (by decide +kernel)
theorem fl_X12_173 : Cond.fieldLink RX12 173 "PartitionWorksModel" "held" "[Z" ∈ q_G := q_tb (i := 1809) (by decide +kernel) (by decide +kernel)
theorem fl_X12_176 : Cond.fieldLink RX12 176 "PartitionWorksModel" "turn" "[I" ∈ q_G := q_tb (i := 1810) (by decide +kernel) (by decide +kernel)
theorem fl_X12_179 : Cond.fieldLink RX12 179 "PartitionWorksModel" "register" "[I" ∈ q_G := q_tb (i := 1811) (by decide +kernel) (by decide +kernel)
theorem fl_X12_182 : Cond.fieldLink RX12 182 "PartitionWorksModel" "waitSort" "[I" ∈ q_G := q_tb (i := 1812) (by decide +kernel) (by decide +kernel)
theorem fl_X12_185 : Cond.fieldLink RX12 185 "PartitionWorksModel" "waitThing" "[I" ∈ q_G := q_tb (i := 1813) (by decide +kernel) (by decide +kernel)
theorem fl_X12_188 : Cond.fieldLink RX12 188 "PartitionWorksModel" "waitPort" "[I" ∈ q_G := q_tb (i := 1814) (by decide +kernel) (by decide +kernel)
theorem fl_X12_191 : Cond.fieldLink RX12 191 "PartitionWorksModel" "waitTurn" "[I" ∈ q_G := q_tb (i := 1815) (by decide +kernel) (by decide +kernel)
theorem fl_X12_194 : Cond.fieldLink RX12 194 "PartitionWorksModel" "waitWord" "[I" ∈ q_G := q_tb (i := 1816) (by decide +kernel) (by decide +kernel)
theorem fl_X12_197 : Cond.fieldLink RX12 197 "PartitionWorksModel" "mode" "[I" ∈ q_G := q_tb (i := 1817) (by decide +kernel) (by decide +kernel)
theorem fl_X12_200 : Cond.fieldLink RX12 200 "PartitionWorksModel" "how" "[I" ∈ q_G := q_tb (i := 1818) (by decide +kernel) (by decide +kernel)
theorem fl_X12_203 : Cond.fieldLink RX12 203 "PartitionWorksModel" "began" "[I" ∈ q_G := q_tb (i := 1819) (by decide +kernel) (by decide +kernel)
theorem fl_X12_206 : Cond.fieldLink RX12 206 "PartitionWorksModel" "locks" "[I" ∈ q_G := q_tb (i := 1820) (by decide +kernel) (by decide +kernel)
theorem fl_X12_209 : Cond.fieldLink RX12 209 "PartitionWorksModel" "locker" "[I" ∈ q_G := q_tb (i := 1821) (by decide +kernel) (by decide +kernel)
theorem fl_X12_212 : Cond.fieldLink RX12 212 "PartitionWorksModel" "faulted" "[I" ∈ q_G := q_tb (i := 1822) (by decide +kernel) (by decide +kernel)
theorem fl_X12_215 : Cond.fieldLink RX12 215 "PartitionWorksModel" "faultKind" "[I" ∈ q_G := q_tb (i := 1823) (by decide +kernel) (by decide +kernel)
theorem fl_X12_218 : Cond.fieldLink RX12 218 "PartitionWorksModel" "faultCode" "[I" ∈ q_G := q_tb (i := 1824) (by decide +kernel) (by decide +kernel)
theorem fl_X12_221 : Cond.fieldLink RX12 221 "PartitionWorksModel" "doneIn" "[I" ∈ q_G := q_tb (i := 1825) (by decide +kernel) (by decide +kernel)
theorem fl_X12_224 : Cond.fieldLink RX12 224 "PartitionWorksModel" "count" "[I" ∈ q_G := q_tb (i := 1826) (by decide +kernel) (by decide +kernel)
theorem fl_X12_227 : Cond.fieldLink RX12 227 "PartitionWorksModel" "up" "[Z" ∈ q_G := q_tb (i := 1827) (by decide +kernel) (by decide +kernel)
theorem fl_X12_230 : Cond.fieldLink RX12 230 "PartitionWorksModel" "words" "[I" ∈ q_G := q_tb (i := 1828) (by decide +kernel) (by decide +kernel)
theorem fl_X12_233 : Cond.fieldLink RX12 233 "PartitionWorksModel" "word" "[I" ∈ q_G := q_tb (i := 1829) (by decide +kernel) (by decide +kernel)
theorem fl_X12_236 : Cond.fieldLink RX12 236 "PartitionWorksModel" "shows" "[Z" ∈ q_G := q_tb (i := 1830) (by decide +kernel) (by decide +kernel)
theorem fl_X12_239 : Cond.fieldLink RX12 239 "PartitionWorksModel" "shown" "[I" ∈ q_G := q_tb (i := 1831) (by decide +kernel) (by decide +kernel)
theorem fl_X12_242 : Cond.fieldLink RX12 242 "PartitionWorksModel" "has" "[Z" ∈ q_G := q_tb (i := 1832) (by decide +kernel) (by decide +kernel)
theorem fl_X12_245 : Cond.fieldLink RX12 245 "PartitionWorksModel" "sampled" "[I" ∈ q_G := q_tb (i := 1833) (by decide +kernel) (by decide +kernel)
theorem fl_X12_248 : Cond.fieldLink RX12 248 "PartitionWorksModel" "since" "[I" ∈ q_G := q_tb (i := 1834) (by decide +kernel) (by decide +kernel)
theorem fl_X12_251 : Cond.fieldLink RX12 251 "PartitionWorksModel" "queued" "[I" ∈ q_G := q_tb (i := 1835) (by decide +kernel) (by decide +kernel)
theorem fl_X12_254 : Cond.fieldLink RX12 254 "PartitionWorksModel" "queueWord" "[I" ∈ q_G := q_tb (i := 1836) (by decide +kernel) (by decide +kernel)
theorem fl_X12_257 : Cond.fieldLink RX12 257 "PartitionWorksModel" "lost" "[I" ∈ q_G := q_tb (i := 1837) (by decide +kernel) (by decide +kernel)
theorem fl_X12_260 : Cond.fieldLink RX12 260 "PartitionWorksModel" "inputMany" "[I" ∈ q_G := q_tb (i := 1838) (by decide +kernel) (by decide +kernel)
theorem fl_X12_263 : Cond.fieldLink RX12 263 "PartitionWorksModel" "inputNext" "[I" ∈ q_G := q_tb (i := 1839) (by decide +kernel) (by decide +kernel)
theorem fl_X12_266 : Cond.fieldLink RX12 266 "PartitionWorksModel" "inputTime" "[I" ∈ q_G := q_tb (i := 1840) (by decide +kernel) (by decide +kernel)
theorem fl_X12_269 : Cond.fieldLink RX12 269 "PartitionWorksModel" "inputWord" "[I" ∈ q_G := q_tb (i := 1841) (by decide +kernel) (by decide +kernel)
theorem fl_X12_272 : Cond.fieldLink RX12 272 "PartitionWorksModel" "trace" "[I" ∈ q_G := q_tb (i := 1845) (by decide +kernel) (by decide +kernel)
theorem fl_X12_275 : Cond.fieldLink RX12 275 "PartitionWorksModel" "error" "[I" ∈ q_G := q_tb (i := 1846) (by decide +kernel) (by decide +kernel)
theorem dX12_init_0 : decode cX12_init 0 = .ok (.aload_n 0, 1) := by decide +kernel
theorem dX12_init_1 : decode cX12_init 1 = .ok (.invokespecial 1, 3) := by decide +kernel
theorem dX12_init_4 : decode cX12_init 4 = .ok (.aload_n 0, 1) := by decide +kernel
theorem dX12_init_5 : decode cX12_init 5 = .ok (.bipush 20, 2) := by decide +kernel
theorem dX12_init_7 : decode cX12_init 7 = .ok (.newarray .byte, 2) := by decide +kernel
theorem dX12_init_9 : decode cX12_init 9 = .ok (.putfield 7, 3) := by decide +kernel
theorem dX12_init_12 : decode cX12_init 12 = .ok (.aload_n 0, 1) := by decide +kernel
theorem dX12_init_13 : decode cX12_init 13 = .ok (.sipush 4000, 3) := by decide +kernel
theorem dX12_init_16 : decode cX12_init 16 = .ok (.newarray .byte, 2) := by decide +kernel
theorem dX12_init_18 : decode cX12_init 18 = .ok (.putfield 13, 3) := by decide +kernel
theorem dX12_init_21 : decode cX12_init 21 = .ok (.aload_n 0, 1) := by decide +kernel
theorem dX12_init_22 : decode cX12_init 22 = .ok (.iconst (-1), 1) := by decide +kernel
theorem dX12_init_23 : decode cX12_init 23 = .ok (.putfield 16, 3) := by decide +kernel
theorem dX12_init_26 : decode cX12_init 26 = .ok (.aload_n 0, 1) := by decide +kernel
theorem dX12_init_27 : decode cX12_init 27 = .ok (.sipush 14000, 3) := by decide +kernel
theorem dX12_init_30 : decode cX12_init 30 = .ok (.newarray .byte, 2) := by decide +kernel
theorem dX12_init_32 : decode cX12_init 32 = .ok (.putfield 20, 3) := by decide +kernel
theorem dX12_init_35 : decode cX12_init 35 = .ok (.aload_n 0, 1) := by decide +kernel
theorem dX12_init_36 : decode cX12_init 36 = .ok (.bipush 16, 2) := by decide +kernel
theorem dX12_init_38 : decode cX12_init 38 = .ok (.newarray .int, 2) := by decide +kernel
theorem dX12_init_40 : decode cX12_init 40 = .ok (.putfield 23, 3) := by decide +kernel
theorem dX12_init_43 : decode cX12_init 43 = .ok (.aload_n 0, 1) := by decide +kernel
theorem dX12_init_44 : decode cX12_init 44 = .ok (.bipush 16, 2) := by decide +kernel
theorem dX12_init_46 : decode cX12_init 46 = .ok (.newarray .int, 2) := by decide +kernel
theorem dX12_init_48 : decode cX12_init 48 = .ok (.putfield 27, 3) := by decide +kernel
theorem dX12_init_51 : decode cX12_init 51 = .ok (.aload_n 0, 1) := by decide +kernel
theorem dX12_init_52 : decode cX12_init 52 = .ok (.bipush 16, 2) := by decide +kernel
theorem dX12_init_54 : decode cX12_init 54 = .ok (.newarray .int, 2) := by decide +kernel
theorem dX12_init_56 : decode cX12_init 56 = .ok (.putfield 30, 3) := by decide +kernel
theorem dX12_init_59 : decode cX12_init 59 = .ok (.aload_n 0, 1) := by decide +kernel
theorem dX12_init_60 : decode cX12_init 60 = .ok (.bipush 16, 2) := by decide +kernel
theorem dX12_init_62 : decode cX12_init 62 = .ok (.newarray .int, 2) := by decide +kernel
theorem dX12_init_64 : decode cX12_init 64 = .ok (.putfield 33, 3) := by decide +kernel
theorem dX12_init_67 : decode cX12_init 67 = .ok (.aload_n 0, 1) := by decide +kernel
theorem dX12_init_68 : decode cX12_init 68 = .ok (.bipush 96, 2) := by decide +kernel
theorem dX12_init_70 : decode cX12_init 70 = .ok (.newarray .int, 2) := by decide +kernel
theorem dX12_init_72 : decode cX12_init 72 = .ok (.putfield 36, 3) := by decide +kernel
theorem dX12_init_75 : decode cX12_init 75 = .ok (.aload_n 0, 1) := by decide +kernel
theorem dX12_init_76 : decode cX12_init 76 = .ok (.bipush 96, 2) := by decide +kernel
theorem dX12_init_78 : decode cX12_init 78 = .ok (.newarray .int, 2) := by decide +kernel
theorem dX12_init_80 : decode cX12_init 80 = .ok (.putfield 39, 3) := by decide +kernel
theorem dX12_init_83 : decode cX12_init 83 = .ok (.aload_n 0, 1) := by decide +kernel
theorem dX12_init_84 : decode cX12_init 84 = .ok (.bipush 96, 2) := by decide +kernel
theorem dX12_init_86 : decode cX12_init 86 = .ok (.newarray .int, 2) := by decide +kernel
theorem dX12_init_88 : decode cX12_init 88 = .ok (.putfield 42, 3) := by decide +kernel
theorem dX12_init_91 : decode cX12_init 91 = .ok (.aload_n 0, 1) := by decide +kernel
theorem dX12_init_92 : decode cX12_init 92 = .ok (.bipush 16, 2) := by decide +kernel
theorem dX12_init_94 : decode cX12_init 94 = .ok (.newarray .int, 2) := by decide +kernel
theorem dX12_init_96 : decode cX12_init 96 = .ok (.putfield 45, 3) := by decide +kernel
theorem dX12_init_99 : decode cX12_init 99 = .ok (.aload_n 0, 1) := by decide +kernel
theorem dX12_init_100 : decode cX12_init 100 = .ok (.sipush 1024, 3) := by decide +kernel
theorem dX12_init_103 : decode cX12_init 103 = .ok (.newarray .int, 2) := by decide +kernel
theorem dX12_init_105 : decode cX12_init 105 = .ok (.putfield 48, 3) := by decide +kernel
theorem dX12_init_108 : decode cX12_init 108 = .ok (.aload_n 0, 1) := by decide +kernel
theorem dX12_init_109 : decode cX12_init 109 = .ok (.sipush 1024, 3) := by decide +kernel
theorem dX12_init_112 : decode cX12_init 112 = .ok (.newarray .int, 2) := by decide +kernel
theorem dX12_init_114 : decode cX12_init 114 = .ok (.putfield 51, 3) := by decide +kernel
theorem dX12_init_117 : decode cX12_init 117 = .ok (.aload_n 0, 1) := by decide +kernel
theorem dX12_init_118 : decode cX12_init 118 = .ok (.sipush 1024, 3) := by decide +kernel
theorem dX12_init_121 : decode cX12_init 121 = .ok (.newarray .int, 2) := by decide +kernel
theorem dX12_init_123 : decode cX12_init 123 = .ok (.putfield 54, 3) := by decide +kernel
theorem dX12_init_126 : decode cX12_init 126 = .ok (.aload_n 0, 1) := by decide +kernel
theorem dX12_init_127 : decode cX12_init 127 = .ok (.sipush 1024, 3) := by decide +kernel
theorem dX12_init_130 : decode cX12_init 130 = .ok (.newarray .int, 2) := by decide +kernel
theorem dX12_init_132 : decode cX12_init 132 = .ok (.putfield 57, 3) := by decide +kernel
theorem dX12_init_135 : decode cX12_init 135 = .ok (.aload_n 0, 1) := by decide +kernel
theorem dX12_init_136 : decode cX12_init 136 = .ok (.bipush 96, 2) := by decide +kernel
theorem dX12_init_138 : decode cX12_init 138 = .ok (.newarray .int, 2) := by decide +kernel
theorem dX12_init_140 : decode cX12_init 140 = .ok (.putfield 60, 3) := by decide +kernel
theorem dX12_init_143 : decode cX12_init 143 = .ok (.aload_n 0, 1) := by decide +kernel
theorem dX12_init_144 : decode cX12_init 144 = .ok (.sipush 256, 3) := by decide +kernel
theorem dX12_init_147 : decode cX12_init 147 = .ok (.newarray .int, 2) := by decide +kernel
theorem dX12_init_149 : decode cX12_init 149 = .ok (.putfield 63, 3) := by decide +kernel
theorem dX12_init_152 : decode cX12_init 152 = .ok (.aload_n 0, 1) := by decide +kernel
theorem dX12_init_153 : decode cX12_init 153 = .ok (.sipush 256, 3) := by decide +kernel
theorem dX12_init_156 : decode cX12_init 156 = .ok (.newarray .int, 2) := by decide +kernel
theorem dX12_init_158 : decode cX12_init 158 = .ok (.putfield 66, 3) := by decide +kernel
theorem dX12_init_161 : decode cX12_init 161 = .ok (.aload_n 0, 1) := by decide +kernel
theorem dX12_init_162 : decode cX12_init 162 = .ok (.sipush 256, 3) := by decide +kernel
theorem dX12_init_165 : decode cX12_init 165 = .ok (.newarray .int, 2) := by decide +kernel
theorem dX12_init_167 : decode cX12_init 167 = .ok (.putfield 69, 3) := by decide +kernel
theorem dX12_init_170 : decode cX12_init 170 = .ok (.aload_n 0, 1) := by decide +kernel
theorem dX12_init_171 : decode cX12_init 171 = .ok (.sipush 256, 3) := by decide +kernel
theorem dX12_init_174 : decode cX12_init 174 = .ok (.newarray .int, 2) := by decide +kernel
theorem dX12_init_176 : decode cX12_init 176 = .ok (.putfield 72, 3) := by decide +kernel
theorem dX12_init_179 : decode cX12_init 179 = .ok (.aload_n 0, 1) := by decide +kernel
theorem dX12_init_180 : decode cX12_init 180 = .ok (.sipush 256, 3) := by decide +kernel
theorem dX12_init_183 : decode cX12_init 183 = .ok (.newarray .int, 2) := by decide +kernel
theorem dX12_init_185 : decode cX12_init 185 = .ok (.putfield 75, 3) := by decide +kernel
theorem dX12_init_188 : decode cX12_init 188 = .ok (.aload_n 0, 1) := by decide +kernel
theorem dX12_init_189 : decode cX12_init 189 = .ok (.sipush 256, 3) := by decide +kernel
theorem dX12_init_192 : decode cX12_init 192 = .ok (.newarray .boolean, 2) := by decide +kernel
theorem dX12_init_194 : decode cX12_init 194 = .ok (.putfield 78, 3) := by decide +kernel
theorem dX12_init_197 : decode cX12_init 197 = .ok (.aload_n 0, 1) := by decide +kernel
theorem dX12_init_198 : decode cX12_init 198 = .ok (.bipush 16, 2) := by decide +kernel
theorem dX12_init_200 : decode cX12_init 200 = .ok (.newarray .int, 2) := by decide +kernel
theorem dX12_init_202 : decode cX12_init 202 = .ok (.putfield 82, 3) := by decide +kernel
theorem dX12_init_205 : decode cX12_init 205 = .ok (.aload_n 0, 1) := by decide +kernel
theorem dX12_init_206 : decode cX12_init 206 = .ok (.sipush 128, 3) := by decide +kernel
theorem dX12_init_209 : decode cX12_init 209 = .ok (.newarray .int, 2) := by decide +kernel
theorem dX12_init_211 : decode cX12_init 211 = .ok (.putfield 85, 3) := by decide +kernel
theorem dX12_init_214 : decode cX12_init 214 = .ok (.aload_n 0, 1) := by decide +kernel
theorem dX12_init_215 : decode cX12_init 215 = .ok (.sipush 128, 3) := by decide +kernel
theorem dX12_init_218 : decode cX12_init 218 = .ok (.newarray .int, 2) := by decide +kernel
theorem dX12_init_220 : decode cX12_init 220 = .ok (.putfield 88, 3) := by decide +kernel
theorem dX12_init_223 : decode cX12_init 223 = .ok (.aload_n 0, 1) := by decide +kernel
theorem dX12_init_224 : decode cX12_init 224 = .ok (.sipush 128, 3) := by decide +kernel
theorem dX12_init_227 : decode cX12_init 227 = .ok (.newarray .boolean, 2) := by decide +kernel
theorem dX12_init_229 : decode cX12_init 229 = .ok (.putfield 91, 3) := by decide +kernel
theorem dX12_init_232 : decode cX12_init 232 = .ok (.aload_n 0, 1) := by decide +kernel
theorem dX12_init_233 : decode cX12_init 233 = .ok (.sipush 128, 3) := by decide +kernel
theorem dX12_init_236 : decode cX12_init 236 = .ok (.newarray .int, 2) := by decide +kernel
theorem dX12_init_238 : decode cX12_init 238 = .ok (.putfield 94, 3) := by decide +kernel
theorem dX12_init_241 : decode cX12_init 241 = .ok (.aload_n 0, 1) := by decide +kernel
theorem dX12_init_242 : decode cX12_init 242 = .ok (.sipush 128, 3) := by decide +kernel
theorem dX12_init_245 : decode cX12_init 245 = .ok (.newarray .boolean, 2) := by decide +kernel
theorem dX12_init_247 : decode cX12_init 247 = .ok (.putfield 97, 3) := by decide +kernel
theorem dX12_init_250 : decode cX12_init 250 = .ok (.aload_n 0, 1) := by decide +kernel
theorem dX12_init_251 : decode cX12_init 251 = .ok (.sipush 256, 3) := by decide +kernel
theorem dX12_init_254 : decode cX12_init 254 = .ok (.newarray .boolean, 2) := by decide +kernel
theorem dX12_init_256 : decode cX12_init 256 = .ok (.putfield 100, 3) := by decide +kernel
theorem dX12_init_259 : decode cX12_init 259 = .ok (.aload_n 0, 1) := by decide +kernel
theorem dX12_init_260 : decode cX12_init 260 = .ok (.sipush 256, 3) := by decide +kernel
theorem dX12_init_263 : decode cX12_init 263 = .ok (.newarray .boolean, 2) := by decide +kernel
theorem dX12_init_265 : decode cX12_init 265 = .ok (.putfield 103, 3) := by decide +kernel
theorem dX12_init_268 : decode cX12_init 268 = .ok (.aload_n 0, 1) := by decide +kernel
theorem dX12_init_269 : decode cX12_init 269 = .ok (.sipush 256, 3) := by decide +kernel
theorem dX12_init_272 : decode cX12_init 272 = .ok (.newarray .int, 2) := by decide +kernel
theorem dX12_init_274 : decode cX12_init 274 = .ok (.putfield 106, 3) := by decide +kernel
theorem dX12_init_277 : decode cX12_init 277 = .ok (.aload_n 0, 1) := by decide +kernel
theorem dX12_init_278 : decode cX12_init 278 = .ok (.bipush 16, 2) := by decide +kernel
theorem dX12_init_280 : decode cX12_init 280 = .ok (.newarray .boolean, 2) := by decide +kernel
theorem dX12_init_282 : decode cX12_init 282 = .ok (.putfield 109, 3) := by decide +kernel
theorem dX12_init_285 : decode cX12_init 285 = .ok (.aload_n 0, 1) := by decide +kernel
theorem dX12_init_286 : decode cX12_init 286 = .ok (.bipush 80, 2) := by decide +kernel
theorem dX12_init_288 : decode cX12_init 288 = .ok (.newarray .int, 2) := by decide +kernel
theorem dX12_init_290 : decode cX12_init 290 = .ok (.putfield 112, 3) := by decide +kernel
theorem dX12_init_293 : decode cX12_init 293 = .ok (.aload_n 0, 1) := by decide +kernel
theorem dX12_init_294 : decode cX12_init 294 = .ok (.bipush 24, 2) := by decide +kernel
theorem dX12_init_296 : decode cX12_init 296 = .ok (.newarray .boolean, 2) := by decide +kernel
theorem dX12_init_298 : decode cX12_init 298 = .ok (.putfield 115, 3) := by decide +kernel
theorem dX12_init_301 : decode cX12_init 301 = .ok (.aload_n 0, 1) := by decide +kernel
theorem dX12_init_302 : decode cX12_init 302 = .ok (.bipush 24, 2) := by decide +kernel
theorem dX12_init_304 : decode cX12_init 304 = .ok (.newarray .int, 2) := by decide +kernel
theorem dX12_init_306 : decode cX12_init 306 = .ok (.putfield 118, 3) := by decide +kernel
theorem dX12_init_309 : decode cX12_init 309 = .ok (.aload_n 0, 1) := by decide +kernel
theorem dX12_init_310 : decode cX12_init 310 = .ok (.bipush 24, 2) := by decide +kernel
theorem dX12_init_312 : decode cX12_init 312 = .ok (.newarray .boolean, 2) := by decide +kernel
theorem dX12_init_314 : decode cX12_init 314 = .ok (.putfield 121, 3) := by decide +kernel
theorem dX12_init_317 : decode cX12_init 317 = .ok (.aload_n 0, 1) := by decide +kernel
theorem dX12_init_318 : decode cX12_init 318 = .ok (.bipush 24, 2) := by decide +kernel
theorem dX12_init_320 : decode cX12_init 320 = .ok (.newarray .int, 2) := by decide +kernel
theorem dX12_init_322 : decode cX12_init 322 = .ok (.putfield 124, 3) := by decide +kernel
theorem dX12_init_325 : decode cX12_init 325 = .ok (.aload_n 0, 1) := by decide +kernel
theorem dX12_init_326 : decode cX12_init 326 = .ok (.bipush 24, 2) := by decide +kernel
theorem dX12_init_328 : decode cX12_init 328 = .ok (.newarray .int, 2) := by decide +kernel
theorem dX12_init_330 : decode cX12_init 330 = .ok (.putfield 127, 3) := by decide +kernel
theorem dX12_init_333 : decode cX12_init 333 = .ok (.aload_n 0, 1) := by decide +kernel
theorem dX12_init_334 : decode cX12_init 334 = .ok (.bipush 96, 2) := by decide +kernel
theorem dX12_init_336 : decode cX12_init 336 = .ok (.newarray .int, 2) := by decide +kernel
theorem dX12_init_338 : decode cX12_init 338 = .ok (.putfield 130, 3) := by decide +kernel
theorem dX12_init_341 : decode cX12_init 341 = .ok (.aload_n 0, 1) := by decide +kernel
theorem dX12_init_342 : decode cX12_init 342 = .ok (.bipush 24, 2) := by decide +kernel
theorem dX12_init_344 : decode cX12_init 344 = .ok (.newarray .int, 2) := by decide +kernel
theorem dX12_init_346 : decode cX12_init 346 = .ok (.putfield 133, 3) := by decide +kernel
theorem dX12_init_349 : decode cX12_init 349 = .ok (.aload_n 0, 1) := by decide +kernel
theorem dX12_init_350 : decode cX12_init 350 = .ok (.bipush 24, 2) := by decide +kernel
theorem dX12_init_352 : decode cX12_init 352 = .ok (.newarray .int, 2) := by decide +kernel
theorem dX12_init_354 : decode cX12_init 354 = .ok (.putfield 136, 3) := by decide +kernel
theorem dX12_init_357 : decode cX12_init 357 = .ok (.aload_n 0, 1) := by decide +kernel
theorem dX12_init_358 : decode cX12_init 358 = .ok (.bipush 24, 2) := by decide +kernel
theorem dX12_init_360 : decode cX12_init 360 = .ok (.newarray .int, 2) := by decide +kernel
theorem dX12_init_362 : decode cX12_init 362 = .ok (.putfield 139, 3) := by decide +kernel
theorem dX12_init_365 : decode cX12_init 365 = .ok (.aload_n 0, 1) := by decide +kernel
theorem dX12_init_366 : decode cX12_init 366 = .ok (.ldc 142, 2) := by decide +kernel
theorem dX12_init_368 : decode cX12_init 368 = .ok (.newarray .byte, 2) := by decide +kernel
theorem dX12_init_370 : decode cX12_init 370 = .ok (.putfield 143, 3) := by decide +kernel
theorem dX12_init_373 : decode cX12_init 373 = .ok (.aload_n 0, 1) := by decide +kernel
theorem dX12_init_374 : decode cX12_init 374 = .ok (.ldc 142, 2) := by decide +kernel
theorem dX12_init_376 : decode cX12_init 376 = .ok (.newarray .byte, 2) := by decide +kernel
theorem dX12_init_378 : decode cX12_init 378 = .ok (.putfield 146, 3) := by decide +kernel
theorem dX12_init_381 : decode cX12_init 381 = .ok (.aload_n 0, 1) := by decide +kernel
theorem dX12_init_382 : decode cX12_init 382 = .ok (.sipush 256, 3) := by decide +kernel
theorem dX12_init_385 : decode cX12_init 385 = .ok (.newarray .int, 2) := by decide +kernel
theorem dX12_init_387 : decode cX12_init 387 = .ok (.putfield 149, 3) := by decide +kernel
theorem dX12_init_390 : decode cX12_init 390 = .ok (.aload_n 0, 1) := by decide +kernel
theorem dX12_init_391 : decode cX12_init 391 = .ok (.sipush 256, 3) := by decide +kernel
theorem dX12_init_394 : decode cX12_init 394 = .ok (.newarray .int, 2) := by decide +kernel
theorem dX12_init_396 : decode cX12_init 396 = .ok (.putfield 152, 3) := by decide +kernel
theorem dX12_init_399 : decode cX12_init 399 = .ok (.aload_n 0, 1) := by decide +kernel
theorem dX12_init_400 : decode cX12_init 400 = .ok (.sipush 256, 3) := by decide +kernel
theorem dX12_init_403 : decode cX12_init 403 = .ok (.newarray .int, 2) := by decide +kernel
theorem dX12_init_405 : decode cX12_init 405 = .ok (.putfield 155, 3) := by decide +kernel
theorem dX12_init_408 : decode cX12_init 408 = .ok (.aload_n 0, 1) := by decide +kernel
theorem dX12_init_409 : decode cX12_init 409 = .ok (.sipush 256, 3) := by decide +kernel
theorem dX12_init_412 : decode cX12_init 412 = .ok (.newarray .boolean, 2) := by decide +kernel
theorem dX12_init_414 : decode cX12_init 414 = .ok (.putfield 158, 3) := by decide +kernel
theorem dX12_init_417 : decode cX12_init 417 = .ok (.aload_n 0, 1) := by decide +kernel
theorem dX12_init_418 : decode cX12_init 418 = .ok (.sipush 256, 3) := by decide +kernel
theorem dX12_init_421 : decode cX12_init 421 = .ok (.newarray .int, 2) := by decide +kernel
theorem dX12_init_423 : decode cX12_init 423 = .ok (.putfield 161, 3) := by decide +kernel
theorem dX12_init_426 : decode cX12_init 426 = .ok (.aload_n 0, 1) := by decide +kernel
theorem dX12_init_427 : decode cX12_init 427 = .ok (.sipush 256, 3) := by decide +kernel
theorem dX12_init_430 : decode cX12_init 430 = .ok (.newarray .int, 2) := by decide +kernel
theorem dX12_init_432 : decode cX12_init 432 = .ok (.putfield 164, 3) := by decide +kernel
theorem dX12_init_435 : decode cX12_init 435 = .ok (.aload_n 0, 1) := by decide +kernel
theorem dX12_init_436 : decode cX12_init 436 = .ok (.sipush 256, 3) := by decide +kernel
theorem dX12_init_439 : decode cX12_init 439 = .ok (.newarray .int, 2) := by decide +kernel
theorem dX12_init_441 : decode cX12_init 441 = .ok (.putfield 167, 3) := by decide +kernel
theorem dX12_init_444 : decode cX12_init 444 = .ok (.aload_n 0, 1) := by decide +kernel
theorem dX12_init_445 : decode cX12_init 445 = .ok (.sipush 256, 3) := by decide +kernel
theorem dX12_init_448 : decode cX12_init 448 = .ok (.newarray .int, 2) := by decide +kernel
theorem dX12_init_450 : decode cX12_init 450 = .ok (.putfield 170, 3) := by decide +kernel
theorem dX12_init_453 : decode cX12_init 453 = .ok (.aload_n 0, 1) := by decide +kernel
theorem dX12_init_454 : decode cX12_init 454 = .ok (.sipush 256, 3) := by decide +kernel
theorem dX12_init_457 : decode cX12_init 457 = .ok (.newarray .boolean, 2) := by decide +kernel
theorem dX12_init_459 : decode cX12_init 459 = .ok (.putfield 173, 3) := by decide +kernel
theorem dX12_init_462 : decode cX12_init 462 = .ok (.aload_n 0, 1) := by decide +kernel
theorem dX12_init_463 : decode cX12_init 463 = .ok (.sipush 256, 3) := by decide +kernel
theorem dX12_init_466 : decode cX12_init 466 = .ok (.newarray .int, 2) := by decide +kernel
theorem dX12_init_468 : decode cX12_init 468 = .ok (.putfield 176, 3) := by decide +kernel
theorem dX12_init_471 : decode cX12_init 471 = .ok (.aload_n 0, 1) := by decide +kernel
theorem dX12_init_472 : decode cX12_init 472 = .ok (.sipush 8192, 3) := by decide +kernel
theorem dX12_init_475 : decode cX12_init 475 = .ok (.newarray .int, 2) := by decide +kernel
theorem dX12_init_477 : decode cX12_init 477 = .ok (.putfield 179, 3) := by decide +kernel
theorem dX12_init_480 : decode cX12_init 480 = .ok (.aload_n 0, 1) := by decide +kernel
theorem dX12_init_481 : decode cX12_init 481 = .ok (.sipush 256, 3) := by decide +kernel
theorem dX12_init_484 : decode cX12_init 484 = .ok (.newarray .int, 2) := by decide +kernel
theorem dX12_init_486 : decode cX12_init 486 = .ok (.putfield 182, 3) := by decide +kernel
theorem dX12_init_489 : decode cX12_init 489 = .ok (.aload_n 0, 1) := by decide +kernel
theorem dX12_init_490 : decode cX12_init 490 = .ok (.sipush 256, 3) := by decide +kernel
theorem dX12_init_493 : decode cX12_init 493 = .ok (.newarray .int, 2) := by decide +kernel
theorem dX12_init_495 : decode cX12_init 495 = .ok (.putfield 185, 3) := by decide +kernel
theorem dX12_init_498 : decode cX12_init 498 = .ok (.aload_n 0, 1) := by decide +kernel
theorem dX12_init_499 : decode cX12_init 499 = .ok (.sipush 256, 3) := by decide +kernel
theorem dX12_init_502 : decode cX12_init 502 = .ok (.newarray .int, 2) := by decide +kernel
theorem dX12_init_504 : decode cX12_init 504 = .ok (.putfield 188, 3) := by decide +kernel
theorem dX12_init_507 : decode cX12_init 507 = .ok (.aload_n 0, 1) := by decide +kernel
theorem dX12_init_508 : decode cX12_init 508 = .ok (.sipush 256, 3) := by decide +kernel
theorem dX12_init_511 : decode cX12_init 511 = .ok (.newarray .int, 2) := by decide +kernel
theorem dX12_init_513 : decode cX12_init 513 = .ok (.putfield 191, 3) := by decide +kernel
theorem dX12_init_516 : decode cX12_init 516 = .ok (.aload_n 0, 1) := by decide +kernel
theorem dX12_init_517 : decode cX12_init 517 = .ok (.sipush 256, 3) := by decide +kernel
theorem dX12_init_520 : decode cX12_init 520 = .ok (.newarray .int, 2) := by decide +kernel
theorem dX12_init_522 : decode cX12_init 522 = .ok (.putfield 194, 3) := by decide +kernel
theorem dX12_init_525 : decode cX12_init 525 = .ok (.aload_n 0, 1) := by decide +kernel
theorem dX12_init_526 : decode cX12_init 526 = .ok (.bipush 16, 2) := by decide +kernel
theorem dX12_init_528 : decode cX12_init 528 = .ok (.newarray .int, 2) := by decide +kernel
theorem dX12_init_530 : decode cX12_init 530 = .ok (.putfield 197, 3) := by decide +kernel
theorem dX12_init_533 : decode cX12_init 533 = .ok (.aload_n 0, 1) := by decide +kernel
theorem dX12_init_534 : decode cX12_init 534 = .ok (.bipush 16, 2) := by decide +kernel
theorem dX12_init_536 : decode cX12_init 536 = .ok (.newarray .int, 2) := by decide +kernel
theorem dX12_init_538 : decode cX12_init 538 = .ok (.putfield 200, 3) := by decide +kernel
theorem dX12_init_541 : decode cX12_init 541 = .ok (.aload_n 0, 1) := by decide +kernel
theorem dX12_init_542 : decode cX12_init 542 = .ok (.bipush 16, 2) := by decide +kernel
theorem dX12_init_544 : decode cX12_init 544 = .ok (.newarray .int, 2) := by decide +kernel
theorem dX12_init_546 : decode cX12_init 546 = .ok (.putfield 203, 3) := by decide +kernel
theorem dX12_init_549 : decode cX12_init 549 = .ok (.aload_n 0, 1) := by decide +kernel
theorem dX12_init_550 : decode cX12_init 550 = .ok (.bipush 16, 2) := by decide +kernel
theorem dX12_init_552 : decode cX12_init 552 = .ok (.newarray .int, 2) := by decide +kernel
theorem dX12_init_554 : decode cX12_init 554 = .ok (.putfield 206, 3) := by decide +kernel
theorem dX12_init_557 : decode cX12_init 557 = .ok (.aload_n 0, 1) := by decide +kernel
theorem dX12_init_558 : decode cX12_init 558 = .ok (.bipush 16, 2) := by decide +kernel
theorem dX12_init_560 : decode cX12_init 560 = .ok (.newarray .int, 2) := by decide +kernel
theorem dX12_init_562 : decode cX12_init 562 = .ok (.putfield 209, 3) := by decide +kernel
theorem dX12_init_565 : decode cX12_init 565 = .ok (.aload_n 0, 1) := by decide +kernel
theorem dX12_init_566 : decode cX12_init 566 = .ok (.bipush 16, 2) := by decide +kernel
theorem dX12_init_568 : decode cX12_init 568 = .ok (.newarray .int, 2) := by decide +kernel
theorem dX12_init_570 : decode cX12_init 570 = .ok (.putfield 212, 3) := by decide +kernel
theorem dX12_init_573 : decode cX12_init 573 = .ok (.aload_n 0, 1) := by decide +kernel
theorem dX12_init_574 : decode cX12_init 574 = .ok (.bipush 16, 2) := by decide +kernel
theorem dX12_init_576 : decode cX12_init 576 = .ok (.newarray .int, 2) := by decide +kernel
theorem dX12_init_578 : decode cX12_init 578 = .ok (.putfield 215, 3) := by decide +kernel
theorem dX12_init_581 : decode cX12_init 581 = .ok (.aload_n 0, 1) := by decide +kernel
theorem dX12_init_582 : decode cX12_init 582 = .ok (.bipush 16, 2) := by decide +kernel
theorem dX12_init_584 : decode cX12_init 584 = .ok (.newarray .int, 2) := by decide +kernel
theorem dX12_init_586 : decode cX12_init 586 = .ok (.putfield 218, 3) := by decide +kernel
theorem dX12_init_589 : decode cX12_init 589 = .ok (.aload_n 0, 1) := by decide +kernel
theorem dX12_init_590 : decode cX12_init 590 = .ok (.bipush 16, 2) := by decide +kernel
theorem dX12_init_592 : decode cX12_init 592 = .ok (.newarray .int, 2) := by decide +kernel
theorem dX12_init_594 : decode cX12_init 594 = .ok (.putfield 221, 3) := by decide +kernel
theorem dX12_init_597 : decode cX12_init 597 = .ok (.aload_n 0, 1) := by decide +kernel
theorem dX12_init_598 : decode cX12_init 598 = .ok (.sipush 128, 3) := by decide +kernel
theorem dX12_init_601 : decode cX12_init 601 = .ok (.newarray .int, 2) := by decide +kernel
theorem dX12_init_603 : decode cX12_init 603 = .ok (.putfield 224, 3) := by decide +kernel
theorem dX12_init_606 : decode cX12_init 606 = .ok (.aload_n 0, 1) := by decide +kernel
theorem dX12_init_607 : decode cX12_init 607 = .ok (.sipush 128, 3) := by decide +kernel
theorem dX12_init_610 : decode cX12_init 610 = .ok (.newarray .boolean, 2) := by decide +kernel
theorem dX12_init_612 : decode cX12_init 612 = .ok (.putfield 227, 3) := by decide +kernel
theorem dX12_init_615 : decode cX12_init 615 = .ok (.aload_n 0, 1) := by decide +kernel
theorem dX12_init_616 : decode cX12_init 616 = .ok (.sipush 128, 3) := by decide +kernel
theorem dX12_init_619 : decode cX12_init 619 = .ok (.newarray .int, 2) := by decide +kernel
theorem dX12_init_621 : decode cX12_init 621 = .ok (.putfield 230, 3) := by decide +kernel
theorem dX12_init_624 : decode cX12_init 624 = .ok (.aload_n 0, 1) := by decide +kernel
theorem dX12_init_625 : decode cX12_init 625 = .ok (.sipush 2048, 3) := by decide +kernel
theorem dX12_init_628 : decode cX12_init 628 = .ok (.newarray .int, 2) := by decide +kernel
theorem dX12_init_630 : decode cX12_init 630 = .ok (.putfield 233, 3) := by decide +kernel
theorem dX12_init_633 : decode cX12_init 633 = .ok (.aload_n 0, 1) := by decide +kernel
theorem dX12_init_634 : decode cX12_init 634 = .ok (.sipush 128, 3) := by decide +kernel
theorem dX12_init_637 : decode cX12_init 637 = .ok (.newarray .boolean, 2) := by decide +kernel
theorem dX12_init_639 : decode cX12_init 639 = .ok (.putfield 236, 3) := by decide +kernel
theorem dX12_init_642 : decode cX12_init 642 = .ok (.aload_n 0, 1) := by decide +kernel
theorem dX12_init_643 : decode cX12_init 643 = .ok (.sipush 128, 3) := by decide +kernel
theorem dX12_init_646 : decode cX12_init 646 = .ok (.newarray .int, 2) := by decide +kernel
theorem dX12_init_648 : decode cX12_init 648 = .ok (.putfield 239, 3) := by decide +kernel
theorem dX12_init_651 : decode cX12_init 651 = .ok (.aload_n 0, 1) := by decide +kernel
theorem dX12_init_652 : decode cX12_init 652 = .ok (.bipush 24, 2) := by decide +kernel
theorem dX12_init_654 : decode cX12_init 654 = .ok (.newarray .boolean, 2) := by decide +kernel
theorem dX12_init_656 : decode cX12_init 656 = .ok (.putfield 242, 3) := by decide +kernel
theorem dX12_init_659 : decode cX12_init 659 = .ok (.aload_n 0, 1) := by decide +kernel
theorem dX12_init_660 : decode cX12_init 660 = .ok (.bipush 24, 2) := by decide +kernel
theorem dX12_init_662 : decode cX12_init 662 = .ok (.newarray .int, 2) := by decide +kernel
theorem dX12_init_664 : decode cX12_init 664 = .ok (.putfield 245, 3) := by decide +kernel
theorem dX12_init_667 : decode cX12_init 667 = .ok (.aload_n 0, 1) := by decide +kernel
theorem dX12_init_668 : decode cX12_init 668 = .ok (.bipush 24, 2) := by decide +kernel
theorem dX12_init_670 : decode cX12_init 670 = .ok (.newarray .int, 2) := by decide +kernel
theorem dX12_init_672 : decode cX12_init 672 = .ok (.putfield 248, 3) := by decide +kernel
theorem dX12_init_675 : decode cX12_init 675 = .ok (.aload_n 0, 1) := by decide +kernel
theorem dX12_init_676 : decode cX12_init 676 = .ok (.bipush 24, 2) := by decide +kernel
theorem dX12_init_678 : decode cX12_init 678 = .ok (.newarray .int, 2) := by decide +kernel
theorem dX12_init_680 : decode cX12_init 680 = .ok (.putfield 251, 3) := by decide +kernel
theorem dX12_init_683 : decode cX12_init 683 = .ok (.aload_n 0, 1) := by decide +kernel
theorem dX12_init_684 : decode cX12_init 684 = .ok (.sipush 768, 3) := by decide +kernel
theorem dX12_init_687 : decode cX12_init 687 = .ok (.newarray .int, 2) := by decide +kernel
theorem dX12_init_689 : decode cX12_init 689 = .ok (.putfield 254, 3) := by decide +kernel
theorem dX12_init_692 : decode cX12_init 692 = .ok (.aload_n 0, 1) := by decide +kernel
theorem dX12_init_693 : decode cX12_init 693 = .ok (.bipush 24, 2) := by decide +kernel
theorem dX12_init_695 : decode cX12_init 695 = .ok (.newarray .int, 2) := by decide +kernel
theorem dX12_init_697 : decode cX12_init 697 = .ok (.putfield 257, 3) := by decide +kernel
theorem dX12_init_700 : decode cX12_init 700 = .ok (.aload_n 0, 1) := by decide +kernel
theorem dX12_init_701 : decode cX12_init 701 = .ok (.bipush 24, 2) := by decide +kernel
theorem dX12_init_703 : decode cX12_init 703 = .ok (.newarray .int, 2) := by decide +kernel
theorem dX12_init_705 : decode cX12_init 705 = .ok (.putfield 260, 3) := by decide +kernel
theorem dX12_init_708 : decode cX12_init 708 = .ok (.aload_n 0, 1) := by decide +kernel
theorem dX12_init_709 : decode cX12_init 709 = .ok (.bipush 24, 2) := by decide +kernel
theorem dX12_init_711 : decode cX12_init 711 = .ok (.newarray .int, 2) := by decide +kernel
theorem dX12_init_713 : decode cX12_init 713 = .ok (.putfield 263, 3) := by decide +kernel
theorem dX12_init_716 : decode cX12_init 716 = .ok (.aload_n 0, 1) := by decide +kernel
theorem dX12_init_717 : decode cX12_init 717 = .ok (.sipush 1440, 3) := by decide +kernel
theorem dX12_init_720 : decode cX12_init 720 = .ok (.newarray .int, 2) := by decide +kernel
theorem dX12_init_722 : decode cX12_init 722 = .ok (.putfield 266, 3) := by decide +kernel
theorem dX12_init_725 : decode cX12_init 725 = .ok (.aload_n 0, 1) := by decide +kernel
theorem dX12_init_726 : decode cX12_init 726 = .ok (.sipush 1440, 3) := by decide +kernel
theorem dX12_init_729 : decode cX12_init 729 = .ok (.newarray .int, 2) := by decide +kernel
theorem dX12_init_731 : decode cX12_init 731 = .ok (.putfield 269, 3) := by decide +kernel
theorem dX12_init_734 : decode cX12_init 734 = .ok (.aload_n 0, 1) := by decide +kernel
theorem dX12_init_735 : decode cX12_init 735 = .ok (.sipush 900, 3) := by decide +kernel
theorem dX12_init_738 : decode cX12_init 738 = .ok (.newarray .int, 2) := by decide +kernel
theorem dX12_init_740 : decode cX12_init 740 = .ok (.putfield 272, 3) := by decide +kernel
theorem dX12_init_743 : decode cX12_init 743 = .ok (.aload_n 0, 1) := by decide +kernel
theorem dX12_init_744 : decode cX12_init 744 = .ok (.sipush 384, 3) := by decide +kernel
theorem dX12_init_747 : decode cX12_init 747 = .ok (.newarray .int, 2) := by decide +kernel
theorem dX12_init_749 : decode cX12_init 749 = .ok (.putfield 275, 3) := by decide +kernel
theorem dX12_init_752 : decode cX12_init 752 = .ok (.return_, 1) := by decide +kernel
def wm_X12_init (bc bs : Nat) (S : q_S) (a0 : Nat) (Q : Option Value → q_S → Prop) : Prop := (0 + 1 ≤ bc ∧ 0 + 20 ≤ bs) ∧ (∀ b1_ : Nat, q_K S b1_ = 0 → (q_K (qs_R S 20 20 b1_) a0 = 13 ∧ (((0 + 1) + 1 ≤ bc ∧ (0 + 20) + 4000 ≤ bs) ∧ (∀ b7_ : Nat, q_K (qs_P (qs_R S 20 20 b1_) 2401 a0 (some b1_)) b7_ = 0 → (∀ S12_ : q_S, S12_ = (qs_R (qs_P (qs_R S 20 20 b1_) 2401 a0 (some b1_)) 20 4000 b7_) → ((((0 + 1) + 1) + 1 ≤ bc ∧ ((0 + 20) + 4000) + 14000 ≤ bs) ∧ (∀ b13_ : Nat, q_K (qs_I (qs_P S12_ 2402 a0 (some b7_)) 2412 a0 (-1 : Int32)) b13_ = 0 → (∀ S18_ : q_S, S18_ = (qs_R (qs_I (qs_P S12_ 2402 a0 (some b7_)) 2412 a0 (-1 : Int32)) 20 14000 b13_) → (((((0 + 1) + 1) + 1) + 1 ≤ bc ∧ (((0 + 20) + 4000) + 14000) + 16 ≤ bs) ∧ (∀ b19_ : Nat, q_K (qs_P S18_ 2421 a0 (some b13_)) b19_ = 0 → (∀ S24_ : q_S, S24_ = (qs_P (qs_R (qs_P S18_ 2421 a0 (some b13_)) 21 16 b19_) 2423 a0 (some b19_)) → ((((((0 + 1) + 1) + 1) + 1) + 1 ≤ bc ∧ ((((0 + 20) + 4000) + 14000) + 16) + 16 ≤ bs) ∧ (∀ b25_ : Nat, q_K S24_ b25_ = 0 → (((((((0 + 1) + 1) + 1) + 1) + 1) + 1 ≤ bc ∧ (((((0 + 20) + 4000) + 14000) + 16) + 16) + 16 ≤ bs) ∧ (∀ b30_ : Nat, q_K (qs_P (qs_R S24_ 21 16 b25_) 2424 a0 (some b25_)) b30_ = 0 → (∀ S35_ : q_S, S35_ = (qs_R (qs_P (qs_R S24_ 21 16 b25_) 2424 a0 (some b25_)) 21 16 b30_) → ((((((((0 + 1) + 1) + 1) + 1) + 1) + 1) + 1 ≤ bc ∧ ((((((0 + 20) + 4000) + 14000) + 16) + 16) + 16) + 16 ≤ bs) ∧ (∀ b36_ : Nat, q_K (qs_P S35_ 2425 a0 (some b30_)) b36_ = 0 → (∀ S41_ : q_S, S41_ = (qs_P (qs_R (qs_P S35_ 2425 a0 (some b30_)) 21 16 b36_) 2426 a0 (some b36_)) → (((((((((0 + 1) + 1) + 1) + 1) + 1) + 1) + 1) + 1 ≤ bc ∧ (((((((0 + 20) + 4000) + 14000) + 16) + 16) + 16) + 16) + 96 ≤ bs) ∧ (∀ b42_ : Nat, q_K S41_ b42_ = 0 → ((((((((((0 + 1) + 1) + 1) + 1) + 1) + 1) + 1) + 1) + 1 ≤ bc ∧ ((((((((0 + 20) + 4000) + 14000) + 16) + 16) + 16) + 16) + 96) + 96 ≤ bs) ∧ (∀ b47_ : Nat, q_K (qs_P (qs_R S41_ 21 96 b42_) 2427 a0 (some b42_)) b47_ = 0 → (∀ S52_ : q_S, S52_ = (qs_R (qs_P (qs_R S41_ 21 96 b42_) 2427 a0 (some b42_)) 21 96 b47_) → (((((((((((0 + 1) + 1) + 1) + 1) + 1) + 1) + 1) + 1) + 1) + 1 ≤ bc ∧ (((((((((0 + 20) + 4000) + 14000) + 16) + 16) + 16) + 16) + 96) + 96) + 96 ≤ bs) ∧ (∀ b53_ : Nat, q_K (qs_P S52_ 2428 a0 (some b47_)) b53_ = 0 → (∀ S58_ : q_S, S58_ = (qs_P (qs_R (qs_P S52_ 2428 a0 (some b47_)) 21 96 b53_) 2429 a0 (some b53_)) → ((((((((((((0 + 1) + 1) + 1) + 1) + 1) + 1) + 1) + 1) + 1) + 1) + 1 ≤ bc ∧ ((((((((((0 + 20) + 4000) + 14000) + 16) + 16) + 16) + 16) + 96) + 96) + 96) + 16 ≤ bs) ∧ (∀ b59_ : Nat, q_K S58_ b59_ = 0 → (((((((((((((0 + 1) + 1) + 1) + 1) + 1) + 1) + 1) + 1) + 1) + 1) + 1) + 1 ≤ bc ∧ (((((((((((0 + 20) + 4000) + 14000) + 16) + 16) + 16) + 16) + 96) + 96) + 96) + 16) + 1024 ≤ bs) ∧ (∀ b64_ : Nat, q_K (qs_P (qs_R S58_ 21 16 b59_) 2430 a0 (some b59_)) b64_ = 0 → (∀ S69_ : q_S, S69_ = (qs_R (qs_P (qs_R S58_ 21 16 b59_) 2430 a0 (some b59_)) 21 1024 b64_) → ((((((((((((((0 + 1) + 1) + 1) + 1) + 1) + 1) + 1) + 1) + 1) + 1) + 1) + 1) + 1 ≤ bc ∧ ((((((((((((0 + 20) + 4000) + 14000) + 16) + 16) + 16) + 16) + 96) + 96) + 96) + 16) + 1024) + 1024 ≤ bs) ∧ (∀ b70_ : Nat, q_K (qs_P S69_ 2431 a0 (some b64_)) b70_ = 0 → (∀ S75_ : q_S, S75_ = (qs_P (qs_R (qs_P S69_ 2431 a0 (some b64_)) 21 1024 b70_) 2432 a0 (some b70_)) → (((((((((((((((0 + 1) + 1) + 1) + 1) + 1) + 1) + 1) + 1) + 1) + 1) + 1) + 1) + 1) + 1 ≤ bc ∧ (((((((((((((0 + 20) + 4000) + 14000) + 16) + 16) + 16) + 16) + 96) + 96) + 96) + 16) + 1024) + 1024) + 1024 ≤ bs) ∧ (∀ b76_ : Nat, q_K S75_ b76_ = 0 → ((((((((((((((((0 + 1) + 1) + 1) + 1) + 1) + 1) + 1) + 1) + 1) + 1) + 1) + 1) + 1) + 1) + 1 ≤ bc ∧ ((((((((((((((0 + 20) + 4000) + 14000) + 16) + 16) + 16) + 16) + 96) + 96) + 96) + 16) + 1024) + 1024) + 1024) + 1024 ≤ bs) ∧ (∀ b81_ : Nat, q_K (qs_P (qs_R S75_ 21 1024 b76_) 2433 a0 (some b76_)) b81_ = 0 → (∀ S86_ : q_S, S86_ = (qs_R (qs_P (qs_R S75_ 21 1024 b76_) 2433 a0 (some b76_)) 21 1024 b81_) → (((((((((((((((((0 + 1) + 1) + 1) + 1) + 1) + 1) + 1) + 1) + 1) + 1) + 1) + 1) + 1) + 1) + 1) + 1 ≤ bc ∧ (((((((((((((((0 + 20) + 4000) + 14000) + 16) + 16) + 16) + 16) + 96) + 96) + 96) + 16) + 1024) + 1024) + 1024) + 1024) + 96 ≤ bs) ∧ (∀ b87_ : Nat, q_K (qs_P S86_ 2434 a0 (some b81_)) b87_ = 0 → (∀ S92_ : q_S, S92_ = (qs_P (qs_R (qs_P S86_ 2434 a0 (some b81_)) 21 96 b87_) 2435 a0 (some b87_)) → ((((((((((((((((((0 + 1) + 1) + 1) + 1) + 1) + 1) + 1) + 1) + 1) + 1) + 1) + 1) + 1) + 1) + 1) + 1) + 1 ≤ bc ∧ ((((((((((((((((0 + 20) + 4000) + 14000) + 16) + 16) + 16) + 16) + 96) + 96) + 96) + 16) + 1024) + 1024) + 1024) + 1024) + 96) + 256 ≤ bs) ∧ (∀ b93_ : Nat, q_K S92_ b93_ = 0 → (((((((((((((((((((0 + 1) + 1) + 1) + 1) + 1) + 1) + 1) + 1) + 1) + 1) + 1) + 1) + 1) + 1) + 1) + 1) + 1) + 1 ≤ bc ∧ (((((((((((((((((0 + 20) + 4000) + 14000) + 16) + 16) + 16) + 16) + 96) + 96) + 96) + 16) + 1024) + 1024) + 1024) + 1024) + 96) + 256) + 256 ≤ bs) ∧ (∀ b98_ : Nat, q_K (qs_P (qs_R S92_ 21 256 b93_) 2436 a0 (some b93_)) b98_ = 0 → (∀ S103_ : q_S, S103_ = (qs_R (qs_P (qs_R S92_ 21 256 b93_) 2436 a0 (some b93_)) 21 256 b98_) → ((((((((((((((((((((0 + 1) + 1) + 1) + 1) + 1) + 1) + 1) + 1) + 1) + 1) + 1) + 1) + 1) + 1) + 1) + 1) + 1) + 1) + 1 ≤ bc ∧ ((((((((((((((((((0 + 20) + 4000) + 14000) + 16) + 16) + 16) + 16) + 96) + 96) + 96) + 16) + 1024) + 1024) + 1024) + 1024) + 96) + 256) + 256) + 256 ≤ bs) ∧ (∀ b104_ : Nat, q_K (qs_P S103_ 2437 a0 (some b98_)) b104_ = 0 → (∀ S109_ : q_S, S109_ = (qs_P (qs_R (qs_P S103_ 2437 a0 (some b98_)) 21 256 b104_) 2438 a0 (some b104_)) → (((((((((((((((((((((0 + 1) + 1) + 1) + 1) + 1) + 1) + 1) + 1) + 1) + 1) + 1) + 1) + 1) + 1) + 1) + 1) + 1) + 1) + 1) + 1 ≤ bc ∧ (((((((((((((((((((0 + 20) + 4000) + 14000) + 16) + 16) + 16) + 16) + 96) + 96) + 96) + 16) + 1024) + 1024) + 1024) + 1024) + 96) + 256) + 256) + 256) + 256 ≤ bs) ∧ (∀ b110_ : Nat, q_K S109_ b110_ = 0 → ((((((((((((((((((((((0 + 1) + 1) + 1) + 1) + 1) + 1) + 1) + 1) + 1) + 1) + 1) + 1) + 1) + 1) + 1) + 1) + 1) + 1) + 1) + 1) + 1 ≤ bc ∧ ((((((((((((((((((((0 + 20) + 4000) + 14000) + 16) + 16) + 16) + 16) + 96) + 96) + 96) + 16) + 1024) + 1024) + 1024) + 1024) + 96) + 256) + 256) + 256) + 256) + 256 ≤ bs) ∧ (∀ b115_ : Nat, q_K (qs_P (qs_R S109_ 21 256 b110_) 2439 a0 (some b110_)) b115_ = 0 → (∀ S120_ : q_S, S120_ = (qs_R (qs_P (qs_R S109_ 21 256 b110_) 2439 a0 (some b110_)) 21 256 b115_) → (((((((((((((((((((((((0 + 1) + 1) + 1) + 1) + 1) + 1) + 1) + 1) + 1) + 1) + 1) + 1) + 1) + 1) + 1) + 1) + 1) + 1) + 1) + 1) + 1) + 1 ≤ bc ∧ (((((((((((((((((((((0 + 20) + 4000) + 14000) + 16) + 16) + 16) + 16) + 96) + 96) + 96) + 16) + 1024) + 1024) + 1024) + 1024) + 96) + 256) + 256) + 256) + 256) + 256) + 256 ≤ bs) ∧ (∀ b121_ : Nat, q_K (qs_P S120_ 2440 a0 (some b115_)) b121_ = 0 → (∀ S126_ : q_S, S126_ = (qs_P (qs_R (qs_P S120_ 2440 a0 (some b115_)) 22 256 b121_) 2441 a0 (some b121_)) → ((((((((((((((((((((((((0 + 1) + 1) + 1) + 1) + 1) + 1) + 1) + 1) + 1) + 1) + 1) + 1) + 1) + 1) + 1) + 1) + 1) + 1) + 1) + 1) + 1) + 1) + 1 ≤ bc ∧ ((((((((((((((((((((((0 + 20) + 4000) + 14000) + 16) + 16) + 16) + 16) + 96) + 96) + 96) + 16) + 1024) + 1024) + 1024) + 1024) + 96) + 256) + 256) + 256) + 256) + 256) + 256) + 16 ≤ bs) ∧ (∀ b127_ : Nat, q_K S126_ b127_ = 0 → (((((((((((((((((((((((((0 + 1) + 1) + 1) + 1) + 1) + 1) + 1) + 1) + 1) + 1) + 1) + 1) + 1) + 1) + 1) + 1) + 1) + 1) + 1) + 1) + 1) + 1) + 1) + 1 ≤ bc ∧ (((((((((((((((((((((((0 + 20) + 4000) + 14000) + 16) + 16) + 16) + 16) + 96) + 96) + 96) + 16) + 1024) + 1024) + 1024) + 1024) + 96) + 256) + 256) + 256) + 256) + 256) + 256) + 16) + 128 ≤ bs) ∧ (∀ b132_ : Nat, q_K (qs_P (qs_R S126_ 21 16 b127_) 2442 a0 (some b127_)) b132_ = 0 → (∀ S137_ : q_S, S137_ = (qs_R (qs_P (qs_R S126_ 21 16 b127_) 2442 a0 (some b127_)) 21 128 b132_) → ((((((((((((((((((((((((((0 + 1) + 1) + 1) + 1) + 1) + 1) + 1) + 1) + 1) + 1) + 1) + 1) + 1) + 1) + 1) + 1) + 1) + 1) + 1) + 1) + 1) + 1) + 1) + 1) + 1 ≤ bc ∧ ((((((((((((((((((((((((0 + 20) + 4000) + 14000) + 16) + 16) + 16) + 16) + 96) + 96) + 96) + 16) + 1024) + 1024) + 1024) + 1024) + 96) + 256) + 256) + 256) + 256) + 256) + 256) + 16) + 128) + 128 ≤ bs) ∧ (∀ b138_ : Nat, q_K (qs_P S137_ 2443 a0 (some b132_)) b138_ = 0 → (∀ S143_ : q_S, S143_ = (qs_P (qs_R (qs_P S137_ 2443 a0 (some b132_)) 21 128 b138_) 2444 a0 (some b138_)) → (((((((((((((((((((((((((((0 + 1) + 1) + 1) + 1) + 1) + 1) + 1) + 1) + 1) + 1) + 1) + 1) + 1) + 1) + 1) + 1) + 1) + 1) + 1) + 1) + 1) + 1) + 1) + 1) + 1) + 1 ≤ bc ∧ (((((((((((((((((((((((((0 + 20) + 4000) + 14000) + 16) + 16) + 16) + 16) + 96) + 96) + 96) + 16) + 1024) + 1024) + 1024) + 1024) + 96) + 256) + 256) + 256) + 256) + 256) + 256) + 16) + 128) + 128) + 128 ≤ bs) ∧ (∀ b144_ : Nat, q_K S143_ b144_ = 0 → ((((((((((((((((((((((((((((0 + 1) + 1) + 1) + 1) + 1) + 1) + 1) + 1) + 1) + 1) + 1) + 1) + 1) + 1) + 1) + 1) + 1) + 1) + 1) + 1) + 1) + 1) + 1) + 1) + 1) + 1) + 1 ≤ bc ∧ ((((((((((((((((((((((((((0 + 20) + 4000) + 14000) + 16) + 16) + 16) + 16) + 96) + 96) + 96) + 16) + 1024) + 1024) + 1024) + 1024) + 96) + 256) + 256) + 256) + 256) + 256) + 256) + 16) + 128) + 128) + 128) + 128 ≤ bs) ∧ (∀ b149_ : Nat, q_K (qs_P (qs_R S143_ 22 128 b144_) 2445 a0 (some b144_)) b149_ = 0 → (∀ S154_ : q_S, S154_ = (qs_R (qs_P (qs_R S143_ 22 128 b144_) 2445 a0 (some b144_)) 21 128 b149_) → (((((((((((((((((((((((((((((0 + 1) + 1) + 1) + 1) + 1) + 1) + 1) + 1) + 1) + 1) + 1) + 1) + 1) + 1) + 1) + 1) + 1) + 1) + 1) + 1) + 1) + 1) + 1) + 1) + 1) + 1) + 1) + 1 ≤ bc ∧ (((((((((((((((((((((((((((0 + 20) + 4000) + 14000) + 16) + 16) + 16) + 16) + 96) + 96) + 96) + 16) + 1024) + 1024) + 1024) + 1024) + 96) + 256) + 256) + 256) + 256) + 256) + 256) + 16) + 128) + 128) + 128) + 128) + 128 ≤ bs) ∧ (∀ b155_ : Nat, q_K (qs_P S154_ 2446 a0 (some b149_)) b155_ = 0 → (∀ S160_ : q_S, S160_ = (qs_P (qs_R (qs_P S154_ 2446 a0 (some b149_)) 22 128 b155_) 2447 a0 (some b155_)) → ((((((((((((((((((((((((((((((0 + 1) + 1) + 1) + 1) + 1) + 1) + 1) + 1) + 1) + 1) + 1) + 1) + 1) + 1) + 1) + 1) + 1) + 1) + 1) + 1) + 1) + 1) + 1) + 1) + 1) + 1) + 1) + 1) + 1 ≤ bc ∧ ((((((((((((((((((((((((((((0 + 20) + 4000) + 14000) + 16) + 16) + 16) + 16) + 96) + 96) + 96) + 16) + 1024) + 1024) + 1024) + 1024) + 96) + 256) + 256) + 256) + 256) + 256) + 256) + 16) + 128) + 128) + 128) + 128) + 128) + 256 ≤ bs) ∧ (∀ b161_ : Nat, q_K S160_ b161_ = 0 → (((((((((((((((((((((((((((((((0 + 1) + 1) + 1) + 1) + 1) + 1) + 1) + 1) + 1) + 1) + 1) + 1) + 1) + 1) + 1) + 1) + 1) + 1) + 1) + 1) + 1) + 1) + 1) + 1) + 1) + 1) + 1) + 1) + 1) + 1 ≤ bc ∧ (((((((((((((((((((((((((((((0 + 20) + 4000) + 14000) + 16) + 16) + 16) + 16) + 96) + 96) + 96) + 16) + 1024) + 1024) + 1024) + 1024) + 96) + 256) + 256) + 256) + 256) + 256) + 256) + 16) + 128) + 128) + 128) + 128) + 128) + 256) + 256 ≤ bs) ∧ (∀ b166_ : Nat, q_K (qs_P (qs_R S160_ 22 256 b161_) 2448 a0 (some b161_)) b166_ = 0 → (∀ S171_ : q_S, S171_ = (qs_R (qs_P (qs_R S160_ 22 256 b161_) 2448 a0 (some b161_)) 22 256 b166_) → ((((((((((((((((((((((((((((((((0 + 1) + 1) + 1) + 1) + 1) + 1) + 1) + 1) + 1) + 1) + 1) + 1) + 1) + 1) + 1) + 1) + 1) + 1) + 1) + 1) + 1) + 1) + 1) + 1) + 1) + 1) + 1) + 1) + 1) + 1) + 1 ≤ bc ∧ ((((((((((((((((((((((((((((((0 + 20) + 4000) + 14000) + 16) + 16) + 16) + 16) + 96) + 96) + 96) + 16) + 1024) + 1024) + 1024) + 1024) + 96) + 256) + 256) + 256) + 256) + 256) + 256) + 16) + 128) + 128) + 128) + 128) + 128) + 256) + 256) + 256 ≤ bs) ∧ (∀ b172_ : Nat, q_K (qs_P S171_ 2449 a0 (some b166_)) b172_ = 0 → (∀ S177_ : q_S, S177_ = (qs_P (qs_R (qs_P S171_ 2449 a0 (some b166_)) 21 256 b172_) 2450 a0 (some b172_)) → (((((((((((((((((((((((((((((((((0 + 1) + 1) + 1) + 1) + 1) + 1) + 1) + 1) + 1) + 1) + 1) + 1) + 1) + 1) + 1) + 1) + 1) + 1) + 1) + 1) + 1) + 1) + 1) + 1) + 1) + 1) + 1) + 1) + 1) + 1) + 1) + 1 ≤ bc ∧ (((((((((((((((((((((((((((((((0 + 20) + 4000) + 14000) + 16) + 16) + 16) + 16) + 96) + 96) + 96) + 16) + 1024) + 1024) + 1024) + 1024) + 96) + 256) + 256) + 256) + 256) + 256) + 256) + 16) + 128) + 128) + 128) + 128) + 128) + 256) + 256) + 256) + 16 ≤ bs) ∧ (∀ b178_ : Nat, q_K S177_ b178_ = 0 → ((((((((((((((((((((((((((((((((((0 + 1) + 1) + 1) + 1) + 1) + 1) + 1) + 1) + 1) + 1) + 1) + 1) + 1) + 1) + 1) + 1) + 1) + 1) + 1) + 1) + 1) + 1) + 1) + 1) + 1) + 1) + 1) + 1) + 1) + 1) + 1) + 1) + 1 ≤ bc ∧ ((((((((((((((((((((((((((((((((0 + 20) + 4000) + 14000) + 16) + 16) + 16) + 16) + 96) + 96) + 96) + 16) + 1024) + 1024) + 1024) + 1024) + 96) + 256) + 256) + 256) + 256) + 256) + 256) + 16) + 128) + 128) + 128) + 128) + 128) + 256) + 256) + 256) + 16) + 80 ≤ bs) ∧ (∀ b183_ : Nat, q_K (qs_P (qs_R S177_ 22 16 b178_) 2451 a0 (some b178_)) b183_ = 0 → (∀ S188_ : q_S, S188_ = (qs_R (qs_P (qs_R S177_ 22 16 b178_) 2451 a0 (some b178_)) 21 80 b183_) → (((((((((((((((((((((((((((((((((((0 + 1) + 1) + 1) + 1) + 1) + 1) + 1) + 1) + 1) + 1) + 1) + 1) + 1) + 1) + 1) + 1) + 1) + 1) + 1) + 1) + 1) + 1) + 1) + 1) + 1) + 1) + 1) + 1) + 1) + 1) + 1) + 1) + 1) + 1 ≤ bc ∧ (((((((((((((((((((((((((((((((((0 + 20) + 4000) + 14000) + 16) + 16) + 16) + 16) + 96) + 96) + 96) + 16) + 1024) + 1024) + 1024) + 1024) + 96) + 256) + 256) + 256) + 256) + 256) + 256) + 16) + 128) + 128) + 128) + 128) + 128) + 256) + 256) + 256) + 16) + 80) + 24 ≤ bs) ∧ (∀ b189_ : Nat, q_K (qs_P S188_ 2452 a0 (some b183_)) b189_ = 0 → (∀ S194_ : q_S, S194_ = (qs_P (qs_R (qs_P S188_ 2452 a0 (some b183_)) 22 24 b189_) 2454 a0 (some b189_)) → ((((((((((((((((((((((((((((((((((((0 + 1) + 1) + 1) + 1) + 1) + 1) + 1) + 1) + 1) + 1) + 1) + 1) + 1) + 1) + 1) + 1) + 1) + 1) + 1) + 1) + 1) + 1) + 1) + 1) + 1) + 1) + 1) + 1) + 1) + 1) + 1) + 1) + 1) + 1) + 1 ≤ bc ∧ ((((((((((((((((((((((((((((((((((0 + 20) + 4000) + 14000) + 16) + 16) + 16) + 16) + 96) + 96) + 96) + 16) + 1024) + 1024) + 1024) + 1024) + 96) + 256) + 256) + 256) + 256) + 256) + 256) + 16) + 128) + 128) + 128) + 128) + 128) + 256) + 256) + 256) + 16) + 80) + 24) + 24 ≤ bs) ∧ (∀ b195_ : Nat, q_K S194_ b195_ = 0 → (((((((((((((((((((((((((((((((((((((0 + 1) + 1) + 1) + 1) + 1) + 1) + 1) + 1) + 1) + 1) + 1) + 1) + 1) + 1) + 1) + 1) + 1) + 1) + 1) + 1) + 1) + 1) + 1) + 1) + 1) + 1) + 1) + 1) + 1) + 1) + 1) + 1) + 1) + 1) + 1) + 1 ≤ bc ∧ (((((((((((((((((((((((((((((((((((0 + 20) + 4000) + 14000) + 16) + 16) + 16) + 16) + 96) + 96) + 96) + 16) + 1024) + 1024) + 1024) + 1024) + 96) + 256) + 256) + 256) + 256) + 256) + 256) + 16) + 128) + 128) + 128) + 128) + 128) + 256) + 256) + 256) + 16) + 80) + 24) + 24) + 24 ≤ bs) ∧ (∀ b200_ : Nat, q_K (qs_P (qs_R S194_ 21 24 b195_) 2455 a0 (some b195_)) b200_ = 0 → (∀ S205_ : q_S, S205_ = (qs_R (qs_P (qs_R S194_ 21 24 b195_) 2455 a0 (some b195_)) 22 24 b200_) → ((((((((((((((((((((((((((((((((((((((0 + 1) + 1) + 1) + 1) + 1) + 1) + 1) + 1) + 1) + 1) + 1) + 1) + 1) + 1) + 1) + 1) + 1) + 1) + 1) + 1) + 1) + 1) + 1) + 1) + 1) + 1) + 1) + 1) + 1) + 1) + 1) + 1) + 1) + 1) + 1) + 1) + 1 ≤ bc ∧ ((((((((((((((((((((((((((((((((((((0 + 20) + 4000) + 14000) + 16) + 16) + 16) + 16) + 96) + 96) + 96) + 16) + 1024) + 1024) + 1024) + 1024) + 96) + 256) + 256) + 256) + 256) + 256) + 256) + 16) + 128) + 128) + 128) + 128) + 128) + 256) + 256) + 256) + 16) + 80) + 24) + 24) + 24) + 24 ≤ bs) ∧ (∀ b206_ : Nat, q_K (qs_P S205_ 2456 a0 (some b200_)) b206_ = 0 → (∀ S211_ : q_S, S211_ = (qs_P (qs_R (qs_P S205_ 2456 a0 (some b200_)) 21 24 b206_) 2457 a0 (some b206_)) → (((((((((((((((((((((((((((((((((((((((0 + 1) + 1) + 1) + 1) + 1) + 1) + 1) + 1) + 1) + 1) + 1) + 1) + 1) + 1) + 1) + 1) + 1) + 1) + 1) + 1) + 1) + 1) + 1) + 1) + 1) + 1) + 1) + 1) + 1) + 1) + 1) + 1) + 1) + 1) + 1) + 1) + 1) + 1 ≤ bc ∧ (((((((((((((((((((((((((((((((((((((0 + 20) + 4000) + 14000) + 16) + 16) + 16) + 16) + 96) + 96) + 96) + 16) + 1024) + 1024) + 1024) + 1024) + 96) + 256) + 256) + 256) + 256) + 256) + 256) + 16) + 128) + 128) + 128) + 128) + 128) + 256) + 256) + 256) + 16) + 80) + 24) + 24) + 24) + 24) + 24 ≤ bs) ∧ (∀ b212_ : Nat, q_K S211_ b212_ = 0 → ((((((((((((((((((((((((((((((((((((((((0 + 1) + 1) + 1) + 1) + 1) + 1) + 1) + 1) + 1) + 1) + 1) + 1) + 1) + 1) + 1) + 1) + 1) + 1) + 1) + 1) + 1) + 1) + 1) + 1) + 1) + 1) + 1) + 1) + 1) + 1) + 1) + 1) + 1) + 1) + 1) + 1) + 1) + 1) + 1 ≤ bc ∧ ((((((((((((((((((((((((((((((((((((((0 + 20) + 4000) + 14000) + 16) + 16) + 16) + 16) + 96) + 96) + 96) + 16) + 1024) + 1024) + 1024) + 1024) + 96) + 256) + 256) + 256) + 256) + 256) + 256) + 16) + 128) + 128) + 128) + 128) + 128) + 256) + 256) + 256) + 16) + 80) + 24) + 24) + 24) + 24) + 24) + 96 ≤ bs) ∧ (∀ b217_ : Nat, q_K (qs_P (qs_R S211_ 21 24 b212_) 2458 a0 (some b212_)) b217_ = 0 → (∀ S222_ : q_S, S222_ = (qs_R (qs_P (qs_R S211_ 21 24 b212_) 2458 a0 (some b212_)) 21 96 b217_) → (((((((((((((((((((((((((((((((((((((((((0 + 1) + 1) + 1) + 1) + 1) + 1) + 1) + 1) + 1) + 1) + 1) + 1) + 1) + 1) + 1) + 1) + 1) + 1) + 1) + 1) + 1) + 1) + 1) + 1) + 1) + 1) + 1) + 1) + 1) + 1) + 1) + 1) + 1) + 1) + 1) + 1) + 1) + 1) + 1) + 1 ≤ bc ∧ (((((((((((((((((((((((((((((((((((((((0 + 20) + 4000) + 14000) + 16) + 16) + 16) + 16) + 96) + 96) + 96) + 16) + 1024) + 1024) + 1024) + 1024) + 96) + 256) + 256) + 256) + 256) + 256) + 256) + 16) + 128) + 128) + 128) + 128) + 128) + 256) + 256) + 256) + 16) + 80) + 24) + 24) + 24) + 24) + 24) + 96) + 24 ≤ bs) ∧ (∀ b223_ : Nat, q_K (qs_P S222_ 2459 a0 (some b217_)) b223_ = 0 → (∀ S228_ : q_S, S228_ = (qs_P (qs_R (qs_P S222_ 2459 a0 (some b217_)) 21 24 b223_) 2460 a0 (some b223_)) → ((((((((((((((((((((((((((((((((((((((((((0 + 1) + 1) + 1) + 1) + 1) + 1) + 1) + 1) + 1) + 1) + 1) + 1) + 1) + 1) + 1) + 1) + 1) + 1) + 1) + 1) + 1) + 1) + 1) + 1) + 1) + 1) + 1) + 1) + 1) + 1) + 1) + 1) + 1) + 1) + 1) + 1) + 1) + 1) + 1) + 1) + 1 ≤ bc ∧ ((((((((((((((((((((((((((((((((((((((((0 + 20) + 4000) + 14000) + 16) + 16) + 16) + 16) + 96) + 96) + 96) + 16) + 1024) + 1024) + 1024) + 1024) + 96) + 256) + 256) + 256) + 256) + 256) + 256) + 16) + 128) + 128) + 128) + 128) + 128) + 256) + 256) + 256) + 16) + 80) + 24) + 24) + 24) + 24) + 24) + 96) + 24) + 24 ≤ bs) ∧ (∀ b229_ : Nat, q_K S228_ b229_ = 0 → (((((((((((((((((((((((((((((((((((((((((((0 + 1) + 1) + 1) + 1) + 1) + 1) + 1) + 1) + 1) + 1) + 1) + 1) + 1) + 1) + 1) + 1) + 1) + 1) + 1) + 1) + 1) + 1) + 1) + 1) + 1) + 1) + 1) + 1) + 1) + 1) + 1) + 1) + 1) + 1) + 1) + 1) + 1) + 1) + 1) + 1) + 1) + 1 ≤ bc ∧ (((((((((((((((((((((((((((((((((((((((((0 + 20) + 4000) + 14000) + 16) + 16) + 16) + 16) + 96) + 96) + 96) + 16) + 1024) + 1024) + 1024) + 1024) + 96) + 256) + 256) + 256) + 256) + 256) + 256) + 16) + 128) + 128) + 128) + 128) + 128) + 256) + 256) + 256) + 16) + 80) + 24) + 24) + 24) + 24) + 24) + 96) + 24) + 24) + 24 ≤ bs) ∧ (∀ b234_ : Nat, q_K (qs_P (qs_R S228_ 21 24 b229_) 2461 a0 (some b229_)) b234_ = 0 → (∀ S239_ : q_S, S239_ = (qs_R (qs_P (qs_R S228_ 21 24 b229_) 2461 a0 (some b229_)) 21 24 b234_) → ((((((((((((((((((((((((((((((((((((((((((((0 + 1) + 1) + 1) + 1) + 1) + 1) + 1) + 1) + 1) + 1) + 1) + 1) + 1) + 1) + 1) + 1) + 1) + 1) + 1) + 1) + 1) + 1) + 1) + 1) + 1) + 1) + 1) + 1) + 1) + 1) + 1) + 1) + 1) + 1) + 1) + 1) + 1) + 1) + 1) + 1) + 1) + 1) + 1 ≤ bc ∧ ((((((((((((((((((((((((((((((((((((((((((0 + 20) + 4000) + 14000) + 16) + 16) + 16) + 16) + 96) + 96) + 96) + 16) + 1024) + 1024) + 1024) + 1024) + 96) + 256) + 256) + 256) + 256) + 256) + 256) + 16) + 128) + 128) + 128) + 128) + 128) + 256) + 256) + 256) + 16) + 80) + 24) + 24) + 24) + 24) + 24) + 96) + 24) + 24) + 24) + 131072 ≤ bs) ∧ (∀ b240_ : Nat, q_K (qs_P S239_ 2462 a0 (some b234_)) b240_ = 0 → (∀ S245_ : q_S, S245_ = (qs_P (qs_R (qs_P S239_ 2462 a0 (some b234_)) 20 131072 b240_) 2465 a0 (some b240_)) → (((((((((((((((((((((((((((((((((((((((((((((0 + 1) + 1) + 1) + 1) + 1) + 1) + 1) + 1) + 1) + 1) + 1) + 1) + 1) + 1) + 1) + 1) + 1) + 1) + 1) + 1) + 1) + 1) + 1) + 1) + 1) + 1) + 1) + 1) + 1) + 1) + 1) + 1) + 1) + 1) + 1) + 1) + 1) + 1) + 1) + 1) + 1) + 1) + 1) + 1 ≤ bc ∧ (((((((((((((((((((((((((((((((((((((((((((0 + 20) + 4000) + 14000) + 16) + 16) + 16) + 16) + 96) + 96) + 96) + 16) + 1024) + 1024) + 1024) + 1024) + 96) + 256) + 256) + 256) + 256) + 256) + 256) + 16) + 128) + 128) + 128) + 128) + 128) + 256) + 256) + 256) + 16) + 80) + 24) + 24) + 24) + 24) + 24) + 96) + 24) + 24) + 24) + 131072) + 131072 ≤ bs) ∧ (∀ b246_ : Nat, q_K S245_ b246_ = 0 → ((((((((((((((((((((((((((((((((((((((((((((((0 + 1) + 1) + 1) + 1) + 1) + 1) + 1) + 1) + 1) + 1) + 1) + 1) + 1) + 1) + 1) + 1) + 1) + 1) + 1) + 1) + 1) + 1) + 1) + 1) + 1) + 1) + 1) + 1) + 1) + 1) + 1) + 1) + 1) + 1) + 1) + 1) + 1) + 1) + 1) + 1) + 1) + 1) + 1) + 1) + 1 ≤ bc ∧ ((((((((((((((((((((((((((((((((((((((((((((0 + 20) + 4000) + 14000) + 16) + 16) + 16) + 16) + 96) + 96) + 96) + 16) + 1024) + 1024) + 1024) + 1024) + 96) + 256) + 256) + 256) + 256) + 256) + 256) + 16) + 128) + 128) + 128) + 128) + 128) + 256) + 256) + 256) + 16) + 80) + 24) + 24) + 24) + 24) + 24) + 96) + 24) + 24) + 24) + 131072) + 131072) + 256 ≤ bs) ∧ (∀ b251_ : Nat, q_K (qs_P (qs_R S245_ 20 131072 b246_) 2466 a0 (some b246_)) b251_ = 0 → (∀ S256_ : q_S, S256_ = (qs_R (qs_P (qs_R S245_ 20 131072 b246_) 2466 a0 (some b246_)) 21 256 b251_) → (((((((((((((((((((((((((((((((((((((((((((((((0 + 1) + 1) + 1) + 1) + 1) + 1) + 1) + 1) + 1) + 1) + 1) + 1) + 1) + 1) + 1) + 1) + 1) + 1) + 1) + 1) + 1) + 1) + 1) + 1) + 1) + 1) + 1) + 1) + 1) + 1) + 1) + 1) + 1) + 1) + 1) + 1) + 1) + 1) + 1) + 1) + 1) + 1) + 1) + 1) + 1) + 1 ≤ bc ∧ (((((((((((((((((((((((((((((((((((((((((((((0 + 20) + 4000) + 14000) + 16) + 16) + 16) + 16) + 96) + 96) + 96) + 16) + 1024) + 1024) + 1024) + 1024) + 96) + 256) + 256) + 256) + 256) + 256) + 256) + 16) + 128) + 128) + 128) + 128) + 128) + 256) + 256) + 256) + 16) + 80) + 24) + 24) + 24) + 24) + 24) + 96) + 24) + 24) + 24) + 131072) + 131072) + 256) + 256 ≤ bs) ∧ (∀ b257_ : Nat, q_K (qs_P S256_ 2467 a0 (some b251_)) b257_ = 0 → (∀ S262_ : q_S, S262_ = (qs_P (qs_R (qs_P S256_ 2467 a0 (some b251_)) 21 256 b257_) 2468 a0 (some b257_)) → ((((((((((((((((((((((((((((((((((((((((((((((((0 + 1) + 1) + 1) + 1) + 1) + 1) + 1) + 1) + 1) + 1) + 1) + 1) + 1) + 1) + 1) + 1) + 1) + 1) + 1) + 1) + 1) + 1) + 1) + 1) + 1) + 1) + 1) + 1) + 1) + 1) + 1) + 1) + 1) + 1) + 1) + 1) + 1) + 1) + 1) + 1) + 1) + 1) + 1) + 1) + 1) + 1) + 1 ≤ bc ∧ ((((((((((((((((((((((((((((((((((((((((((((((0 + 20) + 4000) + 14000) + 16) + 16) + 16) + 16) + 96) + 96) + 96) + 16) + 1024) + 1024) + 1024) + 1024) + 96) + 256) + 256) + 256) + 256) + 256) + 256) + 16) + 128) + 128) + 128) + 128) + 128) + 256) + 256) + 256) + 16) + 80) + 24) + 24) + 24) + 24) + 24) + 96) + 24) + 24) + 24) + 131072) + 131072) + 256) + 256) + 256 ≤ bs) ∧ (∀ b263_ : Nat, q_K S262_ b263_ = 0 → (((((((((((((((((((((((((((((((((((((((((((((((((0 + 1) + 1) + 1) + 1) + 1) + 1) + 1) + 1) + 1) + 1) + 1) + 1) + 1) + 1) + 1) + 1) + 1) + 1) + 1) + 1) + 1) + 1) + 1) + 1) + 1) + 1) + 1) + 1) + 1) + 1) + 1) + 1) + 1) + 1) + 1) + 1) + 1) + 1) + 1) + 1) + 1) + 1) + 1) + 1) + 1) + 1) + 1) + 1 ≤ bc ∧ (((((((((((((((((((((((((((((((((((((((((((((((0 + 20) + 4000) + 14000) + 16) + 16) + 16) + 16) + 96) + 96) + 96) + 16) + 1024) + 1024) + 1024) + 1024) + 96) + 256) + 256) + 256) + 256) + 256) + 256) + 16) + 128) + 128) + 128) + 128) + 128) + 256) + 256) + 256) + 16) + 80) + 24) + 24) + 24) + 24) + 24) + 96) + 24) + 24) + 24) + 131072) + 131072) + 256) + 256) + 256) + 256 ≤ bs) ∧ (∀ b268_ : Nat, q_K (qs_P (qs_R S262_ 21 256 b263_) 2469 a0 (some b263_)) b268_ = 0 → (∀ S273_ : q_S, S273_ = (qs_R (qs_P (qs_R S262_ 21 256 b263_) 2469 a0 (some b263_)) 22 256 b268_) → ((((((((((((((((((((((((((((((((((((((((((((((((((0 + 1) + 1) + 1) + 1) + 1) + 1) + 1) + 1) + 1) + 1) + 1) + 1) + 1) + 1) + 1) + 1) + 1) + 1) + 1) + 1) + 1) + 1) + 1) + 1) + 1) + 1) + 1) + 1) + 1) + 1) + 1) + 1) + 1) + 1) + 1) + 1) + 1) + 1) + 1) + 1) + 1) + 1) + 1) + 1) + 1) + 1) + 1) + 1) + 1 ≤ bc ∧ ((((((((((((((((((((((((((((((((((((((((((((((((0 + 20) + 4000) + 14000) + 16) + 16) + 16) + 16) + 96) + 96) + 96) + 16) + 1024) + 1024) + 1024) + 1024) + 96) + 256) + 256) + 256) + 256) + 256) + 256) + 16) + 128) + 128) + 128) + 128) + 128) + 256) + 256) + 256) + 16) + 80) + 24) + 24) + 24) + 24) + 24) + 96) + 24) + 24) + 24) + 131072) + 131072) + 256) + 256) + 256) + 256) + 256 ≤ bs) ∧ (∀ b274_ : Nat, q_K (qs_P S273_ 2470 a0 (some b268_)) b274_ = 0 → (∀ S279_ : q_S, S279_ = (qs_P (qs_R (qs_P S273_ 2470 a0 (some b268_)) 21 256 b274_) 2471 a0 (some b274_)) → (((((((((((((((((((((((((((((((((((((((((((((((((((0 + 1) + 1) + 1) + 1) + 1) + 1) + 1) + 1) + 1) + 1) + 1) + 1) + 1) + 1) + 1) + 1) + 1) + 1) + 1) + 1) + 1) + 1) + 1) + 1) + 1) + 1) + 1) + 1) + 1) + 1) + 1) + 1) + 1) + 1) + 1) + 1) + 1) + 1) + 1) + 1) + 1) + 1) + 1) + 1) + 1) + 1) + 1) + 1) + 1) + 1 ≤ bc ∧ (((((((((((((((((((((((((((((((((((((((((((((((((0 + 20) + 4000) + 14000) + 16) + 16) + 16) + 16) + 96) + 96) + 96) + 16) + 1024) + 1024) + 1024) + 1024) + 96) + 256) + 256) + 256) + 256) + 256) + 256) + 16) + 128) + 128) + 128) + 128) + 128) + 256) + 256) + 256) + 16) + 80) + 24) + 24) + 24) + 24) + 24) + 96) + 24) + 24) + 24) + 131072) + 131072) + 256) + 256) + 256) + 256) + 256) + 256 ≤ bs) ∧ (∀ b280_ : Nat, q_K S279_ b280_ = 0 → ((((((((((((((((((((((((((((((((((((((((((((((((((((0 + 1) + 1) + 1) + 1) + 1) + 1) + 1) + 1) + 1) + 1) + 1) + 1) + 1) + 1) + 1) + 1) + 1) + 1) + 1) + 1) + 1) + 1) + 1) + 1) + 1) + 1) + 1) + 1) + 1) + 1) + 1) + 1) + 1) + 1) + 1) + 1) + 1) + 1) + 1) + 1) + 1) + 1) + 1) + 1) + 1) + 1) + 1) + 1) + 1) + 1) + 1 ≤ bc ∧ ((((((((((((((((((((((((((((((((((((((((((((((((((0 + 20) + 4000) + 14000) + 16) + 16) + 16) + 16) + 96) + 96) + 96) + 16) + 1024) + 1024) + 1024) + 1024) + 96) + 256) + 256) + 256) + 256) + 256) + 256) + 16) + 128) + 128) + 128) + 128) + 128) + 256) + 256) + 256) + 16) + 80) + 24) + 24) + 24) + 24) + 24) + 96) + 24) + 24) + 24) + 131072) + 131072) + 256) + 256) + 256) + 256) + 256) + 256) + 256 ≤ bs) ∧ (∀ b285_ : Nat, q_K (qs_P (qs_R S279_ 21 256 b280_) 2472 a0 (some b280_)) b285_ = 0 → (∀ S290_ : q_S, S290_ = (qs_R (qs_P (qs_R S279_ 21 256 b280_) 2472 a0 (some b280_)) 21 256 b285_) → (((((((((((((((((((((((((((((((((((((((((((((((((((((0 + 1) + 1) + 1) + 1) + 1) + 1) + 1) + 1) + 1) + 1) + 1) + 1) + 1) + 1) + 1) + 1) + 1) + 1) + 1) + 1) + 1) + 1) + 1) + 1) + 1) + 1) + 1) + 1) + 1) + 1) + 1) + 1) + 1) + 1) + 1) + 1) + 1) + 1) + 1) + 1) + 1) + 1) + 1) + 1) + 1) + 1) + 1) + 1) + 1) + 1) + 1) + 1 ≤ bc ∧ (((((((((((((((((((((((((((((((((((((((((((((((((((0 + 20) + 4000) + 14000) + 16) + 16) + 16) + 16) + 96) + 96) + 96) + 16) + 1024) + 1024) + 1024) + 1024) + 96) + 256) + 256) + 256) + 256) + 256) + 256) + 16) + 128) + 128) + 128) + 128) + 128) + 256) + 256) + 256) + 16) + 80) + 24) + 24) + 24) + 24) + 24) + 96) + 24) + 24) + 24) + 131072) + 131072) + 256) + 256) + 256) + 256) + 256) + 256) + 256) + 256 ≤ bs) ∧ (∀ b291_ : Nat, q_K (qs_P S290_ 2473 a0 (some b285_)) b291_ = 0 → (∀ S296_ : q_S, S296_ = (qs_P (qs_R (qs_P S290_ 2473 a0 (some b285_)) 21 256 b291_) 2474 a0 (some b291_)) → ((((((((((((((((((((((((((((((((((((((((((((((((((((((0 + 1) + 1) + 1) + 1) + 1) + 1) + 1) + 1) + 1) + 1) + 1) + 1) + 1) + 1) + 1) + 1) + 1) + 1) + 1) + 1) + 1) + 1) + 1) + 1) + 1) + 1) + 1) + 1) + 1) + 1) + 1) + 1) + 1) + 1) + 1) + 1) + 1) + 1) + 1) + 1) + 1) + 1) + 1) + 1) + 1) + 1) + 1) + 1) + 1) + 1) + 1) + 1) + 1 ≤ bc ∧ ((((((((((((((((((((((((((((((((((((((((((((((((((((0 + 20) + 4000) + 14000) + 16) + 16) + 16) + 16) + 96) + 96) + 96) + 16) + 1024) + 1024) + 1024) + 1024) + 96) + 256) + 256) + 256) + 256) + 256) + 256) + 16) + 128) + 128) + 128) + 128) + 128) + 256) + 256) + 256) + 16) + 80) + 24) + 24) + 24) + 24) + 24) + 96) + 24) + 24) + 24) + 131072) + 131072) + 256) + 256) + 256) + 256) + 256) + 256) + 256) + 256) + 256 ≤ bs) ∧ (∀ b297_ : Nat, q_K S296_ b297_ = 0 → (((((((((((((((((((((((((((((((((((((((((((((((((((((((0 + 1) + 1) + 1) + 1) + 1) + 1) + 1) + 1) + 1) + 1) + 1) + 1) + 1) + 1) + 1) + 1) + 1) + 1) + 1) + 1) + 1) + 1) + 1) + 1) + 1) + 1) + 1) + 1) + 1) + 1) + 1) + 1) + 1) + 1) + 1) + 1) + 1) + 1) + 1) + 1) + 1) + 1) + 1) + 1) + 1) + 1) + 1) + 1) + 1) + 1) + 1) + 1) + 1) + 1 ≤ bc ∧ (((((((((((((((((((((((((((((((((((((((((((((((((((((0 + 20) + 4000) + 14000) + 16) + 16) + 16) + 16) + 96) + 96) + 96) + 16) + 1024) + 1024) + 1024) + 1024) + 96) + 256) + 256) + 256) + 256) + 256) + 256) + 16) + 128) + 128) + 128) + 128) + 128) + 256) + 256) + 256) + 16) + 80) + 24) + 24) + 24) + 24) + 24) + 96) + 24) + 24) + 24) + 131072) + 131072) + 256) + 256) + 256) + 256) + 256) + 256) + 256) + 256) + 256) + 256 ≤ bs) ∧ (∀ b302_ : Nat, q_K (qs_P (qs_R S296_ 22 256 b297_) 2475 a0 (some b297_)) b302_ = 0 → (∀ S307_ : q_S, S307_ = (qs_R (qs_P (qs_R S296_ 22 256 b297_) 2475 a0 (some b297_)) 21 256 b302_) → ((((((((((((((((((((((((((((((((((((((((((((((((((((((((0 + 1) + 1) + 1) + 1) + 1) + 1) + 1) + 1) + 1) + 1) + 1) + 1) + 1) + 1) + 1) + 1) + 1) + 1) + 1) + 1) + 1) + 1) + 1) + 1) + 1) + 1) + 1) + 1) + 1) + 1) + 1) + 1) + 1) + 1) + 1) + 1) + 1) + 1) + 1) + 1) + 1) + 1) + 1) + 1) + 1) + 1) + 1) + 1) + 1) + 1) + 1) + 1) + 1) + 1) + 1 ≤ bc ∧ ((((((((((((((((((((((((((((((((((((((((((((((((((((((0 + 20) + 4000) + 14000) + 16) + 16) + 16) + 16) + 96) + 96) + 96) + 16) + 1024) + 1024) + 1024) + 1024) + 96) + 256) + 256) + 256) + 256) + 256) + 256) + 16) + 128) + 128) + 128) + 128) + 128) + 256) + 256) + 256) + 16) + 80) + 24) + 24) + 24) + 24) + 24) + 96) + 24) + 24) + 24) + 131072) + 131072) + 256) + 256) + 256) + 256) + 256) + 256) + 256) + 256) + 256) + 256) + 8192 ≤ bs) ∧ (∀ b308_ : Nat, q_K (qs_P S307_ 2476 a0 (some b302_)) b308_ = 0 → (∀ S313_ : q_S, S313_ = (qs_P (qs_R (qs_P S307_ 2476 a0 (some b302_)) 21 8192 b308_) 2477 a0 (some b308_)) → (((((((((((((((((((((((((((((((((((((((((((((((((((((((((0 + 1) + 1) + 1) + 1) + 1) + 1) + 1) + 1) + 1) + 1) + 1) + 1) + 1) + 1) + 1) + 1) + 1) + 1) + 1) + 1) + 1) + 1) + 1) + 1) + 1) + 1) + 1) + 1) + 1) + 1) + 1) + 1) + 1) + 1) + 1) + 1) + 1) + 1) + 1) + 1) + 1) + 1) + 1) + 1) + 1) + 1) + 1) + 1) + 1) + 1) + 1) + 1) + 1) + 1) + 1) + 1 ≤ bc ∧ (((((((((((((((((((((((((((((((((((((((((((((((((((((((0 + 20) + 4000) + 14000) + 16) + 16) + 16) + 16) + 96) + 96) + 96) + 16) + 1024) + 1024) + 1024) + 1024) + 96) + 256) + 256) + 256) + 256) + 256) + 256) + 16) + 128) + 128) + 128) + 128) + 128) + 256) + 256) + 256) + 16) + 80) + 24) + 24) + 24) + 24) + 24) + 96) + 24) + 24) + 24) + 131072) + 131072) + 256) + 256) + 256) + 256) + 256) + 256) + 256) + 256) + 256) + 256) + 8192) + 256 ≤ bs) ∧ (∀ b314_ : Nat, q_K S313_ b314_ = 0 → ((((((((((((((((((((((((((((((((((((((((((((((((((((((((((0 + 1) + 1) + 1) + 1) + 1) + 1) + 1) + 1) + 1) + 1) + 1) + 1) + 1) + 1) + 1) + 1) + 1) + 1) + 1) + 1) + 1) + 1) + 1) + 1) + 1) + 1) + 1) + 1) + 1) + 1) + 1) + 1) + 1) + 1) + 1) + 1) + 1) + 1) + 1) + 1) + 1) + 1) + 1) + 1) + 1) + 1) + 1) + 1) + 1) + 1) + 1) + 1) + 1) + 1) + 1) + 1) + 1 ≤ bc ∧ ((((((((((((((((((((((((((((((((((((((((((((((((((((((((0 + 20) + 4000) + 14000) + 16) + 16) + 16) + 16) + 96) + 96) + 96) + 16) + 1024) + 1024) + 1024) + 1024) + 96) + 256) + 256) + 256) + 256) + 256) + 256) + 16) + 128) + 128) + 128) + 128) + 128) + 256) + 256) + 256) + 16) + 80) + 24) + 24) + 24) + 24) + 24) + 96) + 24) + 24) + 24) + 131072) + 131072) + 256) + 256) + 256) + 256) + 256) + 256) + 256) + 256) + 256) + 256) + 8192) + 256) + 256 ≤ bs) ∧ (∀ b319_ : Nat, q_K (qs_P (qs_R S313_ 21 256 b314_) 2478 a0 (some b314_)) b319_ = 0 → (∀ S324_ : q_S, S324_ = (qs_R (qs_P (qs_R S313_ 21 256 b314_) 2478 a0 (some b314_)) 21 256 b319_) → (((((((((((((((((((((((((((((((((((((((((((((((((((((((((((0 + 1) + 1) + 1) + 1) + 1) + 1) + 1) + 1) + 1) + 1) + 1) + 1) + 1) + 1) + 1) + 1) + 1) + 1) + 1) + 1) + 1) + 1) + 1) + 1) + 1) + 1) + 1) + 1) + 1) + 1) + 1) + 1) + 1) + 1) + 1) + 1) + 1) + 1) + 1) + 1) + 1) + 1) + 1) + 1) + 1) + 1) + 1) + 1) + 1) + 1) + 1) + 1) + 1) + 1) + 1) + 1) + 1) + 1 ≤ bc ∧ (((((((((((((((((((((((((((((((((((((((((((((((((((((((((0 + 20) + 4000) + 14000) + 16) + 16) + 16) + 16) + 96) + 96) + 96) + 16) + 1024) + 1024) + 1024) + 1024) + 96) + 256) + 256) + 256) + 256) + 256) + 256) + 16) + 128) + 128) + 128) + 128) + 128) + 256) + 256) + 256) + 16) + 80) + 24) + 24) + 24) + 24) + 24) + 96) + 24) + 24) + 24) + 131072) + 131072) + 256) + 256) + 256) + 256) + 256) + 256) + 256) + 256) + 256) + 256) + 8192) + 256) + 256) + 256 ≤ bs) ∧ (∀ b325_ : Nat, q_K (qs_P S324_ 2479 a0 (some b319_)) b325_ = 0 → (∀ S330_ : q_S, S330_ = (qs_P (qs_R (qs_P S324_ 2479 a0 (some b319_)) 21 256 b325_) 2480 a0 (some b325_)) → ((((((((((((((((((((((((((((((((((((((((((((((((((((((((((((0 + 1) + 1) + 1) + 1) + 1) + 1) + 1) + 1) + 1) + 1) + 1) + 1) + 1) + 1) + 1) + 1) + 1) + 1) + 1) + 1) + 1) + 1) + 1) + 1) + 1) + 1) + 1) + 1) + 1) + 1) + 1) + 1) + 1) + 1) + 1) + 1) + 1) + 1) + 1) + 1) + 1) + 1) + 1) + 1) + 1) + 1) + 1) + 1) + 1) + 1) + 1) + 1) + 1) + 1) + 1) + 1) + 1) + 1) + 1 ≤ bc ∧ ((((((((((((((((((((((((((((((((((((((((((((((((((((((((((0 + 20) + 4000) + 14000) + 16) + 16) + 16) + 16) + 96) + 96) + 96) + 16) + 1024) + 1024) + 1024) + 1024) + 96) + 256) + 256) + 256) + 256) + 256) + 256) + 16) + 128) + 128) + 128) + 128) + 128) + 256) + 256) + 256) + 16) + 80) + 24) + 24) + 24) + 24) + 24) + 96) + 24) + 24) + 24) + 131072) + 131072) + 256) + 256) + 256) + 256) + 256) + 256) + 256) + 256) + 256) + 256) + 8192) + 256) + 256) + 256) + 256 ≤ bs) ∧ (∀ b331_ : Nat, q_K S330_ b331_ = 0 → (((((((((((((((((((((((((((((((((((((((((((((((((((((((((((((0 + 1) + 1) + 1) + 1) + 1) + 1) + 1) + 1) + 1) + 1) + 1) + 1) + 1) + 1) + 1) + 1) + 1) + 1) + 1) + 1) + 1) + 1) + 1) + 1) + 1) + 1) + 1) + 1) + 1) + 1) + 1) + 1) + 1) + 1) + 1) + 1) + 1) + 1) + 1) + 1) + 1) + 1) + 1) + 1) + 1) + 1) + 1) + 1) + 1) + 1) + 1) + 1) + 1) + 1) + 1) + 1) + 1) + 1) + 1) + 1 ≤ bc ∧ (((((((((((((((((((((((((((((((((((((((((((((((((((((((((((0 + 20) + 4000) + 14000) + 16) + 16) + 16) + 16) + 96) + 96) + 96) + 16) + 1024) + 1024) + 1024) + 1024) + 96) + 256) + 256) + 256) + 256) + 256) + 256) + 16) + 128) + 128) + 128) + 128) + 128) + 256) + 256) + 256) + 16) + 80) + 24) + 24) + 24) + 24) + 24) + 96) + 24) + 24) + 24) + 131072) + 131072) + 256) + 256) + 256) + 256) + 256) + 256) + 256) + 256) + 256) + 256) + 8192) + 256) + 256) + 256) + 256) + 256 ≤ bs) ∧ (∀ b336_ : Nat, q_K (qs_P (qs_R S330_ 21 256 b331_) 2481 a0 (some b331_)) b336_ = 0 → (∀ S341_ : q_S, S341_ = (qs_R (qs_P (qs_R S330_ 21 256 b331_) 2481 a0 (some b331_)) 21 256 b336_) → ((((((((((((((((((((((((((((((((((((((((((((((((((((((((((((((0 + 1) + 1) + 1) + 1) + 1) + 1) + 1) + 1) + 1) + 1) + 1) + 1) + 1) + 1) + 1) + 1) + 1) + 1) + 1) + 1) + 1) + 1) + 1) + 1) + 1) + 1) + 1) + 1) + 1) + 1) + 1) + 1) + 1) + 1) + 1) + 1) + 1) + 1) + 1) + 1) + 1) + 1) + 1) + 1) + 1) + 1) + 1) + 1) + 1) + 1) + 1) + 1) + 1) + 1) + 1) + 1) + 1) + 1) + 1) + 1) + 1 ≤ bc ∧ ((((((((((((((((((((((((((((((((((((((((((((((((((((((((((((0 + 20) + 4000) + 14000) + 16) + 16) + 16) + 16) + 96) + 96) + 96) + 16) + 1024) + 1024) + 1024) + 1024) + 96) + 256) + 256) + 256) + 256) + 256) + 256) + 16) + 128) + 128) + 128) + 128) + 128) + 256) + 256) + 256) + 16) + 80) + 24) + 24) + 24) + 24) + 24) + 96) + 24) + 24) + 24) + 131072) + 131072) + 256) + 256) + 256) + 256) + 256) + 256) + 256) + 256) + 256) + 256) + 8192) + 256) + 256) + 256) + 256) + 256) + 16 ≤ bs) ∧ (∀ b342_ : Nat, q_K (qs_P S341_ 2482 a0 (some b336_)) b342_ = 0 → (∀ S347_ : q_S, S347_ = (qs_P (qs_R (qs_P S341_ 2482 a0 (some b336_)) 21 16 b342_) 2483 a0 (some b342_)) → (((((((((((((((((((((((((((((((((((((((((((((((((((((((((((((((0 + 1) + 1) + 1) + 1) + 1) + 1) + 1) + 1) + 1) + 1) + 1) + 1) + 1) + 1) + 1) + 1) + 1) + 1) + 1) + 1) + 1) + 1) + 1) + 1) + 1) + 1) + 1) + 1) + 1) + 1) + 1) + 1) + 1) + 1) + 1) + 1) + 1) + 1) + 1) + 1) + 1) + 1) + 1) + 1) + 1) + 1) + 1) + 1) + 1) + 1) + 1) + 1) + 1) + 1) + 1) + 1) + 1) + 1) + 1) + 1) + 1) + 1 ≤ bc ∧ (((((((((((((((((((((((((((((((((((((((((((((((((((((((((((((0 + 20) + 4000) + 14000) + 16) + 16) + 16) + 16) + 96) + 96) + 96) + 16) + 1024) + 1024) + 1024) + 1024) + 96) + 256) + 256) + 256) + 256) + 256) + 256) + 16) + 128) + 128) + 128) + 128) + 128) + 256) + 256) + 256) + 16) + 80) + 24) + 24) + 24) + 24) + 24) + 96) + 24) + 24) + 24) + 131072) + 131072) + 256) + 256) + 256) + 256) + 256) + 256) + 256) + 256) + 256) + 256) + 8192) + 256) + 256) + 256) + 256) + 256) + 16) + 16 ≤ bs) ∧ (∀ b348_ : Nat, q_K S347_ b348_ = 0 → ((((((((((((((((((((((((((((((((((((((((((((((((((((((((((((((((0 + 1) + 1) + 1) + 1) + 1) + 1) + 1) + 1) + 1) + 1) + 1) + 1) + 1) + 1) + 1) + 1) + 1) + 1) + 1) + 1) + 1) + 1) + 1) + 1) + 1) + 1) + 1) + 1) + 1) + 1) + 1) + 1) + 1) + 1) + 1) + 1) + 1) + 1) + 1) + 1) + 1) + 1) + 1) + 1) + 1) + 1) + 1) + 1) + 1) + 1) + 1) + 1) + 1) + 1) + 1) + 1) + 1) + 1) + 1) + 1) + 1) + 1) + 1 ≤ bc ∧ ((((((((((((((((((((((((((((((((((((((((((((((((((((((((((((((0 + 20) + 4000) + 14000) + 16) + 16) + 16) + 16) + 96) + 96) + 96) + 16) + 1024) + 1024) + 1024) + 1024) + 96) + 256) + 256) + 256) + 256) + 256) + 256) + 16) + 128) + 128) + 128) + 128) + 128) + 256) + 256) + 256) + 16) + 80) + 24) + 24) + 24) + 24) + 24) + 96) + 24) + 24) + 24) + 131072) + 131072) + 256) + 256) + 256) + 256) + 256) + 256) + 256) + 256) + 256) + 256) + 8192) + 256) + 256) + 256) + 256) + 256) + 16) + 16) + 16 ≤ bs) ∧ (∀ b353_ : Nat, q_K (qs_P (qs_R S347_ 21 16 b348_) 2484 a0 (some b348_)) b353_ = 0 → (∀ S358_ : q_S, S358_ = (qs_R (qs_P (qs_R S347_ 21 16 b348_) 2484 a0 (some b348_)) 21 16 b353_) → (((((((((((((((((((((((((((((((((((((((((((((((((((((((((((((((((0 + 1) + 1) + 1) + 1) + 1) + 1) + 1) + 1) + 1) + 1) + 1) + 1) + 1) + 1) + 1) + 1) + 1) + 1) + 1) + 1) + 1) + 1) + 1) + 1) + 1) + 1) + 1) + 1) + 1) + 1) + 1) + 1) + 1) + 1) + 1) + 1) + 1) + 1) + 1) + 1) + 1) + 1) + 1) + 1) + 1) + 1) + 1) + 1) + 1) + 1) + 1) + 1) + 1) + 1) + 1) + 1) + 1) + 1) + 1) + 1) + 1) + 1) + 1) + 1 ≤ bc ∧ (((((((((((((((((((((((((((((((((((((((((((((((((((((((((((((((0 + 20) + 4000) + 14000) + 16) + 16) + 16) + 16) + 96) + 96) + 96) + 16) + 1024) + 1024) + 1024) + 1024) + 96) + 256) + 256) + 256) + 256) + 256) + 256) + 16) + 128) + 128) + 128) + 128) + 128) + 256) + 256) + 256) + 16) + 80) + 24) + 24) + 24) + 24) + 24) + 96) + 24) + 24) + 24) + 131072) + 131072) + 256) + 256) + 256) + 256) + 256) + 256) + 256) + 256) + 256) + 256) + 8192) + 256) + 256) + 256) + 256) + 256) + 16) + 16) + 16) + 16 ≤ bs) ∧ (∀ b359_ : Nat, q_K (qs_P S358_ 2485 a0 (some b353_)) b359_ = 0 → (∀ S364_ : q_S, S364_ = (qs_P (qs_R (qs_P S358_ 2485 a0 (some b353_)) 21 16 b359_) 2486 a0 (some b359_)) → ((((((((((((((((((((((((((((((((((((((((((((((((((((((((((((((((((0 + 1) + 1) + 1) + 1) + 1) + 1) + 1) + 1) + 1) + 1) + 1) + 1) + 1) + 1) + 1) + 1) + 1) + 1) + 1) + 1) + 1) + 1) + 1) + 1) + 1) + 1) + 1) + 1) + 1) + 1) + 1) + 1) + 1) + 1) + 1) + 1) + 1) + 1) + 1) + 1) + 1) + 1) + 1) + 1) + 1) + 1) + 1) + 1) + 1) + 1) + 1) + 1) + 1) + 1) + 1) + 1) + 1) + 1) + 1) + 1) + 1) + 1) + 1) + 1) + 1 ≤ bc ∧ ((((((((((((((((((((((((((((((((((((((((((((((((((((((((((((((((0 + 20) + 4000) + 14000) + 16) + 16) + 16) + 16) + 96) + 96) + 96) + 16) + 1024) + 1024) + 1024) + 1024) + 96) + 256) + 256) + 256) + 256) + 256) + 256) + 16) + 128) + 128) + 128) + 128) + 128) + 256) + 256) + 256) + 16) + 80) + 24) + 24) + 24) + 24) + 24) + 96) + 24) + 24) + 24) + 131072) + 131072) + 256) + 256) + 256) + 256) + 256) + 256) + 256) + 256) + 256) + 256) + 8192) + 256) + 256) + 256) + 256) + 256) + 16) + 16) + 16) + 16) + 16 ≤ bs) ∧ (∀ b365_ : Nat, q_K S364_ b365_ = 0 → (((((((((((((((((((((((((((((((((((((((((((((((((((((((((((((((((((0 + 1) + 1) + 1) + 1) + 1) + 1) + 1) + 1) + 1) + 1) + 1) + 1) + 1) + 1) + 1) + 1) + 1) + 1) + 1) + 1) + 1) + 1) + 1) + 1) + 1) + 1) + 1) + 1) + 1) + 1) + 1) + 1) + 1) + 1) + 1) + 1) + 1) + 1) + 1) + 1) + 1) + 1) + 1) + 1) + 1) + 1) + 1) + 1) + 1) + 1) + 1) + 1) + 1) + 1) + 1) + 1) + 1) + 1) + 1) + 1) + 1) + 1) + 1) + 1) + 1) + 1 ≤ bc ∧ (((((((((((((((((((((((((((((((((((((((((((((((((((((((((((((((((0 + 20) + 4000) + 14000) + 16) + 16) + 16) + 16) + 96) + 96) + 96) + 16) + 1024) + 1024) + 1024) + 1024) + 96) + 256) + 256) + 256) + 256) + 256) + 256) + 16) + 128) + 128) + 128) + 128) + 128) + 256) + 256) + 256) + 16) + 80) + 24) + 24) + 24) + 24) + 24) + 96) + 24) + 24) + 24) + 131072) + 131072) + 256) + 256) + 256) + 256) + 256) + 256) + 256) + 256) + 256) + 256) + 8192) + 256) + 256) + 256) + 256) + 256) + 16) + 16) + 16) + 16) + 16) + 16 ≤ bs) ∧ (∀ b370_ : Nat, q_K (qs_P (qs_R S364_ 21 16 b365_) 2487 a0 (some b365_)) b370_ = 0 → (∀ S375_ : q_S, S375_ = (qs_R (qs_P (qs_R S364_ 21 16 b365_) 2487 a0 (some b365_)) 21 16 b370_) → ((((((((((((((((((((((((((((((((((((((((((((((((((((((((((((((((((((0 + 1) + 1) + 1) + 1) + 1) + 1) + 1) + 1) + 1) + 1) + 1) + 1) + 1) + 1) + 1) + 1) + 1) + 1) + 1) + 1) + 1) + 1) + 1) + 1) + 1) + 1) + 1) + 1) + 1) + 1) + 1) + 1) + 1) + 1) + 1) + 1) + 1) + 1) + 1) + 1) + 1) + 1) + 1) + 1) + 1) + 1) + 1) + 1) + 1) + 1) + 1) + 1) + 1) + 1) + 1) + 1) + 1) + 1) + 1) + 1) + 1) + 1) + 1) + 1) + 1) + 1) + 1 ≤ bc ∧ ((((((((((((((((((((((((((((((((((((((((((((((((((((((((((((((((((0 + 20) + 4000) + 14000) + 16) + 16) + 16) + 16) + 96) + 96) + 96) + 16) + 1024) + 1024) + 1024) + 1024) + 96) + 256) + 256) + 256) + 256) + 256) + 256) + 16) + 128) + 128) + 128) + 128) + 128) + 256) + 256) + 256) + 16) + 80) + 24) + 24) + 24) + 24) + 24) + 96) + 24) + 24) + 24) + 131072) + 131072) + 256) + 256) + 256) + 256) + 256) + 256) + 256) + 256) + 256) + 256) + 8192) + 256) + 256) + 256) + 256) + 256) + 16) + 16) + 16) + 16) + 16) + 16) + 16 ≤ bs) ∧ (∀ b376_ : Nat, q_K (qs_P S375_ 2488 a0 (some b370_)) b376_ = 0 → (∀ S381_ : q_S, S381_ = (qs_P (qs_R (qs_P S375_ 2488 a0 (some b370_)) 21 16 b376_) 2489 a0 (some b376_)) → (((((((((((((((((((((((((((((((((((((((((((((((((((((((((((((((((((((0 + 1) + 1) + 1) + 1) + 1) + 1) + 1) + 1) + 1) + 1) + 1) + 1) + 1) + 1) + 1) + 1) + 1) + 1) + 1) + 1) + 1) + 1) + 1) + 1) + 1) + 1) + 1) + 1) + 1) + 1) + 1) + 1) + 1) + 1) + 1) + 1) + 1) + 1) + 1) + 1) + 1) + 1) + 1) + 1) + 1) + 1) + 1) + 1) + 1) + 1) + 1) + 1) + 1) + 1) + 1) + 1) + 1) + 1) + 1) + 1) + 1) + 1) + 1) + 1) + 1) + 1) + 1) + 1 ≤ bc ∧ (((((((((((((((((((((((((((((((((((((((((((((((((((((((((((((((((((0 + 20) + 4000) + 14000) + 16) + 16) + 16) + 16) + 96) + 96) + 96) + 16) + 1024) + 1024) + 1024) + 1024) + 96) + 256) + 256) + 256) + 256) + 256) + 256) + 16) + 128) + 128) + 128) + 128) + 128) + 256) + 256) + 256) + 16) + 80) + 24) + 24) + 24) + 24) + 24) + 96) + 24) + 24) + 24) + 131072) + 131072) + 256) + 256) + 256) + 256) + 256) + 256) + 256) + 256) + 256) + 256) + 8192) + 256) + 256) + 256) + 256) + 256) + 16) + 16) + 16) + 16) + 16) + 16) + 16) + 16 ≤ bs) ∧ (∀ b382_ : Nat, q_K S381_ b382_ = 0 → ((((((((((((((((((((((((((((((((((((((((((((((((((((((((((((((((((((((0 + 1) + 1) + 1) + 1) + 1) + 1) + 1) + 1) + 1) + 1) + 1) + 1) + 1) + 1) + 1) + 1) + 1) + 1) + 1) + 1) + 1) + 1) + 1) + 1) + 1) + 1) + 1) + 1) + 1) + 1) + 1) + 1) + 1) + 1) + 1) + 1) + 1) + 1) + 1) + 1) + 1) + 1) + 1) + 1) + 1) + 1) + 1) + 1) + 1) + 1) + 1) + 1) + 1) + 1) + 1) + 1) + 1) + 1) + 1) + 1) + 1) + 1) + 1) + 1) + 1) + 1) + 1) + 1) + 1 ≤ bc ∧ ((((((((((((((((((((((((((((((((((((((((((((((((((((((((((((((((((((0 + 20) + 4000) + 14000) + 16) + 16) + 16) + 16) + 96) + 96) + 96) + 16) + 1024) + 1024) + 1024) + 1024) + 96) + 256) + 256) + 256) + 256) + 256) + 256) + 16) + 128) + 128) + 128) + 128) + 128) + 256) + 256) + 256) + 16) + 80) + 24) + 24) + 24) + 24) + 24) + 96) + 24) + 24) + 24) + 131072) + 131072) + 256) + 256) + 256) + 256) + 256) + 256) + 256) + 256) + 256) + 256) + 8192) + 256) + 256) + 256) + 256) + 256) + 16) + 16) + 16) + 16) + 16) + 16) + 16) + 16) + 16 ≤ bs) ∧ (∀ b387_ : Nat, q_K (qs_P (qs_R S381_ 21 16 b382_) 2490 a0 (some b382_)) b387_ = 0 → (∀ S392_ : q_S, S392_ = (qs_R (qs_P (qs_R S381_ 21 16 b382_) 2490 a0 (some b382_)) 21 16 b387_) → (((((((((((((((((((((((((((((((((((((((((((((((((((((((((((((((((((((((0 + 1) + 1) + 1) + 1) + 1) + 1) + 1) + 1) + 1) + 1) + 1) + 1) + 1) + 1) + 1) + 1) + 1) + 1) + 1) + 1) + 1) + 1) + 1) + 1) + 1) + 1) + 1) + 1) + 1) + 1) + 1) + 1) + 1) + 1) + 1) + 1) + 1) + 1) + 1) + 1) + 1) + 1) + 1) + 1) + 1) + 1) + 1) + 1) + 1) + 1) + 1) + 1) + 1) + 1) + 1) + 1) + 1) + 1) + 1) + 1) + 1) + 1) + 1) + 1) + 1) + 1) + 1) + 1) + 1) + 1 ≤ bc ∧ (((((((((((((((((((((((((((((((((((((((((((((((((((((((((((((((((((((0 + 20) + 4000) + 14000) + 16) + 16) + 16) + 16) + 96) + 96) + 96) + 16) + 1024) + 1024) + 1024) + 1024) + 96) + 256) + 256) + 256) + 256) + 256) + 256) + 16) + 128) + 128) + 128) + 128) + 128) + 256) + 256) + 256) + 16) + 80) + 24) + 24) + 24) + 24) + 24) + 96) + 24) + 24) + 24) + 131072) + 131072) + 256) + 256) + 256) + 256) + 256) + 256) + 256) + 256) + 256) + 256) + 8192) + 256) + 256) + 256) + 256) + 256) + 16) + 16) + 16) + 16) + 16) + 16) + 16) + 16) + 16) + 128 ≤ bs) ∧ (∀ b393_ : Nat, q_K (qs_P S392_ 2491 a0 (some b387_)) b393_ = 0 → (∀ S398_ : q_S, S398_ = (qs_P (qs_R (qs_P S392_ 2491 a0 (some b387_)) 21 128 b393_) 2492 a0 (some b393_)) → ((((((((((((((((((((((((((((((((((((((((((((((((((((((((((((((((((((((((0 + 1) + 1) + 1) + 1) + 1) + 1) + 1) + 1) + 1) + 1) + 1) + 1) + 1) + 1) + 1) + 1) + 1) + 1) + 1) + 1) + 1) + 1) + 1) + 1) + 1) + 1) + 1) + 1) + 1) + 1) + 1) + 1) + 1) + 1) + 1) + 1) + 1) + 1) + 1) + 1) + 1) + 1) + 1) + 1) + 1) + 1) + 1) + 1) + 1) + 1) + 1) + 1) + 1) + 1) + 1) + 1) + 1) + 1) + 1) + 1) + 1) + 1) + 1) + 1) + 1) + 1) + 1) + 1) + 1) + 1) + 1 ≤ bc ∧ ((((((((((((((((((((((((((((((((((((((((((((((((((((((((((((((((((((((0 + 20) + 4000) + 14000) + 16) + 16) + 16) + 16) + 96) + 96) + 96) + 16) + 1024) + 1024) + 1024) + 1024) + 96) + 256) + 256) + 256) + 256) + 256) + 256) + 16) + 128) + 128) + 128) + 128) + 128) + 256) + 256) + 256) + 16) + 80) + 24) + 24) + 24) + 24) + 24) + 96) + 24) + 24) + 24) + 131072) + 131072) + 256) + 256) + 256) + 256) + 256) + 256) + 256) + 256) + 256) + 256) + 8192) + 256) + 256) + 256) + 256) + 256) + 16) + 16) + 16) + 16) + 16) + 16) + 16) + 16) + 16) + 128) + 128 ≤ bs) ∧ (∀ b399_ : Nat, q_K S398_ b399_ = 0 → (((((((((((((((((((((((((((((((((((((((((((((((((((((((((((((((((((((((((0 + 1) + 1) + 1) + 1) + 1) + 1) + 1) + 1) + 1) + 1) + 1) + 1) + 1) + 1) + 1) + 1) + 1) + 1) + 1) + 1) + 1) + 1) + 1) + 1) + 1) + 1) + 1) + 1) + 1) + 1) + 1) + 1) + 1) + 1) + 1) + 1) + 1) + 1) + 1) + 1) + 1) + 1) + 1) + 1) + 1) + 1) + 1) + 1) + 1) + 1) + 1) + 1) + 1) + 1) + 1) + 1) + 1) + 1) + 1) + 1) + 1) + 1) + 1) + 1) + 1) + 1) + 1) + 1) + 1) + 1) + 1) + 1 ≤ bc ∧ (((((((((((((((((((((((((((((((((((((((((((((((((((((((((((((((((((((((0 + 20) + 4000) + 14000) + 16) + 16) + 16) + 16) + 96) + 96) + 96) + 16) + 1024) + 1024) + 1024) + 1024) + 96) + 256) + 256) + 256) + 256) + 256) + 256) + 16) + 128) + 128) + 128) + 128) + 128) + 256) + 256) + 256) + 16) + 80) + 24) + 24) + 24) + 24) + 24) + 96) + 24) + 24) + 24) + 131072) + 131072) + 256) + 256) + 256) + 256) + 256) + 256) + 256) + 256) + 256) + 256) + 8192) + 256) + 256) + 256) + 256) + 256) + 16) + 16) + 16) + 16) + 16) + 16) + 16) + 16) + 16) + 128) + 128) + 128 ≤ bs) ∧ (∀ b404_ : Nat, q_K (qs_P (qs_R S398_ 22 128 b399_) 2493 a0 (some b399_)) b404_ = 0 → (∀ S409_ : q_S, S409_ = (qs_R (qs_P (qs_R S398_ 22 128 b399_) 2493 a0 (some b399_)) 21 128 b404_) → ((((((((((((((((((((((((((((((((((((((((((((((((((((((((((((((((((((((((((0 + 1) + 1) + 1) + 1) + 1) + 1) + 1) + 1) + 1) + 1) + 1) + 1) + 1) + 1) + 1) + 1) + 1) + 1) + 1) + 1) + 1) + 1) + 1) + 1) + 1) + 1) + 1) + 1) + 1) + 1) + 1) + 1) + 1) + 1) + 1) + 1) + 1) + 1) + 1) + 1) + 1) + 1) + 1) + 1) + 1) + 1) + 1) + 1) + 1) + 1) + 1) + 1) + 1) + 1) + 1) + 1) + 1) + 1) + 1) + 1) + 1) + 1) + 1) + 1) + 1) + 1) + 1) + 1) + 1) + 1) + 1) + 1) + 1 ≤ bc ∧ ((((((((((((((((((((((((((((((((((((((((((((((((((((((((((((((((((((((((0 + 20) + 4000) + 14000) + 16) + 16) + 16) + 16) + 96) + 96) + 96) + 16) + 1024) + 1024) + 1024) + 1024) + 96) + 256) + 256) + 256) + 256) + 256) + 256) + 16) + 128) + 128) + 128) + 128) + 128) + 256) + 256) + 256) + 16) + 80) + 24) + 24) + 24) + 24) + 24) + 96) + 24) + 24) + 24) + 131072) + 131072) + 256) + 256) + 256) + 256) + 256) + 256) + 256) + 256) + 256) + 256) + 8192) + 256) + 256) + 256) + 256) + 256) + 16) + 16) + 16) + 16) + 16) + 16) + 16) + 16) + 16) + 128) + 128) + 128) + 2048 ≤ bs) ∧ (∀ b410_ : Nat, q_K (qs_P S409_ 2494 a0 (some b404_)) b410_ = 0 → (∀ S415_ : q_S, S415_ = (qs_P (qs_R (qs_P S409_ 2494 a0 (some b404_)) 21 2048 b410_) 2495 a0 (some b410_)) → (((((((((((((((((((((((((((((((((((((((((((((((((((((((((((((((((((((((((((0 + 1) + 1) + 1) + 1) + 1) + 1) + 1) + 1) + 1) + 1) + 1) + 1) + 1) + 1) + 1) + 1) + 1) + 1) + 1) + 1) + 1) + 1) + 1) + 1) + 1) + 1) + 1) + 1) + 1) + 1) + 1) + 1) + 1) + 1) + 1) + 1) + 1) + 1) + 1) + 1) + 1) + 1) + 1) + 1) + 1) + 1) + 1) + 1) + 1) + 1) + 1) + 1) + 1) + 1) + 1) + 1) + 1) + 1) + 1) + 1) + 1) + 1) + 1) + 1) + 1) + 1) + 1) + 1) + 1) + 1) + 1) + 1) + 1) + 1 ≤ bc ∧ (((((((((((((((((((((((((((((((((((((((((((((((((((((((((((((((((((((((((0 + 20) + 4000) + 14000) + 16) + 16) + 16) + 16) + 96) + 96) + 96) + 16) + 1024) + 1024) + 1024) + 1024) + 96) + 256) + 256) + 256) + 256) + 256) + 256) + 16) + 128) + 128) + 128) + 128) + 128) + 256) + 256) + 256) + 16) + 80) + 24) + 24) + 24) + 24) + 24) + 96) + 24) + 24) + 24) + 131072) + 131072) + 256) + 256) + 256) + 256) + 256) + 256) + 256) + 256) + 256) + 256) + 8192) + 256) + 256) + 256) + 256) + 256) + 16) + 16) + 16) + 16) + 16) + 16) + 16) + 16) + 16) + 128) + 128) + 128) + 2048) + 128 ≤ bs) ∧ (∀ b416_ : Nat, q_K S415_ b416_ = 0 → ((((((((((((((((((((((((((((((((((((((((((((((((((((((((((((((((((((((((((((0 + 1) + 1) + 1) + 1) + 1) + 1) + 1) + 1) + 1) + 1) + 1) + 1) + 1) + 1) + 1) + 1) + 1) + 1) + 1) + 1) + 1) + 1) + 1) + 1) + 1) + 1) + 1) + 1) + 1) + 1) + 1) + 1) + 1) + 1) + 1) + 1) + 1) + 1) + 1) + 1) + 1) + 1) + 1) + 1) + 1) + 1) + 1) + 1) + 1) + 1) + 1) + 1) + 1) + 1) + 1) + 1) + 1) + 1) + 1) + 1) + 1) + 1) + 1) + 1) + 1) + 1) + 1) + 1) + 1) + 1) + 1) + 1) + 1) + 1) + 1 ≤ bc ∧ ((((((((((((((((((((((((((((((((((((((((((((((((((((((((((((((((((((((((((0 + 20) + 4000) + 14000) + 16) + 16) + 16) + 16) + 96) + 96) + 96) + 16) + 1024) + 1024) + 1024) + 1024) + 96) + 256) + 256) + 256) + 256) + 256) + 256) + 16) + 128) + 128) + 128) + 128) + 128) + 256) + 256) + 256) + 16) + 80) + 24) + 24) + 24) + 24) + 24) + 96) + 24) + 24) + 24) + 131072) + 131072) + 256) + 256) + 256) + 256) + 256) + 256) + 256) + 256) + 256) + 256) + 8192) + 256) + 256) + 256) + 256) + 256) + 16) + 16) + 16) + 16) + 16) + 16) + 16) + 16) + 16) + 128) + 128) + 128) + 2048) + 128) + 128 ≤ bs) ∧ (∀ b421_ : Nat, q_K (qs_P (qs_R S415_ 22 128 b416_) 2496 a0 (some b416_)) b421_ = 0 → (∀ S426_ : q_S, S426_ = (qs_R (qs_P (qs_R S415_ 22 128 b416_) 2496 a0 (some b416_)) 21 128 b421_) → (((((((((((((((((((((((((((((((((((((((((((((((((((((((((((((((((((((((((((((0 + 1) + 1) + 1) + 1) + 1) + 1) + 1) + 1) + 1) + 1) + 1) + 1) + 1) + 1) + 1) + 1) + 1) + 1) + 1) + 1) + 1) + 1) + 1) + 1) + 1) + 1) + 1) + 1) + 1) + 1) + 1) + 1) + 1) + 1) + 1) + 1) + 1) + 1) + 1) + 1) + 1) + 1) + 1) + 1) + 1) + 1) + 1) + 1) + 1) + 1) + 1) + 1) + 1) + 1) + 1) + 1) + 1) + 1) + 1) + 1) + 1) + 1) + 1) + 1) + 1) + 1) + 1) + 1) + 1) + 1) + 1) + 1) + 1) + 1) + 1) + 1 ≤ bc ∧ (((((((((((((((((((((((((((((((((((((((((((((((((((((((((((((((((((((((((((0 + 20) + 4000) + 14000) + 16) + 16) + 16) + 16) + 96) + 96) + 96) + 16) + 1024) + 1024) + 1024) + 1024) + 96) + 256) + 256) + 256) + 256) + 256) + 256) + 16) + 128) + 128) + 128) + 128) + 128) + 256) + 256) + 256) + 16) + 80) + 24) + 24) + 24) + 24) + 24) + 96) + 24) + 24) + 24) + 131072) + 131072) + 256) + 256) + 256) + 256) + 256) + 256) + 256) + 256) + 256) + 256) + 8192) + 256) + 256) + 256) + 256) + 256) + 16) + 16) + 16) + 16) + 16) + 16) + 16) + 16) + 16) + 128) + 128) + 128) + 2048) + 128) + 128) + 24 ≤ bs) ∧ (∀ b427_ : Nat, q_K (qs_P S426_ 2497 a0 (some b421_)) b427_ = 0 → (∀ S432_ : q_S, S432_ = (qs_P (qs_R (qs_P S426_ 2497 a0 (some b421_)) 22 24 b427_) 2498 a0 (some b427_)) → ((((((((((((((((((((((((((((((((((((((((((((((((((((((((((((((((((((((((((((((0 + 1) + 1) + 1) + 1) + 1) + 1) + 1) + 1) + 1) + 1) + 1) + 1) + 1) + 1) + 1) + 1) + 1) + 1) + 1) + 1) + 1) + 1) + 1) + 1) + 1) + 1) + 1) + 1) + 1) + 1) + 1) + 1) + 1) + 1) + 1) + 1) + 1) + 1) + 1) + 1) + 1) + 1) + 1) + 1) + 1) + 1) + 1) + 1) + 1) + 1) + 1) + 1) + 1) + 1) + 1) + 1) + 1) + 1) + 1) + 1) + 1) + 1) + 1) + 1) + 1) + 1) + 1) + 1) + 1) + 1) + 1) + 1) + 1) + 1) + 1) + 1) + 1 ≤ bc ∧ ((((((((((((((((((((((((((((((((((((((((((((((((((((((((((((((((((((((((((((0 + 20) + 4000) + 14000) + 16) + 16) + 16) + 16) + 96) + 96) + 96) + 16) + 1024) + 1024) + 1024) + 1024) + 96) + 256) + 256) + 256) + 256) + 256) + 256) + 16) + 128) + 128) + 128) + 128) + 128) + 256) + 256) + 256) + 16) + 80) + 24) + 24) + 24) + 24) + 24) + 96) + 24) + 24) + 24) + 131072) + 131072) + 256) + 256) + 256) + 256) + 256) + 256) + 256) + 256) + 256) + 256) + 8192) + 256) + 256) + 256) + 256) + 256) + 16) + 16) + 16) + 16) + 16) + 16) + 16) + 16) + 16) + 128) + 128) + 128) + 2048) + 128) + 128) + 24) + 24 ≤ bs) ∧ (∀ b433_ : Nat, q_K S432_ b433_ = 0 → (((((((((((((((((((((((((((((((((((((((((((((((((((((((((((((((((((((((((((((((0 + 1) + 1) + 1) + 1) + 1) + 1) + 1) + 1) + 1) + 1) + 1) + 1) + 1) + 1) + 1) + 1) + 1) + 1) + 1) + 1) + 1) + 1) + 1) + 1) + 1) + 1) + 1) + 1) + 1) + 1) + 1) + 1) + 1) + 1) + 1) + 1) + 1) + 1) + 1) + 1) + 1) + 1) + 1) + 1) + 1) + 1) + 1) + 1) + 1) + 1) + 1) + 1) + 1) + 1) + 1) + 1) + 1) + 1) + 1) + 1) + 1) + 1) + 1) + 1) + 1) + 1) + 1) + 1) + 1) + 1) + 1) + 1) + 1) + 1) + 1) + 1) + 1) + 1 ≤ bc ∧ (((((((((((((((((((((((((((((((((((((((((((((((((((((((((((((((((((((((((((((0 + 20) + 4000) + 14000) + 16) + 16) + 16) + 16) + 96) + 96) + 96) + 16) + 1024) + 1024) + 1024) + 1024) + 96) + 256) + 256) + 256) + 256) + 256) + 256) + 16) + 128) + 128) + 128) + 128) + 128) + 256) + 256) + 256) + 16) + 80) + 24) + 24) + 24) + 24) + 24) + 96) + 24) + 24) + 24) + 131072) + 131072) + 256) + 256) + 256) + 256) + 256) + 256) + 256) + 256) + 256) + 256) + 8192) + 256) + 256) + 256) + 256) + 256) + 16) + 16) + 16) + 16) + 16) + 16) + 16) + 16) + 16) + 128) + 128) + 128) + 2048) + 128) + 128) + 24) + 24) + 24 ≤ bs) ∧ (∀ b438_ : Nat, q_K (qs_P (qs_R S432_ 21 24 b433_) 2499 a0 (some b433_)) b438_ = 0 → (∀ S443_ : q_S, S443_ = (qs_R (qs_P (qs_R S432_ 21 24 b433_) 2499 a0 (some b433_)) 21 24 b438_) → ((((((((((((((((((((((((((((((((((((((((((((((((((((((((((((((((((((((((((((((((0 + 1) + 1) + 1) + 1) + 1) + 1) + 1) + 1) + 1) + 1) + 1) + 1) + 1) + 1) + 1) + 1) + 1) + 1) + 1) + 1) + 1) + 1) + 1) + 1) + 1) + 1) + 1) + 1) + 1) + 1) + 1) + 1) + 1) + 1) + 1) + 1) + 1) + 1) + 1) + 1) + 1) + 1) + 1) + 1) + 1) + 1) + 1) + 1) + 1) + 1) + 1) + 1) + 1) + 1) + 1) + 1) + 1) + 1) + 1) + 1) + 1) + 1) + 1) + 1) + 1) + 1) + 1) + 1) + 1) + 1) + 1) + 1) + 1) + 1) + 1) + 1) + 1) + 1) + 1 ≤ bc ∧ ((((((((((((((((((((((((((((((((((((((((((((((((((((((((((((((((((((((((((((((0 + 20) + 4000) + 14000) + 16) + 16) + 16) + 16) + 96) + 96) + 96) + 16) + 1024) + 1024) + 1024) + 1024) + 96) + 256) + 256) + 256) + 256) + 256) + 256) + 16) + 128) + 128) + 128) + 128) + 128) + 256) + 256) + 256) + 16) + 80) + 24) + 24) + 24) + 24) + 24) + 96) + 24) + 24) + 24) + 131072) + 131072) + 256) + 256) + 256) + 256) + 256) + 256) + 256) + 256) + 256) + 256) + 8192) + 256) + 256) + 256) + 256) + 256) + 16) + 16) + 16) + 16) + 16) + 16) + 16) + 16) + 16) + 128) + 128) + 128) + 2048) + 128) + 128) + 24) + 24) + 24) + 24 ≤ bs) ∧ (∀ b444_ : Nat, q_K (qs_P S443_ 2500 a0 (some b438_)) b444_ = 0 → (∀ S449_ : q_S, S449_ = (qs_P (qs_R (qs_P S443_ 2500 a0 (some b438_)) 21 24 b444_) 2501 a0 (some b444_)) → (((((((((((((((((((((((((((((((((((((((((((((((((((((((((((((((((((((((((((((((((0 + 1) + 1) + 1) + 1) + 1) + 1) + 1) + 1) + 1) + 1) + 1) + 1) + 1) + 1) + 1) + 1) + 1) + 1) + 1) + 1) + 1) + 1) + 1) + 1) + 1) + 1) + 1) + 1) + 1) + 1) + 1) + 1) + 1) + 1) + 1) + 1) + 1) + 1) + 1) + 1) + 1) + 1) + 1) + 1) + 1) + 1) + 1) + 1) + 1) + 1) + 1) + 1) + 1) + 1) + 1) + 1) + 1) + 1) + 1) + 1) + 1) + 1) + 1) + 1) + 1) + 1) + 1) + 1) + 1) + 1) + 1) + 1) + 1) + 1) + 1) + 1) + 1) + 1) + 1) + 1 ≤ bc ∧ (((((((((((((((((((((((((((((((((((((((((((((((((((((((((((((((((((((((((((((((0 + 20) + 4000) + 14000) + 16) + 16) + 16) + 16) + 96) + 96) + 96) + 16) + 1024) + 1024) + 1024) + 1024) + 96) + 256) + 256) + 256) + 256) + 256) + 256) + 16) + 128) + 128) + 128) + 128) + 128) + 256) + 256) + 256) + 16) + 80) + 24) + 24) + 24) + 24) + 24) + 96) + 24) + 24) + 24) + 131072) + 131072) + 256) + 256) + 256) + 256) + 256) + 256) + 256) + 256) + 256) + 256) + 8192) + 256) + 256) + 256) + 256) + 256) + 16) + 16) + 16) + 16) + 16) + 16) + 16) + 16) + 16) + 128) + 128) + 128) + 2048) + 128) + 128) + 24) + 24) + 24) + 24) + 768 ≤ bs) ∧ (∀ b450_ : Nat, q_K S449_ b450_ = 0 → ((((((((((((((((((((((((((((((((((((((((((((((((((((((((((((((((((((((((((((((((((0 + 1) + 1) + 1) + 1) + 1) + 1) + 1) + 1) + 1) + 1) + 1) + 1) + 1) + 1) + 1) + 1) + 1) + 1) + 1) + 1) + 1) + 1) + 1) + 1) + 1) + 1) + 1) + 1) + 1) + 1) + 1) + 1) + 1) + 1) + 1) + 1) + 1) + 1) + 1) + 1) + 1) + 1) + 1) + 1) + 1) + 1) + 1) + 1) + 1) + 1) + 1) + 1) + 1) + 1) + 1) + 1) + 1) + 1) + 1) + 1) + 1) + 1) + 1) + 1) + 1) + 1) + 1) + 1) + 1) + 1) + 1) + 1) + 1) + 1) + 1) + 1) + 1) + 1) + 1) + 1) + 1 ≤ bc ∧ ((((((((((((((((((((((((((((((((((((((((((((((((((((((((((((((((((((((((((((((((0 + 20) + 4000) + 14000) + 16) + 16) + 16) + 16) + 96) + 96) + 96) + 16) + 1024) + 1024) + 1024) + 1024) + 96) + 256) + 256) + 256) + 256) + 256) + 256) + 16) + 128) + 128) + 128) + 128) + 128) + 256) + 256) + 256) + 16) + 80) + 24) + 24) + 24) + 24) + 24) + 96) + 24) + 24) + 24) + 131072) + 131072) + 256) + 256) + 256) + 256) + 256) + 256) + 256) + 256) + 256) + 256) + 8192) + 256) + 256) + 256) + 256) + 256) + 16) + 16) + 16) + 16) + 16) + 16) + 16) + 16) + 16) + 128) + 128) + 128) + 2048) + 128) + 128) + 24) + 24) + 24) + 24) + 768) + 24 ≤ bs) ∧ (∀ b455_ : Nat, q_K (qs_P (qs_R S449_ 21 768 b450_) 2502 a0 (some b450_)) b455_ = 0 → (∀ S460_ : q_S, S460_ = (qs_R (qs_P (qs_R S449_ 21 768 b450_) 2502 a0 (some b450_)) 21 24 b455_) → (((((((((((((((((((((((((((((((((((((((((((((((((((((((((((((((((((((((((((((((((((0 + 1) + 1) + 1) + 1) + 1) + 1) + 1) + 1) + 1) + 1) + 1) + 1) + 1) + 1) + 1) + 1) + 1) + 1) + 1) + 1) + 1) + 1) + 1) + 1) + 1) + 1) + 1) + 1) + 1) + 1) + 1) + 1) + 1) + 1) + 1) + 1) + 1) + 1) + 1) + 1) + 1) + 1) + 1) + 1) + 1) + 1) + 1) + 1) + 1) + 1) + 1) + 1) + 1) + 1) + 1) + 1) + 1) + 1) + 1) + 1) + 1) + 1) + 1) + 1) + 1) + 1) + 1) + 1) + 1) + 1) + 1) + 1) + 1) + 1) + 1) + 1) + 1) + 1) + 1) + 1) + 1) + 1 ≤ bc ∧ (((((((((((((((((((((((((((((((((((((((((((((((((((((((((((((((((((((((((((((((((0 + 20) + 4000) + 14000) + 16) + 16) + 16) + 16) + 96) + 96) + 96) + 16) + 1024) + 1024) + 1024) + 1024) + 96) + 256) + 256) + 256) + 256) + 256) + 256) + 16) + 128) + 128) + 128) + 128) + 128) + 256) + 256) + 256) + 16) + 80) + 24) + 24) + 24) + 24) + 24) + 96) + 24) + 24) + 24) + 131072) + 131072) + 256) + 256) + 256) + 256) + 256) + 256) + 256) + 256) + 256) + 256) + 8192) + 256) + 256) + 256) + 256) + 256) + 16) + 16) + 16) + 16) + 16) + 16) + 16) + 16) + 16) + 128) + 128) + 128) + 2048) + 128) + 128) + 24) + 24) + 24) + 24) + 768) + 24) + 24 ≤ bs) ∧ (∀ b461_ : Nat, q_K (qs_P S460_ 2503 a0 (some b455_)) b461_ = 0 → (∀ S466_ : q_S, S466_ = (qs_P (qs_R (qs_P S460_ 2503 a0 (some b455_)) 21 24 b461_) 2504 a0 (some b461_)) → ((((((((((((((((((((((((((((((((((((((((((((((((((((((((((((((((((((((((((((((((((((0 + 1) + 1) + 1) + 1) + 1) + 1) + 1) + 1) + 1) + 1) + 1) + 1) + 1) + 1) + 1) + 1) + 1) + 1) + 1) + 1) + 1) + 1) + 1) + 1) + 1) + 1) + 1) + 1) + 1) + 1) + 1) + 1) + 1) + 1) + 1) + 1) + 1) + 1) + 1) + 1) + 1) + 1) + 1) + 1) + 1) + 1) + 1) + 1) + 1) + 1) + 1) + 1) + 1) + 1) + 1) + 1) + 1) + 1) + 1) + 1) + 1) + 1) + 1) + 1) + 1) + 1) + 1) + 1) + 1) + 1) + 1) + 1) + 1) + 1) + 1) + 1) + 1) + 1) + 1) + 1) + 1) + 1) + 1 ≤ bc ∧ ((((((((((((((((((((((((((((((((((((((((((((((((((((((((((((((((((((((((((((((((((0 + 20) + 4000) + 14000) + 16) + 16) + 16) + 16) + 96) + 96) + 96) + 16) + 1024) + 1024) + 1024) + 1024) + 96) + 256) + 256) + 256) + 256) + 256) + 256) + 16) + 128) + 128) + 128) + 128) + 128) + 256) + 256) + 256) + 16) + 80) + 24) + 24) + 24) + 24) + 24) + 96) + 24) + 24) + 24) + 131072) + 131072) + 256) + 256) + 256) + 256) + 256) + 256) + 256) + 256) + 256) + 256) + 8192) + 256) + 256) + 256) + 256) + 256) + 16) + 16) + 16) + 16) + 16) + 16) + 16) + 16) + 16) + 128) + 128) + 128) + 2048) + 128) + 128) + 24) + 24) + 24) + 24) + 768) + 24) + 24) + 24 ≤ bs) ∧ (∀ b467_ : Nat, q_K S466_ b467_ = 0 → (((((((((((((((((((((((((((((((((((((((((((((((((((((((((((((((((((((((((((((((((((((0 + 1) + 1) + 1) + 1) + 1) + 1) + 1) + 1) + 1) + 1) + 1) + 1) + 1) + 1) + 1) + 1) + 1) + 1) + 1) + 1) + 1) + 1) + 1) + 1) + 1) + 1) + 1) + 1) + 1) + 1) + 1) + 1) + 1) + 1) + 1) + 1) + 1) + 1) + 1) + 1) + 1) + 1) + 1) + 1) + 1) + 1) + 1) + 1) + 1) + 1) + 1) + 1) + 1) + 1) + 1) + 1) + 1) + 1) + 1) + 1) + 1) + 1) + 1) + 1) + 1) + 1) + 1) + 1) + 1) + 1) + 1) + 1) + 1) + 1) + 1) + 1) + 1) + 1) + 1) + 1) + 1) + 1) + 1) + 1 ≤ bc ∧ (((((((((((((((((((((((((((((((((((((((((((((((((((((((((((((((((((((((((((((((((((0 + 20) + 4000) + 14000) + 16) + 16) + 16) + 16) + 96) + 96) + 96) + 16) + 1024) + 1024) + 1024) + 1024) + 96) + 256) + 256) + 256) + 256) + 256) + 256) + 16) + 128) + 128) + 128) + 128) + 128) + 256) + 256) + 256) + 16) + 80) + 24) + 24) + 24) + 24) + 24) + 96) + 24) + 24) + 24) + 131072) + 131072) + 256) + 256) + 256) + 256) + 256) + 256) + 256) + 256) + 256) + 256) + 8192) + 256) + 256) + 256) + 256) + 256) + 16) + 16) + 16) + 16) + 16) + 16) + 16) + 16) + 16) + 128) + 128) + 128) + 2048) + 128) + 128) + 24) + 24) + 24) + 24) + 768) + 24) + 24) + 24) + 1440 ≤ bs) ∧ (∀ b472_ : Nat, q_K (qs_P (qs_R S466_ 21 24 b467_) 2505 a0 (some b467_)) b472_ = 0 → (∀ S477_ : q_S, S477_ = (qs_R (qs_P (qs_R S466_ 21 24 b467_) 2505 a0 (some b467_)) 21 1440 b472_) → ((((((((((((((((((((((((((((((((((((((((((((((((((((((((((((((((((((((((((((((((((((((0 + 1) + 1) + 1) + 1) + 1) + 1) + 1) + 1) + 1) + 1) + 1) + 1) + 1) + 1) + 1) + 1) + 1) + 1) + 1) + 1) + 1) + 1) + 1) + 1) + 1) + 1) + 1) + 1) + 1) + 1) + 1) + 1) + 1) + 1) + 1) + 1) + 1) + 1) + 1) + 1) + 1) + 1) + 1) + 1) + 1) + 1) + 1) + 1) + 1) + 1) + 1) + 1) + 1) + 1) + 1) + 1) + 1) + 1) + 1) + 1) + 1) + 1) + 1) + 1) + 1) + 1) + 1) + 1) + 1) + 1) + 1) + 1) + 1) + 1) + 1) + 1) + 1) + 1) + 1) + 1) + 1) + 1) + 1) + 1) + 1 ≤ bc ∧ ((((((((((((((((((((((((((((((((((((((((((((((((((((((((((((((((((((((((((((((((((((0 + 20) + 4000) + 14000) + 16) + 16) + 16) + 16) + 96) + 96) + 96) + 16) + 1024) + 1024) + 1024) + 1024) + 96) + 256) + 256) + 256) + 256) + 256) + 256) + 16) + 128) + 128) + 128) + 128) + 128) + 256) + 256) + 256) + 16) + 80) + 24) + 24) + 24) + 24) + 24) + 96) + 24) + 24) + 24) + 131072) + 131072) + 256) + 256) + 256) + 256) + 256) + 256) + 256) + 256) + 256) + 256) + 8192) + 256) + 256) + 256) + 256) + 256) + 16) + 16) + 16) + 16) + 16) + 16) + 16) + 16) + 16) + 128) + 128) + 128) + 2048) + 128) + 128) + 24) + 24) + 24) + 24) + 768) + 24) + 24) + 24) + 1440) + 1440 ≤ bs) ∧ (∀ b478_ : Nat, q_K (qs_P S477_ 2506 a0 (some b472_)) b478_ = 0 → (∀ S483_ : q_S, S483_ = (qs_P (qs_R (qs_P S477_ 2506 a0 (some b472_)) 21 1440 b478_) 2507 a0 (some b478_)) → (((((((((((((((((((((((((((((((((((((((((((((((((((((((((((((((((((((((((((((((((((((((0 + 1) + 1) + 1) + 1) + 1) + 1) + 1) + 1) + 1) + 1) + 1) + 1) + 1) + 1) + 1) + 1) + 1) + 1) + 1) + 1) + 1) + 1) + 1) + 1) + 1) + 1) + 1) + 1) + 1) + 1) + 1) + 1) + 1) + 1) + 1) + 1) + 1) + 1) + 1) + 1) + 1) + 1) + 1) + 1) + 1) + 1) + 1) + 1) + 1) + 1) + 1) + 1) + 1) + 1) + 1) + 1) + 1) + 1) + 1) + 1) + 1) + 1) + 1) + 1) + 1) + 1) + 1) + 1) + 1) + 1) + 1) + 1) + 1) + 1) + 1) + 1) + 1) + 1) + 1) + 1) + 1) + 1) + 1) + 1) + 1) + 1 ≤ bc ∧ (((((((((((((((((((((((((((((((((((((((((((((((((((((((((((((((((((((((((((((((((((((0 + 20) + 4000) + 14000) + 16) + 16) + 16) + 16) + 96) + 96) + 96) + 16) + 1024) + 1024) + 1024) + 1024) + 96) + 256) + 256) + 256) + 256) + 256) + 256) + 16) + 128) + 128) + 128) + 128) + 128) + 256) + 256) + 256) + 16) + 80) + 24) + 24) + 24) + 24) + 24) + 96) + 24) + 24) + 24) + 131072) + 131072) + 256) + 256) + 256) + 256) + 256) + 256) + 256) + 256) + 256) + 256) + 8192) + 256) + 256) + 256) + 256) + 256) + 16) + 16) + 16) + 16) + 16) + 16) + 16) + 16) + 16) + 128) + 128) + 128) + 2048) + 128) + 128) + 24) + 24) + 24) + 24) + 768) + 24) + 24) + 24) + 1440) + 1440) + 900 ≤ bs) ∧ (∀ b484_ : Nat, q_K S483_ b484_ = 0 → ((((((((((((((((((((((((((((((((((((((((((((((((((((((((((((((((((((((((((((((((((((((((0 + 1) + 1) + 1) + 1) + 1) + 1) + 1) + 1) + 1) + 1) + 1) + 1) + 1) + 1) + 1) + 1) + 1) + 1) + 1) + 1) + 1) + 1) + 1) + 1) + 1) + 1) + 1) + 1) + 1) + 1) + 1) + 1) + 1) + 1) + 1) + 1) + 1) + 1) + 1) + 1) + 1) + 1) + 1) + 1) + 1) + 1) + 1) + 1) + 1) + 1) + 1) + 1) + 1) + 1) + 1) + 1) + 1) + 1) + 1) + 1) + 1) + 1) + 1) + 1) + 1) + 1) + 1) + 1) + 1) + 1) + 1) + 1) + 1) + 1) + 1) + 1) + 1) + 1) + 1) + 1) + 1) + 1) + 1) + 1) + 1) + 1) + 1 ≤ bc ∧ ((((((((((((((((((((((((((((((((((((((((((((((((((((((((((((((((((((((((((((((((((((((0 + 20) + 4000) + 14000) + 16) + 16) + 16) + 16) + 96) + 96) + 96) + 16) + 1024) + 1024) + 1024) + 1024) + 96) + 256) + 256) + 256) + 256) + 256) + 256) + 16) + 128) + 128) + 128) + 128) + 128) + 256) + 256) + 256) + 16) + 80) + 24) + 24) + 24) + 24) + 24) + 96) + 24) + 24) + 24) + 131072) + 131072) + 256) + 256) + 256) + 256) + 256) + 256) + 256) + 256) + 256) + 256) + 8192) + 256) + 256) + 256) + 256) + 256) + 16) + 16) + 16) + 16) + 16) + 16) + 16) + 16) + 16) + 128) + 128) + 128) + 2048) + 128) + 128) + 24) + 24) + 24) + 24) + 768) + 24) + 24) + 24) + 1440) + 1440) + 900) + 384 ≤ bs) ∧ (∀ b489_ : Nat, q_K (qs_P (qs_R S483_ 21 900 b484_) 2511 a0 (some b484_)) b489_ = 0 → (∀ S494_ : q_S, S494_ = (qs_R (qs_P (qs_R S483_ 21 900 b484_) 2511 a0 (some b484_)) 21 384 b489_) → (Q none (qs_P S494_ 2512 a0 (some b489_)))))))))))))))))))))))))))))))))))))))))))))))))))))))))))))))))))))))))))))))))))))))))))))))))))))))))))))))))))))))))))))))))))))))))))))))))))))))))))))))))))))))))))))))))))))))))))))))))))))))))))))))))))))))))))))))))))))))))))
set_option maxHeartbeats 4000000 in
set_option maxRecDepth 100000 in
theorem cm_X12_init {l : Launch} {D : va_G} {cy : Nat → ClassId} {lo : Nat} {bc bs : Nat} {S : q_S} {a0 : Nat} {Q : Option Value → q_S → Prop} (h : wm_X12_init bc bs S a0 Q) : q_Met l D cy lo yX12_init cX12_init 1 none 1 20 bc bs [.ref a0] S Q := by
  refine q_body (by decide) (by first | exact Nat.le_of_ble_eq_true rfl | simp [lg_sl, q_cat, q_catI, q_catJ, q_catR]) ?_
  intro p e s m below meth c ls X hnm Y hl
  have hx := X.1
  have hb := X.2.1
  have hl : lv_has ls 1 [(0, .ref a0)] := by first | exact hl | simpa [lv_args, q_cat, q_catI, q_catJ, q_catR] using hl
  generalize hargs : ([.ref a0] : List Value).toArray = args at X ⊢
  have hu : 0 ≤ bc ∧ 0 ≤ bs := ⟨Nat.zero_le _, Nat.zero_le _⟩
  unfold wm_X12_init at h
  refine lv_aload_n hx hb dX12_init_0 rfl (lv_at hl 0 rfl) ?_
  refine q_obj X hl ml_X12_1 oi_ oc_ ⟨Nat.le_of_ble_eq_true rfl, (by first | exact Nat.le_of_ble_eq_true rfl | simp [q_cat, q_catI, q_catJ, q_catR])⟩ dX12_init_1 ?_
  refine lv_aload_n hx hb dX12_init_4 rfl (lv_at hl 0 rfl) ?_
  refine lv_bipush (v := 20) hx hb dX12_init_5 (by decide) ?_
  obtain ⟨w4_, h⟩ := h
  refine q_newa X Y (k := 20) (t := 0) (n := 20) (ty := .byte) rfl (by decide) rfl (fun _ _ => rfl) (by first | exact rfl | decide | simp [defaultValue]) ar_byte (by decide) (by decide) (by decide) w4_ dX12_init_7 (fun b1_ H h2_ h3_ Y => ?_)
  replace h := h b1_ h2_
  replace hu := w4_
  have k5_ : q_K (qs_R S 20 20 b1_) b1_ = 20 := qs_R_Ks
  obtain ⟨k6_, h⟩ := h
  refine q_putP X Y (some b1_) rfl kX12 1 rfl fl_X12_7 k6_ _ rfl (Or.inr ⟨_, rfl⟩) (Or.inr ⟨rfl, hnm, rfl⟩) dX12_init_9 (fun H locs Y => ?_)
  refine lv_aload_n hx hb dX12_init_12 rfl (lv_at hl 0 rfl) ?_
  refine lv_sipush (v := 4000) hx hb dX12_init_13 (by decide) ?_
  obtain ⟨w10_, h⟩ := h
  refine q_newa X Y (k := 20) (t := 0) (n := 4000) (ty := .byte) rfl (by decide) rfl (fun _ _ => rfl) (by first | exact rfl | decide | simp [defaultValue]) ar_byte (by decide) (by decide) (by decide) w10_ dX12_init_16 (fun b7_ H h8_ h9_ Y => ?_)
  replace h := h b7_ h8_
  replace hu := w10_
  replace k5_ := qs_R_keep (j := 20) (n := 4000) h8_ k5_ (by decide)
  replace k6_ := qs_R_keep (j := 20) (n := 4000) h8_ k6_ (by decide)
  have k11_ : q_K (qs_R (qs_P (qs_R S 20 20 b1_) 2401 a0 (some b1_)) 20 4000 b7_) b7_ = 20 := qs_R_Ks
  obtain ⟨S12_, gS12_⟩ : ∃ z : q_S, z = (qs_R (qs_P (qs_R S 20 20 b1_) 2401 a0 (some b1_)) 20 4000 b7_) := ⟨_, rfl⟩
  replace Y : q_Y D cy lo s S12_ H locs := by rw [gS12_]; exact Y
  replace h := h S12_ gS12_
  replace k5_ : q_K S12_ b1_ = 20 := by rw [gS12_]; exact k5_
  replace k6_ : q_K S12_ a0 = 13 := by rw [gS12_]; exact k6_
  replace k11_ : q_K S12_ b7_ = 20 := by rw [gS12_]; exact k11_
  refine q_putP X Y (some b7_) rfl kX12 2 rfl fl_X12_13 k6_ _ rfl (Or.inr ⟨_, rfl⟩) (Or.inr ⟨rfl, hnm, rfl⟩) dX12_init_18 (fun H locs Y => ?_)
  refine lv_aload_n hx hb dX12_init_21 rfl (lv_at hl 0 rfl) ?_
  refine lv_iconst (v := (-1)) hx hb dX12_init_22 (by decide) ?_
  refine q_putI X Y kX12 12 rfl fl_X12_16 k6_ .int rfl ⟨rfl, rfl⟩ rfl dX12_init_23 (fun H locs Y => ?_)
  refine lv_aload_n hx hb dX12_init_26 rfl (lv_at hl 0 rfl) ?_
  refine lv_sipush (v := 14000) hx hb dX12_init_27 (by decide) ?_
  obtain ⟨w16_, h⟩ := h
  refine q_newa X Y (k := 20) (t := 0) (n := 14000) (ty := .byte) rfl (by decide) rfl (fun _ _ => rfl) (by first | exact rfl | decide | simp [defaultValue]) ar_byte (by decide) (by decide) (by decide) w16_ dX12_init_30 (fun b13_ H h14_ h15_ Y => ?_)
  replace h := h b13_ h14_
  replace hu := w16_
  replace k5_ := qs_R_keep (j := 20) (n := 14000) h14_ k5_ (by decide)
  replace k6_ := qs_R_keep (j := 20) (n := 14000) h14_ k6_ (by decide)
  replace k11_ := qs_R_keep (j := 20) (n := 14000) h14_ k11_ (by decide)
  have k17_ : q_K (qs_R (qs_I (qs_P S12_ 2402 a0 (some b7_)) 2412 a0 (-1 : Int32)) 20 14000 b13_) b13_ = 20 := qs_R_Ks
  obtain ⟨S18_, gS18_⟩ : ∃ z : q_S, z = (qs_R (qs_I (qs_P S12_ 2402 a0 (some b7_)) 2412 a0 (-1 : Int32)) 20 14000 b13_) := ⟨_, rfl⟩
  replace Y : q_Y D cy lo s S18_ H locs := by rw [gS18_]; exact Y
  replace h := h S18_ gS18_
  replace k5_ : q_K S18_ b1_ = 20 := by rw [gS18_]; exact k5_
  replace k6_ : q_K S18_ a0 = 13 := by rw [gS18_]; exact k6_
  replace k11_ : q_K S18_ b7_ = 20 := by rw [gS18_]; exact k11_
  replace k17_ : q_K S18_ b13_ = 20 := by rw [gS18_]; exact k17_
  refine q_putP X Y (some b13_) rfl kX12 21 rfl fl_X12_20 k6_ _ rfl (Or.inr ⟨_, rfl⟩) (Or.inr ⟨rfl, hnm, rfl⟩) dX12_init_32 (fun H locs Y => ?_)
  refine lv_aload_n hx hb dX12_init_35 rfl (lv_at hl 0 rfl) ?_
  refine lv_bipush (v := 16) hx hb dX12_init_36 (by decide) ?_
  obtain ⟨w22_, h⟩ := h
  refine q_newa X Y (k := 21) (t := 1) (n := 16) (ty := .int) rfl (by decide) rfl (fun _ _ => rfl) (by first | exact rfl | decide | simp [defaultValue]) ar_int (by decide) (by decide) (by decide) w22_ dX12_init_38 (fun b19_ H h20_ h21_ Y => ?_)
  replace h := h b19_ h20_
  replace hu := w22_
  replace k5_ := qs_R_keep (j := 21) (n := 16) h20_ k5_ (by decide)
  replace k6_ := qs_R_keep (j := 21) (n := 16) h20_ k6_ (by decide)
  replace k11_ := qs_R_keep (j := 21) (n := 16) h20_ k11_ (by decide)
  replace k17_ := qs_R_keep (j := 21) (n := 16) h20_ k17_ (by decide)
  have k23_ : q_K (qs_R (qs_P S18_ 2421 a0 (some b13_)) 21 16 b19_) b19_ = 21 := qs_R_Ks
  refine q_putP X Y (some b19_) rfl kX12 23 rfl fl_X12_23 k6_ _ rfl (Or.inr ⟨_, rfl⟩) (Or.inr ⟨rfl, hnm, rfl⟩) dX12_init_40 (fun H locs Y => ?_)
  obtain ⟨S24_, gS24_⟩ : ∃ z : q_S, z = (qs_P (qs_R (qs_P S18_ 2421 a0 (some b13_)) 21 16 b19_) 2423 a0 (some b19_)) := ⟨_, rfl⟩
  replace Y : q_Y D cy lo s S24_ H locs := by rw [gS24_]; exact Y
  replace h := h S24_ gS24_
  replace k5_ : q_K S24_ b1_ = 20 := by rw [gS24_]; exact k5_
  replace k6_ : q_K S24_ a0 = 13 := by rw [gS24_]; exact k6_
  replace k11_ : q_K S24_ b7_ = 20 := by rw [gS24_]; exact k11_
  replace k17_ : q_K S24_ b13_ = 20 := by rw [gS24_]; exact k17_
  replace k23_ : q_K S24_ b19_ = 21 := by rw [gS24_]; exact k23_
  refine lv_aload_n hx hb dX12_init_43 rfl (lv_at hl 0 rfl) ?_
  refine lv_bipush (v := 16) hx hb dX12_init_44 (by decide) ?_
  obtain ⟨w28_, h⟩ := h
  refine q_newa X Y (k := 21) (t := 1) (n := 16) (ty := .int) rfl (by decide) rfl (fun _ _ => rfl) (by first | exact rfl | decide | simp [defaultValue]) ar_int (by decide) (by decide) (by decide) w28_ dX12_init_46 (fun b25_ H h26_ h27_ Y => ?_)
  replace h := h b25_ h26_
  replace hu := w28_
  replace k5_ := qs_R_keep (j := 21) (n := 16) h26_ k5_ (by decide)
  replace k6_ := qs_R_keep (j := 21) (n := 16) h26_ k6_ (by decide)
  replace k11_ := qs_R_keep (j := 21) (n := 16) h26_ k11_ (by decide)
  replace k17_ := qs_R_keep (j := 21) (n := 16) h26_ k17_ (by decide)
  replace k23_ := qs_R_keep (j := 21) (n := 16) h26_ k23_ (by decide)
  have k29_ : q_K (qs_R S24_ 21 16 b25_) b25_ = 21 := qs_R_Ks
  refine q_putP X Y (some b25_) rfl kX12 24 rfl fl_X12_27 k6_ _ rfl (Or.inr ⟨_, rfl⟩) (Or.inr ⟨rfl, hnm, rfl⟩) dX12_init_48 (fun H locs Y => ?_)
  refine lv_aload_n hx hb dX12_init_51 rfl (lv_at hl 0 rfl) ?_
  refine lv_bipush (v := 16) hx hb dX12_init_52 (by decide) ?_
  obtain ⟨w33_, h⟩ := h
  refine q_newa X Y (k := 21) (t := 1) (n := 16) (ty := .int) rfl (by decide) rfl (fun _ _ => rfl) (by first | exact rfl | decide | simp [defaultValue]) ar_int (by decide) (by decide) (by decide) w33_ dX12_init_54 (fun b30_ H h31_ h32_ Y => ?_)
  replace h := h b30_ h31_
  replace hu := w33_
  replace k5_ := qs_R_keep (j := 21) (n := 16) h31_ k5_ (by decide)
  replace k6_ := qs_R_keep (j := 21) (n := 16) h31_ k6_ (by decide)
  replace k11_ := qs_R_keep (j := 21) (n := 16) h31_ k11_ (by decide)
  replace k17_ := qs_R_keep (j := 21) (n := 16) h31_ k17_ (by decide)
  replace k23_ := qs_R_keep (j := 21) (n := 16) h31_ k23_ (by decide)
  replace k29_ := qs_R_keep (j := 21) (n := 16) h31_ k29_ (by decide)
  have k34_ : q_K (qs_R (qs_P (qs_R S24_ 21 16 b25_) 2424 a0 (some b25_)) 21 16 b30_) b30_ = 21 := qs_R_Ks
  obtain ⟨S35_, gS35_⟩ : ∃ z : q_S, z = (qs_R (qs_P (qs_R S24_ 21 16 b25_) 2424 a0 (some b25_)) 21 16 b30_) := ⟨_, rfl⟩
  replace Y : q_Y D cy lo s S35_ H locs := by rw [gS35_]; exact Y
  replace h := h S35_ gS35_
  replace k5_ : q_K S35_ b1_ = 20 := by rw [gS35_]; exact k5_
  replace k6_ : q_K S35_ a0 = 13 := by rw [gS35_]; exact k6_
  replace k11_ : q_K S35_ b7_ = 20 := by rw [gS35_]; exact k11_
  replace k17_ : q_K S35_ b13_ = 20 := by rw [gS35_]; exact k17_
  replace k23_ : q_K S35_ b19_ = 21 := by rw [gS35_]; exact k23_
  replace k29_ : q_K S35_ b25_ = 21 := by rw [gS35_]; exact k29_
  replace k34_ : q_K S35_ b30_ = 21 := by rw [gS35_]; exact k34_
  refine q_putP X Y (some b30_) rfl kX12 25 rfl fl_X12_30 k6_ _ rfl (Or.inr ⟨_, rfl⟩) (Or.inr ⟨rfl, hnm, rfl⟩) dX12_init_56 (fun H locs Y => ?_)
  refine lv_aload_n hx hb dX12_init_59 rfl (lv_at hl 0 rfl) ?_
  refine lv_bipush (v := 16) hx hb dX12_init_60 (by decide) ?_
  obtain ⟨w39_, h⟩ := h
  refine q_newa X Y (k := 21) (t := 1) (n := 16) (ty := .int) rfl (by decide) rfl (fun _ _ => rfl) (by first | exact rfl | decide | simp [defaultValue]) ar_int (by decide) (by decide) (by decide) w39_ dX12_init_62 (fun b36_ H h37_ h38_ Y => ?_)
  replace h := h b36_ h37_
  replace hu := w39_
  replace k5_ := qs_R_keep (j := 21) (n := 16) h37_ k5_ (by decide)
  replace k6_ := qs_R_keep (j := 21) (n := 16) h37_ k6_ (by decide)
  replace k11_ := qs_R_keep (j := 21) (n := 16) h37_ k11_ (by decide)
  replace k17_ := qs_R_keep (j := 21) (n := 16) h37_ k17_ (by decide)
  replace k23_ := qs_R_keep (j := 21) (n := 16) h37_ k23_ (by decide)
  replace k29_ := qs_R_keep (j := 21) (n := 16) h37_ k29_ (by decide)
  replace k34_ := qs_R_keep (j := 21) (n := 16) h37_ k34_ (by decide)
  have k40_ : q_K (qs_R (qs_P S35_ 2425 a0 (some b30_)) 21 16 b36_) b36_ = 21 := qs_R_Ks
  refine q_putP X Y (some b36_) rfl kX12 26 rfl fl_X12_33 k6_ _ rfl (Or.inr ⟨_, rfl⟩) (Or.inr ⟨rfl, hnm, rfl⟩) dX12_init_64 (fun H locs Y => ?_)
  obtain ⟨S41_, gS41_⟩ : ∃ z : q_S, z = (qs_P (qs_R (qs_P S35_ 2425 a0 (some b30_)) 21 16 b36_) 2426 a0 (some b36_)) := ⟨_, rfl⟩
  replace Y : q_Y D cy lo s S41_ H locs := by rw [gS41_]; exact Y
  replace h := h S41_ gS41_
  replace k5_ : q_K S41_ b1_ = 20 := by rw [gS41_]; exact k5_
  replace k6_ : q_K S41_ a0 = 13 := by rw [gS41_]; exact k6_
  replace k11_ : q_K S41_ b7_ = 20 := by rw [gS41_]; exact k11_
  replace k17_ : q_K S41_ b13_ = 20 := by rw [gS41_]; exact k17_
  replace k23_ : q_K S41_ b19_ = 21 := by rw [gS41_]; exact k23_
  replace k29_ : q_K S41_ b25_ = 21 := by rw [gS41_]; exact k29_
  replace k34_ : q_K S41_ b30_ = 21 := by rw [gS41_]; exact k34_
  replace k40_ : q_K S41_ b36_ = 21 := by rw [gS41_]; exact k40_
  refine lv_aload_n hx hb dX12_init_67 rfl (lv_at hl 0 rfl) ?_
  refine lv_bipush (v := 96) hx hb dX12_init_68 (by decide) ?_
  obtain ⟨w45_, h⟩ := h
  refine q_newa X Y (k := 21) (t := 1) (n := 96) (ty := .int) rfl (by decide) rfl (fun _ _ => rfl) (by first | exact rfl | decide | simp [defaultValue]) ar_int (by decide) (by decide) (by decide) w45_ dX12_init_70 (fun b42_ H h43_ h44_ Y => ?_)
  replace h := h b42_ h43_
  replace hu := w45_
  replace k5_ := qs_R_keep (j := 21) (n := 96) h43_ k5_ (by decide)
  replace k6_ := qs_R_keep (j := 21) (n := 96) h43_ k6_ (by decide)
  replace k11_ := qs_R_keep (j := 21) (n := 96) h43_ k11_ (by decide)
  replace k17_ := qs_R_keep (j := 21) (n := 96) h43_ k17_ (by decide)
  replace k23_ := qs_R_keep (j := 21) (n := 96) h43_ k23_ (by decide)
  replace k29_ := qs_R_keep (j := 21) (n := 96) h43_ k29_ (by decide)
  replace k34_ := qs_R_keep (j := 21) (n := 96) h43_ k34_ (by decide)
  replace k40_ := qs_R_keep (j := 21) (n := 96) h43_ k40_ (by decide)
  have k46_ : q_K (qs_R S41_ 21 96 b42_) b42_ = 21 := qs_R_Ks
  refine q_putP X Y (some b42_) rfl kX12 27 rfl fl_X12_36 k6_ _ rfl (Or.inr ⟨_, rfl⟩) (Or.inr ⟨rfl, hnm, rfl⟩) dX12_init_72 (fun H locs Y => ?_)
  refine lv_aload_n hx hb dX12_init_75 rfl (lv_at hl 0 rfl) ?_
  refine lv_bipush (v := 96) hx hb dX12_init_76 (by decide) ?_
  obtain ⟨w50_, h⟩ := h
  refine q_newa X Y (k := 21) (t := 1) (n := 96) (ty := .int) rfl (by decide) rfl (fun _ _ => rfl) (by first | exact rfl | decide | simp [defaultValue]) ar_int (by decide) (by decide) (by decide) w50_ dX12_init_78 (fun b47_ H h48_ h49_ Y => ?_)
  replace h := h b47_ h48_
  replace hu := w50_
  replace k5_ := qs_R_keep (j := 21) (n := 96) h48_ k5_ (by decide)
  replace k6_ := qs_R_keep (j := 21) (n := 96) h48_ k6_ (by decide)
  replace k11_ := qs_R_keep (j := 21) (n := 96) h48_ k11_ (by decide)
  replace k17_ := qs_R_keep (j := 21) (n := 96) h48_ k17_ (by decide)
  replace k23_ := qs_R_keep (j := 21) (n := 96) h48_ k23_ (by decide)
  replace k29_ := qs_R_keep (j := 21) (n := 96) h48_ k29_ (by decide)
  replace k34_ := qs_R_keep (j := 21) (n := 96) h48_ k34_ (by decide)
  replace k40_ := qs_R_keep (j := 21) (n := 96) h48_ k40_ (by decide)
  replace k46_ := qs_R_keep (j := 21) (n := 96) h48_ k46_ (by decide)
  have k51_ : q_K (qs_R (qs_P (qs_R S41_ 21 96 b42_) 2427 a0 (some b42_)) 21 96 b47_) b47_ = 21 := qs_R_Ks
  obtain ⟨S52_, gS52_⟩ : ∃ z : q_S, z = (qs_R (qs_P (qs_R S41_ 21 96 b42_) 2427 a0 (some b42_)) 21 96 b47_) := ⟨_, rfl⟩
  replace Y : q_Y D cy lo s S52_ H locs := by rw [gS52_]; exact Y
  replace h := h S52_ gS52_
  replace k5_ : q_K S52_ b1_ = 20 := by rw [gS52_]; exact k5_
  replace k6_ : q_K S52_ a0 = 13 := by rw [gS52_]; exact k6_
  replace k11_ : q_K S52_ b7_ = 20 := by rw [gS52_]; exact k11_
  replace k17_ : q_K S52_ b13_ = 20 := by rw [gS52_]; exact k17_
  replace k23_ : q_K S52_ b19_ = 21 := by rw [gS52_]; exact k23_
  replace k29_ : q_K S52_ b25_ = 21 := by rw [gS52_]; exact k29_
  replace k34_ : q_K S52_ b30_ = 21 := by rw [gS52_]; exact k34_
  replace k40_ : q_K S52_ b36_ = 21 := by rw [gS52_]; exact k40_
  replace k46_ : q_K S52_ b42_ = 21 := by rw [gS52_]; exact k46_
  replace k51_ : q_K S52_ b47_ = 21 := by rw [gS52_]; exact k51_
  refine q_putP X Y (some b47_) rfl kX12 28 rfl fl_X12_39 k6_ _ rfl (Or.inr ⟨_, rfl⟩) (Or.inr ⟨rfl, hnm, rfl⟩) dX12_init_80 (fun H locs Y => ?_)
  refine lv_aload_n hx hb dX12_init_83 rfl (lv_at hl 0 rfl) ?_
  refine lv_bipush (v := 96) hx hb dX12_init_84 (by decide) ?_
  obtain ⟨w56_, h⟩ := h
  refine q_newa X Y (k := 21) (t := 1) (n := 96) (ty := .int) rfl (by decide) rfl (fun _ _ => rfl) (by first | exact rfl | decide | simp [defaultValue]) ar_int (by decide) (by decide) (by decide) w56_ dX12_init_86 (fun b53_ H h54_ h55_ Y => ?_)
  replace h := h b53_ h54_
  replace hu := w56_
  replace k5_ := qs_R_keep (j := 21) (n := 96) h54_ k5_ (by decide)
  replace k6_ := qs_R_keep (j := 21) (n := 96) h54_ k6_ (by decide)
  replace k11_ := qs_R_keep (j := 21) (n := 96) h54_ k11_ (by decide)
  replace k17_ := qs_R_keep (j := 21) (n := 96) h54_ k17_ (by decide)
  replace k23_ := qs_R_keep (j := 21) (n := 96) h54_ k23_ (by decide)
  replace k29_ := qs_R_keep (j := 21) (n := 96) h54_ k29_ (by decide)
  replace k34_ := qs_R_keep (j := 21) (n := 96) h54_ k34_ (by decide)
  replace k40_ := qs_R_keep (j := 21) (n := 96) h54_ k40_ (by decide)
  replace k46_ := qs_R_keep (j := 21) (n := 96) h54_ k46_ (by decide)
  replace k51_ := qs_R_keep (j := 21) (n := 96) h54_ k51_ (by decide)
  have k57_ : q_K (qs_R (qs_P S52_ 2428 a0 (some b47_)) 21 96 b53_) b53_ = 21 := qs_R_Ks
  refine q_putP X Y (some b53_) rfl kX12 29 rfl fl_X12_42 k6_ _ rfl (Or.inr ⟨_, rfl⟩) (Or.inr ⟨rfl, hnm, rfl⟩) dX12_init_88 (fun H locs Y => ?_)
  obtain ⟨S58_, gS58_⟩ : ∃ z : q_S, z = (qs_P (qs_R (qs_P S52_ 2428 a0 (some b47_)) 21 96 b53_) 2429 a0 (some b53_)) := ⟨_, rfl⟩
  replace Y : q_Y D cy lo s S58_ H locs := by rw [gS58_]; exact Y
  replace h := h S58_ gS58_
  replace k5_ : q_K S58_ b1_ = 20 := by rw [gS58_]; exact k5_
  replace k6_ : q_K S58_ a0 = 13 := by rw [gS58_]; exact k6_
  replace k11_ : q_K S58_ b7_ = 20 := by rw [gS58_]; exact k11_
  replace k17_ : q_K S58_ b13_ = 20 := by rw [gS58_]; exact k17_
  replace k23_ : q_K S58_ b19_ = 21 := by rw [gS58_]; exact k23_
  replace k29_ : q_K S58_ b25_ = 21 := by rw [gS58_]; exact k29_
  replace k34_ : q_K S58_ b30_ = 21 := by rw [gS58_]; exact k34_
  replace k40_ : q_K S58_ b36_ = 21 := by rw [gS58_]; exact k40_
  replace k46_ : q_K S58_ b42_ = 21 := by rw [gS58_]; exact k46_
  replace k51_ : q_K S58_ b47_ = 21 := by rw [gS58_]; exact k51_
  replace k57_ : q_K S58_ b53_ = 21 := by rw [gS58_]; exact k57_
  refine lv_aload_n hx hb dX12_init_91 rfl (lv_at hl 0 rfl) ?_
  refine lv_bipush (v := 16) hx hb dX12_init_92 (by decide) ?_
  obtain ⟨w62_, h⟩ := h
  refine q_newa X Y (k := 21) (t := 1) (n := 16) (ty := .int) rfl (by decide) rfl (fun _ _ => rfl) (by first | exact rfl | decide | simp [defaultValue]) ar_int (by decide) (by decide) (by decide) w62_ dX12_init_94 (fun b59_ H h60_ h61_ Y => ?_)
  replace h := h b59_ h60_
  replace hu := w62_
  replace k5_ := qs_R_keep (j := 21) (n := 16) h60_ k5_ (by decide)
  replace k6_ := qs_R_keep (j := 21) (n := 16) h60_ k6_ (by decide)
  replace k11_ := qs_R_keep (j := 21) (n := 16) h60_ k11_ (by decide)
  replace k17_ := qs_R_keep (j := 21) (n := 16) h60_ k17_ (by decide)
  replace k23_ := qs_R_keep (j := 21) (n := 16) h60_ k23_ (by decide)
  replace k29_ := qs_R_keep (j := 21) (n := 16) h60_ k29_ (by decide)
  replace k34_ := qs_R_keep (j := 21) (n := 16) h60_ k34_ (by decide)
  replace k40_ := qs_R_keep (j := 21) (n := 16) h60_ k40_ (by decide)
  replace k46_ := qs_R_keep (j := 21) (n := 16) h60_ k46_ (by decide)
  replace k51_ := qs_R_keep (j := 21) (n := 16) h60_ k51_ (by decide)
  replace k57_ := qs_R_keep (j := 21) (n := 16) h60_ k57_ (by decide)
  have k63_ : q_K (qs_R S58_ 21 16 b59_) b59_ = 21 := qs_R_Ks
  refine q_putP X Y (some b59_) rfl kX12 30 rfl fl_X12_45 k6_ _ rfl (Or.inr ⟨_, rfl⟩) (Or.inr ⟨rfl, hnm, rfl⟩) dX12_init_96 (fun H locs Y => ?_)
  refine lv_aload_n hx hb dX12_init_99 rfl (lv_at hl 0 rfl) ?_
  refine lv_sipush (v := 1024) hx hb dX12_init_100 (by decide) ?_
  obtain ⟨w67_, h⟩ := h
  refine q_newa X Y (k := 21) (t := 1) (n := 1024) (ty := .int) rfl (by decide) rfl (fun _ _ => rfl) (by first | exact rfl | decide | simp [defaultValue]) ar_int (by decide) (by decide) (by decide) w67_ dX12_init_103 (fun b64_ H h65_ h66_ Y => ?_)
  replace h := h b64_ h65_
  replace hu := w67_
  replace k5_ := qs_R_keep (j := 21) (n := 1024) h65_ k5_ (by decide)
  replace k6_ := qs_R_keep (j := 21) (n := 1024) h65_ k6_ (by decide)
  replace k11_ := qs_R_keep (j := 21) (n := 1024) h65_ k11_ (by decide)
  replace k17_ := qs_R_keep (j := 21) (n := 1024) h65_ k17_ (by decide)
  replace k23_ := qs_R_keep (j := 21) (n := 1024) h65_ k23_ (by decide)
  replace k29_ := qs_R_keep (j := 21) (n := 1024) h65_ k29_ (by decide)
  replace k34_ := qs_R_keep (j := 21) (n := 1024) h65_ k34_ (by decide)
  replace k40_ := qs_R_keep (j := 21) (n := 1024) h65_ k40_ (by decide)
  replace k46_ := qs_R_keep (j := 21) (n := 1024) h65_ k46_ (by decide)
  replace k51_ := qs_R_keep (j := 21) (n := 1024) h65_ k51_ (by decide)
  replace k57_ := qs_R_keep (j := 21) (n := 1024) h65_ k57_ (by decide)
  replace k63_ := qs_R_keep (j := 21) (n := 1024) h65_ k63_ (by decide)
  have k68_ : q_K (qs_R (qs_P (qs_R S58_ 21 16 b59_) 2430 a0 (some b59_)) 21 1024 b64_) b64_ = 21 := qs_R_Ks
  obtain ⟨S69_, gS69_⟩ : ∃ z : q_S, z = (qs_R (qs_P (qs_R S58_ 21 16 b59_) 2430 a0 (some b59_)) 21 1024 b64_) := ⟨_, rfl⟩
  replace Y : q_Y D cy lo s S69_ H locs := by rw [gS69_]; exact Y
  replace h := h S69_ gS69_
  replace k5_ : q_K S69_ b1_ = 20 := by rw [gS69_]; exact k5_
  replace k6_ : q_K S69_ a0 = 13 := by rw [gS69_]; exact k6_
  replace k11_ : q_K S69_ b7_ = 20 := by rw [gS69_]; exact k11_
  replace k17_ : q_K S69_ b13_ = 20 := by rw [gS69_]; exact k17_
  replace k23_ : q_K S69_ b19_ = 21 := by rw [gS69_]; exact k23_
  replace k29_ : q_K S69_ b25_ = 21 := by rw [gS69_]; exact k29_
  replace k34_ : q_K S69_ b30_ = 21 := by rw [gS69_]; exact k34_
  replace k40_ : q_K S69_ b36_ = 21 := by rw [gS69_]; exact k40_
  replace k46_ : q_K S69_ b42_ = 21 := by rw [gS69_]; exact k46_
  replace k51_ : q_K S69_ b47_ = 21 := by rw [gS69_]; exact k51_
  replace k57_ : q_K S69_ b53_ = 21 := by rw [gS69_]; exact k57_
  replace k63_ : q_K S69_ b59_ = 21 := by rw [gS69_]; exact k63_
  replace k68_ : q_K S69_ b64_ = 21 := by rw [gS69_]; exact k68_
  refine q_putP X Y (some b64_) rfl kX12 31 rfl fl_X12_48 k6_ _ rfl (Or.inr ⟨_, rfl⟩) (Or.inr ⟨rfl, hnm, rfl⟩) dX12_init_105 (fun H locs Y => ?_)
  refine lv_aload_n hx hb dX12_init_108 rfl (lv_at hl 0 rfl) ?_
  refine lv_sipush (v := 1024) hx hb dX12_init_109 (by decide) ?_
  obtain ⟨w73_, h⟩ := h
  refine q_newa X Y (k := 21) (t := 1) (n := 1024) (ty := .int) rfl (by decide) rfl (fun _ _ => rfl) (by first | exact rfl | decide | simp [defaultValue]) ar_int (by decide) (by decide) (by decide) w73_ dX12_init_112 (fun b70_ H h71_ h72_ Y => ?_)
  replace h := h b70_ h71_
  replace hu := w73_
  replace k5_ := qs_R_keep (j := 21) (n := 1024) h71_ k5_ (by decide)
  replace k6_ := qs_R_keep (j := 21) (n := 1024) h71_ k6_ (by decide)
  replace k11_ := qs_R_keep (j := 21) (n := 1024) h71_ k11_ (by decide)
  replace k17_ := qs_R_keep (j := 21) (n := 1024) h71_ k17_ (by decide)
  replace k23_ := qs_R_keep (j := 21) (n := 1024) h71_ k23_ (by decide)
  replace k29_ := qs_R_keep (j := 21) (n := 1024) h71_ k29_ (by decide)
  replace k34_ := qs_R_keep (j := 21) (n := 1024) h71_ k34_ (by decide)
  replace k40_ := qs_R_keep (j := 21) (n := 1024) h71_ k40_ (by decide)
  replace k46_ := qs_R_keep (j := 21) (n := 1024) h71_ k46_ (by decide)
  replace k51_ := qs_R_keep (j := 21) (n := 1024) h71_ k51_ (by decide)
  replace k57_ := qs_R_keep (j := 21) (n := 1024) h71_ k57_ (by decide)
  replace k63_ := qs_R_keep (j := 21) (n := 1024) h71_ k63_ (by decide)
  replace k68_ := qs_R_keep (j := 21) (n := 1024) h71_ k68_ (by decide)
  have k74_ : q_K (qs_R (qs_P S69_ 2431 a0 (some b64_)) 21 1024 b70_) b70_ = 21 := qs_R_Ks
  refine q_putP X Y (some b70_) rfl kX12 32 rfl fl_X12_51 k6_ _ rfl (Or.inr ⟨_, rfl⟩) (Or.inr ⟨rfl, hnm, rfl⟩) dX12_init_114 (fun H locs Y => ?_)
  obtain ⟨S75_, gS75_⟩ : ∃ z : q_S, z = (qs_P (qs_R (qs_P S69_ 2431 a0 (some b64_)) 21 1024 b70_) 2432 a0 (some b70_)) := ⟨_, rfl⟩
  replace Y : q_Y D cy lo s S75_ H locs := by rw [gS75_]; exact Y
  replace h := h S75_ gS75_
  replace k5_ : q_K S75_ b1_ = 20 := by rw [gS75_]; exact k5_
  replace k6_ : q_K S75_ a0 = 13 := by rw [gS75_]; exact k6_
  replace k11_ : q_K S75_ b7_ = 20 := by rw [gS75_]; exact k11_
  replace k17_ : q_K S75_ b13_ = 20 := by rw [gS75_]; exact k17_
  replace k23_ : q_K S75_ b19_ = 21 := by rw [gS75_]; exact k23_
  replace k29_ : q_K S75_ b25_ = 21 := by rw [gS75_]; exact k29_
  replace k34_ : q_K S75_ b30_ = 21 := by rw [gS75_]; exact k34_
  replace k40_ : q_K S75_ b36_ = 21 := by rw [gS75_]; exact k40_
  replace k46_ : q_K S75_ b42_ = 21 := by rw [gS75_]; exact k46_
  replace k51_ : q_K S75_ b47_ = 21 := by rw [gS75_]; exact k51_
  replace k57_ : q_K S75_ b53_ = 21 := by rw [gS75_]; exact k57_
  replace k63_ : q_K S75_ b59_ = 21 := by rw [gS75_]; exact k63_
  replace k68_ : q_K S75_ b64_ = 21 := by rw [gS75_]; exact k68_
  replace k74_ : q_K S75_ b70_ = 21 := by rw [gS75_]; exact k74_
  refine lv_aload_n hx hb dX12_init_117 rfl (lv_at hl 0 rfl) ?_
  refine lv_sipush (v := 1024) hx hb dX12_init_118 (by decide) ?_
  obtain ⟨w79_, h⟩ := h
  refine q_newa X Y (k := 21) (t := 1) (n := 1024) (ty := .int) rfl (by decide) rfl (fun _ _ => rfl) (by first | exact rfl | decide | simp [defaultValue]) ar_int (by decide) (by decide) (by decide) w79_ dX12_init_121 (fun b76_ H h77_ h78_ Y => ?_)
  replace h := h b76_ h77_
  replace hu := w79_
  replace k5_ := qs_R_keep (j := 21) (n := 1024) h77_ k5_ (by decide)
  replace k6_ := qs_R_keep (j := 21) (n := 1024) h77_ k6_ (by decide)
  replace k11_ := qs_R_keep (j := 21) (n := 1024) h77_ k11_ (by decide)
  replace k17_ := qs_R_keep (j := 21) (n := 1024) h77_ k17_ (by decide)
  replace k23_ := qs_R_keep (j := 21) (n := 1024) h77_ k23_ (by decide)
  replace k29_ := qs_R_keep (j := 21) (n := 1024) h77_ k29_ (by decide)
  replace k34_ := qs_R_keep (j := 21) (n := 1024) h77_ k34_ (by decide)
  replace k40_ := qs_R_keep (j := 21) (n := 1024) h77_ k40_ (by decide)
  replace k46_ := qs_R_keep (j := 21) (n := 1024) h77_ k46_ (by decide)
  replace k51_ := qs_R_keep (j := 21) (n := 1024) h77_ k51_ (by decide)
  replace k57_ := qs_R_keep (j := 21) (n := 1024) h77_ k57_ (by decide)
  replace k63_ := qs_R_keep (j := 21) (n := 1024) h77_ k63_ (by decide)
  replace k68_ := qs_R_keep (j := 21) (n := 1024) h77_ k68_ (by decide)
  replace k74_ := qs_R_keep (j := 21) (n := 1024) h77_ k74_ (by decide)
  have k80_ : q_K (qs_R S75_ 21 1024 b76_) b76_ = 21 := qs_R_Ks
  refine q_putP X Y (some b76_) rfl kX12 33 rfl fl_X12_54 k6_ _ rfl (Or.inr ⟨_, rfl⟩) (Or.inr ⟨rfl, hnm, rfl⟩) dX12_init_123 (fun H locs Y => ?_)
  refine lv_aload_n hx hb dX12_init_126 rfl (lv_at hl 0 rfl) ?_
  refine lv_sipush (v := 1024) hx hb dX12_init_127 (by decide) ?_
  obtain ⟨w84_, h⟩ := h
  refine q_newa X Y (k := 21) (t := 1) (n := 1024) (ty := .int) rfl (by decide) rfl (fun _ _ => rfl) (by first | exact rfl | decide | simp [defaultValue]) ar_int (by decide) (by decide) (by decide) w84_ dX12_init_130 (fun b81_ H h82_ h83_ Y => ?_)
  replace h := h b81_ h82_
  replace hu := w84_
  replace k5_ := qs_R_keep (j := 21) (n := 1024) h82_ k5_ (by decide)
  replace k6_ := qs_R_keep (j := 21) (n := 1024) h82_ k6_ (by decide)
  replace k11_ := qs_R_keep (j := 21) (n := 1024) h82_ k11_ (by decide)
  replace k17_ := qs_R_keep (j := 21) (n := 1024) h82_ k17_ (by decide)
  replace k23_ := qs_R_keep (j := 21) (n := 1024) h82_ k23_ (by decide)
  replace k29_ := qs_R_keep (j := 21) (n := 1024) h82_ k29_ (by decide)
  replace k34_ := qs_R_keep (j := 21) (n := 1024) h82_ k34_ (by decide)
  replace k40_ := qs_R_keep (j := 21) (n := 1024) h82_ k40_ (by decide)
  replace k46_ := qs_R_keep (j := 21) (n := 1024) h82_ k46_ (by decide)
  replace k51_ := qs_R_keep (j := 21) (n := 1024) h82_ k51_ (by decide)
  replace k57_ := qs_R_keep (j := 21) (n := 1024) h82_ k57_ (by decide)
  replace k63_ := qs_R_keep (j := 21) (n := 1024) h82_ k63_ (by decide)
  replace k68_ := qs_R_keep (j := 21) (n := 1024) h82_ k68_ (by decide)
  replace k74_ := qs_R_keep (j := 21) (n := 1024) h82_ k74_ (by decide)
  replace k80_ := qs_R_keep (j := 21) (n := 1024) h82_ k80_ (by decide)
  have k85_ : q_K (qs_R (qs_P (qs_R S75_ 21 1024 b76_) 2433 a0 (some b76_)) 21 1024 b81_) b81_ = 21 := qs_R_Ks
  obtain ⟨S86_, gS86_⟩ : ∃ z : q_S, z = (qs_R (qs_P (qs_R S75_ 21 1024 b76_) 2433 a0 (some b76_)) 21 1024 b81_) := ⟨_, rfl⟩
  replace Y : q_Y D cy lo s S86_ H locs := by rw [gS86_]; exact Y
  replace h := h S86_ gS86_
  replace k5_ : q_K S86_ b1_ = 20 := by rw [gS86_]; exact k5_
  replace k6_ : q_K S86_ a0 = 13 := by rw [gS86_]; exact k6_
  replace k11_ : q_K S86_ b7_ = 20 := by rw [gS86_]; exact k11_
  replace k17_ : q_K S86_ b13_ = 20 := by rw [gS86_]; exact k17_
  replace k23_ : q_K S86_ b19_ = 21 := by rw [gS86_]; exact k23_
  replace k29_ : q_K S86_ b25_ = 21 := by rw [gS86_]; exact k29_
  replace k34_ : q_K S86_ b30_ = 21 := by rw [gS86_]; exact k34_
  replace k40_ : q_K S86_ b36_ = 21 := by rw [gS86_]; exact k40_
  replace k46_ : q_K S86_ b42_ = 21 := by rw [gS86_]; exact k46_
  replace k51_ : q_K S86_ b47_ = 21 := by rw [gS86_]; exact k51_
  replace k57_ : q_K S86_ b53_ = 21 := by rw [gS86_]; exact k57_
  replace k63_ : q_K S86_ b59_ = 21 := by rw [gS86_]; exact k63_
  replace k68_ : q_K S86_ b64_ = 21 := by rw [gS86_]; exact k68_
  replace k74_ : q_K S86_ b70_ = 21 := by rw [gS86_]; exact k74_
  replace k80_ : q_K S86_ b76_ = 21 := by rw [gS86_]; exact k80_
  replace k85_ : q_K S86_ b81_ = 21 := by rw [gS86_]; exact k85_
  refine q_putP X Y (some b81_) rfl kX12 34 rfl fl_X12_57 k6_ _ rfl (Or.inr ⟨_, rfl⟩) (Or.inr ⟨rfl, hnm, rfl⟩) dX12_init_132 (fun H locs Y => ?_)
  refine lv_aload_n hx hb dX12_init_135 rfl (lv_at hl 0 rfl) ?_
  refine lv_bipush (v := 96) hx hb dX12_init_136 (by decide) ?_
  obtain ⟨w90_, h⟩ := h
  refine q_newa X Y (k := 21) (t := 1) (n := 96) (ty := .int) rfl (by decide) rfl (fun _ _ => rfl) (by first | exact rfl | decide | simp [defaultValue]) ar_int (by decide) (by decide) (by decide) w90_ dX12_init_138 (fun b87_ H h88_ h89_ Y => ?_)
  replace h := h b87_ h88_
  replace hu := w90_
  replace k5_ := qs_R_keep (j := 21) (n := 96) h88_ k5_ (by decide)
  replace k6_ := qs_R_keep (j := 21) (n := 96) h88_ k6_ (by decide)
  replace k11_ := qs_R_keep (j := 21) (n := 96) h88_ k11_ (by decide)
  replace k17_ := qs_R_keep (j := 21) (n := 96) h88_ k17_ (by decide)
  replace k23_ := qs_R_keep (j := 21) (n := 96) h88_ k23_ (by decide)
  replace k29_ := qs_R_keep (j := 21) (n := 96) h88_ k29_ (by decide)
  replace k34_ := qs_R_keep (j := 21) (n := 96) h88_ k34_ (by decide)
  replace k40_ := qs_R_keep (j := 21) (n := 96) h88_ k40_ (by decide)
  replace k46_ := qs_R_keep (j := 21) (n := 96) h88_ k46_ (by decide)
  replace k51_ := qs_R_keep (j := 21) (n := 96) h88_ k51_ (by decide)
  replace k57_ := qs_R_keep (j := 21) (n := 96) h88_ k57_ (by decide)
  replace k63_ := qs_R_keep (j := 21) (n := 96) h88_ k63_ (by decide)
  replace k68_ := qs_R_keep (j := 21) (n := 96) h88_ k68_ (by decide)
  replace k74_ := qs_R_keep (j := 21) (n := 96) h88_ k74_ (by decide)
  replace k80_ := qs_R_keep (j := 21) (n := 96) h88_ k80_ (by decide)
  replace k85_ := qs_R_keep (j := 21) (n := 96) h88_ k85_ (by decide)
  have k91_ : q_K (qs_R (qs_P S86_ 2434 a0 (some b81_)) 21 96 b87_) b87_ = 21 := qs_R_Ks
  refine q_putP X Y (some b87_) rfl kX12 35 rfl fl_X12_60 k6_ _ rfl (Or.inr ⟨_, rfl⟩) (Or.inr ⟨rfl, hnm, rfl⟩) dX12_init_140 (fun H locs Y => ?_)
  obtain ⟨S92_, gS92_⟩ : ∃ z : q_S, z = (qs_P (qs_R (qs_P S86_ 2434 a0 (some b81_)) 21 96 b87_) 2435 a0 (some b87_)) := ⟨_, rfl⟩
  replace Y : q_Y D cy lo s S92_ H locs := by rw [gS92_]; exact Y
  replace h := h S92_ gS92_
  replace k5_ : q_K S92_ b1_ = 20 := by rw [gS92_]; exact k5_
  replace k6_ : q_K S92_ a0 = 13 := by rw [gS92_]; exact k6_
  replace k11_ : q_K S92_ b7_ = 20 := by rw [gS92_]; exact k11_
  replace k17_ : q_K S92_ b13_ = 20 := by rw [gS92_]; exact k17_
  replace k23_ : q_K S92_ b19_ = 21 := by rw [gS92_]; exact k23_
  replace k29_ : q_K S92_ b25_ = 21 := by rw [gS92_]; exact k29_
  replace k34_ : q_K S92_ b30_ = 21 := by rw [gS92_]; exact k34_
  replace k40_ : q_K S92_ b36_ = 21 := by rw [gS92_]; exact k40_
  replace k46_ : q_K S92_ b42_ = 21 := by rw [gS92_]; exact k46_
  replace k51_ : q_K S92_ b47_ = 21 := by rw [gS92_]; exact k51_
  replace k57_ : q_K S92_ b53_ = 21 := by rw [gS92_]; exact k57_
  replace k63_ : q_K S92_ b59_ = 21 := by rw [gS92_]; exact k63_
  replace k68_ : q_K S92_ b64_ = 21 := by rw [gS92_]; exact k68_
  replace k74_ : q_K S92_ b70_ = 21 := by rw [gS92_]; exact k74_
  replace k80_ : q_K S92_ b76_ = 21 := by rw [gS92_]; exact k80_
  replace k85_ : q_K S92_ b81_ = 21 := by rw [gS92_]; exact k85_
  replace k91_ : q_K S92_ b87_ = 21 := by rw [gS92_]; exact k91_
  refine lv_aload_n hx hb dX12_init_143 rfl (lv_at hl 0 rfl) ?_
  refine lv_sipush (v := 256) hx hb dX12_init_144 (by decide) ?_
  obtain ⟨w96_, h⟩ := h
  refine q_newa X Y (k := 21) (t := 1) (n := 256) (ty := .int) rfl (by decide) rfl (fun _ _ => rfl) (by first | exact rfl | decide | simp [defaultValue]) ar_int (by decide) (by decide) (by decide) w96_ dX12_init_147 (fun b93_ H h94_ h95_ Y => ?_)
  replace h := h b93_ h94_
  replace hu := w96_
  replace k5_ := qs_R_keep (j := 21) (n := 256) h94_ k5_ (by decide)
  replace k6_ := qs_R_keep (j := 21) (n := 256) h94_ k6_ (by decide)
  replace k11_ := qs_R_keep (j := 21) (n := 256) h94_ k11_ (by decide)
  replace k17_ := qs_R_keep (j := 21) (n := 256) h94_ k17_ (by decide)
  replace k23_ := qs_R_keep (j := 21) (n := 256) h94_ k23_ (by decide)
  replace k29_ := qs_R_keep (j := 21) (n := 256) h94_ k29_ (by decide)
  replace k34_ := qs_R_keep (j := 21) (n := 256) h94_ k34_ (by decide)
  replace k40_ := qs_R_keep (j := 21) (n := 256) h94_ k40_ (by decide)
  replace k46_ := qs_R_keep (j := 21) (n := 256) h94_ k46_ (by decide)
  replace k51_ := qs_R_keep (j := 21) (n := 256) h94_ k51_ (by decide)
  replace k57_ := qs_R_keep (j := 21) (n := 256) h94_ k57_ (by decide)
  replace k63_ := qs_R_keep (j := 21) (n := 256) h94_ k63_ (by decide)
  replace k68_ := qs_R_keep (j := 21) (n := 256) h94_ k68_ (by decide)
  replace k74_ := qs_R_keep (j := 21) (n := 256) h94_ k74_ (by decide)
  replace k80_ := qs_R_keep (j := 21) (n := 256) h94_ k80_ (by decide)
  replace k85_ := qs_R_keep (j := 21) (n := 256) h94_ k85_ (by decide)
  replace k91_ := qs_R_keep (j := 21) (n := 256) h94_ k91_ (by decide)
  have k97_ : q_K (qs_R S92_ 21 256 b93_) b93_ = 21 := qs_R_Ks
  refine q_putP X Y (some b93_) rfl kX12 36 rfl fl_X12_63 k6_ _ rfl (Or.inr ⟨_, rfl⟩) (Or.inr ⟨rfl, hnm, rfl⟩) dX12_init_149 (fun H locs Y => ?_)
  refine lv_aload_n hx hb dX12_init_152 rfl (lv_at hl 0 rfl) ?_
  refine lv_sipush (v := 256) hx hb dX12_init_153 (by decide) ?_
  obtain ⟨w101_, h⟩ := h
  refine q_newa X Y (k := 21) (t := 1) (n := 256) (ty := .int) rfl (by decide) rfl (fun _ _ => rfl) (by first | exact rfl | decide | simp [defaultValue]) ar_int (by decide) (by decide) (by decide) w101_ dX12_init_156 (fun b98_ H h99_ h100_ Y => ?_)
  replace h := h b98_ h99_
  replace hu := w101_
  replace k5_ := qs_R_keep (j := 21) (n := 256) h99_ k5_ (by decide)
  replace k6_ := qs_R_keep (j := 21) (n := 256) h99_ k6_ (by decide)
  replace k11_ := qs_R_keep (j := 21) (n := 256) h99_ k11_ (by decide)
  replace k17_ := qs_R_keep (j := 21) (n := 256) h99_ k17_ (by decide)
  replace k23_ := qs_R_keep (j := 21) (n := 256) h99_ k23_ (by decide)
  replace k29_ := qs_R_keep (j := 21) (n := 256) h99_ k29_ (by decide)
  replace k34_ := qs_R_keep (j := 21) (n := 256) h99_ k34_ (by decide)
  replace k40_ := qs_R_keep (j := 21) (n := 256) h99_ k40_ (by decide)
  replace k46_ := qs_R_keep (j := 21) (n := 256) h99_ k46_ (by decide)
  replace k51_ := qs_R_keep (j := 21) (n := 256) h99_ k51_ (by decide)
  replace k57_ := qs_R_keep (j := 21) (n := 256) h99_ k57_ (by decide)
  replace k63_ := qs_R_keep (j := 21) (n := 256) h99_ k63_ (by decide)
  replace k68_ := qs_R_keep (j := 21) (n := 256) h99_ k68_ (by decide)
  replace k74_ := qs_R_keep (j := 21) (n := 256) h99_ k74_ (by decide)
  replace k80_ := qs_R_keep (j := 21) (n := 256) h99_ k80_ (by decide)
  replace k85_ := qs_R_keep (j := 21) (n := 256) h99_ k85_ (by decide)
  replace k91_ := qs_R_keep (j := 21) (n := 256) h99_ k91_ (by decide)
  replace k97_ := qs_R_keep (j := 21) (n := 256) h99_ k97_ (by decide)
  have k102_ : q_K (qs_R (qs_P (qs_R S92_ 21 256 b93_) 2436 a0 (some b93_)) 21 256 b98_) b98_ = 21 := qs_R_Ks
  obtain ⟨S103_, gS103_⟩ : ∃ z : q_S, z = (qs_R (qs_P (qs_R S92_ 21 256 b93_) 2436 a0 (some b93_)) 21 256 b98_) := ⟨_, rfl⟩
  replace Y : q_Y D cy lo s S103_ H locs := by rw [gS103_]; exact Y
  replace h := h S103_ gS103_
  replace k5_ : q_K S103_ b1_ = 20 := by rw [gS103_]; exact k5_
  replace k6_ : q_K S103_ a0 = 13 := by rw [gS103_]; exact k6_
  replace k11_ : q_K S103_ b7_ = 20 := by rw [gS103_]; exact k11_
  replace k17_ : q_K S103_ b13_ = 20 := by rw [gS103_]; exact k17_
  replace k23_ : q_K S103_ b19_ = 21 := by rw [gS103_]; exact k23_
  replace k29_ : q_K S103_ b25_ = 21 := by rw [gS103_]; exact k29_
  replace k34_ : q_K S103_ b30_ = 21 := by rw [gS103_]; exact k34_
  replace k40_ : q_K S103_ b36_ = 21 := by rw [gS103_]; exact k40_
  replace k46_ : q_K S103_ b42_ = 21 := by rw [gS103_]; exact k46_
  replace k51_ : q_K S103_ b47_ = 21 := by rw [gS103_]; exact k51_
  replace k57_ : q_K S103_ b53_ = 21 := by rw [gS103_]; exact k57_
  replace k63_ : q_K S103_ b59_ = 21 := by rw [gS103_]; exact k63_
  replace k68_ : q_K S103_ b64_ = 21 := by rw [gS103_]; exact k68_
  replace k74_ : q_K S103_ b70_ = 21 := by rw [gS103_]; exact k74_
  replace k80_ : q_K S103_ b76_ = 21 := by rw [gS103_]; exact k80_
  replace k85_ : q_K S103_ b81_ = 21 := by rw [gS103_]; exact k85_
  replace k91_ : q_K S103_ b87_ = 21 := by rw [gS103_]; exact k91_
  replace k97_ : q_K S103_ b93_ = 21 := by rw [gS103_]; exact k97_
  replace k102_ : q_K S103_ b98_ = 21 := by rw [gS103_]; exact k102_
  refine q_putP X Y (some b98_) rfl kX12 37 rfl fl_X12_66 k6_ _ rfl (Or.inr ⟨_, rfl⟩) (Or.inr ⟨rfl, hnm, rfl⟩) dX12_init_158 (fun H locs Y => ?_)
  refine lv_aload_n hx hb dX12_init_161 rfl (lv_at hl 0 rfl) ?_
  refine lv_sipush (v := 256) hx hb dX12_init_162 (by decide) ?_
  obtain ⟨w107_, h⟩ := h
  refine q_newa X Y (k := 21) (t := 1) (n := 256) (ty := .int) rfl (by decide) rfl (fun _ _ => rfl) (by first | exact rfl | decide | simp [defaultValue]) ar_int (by decide) (by decide) (by decide) w107_ dX12_init_165 (fun b104_ H h105_ h106_ Y => ?_)
  replace h := h b104_ h105_
  replace hu := w107_
  replace k5_ := qs_R_keep (j := 21) (n := 256) h105_ k5_ (by decide)
  replace k6_ := qs_R_keep (j := 21) (n := 256) h105_ k6_ (by decide)
  replace k11_ := qs_R_keep (j := 21) (n := 256) h105_ k11_ (by decide)
  replace k17_ := qs_R_keep (j := 21) (n := 256) h105_ k17_ (by decide)
  replace k23_ := qs_R_keep (j := 21) (n := 256) h105_ k23_ (by decide)
  replace k29_ := qs_R_keep (j := 21) (n := 256) h105_ k29_ (by decide)
  replace k34_ := qs_R_keep (j := 21) (n := 256) h105_ k34_ (by decide)
  replace k40_ := qs_R_keep (j := 21) (n := 256) h105_ k40_ (by decide)
  replace k46_ := qs_R_keep (j := 21) (n := 256) h105_ k46_ (by decide)
  replace k51_ := qs_R_keep (j := 21) (n := 256) h105_ k51_ (by decide)
  replace k57_ := qs_R_keep (j := 21) (n := 256) h105_ k57_ (by decide)
  replace k63_ := qs_R_keep (j := 21) (n := 256) h105_ k63_ (by decide)
  replace k68_ := qs_R_keep (j := 21) (n := 256) h105_ k68_ (by decide)
  replace k74_ := qs_R_keep (j := 21) (n := 256) h105_ k74_ (by decide)
  replace k80_ := qs_R_keep (j := 21) (n := 256) h105_ k80_ (by decide)
  replace k85_ := qs_R_keep (j := 21) (n := 256) h105_ k85_ (by decide)
  replace k91_ := qs_R_keep (j := 21) (n := 256) h105_ k91_ (by decide)
  replace k97_ := qs_R_keep (j := 21) (n := 256) h105_ k97_ (by decide)
  replace k102_ := qs_R_keep (j := 21) (n := 256) h105_ k102_ (by decide)
  have k108_ : q_K (qs_R (qs_P S103_ 2437 a0 (some b98_)) 21 256 b104_) b104_ = 21 := qs_R_Ks
  refine q_putP X Y (some b104_) rfl kX12 38 rfl fl_X12_69 k6_ _ rfl (Or.inr ⟨_, rfl⟩) (Or.inr ⟨rfl, hnm, rfl⟩) dX12_init_167 (fun H locs Y => ?_)
  obtain ⟨S109_, gS109_⟩ : ∃ z : q_S, z = (qs_P (qs_R (qs_P S103_ 2437 a0 (some b98_)) 21 256 b104_) 2438 a0 (some b104_)) := ⟨_, rfl⟩
  replace Y : q_Y D cy lo s S109_ H locs := by rw [gS109_]; exact Y
  replace h := h S109_ gS109_
  replace k5_ : q_K S109_ b1_ = 20 := by rw [gS109_]; exact k5_
  replace k6_ : q_K S109_ a0 = 13 := by rw [gS109_]; exact k6_
  replace k11_ : q_K S109_ b7_ = 20 := by rw [gS109_]; exact k11_
  replace k17_ : q_K S109_ b13_ = 20 := by rw [gS109_]; exact k17_
  replace k23_ : q_K S109_ b19_ = 21 := by rw [gS109_]; exact k23_
  replace k29_ : q_K S109_ b25_ = 21 := by rw [gS109_]; exact k29_
  replace k34_ : q_K S109_ b30_ = 21 := by rw [gS109_]; exact k34_
  replace k40_ : q_K S109_ b36_ = 21 := by rw [gS109_]; exact k40_
  replace k46_ : q_K S109_ b42_ = 21 := by rw [gS109_]; exact k46_
  replace k51_ : q_K S109_ b47_ = 21 := by rw [gS109_]; exact k51_
  replace k57_ : q_K S109_ b53_ = 21 := by rw [gS109_]; exact k57_
  replace k63_ : q_K S109_ b59_ = 21 := by rw [gS109_]; exact k63_
  replace k68_ : q_K S109_ b64_ = 21 := by rw [gS109_]; exact k68_
  replace k74_ : q_K S109_ b70_ = 21 := by rw [gS109_]; exact k74_
  replace k80_ : q_K S109_ b76_ = 21 := by rw [gS109_]; exact k80_
  replace k85_ : q_K S109_ b81_ = 21 := by rw [gS109_]; exact k85_
  replace k91_ : q_K S109_ b87_ = 21 := by rw [gS109_]; exact k91_
  replace k97_ : q_K S109_ b93_ = 21 := by rw [gS109_]; exact k97_
  replace k102_ : q_K S109_ b98_ = 21 := by rw [gS109_]; exact k102_
  replace k108_ : q_K S109_ b104_ = 21 := by rw [gS109_]; exact k108_
  refine lv_aload_n hx hb dX12_init_170 rfl (lv_at hl 0 rfl) ?_
  refine lv_sipush (v := 256) hx hb dX12_init_171 (by decide) ?_
  obtain ⟨w113_, h⟩ := h
  refine q_newa X Y (k := 21) (t := 1) (n := 256) (ty := .int) rfl (by decide) rfl (fun _ _ => rfl) (by first | exact rfl | decide | simp [defaultValue]) ar_int (by decide) (by decide) (by decide) w113_ dX12_init_174 (fun b110_ H h111_ h112_ Y => ?_)
  replace h := h b110_ h111_
  replace hu := w113_
  replace k5_ := qs_R_keep (j := 21) (n := 256) h111_ k5_ (by decide)
  replace k6_ := qs_R_keep (j := 21) (n := 256) h111_ k6_ (by decide)
  replace k11_ := qs_R_keep (j := 21) (n := 256) h111_ k11_ (by decide)
  replace k17_ := qs_R_keep (j := 21) (n := 256) h111_ k17_ (by decide)
  replace k23_ := qs_R_keep (j := 21) (n := 256) h111_ k23_ (by decide)
  replace k29_ := qs_R_keep (j := 21) (n := 256) h111_ k29_ (by decide)
  replace k34_ := qs_R_keep (j := 21) (n := 256) h111_ k34_ (by decide)
  replace k40_ := qs_R_keep (j := 21) (n := 256) h111_ k40_ (by decide)
  replace k46_ := qs_R_keep (j := 21) (n := 256) h111_ k46_ (by decide)
  replace k51_ := qs_R_keep (j := 21) (n := 256) h111_ k51_ (by decide)
  replace k57_ := qs_R_keep (j := 21) (n := 256) h111_ k57_ (by decide)
  replace k63_ := qs_R_keep (j := 21) (n := 256) h111_ k63_ (by decide)
  replace k68_ := qs_R_keep (j := 21) (n := 256) h111_ k68_ (by decide)
  replace k74_ := qs_R_keep (j := 21) (n := 256) h111_ k74_ (by decide)
  replace k80_ := qs_R_keep (j := 21) (n := 256) h111_ k80_ (by decide)
  replace k85_ := qs_R_keep (j := 21) (n := 256) h111_ k85_ (by decide)
  replace k91_ := qs_R_keep (j := 21) (n := 256) h111_ k91_ (by decide)
  replace k97_ := qs_R_keep (j := 21) (n := 256) h111_ k97_ (by decide)
  replace k102_ := qs_R_keep (j := 21) (n := 256) h111_ k102_ (by decide)
  replace k108_ := qs_R_keep (j := 21) (n := 256) h111_ k108_ (by decide)
  have k114_ : q_K (qs_R S109_ 21 256 b110_) b110_ = 21 := qs_R_Ks
  refine q_putP X Y (some b110_) rfl kX12 39 rfl fl_X12_72 k6_ _ rfl (Or.inr ⟨_, rfl⟩) (Or.inr ⟨rfl, hnm, rfl⟩) dX12_init_176 (fun H locs Y => ?_)
  refine lv_aload_n hx hb dX12_init_179 rfl (lv_at hl 0 rfl) ?_
  refine lv_sipush (v := 256) hx hb dX12_init_180 (by decide) ?_
  obtain ⟨w118_, h⟩ := h
  refine q_newa X Y (k := 21) (t := 1) (n := 256) (ty := .int) rfl (by decide) rfl (fun _ _ => rfl) (by first | exact rfl | decide | simp [defaultValue]) ar_int (by decide) (by decide) (by decide) w118_ dX12_init_183 (fun b115_ H h116_ h117_ Y => ?_)
  replace h := h b115_ h116_
  replace hu := w118_
  replace k5_ := qs_R_keep (j := 21) (n := 256) h116_ k5_ (by decide)
  replace k6_ := qs_R_keep (j := 21) (n := 256) h116_ k6_ (by decide)
  replace k11_ := qs_R_keep (j := 21) (n := 256) h116_ k11_ (by decide)
  replace k17_ := qs_R_keep (j := 21) (n := 256) h116_ k17_ (by decide)
  replace k23_ := qs_R_keep (j := 21) (n := 256) h116_ k23_ (by decide)
  replace k29_ := qs_R_keep (j := 21) (n := 256) h116_ k29_ (by decide)
  replace k34_ := qs_R_keep (j := 21) (n := 256) h116_ k34_ (by decide)
  replace k40_ := qs_R_keep (j := 21) (n := 256) h116_ k40_ (by decide)
  replace k46_ := qs_R_keep (j := 21) (n := 256) h116_ k46_ (by decide)
  replace k51_ := qs_R_keep (j := 21) (n := 256) h116_ k51_ (by decide)
  replace k57_ := qs_R_keep (j := 21) (n := 256) h116_ k57_ (by decide)
  replace k63_ := qs_R_keep (j := 21) (n := 256) h116_ k63_ (by decide)
  replace k68_ := qs_R_keep (j := 21) (n := 256) h116_ k68_ (by decide)
  replace k74_ := qs_R_keep (j := 21) (n := 256) h116_ k74_ (by decide)
  replace k80_ := qs_R_keep (j := 21) (n := 256) h116_ k80_ (by decide)
  replace k85_ := qs_R_keep (j := 21) (n := 256) h116_ k85_ (by decide)
  replace k91_ := qs_R_keep (j := 21) (n := 256) h116_ k91_ (by decide)
  replace k97_ := qs_R_keep (j := 21) (n := 256) h116_ k97_ (by decide)
  replace k102_ := qs_R_keep (j := 21) (n := 256) h116_ k102_ (by decide)
  replace k108_ := qs_R_keep (j := 21) (n := 256) h116_ k108_ (by decide)
  replace k114_ := qs_R_keep (j := 21) (n := 256) h116_ k114_ (by decide)
  have k119_ : q_K (qs_R (qs_P (qs_R S109_ 21 256 b110_) 2439 a0 (some b110_)) 21 256 b115_) b115_ = 21 := qs_R_Ks
  obtain ⟨S120_, gS120_⟩ : ∃ z : q_S, z = (qs_R (qs_P (qs_R S109_ 21 256 b110_) 2439 a0 (some b110_)) 21 256 b115_) := ⟨_, rfl⟩
  replace Y : q_Y D cy lo s S120_ H locs := by rw [gS120_]; exact Y
  replace h := h S120_ gS120_
  replace k5_ : q_K S120_ b1_ = 20 := by rw [gS120_]; exact k5_
  replace k6_ : q_K S120_ a0 = 13 := by rw [gS120_]; exact k6_
  replace k11_ : q_K S120_ b7_ = 20 := by rw [gS120_]; exact k11_
  replace k17_ : q_K S120_ b13_ = 20 := by rw [gS120_]; exact k17_
  replace k23_ : q_K S120_ b19_ = 21 := by rw [gS120_]; exact k23_
  replace k29_ : q_K S120_ b25_ = 21 := by rw [gS120_]; exact k29_
  replace k34_ : q_K S120_ b30_ = 21 := by rw [gS120_]; exact k34_
  replace k40_ : q_K S120_ b36_ = 21 := by rw [gS120_]; exact k40_
  replace k46_ : q_K S120_ b42_ = 21 := by rw [gS120_]; exact k46_
  replace k51_ : q_K S120_ b47_ = 21 := by rw [gS120_]; exact k51_
  replace k57_ : q_K S120_ b53_ = 21 := by rw [gS120_]; exact k57_
  replace k63_ : q_K S120_ b59_ = 21 := by rw [gS120_]; exact k63_
  replace k68_ : q_K S120_ b64_ = 21 := by rw [gS120_]; exact k68_
  replace k74_ : q_K S120_ b70_ = 21 := by rw [gS120_]; exact k74_
  replace k80_ : q_K S120_ b76_ = 21 := by rw [gS120_]; exact k80_
  replace k85_ : q_K S120_ b81_ = 21 := by rw [gS120_]; exact k85_
  replace k91_ : q_K S120_ b87_ = 21 := by rw [gS120_]; exact k91_
  replace k97_ : q_K S120_ b93_ = 21 := by rw [gS120_]; exact k97_
  replace k102_ : q_K S120_ b98_ = 21 := by rw [gS120_]; exact k102_
  replace k108_ : q_K S120_ b104_ = 21 := by rw [gS120_]; exact k108_
  replace k114_ : q_K S120_ b110_ = 21 := by rw [gS120_]; exact k114_
  replace k119_ : q_K S120_ b115_ = 21 := by rw [gS120_]; exact k119_
  refine q_putP X Y (some b115_) rfl kX12 40 rfl fl_X12_75 k6_ _ rfl (Or.inr ⟨_, rfl⟩) (Or.inr ⟨rfl, hnm, rfl⟩) dX12_init_185 (fun H locs Y => ?_)
  refine lv_aload_n hx hb dX12_init_188 rfl (lv_at hl 0 rfl) ?_
  refine lv_sipush (v := 256) hx hb dX12_init_189 (by decide) ?_
  obtain ⟨w124_, h⟩ := h
  refine q_newa X Y (k := 22) (t := 2) (n := 256) (ty := .boolean) rfl (by decide) rfl (fun _ _ => rfl) (by first | exact rfl | decide | simp [defaultValue]) ar_boolean (by decide) (by decide) (by decide) w124_ dX12_init_192 (fun b121_ H h122_ h123_ Y => ?_)
  replace h := h b121_ h122_
  replace hu := w124_
  replace k5_ := qs_R_keep (j := 22) (n := 256) h122_ k5_ (by decide)
  replace k6_ := qs_R_keep (j := 22) (n := 256) h122_ k6_ (by decide)
  replace k11_ := qs_R_keep (j := 22) (n := 256) h122_ k11_ (by decide)
  replace k17_ := qs_R_keep (j := 22) (n := 256) h122_ k17_ (by decide)
  replace k23_ := qs_R_keep (j := 22) (n := 256) h122_ k23_ (by decide)
  replace k29_ := qs_R_keep (j := 22) (n := 256) h122_ k29_ (by decide)
  replace k34_ := qs_R_keep (j := 22) (n := 256) h122_ k34_ (by decide)
  replace k40_ := qs_R_keep (j := 22) (n := 256) h122_ k40_ (by decide)
  replace k46_ := qs_R_keep (j := 22) (n := 256) h122_ k46_ (by decide)
  replace k51_ := qs_R_keep (j := 22) (n := 256) h122_ k51_ (by decide)
  replace k57_ := qs_R_keep (j := 22) (n := 256) h122_ k57_ (by decide)
  replace k63_ := qs_R_keep (j := 22) (n := 256) h122_ k63_ (by decide)
  replace k68_ := qs_R_keep (j := 22) (n := 256) h122_ k68_ (by decide)
  replace k74_ := qs_R_keep (j := 22) (n := 256) h122_ k74_ (by decide)
  replace k80_ := qs_R_keep (j := 22) (n := 256) h122_ k80_ (by decide)
  replace k85_ := qs_R_keep (j := 22) (n := 256) h122_ k85_ (by decide)
  replace k91_ := qs_R_keep (j := 22) (n := 256) h122_ k91_ (by decide)
  replace k97_ := qs_R_keep (j := 22) (n := 256) h122_ k97_ (by decide)
  replace k102_ := qs_R_keep (j := 22) (n := 256) h122_ k102_ (by decide)
  replace k108_ := qs_R_keep (j := 22) (n := 256) h122_ k108_ (by decide)
  replace k114_ := qs_R_keep (j := 22) (n := 256) h122_ k114_ (by decide)
  replace k119_ := qs_R_keep (j := 22) (n := 256) h122_ k119_ (by decide)
  have k125_ : q_K (qs_R (qs_P S120_ 2440 a0 (some b115_)) 22 256 b121_) b121_ = 22 := qs_R_Ks
  refine q_putP X Y (some b121_) rfl kX12 41 rfl fl_X12_78 k6_ _ rfl (Or.inr ⟨_, rfl⟩) (Or.inr ⟨rfl, hnm, rfl⟩) dX12_init_194 (fun H locs Y => ?_)
  obtain ⟨S126_, gS126_⟩ : ∃ z : q_S, z = (qs_P (qs_R (qs_P S120_ 2440 a0 (some b115_)) 22 256 b121_) 2441 a0 (some b121_)) := ⟨_, rfl⟩
  replace Y : q_Y D cy lo s S126_ H locs := by rw [gS126_]; exact Y
  replace h := h S126_ gS126_
  replace k5_ : q_K S126_ b1_ = 20 := by rw [gS126_]; exact k5_
  replace k6_ : q_K S126_ a0 = 13 := by rw [gS126_]; exact k6_
  replace k11_ : q_K S126_ b7_ = 20 := by rw [gS126_]; exact k11_
  replace k17_ : q_K S126_ b13_ = 20 := by rw [gS126_]; exact k17_
  replace k23_ : q_K S126_ b19_ = 21 := by rw [gS126_]; exact k23_
  replace k29_ : q_K S126_ b25_ = 21 := by rw [gS126_]; exact k29_
  replace k34_ : q_K S126_ b30_ = 21 := by rw [gS126_]; exact k34_
  replace k40_ : q_K S126_ b36_ = 21 := by rw [gS126_]; exact k40_
  replace k46_ : q_K S126_ b42_ = 21 := by rw [gS126_]; exact k46_
  replace k51_ : q_K S126_ b47_ = 21 := by rw [gS126_]; exact k51_
  replace k57_ : q_K S126_ b53_ = 21 := by rw [gS126_]; exact k57_
  replace k63_ : q_K S126_ b59_ = 21 := by rw [gS126_]; exact k63_
  replace k68_ : q_K S126_ b64_ = 21 := by rw [gS126_]; exact k68_
  replace k74_ : q_K S126_ b70_ = 21 := by rw [gS126_]; exact k74_
  replace k80_ : q_K S126_ b76_ = 21 := by rw [gS126_]; exact k80_
  replace k85_ : q_K S126_ b81_ = 21 := by rw [gS126_]; exact k85_
  replace k91_ : q_K S126_ b87_ = 21 := by rw [gS126_]; exact k91_
  replace k97_ : q_K S126_ b93_ = 21 := by rw [gS126_]; exact k97_
  replace k102_ : q_K S126_ b98_ = 21 := by rw [gS126_]; exact k102_
  replace k108_ : q_K S126_ b104_ = 21 := by rw [gS126_]; exact k108_
  replace k114_ : q_K S126_ b110_ = 21 := by rw [gS126_]; exact k114_
  replace k119_ : q_K S126_ b115_ = 21 := by rw [gS126_]; exact k119_
  replace k125_ : q_K S126_ b121_ = 22 := by rw [gS126_]; exact k125_
  refine lv_aload_n hx hb dX12_init_197 rfl (lv_at hl 0 rfl) ?_
  refine lv_bipush (v := 16) hx hb dX12_init_198 (by decide) ?_
  obtain ⟨w130_, h⟩ := h
  refine q_newa X Y (k := 21) (t := 1) (n := 16) (ty := .int) rfl (by decide) rfl (fun _ _ => rfl) (by first | exact rfl | decide | simp [defaultValue]) ar_int (by decide) (by decide) (by decide) w130_ dX12_init_200 (fun b127_ H h128_ h129_ Y => ?_)
  replace h := h b127_ h128_
  replace hu := w130_
  replace k5_ := qs_R_keep (j := 21) (n := 16) h128_ k5_ (by decide)
  replace k6_ := qs_R_keep (j := 21) (n := 16) h128_ k6_ (by decide)
  replace k11_ := qs_R_keep (j := 21) (n := 16) h128_ k11_ (by decide)
  replace k17_ := qs_R_keep (j := 21) (n := 16) h128_ k17_ (by decide)
  replace k23_ := qs_R_keep (j := 21) (n := 16) h128_ k23_ (by decide)
  replace k29_ := qs_R_keep (j := 21) (n := 16) h128_ k29_ (by decide)
  replace k34_ := qs_R_keep (j := 21) (n := 16) h128_ k34_ (by decide)
  replace k40_ := qs_R_keep (j := 21) (n := 16) h128_ k40_ (by decide)
  replace k46_ := qs_R_keep (j := 21) (n := 16) h128_ k46_ (by decide)
  replace k51_ := qs_R_keep (j := 21) (n := 16) h128_ k51_ (by decide)
  replace k57_ := qs_R_keep (j := 21) (n := 16) h128_ k57_ (by decide)
  replace k63_ := qs_R_keep (j := 21) (n := 16) h128_ k63_ (by decide)
  replace k68_ := qs_R_keep (j := 21) (n := 16) h128_ k68_ (by decide)
  replace k74_ := qs_R_keep (j := 21) (n := 16) h128_ k74_ (by decide)
  replace k80_ := qs_R_keep (j := 21) (n := 16) h128_ k80_ (by decide)
  replace k85_ := qs_R_keep (j := 21) (n := 16) h128_ k85_ (by decide)
  replace k91_ := qs_R_keep (j := 21) (n := 16) h128_ k91_ (by decide)
  replace k97_ := qs_R_keep (j := 21) (n := 16) h128_ k97_ (by decide)
  replace k102_ := qs_R_keep (j := 21) (n := 16) h128_ k102_ (by decide)
  replace k108_ := qs_R_keep (j := 21) (n := 16) h128_ k108_ (by decide)
  replace k114_ := qs_R_keep (j := 21) (n := 16) h128_ k114_ (by decide)
  replace k119_ := qs_R_keep (j := 21) (n := 16) h128_ k119_ (by decide)
  replace k125_ := qs_R_keep (j := 21) (n := 16) h128_ k125_ (by decide)
  have k131_ : q_K (qs_R S126_ 21 16 b127_) b127_ = 21 := qs_R_Ks
  refine q_putP X Y (some b127_) rfl kX12 42 rfl fl_X12_82 k6_ _ rfl (Or.inr ⟨_, rfl⟩) (Or.inr ⟨rfl, hnm, rfl⟩) dX12_init_202 (fun H locs Y => ?_)
  refine lv_aload_n hx hb dX12_init_205 rfl (lv_at hl 0 rfl) ?_
  refine lv_sipush (v := 128) hx hb dX12_init_206 (by decide) ?_
  obtain ⟨w135_, h⟩ := h
  refine q_newa X Y (k := 21) (t := 1) (n := 128) (ty := .int) rfl (by decide) rfl (fun _ _ => rfl) (by first | exact rfl | decide | simp [defaultValue]) ar_int (by decide) (by decide) (by decide) w135_ dX12_init_209 (fun b132_ H h133_ h134_ Y => ?_)
  replace h := h b132_ h133_
  replace hu := w135_
  replace k5_ := qs_R_keep (j := 21) (n := 128) h133_ k5_ (by decide)
  replace k6_ := qs_R_keep (j := 21) (n := 128) h133_ k6_ (by decide)
  replace k11_ := qs_R_keep (j := 21) (n := 128) h133_ k11_ (by decide)
  replace k17_ := qs_R_keep (j := 21) (n := 128) h133_ k17_ (by decide)
  replace k23_ := qs_R_keep (j := 21) (n := 128) h133_ k23_ (by decide)
  replace k29_ := qs_R_keep (j := 21) (n := 128) h133_ k29_ (by decide)
  replace k34_ := qs_R_keep (j := 21) (n := 128) h133_ k34_ (by decide)
  replace k40_ := qs_R_keep (j := 21) (n := 128) h133_ k40_ (by decide)
  replace k46_ := qs_R_keep (j := 21) (n := 128) h133_ k46_ (by decide)
  replace k51_ := qs_R_keep (j := 21) (n := 128) h133_ k51_ (by decide)
  replace k57_ := qs_R_keep (j := 21) (n := 128) h133_ k57_ (by decide)
  replace k63_ := qs_R_keep (j := 21) (n := 128) h133_ k63_ (by decide)
  replace k68_ := qs_R_keep (j := 21) (n := 128) h133_ k68_ (by decide)
  replace k74_ := qs_R_keep (j := 21) (n := 128) h133_ k74_ (by decide)
  replace k80_ := qs_R_keep (j := 21) (n := 128) h133_ k80_ (by decide)
  replace k85_ := qs_R_keep (j := 21) (n := 128) h133_ k85_ (by decide)
  replace k91_ := qs_R_keep (j := 21) (n := 128) h133_ k91_ (by decide)
  replace k97_ := qs_R_keep (j := 21) (n := 128) h133_ k97_ (by decide)
  replace k102_ := qs_R_keep (j := 21) (n := 128) h133_ k102_ (by decide)
  replace k108_ := qs_R_keep (j := 21) (n := 128) h133_ k108_ (by decide)
  replace k114_ := qs_R_keep (j := 21) (n := 128) h133_ k114_ (by decide)
  replace k119_ := qs_R_keep (j := 21) (n := 128) h133_ k119_ (by decide)
  replace k125_ := qs_R_keep (j := 21) (n := 128) h133_ k125_ (by decide)
  replace k131_ := qs_R_keep (j := 21) (n := 128) h133_ k131_ (by decide)
  have k136_ : q_K (qs_R (qs_P (qs_R S126_ 21 16 b127_) 2442 a0 (some b127_)) 21 128 b132_) b132_ = 21 := qs_R_Ks
  obtain ⟨S137_, gS137_⟩ : ∃ z : q_S, z = (qs_R (qs_P (qs_R S126_ 21 16 b127_) 2442 a0 (some b127_)) 21 128 b132_) := ⟨_, rfl⟩
  replace Y : q_Y D cy lo s S137_ H locs := by rw [gS137_]; exact Y
  replace h := h S137_ gS137_
  replace k5_ : q_K S137_ b1_ = 20 := by rw [gS137_]; exact k5_
  replace k6_ : q_K S137_ a0 = 13 := by rw [gS137_]; exact k6_
  replace k11_ : q_K S137_ b7_ = 20 := by rw [gS137_]; exact k11_
  replace k17_ : q_K S137_ b13_ = 20 := by rw [gS137_]; exact k17_
  replace k23_ : q_K S137_ b19_ = 21 := by rw [gS137_]; exact k23_
  replace k29_ : q_K S137_ b25_ = 21 := by rw [gS137_]; exact k29_
  replace k34_ : q_K S137_ b30_ = 21 := by rw [gS137_]; exact k34_
  replace k40_ : q_K S137_ b36_ = 21 := by rw [gS137_]; exact k40_
  replace k46_ : q_K S137_ b42_ = 21 := by rw [gS137_]; exact k46_
  replace k51_ : q_K S137_ b47_ = 21 := by rw [gS137_]; exact k51_
  replace k57_ : q_K S137_ b53_ = 21 := by rw [gS137_]; exact k57_
  replace k63_ : q_K S137_ b59_ = 21 := by rw [gS137_]; exact k63_
  replace k68_ : q_K S137_ b64_ = 21 := by rw [gS137_]; exact k68_
  replace k74_ : q_K S137_ b70_ = 21 := by rw [gS137_]; exact k74_
  replace k80_ : q_K S137_ b76_ = 21 := by rw [gS137_]; exact k80_
  replace k85_ : q_K S137_ b81_ = 21 := by rw [gS137_]; exact k85_
  replace k91_ : q_K S137_ b87_ = 21 := by rw [gS137_]; exact k91_
  replace k97_ : q_K S137_ b93_ = 21 := by rw [gS137_]; exact k97_
  replace k102_ : q_K S137_ b98_ = 21 := by rw [gS137_]; exact k102_
  replace k108_ : q_K S137_ b104_ = 21 := by rw [gS137_]; exact k108_
  replace k114_ : q_K S137_ b110_ = 21 := by rw [gS137_]; exact k114_
  replace k119_ : q_K S137_ b115_ = 21 := by rw [gS137_]; exact k119_
  replace k125_ : q_K S137_ b121_ = 22 := by rw [gS137_]; exact k125_
  replace k131_ : q_K S137_ b127_ = 21 := by rw [gS137_]; exact k131_
  replace k136_ : q_K S137_ b132_ = 21 := by rw [gS137_]; exact k136_
  refine q_putP X Y (some b132_) rfl kX12 43 rfl fl_X12_85 k6_ _ rfl (Or.inr ⟨_, rfl⟩) (Or.inr ⟨rfl, hnm, rfl⟩) dX12_init_211 (fun H locs Y => ?_)
  refine lv_aload_n hx hb dX12_init_214 rfl (lv_at hl 0 rfl) ?_
  refine lv_sipush (v := 128) hx hb dX12_init_215 (by decide) ?_
  obtain ⟨w141_, h⟩ := h
  refine q_newa X Y (k := 21) (t := 1) (n := 128) (ty := .int) rfl (by decide) rfl (fun _ _ => rfl) (by first | exact rfl | decide | simp [defaultValue]) ar_int (by decide) (by decide) (by decide) w141_ dX12_init_218 (fun b138_ H h139_ h140_ Y => ?_)
  replace h := h b138_ h139_
  replace hu := w141_
  replace k5_ := qs_R_keep (j := 21) (n := 128) h139_ k5_ (by decide)
  replace k6_ := qs_R_keep (j := 21) (n := 128) h139_ k6_ (by decide)
  replace k11_ := qs_R_keep (j := 21) (n := 128) h139_ k11_ (by decide)
  replace k17_ := qs_R_keep (j := 21) (n := 128) h139_ k17_ (by decide)
  replace k23_ := qs_R_keep (j := 21) (n := 128) h139_ k23_ (by decide)
  replace k29_ := qs_R_keep (j := 21) (n := 128) h139_ k29_ (by decide)
  replace k34_ := qs_R_keep (j := 21) (n := 128) h139_ k34_ (by decide)
  replace k40_ := qs_R_keep (j := 21) (n := 128) h139_ k40_ (by decide)
  replace k46_ := qs_R_keep (j := 21) (n := 128) h139_ k46_ (by decide)
  replace k51_ := qs_R_keep (j := 21) (n := 128) h139_ k51_ (by decide)
  replace k57_ := qs_R_keep (j := 21) (n := 128) h139_ k57_ (by decide)
  replace k63_ := qs_R_keep (j := 21) (n := 128) h139_ k63_ (by decide)
  replace k68_ := qs_R_keep (j := 21) (n := 128) h139_ k68_ (by decide)
  replace k74_ := qs_R_keep (j := 21) (n := 128) h139_ k74_ (by decide)
  replace k80_ := qs_R_keep (j := 21) (n := 128) h139_ k80_ (by decide)
  replace k85_ := qs_R_keep (j := 21) (n := 128) h139_ k85_ (by decide)
  replace k91_ := qs_R_keep (j := 21) (n := 128) h139_ k91_ (by decide)
  replace k97_ := qs_R_keep (j := 21) (n := 128) h139_ k97_ (by decide)
  replace k102_ := qs_R_keep (j := 21) (n := 128) h139_ k102_ (by decide)
  replace k108_ := qs_R_keep (j := 21) (n := 128) h139_ k108_ (by decide)
  replace k114_ := qs_R_keep (j := 21) (n := 128) h139_ k114_ (by decide)
  replace k119_ := qs_R_keep (j := 21) (n := 128) h139_ k119_ (by decide)
  replace k125_ := qs_R_keep (j := 21) (n := 128) h139_ k125_ (by decide)
  replace k131_ := qs_R_keep (j := 21) (n := 128) h139_ k131_ (by decide)
  replace k136_ := qs_R_keep (j := 21) (n := 128) h139_ k136_ (by decide)
  have k142_ : q_K (qs_R (qs_P S137_ 2443 a0 (some b132_)) 21 128 b138_) b138_ = 21 := qs_R_Ks
  refine q_putP X Y (some b138_) rfl kX12 44 rfl fl_X12_88 k6_ _ rfl (Or.inr ⟨_, rfl⟩) (Or.inr ⟨rfl, hnm, rfl⟩) dX12_init_220 (fun H locs Y => ?_)
  obtain ⟨S143_, gS143_⟩ : ∃ z : q_S, z = (qs_P (qs_R (qs_P S137_ 2443 a0 (some b132_)) 21 128 b138_) 2444 a0 (some b138_)) := ⟨_, rfl⟩
  replace Y : q_Y D cy lo s S143_ H locs := by rw [gS143_]; exact Y
  replace h := h S143_ gS143_
  replace k5_ : q_K S143_ b1_ = 20 := by rw [gS143_]; exact k5_
  replace k6_ : q_K S143_ a0 = 13 := by rw [gS143_]; exact k6_
  replace k11_ : q_K S143_ b7_ = 20 := by rw [gS143_]; exact k11_
  replace k17_ : q_K S143_ b13_ = 20 := by rw [gS143_]; exact k17_
  replace k23_ : q_K S143_ b19_ = 21 := by rw [gS143_]; exact k23_
  replace k29_ : q_K S143_ b25_ = 21 := by rw [gS143_]; exact k29_
  replace k34_ : q_K S143_ b30_ = 21 := by rw [gS143_]; exact k34_
  replace k40_ : q_K S143_ b36_ = 21 := by rw [gS143_]; exact k40_
  replace k46_ : q_K S143_ b42_ = 21 := by rw [gS143_]; exact k46_
  replace k51_ : q_K S143_ b47_ = 21 := by rw [gS143_]; exact k51_
  replace k57_ : q_K S143_ b53_ = 21 := by rw [gS143_]; exact k57_
  replace k63_ : q_K S143_ b59_ = 21 := by rw [gS143_]; exact k63_
  replace k68_ : q_K S143_ b64_ = 21 := by rw [gS143_]; exact k68_
  replace k74_ : q_K S143_ b70_ = 21 := by rw [gS143_]; exact k74_
  replace k80_ : q_K S143_ b76_ = 21 := by rw [gS143_]; exact k80_
  replace k85_ : q_K S143_ b81_ = 21 := by rw [gS143_]; exact k85_
  replace k91_ : q_K S143_ b87_ = 21 := by rw [gS143_]; exact k91_
  replace k97_ : q_K S143_ b93_ = 21 := by rw [gS143_]; exact k97_
  replace k102_ : q_K S143_ b98_ = 21 := by rw [gS143_]; exact k102_
  replace k108_ : q_K S143_ b104_ = 21 := by rw [gS143_]; exact k108_
  replace k114_ : q_K S143_ b110_ = 21 := by rw [gS143_]; exact k114_
  replace k119_ : q_K S143_ b115_ = 21 := by rw [gS143_]; exact k119_
  replace k125_ : q_K S143_ b121_ = 22 := by rw [gS143_]; exact k125_
  replace k131_ : q_K S143_ b127_ = 21 := by rw [gS143_]; exact k131_
  replace k136_ : q_K S143_ b132_ = 21 := by rw [gS143_]; exact k136_
  replace k142_ : q_K S143_ b138_ = 21 := by rw [gS143_]; exact k142_
  refine lv_aload_n hx hb dX12_init_223 rfl (lv_at hl 0 rfl) ?_
  refine lv_sipush (v := 128) hx hb dX12_init_224 (by decide) ?_
  obtain ⟨w147_, h⟩ := h
  refine q_newa X Y (k := 22) (t := 2) (n := 128) (ty := .boolean) rfl (by decide) rfl (fun _ _ => rfl) (by first | exact rfl | decide | simp [defaultValue]) ar_boolean (by decide) (by decide) (by decide) w147_ dX12_init_227 (fun b144_ H h145_ h146_ Y => ?_)
  replace h := h b144_ h145_
  replace hu := w147_
  replace k5_ := qs_R_keep (j := 22) (n := 128) h145_ k5_ (by decide)
  replace k6_ := qs_R_keep (j := 22) (n := 128) h145_ k6_ (by decide)
  replace k11_ := qs_R_keep (j := 22) (n := 128) h145_ k11_ (by decide)
  replace k17_ := qs_R_keep (j := 22) (n := 128) h145_ k17_ (by decide)
  replace k23_ := qs_R_keep (j := 22) (n := 128) h145_ k23_ (by decide)
  replace k29_ := qs_R_keep (j := 22) (n := 128) h145_ k29_ (by decide)
  replace k34_ := qs_R_keep (j := 22) (n := 128) h145_ k34_ (by decide)
  replace k40_ := qs_R_keep (j := 22) (n := 128) h145_ k40_ (by decide)
  replace k46_ := qs_R_keep (j := 22) (n := 128) h145_ k46_ (by decide)
  replace k51_ := qs_R_keep (j := 22) (n := 128) h145_ k51_ (by decide)
  replace k57_ := qs_R_keep (j := 22) (n := 128) h145_ k57_ (by decide)
  replace k63_ := qs_R_keep (j := 22) (n := 128) h145_ k63_ (by decide)
  replace k68_ := qs_R_keep (j := 22) (n := 128) h145_ k68_ (by decide)
  replace k74_ := qs_R_keep (j := 22) (n := 128) h145_ k74_ (by decide)
  replace k80_ := qs_R_keep (j := 22) (n := 128) h145_ k80_ (by decide)
  replace k85_ := qs_R_keep (j := 22) (n := 128) h145_ k85_ (by decide)
  replace k91_ := qs_R_keep (j := 22) (n := 128) h145_ k91_ (by decide)
  replace k97_ := qs_R_keep (j := 22) (n := 128) h145_ k97_ (by decide)
  replace k102_ := qs_R_keep (j := 22) (n := 128) h145_ k102_ (by decide)
  replace k108_ := qs_R_keep (j := 22) (n := 128) h145_ k108_ (by decide)
  replace k114_ := qs_R_keep (j := 22) (n := 128) h145_ k114_ (by decide)
  replace k119_ := qs_R_keep (j := 22) (n := 128) h145_ k119_ (by decide)
  replace k125_ := qs_R_keep (j := 22) (n := 128) h145_ k125_ (by decide)
  replace k131_ := qs_R_keep (j := 22) (n := 128) h145_ k131_ (by decide)
  replace k136_ := qs_R_keep (j := 22) (n := 128) h145_ k136_ (by decide)
  replace k142_ := qs_R_keep (j := 22) (n := 128) h145_ k142_ (by decide)
  have k148_ : q_K (qs_R S143_ 22 128 b144_) b144_ = 22 := qs_R_Ks
  refine q_putP X Y (some b144_) rfl kX12 45 rfl fl_X12_91 k6_ _ rfl (Or.inr ⟨_, rfl⟩) (Or.inr ⟨rfl, hnm, rfl⟩) dX12_init_229 (fun H locs Y => ?_)
  refine lv_aload_n hx hb dX12_init_232 rfl (lv_at hl 0 rfl) ?_
  refine lv_sipush (v := 128) hx hb dX12_init_233 (by decide) ?_
  obtain ⟨w152_, h⟩ := h
  refine q_newa X Y (k := 21) (t := 1) (n := 128) (ty := .int) rfl (by decide) rfl (fun _ _ => rfl) (by first | exact rfl | decide | simp [defaultValue]) ar_int (by decide) (by decide) (by decide) w152_ dX12_init_236 (fun b149_ H h150_ h151_ Y => ?_)
  replace h := h b149_ h150_
  replace hu := w152_
  replace k5_ := qs_R_keep (j := 21) (n := 128) h150_ k5_ (by decide)
  replace k6_ := qs_R_keep (j := 21) (n := 128) h150_ k6_ (by decide)
  replace k11_ := qs_R_keep (j := 21) (n := 128) h150_ k11_ (by decide)
  replace k17_ := qs_R_keep (j := 21) (n := 128) h150_ k17_ (by decide)
  replace k23_ := qs_R_keep (j := 21) (n := 128) h150_ k23_ (by decide)
  replace k29_ := qs_R_keep (j := 21) (n := 128) h150_ k29_ (by decide)
  replace k34_ := qs_R_keep (j := 21) (n := 128) h150_ k34_ (by decide)
  replace k40_ := qs_R_keep (j := 21) (n := 128) h150_ k40_ (by decide)
  replace k46_ := qs_R_keep (j := 21) (n := 128) h150_ k46_ (by decide)
  replace k51_ := qs_R_keep (j := 21) (n := 128) h150_ k51_ (by decide)
  replace k57_ := qs_R_keep (j := 21) (n := 128) h150_ k57_ (by decide)
  replace k63_ := qs_R_keep (j := 21) (n := 128) h150_ k63_ (by decide)
  replace k68_ := qs_R_keep (j := 21) (n := 128) h150_ k68_ (by decide)
  replace k74_ := qs_R_keep (j := 21) (n := 128) h150_ k74_ (by decide)
  replace k80_ := qs_R_keep (j := 21) (n := 128) h150_ k80_ (by decide)
  replace k85_ := qs_R_keep (j := 21) (n := 128) h150_ k85_ (by decide)
  replace k91_ := qs_R_keep (j := 21) (n := 128) h150_ k91_ (by decide)
  replace k97_ := qs_R_keep (j := 21) (n := 128) h150_ k97_ (by decide)
  replace k102_ := qs_R_keep (j := 21) (n := 128) h150_ k102_ (by decide)
  replace k108_ := qs_R_keep (j := 21) (n := 128) h150_ k108_ (by decide)
  replace k114_ := qs_R_keep (j := 21) (n := 128) h150_ k114_ (by decide)
  replace k119_ := qs_R_keep (j := 21) (n := 128) h150_ k119_ (by decide)
  replace k125_ := qs_R_keep (j := 21) (n := 128) h150_ k125_ (by decide)
  replace k131_ := qs_R_keep (j := 21) (n := 128) h150_ k131_ (by decide)
  replace k136_ := qs_R_keep (j := 21) (n := 128) h150_ k136_ (by decide)
  replace k142_ := qs_R_keep (j := 21) (n := 128) h150_ k142_ (by decide)
  replace k148_ := qs_R_keep (j := 21) (n := 128) h150_ k148_ (by decide)
  have k153_ : q_K (qs_R (qs_P (qs_R S143_ 22 128 b144_) 2445 a0 (some b144_)) 21 128 b149_) b149_ = 21 := qs_R_Ks
  obtain ⟨S154_, gS154_⟩ : ∃ z : q_S, z = (qs_R (qs_P (qs_R S143_ 22 128 b144_) 2445 a0 (some b144_)) 21 128 b149_) := ⟨_, rfl⟩
  replace Y : q_Y D cy lo s S154_ H locs := by rw [gS154_]; exact Y
  replace h := h S154_ gS154_
  replace k5_ : q_K S154_ b1_ = 20 := by rw [gS154_]; exact k5_
  replace k6_ : q_K S154_ a0 = 13 := by rw [gS154_]; exact k6_
  replace k11_ : q_K S154_ b7_ = 20 := by rw [gS154_]; exact k11_
  replace k17_ : q_K S154_ b13_ = 20 := by rw [gS154_]; exact k17_
  replace k23_ : q_K S154_ b19_ = 21 := by rw [gS154_]; exact k23_
  replace k29_ : q_K S154_ b25_ = 21 := by rw [gS154_]; exact k29_
  replace k34_ : q_K S154_ b30_ = 21 := by rw [gS154_]; exact k34_
  replace k40_ : q_K S154_ b36_ = 21 := by rw [gS154_]; exact k40_
  replace k46_ : q_K S154_ b42_ = 21 := by rw [gS154_]; exact k46_
  replace k51_ : q_K S154_ b47_ = 21 := by rw [gS154_]; exact k51_
  replace k57_ : q_K S154_ b53_ = 21 := by rw [gS154_]; exact k57_
  replace k63_ : q_K S154_ b59_ = 21 := by rw [gS154_]; exact k63_
  replace k68_ : q_K S154_ b64_ = 21 := by rw [gS154_]; exact k68_
  replace k74_ : q_K S154_ b70_ = 21 := by rw [gS154_]; exact k74_
  replace k80_ : q_K S154_ b76_ = 21 := by rw [gS154_]; exact k80_
  replace k85_ : q_K S154_ b81_ = 21 := by rw [gS154_]; exact k85_
  replace k91_ : q_K S154_ b87_ = 21 := by rw [gS154_]; exact k91_
  replace k97_ : q_K S154_ b93_ = 21 := by rw [gS154_]; exact k97_
  replace k102_ : q_K S154_ b98_ = 21 := by rw [gS154_]; exact k102_
  replace k108_ : q_K S154_ b104_ = 21 := by rw [gS154_]; exact k108_
  replace k114_ : q_K S154_ b110_ = 21 := by rw [gS154_]; exact k114_
  replace k119_ : q_K S154_ b115_ = 21 := by rw [gS154_]; exact k119_
  replace k125_ : q_K S154_ b121_ = 22 := by rw [gS154_]; exact k125_
  replace k131_ : q_K S154_ b127_ = 21 := by rw [gS154_]; exact k131_
  replace k136_ : q_K S154_ b132_ = 21 := by rw [gS154_]; exact k136_
  replace k142_ : q_K S154_ b138_ = 21 := by rw [gS154_]; exact k142_
  replace k148_ : q_K S154_ b144_ = 22 := by rw [gS154_]; exact k148_
  replace k153_ : q_K S154_ b149_ = 21 := by rw [gS154_]; exact k153_
  refine q_putP X Y (some b149_) rfl kX12 46 rfl fl_X12_94 k6_ _ rfl (Or.inr ⟨_, rfl⟩) (Or.inr ⟨rfl, hnm, rfl⟩) dX12_init_238 (fun H locs Y => ?_)
  refine lv_aload_n hx hb dX12_init_241 rfl (lv_at hl 0 rfl) ?_
  refine lv_sipush (v := 128) hx hb dX12_init_242 (by decide) ?_
  obtain ⟨w158_, h⟩ := h
  refine q_newa X Y (k := 22) (t := 2) (n := 128) (ty := .boolean) rfl (by decide) rfl (fun _ _ => rfl) (by first | exact rfl | decide | simp [defaultValue]) ar_boolean (by decide) (by decide) (by decide) w158_ dX12_init_245 (fun b155_ H h156_ h157_ Y => ?_)
  replace h := h b155_ h156_
  replace hu := w158_
  replace k5_ := qs_R_keep (j := 22) (n := 128) h156_ k5_ (by decide)
  replace k6_ := qs_R_keep (j := 22) (n := 128) h156_ k6_ (by decide)
  replace k11_ := qs_R_keep (j := 22) (n := 128) h156_ k11_ (by decide)
  replace k17_ := qs_R_keep (j := 22) (n := 128) h156_ k17_ (by decide)
  replace k23_ := qs_R_keep (j := 22) (n := 128) h156_ k23_ (by decide)
  replace k29_ := qs_R_keep (j := 22) (n := 128) h156_ k29_ (by decide)
  replace k34_ := qs_R_keep (j := 22) (n := 128) h156_ k34_ (by decide)
  replace k40_ := qs_R_keep (j := 22) (n := 128) h156_ k40_ (by decide)
  replace k46_ := qs_R_keep (j := 22) (n := 128) h156_ k46_ (by decide)
  replace k51_ := qs_R_keep (j := 22) (n := 128) h156_ k51_ (by decide)
  replace k57_ := qs_R_keep (j := 22) (n := 128) h156_ k57_ (by decide)
  replace k63_ := qs_R_keep (j := 22) (n := 128) h156_ k63_ (by decide)
  replace k68_ := qs_R_keep (j := 22) (n := 128) h156_ k68_ (by decide)
  replace k74_ := qs_R_keep (j := 22) (n := 128) h156_ k74_ (by decide)
  replace k80_ := qs_R_keep (j := 22) (n := 128) h156_ k80_ (by decide)
  replace k85_ := qs_R_keep (j := 22) (n := 128) h156_ k85_ (by decide)
  replace k91_ := qs_R_keep (j := 22) (n := 128) h156_ k91_ (by decide)
  replace k97_ := qs_R_keep (j := 22) (n := 128) h156_ k97_ (by decide)
  replace k102_ := qs_R_keep (j := 22) (n := 128) h156_ k102_ (by decide)
  replace k108_ := qs_R_keep (j := 22) (n := 128) h156_ k108_ (by decide)
  replace k114_ := qs_R_keep (j := 22) (n := 128) h156_ k114_ (by decide)
  replace k119_ := qs_R_keep (j := 22) (n := 128) h156_ k119_ (by decide)
  replace k125_ := qs_R_keep (j := 22) (n := 128) h156_ k125_ (by decide)
  replace k131_ := qs_R_keep (j := 22) (n := 128) h156_ k131_ (by decide)
  replace k136_ := qs_R_keep (j := 22) (n := 128) h156_ k136_ (by decide)
  replace k142_ := qs_R_keep (j := 22) (n := 128) h156_ k142_ (by decide)
  replace k148_ := qs_R_keep (j := 22) (n := 128) h156_ k148_ (by decide)
  replace k153_ := qs_R_keep (j := 22) (n := 128) h156_ k153_ (by decide)
  have k159_ : q_K (qs_R (qs_P S154_ 2446 a0 (some b149_)) 22 128 b155_) b155_ = 22 := qs_R_Ks
  refine q_putP X Y (some b155_) rfl kX12 47 rfl fl_X12_97 k6_ _ rfl (Or.inr ⟨_, rfl⟩) (Or.inr ⟨rfl, hnm, rfl⟩) dX12_init_247 (fun H locs Y => ?_)
  obtain ⟨S160_, gS160_⟩ : ∃ z : q_S, z = (qs_P (qs_R (qs_P S154_ 2446 a0 (some b149_)) 22 128 b155_) 2447 a0 (some b155_)) := ⟨_, rfl⟩
  replace Y : q_Y D cy lo s S160_ H locs := by rw [gS160_]; exact Y
  replace h := h S160_ gS160_
  replace k5_ : q_K S160_ b1_ = 20 := by rw [gS160_]; exact k5_
  replace k6_ : q_K S160_ a0 = 13 := by rw [gS160_]; exact k6_
  replace k11_ : q_K S160_ b7_ = 20 := by rw [gS160_]; exact k11_
  replace k17_ : q_K S160_ b13_ = 20 := by rw [gS160_]; exact k17_
  replace k23_ : q_K S160_ b19_ = 21 := by rw [gS160_]; exact k23_
  replace k29_ : q_K S160_ b25_ = 21 := by rw [gS160_]; exact k29_
  replace k34_ : q_K S160_ b30_ = 21 := by rw [gS160_]; exact k34_
  replace k40_ : q_K S160_ b36_ = 21 := by rw [gS160_]; exact k40_
  replace k46_ : q_K S160_ b42_ = 21 := by rw [gS160_]; exact k46_
  replace k51_ : q_K S160_ b47_ = 21 := by rw [gS160_]; exact k51_
  replace k57_ : q_K S160_ b53_ = 21 := by rw [gS160_]; exact k57_
  replace k63_ : q_K S160_ b59_ = 21 := by rw [gS160_]; exact k63_
  replace k68_ : q_K S160_ b64_ = 21 := by rw [gS160_]; exact k68_
  replace k74_ : q_K S160_ b70_ = 21 := by rw [gS160_]; exact k74_
  replace k80_ : q_K S160_ b76_ = 21 := by rw [gS160_]; exact k80_
  replace k85_ : q_K S160_ b81_ = 21 := by rw [gS160_]; exact k85_
  replace k91_ : q_K S160_ b87_ = 21 := by rw [gS160_]; exact k91_
  replace k97_ : q_K S160_ b93_ = 21 := by rw [gS160_]; exact k97_
  replace k102_ : q_K S160_ b98_ = 21 := by rw [gS160_]; exact k102_
  replace k108_ : q_K S160_ b104_ = 21 := by rw [gS160_]; exact k108_
  replace k114_ : q_K S160_ b110_ = 21 := by rw [gS160_]; exact k114_
  replace k119_ : q_K S160_ b115_ = 21 := by rw [gS160_]; exact k119_
  replace k125_ : q_K S160_ b121_ = 22 := by rw [gS160_]; exact k125_
  replace k131_ : q_K S160_ b127_ = 21 := by rw [gS160_]; exact k131_
  replace k136_ : q_K S160_ b132_ = 21 := by rw [gS160_]; exact k136_
  replace k142_ : q_K S160_ b138_ = 21 := by rw [gS160_]; exact k142_
  replace k148_ : q_K S160_ b144_ = 22 := by rw [gS160_]; exact k148_
  replace k153_ : q_K S160_ b149_ = 21 := by rw [gS160_]; exact k153_
  replace k159_ : q_K S160_ b155_ = 22 := by rw [gS160_]; exact k159_
  refine lv_aload_n hx hb dX12_init_250 rfl (lv_at hl 0 rfl) ?_
  refine lv_sipush (v := 256) hx hb dX12_init_251 (by decide) ?_
  obtain ⟨w164_, h⟩ := h
  refine q_newa X Y (k := 22) (t := 2) (n := 256) (ty := .boolean) rfl (by decide) rfl (fun _ _ => rfl) (by first | exact rfl | decide | simp [defaultValue]) ar_boolean (by decide) (by decide) (by decide) w164_ dX12_init_254 (fun b161_ H h162_ h163_ Y => ?_)
  replace h := h b161_ h162_
  replace hu := w164_
  replace k5_ := qs_R_keep (j := 22) (n := 256) h162_ k5_ (by decide)
  replace k6_ := qs_R_keep (j := 22) (n := 256) h162_ k6_ (by decide)
  replace k11_ := qs_R_keep (j := 22) (n := 256) h162_ k11_ (by decide)
  replace k17_ := qs_R_keep (j := 22) (n := 256) h162_ k17_ (by decide)
  replace k23_ := qs_R_keep (j := 22) (n := 256) h162_ k23_ (by decide)
  replace k29_ := qs_R_keep (j := 22) (n := 256) h162_ k29_ (by decide)
  replace k34_ := qs_R_keep (j := 22) (n := 256) h162_ k34_ (by decide)
  replace k40_ := qs_R_keep (j := 22) (n := 256) h162_ k40_ (by decide)
  replace k46_ := qs_R_keep (j := 22) (n := 256) h162_ k46_ (by decide)
  replace k51_ := qs_R_keep (j := 22) (n := 256) h162_ k51_ (by decide)
  replace k57_ := qs_R_keep (j := 22) (n := 256) h162_ k57_ (by decide)
  replace k63_ := qs_R_keep (j := 22) (n := 256) h162_ k63_ (by decide)
  replace k68_ := qs_R_keep (j := 22) (n := 256) h162_ k68_ (by decide)
  replace k74_ := qs_R_keep (j := 22) (n := 256) h162_ k74_ (by decide)
  replace k80_ := qs_R_keep (j := 22) (n := 256) h162_ k80_ (by decide)
  replace k85_ := qs_R_keep (j := 22) (n := 256) h162_ k85_ (by decide)
  replace k91_ := qs_R_keep (j := 22) (n := 256) h162_ k91_ (by decide)
  replace k97_ := qs_R_keep (j := 22) (n := 256) h162_ k97_ (by decide)
  replace k102_ := qs_R_keep (j := 22) (n := 256) h162_ k102_ (by decide)
  replace k108_ := qs_R_keep (j := 22) (n := 256) h162_ k108_ (by decide)
  replace k114_ := qs_R_keep (j := 22) (n := 256) h162_ k114_ (by decide)
  replace k119_ := qs_R_keep (j := 22) (n := 256) h162_ k119_ (by decide)
  replace k125_ := qs_R_keep (j := 22) (n := 256) h162_ k125_ (by decide)
  replace k131_ := qs_R_keep (j := 22) (n := 256) h162_ k131_ (by decide)
  replace k136_ := qs_R_keep (j := 22) (n := 256) h162_ k136_ (by decide)
  replace k142_ := qs_R_keep (j := 22) (n := 256) h162_ k142_ (by decide)
  replace k148_ := qs_R_keep (j := 22) (n := 256) h162_ k148_ (by decide)
  replace k153_ := qs_R_keep (j := 22) (n := 256) h162_ k153_ (by decide)
  replace k159_ := qs_R_keep (j := 22) (n := 256) h162_ k159_ (by decide)
  have k165_ : q_K (qs_R S160_ 22 256 b161_) b161_ = 22 := qs_R_Ks
  refine q_putP X Y (some b161_) rfl kX12 48 rfl fl_X12_100 k6_ _ rfl (Or.inr ⟨_, rfl⟩) (Or.inr ⟨rfl, hnm, rfl⟩) dX12_init_256 (fun H locs Y => ?_)
  refine lv_aload_n hx hb dX12_init_259 rfl (lv_at hl 0 rfl) ?_
  refine lv_sipush (v := 256) hx hb dX12_init_260 (by decide) ?_
  obtain ⟨w169_, h⟩ := h
  refine q_newa X Y (k := 22) (t := 2) (n := 256) (ty := .boolean) rfl (by decide) rfl (fun _ _ => rfl) (by first | exact rfl | decide | simp [defaultValue]) ar_boolean (by decide) (by decide) (by decide) w169_ dX12_init_263 (fun b166_ H h167_ h168_ Y => ?_)
  replace h := h b166_ h167_
  replace hu := w169_
  replace k5_ := qs_R_keep (j := 22) (n := 256) h167_ k5_ (by decide)
  replace k6_ := qs_R_keep (j := 22) (n := 256) h167_ k6_ (by decide)
  replace k11_ := qs_R_keep (j := 22) (n := 256) h167_ k11_ (by decide)
  replace k17_ := qs_R_keep (j := 22) (n := 256) h167_ k17_ (by decide)
  replace k23_ := qs_R_keep (j := 22) (n := 256) h167_ k23_ (by decide)
  replace k29_ := qs_R_keep (j := 22) (n := 256) h167_ k29_ (by decide)
  replace k34_ := qs_R_keep (j := 22) (n := 256) h167_ k34_ (by decide)
  replace k40_ := qs_R_keep (j := 22) (n := 256) h167_ k40_ (by decide)
  replace k46_ := qs_R_keep (j := 22) (n := 256) h167_ k46_ (by decide)
  replace k51_ := qs_R_keep (j := 22) (n := 256) h167_ k51_ (by decide)
  replace k57_ := qs_R_keep (j := 22) (n := 256) h167_ k57_ (by decide)
  replace k63_ := qs_R_keep (j := 22) (n := 256) h167_ k63_ (by decide)
  replace k68_ := qs_R_keep (j := 22) (n := 256) h167_ k68_ (by decide)
  replace k74_ := qs_R_keep (j := 22) (n := 256) h167_ k74_ (by decide)
  replace k80_ := qs_R_keep (j := 22) (n := 256) h167_ k80_ (by decide)
  replace k85_ := qs_R_keep (j := 22) (n := 256) h167_ k85_ (by decide)
  replace k91_ := qs_R_keep (j := 22) (n := 256) h167_ k91_ (by decide)
  replace k97_ := qs_R_keep (j := 22) (n := 256) h167_ k97_ (by decide)
  replace k102_ := qs_R_keep (j := 22) (n := 256) h167_ k102_ (by decide)
  replace k108_ := qs_R_keep (j := 22) (n := 256) h167_ k108_ (by decide)
  replace k114_ := qs_R_keep (j := 22) (n := 256) h167_ k114_ (by decide)
  replace k119_ := qs_R_keep (j := 22) (n := 256) h167_ k119_ (by decide)
  replace k125_ := qs_R_keep (j := 22) (n := 256) h167_ k125_ (by decide)
  replace k131_ := qs_R_keep (j := 22) (n := 256) h167_ k131_ (by decide)
  replace k136_ := qs_R_keep (j := 22) (n := 256) h167_ k136_ (by decide)
  replace k142_ := qs_R_keep (j := 22) (n := 256) h167_ k142_ (by decide)
  replace k148_ := qs_R_keep (j := 22) (n := 256) h167_ k148_ (by decide)
  replace k153_ := qs_R_keep (j := 22) (n := 256) h167_ k153_ (by decide)
  replace k159_ := qs_R_keep (j := 22) (n := 256) h167_ k159_ (by decide)
  replace k165_ := qs_R_keep (j := 22) (n := 256) h167_ k165_ (by decide)
  have k170_ : q_K (qs_R (qs_P (qs_R S160_ 22 256 b161_) 2448 a0 (some b161_)) 22 256 b166_) b166_ = 22 := qs_R_Ks
  obtain ⟨S171_, gS171_⟩ : ∃ z : q_S, z = (qs_R (qs_P (qs_R S160_ 22 256 b161_) 2448 a0 (some b161_)) 22 256 b166_) := ⟨_, rfl⟩
  replace Y : q_Y D cy lo s S171_ H locs := by rw [gS171_]; exact Y
  replace h := h S171_ gS171_
  replace k5_ : q_K S171_ b1_ = 20 := by rw [gS171_]; exact k5_
  replace k6_ : q_K S171_ a0 = 13 := by rw [gS171_]; exact k6_
  replace k11_ : q_K S171_ b7_ = 20 := by rw [gS171_]; exact k11_
  replace k17_ : q_K S171_ b13_ = 20 := by rw [gS171_]; exact k17_
  replace k23_ : q_K S171_ b19_ = 21 := by rw [gS171_]; exact k23_
  replace k29_ : q_K S171_ b25_ = 21 := by rw [gS171_]; exact k29_
  replace k34_ : q_K S171_ b30_ = 21 := by rw [gS171_]; exact k34_
  replace k40_ : q_K S171_ b36_ = 21 := by rw [gS171_]; exact k40_
  replace k46_ : q_K S171_ b42_ = 21 := by rw [gS171_]; exact k46_
  replace k51_ : q_K S171_ b47_ = 21 := by rw [gS171_]; exact k51_
  replace k57_ : q_K S171_ b53_ = 21 := by rw [gS171_]; exact k57_
  replace k63_ : q_K S171_ b59_ = 21 := by rw [gS171_]; exact k63_
  replace k68_ : q_K S171_ b64_ = 21 := by rw [gS171_]; exact k68_
  replace k74_ : q_K S171_ b70_ = 21 := by rw [gS171_]; exact k74_
  replace k80_ : q_K S171_ b76_ = 21 := by rw [gS171_]; exact k80_
  replace k85_ : q_K S171_ b81_ = 21 := by rw [gS171_]; exact k85_
  replace k91_ : q_K S171_ b87_ = 21 := by rw [gS171_]; exact k91_
  replace k97_ : q_K S171_ b93_ = 21 := by rw [gS171_]; exact k97_
  replace k102_ : q_K S171_ b98_ = 21 := by rw [gS171_]; exact k102_
  replace k108_ : q_K S171_ b104_ = 21 := by rw [gS171_]; exact k108_
  replace k114_ : q_K S171_ b110_ = 21 := by rw [gS171_]; exact k114_
  replace k119_ : q_K S171_ b115_ = 21 := by rw [gS171_]; exact k119_
  replace k125_ : q_K S171_ b121_ = 22 := by rw [gS171_]; exact k125_
  replace k131_ : q_K S171_ b127_ = 21 := by rw [gS171_]; exact k131_
  replace k136_ : q_K S171_ b132_ = 21 := by rw [gS171_]; exact k136_
  replace k142_ : q_K S171_ b138_ = 21 := by rw [gS171_]; exact k142_
  replace k148_ : q_K S171_ b144_ = 22 := by rw [gS171_]; exact k148_
  replace k153_ : q_K S171_ b149_ = 21 := by rw [gS171_]; exact k153_
  replace k159_ : q_K S171_ b155_ = 22 := by rw [gS171_]; exact k159_
  replace k165_ : q_K S171_ b161_ = 22 := by rw [gS171_]; exact k165_
  replace k170_ : q_K S171_ b166_ = 22 := by rw [gS171_]; exact k170_
  refine q_putP X Y (some b166_) rfl kX12 49 rfl fl_X12_103 k6_ _ rfl (Or.inr ⟨_, rfl⟩) (Or.inr ⟨rfl, hnm, rfl⟩) dX12_init_265 (fun H locs Y => ?_)
  refine lv_aload_n hx hb dX12_init_268 rfl (lv_at hl 0 rfl) ?_
  refine lv_sipush (v := 256) hx hb dX12_init_269 (by decide) ?_
  obtain ⟨w175_, h⟩ := h
  refine q_newa X Y (k := 21) (t := 1) (n := 256) (ty := .int) rfl (by decide) rfl (fun _ _ => rfl) (by first | exact rfl | decide | simp [defaultValue]) ar_int (by decide) (by decide) (by decide) w175_ dX12_init_272 (fun b172_ H h173_ h174_ Y => ?_)
  replace h := h b172_ h173_
  replace hu := w175_
  replace k5_ := qs_R_keep (j := 21) (n := 256) h173_ k5_ (by decide)
  replace k6_ := qs_R_keep (j := 21) (n := 256) h173_ k6_ (by decide)
  replace k11_ := qs_R_keep (j := 21) (n := 256) h173_ k11_ (by decide)
  replace k17_ := qs_R_keep (j := 21) (n := 256) h173_ k17_ (by decide)
  replace k23_ := qs_R_keep (j := 21) (n := 256) h173_ k23_ (by decide)
  replace k29_ := qs_R_keep (j := 21) (n := 256) h173_ k29_ (by decide)
  replace k34_ := qs_R_keep (j := 21) (n := 256) h173_ k34_ (by decide)
  replace k40_ := qs_R_keep (j := 21) (n := 256) h173_ k40_ (by decide)
  replace k46_ := qs_R_keep (j := 21) (n := 256) h173_ k46_ (by decide)
  replace k51_ := qs_R_keep (j := 21) (n := 256) h173_ k51_ (by decide)
  replace k57_ := qs_R_keep (j := 21) (n := 256) h173_ k57_ (by decide)
  replace k63_ := qs_R_keep (j := 21) (n := 256) h173_ k63_ (by decide)
  replace k68_ := qs_R_keep (j := 21) (n := 256) h173_ k68_ (by decide)
  replace k74_ := qs_R_keep (j := 21) (n := 256) h173_ k74_ (by decide)
  replace k80_ := qs_R_keep (j := 21) (n := 256) h173_ k80_ (by decide)
  replace k85_ := qs_R_keep (j := 21) (n := 256) h173_ k85_ (by decide)
  replace k91_ := qs_R_keep (j := 21) (n := 256) h173_ k91_ (by decide)
  replace k97_ := qs_R_keep (j := 21) (n := 256) h173_ k97_ (by decide)
  replace k102_ := qs_R_keep (j := 21) (n := 256) h173_ k102_ (by decide)
  replace k108_ := qs_R_keep (j := 21) (n := 256) h173_ k108_ (by decide)
  replace k114_ := qs_R_keep (j := 21) (n := 256) h173_ k114_ (by decide)
  replace k119_ := qs_R_keep (j := 21) (n := 256) h173_ k119_ (by decide)
  replace k125_ := qs_R_keep (j := 21) (n := 256) h173_ k125_ (by decide)
  replace k131_ := qs_R_keep (j := 21) (n := 256) h173_ k131_ (by decide)
  replace k136_ := qs_R_keep (j := 21) (n := 256) h173_ k136_ (by decide)
  replace k142_ := qs_R_keep (j := 21) (n := 256) h173_ k142_ (by decide)
  replace k148_ := qs_R_keep (j := 21) (n := 256) h173_ k148_ (by decide)
  replace k153_ := qs_R_keep (j := 21) (n := 256) h173_ k153_ (by decide)
  replace k159_ := qs_R_keep (j := 21) (n := 256) h173_ k159_ (by decide)
  replace k165_ := qs_R_keep (j := 21) (n := 256) h173_ k165_ (by decide)
  replace k170_ := qs_R_keep (j := 21) (n := 256) h173_ k170_ (by decide)
  have k176_ : q_K (qs_R (qs_P S171_ 2449 a0 (some b166_)) 21 256 b172_) b172_ = 21 := qs_R_Ks
  refine q_putP X Y (some b172_) rfl kX12 50 rfl fl_X12_106 k6_ _ rfl (Or.inr ⟨_, rfl⟩) (Or.inr ⟨rfl, hnm, rfl⟩) dX12_init_274 (fun H locs Y => ?_)
  obtain ⟨S177_, gS177_⟩ : ∃ z : q_S, z = (qs_P (qs_R (qs_P S171_ 2449 a0 (some b166_)) 21 256 b172_) 2450 a0 (some b172_)) := ⟨_, rfl⟩
  replace Y : q_Y D cy lo s S177_ H locs := by rw [gS177_]; exact Y
  replace h := h S177_ gS177_
  replace k5_ : q_K S177_ b1_ = 20 := by rw [gS177_]; exact k5_
  replace k6_ : q_K S177_ a0 = 13 := by rw [gS177_]; exact k6_
  replace k11_ : q_K S177_ b7_ = 20 := by rw [gS177_]; exact k11_
  replace k17_ : q_K S177_ b13_ = 20 := by rw [gS177_]; exact k17_
  replace k23_ : q_K S177_ b19_ = 21 := by rw [gS177_]; exact k23_
  replace k29_ : q_K S177_ b25_ = 21 := by rw [gS177_]; exact k29_
  replace k34_ : q_K S177_ b30_ = 21 := by rw [gS177_]; exact k34_
  replace k40_ : q_K S177_ b36_ = 21 := by rw [gS177_]; exact k40_
  replace k46_ : q_K S177_ b42_ = 21 := by rw [gS177_]; exact k46_
  replace k51_ : q_K S177_ b47_ = 21 := by rw [gS177_]; exact k51_
  replace k57_ : q_K S177_ b53_ = 21 := by rw [gS177_]; exact k57_
  replace k63_ : q_K S177_ b59_ = 21 := by rw [gS177_]; exact k63_
  replace k68_ : q_K S177_ b64_ = 21 := by rw [gS177_]; exact k68_
  replace k74_ : q_K S177_ b70_ = 21 := by rw [gS177_]; exact k74_
  replace k80_ : q_K S177_ b76_ = 21 := by rw [gS177_]; exact k80_
  replace k85_ : q_K S177_ b81_ = 21 := by rw [gS177_]; exact k85_
  replace k91_ : q_K S177_ b87_ = 21 := by rw [gS177_]; exact k91_
  replace k97_ : q_K S177_ b93_ = 21 := by rw [gS177_]; exact k97_
  replace k102_ : q_K S177_ b98_ = 21 := by rw [gS177_]; exact k102_
  replace k108_ : q_K S177_ b104_ = 21 := by rw [gS177_]; exact k108_
  replace k114_ : q_K S177_ b110_ = 21 := by rw [gS177_]; exact k114_
  replace k119_ : q_K S177_ b115_ = 21 := by rw [gS177_]; exact k119_
  replace k125_ : q_K S177_ b121_ = 22 := by rw [gS177_]; exact k125_
  replace k131_ : q_K S177_ b127_ = 21 := by rw [gS177_]; exact k131_
  replace k136_ : q_K S177_ b132_ = 21 := by rw [gS177_]; exact k136_
  replace k142_ : q_K S177_ b138_ = 21 := by rw [gS177_]; exact k142_
  replace k148_ : q_K S177_ b144_ = 22 := by rw [gS177_]; exact k148_
  replace k153_ : q_K S177_ b149_ = 21 := by rw [gS177_]; exact k153_
  replace k159_ : q_K S177_ b155_ = 22 := by rw [gS177_]; exact k159_
  replace k165_ : q_K S177_ b161_ = 22 := by rw [gS177_]; exact k165_
  replace k170_ : q_K S177_ b166_ = 22 := by rw [gS177_]; exact k170_
  replace k176_ : q_K S177_ b172_ = 21 := by rw [gS177_]; exact k176_
  refine lv_aload_n hx hb dX12_init_277 rfl (lv_at hl 0 rfl) ?_
  refine lv_bipush (v := 16) hx hb dX12_init_278 (by decide) ?_
  obtain ⟨w181_, h⟩ := h
  refine q_newa X Y (k := 22) (t := 2) (n := 16) (ty := .boolean) rfl (by decide) rfl (fun _ _ => rfl) (by first | exact rfl | decide | simp [defaultValue]) ar_boolean (by decide) (by decide) (by decide) w181_ dX12_init_280 (fun b178_ H h179_ h180_ Y => ?_)
  replace h := h b178_ h179_
  replace hu := w181_
  replace k5_ := qs_R_keep (j := 22) (n := 16) h179_ k5_ (by decide)
  replace k6_ := qs_R_keep (j := 22) (n := 16) h179_ k6_ (by decide)
  replace k11_ := qs_R_keep (j := 22) (n := 16) h179_ k11_ (by decide)
  replace k17_ := qs_R_keep (j := 22) (n := 16) h179_ k17_ (by decide)
  replace k23_ := qs_R_keep (j := 22) (n := 16) h179_ k23_ (by decide)
  replace k29_ := qs_R_keep (j := 22) (n := 16) h179_ k29_ (by decide)
  replace k34_ := qs_R_keep (j := 22) (n := 16) h179_ k34_ (by decide)
  replace k40_ := qs_R_keep (j := 22) (n := 16) h179_ k40_ (by decide)
  replace k46_ := qs_R_keep (j := 22) (n := 16) h179_ k46_ (by decide)
  replace k51_ := qs_R_keep (j := 22) (n := 16) h179_ k51_ (by decide)
  replace k57_ := qs_R_keep (j := 22) (n := 16) h179_ k57_ (by decide)
  replace k63_ := qs_R_keep (j := 22) (n := 16) h179_ k63_ (by decide)
  replace k68_ := qs_R_keep (j := 22) (n := 16) h179_ k68_ (by decide)
  replace k74_ := qs_R_keep (j := 22) (n := 16) h179_ k74_ (by decide)
  replace k80_ := qs_R_keep (j := 22) (n := 16) h179_ k80_ (by decide)
  replace k85_ := qs_R_keep (j := 22) (n := 16) h179_ k85_ (by decide)
  replace k91_ := qs_R_keep (j := 22) (n := 16) h179_ k91_ (by decide)
  replace k97_ := qs_R_keep (j := 22) (n := 16) h179_ k97_ (by decide)
  replace k102_ := qs_R_keep (j := 22) (n := 16) h179_ k102_ (by decide)
  replace k108_ := qs_R_keep (j := 22) (n := 16) h179_ k108_ (by decide)
  replace k114_ := qs_R_keep (j := 22) (n := 16) h179_ k114_ (by decide)
  replace k119_ := qs_R_keep (j := 22) (n := 16) h179_ k119_ (by decide)
  replace k125_ := qs_R_keep (j := 22) (n := 16) h179_ k125_ (by decide)
  replace k131_ := qs_R_keep (j := 22) (n := 16) h179_ k131_ (by decide)
  replace k136_ := qs_R_keep (j := 22) (n := 16) h179_ k136_ (by decide)
  replace k142_ := qs_R_keep (j := 22) (n := 16) h179_ k142_ (by decide)
  replace k148_ := qs_R_keep (j := 22) (n := 16) h179_ k148_ (by decide)
  replace k153_ := qs_R_keep (j := 22) (n := 16) h179_ k153_ (by decide)
  replace k159_ := qs_R_keep (j := 22) (n := 16) h179_ k159_ (by decide)
  replace k165_ := qs_R_keep (j := 22) (n := 16) h179_ k165_ (by decide)
  replace k170_ := qs_R_keep (j := 22) (n := 16) h179_ k170_ (by decide)
  replace k176_ := qs_R_keep (j := 22) (n := 16) h179_ k176_ (by decide)
  have k182_ : q_K (qs_R S177_ 22 16 b178_) b178_ = 22 := qs_R_Ks
  refine q_putP X Y (some b178_) rfl kX12 51 rfl fl_X12_109 k6_ _ rfl (Or.inr ⟨_, rfl⟩) (Or.inr ⟨rfl, hnm, rfl⟩) dX12_init_282 (fun H locs Y => ?_)
  refine lv_aload_n hx hb dX12_init_285 rfl (lv_at hl 0 rfl) ?_
  refine lv_bipush (v := 80) hx hb dX12_init_286 (by decide) ?_
  obtain ⟨w186_, h⟩ := h
  refine q_newa X Y (k := 21) (t := 1) (n := 80) (ty := .int) rfl (by decide) rfl (fun _ _ => rfl) (by first | exact rfl | decide | simp [defaultValue]) ar_int (by decide) (by decide) (by decide) w186_ dX12_init_288 (fun b183_ H h184_ h185_ Y => ?_)
  replace h := h b183_ h184_
  replace hu := w186_
  replace k5_ := qs_R_keep (j := 21) (n := 80) h184_ k5_ (by decide)
  replace k6_ := qs_R_keep (j := 21) (n := 80) h184_ k6_ (by decide)
  replace k11_ := qs_R_keep (j := 21) (n := 80) h184_ k11_ (by decide)
  replace k17_ := qs_R_keep (j := 21) (n := 80) h184_ k17_ (by decide)
  replace k23_ := qs_R_keep (j := 21) (n := 80) h184_ k23_ (by decide)
  replace k29_ := qs_R_keep (j := 21) (n := 80) h184_ k29_ (by decide)
  replace k34_ := qs_R_keep (j := 21) (n := 80) h184_ k34_ (by decide)
  replace k40_ := qs_R_keep (j := 21) (n := 80) h184_ k40_ (by decide)
  replace k46_ := qs_R_keep (j := 21) (n := 80) h184_ k46_ (by decide)
  replace k51_ := qs_R_keep (j := 21) (n := 80) h184_ k51_ (by decide)
  replace k57_ := qs_R_keep (j := 21) (n := 80) h184_ k57_ (by decide)
  replace k63_ := qs_R_keep (j := 21) (n := 80) h184_ k63_ (by decide)
  replace k68_ := qs_R_keep (j := 21) (n := 80) h184_ k68_ (by decide)
  replace k74_ := qs_R_keep (j := 21) (n := 80) h184_ k74_ (by decide)
  replace k80_ := qs_R_keep (j := 21) (n := 80) h184_ k80_ (by decide)
  replace k85_ := qs_R_keep (j := 21) (n := 80) h184_ k85_ (by decide)
  replace k91_ := qs_R_keep (j := 21) (n := 80) h184_ k91_ (by decide)
  replace k97_ := qs_R_keep (j := 21) (n := 80) h184_ k97_ (by decide)
  replace k102_ := qs_R_keep (j := 21) (n := 80) h184_ k102_ (by decide)
  replace k108_ := qs_R_keep (j := 21) (n := 80) h184_ k108_ (by decide)
  replace k114_ := qs_R_keep (j := 21) (n := 80) h184_ k114_ (by decide)
  replace k119_ := qs_R_keep (j := 21) (n := 80) h184_ k119_ (by decide)
  replace k125_ := qs_R_keep (j := 21) (n := 80) h184_ k125_ (by decide)
  replace k131_ := qs_R_keep (j := 21) (n := 80) h184_ k131_ (by decide)
  replace k136_ := qs_R_keep (j := 21) (n := 80) h184_ k136_ (by decide)
  replace k142_ := qs_R_keep (j := 21) (n := 80) h184_ k142_ (by decide)
  replace k148_ := qs_R_keep (j := 21) (n := 80) h184_ k148_ (by decide)
  replace k153_ := qs_R_keep (j := 21) (n := 80) h184_ k153_ (by decide)
  replace k159_ := qs_R_keep (j := 21) (n := 80) h184_ k159_ (by decide)
  replace k165_ := qs_R_keep (j := 21) (n := 80) h184_ k165_ (by decide)
  replace k170_ := qs_R_keep (j := 21) (n := 80) h184_ k170_ (by decide)
  replace k176_ := qs_R_keep (j := 21) (n := 80) h184_ k176_ (by decide)
  replace k182_ := qs_R_keep (j := 21) (n := 80) h184_ k182_ (by decide)
  have k187_ : q_K (qs_R (qs_P (qs_R S177_ 22 16 b178_) 2451 a0 (some b178_)) 21 80 b183_) b183_ = 21 := qs_R_Ks
  obtain ⟨S188_, gS188_⟩ : ∃ z : q_S, z = (qs_R (qs_P (qs_R S177_ 22 16 b178_) 2451 a0 (some b178_)) 21 80 b183_) := ⟨_, rfl⟩
  replace Y : q_Y D cy lo s S188_ H locs := by rw [gS188_]; exact Y
  replace h := h S188_ gS188_
  replace k5_ : q_K S188_ b1_ = 20 := by rw [gS188_]; exact k5_
  replace k6_ : q_K S188_ a0 = 13 := by rw [gS188_]; exact k6_
  replace k11_ : q_K S188_ b7_ = 20 := by rw [gS188_]; exact k11_
  replace k17_ : q_K S188_ b13_ = 20 := by rw [gS188_]; exact k17_
  replace k23_ : q_K S188_ b19_ = 21 := by rw [gS188_]; exact k23_
  replace k29_ : q_K S188_ b25_ = 21 := by rw [gS188_]; exact k29_
  replace k34_ : q_K S188_ b30_ = 21 := by rw [gS188_]; exact k34_
  replace k40_ : q_K S188_ b36_ = 21 := by rw [gS188_]; exact k40_
  replace k46_ : q_K S188_ b42_ = 21 := by rw [gS188_]; exact k46_
  replace k51_ : q_K S188_ b47_ = 21 := by rw [gS188_]; exact k51_
  replace k57_ : q_K S188_ b53_ = 21 := by rw [gS188_]; exact k57_
  replace k63_ : q_K S188_ b59_ = 21 := by rw [gS188_]; exact k63_
  replace k68_ : q_K S188_ b64_ = 21 := by rw [gS188_]; exact k68_
  replace k74_ : q_K S188_ b70_ = 21 := by rw [gS188_]; exact k74_
  replace k80_ : q_K S188_ b76_ = 21 := by rw [gS188_]; exact k80_
  replace k85_ : q_K S188_ b81_ = 21 := by rw [gS188_]; exact k85_
  replace k91_ : q_K S188_ b87_ = 21 := by rw [gS188_]; exact k91_
  replace k97_ : q_K S188_ b93_ = 21 := by rw [gS188_]; exact k97_
  replace k102_ : q_K S188_ b98_ = 21 := by rw [gS188_]; exact k102_
  replace k108_ : q_K S188_ b104_ = 21 := by rw [gS188_]; exact k108_
  replace k114_ : q_K S188_ b110_ = 21 := by rw [gS188_]; exact k114_
  replace k119_ : q_K S188_ b115_ = 21 := by rw [gS188_]; exact k119_
  replace k125_ : q_K S188_ b121_ = 22 := by rw [gS188_]; exact k125_
  replace k131_ : q_K S188_ b127_ = 21 := by rw [gS188_]; exact k131_
  replace k136_ : q_K S188_ b132_ = 21 := by rw [gS188_]; exact k136_
  replace k142_ : q_K S188_ b138_ = 21 := by rw [gS188_]; exact k142_
  replace k148_ : q_K S188_ b144_ = 22 := by rw [gS188_]; exact k148_
  replace k153_ : q_K S188_ b149_ = 21 := by rw [gS188_]; exact k153_
  replace k159_ : q_K S188_ b155_ = 22 := by rw [gS188_]; exact k159_
  replace k165_ : q_K S188_ b161_ = 22 := by rw [gS188_]; exact k165_
  replace k170_ : q_K S188_ b166_ = 22 := by rw [gS188_]; exact k170_
  replace k176_ : q_K S188_ b172_ = 21 := by rw [gS188_]; exact k176_
  replace k182_ : q_K S188_ b178_ = 22 := by rw [gS188_]; exact k182_
  replace k187_ : q_K S188_ b183_ = 21 := by rw [gS188_]; exact k187_
  refine q_putP X Y (some b183_) rfl kX12 52 rfl fl_X12_112 k6_ _ rfl (Or.inr ⟨_, rfl⟩) (Or.inr ⟨rfl, hnm, rfl⟩) dX12_init_290 (fun H locs Y => ?_)
  refine lv_aload_n hx hb dX12_init_293 rfl (lv_at hl 0 rfl) ?_
  refine lv_bipush (v := 24) hx hb dX12_init_294 (by decide) ?_
  obtain ⟨w192_, h⟩ := h
  refine q_newa X Y (k := 22) (t := 2) (n := 24) (ty := .boolean) rfl (by decide) rfl (fun _ _ => rfl) (by first | exact rfl | decide | simp [defaultValue]) ar_boolean (by decide) (by decide) (by decide) w192_ dX12_init_296 (fun b189_ H h190_ h191_ Y => ?_)
  replace h := h b189_ h190_
  replace hu := w192_
  replace k5_ := qs_R_keep (j := 22) (n := 24) h190_ k5_ (by decide)
  replace k6_ := qs_R_keep (j := 22) (n := 24) h190_ k6_ (by decide)
  replace k11_ := qs_R_keep (j := 22) (n := 24) h190_ k11_ (by decide)
  replace k17_ := qs_R_keep (j := 22) (n := 24) h190_ k17_ (by decide)
  replace k23_ := qs_R_keep (j := 22) (n := 24) h190_ k23_ (by decide)
  replace k29_ := qs_R_keep (j := 22) (n := 24) h190_ k29_ (by decide)
  replace k34_ := qs_R_keep (j := 22) (n := 24) h190_ k34_ (by decide)
  replace k40_ := qs_R_keep (j := 22) (n := 24) h190_ k40_ (by decide)
  replace k46_ := qs_R_keep (j := 22) (n := 24) h190_ k46_ (by decide)
  replace k51_ := qs_R_keep (j := 22) (n := 24) h190_ k51_ (by decide)
  replace k57_ := qs_R_keep (j := 22) (n := 24) h190_ k57_ (by decide)
  replace k63_ := qs_R_keep (j := 22) (n := 24) h190_ k63_ (by decide)
  replace k68_ := qs_R_keep (j := 22) (n := 24) h190_ k68_ (by decide)
  replace k74_ := qs_R_keep (j := 22) (n := 24) h190_ k74_ (by decide)
  replace k80_ := qs_R_keep (j := 22) (n := 24) h190_ k80_ (by decide)
  replace k85_ := qs_R_keep (j := 22) (n := 24) h190_ k85_ (by decide)
  replace k91_ := qs_R_keep (j := 22) (n := 24) h190_ k91_ (by decide)
  replace k97_ := qs_R_keep (j := 22) (n := 24) h190_ k97_ (by decide)
  replace k102_ := qs_R_keep (j := 22) (n := 24) h190_ k102_ (by decide)
  replace k108_ := qs_R_keep (j := 22) (n := 24) h190_ k108_ (by decide)
  replace k114_ := qs_R_keep (j := 22) (n := 24) h190_ k114_ (by decide)
  replace k119_ := qs_R_keep (j := 22) (n := 24) h190_ k119_ (by decide)
  replace k125_ := qs_R_keep (j := 22) (n := 24) h190_ k125_ (by decide)
  replace k131_ := qs_R_keep (j := 22) (n := 24) h190_ k131_ (by decide)
  replace k136_ := qs_R_keep (j := 22) (n := 24) h190_ k136_ (by decide)
  replace k142_ := qs_R_keep (j := 22) (n := 24) h190_ k142_ (by decide)
  replace k148_ := qs_R_keep (j := 22) (n := 24) h190_ k148_ (by decide)
  replace k153_ := qs_R_keep (j := 22) (n := 24) h190_ k153_ (by decide)
  replace k159_ := qs_R_keep (j := 22) (n := 24) h190_ k159_ (by decide)
  replace k165_ := qs_R_keep (j := 22) (n := 24) h190_ k165_ (by decide)
  replace k170_ := qs_R_keep (j := 22) (n := 24) h190_ k170_ (by decide)
  replace k176_ := qs_R_keep (j := 22) (n := 24) h190_ k176_ (by decide)
  replace k182_ := qs_R_keep (j := 22) (n := 24) h190_ k182_ (by decide)
  replace k187_ := qs_R_keep (j := 22) (n := 24) h190_ k187_ (by decide)
  have k193_ : q_K (qs_R (qs_P S188_ 2452 a0 (some b183_)) 22 24 b189_) b189_ = 22 := qs_R_Ks
  refine q_putP X Y (some b189_) rfl kX12 54 rfl fl_X12_115 k6_ _ rfl (Or.inr ⟨_, rfl⟩) (Or.inr ⟨rfl, hnm, rfl⟩) dX12_init_298 (fun H locs Y => ?_)
  obtain ⟨S194_, gS194_⟩ : ∃ z : q_S, z = (qs_P (qs_R (qs_P S188_ 2452 a0 (some b183_)) 22 24 b189_) 2454 a0 (some b189_)) := ⟨_, rfl⟩
  replace Y : q_Y D cy lo s S194_ H locs := by rw [gS194_]; exact Y
  replace h := h S194_ gS194_
  replace k5_ : q_K S194_ b1_ = 20 := by rw [gS194_]; exact k5_
  replace k6_ : q_K S194_ a0 = 13 := by rw [gS194_]; exact k6_
  replace k11_ : q_K S194_ b7_ = 20 := by rw [gS194_]; exact k11_
  replace k17_ : q_K S194_ b13_ = 20 := by rw [gS194_]; exact k17_
  replace k23_ : q_K S194_ b19_ = 21 := by rw [gS194_]; exact k23_
  replace k29_ : q_K S194_ b25_ = 21 := by rw [gS194_]; exact k29_
  replace k34_ : q_K S194_ b30_ = 21 := by rw [gS194_]; exact k34_
  replace k40_ : q_K S194_ b36_ = 21 := by rw [gS194_]; exact k40_
  replace k46_ : q_K S194_ b42_ = 21 := by rw [gS194_]; exact k46_
  replace k51_ : q_K S194_ b47_ = 21 := by rw [gS194_]; exact k51_
  replace k57_ : q_K S194_ b53_ = 21 := by rw [gS194_]; exact k57_
  replace k63_ : q_K S194_ b59_ = 21 := by rw [gS194_]; exact k63_
  replace k68_ : q_K S194_ b64_ = 21 := by rw [gS194_]; exact k68_
  replace k74_ : q_K S194_ b70_ = 21 := by rw [gS194_]; exact k74_
  replace k80_ : q_K S194_ b76_ = 21 := by rw [gS194_]; exact k80_
  replace k85_ : q_K S194_ b81_ = 21 := by rw [gS194_]; exact k85_
  replace k91_ : q_K S194_ b87_ = 21 := by rw [gS194_]; exact k91_
  replace k97_ : q_K S194_ b93_ = 21 := by rw [gS194_]; exact k97_
  replace k102_ : q_K S194_ b98_ = 21 := by rw [gS194_]; exact k102_
  replace k108_ : q_K S194_ b104_ = 21 := by rw [gS194_]; exact k108_
  replace k114_ : q_K S194_ b110_ = 21 := by rw [gS194_]; exact k114_
  replace k119_ : q_K S194_ b115_ = 21 := by rw [gS194_]; exact k119_
  replace k125_ : q_K S194_ b121_ = 22 := by rw [gS194_]; exact k125_
  replace k131_ : q_K S194_ b127_ = 21 := by rw [gS194_]; exact k131_
  replace k136_ : q_K S194_ b132_ = 21 := by rw [gS194_]; exact k136_
  replace k142_ : q_K S194_ b138_ = 21 := by rw [gS194_]; exact k142_
  replace k148_ : q_K S194_ b144_ = 22 := by rw [gS194_]; exact k148_
  replace k153_ : q_K S194_ b149_ = 21 := by rw [gS194_]; exact k153_
  replace k159_ : q_K S194_ b155_ = 22 := by rw [gS194_]; exact k159_
  replace k165_ : q_K S194_ b161_ = 22 := by rw [gS194_]; exact k165_
  replace k170_ : q_K S194_ b166_ = 22 := by rw [gS194_]; exact k170_
  replace k176_ : q_K S194_ b172_ = 21 := by rw [gS194_]; exact k176_
  replace k182_ : q_K S194_ b178_ = 22 := by rw [gS194_]; exact k182_
  replace k187_ : q_K S194_ b183_ = 21 := by rw [gS194_]; exact k187_
  replace k193_ : q_K S194_ b189_ = 22 := by rw [gS194_]; exact k193_
  refine lv_aload_n hx hb dX12_init_301 rfl (lv_at hl 0 rfl) ?_
  refine lv_bipush (v := 24) hx hb dX12_init_302 (by decide) ?_
  obtain ⟨w198_, h⟩ := h
  refine q_newa X Y (k := 21) (t := 1) (n := 24) (ty := .int) rfl (by decide) rfl (fun _ _ => rfl) (by first | exact rfl | decide | simp [defaultValue]) ar_int (by decide) (by decide) (by decide) w198_ dX12_init_304 (fun b195_ H h196_ h197_ Y => ?_)
  replace h := h b195_ h196_
  replace hu := w198_
  replace k5_ := qs_R_keep (j := 21) (n := 24) h196_ k5_ (by decide)
  replace k6_ := qs_R_keep (j := 21) (n := 24) h196_ k6_ (by decide)
  replace k11_ := qs_R_keep (j := 21) (n := 24) h196_ k11_ (by decide)
  replace k17_ := qs_R_keep (j := 21) (n := 24) h196_ k17_ (by decide)
  replace k23_ := qs_R_keep (j := 21) (n := 24) h196_ k23_ (by decide)
  replace k29_ := qs_R_keep (j := 21) (n := 24) h196_ k29_ (by decide)
  replace k34_ := qs_R_keep (j := 21) (n := 24) h196_ k34_ (by decide)
  replace k40_ := qs_R_keep (j := 21) (n := 24) h196_ k40_ (by decide)
  replace k46_ := qs_R_keep (j := 21) (n := 24) h196_ k46_ (by decide)
  replace k51_ := qs_R_keep (j := 21) (n := 24) h196_ k51_ (by decide)
  replace k57_ := qs_R_keep (j := 21) (n := 24) h196_ k57_ (by decide)
  replace k63_ := qs_R_keep (j := 21) (n := 24) h196_ k63_ (by decide)
  replace k68_ := qs_R_keep (j := 21) (n := 24) h196_ k68_ (by decide)
  replace k74_ := qs_R_keep (j := 21) (n := 24) h196_ k74_ (by decide)
  replace k80_ := qs_R_keep (j := 21) (n := 24) h196_ k80_ (by decide)
  replace k85_ := qs_R_keep (j := 21) (n := 24) h196_ k85_ (by decide)
  replace k91_ := qs_R_keep (j := 21) (n := 24) h196_ k91_ (by decide)
  replace k97_ := qs_R_keep (j := 21) (n := 24) h196_ k97_ (by decide)
  replace k102_ := qs_R_keep (j := 21) (n := 24) h196_ k102_ (by decide)
  replace k108_ := qs_R_keep (j := 21) (n := 24) h196_ k108_ (by decide)
  replace k114_ := qs_R_keep (j := 21) (n := 24) h196_ k114_ (by decide)
  replace k119_ := qs_R_keep (j := 21) (n := 24) h196_ k119_ (by decide)
  replace k125_ := qs_R_keep (j := 21) (n := 24) h196_ k125_ (by decide)
  replace k131_ := qs_R_keep (j := 21) (n := 24) h196_ k131_ (by decide)
  replace k136_ := qs_R_keep (j := 21) (n := 24) h196_ k136_ (by decide)
  replace k142_ := qs_R_keep (j := 21) (n := 24) h196_ k142_ (by decide)
  replace k148_ := qs_R_keep (j := 21) (n := 24) h196_ k148_ (by decide)
  replace k153_ := qs_R_keep (j := 21) (n := 24) h196_ k153_ (by decide)
  replace k159_ := qs_R_keep (j := 21) (n := 24) h196_ k159_ (by decide)
  replace k165_ := qs_R_keep (j := 21) (n := 24) h196_ k165_ (by decide)
  replace k170_ := qs_R_keep (j := 21) (n := 24) h196_ k170_ (by decide)
  replace k176_ := qs_R_keep (j := 21) (n := 24) h196_ k176_ (by decide)
  replace k182_ := qs_R_keep (j := 21) (n := 24) h196_ k182_ (by decide)
  replace k187_ := qs_R_keep (j := 21) (n := 24) h196_ k187_ (by decide)
  replace k193_ := qs_R_keep (j := 21) (n := 24) h196_ k193_ (by decide)
  have k199_ : q_K (qs_R S194_ 21 24 b195_) b195_ = 21 := qs_R_Ks
  refine q_putP X Y (some b195_) rfl kX12 55 rfl fl_X12_118 k6_ _ rfl (Or.inr ⟨_, rfl⟩) (Or.inr ⟨rfl, hnm, rfl⟩) dX12_init_306 (fun H locs Y => ?_)
  refine lv_aload_n hx hb dX12_init_309 rfl (lv_at hl 0 rfl) ?_
  refine lv_bipush (v := 24) hx hb dX12_init_310 (by decide) ?_
  obtain ⟨w203_, h⟩ := h
  refine q_newa X Y (k := 22) (t := 2) (n := 24) (ty := .boolean) rfl (by decide) rfl (fun _ _ => rfl) (by first | exact rfl | decide | simp [defaultValue]) ar_boolean (by decide) (by decide) (by decide) w203_ dX12_init_312 (fun b200_ H h201_ h202_ Y => ?_)
  replace h := h b200_ h201_
  replace hu := w203_
  replace k5_ := qs_R_keep (j := 22) (n := 24) h201_ k5_ (by decide)
  replace k6_ := qs_R_keep (j := 22) (n := 24) h201_ k6_ (by decide)
  replace k11_ := qs_R_keep (j := 22) (n := 24) h201_ k11_ (by decide)
  replace k17_ := qs_R_keep (j := 22) (n := 24) h201_ k17_ (by decide)
  replace k23_ := qs_R_keep (j := 22) (n := 24) h201_ k23_ (by decide)
  replace k29_ := qs_R_keep (j := 22) (n := 24) h201_ k29_ (by decide)
  replace k34_ := qs_R_keep (j := 22) (n := 24) h201_ k34_ (by decide)
  replace k40_ := qs_R_keep (j := 22) (n := 24) h201_ k40_ (by decide)
  replace k46_ := qs_R_keep (j := 22) (n := 24) h201_ k46_ (by decide)
  replace k51_ := qs_R_keep (j := 22) (n := 24) h201_ k51_ (by decide)
  replace k57_ := qs_R_keep (j := 22) (n := 24) h201_ k57_ (by decide)
  replace k63_ := qs_R_keep (j := 22) (n := 24) h201_ k63_ (by decide)
  replace k68_ := qs_R_keep (j := 22) (n := 24) h201_ k68_ (by decide)
  replace k74_ := qs_R_keep (j := 22) (n := 24) h201_ k74_ (by decide)
  replace k80_ := qs_R_keep (j := 22) (n := 24) h201_ k80_ (by decide)
  replace k85_ := qs_R_keep (j := 22) (n := 24) h201_ k85_ (by decide)
  replace k91_ := qs_R_keep (j := 22) (n := 24) h201_ k91_ (by decide)
  replace k97_ := qs_R_keep (j := 22) (n := 24) h201_ k97_ (by decide)
  replace k102_ := qs_R_keep (j := 22) (n := 24) h201_ k102_ (by decide)
  replace k108_ := qs_R_keep (j := 22) (n := 24) h201_ k108_ (by decide)
  replace k114_ := qs_R_keep (j := 22) (n := 24) h201_ k114_ (by decide)
  replace k119_ := qs_R_keep (j := 22) (n := 24) h201_ k119_ (by decide)
  replace k125_ := qs_R_keep (j := 22) (n := 24) h201_ k125_ (by decide)
  replace k131_ := qs_R_keep (j := 22) (n := 24) h201_ k131_ (by decide)
  replace k136_ := qs_R_keep (j := 22) (n := 24) h201_ k136_ (by decide)
  replace k142_ := qs_R_keep (j := 22) (n := 24) h201_ k142_ (by decide)
  replace k148_ := qs_R_keep (j := 22) (n := 24) h201_ k148_ (by decide)
  replace k153_ := qs_R_keep (j := 22) (n := 24) h201_ k153_ (by decide)
  replace k159_ := qs_R_keep (j := 22) (n := 24) h201_ k159_ (by decide)
  replace k165_ := qs_R_keep (j := 22) (n := 24) h201_ k165_ (by decide)
  replace k170_ := qs_R_keep (j := 22) (n := 24) h201_ k170_ (by decide)
  replace k176_ := qs_R_keep (j := 22) (n := 24) h201_ k176_ (by decide)
  replace k182_ := qs_R_keep (j := 22) (n := 24) h201_ k182_ (by decide)
  replace k187_ := qs_R_keep (j := 22) (n := 24) h201_ k187_ (by decide)
  replace k193_ := qs_R_keep (j := 22) (n := 24) h201_ k193_ (by decide)
  replace k199_ := qs_R_keep (j := 22) (n := 24) h201_ k199_ (by decide)
  have k204_ : q_K (qs_R (qs_P (qs_R S194_ 21 24 b195_) 2455 a0 (some b195_)) 22 24 b200_) b200_ = 22 := qs_R_Ks
  obtain ⟨S205_, gS205_⟩ : ∃ z : q_S, z = (qs_R (qs_P (qs_R S194_ 21 24 b195_) 2455 a0 (some b195_)) 22 24 b200_) := ⟨_, rfl⟩
  replace Y : q_Y D cy lo s S205_ H locs := by rw [gS205_]; exact Y
  replace h := h S205_ gS205_
  replace k5_ : q_K S205_ b1_ = 20 := by rw [gS205_]; exact k5_
  replace k6_ : q_K S205_ a0 = 13 := by rw [gS205_]; exact k6_
  replace k11_ : q_K S205_ b7_ = 20 := by rw [gS205_]; exact k11_
  replace k17_ : q_K S205_ b13_ = 20 := by rw [gS205_]; exact k17_
  replace k23_ : q_K S205_ b19_ = 21 := by rw [gS205_]; exact k23_
  replace k29_ : q_K S205_ b25_ = 21 := by rw [gS205_]; exact k29_
  replace k34_ : q_K S205_ b30_ = 21 := by rw [gS205_]; exact k34_
  replace k40_ : q_K S205_ b36_ = 21 := by rw [gS205_]; exact k40_
  replace k46_ : q_K S205_ b42_ = 21 := by rw [gS205_]; exact k46_
  replace k51_ : q_K S205_ b47_ = 21 := by rw [gS205_]; exact k51_
  replace k57_ : q_K S205_ b53_ = 21 := by rw [gS205_]; exact k57_
  replace k63_ : q_K S205_ b59_ = 21 := by rw [gS205_]; exact k63_
  replace k68_ : q_K S205_ b64_ = 21 := by rw [gS205_]; exact k68_
  replace k74_ : q_K S205_ b70_ = 21 := by rw [gS205_]; exact k74_
  replace k80_ : q_K S205_ b76_ = 21 := by rw [gS205_]; exact k80_
  replace k85_ : q_K S205_ b81_ = 21 := by rw [gS205_]; exact k85_
  replace k91_ : q_K S205_ b87_ = 21 := by rw [gS205_]; exact k91_
  replace k97_ : q_K S205_ b93_ = 21 := by rw [gS205_]; exact k97_
  replace k102_ : q_K S205_ b98_ = 21 := by rw [gS205_]; exact k102_
  replace k108_ : q_K S205_ b104_ = 21 := by rw [gS205_]; exact k108_
  replace k114_ : q_K S205_ b110_ = 21 := by rw [gS205_]; exact k114_
  replace k119_ : q_K S205_ b115_ = 21 := by rw [gS205_]; exact k119_
  replace k125_ : q_K S205_ b121_ = 22 := by rw [gS205_]; exact k125_
  replace k131_ : q_K S205_ b127_ = 21 := by rw [gS205_]; exact k131_
  replace k136_ : q_K S205_ b132_ = 21 := by rw [gS205_]; exact k136_
  replace k142_ : q_K S205_ b138_ = 21 := by rw [gS205_]; exact k142_
  replace k148_ : q_K S205_ b144_ = 22 := by rw [gS205_]; exact k148_
  replace k153_ : q_K S205_ b149_ = 21 := by rw [gS205_]; exact k153_
  replace k159_ : q_K S205_ b155_ = 22 := by rw [gS205_]; exact k159_
  replace k165_ : q_K S205_ b161_ = 22 := by rw [gS205_]; exact k165_
  replace k170_ : q_K S205_ b166_ = 22 := by rw [gS205_]; exact k170_
  replace k176_ : q_K S205_ b172_ = 21 := by rw [gS205_]; exact k176_
  replace k182_ : q_K S205_ b178_ = 22 := by rw [gS205_]; exact k182_
  replace k187_ : q_K S205_ b183_ = 21 := by rw [gS205_]; exact k187_
  replace k193_ : q_K S205_ b189_ = 22 := by rw [gS205_]; exact k193_
  replace k199_ : q_K S205_ b195_ = 21 := by rw [gS205_]; exact k199_
  replace k204_ : q_K S205_ b200_ = 22 := by rw [gS205_]; exact k204_
  refine q_putP X Y (some b200_) rfl kX12 56 rfl fl_X12_121 k6_ _ rfl (Or.inr ⟨_, rfl⟩) (Or.inr ⟨rfl, hnm, rfl⟩) dX12_init_314 (fun H locs Y => ?_)
  refine lv_aload_n hx hb dX12_init_317 rfl (lv_at hl 0 rfl) ?_
  refine lv_bipush (v := 24) hx hb dX12_init_318 (by decide) ?_
  obtain ⟨w209_, h⟩ := h
  refine q_newa X Y (k := 21) (t := 1) (n := 24) (ty := .int) rfl (by decide) rfl (fun _ _ => rfl) (by first | exact rfl | decide | simp [defaultValue]) ar_int (by decide) (by decide) (by decide) w209_ dX12_init_320 (fun b206_ H h207_ h208_ Y => ?_)
  replace h := h b206_ h207_
  replace hu := w209_
  replace k5_ := qs_R_keep (j := 21) (n := 24) h207_ k5_ (by decide)
  replace k6_ := qs_R_keep (j := 21) (n := 24) h207_ k6_ (by decide)
  replace k11_ := qs_R_keep (j := 21) (n := 24) h207_ k11_ (by decide)
  replace k17_ := qs_R_keep (j := 21) (n := 24) h207_ k17_ (by decide)
  replace k23_ := qs_R_keep (j := 21) (n := 24) h207_ k23_ (by decide)
  replace k29_ := qs_R_keep (j := 21) (n := 24) h207_ k29_ (by decide)
  replace k34_ := qs_R_keep (j := 21) (n := 24) h207_ k34_ (by decide)
  replace k40_ := qs_R_keep (j := 21) (n := 24) h207_ k40_ (by decide)
  replace k46_ := qs_R_keep (j := 21) (n := 24) h207_ k46_ (by decide)
  replace k51_ := qs_R_keep (j := 21) (n := 24) h207_ k51_ (by decide)
  replace k57_ := qs_R_keep (j := 21) (n := 24) h207_ k57_ (by decide)
  replace k63_ := qs_R_keep (j := 21) (n := 24) h207_ k63_ (by decide)
  replace k68_ := qs_R_keep (j := 21) (n := 24) h207_ k68_ (by decide)
  replace k74_ := qs_R_keep (j := 21) (n := 24) h207_ k74_ (by decide)
  replace k80_ := qs_R_keep (j := 21) (n := 24) h207_ k80_ (by decide)
  replace k85_ := qs_R_keep (j := 21) (n := 24) h207_ k85_ (by decide)
  replace k91_ := qs_R_keep (j := 21) (n := 24) h207_ k91_ (by decide)
  replace k97_ := qs_R_keep (j := 21) (n := 24) h207_ k97_ (by decide)
  replace k102_ := qs_R_keep (j := 21) (n := 24) h207_ k102_ (by decide)
  replace k108_ := qs_R_keep (j := 21) (n := 24) h207_ k108_ (by decide)
  replace k114_ := qs_R_keep (j := 21) (n := 24) h207_ k114_ (by decide)
  replace k119_ := qs_R_keep (j := 21) (n := 24) h207_ k119_ (by decide)
  replace k125_ := qs_R_keep (j := 21) (n := 24) h207_ k125_ (by decide)
  replace k131_ := qs_R_keep (j := 21) (n := 24) h207_ k131_ (by decide)
  replace k136_ := qs_R_keep (j := 21) (n := 24) h207_ k136_ (by decide)
  replace k142_ := qs_R_keep (j := 21) (n := 24) h207_ k142_ (by decide)
  replace k148_ := qs_R_keep (j := 21) (n := 24) h207_ k148_ (by decide)
  replace k153_ := qs_R_keep (j := 21) (n := 24) h207_ k153_ (by decide)
  replace k159_ := qs_R_keep (j := 21) (n := 24) h207_ k159_ (by decide)
  replace k165_ := qs_R_keep (j := 21) (n := 24) h207_ k165_ (by decide)
  replace k170_ := qs_R_keep (j := 21) (n := 24) h207_ k170_ (by decide)
  replace k176_ := qs_R_keep (j := 21) (n := 24) h207_ k176_ (by decide)
  replace k182_ := qs_R_keep (j := 21) (n := 24) h207_ k182_ (by decide)
  replace k187_ := qs_R_keep (j := 21) (n := 24) h207_ k187_ (by decide)
  replace k193_ := qs_R_keep (j := 21) (n := 24) h207_ k193_ (by decide)
  replace k199_ := qs_R_keep (j := 21) (n := 24) h207_ k199_ (by decide)
  replace k204_ := qs_R_keep (j := 21) (n := 24) h207_ k204_ (by decide)
  have k210_ : q_K (qs_R (qs_P S205_ 2456 a0 (some b200_)) 21 24 b206_) b206_ = 21 := qs_R_Ks
  refine q_putP X Y (some b206_) rfl kX12 57 rfl fl_X12_124 k6_ _ rfl (Or.inr ⟨_, rfl⟩) (Or.inr ⟨rfl, hnm, rfl⟩) dX12_init_322 (fun H locs Y => ?_)
  obtain ⟨S211_, gS211_⟩ : ∃ z : q_S, z = (qs_P (qs_R (qs_P S205_ 2456 a0 (some b200_)) 21 24 b206_) 2457 a0 (some b206_)) := ⟨_, rfl⟩
  replace Y : q_Y D cy lo s S211_ H locs := by rw [gS211_]; exact Y
  replace h := h S211_ gS211_
  replace k5_ : q_K S211_ b1_ = 20 := by rw [gS211_]; exact k5_
  replace k6_ : q_K S211_ a0 = 13 := by rw [gS211_]; exact k6_
  replace k11_ : q_K S211_ b7_ = 20 := by rw [gS211_]; exact k11_
  replace k17_ : q_K S211_ b13_ = 20 := by rw [gS211_]; exact k17_
  replace k23_ : q_K S211_ b19_ = 21 := by rw [gS211_]; exact k23_
  replace k29_ : q_K S211_ b25_ = 21 := by rw [gS211_]; exact k29_
  replace k34_ : q_K S211_ b30_ = 21 := by rw [gS211_]; exact k34_
  replace k40_ : q_K S211_ b36_ = 21 := by rw [gS211_]; exact k40_
  replace k46_ : q_K S211_ b42_ = 21 := by rw [gS211_]; exact k46_
  replace k51_ : q_K S211_ b47_ = 21 := by rw [gS211_]; exact k51_
  replace k57_ : q_K S211_ b53_ = 21 := by rw [gS211_]; exact k57_
  replace k63_ : q_K S211_ b59_ = 21 := by rw [gS211_]; exact k63_
  replace k68_ : q_K S211_ b64_ = 21 := by rw [gS211_]; exact k68_
  replace k74_ : q_K S211_ b70_ = 21 := by rw [gS211_]; exact k74_
  replace k80_ : q_K S211_ b76_ = 21 := by rw [gS211_]; exact k80_
  replace k85_ : q_K S211_ b81_ = 21 := by rw [gS211_]; exact k85_
  replace k91_ : q_K S211_ b87_ = 21 := by rw [gS211_]; exact k91_
  replace k97_ : q_K S211_ b93_ = 21 := by rw [gS211_]; exact k97_
  replace k102_ : q_K S211_ b98_ = 21 := by rw [gS211_]; exact k102_
  replace k108_ : q_K S211_ b104_ = 21 := by rw [gS211_]; exact k108_
  replace k114_ : q_K S211_ b110_ = 21 := by rw [gS211_]; exact k114_
  replace k119_ : q_K S211_ b115_ = 21 := by rw [gS211_]; exact k119_
  replace k125_ : q_K S211_ b121_ = 22 := by rw [gS211_]; exact k125_
  replace k131_ : q_K S211_ b127_ = 21 := by rw [gS211_]; exact k131_
  replace k136_ : q_K S211_ b132_ = 21 := by rw [gS211_]; exact k136_
  replace k142_ : q_K S211_ b138_ = 21 := by rw [gS211_]; exact k142_
  replace k148_ : q_K S211_ b144_ = 22 := by rw [gS211_]; exact k148_
  replace k153_ : q_K S211_ b149_ = 21 := by rw [gS211_]; exact k153_
  replace k159_ : q_K S211_ b155_ = 22 := by rw [gS211_]; exact k159_
  replace k165_ : q_K S211_ b161_ = 22 := by rw [gS211_]; exact k165_
  replace k170_ : q_K S211_ b166_ = 22 := by rw [gS211_]; exact k170_
  replace k176_ : q_K S211_ b172_ = 21 := by rw [gS211_]; exact k176_
  replace k182_ : q_K S211_ b178_ = 22 := by rw [gS211_]; exact k182_
  replace k187_ : q_K S211_ b183_ = 21 := by rw [gS211_]; exact k187_
  replace k193_ : q_K S211_ b189_ = 22 := by rw [gS211_]; exact k193_
  replace k199_ : q_K S211_ b195_ = 21 := by rw [gS211_]; exact k199_
  replace k204_ : q_K S211_ b200_ = 22 := by rw [gS211_]; exact k204_
  replace k210_ : q_K S211_ b206_ = 21 := by rw [gS211_]; exact k210_
  refine lv_aload_n hx hb dX12_init_325 rfl (lv_at hl 0 rfl) ?_
  refine lv_bipush (v := 24) hx hb dX12_init_326 (by decide) ?_
  obtain ⟨w215_, h⟩ := h
  refine q_newa X Y (k := 21) (t := 1) (n := 24) (ty := .int) rfl (by decide) rfl (fun _ _ => rfl) (by first | exact rfl | decide | simp [defaultValue]) ar_int (by decide) (by decide) (by decide) w215_ dX12_init_328 (fun b212_ H h213_ h214_ Y => ?_)
  replace h := h b212_ h213_
  replace hu := w215_
  replace k5_ := qs_R_keep (j := 21) (n := 24) h213_ k5_ (by decide)
  replace k6_ := qs_R_keep (j := 21) (n := 24) h213_ k6_ (by decide)
  replace k11_ := qs_R_keep (j := 21) (n := 24) h213_ k11_ (by decide)
  replace k17_ := qs_R_keep (j := 21) (n := 24) h213_ k17_ (by decide)
  replace k23_ := qs_R_keep (j := 21) (n := 24) h213_ k23_ (by decide)
  replace k29_ := qs_R_keep (j := 21) (n := 24) h213_ k29_ (by decide)
  replace k34_ := qs_R_keep (j := 21) (n := 24) h213_ k34_ (by decide)
  replace k40_ := qs_R_keep (j := 21) (n := 24) h213_ k40_ (by decide)
  replace k46_ := qs_R_keep (j := 21) (n := 24) h213_ k46_ (by decide)
  replace k51_ := qs_R_keep (j := 21) (n := 24) h213_ k51_ (by decide)
  replace k57_ := qs_R_keep (j := 21) (n := 24) h213_ k57_ (by decide)
  replace k63_ := qs_R_keep (j := 21) (n := 24) h213_ k63_ (by decide)
  replace k68_ := qs_R_keep (j := 21) (n := 24) h213_ k68_ (by decide)
  replace k74_ := qs_R_keep (j := 21) (n := 24) h213_ k74_ (by decide)
  replace k80_ := qs_R_keep (j := 21) (n := 24) h213_ k80_ (by decide)
  replace k85_ := qs_R_keep (j := 21) (n := 24) h213_ k85_ (by decide)
  replace k91_ := qs_R_keep (j := 21) (n := 24) h213_ k91_ (by decide)
  replace k97_ := qs_R_keep (j := 21) (n := 24) h213_ k97_ (by decide)
  replace k102_ := qs_R_keep (j := 21) (n := 24) h213_ k102_ (by decide)
  replace k108_ := qs_R_keep (j := 21) (n := 24) h213_ k108_ (by decide)
  replace k114_ := qs_R_keep (j := 21) (n := 24) h213_ k114_ (by decide)
  replace k119_ := qs_R_keep (j := 21) (n := 24) h213_ k119_ (by decide)
  replace k125_ := qs_R_keep (j := 21) (n := 24) h213_ k125_ (by decide)
  replace k131_ := qs_R_keep (j := 21) (n := 24) h213_ k131_ (by decide)
  replace k136_ := qs_R_keep (j := 21) (n := 24) h213_ k136_ (by decide)
  replace k142_ := qs_R_keep (j := 21) (n := 24) h213_ k142_ (by decide)
  replace k148_ := qs_R_keep (j := 21) (n := 24) h213_ k148_ (by decide)
  replace k153_ := qs_R_keep (j := 21) (n := 24) h213_ k153_ (by decide)
  replace k159_ := qs_R_keep (j := 21) (n := 24) h213_ k159_ (by decide)
  replace k165_ := qs_R_keep (j := 21) (n := 24) h213_ k165_ (by decide)
  replace k170_ := qs_R_keep (j := 21) (n := 24) h213_ k170_ (by decide)
  replace k176_ := qs_R_keep (j := 21) (n := 24) h213_ k176_ (by decide)
  replace k182_ := qs_R_keep (j := 21) (n := 24) h213_ k182_ (by decide)
  replace k187_ := qs_R_keep (j := 21) (n := 24) h213_ k187_ (by decide)
  replace k193_ := qs_R_keep (j := 21) (n := 24) h213_ k193_ (by decide)
  replace k199_ := qs_R_keep (j := 21) (n := 24) h213_ k199_ (by decide)
  replace k204_ := qs_R_keep (j := 21) (n := 24) h213_ k204_ (by decide)
  replace k210_ := qs_R_keep (j := 21) (n := 24) h213_ k210_ (by decide)
  have k216_ : q_K (qs_R S211_ 21 24 b212_) b212_ = 21 := qs_R_Ks
  refine q_putP X Y (some b212_) rfl kX12 58 rfl fl_X12_127 k6_ _ rfl (Or.inr ⟨_, rfl⟩) (Or.inr ⟨rfl, hnm, rfl⟩) dX12_init_330 (fun H locs Y => ?_)
  refine lv_aload_n hx hb dX12_init_333 rfl (lv_at hl 0 rfl) ?_
  refine lv_bipush (v := 96) hx hb dX12_init_334 (by decide) ?_
  obtain ⟨w220_, h⟩ := h
  refine q_newa X Y (k := 21) (t := 1) (n := 96) (ty := .int) rfl (by decide) rfl (fun _ _ => rfl) (by first | exact rfl | decide | simp [defaultValue]) ar_int (by decide) (by decide) (by decide) w220_ dX12_init_336 (fun b217_ H h218_ h219_ Y => ?_)
  replace h := h b217_ h218_
  replace hu := w220_
  replace k5_ := qs_R_keep (j := 21) (n := 96) h218_ k5_ (by decide)
  replace k6_ := qs_R_keep (j := 21) (n := 96) h218_ k6_ (by decide)
  replace k11_ := qs_R_keep (j := 21) (n := 96) h218_ k11_ (by decide)
  replace k17_ := qs_R_keep (j := 21) (n := 96) h218_ k17_ (by decide)
  replace k23_ := qs_R_keep (j := 21) (n := 96) h218_ k23_ (by decide)
  replace k29_ := qs_R_keep (j := 21) (n := 96) h218_ k29_ (by decide)
  replace k34_ := qs_R_keep (j := 21) (n := 96) h218_ k34_ (by decide)
  replace k40_ := qs_R_keep (j := 21) (n := 96) h218_ k40_ (by decide)
  replace k46_ := qs_R_keep (j := 21) (n := 96) h218_ k46_ (by decide)
  replace k51_ := qs_R_keep (j := 21) (n := 96) h218_ k51_ (by decide)
  replace k57_ := qs_R_keep (j := 21) (n := 96) h218_ k57_ (by decide)
  replace k63_ := qs_R_keep (j := 21) (n := 96) h218_ k63_ (by decide)
  replace k68_ := qs_R_keep (j := 21) (n := 96) h218_ k68_ (by decide)
  replace k74_ := qs_R_keep (j := 21) (n := 96) h218_ k74_ (by decide)
  replace k80_ := qs_R_keep (j := 21) (n := 96) h218_ k80_ (by decide)
  replace k85_ := qs_R_keep (j := 21) (n := 96) h218_ k85_ (by decide)
  replace k91_ := qs_R_keep (j := 21) (n := 96) h218_ k91_ (by decide)
  replace k97_ := qs_R_keep (j := 21) (n := 96) h218_ k97_ (by decide)
  replace k102_ := qs_R_keep (j := 21) (n := 96) h218_ k102_ (by decide)
  replace k108_ := qs_R_keep (j := 21) (n := 96) h218_ k108_ (by decide)
  replace k114_ := qs_R_keep (j := 21) (n := 96) h218_ k114_ (by decide)
  replace k119_ := qs_R_keep (j := 21) (n := 96) h218_ k119_ (by decide)
  replace k125_ := qs_R_keep (j := 21) (n := 96) h218_ k125_ (by decide)
  replace k131_ := qs_R_keep (j := 21) (n := 96) h218_ k131_ (by decide)
  replace k136_ := qs_R_keep (j := 21) (n := 96) h218_ k136_ (by decide)
  replace k142_ := qs_R_keep (j := 21) (n := 96) h218_ k142_ (by decide)
  replace k148_ := qs_R_keep (j := 21) (n := 96) h218_ k148_ (by decide)
  replace k153_ := qs_R_keep (j := 21) (n := 96) h218_ k153_ (by decide)
  replace k159_ := qs_R_keep (j := 21) (n := 96) h218_ k159_ (by decide)
  replace k165_ := qs_R_keep (j := 21) (n := 96) h218_ k165_ (by decide)
  replace k170_ := qs_R_keep (j := 21) (n := 96) h218_ k170_ (by decide)
  replace k176_ := qs_R_keep (j := 21) (n := 96) h218_ k176_ (by decide)
  replace k182_ := qs_R_keep (j := 21) (n := 96) h218_ k182_ (by decide)
  replace k187_ := qs_R_keep (j := 21) (n := 96) h218_ k187_ (by decide)
  replace k193_ := qs_R_keep (j := 21) (n := 96) h218_ k193_ (by decide)
  replace k199_ := qs_R_keep (j := 21) (n := 96) h218_ k199_ (by decide)
  replace k204_ := qs_R_keep (j := 21) (n := 96) h218_ k204_ (by decide)
  replace k210_ := qs_R_keep (j := 21) (n := 96) h218_ k210_ (by decide)
  replace k216_ := qs_R_keep (j := 21) (n := 96) h218_ k216_ (by decide)
  have k221_ : q_K (qs_R (qs_P (qs_R S211_ 21 24 b212_) 2458 a0 (some b212_)) 21 96 b217_) b217_ = 21 := qs_R_Ks
  obtain ⟨S222_, gS222_⟩ : ∃ z : q_S, z = (qs_R (qs_P (qs_R S211_ 21 24 b212_) 2458 a0 (some b212_)) 21 96 b217_) := ⟨_, rfl⟩
  replace Y : q_Y D cy lo s S222_ H locs := by rw [gS222_]; exact Y
  replace h := h S222_ gS222_
  replace k5_ : q_K S222_ b1_ = 20 := by rw [gS222_]; exact k5_
  replace k6_ : q_K S222_ a0 = 13 := by rw [gS222_]; exact k6_
  replace k11_ : q_K S222_ b7_ = 20 := by rw [gS222_]; exact k11_
  replace k17_ : q_K S222_ b13_ = 20 := by rw [gS222_]; exact k17_
  replace k23_ : q_K S222_ b19_ = 21 := by rw [gS222_]; exact k23_
  replace k29_ : q_K S222_ b25_ = 21 := by rw [gS222_]; exact k29_
  replace k34_ : q_K S222_ b30_ = 21 := by rw [gS222_]; exact k34_
  replace k40_ : q_K S222_ b36_ = 21 := by rw [gS222_]; exact k40_
  replace k46_ : q_K S222_ b42_ = 21 := by rw [gS222_]; exact k46_
  replace k51_ : q_K S222_ b47_ = 21 := by rw [gS222_]; exact k51_
  replace k57_ : q_K S222_ b53_ = 21 := by rw [gS222_]; exact k57_
  replace k63_ : q_K S222_ b59_ = 21 := by rw [gS222_]; exact k63_
  replace k68_ : q_K S222_ b64_ = 21 := by rw [gS222_]; exact k68_
  replace k74_ : q_K S222_ b70_ = 21 := by rw [gS222_]; exact k74_
  replace k80_ : q_K S222_ b76_ = 21 := by rw [gS222_]; exact k80_
  replace k85_ : q_K S222_ b81_ = 21 := by rw [gS222_]; exact k85_
  replace k91_ : q_K S222_ b87_ = 21 := by rw [gS222_]; exact k91_
  replace k97_ : q_K S222_ b93_ = 21 := by rw [gS222_]; exact k97_
  replace k102_ : q_K S222_ b98_ = 21 := by rw [gS222_]; exact k102_
  replace k108_ : q_K S222_ b104_ = 21 := by rw [gS222_]; exact k108_
  replace k114_ : q_K S222_ b110_ = 21 := by rw [gS222_]; exact k114_
  replace k119_ : q_K S222_ b115_ = 21 := by rw [gS222_]; exact k119_
  replace k125_ : q_K S222_ b121_ = 22 := by rw [gS222_]; exact k125_
  replace k131_ : q_K S222_ b127_ = 21 := by rw [gS222_]; exact k131_
  replace k136_ : q_K S222_ b132_ = 21 := by rw [gS222_]; exact k136_
  replace k142_ : q_K S222_ b138_ = 21 := by rw [gS222_]; exact k142_
  replace k148_ : q_K S222_ b144_ = 22 := by rw [gS222_]; exact k148_
  replace k153_ : q_K S222_ b149_ = 21 := by rw [gS222_]; exact k153_
  replace k159_ : q_K S222_ b155_ = 22 := by rw [gS222_]; exact k159_
  replace k165_ : q_K S222_ b161_ = 22 := by rw [gS222_]; exact k165_
  replace k170_ : q_K S222_ b166_ = 22 := by rw [gS222_]; exact k170_
  replace k176_ : q_K S222_ b172_ = 21 := by rw [gS222_]; exact k176_
  replace k182_ : q_K S222_ b178_ = 22 := by rw [gS222_]; exact k182_
  replace k187_ : q_K S222_ b183_ = 21 := by rw [gS222_]; exact k187_
  replace k193_ : q_K S222_ b189_ = 22 := by rw [gS222_]; exact k193_
  replace k199_ : q_K S222_ b195_ = 21 := by rw [gS222_]; exact k199_
  replace k204_ : q_K S222_ b200_ = 22 := by rw [gS222_]; exact k204_
  replace k210_ : q_K S222_ b206_ = 21 := by rw [gS222_]; exact k210_
  replace k216_ : q_K S222_ b212_ = 21 := by rw [gS222_]; exact k216_
  replace k221_ : q_K S222_ b217_ = 21 := by rw [gS222_]; exact k221_
  refine q_putP X Y (some b217_) rfl kX12 59 rfl fl_X12_130 k6_ _ rfl (Or.inr ⟨_, rfl⟩) (Or.inr ⟨rfl, hnm, rfl⟩) dX12_init_338 (fun H locs Y => ?_)
  refine lv_aload_n hx hb dX12_init_341 rfl (lv_at hl 0 rfl) ?_
  refine lv_bipush (v := 24) hx hb dX12_init_342 (by decide) ?_
  obtain ⟨w226_, h⟩ := h
  refine q_newa X Y (k := 21) (t := 1) (n := 24) (ty := .int) rfl (by decide) rfl (fun _ _ => rfl) (by first | exact rfl | decide | simp [defaultValue]) ar_int (by decide) (by decide) (by decide) w226_ dX12_init_344 (fun b223_ H h224_ h225_ Y => ?_)
  replace h := h b223_ h224_
  replace hu := w226_
  replace k5_ := qs_R_keep (j := 21) (n := 24) h224_ k5_ (by decide)
  replace k6_ := qs_R_keep (j := 21) (n := 24) h224_ k6_ (by decide)
  replace k11_ := qs_R_keep (j := 21) (n := 24) h224_ k11_ (by decide)
  replace k17_ := qs_R_keep (j := 21) (n := 24) h224_ k17_ (by decide)
  replace k23_ := qs_R_keep (j := 21) (n := 24) h224_ k23_ (by decide)
  replace k29_ := qs_R_keep (j := 21) (n := 24) h224_ k29_ (by decide)
  replace k34_ := qs_R_keep (j := 21) (n := 24) h224_ k34_ (by decide)
  replace k40_ := qs_R_keep (j := 21) (n := 24) h224_ k40_ (by decide)
  replace k46_ := qs_R_keep (j := 21) (n := 24) h224_ k46_ (by decide)
  replace k51_ := qs_R_keep (j := 21) (n := 24) h224_ k51_ (by decide)
  replace k57_ := qs_R_keep (j := 21) (n := 24) h224_ k57_ (by decide)
  replace k63_ := qs_R_keep (j := 21) (n := 24) h224_ k63_ (by decide)
  replace k68_ := qs_R_keep (j := 21) (n := 24) h224_ k68_ (by decide)
  replace k74_ := qs_R_keep (j := 21) (n := 24) h224_ k74_ (by decide)
  replace k80_ := qs_R_keep (j := 21) (n := 24) h224_ k80_ (by decide)
  replace k85_ := qs_R_keep (j := 21) (n := 24) h224_ k85_ (by decide)
  replace k91_ := qs_R_keep (j := 21) (n := 24) h224_ k91_ (by decide)
  replace k97_ := qs_R_keep (j := 21) (n := 24) h224_ k97_ (by decide)
  replace k102_ := qs_R_keep (j := 21) (n := 24) h224_ k102_ (by decide)
  replace k108_ := qs_R_keep (j := 21) (n := 24) h224_ k108_ (by decide)
  replace k114_ := qs_R_keep (j := 21) (n := 24) h224_ k114_ (by decide)
  replace k119_ := qs_R_keep (j := 21) (n := 24) h224_ k119_ (by decide)
  replace k125_ := qs_R_keep (j := 21) (n := 24) h224_ k125_ (by decide)
  replace k131_ := qs_R_keep (j := 21) (n := 24) h224_ k131_ (by decide)
  replace k136_ := qs_R_keep (j := 21) (n := 24) h224_ k136_ (by decide)
  replace k142_ := qs_R_keep (j := 21) (n := 24) h224_ k142_ (by decide)
  replace k148_ := qs_R_keep (j := 21) (n := 24) h224_ k148_ (by decide)
  replace k153_ := qs_R_keep (j := 21) (n := 24) h224_ k153_ (by decide)
  replace k159_ := qs_R_keep (j := 21) (n := 24) h224_ k159_ (by decide)
  replace k165_ := qs_R_keep (j := 21) (n := 24) h224_ k165_ (by decide)
  replace k170_ := qs_R_keep (j := 21) (n := 24) h224_ k170_ (by decide)
  replace k176_ := qs_R_keep (j := 21) (n := 24) h224_ k176_ (by decide)
  replace k182_ := qs_R_keep (j := 21) (n := 24) h224_ k182_ (by decide)
  replace k187_ := qs_R_keep (j := 21) (n := 24) h224_ k187_ (by decide)
  replace k193_ := qs_R_keep (j := 21) (n := 24) h224_ k193_ (by decide)
  replace k199_ := qs_R_keep (j := 21) (n := 24) h224_ k199_ (by decide)
  replace k204_ := qs_R_keep (j := 21) (n := 24) h224_ k204_ (by decide)
  replace k210_ := qs_R_keep (j := 21) (n := 24) h224_ k210_ (by decide)
  replace k216_ := qs_R_keep (j := 21) (n := 24) h224_ k216_ (by decide)
  replace k221_ := qs_R_keep (j := 21) (n := 24) h224_ k221_ (by decide)
  have k227_ : q_K (qs_R (qs_P S222_ 2459 a0 (some b217_)) 21 24 b223_) b223_ = 21 := qs_R_Ks
  refine q_putP X Y (some b223_) rfl kX12 60 rfl fl_X12_133 k6_ _ rfl (Or.inr ⟨_, rfl⟩) (Or.inr ⟨rfl, hnm, rfl⟩) dX12_init_346 (fun H locs Y => ?_)
  obtain ⟨S228_, gS228_⟩ : ∃ z : q_S, z = (qs_P (qs_R (qs_P S222_ 2459 a0 (some b217_)) 21 24 b223_) 2460 a0 (some b223_)) := ⟨_, rfl⟩
  replace Y : q_Y D cy lo s S228_ H locs := by rw [gS228_]; exact Y
  replace h := h S228_ gS228_
  replace k5_ : q_K S228_ b1_ = 20 := by rw [gS228_]; exact k5_
  replace k6_ : q_K S228_ a0 = 13 := by rw [gS228_]; exact k6_
  replace k11_ : q_K S228_ b7_ = 20 := by rw [gS228_]; exact k11_
  replace k17_ : q_K S228_ b13_ = 20 := by rw [gS228_]; exact k17_
  replace k23_ : q_K S228_ b19_ = 21 := by rw [gS228_]; exact k23_
  replace k29_ : q_K S228_ b25_ = 21 := by rw [gS228_]; exact k29_
  replace k34_ : q_K S228_ b30_ = 21 := by rw [gS228_]; exact k34_
  replace k40_ : q_K S228_ b36_ = 21 := by rw [gS228_]; exact k40_
  replace k46_ : q_K S228_ b42_ = 21 := by rw [gS228_]; exact k46_
  replace k51_ : q_K S228_ b47_ = 21 := by rw [gS228_]; exact k51_
  replace k57_ : q_K S228_ b53_ = 21 := by rw [gS228_]; exact k57_
  replace k63_ : q_K S228_ b59_ = 21 := by rw [gS228_]; exact k63_
  replace k68_ : q_K S228_ b64_ = 21 := by rw [gS228_]; exact k68_
  replace k74_ : q_K S228_ b70_ = 21 := by rw [gS228_]; exact k74_
  replace k80_ : q_K S228_ b76_ = 21 := by rw [gS228_]; exact k80_
  replace k85_ : q_K S228_ b81_ = 21 := by rw [gS228_]; exact k85_
  replace k91_ : q_K S228_ b87_ = 21 := by rw [gS228_]; exact k91_
  replace k97_ : q_K S228_ b93_ = 21 := by rw [gS228_]; exact k97_
  replace k102_ : q_K S228_ b98_ = 21 := by rw [gS228_]; exact k102_
  replace k108_ : q_K S228_ b104_ = 21 := by rw [gS228_]; exact k108_
  replace k114_ : q_K S228_ b110_ = 21 := by rw [gS228_]; exact k114_
  replace k119_ : q_K S228_ b115_ = 21 := by rw [gS228_]; exact k119_
  replace k125_ : q_K S228_ b121_ = 22 := by rw [gS228_]; exact k125_
  replace k131_ : q_K S228_ b127_ = 21 := by rw [gS228_]; exact k131_
  replace k136_ : q_K S228_ b132_ = 21 := by rw [gS228_]; exact k136_
  replace k142_ : q_K S228_ b138_ = 21 := by rw [gS228_]; exact k142_
  replace k148_ : q_K S228_ b144_ = 22 := by rw [gS228_]; exact k148_
  replace k153_ : q_K S228_ b149_ = 21 := by rw [gS228_]; exact k153_
  replace k159_ : q_K S228_ b155_ = 22 := by rw [gS228_]; exact k159_
  replace k165_ : q_K S228_ b161_ = 22 := by rw [gS228_]; exact k165_
  replace k170_ : q_K S228_ b166_ = 22 := by rw [gS228_]; exact k170_
  replace k176_ : q_K S228_ b172_ = 21 := by rw [gS228_]; exact k176_
  replace k182_ : q_K S228_ b178_ = 22 := by rw [gS228_]; exact k182_
  replace k187_ : q_K S228_ b183_ = 21 := by rw [gS228_]; exact k187_
  replace k193_ : q_K S228_ b189_ = 22 := by rw [gS228_]; exact k193_
  replace k199_ : q_K S228_ b195_ = 21 := by rw [gS228_]; exact k199_
  replace k204_ : q_K S228_ b200_ = 22 := by rw [gS228_]; exact k204_
  replace k210_ : q_K S228_ b206_ = 21 := by rw [gS228_]; exact k210_
  replace k216_ : q_K S228_ b212_ = 21 := by rw [gS228_]; exact k216_
  replace k221_ : q_K S228_ b217_ = 21 := by rw [gS228_]; exact k221_
  replace k227_ : q_K S228_ b223_ = 21 := by rw [gS228_]; exact k227_
  refine lv_aload_n hx hb dX12_init_349 rfl (lv_at hl 0 rfl) ?_
  refine lv_bipush (v := 24) hx hb dX12_init_350 (by decide) ?_
  obtain ⟨w232_, h⟩ := h
  refine q_newa X Y (k := 21) (t := 1) (n := 24) (ty := .int) rfl (by decide) rfl (fun _ _ => rfl) (by first | exact rfl | decide | simp [defaultValue]) ar_int (by decide) (by decide) (by decide) w232_ dX12_init_352 (fun b229_ H h230_ h231_ Y => ?_)
  replace h := h b229_ h230_
  replace hu := w232_
  replace k5_ := qs_R_keep (j := 21) (n := 24) h230_ k5_ (by decide)
  replace k6_ := qs_R_keep (j := 21) (n := 24) h230_ k6_ (by decide)
  replace k11_ := qs_R_keep (j := 21) (n := 24) h230_ k11_ (by decide)
  replace k17_ := qs_R_keep (j := 21) (n := 24) h230_ k17_ (by decide)
  replace k23_ := qs_R_keep (j := 21) (n := 24) h230_ k23_ (by decide)
  replace k29_ := qs_R_keep (j := 21) (n := 24) h230_ k29_ (by decide)
  replace k34_ := qs_R_keep (j := 21) (n := 24) h230_ k34_ (by decide)
  replace k40_ := qs_R_keep (j := 21) (n := 24) h230_ k40_ (by decide)
  replace k46_ := qs_R_keep (j := 21) (n := 24) h230_ k46_ (by decide)
  replace k51_ := qs_R_keep (j := 21) (n := 24) h230_ k51_ (by decide)
  replace k57_ := qs_R_keep (j := 21) (n := 24) h230_ k57_ (by decide)
  replace k63_ := qs_R_keep (j := 21) (n := 24) h230_ k63_ (by decide)
  replace k68_ := qs_R_keep (j := 21) (n := 24) h230_ k68_ (by decide)
  replace k74_ := qs_R_keep (j := 21) (n := 24) h230_ k74_ (by decide)
  replace k80_ := qs_R_keep (j := 21) (n := 24) h230_ k80_ (by decide)
  replace k85_ := qs_R_keep (j := 21) (n := 24) h230_ k85_ (by decide)
  replace k91_ := qs_R_keep (j := 21) (n := 24) h230_ k91_ (by decide)
  replace k97_ := qs_R_keep (j := 21) (n := 24) h230_ k97_ (by decide)
  replace k102_ := qs_R_keep (j := 21) (n := 24) h230_ k102_ (by decide)
  replace k108_ := qs_R_keep (j := 21) (n := 24) h230_ k108_ (by decide)
  replace k114_ := qs_R_keep (j := 21) (n := 24) h230_ k114_ (by decide)
  replace k119_ := qs_R_keep (j := 21) (n := 24) h230_ k119_ (by decide)
  replace k125_ := qs_R_keep (j := 21) (n := 24) h230_ k125_ (by decide)
  replace k131_ := qs_R_keep (j := 21) (n := 24) h230_ k131_ (by decide)
  replace k136_ := qs_R_keep (j := 21) (n := 24) h230_ k136_ (by decide)
  replace k142_ := qs_R_keep (j := 21) (n := 24) h230_ k142_ (by decide)
  replace k148_ := qs_R_keep (j := 21) (n := 24) h230_ k148_ (by decide)
  replace k153_ := qs_R_keep (j := 21) (n := 24) h230_ k153_ (by decide)
  replace k159_ := qs_R_keep (j := 21) (n := 24) h230_ k159_ (by decide)
  replace k165_ := qs_R_keep (j := 21) (n := 24) h230_ k165_ (by decide)
  replace k170_ := qs_R_keep (j := 21) (n := 24) h230_ k170_ (by decide)
  replace k176_ := qs_R_keep (j := 21) (n := 24) h230_ k176_ (by decide)
  replace k182_ := qs_R_keep (j := 21) (n := 24) h230_ k182_ (by decide)
  replace k187_ := qs_R_keep (j := 21) (n := 24) h230_ k187_ (by decide)
  replace k193_ := qs_R_keep (j := 21) (n := 24) h230_ k193_ (by decide)
  replace k199_ := qs_R_keep (j := 21) (n := 24) h230_ k199_ (by decide)
  replace k204_ := qs_R_keep (j := 21) (n := 24) h230_ k204_ (by decide)
  replace k210_ := qs_R_keep (j := 21) (n := 24) h230_ k210_ (by decide)
  replace k216_ := qs_R_keep (j := 21) (n := 24) h230_ k216_ (by decide)
  replace k221_ := qs_R_keep (j := 21) (n := 24) h230_ k221_ (by decide)
  replace k227_ := qs_R_keep (j := 21) (n := 24) h230_ k227_ (by decide)
  have k233_ : q_K (qs_R S228_ 21 24 b229_) b229_ = 21 := qs_R_Ks
  refine q_putP X Y (some b229_) rfl kX12 61 rfl fl_X12_136 k6_ _ rfl (Or.inr ⟨_, rfl⟩) (Or.inr ⟨rfl, hnm, rfl⟩) dX12_init_354 (fun H locs Y => ?_)
  refine lv_aload_n hx hb dX12_init_357 rfl (lv_at hl 0 rfl) ?_
  refine lv_bipush (v := 24) hx hb dX12_init_358 (by decide) ?_
  obtain ⟨w237_, h⟩ := h
  refine q_newa X Y (k := 21) (t := 1) (n := 24) (ty := .int) rfl (by decide) rfl (fun _ _ => rfl) (by first | exact rfl | decide | simp [defaultValue]) ar_int (by decide) (by decide) (by decide) w237_ dX12_init_360 (fun b234_ H h235_ h236_ Y => ?_)
  replace h := h b234_ h235_
  replace hu := w237_
  replace k5_ := qs_R_keep (j := 21) (n := 24) h235_ k5_ (by decide)
  replace k6_ := qs_R_keep (j := 21) (n := 24) h235_ k6_ (by decide)
  replace k11_ := qs_R_keep (j := 21) (n := 24) h235_ k11_ (by decide)
  replace k17_ := qs_R_keep (j := 21) (n := 24) h235_ k17_ (by decide)
  replace k23_ := qs_R_keep (j := 21) (n := 24) h235_ k23_ (by decide)
  replace k29_ := qs_R_keep (j := 21) (n := 24) h235_ k29_ (by decide)
  replace k34_ := qs_R_keep (j := 21) (n := 24) h235_ k34_ (by decide)
  replace k40_ := qs_R_keep (j := 21) (n := 24) h235_ k40_ (by decide)
  replace k46_ := qs_R_keep (j := 21) (n := 24) h235_ k46_ (by decide)
  replace k51_ := qs_R_keep (j := 21) (n := 24) h235_ k51_ (by decide)
  replace k57_ := qs_R_keep (j := 21) (n := 24) h235_ k57_ (by decide)
  replace k63_ := qs_R_keep (j := 21) (n := 24) h235_ k63_ (by decide)
  replace k68_ := qs_R_keep (j := 21) (n := 24) h235_ k68_ (by decide)
  replace k74_ := qs_R_keep (j := 21) (n := 24) h235_ k74_ (by decide)
  replace k80_ := qs_R_keep (j := 21) (n := 24) h235_ k80_ (by decide)
  replace k85_ := qs_R_keep (j := 21) (n := 24) h235_ k85_ (by decide)
  replace k91_ := qs_R_keep (j := 21) (n := 24) h235_ k91_ (by decide)
  replace k97_ := qs_R_keep (j := 21) (n := 24) h235_ k97_ (by decide)
  replace k102_ := qs_R_keep (j := 21) (n := 24) h235_ k102_ (by decide)
  replace k108_ := qs_R_keep (j := 21) (n := 24) h235_ k108_ (by decide)
  replace k114_ := qs_R_keep (j := 21) (n := 24) h235_ k114_ (by decide)
  replace k119_ := qs_R_keep (j := 21) (n := 24) h235_ k119_ (by decide)
  replace k125_ := qs_R_keep (j := 21) (n := 24) h235_ k125_ (by decide)
  replace k131_ := qs_R_keep (j := 21) (n := 24) h235_ k131_ (by decide)
  replace k136_ := qs_R_keep (j := 21) (n := 24) h235_ k136_ (by decide)
  replace k142_ := qs_R_keep (j := 21) (n := 24) h235_ k142_ (by decide)
  replace k148_ := qs_R_keep (j := 21) (n := 24) h235_ k148_ (by decide)
  replace k153_ := qs_R_keep (j := 21) (n := 24) h235_ k153_ (by decide)
  replace k159_ := qs_R_keep (j := 21) (n := 24) h235_ k159_ (by decide)
  replace k165_ := qs_R_keep (j := 21) (n := 24) h235_ k165_ (by decide)
  replace k170_ := qs_R_keep (j := 21) (n := 24) h235_ k170_ (by decide)
  replace k176_ := qs_R_keep (j := 21) (n := 24) h235_ k176_ (by decide)
  replace k182_ := qs_R_keep (j := 21) (n := 24) h235_ k182_ (by decide)
  replace k187_ := qs_R_keep (j := 21) (n := 24) h235_ k187_ (by decide)
  replace k193_ := qs_R_keep (j := 21) (n := 24) h235_ k193_ (by decide)
  replace k199_ := qs_R_keep (j := 21) (n := 24) h235_ k199_ (by decide)
  replace k204_ := qs_R_keep (j := 21) (n := 24) h235_ k204_ (by decide)
  replace k210_ := qs_R_keep (j := 21) (n := 24) h235_ k210_ (by decide)
  replace k216_ := qs_R_keep (j := 21) (n := 24) h235_ k216_ (by decide)
  replace k221_ := qs_R_keep (j := 21) (n := 24) h235_ k221_ (by decide)
  replace k227_ := qs_R_keep (j := 21) (n := 24) h235_ k227_ (by decide)
  replace k233_ := qs_R_keep (j := 21) (n := 24) h235_ k233_ (by decide)
  have k238_ : q_K (qs_R (qs_P (qs_R S228_ 21 24 b229_) 2461 a0 (some b229_)) 21 24 b234_) b234_ = 21 := qs_R_Ks
  obtain ⟨S239_, gS239_⟩ : ∃ z : q_S, z = (qs_R (qs_P (qs_R S228_ 21 24 b229_) 2461 a0 (some b229_)) 21 24 b234_) := ⟨_, rfl⟩
  replace Y : q_Y D cy lo s S239_ H locs := by rw [gS239_]; exact Y
  replace h := h S239_ gS239_
  replace k5_ : q_K S239_ b1_ = 20 := by rw [gS239_]; exact k5_
  replace k6_ : q_K S239_ a0 = 13 := by rw [gS239_]; exact k6_
  replace k11_ : q_K S239_ b7_ = 20 := by rw [gS239_]; exact k11_
  replace k17_ : q_K S239_ b13_ = 20 := by rw [gS239_]; exact k17_
  replace k23_ : q_K S239_ b19_ = 21 := by rw [gS239_]; exact k23_
  replace k29_ : q_K S239_ b25_ = 21 := by rw [gS239_]; exact k29_
  replace k34_ : q_K S239_ b30_ = 21 := by rw [gS239_]; exact k34_
  replace k40_ : q_K S239_ b36_ = 21 := by rw [gS239_]; exact k40_
  replace k46_ : q_K S239_ b42_ = 21 := by rw [gS239_]; exact k46_
  replace k51_ : q_K S239_ b47_ = 21 := by rw [gS239_]; exact k51_
  replace k57_ : q_K S239_ b53_ = 21 := by rw [gS239_]; exact k57_
  replace k63_ : q_K S239_ b59_ = 21 := by rw [gS239_]; exact k63_
  replace k68_ : q_K S239_ b64_ = 21 := by rw [gS239_]; exact k68_
  replace k74_ : q_K S239_ b70_ = 21 := by rw [gS239_]; exact k74_
  replace k80_ : q_K S239_ b76_ = 21 := by rw [gS239_]; exact k80_
  replace k85_ : q_K S239_ b81_ = 21 := by rw [gS239_]; exact k85_
  replace k91_ : q_K S239_ b87_ = 21 := by rw [gS239_]; exact k91_
  replace k97_ : q_K S239_ b93_ = 21 := by rw [gS239_]; exact k97_
  replace k102_ : q_K S239_ b98_ = 21 := by rw [gS239_]; exact k102_
  replace k108_ : q_K S239_ b104_ = 21 := by rw [gS239_]; exact k108_
  replace k114_ : q_K S239_ b110_ = 21 := by rw [gS239_]; exact k114_
  replace k119_ : q_K S239_ b115_ = 21 := by rw [gS239_]; exact k119_
  replace k125_ : q_K S239_ b121_ = 22 := by rw [gS239_]; exact k125_
  replace k131_ : q_K S239_ b127_ = 21 := by rw [gS239_]; exact k131_
  replace k136_ : q_K S239_ b132_ = 21 := by rw [gS239_]; exact k136_
  replace k142_ : q_K S239_ b138_ = 21 := by rw [gS239_]; exact k142_
  replace k148_ : q_K S239_ b144_ = 22 := by rw [gS239_]; exact k148_
  replace k153_ : q_K S239_ b149_ = 21 := by rw [gS239_]; exact k153_
  replace k159_ : q_K S239_ b155_ = 22 := by rw [gS239_]; exact k159_
  replace k165_ : q_K S239_ b161_ = 22 := by rw [gS239_]; exact k165_
  replace k170_ : q_K S239_ b166_ = 22 := by rw [gS239_]; exact k170_
  replace k176_ : q_K S239_ b172_ = 21 := by rw [gS239_]; exact k176_
  replace k182_ : q_K S239_ b178_ = 22 := by rw [gS239_]; exact k182_
  replace k187_ : q_K S239_ b183_ = 21 := by rw [gS239_]; exact k187_
  replace k193_ : q_K S239_ b189_ = 22 := by rw [gS239_]; exact k193_
  replace k199_ : q_K S239_ b195_ = 21 := by rw [gS239_]; exact k199_
  replace k204_ : q_K S239_ b200_ = 22 := by rw [gS239_]; exact k204_
  replace k210_ : q_K S239_ b206_ = 21 := by rw [gS239_]; exact k210_
  replace k216_ : q_K S239_ b212_ = 21 := by rw [gS239_]; exact k216_
  replace k221_ : q_K S239_ b217_ = 21 := by rw [gS239_]; exact k221_
  replace k227_ : q_K S239_ b223_ = 21 := by rw [gS239_]; exact k227_
  replace k233_ : q_K S239_ b229_ = 21 := by rw [gS239_]; exact k233_
  replace k238_ : q_K S239_ b234_ = 21 := by rw [gS239_]; exact k238_
  refine q_putP X Y (some b234_) rfl kX12 62 rfl fl_X12_139 k6_ _ rfl (Or.inr ⟨_, rfl⟩) (Or.inr ⟨rfl, hnm, rfl⟩) dX12_init_362 (fun H locs Y => ?_)
  refine lv_aload_n hx hb dX12_init_365 rfl (lv_at hl 0 rfl) ?_
  refine lv_ldc (v := 131072) hx hb X.2.2.2.1 (X.2.2.2.2.1 _ co_X12_142) dX12_init_366 ?_
  obtain ⟨w243_, h⟩ := h
  refine q_newa X Y (k := 20) (t := 0) (n := 131072) (ty := .byte) rfl (by decide) rfl (fun _ _ => rfl) (by first | exact rfl | decide | simp [defaultValue]) ar_byte (by decide) (by decide) (by decide) w243_ dX12_init_368 (fun b240_ H h241_ h242_ Y => ?_)
  replace h := h b240_ h241_
  replace hu := w243_
  replace k5_ := qs_R_keep (j := 20) (n := 131072) h241_ k5_ (by decide)
  replace k6_ := qs_R_keep (j := 20) (n := 131072) h241_ k6_ (by decide)
  replace k11_ := qs_R_keep (j := 20) (n := 131072) h241_ k11_ (by decide)
  replace k17_ := qs_R_keep (j := 20) (n := 131072) h241_ k17_ (by decide)
  replace k23_ := qs_R_keep (j := 20) (n := 131072) h241_ k23_ (by decide)
  replace k29_ := qs_R_keep (j := 20) (n := 131072) h241_ k29_ (by decide)
  replace k34_ := qs_R_keep (j := 20) (n := 131072) h241_ k34_ (by decide)
  replace k40_ := qs_R_keep (j := 20) (n := 131072) h241_ k40_ (by decide)
  replace k46_ := qs_R_keep (j := 20) (n := 131072) h241_ k46_ (by decide)
  replace k51_ := qs_R_keep (j := 20) (n := 131072) h241_ k51_ (by decide)
  replace k57_ := qs_R_keep (j := 20) (n := 131072) h241_ k57_ (by decide)
  replace k63_ := qs_R_keep (j := 20) (n := 131072) h241_ k63_ (by decide)
  replace k68_ := qs_R_keep (j := 20) (n := 131072) h241_ k68_ (by decide)
  replace k74_ := qs_R_keep (j := 20) (n := 131072) h241_ k74_ (by decide)
  replace k80_ := qs_R_keep (j := 20) (n := 131072) h241_ k80_ (by decide)
  replace k85_ := qs_R_keep (j := 20) (n := 131072) h241_ k85_ (by decide)
  replace k91_ := qs_R_keep (j := 20) (n := 131072) h241_ k91_ (by decide)
  replace k97_ := qs_R_keep (j := 20) (n := 131072) h241_ k97_ (by decide)
  replace k102_ := qs_R_keep (j := 20) (n := 131072) h241_ k102_ (by decide)
  replace k108_ := qs_R_keep (j := 20) (n := 131072) h241_ k108_ (by decide)
  replace k114_ := qs_R_keep (j := 20) (n := 131072) h241_ k114_ (by decide)
  replace k119_ := qs_R_keep (j := 20) (n := 131072) h241_ k119_ (by decide)
  replace k125_ := qs_R_keep (j := 20) (n := 131072) h241_ k125_ (by decide)
  replace k131_ := qs_R_keep (j := 20) (n := 131072) h241_ k131_ (by decide)
  replace k136_ := qs_R_keep (j := 20) (n := 131072) h241_ k136_ (by decide)
  replace k142_ := qs_R_keep (j := 20) (n := 131072) h241_ k142_ (by decide)
  replace k148_ := qs_R_keep (j := 20) (n := 131072) h241_ k148_ (by decide)
  replace k153_ := qs_R_keep (j := 20) (n := 131072) h241_ k153_ (by decide)
  replace k159_ := qs_R_keep (j := 20) (n := 131072) h241_ k159_ (by decide)
  replace k165_ := qs_R_keep (j := 20) (n := 131072) h241_ k165_ (by decide)
  replace k170_ := qs_R_keep (j := 20) (n := 131072) h241_ k170_ (by decide)
  replace k176_ := qs_R_keep (j := 20) (n := 131072) h241_ k176_ (by decide)
  replace k182_ := qs_R_keep (j := 20) (n := 131072) h241_ k182_ (by decide)
  replace k187_ := qs_R_keep (j := 20) (n := 131072) h241_ k187_ (by decide)
  replace k193_ := qs_R_keep (j := 20) (n := 131072) h241_ k193_ (by decide)
  replace k199_ := qs_R_keep (j := 20) (n := 131072) h241_ k199_ (by decide)
  replace k204_ := qs_R_keep (j := 20) (n := 131072) h241_ k204_ (by decide)
  replace k210_ := qs_R_keep (j := 20) (n := 131072) h241_ k210_ (by decide)
  replace k216_ := qs_R_keep (j := 20) (n := 131072) h241_ k216_ (by decide)
  replace k221_ := qs_R_keep (j := 20) (n := 131072) h241_ k221_ (by decide)
  replace k227_ := qs_R_keep (j := 20) (n := 131072) h241_ k227_ (by decide)
  replace k233_ := qs_R_keep (j := 20) (n := 131072) h241_ k233_ (by decide)
  replace k238_ := qs_R_keep (j := 20) (n := 131072) h241_ k238_ (by decide)
  have k244_ : q_K (qs_R (qs_P S239_ 2462 a0 (some b234_)) 20 131072 b240_) b240_ = 20 := qs_R_Ks
  refine q_putP X Y (some b240_) rfl kX12 65 rfl fl_X12_143 k6_ _ rfl (Or.inr ⟨_, rfl⟩) (Or.inr ⟨rfl, hnm, rfl⟩) dX12_init_370 (fun H locs Y => ?_)
  obtain ⟨S245_, gS245_⟩ : ∃ z : q_S, z = (qs_P (qs_R (qs_P S239_ 2462 a0 (some b234_)) 20 131072 b240_) 2465 a0 (some b240_)) := ⟨_, rfl⟩
  replace Y : q_Y D cy lo s S245_ H locs := by rw [gS245_]; exact Y
  replace h := h S245_ gS245_
  replace k5_ : q_K S245_ b1_ = 20 := by rw [gS245_]; exact k5_
  replace k6_ : q_K S245_ a0 = 13 := by rw [gS245_]; exact k6_
  replace k11_ : q_K S245_ b7_ = 20 := by rw [gS245_]; exact k11_
  replace k17_ : q_K S245_ b13_ = 20 := by rw [gS245_]; exact k17_
  replace k23_ : q_K S245_ b19_ = 21 := by rw [gS245_]; exact k23_
  replace k29_ : q_K S245_ b25_ = 21 := by rw [gS245_]; exact k29_
  replace k34_ : q_K S245_ b30_ = 21 := by rw [gS245_]; exact k34_
  replace k40_ : q_K S245_ b36_ = 21 := by rw [gS245_]; exact k40_
  replace k46_ : q_K S245_ b42_ = 21 := by rw [gS245_]; exact k46_
  replace k51_ : q_K S245_ b47_ = 21 := by rw [gS245_]; exact k51_
  replace k57_ : q_K S245_ b53_ = 21 := by rw [gS245_]; exact k57_
  replace k63_ : q_K S245_ b59_ = 21 := by rw [gS245_]; exact k63_
  replace k68_ : q_K S245_ b64_ = 21 := by rw [gS245_]; exact k68_
  replace k74_ : q_K S245_ b70_ = 21 := by rw [gS245_]; exact k74_
  replace k80_ : q_K S245_ b76_ = 21 := by rw [gS245_]; exact k80_
  replace k85_ : q_K S245_ b81_ = 21 := by rw [gS245_]; exact k85_
  replace k91_ : q_K S245_ b87_ = 21 := by rw [gS245_]; exact k91_
  replace k97_ : q_K S245_ b93_ = 21 := by rw [gS245_]; exact k97_
  replace k102_ : q_K S245_ b98_ = 21 := by rw [gS245_]; exact k102_
  replace k108_ : q_K S245_ b104_ = 21 := by rw [gS245_]; exact k108_
  replace k114_ : q_K S245_ b110_ = 21 := by rw [gS245_]; exact k114_
  replace k119_ : q_K S245_ b115_ = 21 := by rw [gS245_]; exact k119_
  replace k125_ : q_K S245_ b121_ = 22 := by rw [gS245_]; exact k125_
  replace k131_ : q_K S245_ b127_ = 21 := by rw [gS245_]; exact k131_
  replace k136_ : q_K S245_ b132_ = 21 := by rw [gS245_]; exact k136_
  replace k142_ : q_K S245_ b138_ = 21 := by rw [gS245_]; exact k142_
  replace k148_ : q_K S245_ b144_ = 22 := by rw [gS245_]; exact k148_
  replace k153_ : q_K S245_ b149_ = 21 := by rw [gS245_]; exact k153_
  replace k159_ : q_K S245_ b155_ = 22 := by rw [gS245_]; exact k159_
  replace k165_ : q_K S245_ b161_ = 22 := by rw [gS245_]; exact k165_
  replace k170_ : q_K S245_ b166_ = 22 := by rw [gS245_]; exact k170_
  replace k176_ : q_K S245_ b172_ = 21 := by rw [gS245_]; exact k176_
  replace k182_ : q_K S245_ b178_ = 22 := by rw [gS245_]; exact k182_
  replace k187_ : q_K S245_ b183_ = 21 := by rw [gS245_]; exact k187_
  replace k193_ : q_K S245_ b189_ = 22 := by rw [gS245_]; exact k193_
  replace k199_ : q_K S245_ b195_ = 21 := by rw [gS245_]; exact k199_
  replace k204_ : q_K S245_ b200_ = 22 := by rw [gS245_]; exact k204_
  replace k210_ : q_K S245_ b206_ = 21 := by rw [gS245_]; exact k210_
  replace k216_ : q_K S245_ b212_ = 21 := by rw [gS245_]; exact k216_
  replace k221_ : q_K S245_ b217_ = 21 := by rw [gS245_]; exact k221_
  replace k227_ : q_K S245_ b223_ = 21 := by rw [gS245_]; exact k227_
  replace k233_ : q_K S245_ b229_ = 21 := by rw [gS245_]; exact k233_
  replace k238_ : q_K S245_ b234_ = 21 := by rw [gS245_]; exact k238_
  replace k244_ : q_K S245_ b240_ = 20 := by rw [gS245_]; exact k244_
  refine lv_aload_n hx hb dX12_init_373 rfl (lv_at hl 0 rfl) ?_
  refine lv_ldc (v := 131072) hx hb X.2.2.2.1 (X.2.2.2.2.1 _ co_X12_142) dX12_init_374 ?_
  obtain ⟨w249_, h⟩ := h
  refine q_newa X Y (k := 20) (t := 0) (n := 131072) (ty := .byte) rfl (by decide) rfl (fun _ _ => rfl) (by first | exact rfl | decide | simp [defaultValue]) ar_byte (by decide) (by decide) (by decide) w249_ dX12_init_376 (fun b246_ H h247_ h248_ Y => ?_)
  replace h := h b246_ h247_
  replace hu := w249_
  replace k5_ := qs_R_keep (j := 20) (n := 131072) h247_ k5_ (by decide)
  replace k6_ := qs_R_keep (j := 20) (n := 131072) h247_ k6_ (by decide)
  replace k11_ := qs_R_keep (j := 20) (n := 131072) h247_ k11_ (by decide)
  replace k17_ := qs_R_keep (j := 20) (n := 131072) h247_ k17_ (by decide)
  replace k23_ := qs_R_keep (j := 20) (n := 131072) h247_ k23_ (by decide)
  replace k29_ := qs_R_keep (j := 20) (n := 131072) h247_ k29_ (by decide)
  replace k34_ := qs_R_keep (j := 20) (n := 131072) h247_ k34_ (by decide)
  replace k40_ := qs_R_keep (j := 20) (n := 131072) h247_ k40_ (by decide)
  replace k46_ := qs_R_keep (j := 20) (n := 131072) h247_ k46_ (by decide)
  replace k51_ := qs_R_keep (j := 20) (n := 131072) h247_ k51_ (by decide)
  replace k57_ := qs_R_keep (j := 20) (n := 131072) h247_ k57_ (by decide)
  replace k63_ := qs_R_keep (j := 20) (n := 131072) h247_ k63_ (by decide)
  replace k68_ := qs_R_keep (j := 20) (n := 131072) h247_ k68_ (by decide)
  replace k74_ := qs_R_keep (j := 20) (n := 131072) h247_ k74_ (by decide)
  replace k80_ := qs_R_keep (j := 20) (n := 131072) h247_ k80_ (by decide)
  replace k85_ := qs_R_keep (j := 20) (n := 131072) h247_ k85_ (by decide)
  replace k91_ := qs_R_keep (j := 20) (n := 131072) h247_ k91_ (by decide)
  replace k97_ := qs_R_keep (j := 20) (n := 131072) h247_ k97_ (by decide)
  replace k102_ := qs_R_keep (j := 20) (n := 131072) h247_ k102_ (by decide)
  replace k108_ := qs_R_keep (j := 20) (n := 131072) h247_ k108_ (by decide)
  replace k114_ := qs_R_keep (j := 20) (n := 131072) h247_ k114_ (by decide)
  replace k119_ := qs_R_keep (j := 20) (n := 131072) h247_ k119_ (by decide)
  replace k125_ := qs_R_keep (j := 20) (n := 131072) h247_ k125_ (by decide)
  replace k131_ := qs_R_keep (j := 20) (n := 131072) h247_ k131_ (by decide)
  replace k136_ := qs_R_keep (j := 20) (n := 131072) h247_ k136_ (by decide)
  replace k142_ := qs_R_keep (j := 20) (n := 131072) h247_ k142_ (by decide)
  replace k148_ := qs_R_keep (j := 20) (n := 131072) h247_ k148_ (by decide)
  replace k153_ := qs_R_keep (j := 20) (n := 131072) h247_ k153_ (by decide)
  replace k159_ := qs_R_keep (j := 20) (n := 131072) h247_ k159_ (by decide)
  replace k165_ := qs_R_keep (j := 20) (n := 131072) h247_ k165_ (by decide)
  replace k170_ := qs_R_keep (j := 20) (n := 131072) h247_ k170_ (by decide)
  replace k176_ := qs_R_keep (j := 20) (n := 131072) h247_ k176_ (by decide)
  replace k182_ := qs_R_keep (j := 20) (n := 131072) h247_ k182_ (by decide)
  replace k187_ := qs_R_keep (j := 20) (n := 131072) h247_ k187_ (by decide)
  replace k193_ := qs_R_keep (j := 20) (n := 131072) h247_ k193_ (by decide)
  replace k199_ := qs_R_keep (j := 20) (n := 131072) h247_ k199_ (by decide)
  replace k204_ := qs_R_keep (j := 20) (n := 131072) h247_ k204_ (by decide)
  replace k210_ := qs_R_keep (j := 20) (n := 131072) h247_ k210_ (by decide)
  replace k216_ := qs_R_keep (j := 20) (n := 131072) h247_ k216_ (by decide)
  replace k221_ := qs_R_keep (j := 20) (n := 131072) h247_ k221_ (by decide)
  replace k227_ := qs_R_keep (j := 20) (n := 131072) h247_ k227_ (by decide)
  replace k233_ := qs_R_keep (j := 20) (n := 131072) h247_ k233_ (by decide)
  replace k238_ := qs_R_keep (j := 20) (n := 131072) h247_ k238_ (by decide)
  replace k244_ := qs_R_keep (j := 20) (n := 131072) h247_ k244_ (by decide)
  have k250_ : q_K (qs_R S245_ 20 131072 b246_) b246_ = 20 := qs_R_Ks
  refine q_putP X Y (some b246_) rfl kX12 66 rfl fl_X12_146 k6_ _ rfl (Or.inr ⟨_, rfl⟩) (Or.inr ⟨rfl, hnm, rfl⟩) dX12_init_378 (fun H locs Y => ?_)
  refine lv_aload_n hx hb dX12_init_381 rfl (lv_at hl 0 rfl) ?_
  refine lv_sipush (v := 256) hx hb dX12_init_382 (by decide) ?_
  obtain ⟨w254_, h⟩ := h
  refine q_newa X Y (k := 21) (t := 1) (n := 256) (ty := .int) rfl (by decide) rfl (fun _ _ => rfl) (by first | exact rfl | decide | simp [defaultValue]) ar_int (by decide) (by decide) (by decide) w254_ dX12_init_385 (fun b251_ H h252_ h253_ Y => ?_)
  replace h := h b251_ h252_
  replace hu := w254_
  replace k5_ := qs_R_keep (j := 21) (n := 256) h252_ k5_ (by decide)
  replace k6_ := qs_R_keep (j := 21) (n := 256) h252_ k6_ (by decide)
  replace k11_ := qs_R_keep (j := 21) (n := 256) h252_ k11_ (by decide)
  replace k17_ := qs_R_keep (j := 21) (n := 256) h252_ k17_ (by decide)
  replace k23_ := qs_R_keep (j := 21) (n := 256) h252_ k23_ (by decide)
  replace k29_ := qs_R_keep (j := 21) (n := 256) h252_ k29_ (by decide)
  replace k34_ := qs_R_keep (j := 21) (n := 256) h252_ k34_ (by decide)
  replace k40_ := qs_R_keep (j := 21) (n := 256) h252_ k40_ (by decide)
  replace k46_ := qs_R_keep (j := 21) (n := 256) h252_ k46_ (by decide)
  replace k51_ := qs_R_keep (j := 21) (n := 256) h252_ k51_ (by decide)
  replace k57_ := qs_R_keep (j := 21) (n := 256) h252_ k57_ (by decide)
  replace k63_ := qs_R_keep (j := 21) (n := 256) h252_ k63_ (by decide)
  replace k68_ := qs_R_keep (j := 21) (n := 256) h252_ k68_ (by decide)
  replace k74_ := qs_R_keep (j := 21) (n := 256) h252_ k74_ (by decide)
  replace k80_ := qs_R_keep (j := 21) (n := 256) h252_ k80_ (by decide)
  replace k85_ := qs_R_keep (j := 21) (n := 256) h252_ k85_ (by decide)
  replace k91_ := qs_R_keep (j := 21) (n := 256) h252_ k91_ (by decide)
  replace k97_ := qs_R_keep (j := 21) (n := 256) h252_ k97_ (by decide)
  replace k102_ := qs_R_keep (j := 21) (n := 256) h252_ k102_ (by decide)
  replace k108_ := qs_R_keep (j := 21) (n := 256) h252_ k108_ (by decide)
  replace k114_ := qs_R_keep (j := 21) (n := 256) h252_ k114_ (by decide)
  replace k119_ := qs_R_keep (j := 21) (n := 256) h252_ k119_ (by decide)
  replace k125_ := qs_R_keep (j := 21) (n := 256) h252_ k125_ (by decide)
  replace k131_ := qs_R_keep (j := 21) (n := 256) h252_ k131_ (by decide)
  replace k136_ := qs_R_keep (j := 21) (n := 256) h252_ k136_ (by decide)
  replace k142_ := qs_R_keep (j := 21) (n := 256) h252_ k142_ (by decide)
  replace k148_ := qs_R_keep (j := 21) (n := 256) h252_ k148_ (by decide)
  replace k153_ := qs_R_keep (j := 21) (n := 256) h252_ k153_ (by decide)
  replace k159_ := qs_R_keep (j := 21) (n := 256) h252_ k159_ (by decide)
  replace k165_ := qs_R_keep (j := 21) (n := 256) h252_ k165_ (by decide)
  replace k170_ := qs_R_keep (j := 21) (n := 256) h252_ k170_ (by decide)
  replace k176_ := qs_R_keep (j := 21) (n := 256) h252_ k176_ (by decide)
  replace k182_ := qs_R_keep (j := 21) (n := 256) h252_ k182_ (by decide)
  replace k187_ := qs_R_keep (j := 21) (n := 256) h252_ k187_ (by decide)
  replace k193_ := qs_R_keep (j := 21) (n := 256) h252_ k193_ (by decide)
  replace k199_ := qs_R_keep (j := 21) (n := 256) h252_ k199_ (by decide)
  replace k204_ := qs_R_keep (j := 21) (n := 256) h252_ k204_ (by decide)
  replace k210_ := qs_R_keep (j := 21) (n := 256) h252_ k210_ (by decide)
  replace k216_ := qs_R_keep (j := 21) (n := 256) h252_ k216_ (by decide)
  replace k221_ := qs_R_keep (j := 21) (n := 256) h252_ k221_ (by decide)
  replace k227_ := qs_R_keep (j := 21) (n := 256) h252_ k227_ (by decide)
  replace k233_ := qs_R_keep (j := 21) (n := 256) h252_ k233_ (by decide)
  replace k238_ := qs_R_keep (j := 21) (n := 256) h252_ k238_ (by decide)
  replace k244_ := qs_R_keep (j := 21) (n := 256) h252_ k244_ (by decide)
  replace k250_ := qs_R_keep (j := 21) (n := 256) h252_ k250_ (by decide)
  have k255_ : q_K (qs_R (qs_P (qs_R S245_ 20 131072 b246_) 2466 a0 (some b246_)) 21 256 b251_) b251_ = 21 := qs_R_Ks
  obtain ⟨S256_, gS256_⟩ : ∃ z : q_S, z = (qs_R (qs_P (qs_R S245_ 20 131072 b246_) 2466 a0 (some b246_)) 21 256 b251_) := ⟨_, rfl⟩
  replace Y : q_Y D cy lo s S256_ H locs := by rw [gS256_]; exact Y
  replace h := h S256_ gS256_
  replace k5_ : q_K S256_ b1_ = 20 := by rw [gS256_]; exact k5_
  replace k6_ : q_K S256_ a0 = 13 := by rw [gS256_]; exact k6_
  replace k11_ : q_K S256_ b7_ = 20 := by rw [gS256_]; exact k11_
  replace k17_ : q_K S256_ b13_ = 20 := by rw [gS256_]; exact k17_
  replace k23_ : q_K S256_ b19_ = 21 := by rw [gS256_]; exact k23_
  replace k29_ : q_K S256_ b25_ = 21 := by rw [gS256_]; exact k29_
  replace k34_ : q_K S256_ b30_ = 21 := by rw [gS256_]; exact k34_
  replace k40_ : q_K S256_ b36_ = 21 := by rw [gS256_]; exact k40_
  replace k46_ : q_K S256_ b42_ = 21 := by rw [gS256_]; exact k46_
  replace k51_ : q_K S256_ b47_ = 21 := by rw [gS256_]; exact k51_
  replace k57_ : q_K S256_ b53_ = 21 := by rw [gS256_]; exact k57_
  replace k63_ : q_K S256_ b59_ = 21 := by rw [gS256_]; exact k63_
  replace k68_ : q_K S256_ b64_ = 21 := by rw [gS256_]; exact k68_
  replace k74_ : q_K S256_ b70_ = 21 := by rw [gS256_]; exact k74_
  replace k80_ : q_K S256_ b76_ = 21 := by rw [gS256_]; exact k80_
  replace k85_ : q_K S256_ b81_ = 21 := by rw [gS256_]; exact k85_
  replace k91_ : q_K S256_ b87_ = 21 := by rw [gS256_]; exact k91_
  replace k97_ : q_K S256_ b93_ = 21 := by rw [gS256_]; exact k97_
  replace k102_ : q_K S256_ b98_ = 21 := by rw [gS256_]; exact k102_
  replace k108_ : q_K S256_ b104_ = 21 := by rw [gS256_]; exact k108_
  replace k114_ : q_K S256_ b110_ = 21 := by rw [gS256_]; exact k114_
  replace k119_ : q_K S256_ b115_ = 21 := by rw [gS256_]; exact k119_
  replace k125_ : q_K S256_ b121_ = 22 := by rw [gS256_]; exact k125_
  replace k131_ : q_K S256_ b127_ = 21 := by rw [gS256_]; exact k131_
  replace k136_ : q_K S256_ b132_ = 21 := by rw [gS256_]; exact k136_
  replace k142_ : q_K S256_ b138_ = 21 := by rw [gS256_]; exact k142_
  replace k148_ : q_K S256_ b144_ = 22 := by rw [gS256_]; exact k148_
  replace k153_ : q_K S256_ b149_ = 21 := by rw [gS256_]; exact k153_
  replace k159_ : q_K S256_ b155_ = 22 := by rw [gS256_]; exact k159_
  replace k165_ : q_K S256_ b161_ = 22 := by rw [gS256_]; exact k165_
  replace k170_ : q_K S256_ b166_ = 22 := by rw [gS256_]; exact k170_
  replace k176_ : q_K S256_ b172_ = 21 := by rw [gS256_]; exact k176_
  replace k182_ : q_K S256_ b178_ = 22 := by rw [gS256_]; exact k182_
  replace k187_ : q_K S256_ b183_ = 21 := by rw [gS256_]; exact k187_
  replace k193_ : q_K S256_ b189_ = 22 := by rw [gS256_]; exact k193_
  replace k199_ : q_K S256_ b195_ = 21 := by rw [gS256_]; exact k199_
  replace k204_ : q_K S256_ b200_ = 22 := by rw [gS256_]; exact k204_
  replace k210_ : q_K S256_ b206_ = 21 := by rw [gS256_]; exact k210_
  replace k216_ : q_K S256_ b212_ = 21 := by rw [gS256_]; exact k216_
  replace k221_ : q_K S256_ b217_ = 21 := by rw [gS256_]; exact k221_
  replace k227_ : q_K S256_ b223_ = 21 := by rw [gS256_]; exact k227_
  replace k233_ : q_K S256_ b229_ = 21 := by rw [gS256_]; exact k233_
  replace k238_ : q_K S256_ b234_ = 21 := by rw [gS256_]; exact k238_
  replace k244_ : q_K S256_ b240_ = 20 := by rw [gS256_]; exact k244_
  replace k250_ : q_K S256_ b246_ = 20 := by rw [gS256_]; exact k250_
  replace k255_ : q_K S256_ b251_ = 21 := by rw [gS256_]; exact k255_
  refine q_putP X Y (some b251_) rfl kX12 67 rfl fl_X12_149 k6_ _ rfl (Or.inr ⟨_, rfl⟩) (Or.inr ⟨rfl, hnm, rfl⟩) dX12_init_387 (fun H locs Y => ?_)
  refine lv_aload_n hx hb dX12_init_390 rfl (lv_at hl 0 rfl) ?_
  refine lv_sipush (v := 256) hx hb dX12_init_391 (by decide) ?_
  obtain ⟨w260_, h⟩ := h
  refine q_newa X Y (k := 21) (t := 1) (n := 256) (ty := .int) rfl (by decide) rfl (fun _ _ => rfl) (by first | exact rfl | decide | simp [defaultValue]) ar_int (by decide) (by decide) (by decide) w260_ dX12_init_394 (fun b257_ H h258_ h259_ Y => ?_)
  replace h := h b257_ h258_
  replace hu := w260_
  replace k5_ := qs_R_keep (j := 21) (n := 256) h258_ k5_ (by decide)
  replace k6_ := qs_R_keep (j := 21) (n := 256) h258_ k6_ (by decide)
  replace k11_ := qs_R_keep (j := 21) (n := 256) h258_ k11_ (by decide)
  replace k17_ := qs_R_keep (j := 21) (n := 256) h258_ k17_ (by decide)
  replace k23_ := qs_R_keep (j := 21) (n := 256) h258_ k23_ (by decide)
  replace k29_ := qs_R_keep (j := 21) (n := 256) h258_ k29_ (by decide)
  replace k34_ := qs_R_keep (j := 21) (n := 256) h258_ k34_ (by decide)
  replace k40_ := qs_R_keep (j := 21) (n := 256) h258_ k40_ (by decide)
  replace k46_ := qs_R_keep (j := 21) (n := 256) h258_ k46_ (by decide)
  replace k51_ := qs_R_keep (j := 21) (n := 256) h258_ k51_ (by decide)
  replace k57_ := qs_R_keep (j := 21) (n := 256) h258_ k57_ (by decide)
  replace k63_ := qs_R_keep (j := 21) (n := 256) h258_ k63_ (by decide)
  replace k68_ := qs_R_keep (j := 21) (n := 256) h258_ k68_ (by decide)
  replace k74_ := qs_R_keep (j := 21) (n := 256) h258_ k74_ (by decide)
  replace k80_ := qs_R_keep (j := 21) (n := 256) h258_ k80_ (by decide)
  replace k85_ := qs_R_keep (j := 21) (n := 256) h258_ k85_ (by decide)
  replace k91_ := qs_R_keep (j := 21) (n := 256) h258_ k91_ (by decide)
  replace k97_ := qs_R_keep (j := 21) (n := 256) h258_ k97_ (by decide)
  replace k102_ := qs_R_keep (j := 21) (n := 256) h258_ k102_ (by decide)
  replace k108_ := qs_R_keep (j := 21) (n := 256) h258_ k108_ (by decide)
  replace k114_ := qs_R_keep (j := 21) (n := 256) h258_ k114_ (by decide)
  replace k119_ := qs_R_keep (j := 21) (n := 256) h258_ k119_ (by decide)
  replace k125_ := qs_R_keep (j := 21) (n := 256) h258_ k125_ (by decide)
  replace k131_ := qs_R_keep (j := 21) (n := 256) h258_ k131_ (by decide)
  replace k136_ := qs_R_keep (j := 21) (n := 256) h258_ k136_ (by decide)
  replace k142_ := qs_R_keep (j := 21) (n := 256) h258_ k142_ (by decide)
  replace k148_ := qs_R_keep (j := 21) (n := 256) h258_ k148_ (by decide)
  replace k153_ := qs_R_keep (j := 21) (n := 256) h258_ k153_ (by decide)
  replace k159_ := qs_R_keep (j := 21) (n := 256) h258_ k159_ (by decide)
  replace k165_ := qs_R_keep (j := 21) (n := 256) h258_ k165_ (by decide)
  replace k170_ := qs_R_keep (j := 21) (n := 256) h258_ k170_ (by decide)
  replace k176_ := qs_R_keep (j := 21) (n := 256) h258_ k176_ (by decide)
  replace k182_ := qs_R_keep (j := 21) (n := 256) h258_ k182_ (by decide)
  replace k187_ := qs_R_keep (j := 21) (n := 256) h258_ k187_ (by decide)
  replace k193_ := qs_R_keep (j := 21) (n := 256) h258_ k193_ (by decide)
  replace k199_ := qs_R_keep (j := 21) (n := 256) h258_ k199_ (by decide)
  replace k204_ := qs_R_keep (j := 21) (n := 256) h258_ k204_ (by decide)
  replace k210_ := qs_R_keep (j := 21) (n := 256) h258_ k210_ (by decide)
  replace k216_ := qs_R_keep (j := 21) (n := 256) h258_ k216_ (by decide)
  replace k221_ := qs_R_keep (j := 21) (n := 256) h258_ k221_ (by decide)
  replace k227_ := qs_R_keep (j := 21) (n := 256) h258_ k227_ (by decide)
  replace k233_ := qs_R_keep (j := 21) (n := 256) h258_ k233_ (by decide)
  replace k238_ := qs_R_keep (j := 21) (n := 256) h258_ k238_ (by decide)
  replace k244_ := qs_R_keep (j := 21) (n := 256) h258_ k244_ (by decide)
  replace k250_ := qs_R_keep (j := 21) (n := 256) h258_ k250_ (by decide)
  replace k255_ := qs_R_keep (j := 21) (n := 256) h258_ k255_ (by decide)
  have k261_ : q_K (qs_R (qs_P S256_ 2467 a0 (some b251_)) 21 256 b257_) b257_ = 21 := qs_R_Ks
  refine q_putP X Y (some b257_) rfl kX12 68 rfl fl_X12_152 k6_ _ rfl (Or.inr ⟨_, rfl⟩) (Or.inr ⟨rfl, hnm, rfl⟩) dX12_init_396 (fun H locs Y => ?_)
  obtain ⟨S262_, gS262_⟩ : ∃ z : q_S, z = (qs_P (qs_R (qs_P S256_ 2467 a0 (some b251_)) 21 256 b257_) 2468 a0 (some b257_)) := ⟨_, rfl⟩
  replace Y : q_Y D cy lo s S262_ H locs := by rw [gS262_]; exact Y
  replace h := h S262_ gS262_
  replace k5_ : q_K S262_ b1_ = 20 := by rw [gS262_]; exact k5_
  replace k6_ : q_K S262_ a0 = 13 := by rw [gS262_]; exact k6_
  replace k11_ : q_K S262_ b7_ = 20 := by rw [gS262_]; exact k11_
  replace k17_ : q_K S262_ b13_ = 20 := by rw [gS262_]; exact k17_
  replace k23_ : q_K S262_ b19_ = 21 := by rw [gS262_]; exact k23_
  replace k29_ : q_K S262_ b25_ = 21 := by rw [gS262_]; exact k29_
  replace k34_ : q_K S262_ b30_ = 21 := by rw [gS262_]; exact k34_
  replace k40_ : q_K S262_ b36_ = 21 := by rw [gS262_]; exact k40_
  replace k46_ : q_K S262_ b42_ = 21 := by rw [gS262_]; exact k46_
  replace k51_ : q_K S262_ b47_ = 21 := by rw [gS262_]; exact k51_
  replace k57_ : q_K S262_ b53_ = 21 := by rw [gS262_]; exact k57_
  replace k63_ : q_K S262_ b59_ = 21 := by rw [gS262_]; exact k63_
  replace k68_ : q_K S262_ b64_ = 21 := by rw [gS262_]; exact k68_
  replace k74_ : q_K S262_ b70_ = 21 := by rw [gS262_]; exact k74_
  replace k80_ : q_K S262_ b76_ = 21 := by rw [gS262_]; exact k80_
  replace k85_ : q_K S262_ b81_ = 21 := by rw [gS262_]; exact k85_
  replace k91_ : q_K S262_ b87_ = 21 := by rw [gS262_]; exact k91_
  replace k97_ : q_K S262_ b93_ = 21 := by rw [gS262_]; exact k97_
  replace k102_ : q_K S262_ b98_ = 21 := by rw [gS262_]; exact k102_
  replace k108_ : q_K S262_ b104_ = 21 := by rw [gS262_]; exact k108_
  replace k114_ : q_K S262_ b110_ = 21 := by rw [gS262_]; exact k114_
  replace k119_ : q_K S262_ b115_ = 21 := by rw [gS262_]; exact k119_
  replace k125_ : q_K S262_ b121_ = 22 := by rw [gS262_]; exact k125_
  replace k131_ : q_K S262_ b127_ = 21 := by rw [gS262_]; exact k131_
  replace k136_ : q_K S262_ b132_ = 21 := by rw [gS262_]; exact k136_
  replace k142_ : q_K S262_ b138_ = 21 := by rw [gS262_]; exact k142_
  replace k148_ : q_K S262_ b144_ = 22 := by rw [gS262_]; exact k148_
  replace k153_ : q_K S262_ b149_ = 21 := by rw [gS262_]; exact k153_
  replace k159_ : q_K S262_ b155_ = 22 := by rw [gS262_]; exact k159_
  replace k165_ : q_K S262_ b161_ = 22 := by rw [gS262_]; exact k165_
  replace k170_ : q_K S262_ b166_ = 22 := by rw [gS262_]; exact k170_
  replace k176_ : q_K S262_ b172_ = 21 := by rw [gS262_]; exact k176_
  replace k182_ : q_K S262_ b178_ = 22 := by rw [gS262_]; exact k182_
  replace k187_ : q_K S262_ b183_ = 21 := by rw [gS262_]; exact k187_
  replace k193_ : q_K S262_ b189_ = 22 := by rw [gS262_]; exact k193_
  replace k199_ : q_K S262_ b195_ = 21 := by rw [gS262_]; exact k199_
  replace k204_ : q_K S262_ b200_ = 22 := by rw [gS262_]; exact k204_
  replace k210_ : q_K S262_ b206_ = 21 := by rw [gS262_]; exact k210_
  replace k216_ : q_K S262_ b212_ = 21 := by rw [gS262_]; exact k216_
  replace k221_ : q_K S262_ b217_ = 21 := by rw [gS262_]; exact k221_
  replace k227_ : q_K S262_ b223_ = 21 := by rw [gS262_]; exact k227_
  replace k233_ : q_K S262_ b229_ = 21 := by rw [gS262_]; exact k233_
  replace k238_ : q_K S262_ b234_ = 21 := by rw [gS262_]; exact k238_
  replace k244_ : q_K S262_ b240_ = 20 := by rw [gS262_]; exact k244_
  replace k250_ : q_K S262_ b246_ = 20 := by rw [gS262_]; exact k250_
  replace k255_ : q_K S262_ b251_ = 21 := by rw [gS262_]; exact k255_
  replace k261_ : q_K S262_ b257_ = 21 := by rw [gS262_]; exact k261_
  refine lv_aload_n hx hb dX12_init_399 rfl (lv_at hl 0 rfl) ?_
  refine lv_sipush (v := 256) hx hb dX12_init_400 (by decide) ?_
  obtain ⟨w266_, h⟩ := h
  refine q_newa X Y (k := 21) (t := 1) (n := 256) (ty := .int) rfl (by decide) rfl (fun _ _ => rfl) (by first | exact rfl | decide | simp [defaultValue]) ar_int (by decide) (by decide) (by decide) w266_ dX12_init_403 (fun b263_ H h264_ h265_ Y => ?_)
  replace h := h b263_ h264_
  replace hu := w266_
  replace k5_ := qs_R_keep (j := 21) (n := 256) h264_ k5_ (by decide)
  replace k6_ := qs_R_keep (j := 21) (n := 256) h264_ k6_ (by decide)
  replace k11_ := qs_R_keep (j := 21) (n := 256) h264_ k11_ (by decide)
  replace k17_ := qs_R_keep (j := 21) (n := 256) h264_ k17_ (by decide)
  replace k23_ := qs_R_keep (j := 21) (n := 256) h264_ k23_ (by decide)
  replace k29_ := qs_R_keep (j := 21) (n := 256) h264_ k29_ (by decide)
  replace k34_ := qs_R_keep (j := 21) (n := 256) h264_ k34_ (by decide)
  replace k40_ := qs_R_keep (j := 21) (n := 256) h264_ k40_ (by decide)
  replace k46_ := qs_R_keep (j := 21) (n := 256) h264_ k46_ (by decide)
  replace k51_ := qs_R_keep (j := 21) (n := 256) h264_ k51_ (by decide)
  replace k57_ := qs_R_keep (j := 21) (n := 256) h264_ k57_ (by decide)
  replace k63_ := qs_R_keep (j := 21) (n := 256) h264_ k63_ (by decide)
  replace k68_ := qs_R_keep (j := 21) (n := 256) h264_ k68_ (by decide)
  replace k74_ := qs_R_keep (j := 21) (n := 256) h264_ k74_ (by decide)
  replace k80_ := qs_R_keep (j := 21) (n := 256) h264_ k80_ (by decide)
  replace k85_ := qs_R_keep (j := 21) (n := 256) h264_ k85_ (by decide)
  replace k91_ := qs_R_keep (j := 21) (n := 256) h264_ k91_ (by decide)
  replace k97_ := qs_R_keep (j := 21) (n := 256) h264_ k97_ (by decide)
  replace k102_ := qs_R_keep (j := 21) (n := 256) h264_ k102_ (by decide)
  replace k108_ := qs_R_keep (j := 21) (n := 256) h264_ k108_ (by decide)
  replace k114_ := qs_R_keep (j := 21) (n := 256) h264_ k114_ (by decide)
  replace k119_ := qs_R_keep (j := 21) (n := 256) h264_ k119_ (by decide)
  replace k125_ := qs_R_keep (j := 21) (n := 256) h264_ k125_ (by decide)
  replace k131_ := qs_R_keep (j := 21) (n := 256) h264_ k131_ (by decide)
  replace k136_ := qs_R_keep (j := 21) (n := 256) h264_ k136_ (by decide)
  replace k142_ := qs_R_keep (j := 21) (n := 256) h264_ k142_ (by decide)
  replace k148_ := qs_R_keep (j := 21) (n := 256) h264_ k148_ (by decide)
  replace k153_ := qs_R_keep (j := 21) (n := 256) h264_ k153_ (by decide)
  replace k159_ := qs_R_keep (j := 21) (n := 256) h264_ k159_ (by decide)
  replace k165_ := qs_R_keep (j := 21) (n := 256) h264_ k165_ (by decide)
  replace k170_ := qs_R_keep (j := 21) (n := 256) h264_ k170_ (by decide)
  replace k176_ := qs_R_keep (j := 21) (n := 256) h264_ k176_ (by decide)
  replace k182_ := qs_R_keep (j := 21) (n := 256) h264_ k182_ (by decide)
  replace k187_ := qs_R_keep (j := 21) (n := 256) h264_ k187_ (by decide)
  replace k193_ := qs_R_keep (j := 21) (n := 256) h264_ k193_ (by decide)
  replace k199_ := qs_R_keep (j := 21) (n := 256) h264_ k199_ (by decide)
  replace k204_ := qs_R_keep (j := 21) (n := 256) h264_ k204_ (by decide)
  replace k210_ := qs_R_keep (j := 21) (n := 256) h264_ k210_ (by decide)
  replace k216_ := qs_R_keep (j := 21) (n := 256) h264_ k216_ (by decide)
  replace k221_ := qs_R_keep (j := 21) (n := 256) h264_ k221_ (by decide)
  replace k227_ := qs_R_keep (j := 21) (n := 256) h264_ k227_ (by decide)
  replace k233_ := qs_R_keep (j := 21) (n := 256) h264_ k233_ (by decide)
  replace k238_ := qs_R_keep (j := 21) (n := 256) h264_ k238_ (by decide)
  replace k244_ := qs_R_keep (j := 21) (n := 256) h264_ k244_ (by decide)
  replace k250_ := qs_R_keep (j := 21) (n := 256) h264_ k250_ (by decide)
  replace k255_ := qs_R_keep (j := 21) (n := 256) h264_ k255_ (by decide)
  replace k261_ := qs_R_keep (j := 21) (n := 256) h264_ k261_ (by decide)
  have k267_ : q_K (qs_R S262_ 21 256 b263_) b263_ = 21 := qs_R_Ks
  refine q_putP X Y (some b263_) rfl kX12 69 rfl fl_X12_155 k6_ _ rfl (Or.inr ⟨_, rfl⟩) (Or.inr ⟨rfl, hnm, rfl⟩) dX12_init_405 (fun H locs Y => ?_)
  refine lv_aload_n hx hb dX12_init_408 rfl (lv_at hl 0 rfl) ?_
  refine lv_sipush (v := 256) hx hb dX12_init_409 (by decide) ?_
  obtain ⟨w271_, h⟩ := h
  refine q_newa X Y (k := 22) (t := 2) (n := 256) (ty := .boolean) rfl (by decide) rfl (fun _ _ => rfl) (by first | exact rfl | decide | simp [defaultValue]) ar_boolean (by decide) (by decide) (by decide) w271_ dX12_init_412 (fun b268_ H h269_ h270_ Y => ?_)
  replace h := h b268_ h269_
  replace hu := w271_
  replace k5_ := qs_R_keep (j := 22) (n := 256) h269_ k5_ (by decide)
  replace k6_ := qs_R_keep (j := 22) (n := 256) h269_ k6_ (by decide)
  replace k11_ := qs_R_keep (j := 22) (n := 256) h269_ k11_ (by decide)
  replace k17_ := qs_R_keep (j := 22) (n := 256) h269_ k17_ (by decide)
  replace k23_ := qs_R_keep (j := 22) (n := 256) h269_ k23_ (by decide)
  replace k29_ := qs_R_keep (j := 22) (n := 256) h269_ k29_ (by decide)
  replace k34_ := qs_R_keep (j := 22) (n := 256) h269_ k34_ (by decide)
  replace k40_ := qs_R_keep (j := 22) (n := 256) h269_ k40_ (by decide)
  replace k46_ := qs_R_keep (j := 22) (n := 256) h269_ k46_ (by decide)
  replace k51_ := qs_R_keep (j := 22) (n := 256) h269_ k51_ (by decide)
  replace k57_ := qs_R_keep (j := 22) (n := 256) h269_ k57_ (by decide)
  replace k63_ := qs_R_keep (j := 22) (n := 256) h269_ k63_ (by decide)
  replace k68_ := qs_R_keep (j := 22) (n := 256) h269_ k68_ (by decide)
  replace k74_ := qs_R_keep (j := 22) (n := 256) h269_ k74_ (by decide)
  replace k80_ := qs_R_keep (j := 22) (n := 256) h269_ k80_ (by decide)
  replace k85_ := qs_R_keep (j := 22) (n := 256) h269_ k85_ (by decide)
  replace k91_ := qs_R_keep (j := 22) (n := 256) h269_ k91_ (by decide)
  replace k97_ := qs_R_keep (j := 22) (n := 256) h269_ k97_ (by decide)
  replace k102_ := qs_R_keep (j := 22) (n := 256) h269_ k102_ (by decide)
  replace k108_ := qs_R_keep (j := 22) (n := 256) h269_ k108_ (by decide)
  replace k114_ := qs_R_keep (j := 22) (n := 256) h269_ k114_ (by decide)
  replace k119_ := qs_R_keep (j := 22) (n := 256) h269_ k119_ (by decide)
  replace k125_ := qs_R_keep (j := 22) (n := 256) h269_ k125_ (by decide)
  replace k131_ := qs_R_keep (j := 22) (n := 256) h269_ k131_ (by decide)
  replace k136_ := qs_R_keep (j := 22) (n := 256) h269_ k136_ (by decide)
  replace k142_ := qs_R_keep (j := 22) (n := 256) h269_ k142_ (by decide)
  replace k148_ := qs_R_keep (j := 22) (n := 256) h269_ k148_ (by decide)
  replace k153_ := qs_R_keep (j := 22) (n := 256) h269_ k153_ (by decide)
  replace k159_ := qs_R_keep (j := 22) (n := 256) h269_ k159_ (by decide)
  replace k165_ := qs_R_keep (j := 22) (n := 256) h269_ k165_ (by decide)
  replace k170_ := qs_R_keep (j := 22) (n := 256) h269_ k170_ (by decide)
  replace k176_ := qs_R_keep (j := 22) (n := 256) h269_ k176_ (by decide)
  replace k182_ := qs_R_keep (j := 22) (n := 256) h269_ k182_ (by decide)
  replace k187_ := qs_R_keep (j := 22) (n := 256) h269_ k187_ (by decide)
  replace k193_ := qs_R_keep (j := 22) (n := 256) h269_ k193_ (by decide)
  replace k199_ := qs_R_keep (j := 22) (n := 256) h269_ k199_ (by decide)
  replace k204_ := qs_R_keep (j := 22) (n := 256) h269_ k204_ (by decide)
  replace k210_ := qs_R_keep (j := 22) (n := 256) h269_ k210_ (by decide)
  replace k216_ := qs_R_keep (j := 22) (n := 256) h269_ k216_ (by decide)
  replace k221_ := qs_R_keep (j := 22) (n := 256) h269_ k221_ (by decide)
  replace k227_ := qs_R_keep (j := 22) (n := 256) h269_ k227_ (by decide)
  replace k233_ := qs_R_keep (j := 22) (n := 256) h269_ k233_ (by decide)
  replace k238_ := qs_R_keep (j := 22) (n := 256) h269_ k238_ (by decide)
  replace k244_ := qs_R_keep (j := 22) (n := 256) h269_ k244_ (by decide)
  replace k250_ := qs_R_keep (j := 22) (n := 256) h269_ k250_ (by decide)
  replace k255_ := qs_R_keep (j := 22) (n := 256) h269_ k255_ (by decide)
  replace k261_ := qs_R_keep (j := 22) (n := 256) h269_ k261_ (by decide)
  replace k267_ := qs_R_keep (j := 22) (n := 256) h269_ k267_ (by decide)
  have k272_ : q_K (qs_R (qs_P (qs_R S262_ 21 256 b263_) 2469 a0 (some b263_)) 22 256 b268_) b268_ = 22 := qs_R_Ks
  obtain ⟨S273_, gS273_⟩ : ∃ z : q_S, z = (qs_R (qs_P (qs_R S262_ 21 256 b263_) 2469 a0 (some b263_)) 22 256 b268_) := ⟨_, rfl⟩
  replace Y : q_Y D cy lo s S273_ H locs := by rw [gS273_]; exact Y
  replace h := h S273_ gS273_
  replace k5_ : q_K S273_ b1_ = 20 := by rw [gS273_]; exact k5_
  replace k6_ : q_K S273_ a0 = 13 := by rw [gS273_]; exact k6_
  replace k11_ : q_K S273_ b7_ = 20 := by rw [gS273_]; exact k11_
  replace k17_ : q_K S273_ b13_ = 20 := by rw [gS273_]; exact k17_
  replace k23_ : q_K S273_ b19_ = 21 := by rw [gS273_]; exact k23_
  replace k29_ : q_K S273_ b25_ = 21 := by rw [gS273_]; exact k29_
  replace k34_ : q_K S273_ b30_ = 21 := by rw [gS273_]; exact k34_
  replace k40_ : q_K S273_ b36_ = 21 := by rw [gS273_]; exact k40_
  replace k46_ : q_K S273_ b42_ = 21 := by rw [gS273_]; exact k46_
  replace k51_ : q_K S273_ b47_ = 21 := by rw [gS273_]; exact k51_
  replace k57_ : q_K S273_ b53_ = 21 := by rw [gS273_]; exact k57_
  replace k63_ : q_K S273_ b59_ = 21 := by rw [gS273_]; exact k63_
  replace k68_ : q_K S273_ b64_ = 21 := by rw [gS273_]; exact k68_
  replace k74_ : q_K S273_ b70_ = 21 := by rw [gS273_]; exact k74_
  replace k80_ : q_K S273_ b76_ = 21 := by rw [gS273_]; exact k80_
  replace k85_ : q_K S273_ b81_ = 21 := by rw [gS273_]; exact k85_
  replace k91_ : q_K S273_ b87_ = 21 := by rw [gS273_]; exact k91_
  replace k97_ : q_K S273_ b93_ = 21 := by rw [gS273_]; exact k97_
  replace k102_ : q_K S273_ b98_ = 21 := by rw [gS273_]; exact k102_
  replace k108_ : q_K S273_ b104_ = 21 := by rw [gS273_]; exact k108_
  replace k114_ : q_K S273_ b110_ = 21 := by rw [gS273_]; exact k114_
  replace k119_ : q_K S273_ b115_ = 21 := by rw [gS273_]; exact k119_
  replace k125_ : q_K S273_ b121_ = 22 := by rw [gS273_]; exact k125_
  replace k131_ : q_K S273_ b127_ = 21 := by rw [gS273_]; exact k131_
  replace k136_ : q_K S273_ b132_ = 21 := by rw [gS273_]; exact k136_
  replace k142_ : q_K S273_ b138_ = 21 := by rw [gS273_]; exact k142_
  replace k148_ : q_K S273_ b144_ = 22 := by rw [gS273_]; exact k148_
  replace k153_ : q_K S273_ b149_ = 21 := by rw [gS273_]; exact k153_
  replace k159_ : q_K S273_ b155_ = 22 := by rw [gS273_]; exact k159_
  replace k165_ : q_K S273_ b161_ = 22 := by rw [gS273_]; exact k165_
  replace k170_ : q_K S273_ b166_ = 22 := by rw [gS273_]; exact k170_
  replace k176_ : q_K S273_ b172_ = 21 := by rw [gS273_]; exact k176_
  replace k182_ : q_K S273_ b178_ = 22 := by rw [gS273_]; exact k182_
  replace k187_ : q_K S273_ b183_ = 21 := by rw [gS273_]; exact k187_
  replace k193_ : q_K S273_ b189_ = 22 := by rw [gS273_]; exact k193_
  replace k199_ : q_K S273_ b195_ = 21 := by rw [gS273_]; exact k199_
  replace k204_ : q_K S273_ b200_ = 22 := by rw [gS273_]; exact k204_
  replace k210_ : q_K S273_ b206_ = 21 := by rw [gS273_]; exact k210_
  replace k216_ : q_K S273_ b212_ = 21 := by rw [gS273_]; exact k216_
  replace k221_ : q_K S273_ b217_ = 21 := by rw [gS273_]; exact k221_
  replace k227_ : q_K S273_ b223_ = 21 := by rw [gS273_]; exact k227_
  replace k233_ : q_K S273_ b229_ = 21 := by rw [gS273_]; exact k233_
  replace k238_ : q_K S273_ b234_ = 21 := by rw [gS273_]; exact k238_
  replace k244_ : q_K S273_ b240_ = 20 := by rw [gS273_]; exact k244_
  replace k250_ : q_K S273_ b246_ = 20 := by rw [gS273_]; exact k250_
  replace k255_ : q_K S273_ b251_ = 21 := by rw [gS273_]; exact k255_
  replace k261_ : q_K S273_ b257_ = 21 := by rw [gS273_]; exact k261_
  replace k267_ : q_K S273_ b263_ = 21 := by rw [gS273_]; exact k267_
  replace k272_ : q_K S273_ b268_ = 22 := by rw [gS273_]; exact k272_
  refine q_putP X Y (some b268_) rfl kX12 70 rfl fl_X12_158 k6_ _ rfl (Or.inr ⟨_, rfl⟩) (Or.inr ⟨rfl, hnm, rfl⟩) dX12_init_414 (fun H locs Y => ?_)
  refine lv_aload_n hx hb dX12_init_417 rfl (lv_at hl 0 rfl) ?_
  refine lv_sipush (v := 256) hx hb dX12_init_418 (by decide) ?_
  obtain ⟨w277_, h⟩ := h
  refine q_newa X Y (k := 21) (t := 1) (n := 256) (ty := .int) rfl (by decide) rfl (fun _ _ => rfl) (by first | exact rfl | decide | simp [defaultValue]) ar_int (by decide) (by decide) (by decide) w277_ dX12_init_421 (fun b274_ H h275_ h276_ Y => ?_)
  replace h := h b274_ h275_
  replace hu := w277_
  replace k5_ := qs_R_keep (j := 21) (n := 256) h275_ k5_ (by decide)
  replace k6_ := qs_R_keep (j := 21) (n := 256) h275_ k6_ (by decide)
  replace k11_ := qs_R_keep (j := 21) (n := 256) h275_ k11_ (by decide)
  replace k17_ := qs_R_keep (j := 21) (n := 256) h275_ k17_ (by decide)
  replace k23_ := qs_R_keep (j := 21) (n := 256) h275_ k23_ (by decide)
  replace k29_ := qs_R_keep (j := 21) (n := 256) h275_ k29_ (by decide)
  replace k34_ := qs_R_keep (j := 21) (n := 256) h275_ k34_ (by decide)
  replace k40_ := qs_R_keep (j := 21) (n := 256) h275_ k40_ (by decide)
  replace k46_ := qs_R_keep (j := 21) (n := 256) h275_ k46_ (by decide)
  replace k51_ := qs_R_keep (j := 21) (n := 256) h275_ k51_ (by decide)
  replace k57_ := qs_R_keep (j := 21) (n := 256) h275_ k57_ (by decide)
  replace k63_ := qs_R_keep (j := 21) (n := 256) h275_ k63_ (by decide)
  replace k68_ := qs_R_keep (j := 21) (n := 256) h275_ k68_ (by decide)
  replace k74_ := qs_R_keep (j := 21) (n := 256) h275_ k74_ (by decide)
  replace k80_ := qs_R_keep (j := 21) (n := 256) h275_ k80_ (by decide)
  replace k85_ := qs_R_keep (j := 21) (n := 256) h275_ k85_ (by decide)
  replace k91_ := qs_R_keep (j := 21) (n := 256) h275_ k91_ (by decide)
  replace k97_ := qs_R_keep (j := 21) (n := 256) h275_ k97_ (by decide)
  replace k102_ := qs_R_keep (j := 21) (n := 256) h275_ k102_ (by decide)
  replace k108_ := qs_R_keep (j := 21) (n := 256) h275_ k108_ (by decide)
  replace k114_ := qs_R_keep (j := 21) (n := 256) h275_ k114_ (by decide)
  replace k119_ := qs_R_keep (j := 21) (n := 256) h275_ k119_ (by decide)
  replace k125_ := qs_R_keep (j := 21) (n := 256) h275_ k125_ (by decide)
  replace k131_ := qs_R_keep (j := 21) (n := 256) h275_ k131_ (by decide)
  replace k136_ := qs_R_keep (j := 21) (n := 256) h275_ k136_ (by decide)
  replace k142_ := qs_R_keep (j := 21) (n := 256) h275_ k142_ (by decide)
  replace k148_ := qs_R_keep (j := 21) (n := 256) h275_ k148_ (by decide)
  replace k153_ := qs_R_keep (j := 21) (n := 256) h275_ k153_ (by decide)
  replace k159_ := qs_R_keep (j := 21) (n := 256) h275_ k159_ (by decide)
  replace k165_ := qs_R_keep (j := 21) (n := 256) h275_ k165_ (by decide)
  replace k170_ := qs_R_keep (j := 21) (n := 256) h275_ k170_ (by decide)
  replace k176_ := qs_R_keep (j := 21) (n := 256) h275_ k176_ (by decide)
  replace k182_ := qs_R_keep (j := 21) (n := 256) h275_ k182_ (by decide)
  replace k187_ := qs_R_keep (j := 21) (n := 256) h275_ k187_ (by decide)
  replace k193_ := qs_R_keep (j := 21) (n := 256) h275_ k193_ (by decide)
  replace k199_ := qs_R_keep (j := 21) (n := 256) h275_ k199_ (by decide)
  replace k204_ := qs_R_keep (j := 21) (n := 256) h275_ k204_ (by decide)
  replace k210_ := qs_R_keep (j := 21) (n := 256) h275_ k210_ (by decide)
  replace k216_ := qs_R_keep (j := 21) (n := 256) h275_ k216_ (by decide)
  replace k221_ := qs_R_keep (j := 21) (n := 256) h275_ k221_ (by decide)
  replace k227_ := qs_R_keep (j := 21) (n := 256) h275_ k227_ (by decide)
  replace k233_ := qs_R_keep (j := 21) (n := 256) h275_ k233_ (by decide)
  replace k238_ := qs_R_keep (j := 21) (n := 256) h275_ k238_ (by decide)
  replace k244_ := qs_R_keep (j := 21) (n := 256) h275_ k244_ (by decide)
  replace k250_ := qs_R_keep (j := 21) (n := 256) h275_ k250_ (by decide)
  replace k255_ := qs_R_keep (j := 21) (n := 256) h275_ k255_ (by decide)
  replace k261_ := qs_R_keep (j := 21) (n := 256) h275_ k261_ (by decide)
  replace k267_ := qs_R_keep (j := 21) (n := 256) h275_ k267_ (by decide)
  replace k272_ := qs_R_keep (j := 21) (n := 256) h275_ k272_ (by decide)
  have k278_ : q_K (qs_R (qs_P S273_ 2470 a0 (some b268_)) 21 256 b274_) b274_ = 21 := qs_R_Ks
  refine q_putP X Y (some b274_) rfl kX12 71 rfl fl_X12_161 k6_ _ rfl (Or.inr ⟨_, rfl⟩) (Or.inr ⟨rfl, hnm, rfl⟩) dX12_init_423 (fun H locs Y => ?_)
  obtain ⟨S279_, gS279_⟩ : ∃ z : q_S, z = (qs_P (qs_R (qs_P S273_ 2470 a0 (some b268_)) 21 256 b274_) 2471 a0 (some b274_)) := ⟨_, rfl⟩
  replace Y : q_Y D cy lo s S279_ H locs := by rw [gS279_]; exact Y
  replace h := h S279_ gS279_
  replace k5_ : q_K S279_ b1_ = 20 := by rw [gS279_]; exact k5_
  replace k6_ : q_K S279_ a0 = 13 := by rw [gS279_]; exact k6_
  replace k11_ : q_K S279_ b7_ = 20 := by rw [gS279_]; exact k11_
  replace k17_ : q_K S279_ b13_ = 20 := by rw [gS279_]; exact k17_
  replace k23_ : q_K S279_ b19_ = 21 := by rw [gS279_]; exact k23_
  replace k29_ : q_K S279_ b25_ = 21 := by rw [gS279_]; exact k29_
  replace k34_ : q_K S279_ b30_ = 21 := by rw [gS279_]; exact k34_
  replace k40_ : q_K S279_ b36_ = 21 := by rw [gS279_]; exact k40_
  replace k46_ : q_K S279_ b42_ = 21 := by rw [gS279_]; exact k46_
  replace k51_ : q_K S279_ b47_ = 21 := by rw [gS279_]; exact k51_
  replace k57_ : q_K S279_ b53_ = 21 := by rw [gS279_]; exact k57_
  replace k63_ : q_K S279_ b59_ = 21 := by rw [gS279_]; exact k63_
  replace k68_ : q_K S279_ b64_ = 21 := by rw [gS279_]; exact k68_
  replace k74_ : q_K S279_ b70_ = 21 := by rw [gS279_]; exact k74_
  replace k80_ : q_K S279_ b76_ = 21 := by rw [gS279_]; exact k80_
  replace k85_ : q_K S279_ b81_ = 21 := by rw [gS279_]; exact k85_
  replace k91_ : q_K S279_ b87_ = 21 := by rw [gS279_]; exact k91_
  replace k97_ : q_K S279_ b93_ = 21 := by rw [gS279_]; exact k97_
  replace k102_ : q_K S279_ b98_ = 21 := by rw [gS279_]; exact k102_
  replace k108_ : q_K S279_ b104_ = 21 := by rw [gS279_]; exact k108_
  replace k114_ : q_K S279_ b110_ = 21 := by rw [gS279_]; exact k114_
  replace k119_ : q_K S279_ b115_ = 21 := by rw [gS279_]; exact k119_
  replace k125_ : q_K S279_ b121_ = 22 := by rw [gS279_]; exact k125_
  replace k131_ : q_K S279_ b127_ = 21 := by rw [gS279_]; exact k131_
  replace k136_ : q_K S279_ b132_ = 21 := by rw [gS279_]; exact k136_
  replace k142_ : q_K S279_ b138_ = 21 := by rw [gS279_]; exact k142_
  replace k148_ : q_K S279_ b144_ = 22 := by rw [gS279_]; exact k148_
  replace k153_ : q_K S279_ b149_ = 21 := by rw [gS279_]; exact k153_
  replace k159_ : q_K S279_ b155_ = 22 := by rw [gS279_]; exact k159_
  replace k165_ : q_K S279_ b161_ = 22 := by rw [gS279_]; exact k165_
  replace k170_ : q_K S279_ b166_ = 22 := by rw [gS279_]; exact k170_
  replace k176_ : q_K S279_ b172_ = 21 := by rw [gS279_]; exact k176_
  replace k182_ : q_K S279_ b178_ = 22 := by rw [gS279_]; exact k182_
  replace k187_ : q_K S279_ b183_ = 21 := by rw [gS279_]; exact k187_
  replace k193_ : q_K S279_ b189_ = 22 := by rw [gS279_]; exact k193_
  replace k199_ : q_K S279_ b195_ = 21 := by rw [gS279_]; exact k199_
  replace k204_ : q_K S279_ b200_ = 22 := by rw [gS279_]; exact k204_
  replace k210_ : q_K S279_ b206_ = 21 := by rw [gS279_]; exact k210_
  replace k216_ : q_K S279_ b212_ = 21 := by rw [gS279_]; exact k216_
  replace k221_ : q_K S279_ b217_ = 21 := by rw [gS279_]; exact k221_
  replace k227_ : q_K S279_ b223_ = 21 := by rw [gS279_]; exact k227_
  replace k233_ : q_K S279_ b229_ = 21 := by rw [gS279_]; exact k233_
  replace k238_ : q_K S279_ b234_ = 21 := by rw [gS279_]; exact k238_
  replace k244_ : q_K S279_ b240_ = 20 := by rw [gS279_]; exact k244_
  replace k250_ : q_K S279_ b246_ = 20 := by rw [gS279_]; exact k250_
  replace k255_ : q_K S279_ b251_ = 21 := by rw [gS279_]; exact k255_
  replace k261_ : q_K S279_ b257_ = 21 := by rw [gS279_]; exact k261_
  replace k267_ : q_K S279_ b263_ = 21 := by rw [gS279_]; exact k267_
  replace k272_ : q_K S279_ b268_ = 22 := by rw [gS279_]; exact k272_
  replace k278_ : q_K S279_ b274_ = 21 := by rw [gS279_]; exact k278_
  refine lv_aload_n hx hb dX12_init_426 rfl (lv_at hl 0 rfl) ?_
  refine lv_sipush (v := 256) hx hb dX12_init_427 (by decide) ?_
  obtain ⟨w283_, h⟩ := h
  refine q_newa X Y (k := 21) (t := 1) (n := 256) (ty := .int) rfl (by decide) rfl (fun _ _ => rfl) (by first | exact rfl | decide | simp [defaultValue]) ar_int (by decide) (by decide) (by decide) w283_ dX12_init_430 (fun b280_ H h281_ h282_ Y => ?_)
  replace h := h b280_ h281_
  replace hu := w283_
  replace k5_ := qs_R_keep (j := 21) (n := 256) h281_ k5_ (by decide)
  replace k6_ := qs_R_keep (j := 21) (n := 256) h281_ k6_ (by decide)
  replace k11_ := qs_R_keep (j := 21) (n := 256) h281_ k11_ (by decide)
  replace k17_ := qs_R_keep (j := 21) (n := 256) h281_ k17_ (by decide)
  replace k23_ := qs_R_keep (j := 21) (n := 256) h281_ k23_ (by decide)
  replace k29_ := qs_R_keep (j := 21) (n := 256) h281_ k29_ (by decide)
  replace k34_ := qs_R_keep (j := 21) (n := 256) h281_ k34_ (by decide)
  replace k40_ := qs_R_keep (j := 21) (n := 256) h281_ k40_ (by decide)
  replace k46_ := qs_R_keep (j := 21) (n := 256) h281_ k46_ (by decide)
  replace k51_ := qs_R_keep (j := 21) (n := 256) h281_ k51_ (by decide)
  replace k57_ := qs_R_keep (j := 21) (n := 256) h281_ k57_ (by decide)
  replace k63_ := qs_R_keep (j := 21) (n := 256) h281_ k63_ (by decide)
  replace k68_ := qs_R_keep (j := 21) (n := 256) h281_ k68_ (by decide)
  replace k74_ := qs_R_keep (j := 21) (n := 256) h281_ k74_ (by decide)
  replace k80_ := qs_R_keep (j := 21) (n := 256) h281_ k80_ (by decide)
  replace k85_ := qs_R_keep (j := 21) (n := 256) h281_ k85_ (by decide)
  replace k91_ := qs_R_keep (j := 21) (n := 256) h281_ k91_ (by decide)
  replace k97_ := qs_R_keep (j := 21) (n := 256) h281_ k97_ (by decide)
  replace k102_ := qs_R_keep (j := 21) (n := 256) h281_ k102_ (by decide)
  replace k108_ := qs_R_keep (j := 21) (n := 256) h281_ k108_ (by decide)
  replace k114_ := qs_R_keep (j := 21) (n := 256) h281_ k114_ (by decide)
  replace k119_ := qs_R_keep (j := 21) (n := 256) h281_ k119_ (by decide)
  replace k125_ := qs_R_keep (j := 21) (n := 256) h281_ k125_ (by decide)
  replace k131_ := qs_R_keep (j := 21) (n := 256) h281_ k131_ (by decide)
  replace k136_ := qs_R_keep (j := 21) (n := 256) h281_ k136_ (by decide)
  replace k142_ := qs_R_keep (j := 21) (n := 256) h281_ k142_ (by decide)
  replace k148_ := qs_R_keep (j := 21) (n := 256) h281_ k148_ (by decide)
  replace k153_ := qs_R_keep (j := 21) (n := 256) h281_ k153_ (by decide)
  replace k159_ := qs_R_keep (j := 21) (n := 256) h281_ k159_ (by decide)
  replace k165_ := qs_R_keep (j := 21) (n := 256) h281_ k165_ (by decide)
  replace k170_ := qs_R_keep (j := 21) (n := 256) h281_ k170_ (by decide)
  replace k176_ := qs_R_keep (j := 21) (n := 256) h281_ k176_ (by decide)
  replace k182_ := qs_R_keep (j := 21) (n := 256) h281_ k182_ (by decide)
  replace k187_ := qs_R_keep (j := 21) (n := 256) h281_ k187_ (by decide)
  replace k193_ := qs_R_keep (j := 21) (n := 256) h281_ k193_ (by decide)
  replace k199_ := qs_R_keep (j := 21) (n := 256) h281_ k199_ (by decide)
  replace k204_ := qs_R_keep (j := 21) (n := 256) h281_ k204_ (by decide)
  replace k210_ := qs_R_keep (j := 21) (n := 256) h281_ k210_ (by decide)
  replace k216_ := qs_R_keep (j := 21) (n := 256) h281_ k216_ (by decide)
  replace k221_ := qs_R_keep (j := 21) (n := 256) h281_ k221_ (by decide)
  replace k227_ := qs_R_keep (j := 21) (n := 256) h281_ k227_ (by decide)
  replace k233_ := qs_R_keep (j := 21) (n := 256) h281_ k233_ (by decide)
  replace k238_ := qs_R_keep (j := 21) (n := 256) h281_ k238_ (by decide)
  replace k244_ := qs_R_keep (j := 21) (n := 256) h281_ k244_ (by decide)
  replace k250_ := qs_R_keep (j := 21) (n := 256) h281_ k250_ (by decide)
  replace k255_ := qs_R_keep (j := 21) (n := 256) h281_ k255_ (by decide)
  replace k261_ := qs_R_keep (j := 21) (n := 256) h281_ k261_ (by decide)
  replace k267_ := qs_R_keep (j := 21) (n := 256) h281_ k267_ (by decide)
  replace k272_ := qs_R_keep (j := 21) (n := 256) h281_ k272_ (by decide)
  replace k278_ := qs_R_keep (j := 21) (n := 256) h281_ k278_ (by decide)
  have k284_ : q_K (qs_R S279_ 21 256 b280_) b280_ = 21 := qs_R_Ks
  refine q_putP X Y (some b280_) rfl kX12 72 rfl fl_X12_164 k6_ _ rfl (Or.inr ⟨_, rfl⟩) (Or.inr ⟨rfl, hnm, rfl⟩) dX12_init_432 (fun H locs Y => ?_)
  refine lv_aload_n hx hb dX12_init_435 rfl (lv_at hl 0 rfl) ?_
  refine lv_sipush (v := 256) hx hb dX12_init_436 (by decide) ?_
  obtain ⟨w288_, h⟩ := h
  refine q_newa X Y (k := 21) (t := 1) (n := 256) (ty := .int) rfl (by decide) rfl (fun _ _ => rfl) (by first | exact rfl | decide | simp [defaultValue]) ar_int (by decide) (by decide) (by decide) w288_ dX12_init_439 (fun b285_ H h286_ h287_ Y => ?_)
  replace h := h b285_ h286_
  replace hu := w288_
  replace k5_ := qs_R_keep (j := 21) (n := 256) h286_ k5_ (by decide)
  replace k6_ := qs_R_keep (j := 21) (n := 256) h286_ k6_ (by decide)
  replace k11_ := qs_R_keep (j := 21) (n := 256) h286_ k11_ (by decide)
  replace k17_ := qs_R_keep (j := 21) (n := 256) h286_ k17_ (by decide)
  replace k23_ := qs_R_keep (j := 21) (n := 256) h286_ k23_ (by decide)
  replace k29_ := qs_R_keep (j := 21) (n := 256) h286_ k29_ (by decide)
  replace k34_ := qs_R_keep (j := 21) (n := 256) h286_ k34_ (by decide)
  replace k40_ := qs_R_keep (j := 21) (n := 256) h286_ k40_ (by decide)
  replace k46_ := qs_R_keep (j := 21) (n := 256) h286_ k46_ (by decide)
  replace k51_ := qs_R_keep (j := 21) (n := 256) h286_ k51_ (by decide)
  replace k57_ := qs_R_keep (j := 21) (n := 256) h286_ k57_ (by decide)
  replace k63_ := qs_R_keep (j := 21) (n := 256) h286_ k63_ (by decide)
  replace k68_ := qs_R_keep (j := 21) (n := 256) h286_ k68_ (by decide)
  replace k74_ := qs_R_keep (j := 21) (n := 256) h286_ k74_ (by decide)
  replace k80_ := qs_R_keep (j := 21) (n := 256) h286_ k80_ (by decide)
  replace k85_ := qs_R_keep (j := 21) (n := 256) h286_ k85_ (by decide)
  replace k91_ := qs_R_keep (j := 21) (n := 256) h286_ k91_ (by decide)
  replace k97_ := qs_R_keep (j := 21) (n := 256) h286_ k97_ (by decide)
  replace k102_ := qs_R_keep (j := 21) (n := 256) h286_ k102_ (by decide)
  replace k108_ := qs_R_keep (j := 21) (n := 256) h286_ k108_ (by decide)
  replace k114_ := qs_R_keep (j := 21) (n := 256) h286_ k114_ (by decide)
  replace k119_ := qs_R_keep (j := 21) (n := 256) h286_ k119_ (by decide)
  replace k125_ := qs_R_keep (j := 21) (n := 256) h286_ k125_ (by decide)
  replace k131_ := qs_R_keep (j := 21) (n := 256) h286_ k131_ (by decide)
  replace k136_ := qs_R_keep (j := 21) (n := 256) h286_ k136_ (by decide)
  replace k142_ := qs_R_keep (j := 21) (n := 256) h286_ k142_ (by decide)
  replace k148_ := qs_R_keep (j := 21) (n := 256) h286_ k148_ (by decide)
  replace k153_ := qs_R_keep (j := 21) (n := 256) h286_ k153_ (by decide)
  replace k159_ := qs_R_keep (j := 21) (n := 256) h286_ k159_ (by decide)
  replace k165_ := qs_R_keep (j := 21) (n := 256) h286_ k165_ (by decide)
  replace k170_ := qs_R_keep (j := 21) (n := 256) h286_ k170_ (by decide)
  replace k176_ := qs_R_keep (j := 21) (n := 256) h286_ k176_ (by decide)
  replace k182_ := qs_R_keep (j := 21) (n := 256) h286_ k182_ (by decide)
  replace k187_ := qs_R_keep (j := 21) (n := 256) h286_ k187_ (by decide)
  replace k193_ := qs_R_keep (j := 21) (n := 256) h286_ k193_ (by decide)
  replace k199_ := qs_R_keep (j := 21) (n := 256) h286_ k199_ (by decide)
  replace k204_ := qs_R_keep (j := 21) (n := 256) h286_ k204_ (by decide)
  replace k210_ := qs_R_keep (j := 21) (n := 256) h286_ k210_ (by decide)
  replace k216_ := qs_R_keep (j := 21) (n := 256) h286_ k216_ (by decide)
  replace k221_ := qs_R_keep (j := 21) (n := 256) h286_ k221_ (by decide)
  replace k227_ := qs_R_keep (j := 21) (n := 256) h286_ k227_ (by decide)
  replace k233_ := qs_R_keep (j := 21) (n := 256) h286_ k233_ (by decide)
  replace k238_ := qs_R_keep (j := 21) (n := 256) h286_ k238_ (by decide)
  replace k244_ := qs_R_keep (j := 21) (n := 256) h286_ k244_ (by decide)
  replace k250_ := qs_R_keep (j := 21) (n := 256) h286_ k250_ (by decide)
  replace k255_ := qs_R_keep (j := 21) (n := 256) h286_ k255_ (by decide)
  replace k261_ := qs_R_keep (j := 21) (n := 256) h286_ k261_ (by decide)
  replace k267_ := qs_R_keep (j := 21) (n := 256) h286_ k267_ (by decide)
  replace k272_ := qs_R_keep (j := 21) (n := 256) h286_ k272_ (by decide)
  replace k278_ := qs_R_keep (j := 21) (n := 256) h286_ k278_ (by decide)
  replace k284_ := qs_R_keep (j := 21) (n := 256) h286_ k284_ (by decide)
  have k289_ : q_K (qs_R (qs_P (qs_R S279_ 21 256 b280_) 2472 a0 (some b280_)) 21 256 b285_) b285_ = 21 := qs_R_Ks
  obtain ⟨S290_, gS290_⟩ : ∃ z : q_S, z = (qs_R (qs_P (qs_R S279_ 21 256 b280_) 2472 a0 (some b280_)) 21 256 b285_) := ⟨_, rfl⟩
  replace Y : q_Y D cy lo s S290_ H locs := by rw [gS290_]; exact Y
  replace h := h S290_ gS290_
  replace k5_ : q_K S290_ b1_ = 20 := by rw [gS290_]; exact k5_
  replace k6_ : q_K S290_ a0 = 13 := by rw [gS290_]; exact k6_
  replace k11_ : q_K S290_ b7_ = 20 := by rw [gS290_]; exact k11_
  replace k17_ : q_K S290_ b13_ = 20 := by rw [gS290_]; exact k17_
  replace k23_ : q_K S290_ b19_ = 21 := by rw [gS290_]; exact k23_
  replace k29_ : q_K S290_ b25_ = 21 := by rw [gS290_]; exact k29_
  replace k34_ : q_K S290_ b30_ = 21 := by rw [gS290_]; exact k34_
  replace k40_ : q_K S290_ b36_ = 21 := by rw [gS290_]; exact k40_
  replace k46_ : q_K S290_ b42_ = 21 := by rw [gS290_]; exact k46_
  replace k51_ : q_K S290_ b47_ = 21 := by rw [gS290_]; exact k51_
  replace k57_ : q_K S290_ b53_ = 21 := by rw [gS290_]; exact k57_
  replace k63_ : q_K S290_ b59_ = 21 := by rw [gS290_]; exact k63_
  replace k68_ : q_K S290_ b64_ = 21 := by rw [gS290_]; exact k68_
  replace k74_ : q_K S290_ b70_ = 21 := by rw [gS290_]; exact k74_
  replace k80_ : q_K S290_ b76_ = 21 := by rw [gS290_]; exact k80_
  replace k85_ : q_K S290_ b81_ = 21 := by rw [gS290_]; exact k85_
  replace k91_ : q_K S290_ b87_ = 21 := by rw [gS290_]; exact k91_
  replace k97_ : q_K S290_ b93_ = 21 := by rw [gS290_]; exact k97_
  replace k102_ : q_K S290_ b98_ = 21 := by rw [gS290_]; exact k102_
  replace k108_ : q_K S290_ b104_ = 21 := by rw [gS290_]; exact k108_
  replace k114_ : q_K S290_ b110_ = 21 := by rw [gS290_]; exact k114_
  replace k119_ : q_K S290_ b115_ = 21 := by rw [gS290_]; exact k119_
  replace k125_ : q_K S290_ b121_ = 22 := by rw [gS290_]; exact k125_
  replace k131_ : q_K S290_ b127_ = 21 := by rw [gS290_]; exact k131_
  replace k136_ : q_K S290_ b132_ = 21 := by rw [gS290_]; exact k136_
  replace k142_ : q_K S290_ b138_ = 21 := by rw [gS290_]; exact k142_
  replace k148_ : q_K S290_ b144_ = 22 := by rw [gS290_]; exact k148_
  replace k153_ : q_K S290_ b149_ = 21 := by rw [gS290_]; exact k153_
  replace k159_ : q_K S290_ b155_ = 22 := by rw [gS290_]; exact k159_
  replace k165_ : q_K S290_ b161_ = 22 := by rw [gS290_]; exact k165_
  replace k170_ : q_K S290_ b166_ = 22 := by rw [gS290_]; exact k170_
  replace k176_ : q_K S290_ b172_ = 21 := by rw [gS290_]; exact k176_
  replace k182_ : q_K S290_ b178_ = 22 := by rw [gS290_]; exact k182_
  replace k187_ : q_K S290_ b183_ = 21 := by rw [gS290_]; exact k187_
  replace k193_ : q_K S290_ b189_ = 22 := by rw [gS290_]; exact k193_
  replace k199_ : q_K S290_ b195_ = 21 := by rw [gS290_]; exact k199_
  replace k204_ : q_K S290_ b200_ = 22 := by rw [gS290_]; exact k204_
  replace k210_ : q_K S290_ b206_ = 21 := by rw [gS290_]; exact k210_
  replace k216_ : q_K S290_ b212_ = 21 := by rw [gS290_]; exact k216_
  replace k221_ : q_K S290_ b217_ = 21 := by rw [gS290_]; exact k221_
  replace k227_ : q_K S290_ b223_ = 21 := by rw [gS290_]; exact k227_
  replace k233_ : q_K S290_ b229_ = 21 := by rw [gS290_]; exact k233_
  replace k238_ : q_K S290_ b234_ = 21 := by rw [gS290_]; exact k238_
  replace k244_ : q_K S290_ b240_ = 20 := by rw [gS290_]; exact k244_
  replace k250_ : q_K S290_ b246_ = 20 := by rw [gS290_]; exact k250_
  replace k255_ : q_K S290_ b251_ = 21 := by rw [gS290_]; exact k255_
  replace k261_ : q_K S290_ b257_ = 21 := by rw [gS290_]; exact k261_
  replace k267_ : q_K S290_ b263_ = 21 := by rw [gS290_]; exact k267_
  replace k272_ : q_K S290_ b268_ = 22 := by rw [gS290_]; exact k272_
  replace k278_ : q_K S290_ b274_ = 21 := by rw [gS290_]; exact k278_
  replace k284_ : q_K S290_ b280_ = 21 := by rw [gS290_]; exact k284_
  replace k289_ : q_K S290_ b285_ = 21 := by rw [gS290_]; exact k289_
  refine q_putP X Y (some b285_) rfl kX12 73 rfl fl_X12_167 k6_ _ rfl (Or.inr ⟨_, rfl⟩) (Or.inr ⟨rfl, hnm, rfl⟩) dX12_init_441 (fun H locs Y => ?_)
  refine lv_aload_n hx hb dX12_init_444 rfl (lv_at hl 0 rfl) ?_
  refine lv_sipush (v := 256) hx hb dX12_init_445 (by decide) ?_
  obtain ⟨w294_, h⟩ := h
  refine q_newa X Y (k := 21) (t := 1) (n := 256) (ty := .int) rfl (by decide) rfl (fun _ _ => rfl) (by first | exact rfl | decide | simp [defaultValue]) ar_int (by decide) (by decide) (by decide) w294_ dX12_init_448 (fun b291_ H h292_ h293_ Y => ?_)
  replace h := h b291_ h292_
  replace hu := w294_
  replace k5_ := qs_R_keep (j := 21) (n := 256) h292_ k5_ (by decide)
  replace k6_ := qs_R_keep (j := 21) (n := 256) h292_ k6_ (by decide)
  replace k11_ := qs_R_keep (j := 21) (n := 256) h292_ k11_ (by decide)
  replace k17_ := qs_R_keep (j := 21) (n := 256) h292_ k17_ (by decide)
  replace k23_ := qs_R_keep (j := 21) (n := 256) h292_ k23_ (by decide)
  replace k29_ := qs_R_keep (j := 21) (n := 256) h292_ k29_ (by decide)
  replace k34_ := qs_R_keep (j := 21) (n := 256) h292_ k34_ (by decide)
  replace k40_ := qs_R_keep (j := 21) (n := 256) h292_ k40_ (by decide)
  replace k46_ := qs_R_keep (j := 21) (n := 256) h292_ k46_ (by decide)
  replace k51_ := qs_R_keep (j := 21) (n := 256) h292_ k51_ (by decide)
  replace k57_ := qs_R_keep (j := 21) (n := 256) h292_ k57_ (by decide)
  replace k63_ := qs_R_keep (j := 21) (n := 256) h292_ k63_ (by decide)
  replace k68_ := qs_R_keep (j := 21) (n := 256) h292_ k68_ (by decide)
  replace k74_ := qs_R_keep (j := 21) (n := 256) h292_ k74_ (by decide)
  replace k80_ := qs_R_keep (j := 21) (n := 256) h292_ k80_ (by decide)
  replace k85_ := qs_R_keep (j := 21) (n := 256) h292_ k85_ (by decide)
  replace k91_ := qs_R_keep (j := 21) (n := 256) h292_ k91_ (by decide)
  replace k97_ := qs_R_keep (j := 21) (n := 256) h292_ k97_ (by decide)
  replace k102_ := qs_R_keep (j := 21) (n := 256) h292_ k102_ (by decide)
  replace k108_ := qs_R_keep (j := 21) (n := 256) h292_ k108_ (by decide)
  replace k114_ := qs_R_keep (j := 21) (n := 256) h292_ k114_ (by decide)
  replace k119_ := qs_R_keep (j := 21) (n := 256) h292_ k119_ (by decide)
  replace k125_ := qs_R_keep (j := 21) (n := 256) h292_ k125_ (by decide)
  replace k131_ := qs_R_keep (j := 21) (n := 256) h292_ k131_ (by decide)
  replace k136_ := qs_R_keep (j := 21) (n := 256) h292_ k136_ (by decide)
  replace k142_ := qs_R_keep (j := 21) (n := 256) h292_ k142_ (by decide)
  replace k148_ := qs_R_keep (j := 21) (n := 256) h292_ k148_ (by decide)
  replace k153_ := qs_R_keep (j := 21) (n := 256) h292_ k153_ (by decide)
  replace k159_ := qs_R_keep (j := 21) (n := 256) h292_ k159_ (by decide)
  replace k165_ := qs_R_keep (j := 21) (n := 256) h292_ k165_ (by decide)
  replace k170_ := qs_R_keep (j := 21) (n := 256) h292_ k170_ (by decide)
  replace k176_ := qs_R_keep (j := 21) (n := 256) h292_ k176_ (by decide)
  replace k182_ := qs_R_keep (j := 21) (n := 256) h292_ k182_ (by decide)
  replace k187_ := qs_R_keep (j := 21) (n := 256) h292_ k187_ (by decide)
  replace k193_ := qs_R_keep (j := 21) (n := 256) h292_ k193_ (by decide)
  replace k199_ := qs_R_keep (j := 21) (n := 256) h292_ k199_ (by decide)
  replace k204_ := qs_R_keep (j := 21) (n := 256) h292_ k204_ (by decide)
  replace k210_ := qs_R_keep (j := 21) (n := 256) h292_ k210_ (by decide)
  replace k216_ := qs_R_keep (j := 21) (n := 256) h292_ k216_ (by decide)
  replace k221_ := qs_R_keep (j := 21) (n := 256) h292_ k221_ (by decide)
  replace k227_ := qs_R_keep (j := 21) (n := 256) h292_ k227_ (by decide)
  replace k233_ := qs_R_keep (j := 21) (n := 256) h292_ k233_ (by decide)
  replace k238_ := qs_R_keep (j := 21) (n := 256) h292_ k238_ (by decide)
  replace k244_ := qs_R_keep (j := 21) (n := 256) h292_ k244_ (by decide)
  replace k250_ := qs_R_keep (j := 21) (n := 256) h292_ k250_ (by decide)
  replace k255_ := qs_R_keep (j := 21) (n := 256) h292_ k255_ (by decide)
  replace k261_ := qs_R_keep (j := 21) (n := 256) h292_ k261_ (by decide)
  replace k267_ := qs_R_keep (j := 21) (n := 256) h292_ k267_ (by decide)
  replace k272_ := qs_R_keep (j := 21) (n := 256) h292_ k272_ (by decide)
  replace k278_ := qs_R_keep (j := 21) (n := 256) h292_ k278_ (by decide)
  replace k284_ := qs_R_keep (j := 21) (n := 256) h292_ k284_ (by decide)
  replace k289_ := qs_R_keep (j := 21) (n := 256) h292_ k289_ (by decide)
  have k295_ : q_K (qs_R (qs_P S290_ 2473 a0 (some b285_)) 21 256 b291_) b291_ = 21 := qs_R_Ks
  refine q_putP X Y (some b291_) rfl kX12 74 rfl fl_X12_170 k6_ _ rfl (Or.inr ⟨_, rfl⟩) (Or.inr ⟨rfl, hnm, rfl⟩) dX12_init_450 (fun H locs Y => ?_)
  obtain ⟨S296_, gS296_⟩ : ∃ z : q_S, z = (qs_P (qs_R (qs_P S290_ 2473 a0 (some b285_)) 21 256 b291_) 2474 a0 (some b291_)) := ⟨_, rfl⟩
  replace Y : q_Y D cy lo s S296_ H locs := by rw [gS296_]; exact Y
  replace h := h S296_ gS296_
  replace k5_ : q_K S296_ b1_ = 20 := by rw [gS296_]; exact k5_
  replace k6_ : q_K S296_ a0 = 13 := by rw [gS296_]; exact k6_
  replace k11_ : q_K S296_ b7_ = 20 := by rw [gS296_]; exact k11_
  replace k17_ : q_K S296_ b13_ = 20 := by rw [gS296_]; exact k17_
  replace k23_ : q_K S296_ b19_ = 21 := by rw [gS296_]; exact k23_
  replace k29_ : q_K S296_ b25_ = 21 := by rw [gS296_]; exact k29_
  replace k34_ : q_K S296_ b30_ = 21 := by rw [gS296_]; exact k34_
  replace k40_ : q_K S296_ b36_ = 21 := by rw [gS296_]; exact k40_
  replace k46_ : q_K S296_ b42_ = 21 := by rw [gS296_]; exact k46_
  replace k51_ : q_K S296_ b47_ = 21 := by rw [gS296_]; exact k51_
  replace k57_ : q_K S296_ b53_ = 21 := by rw [gS296_]; exact k57_
  replace k63_ : q_K S296_ b59_ = 21 := by rw [gS296_]; exact k63_
  replace k68_ : q_K S296_ b64_ = 21 := by rw [gS296_]; exact k68_
  replace k74_ : q_K S296_ b70_ = 21 := by rw [gS296_]; exact k74_
  replace k80_ : q_K S296_ b76_ = 21 := by rw [gS296_]; exact k80_
  replace k85_ : q_K S296_ b81_ = 21 := by rw [gS296_]; exact k85_
  replace k91_ : q_K S296_ b87_ = 21 := by rw [gS296_]; exact k91_
  replace k97_ : q_K S296_ b93_ = 21 := by rw [gS296_]; exact k97_
  replace k102_ : q_K S296_ b98_ = 21 := by rw [gS296_]; exact k102_
  replace k108_ : q_K S296_ b104_ = 21 := by rw [gS296_]; exact k108_
  replace k114_ : q_K S296_ b110_ = 21 := by rw [gS296_]; exact k114_
  replace k119_ : q_K S296_ b115_ = 21 := by rw [gS296_]; exact k119_
  replace k125_ : q_K S296_ b121_ = 22 := by rw [gS296_]; exact k125_
  replace k131_ : q_K S296_ b127_ = 21 := by rw [gS296_]; exact k131_
  replace k136_ : q_K S296_ b132_ = 21 := by rw [gS296_]; exact k136_
  replace k142_ : q_K S296_ b138_ = 21 := by rw [gS296_]; exact k142_
  replace k148_ : q_K S296_ b144_ = 22 := by rw [gS296_]; exact k148_
  replace k153_ : q_K S296_ b149_ = 21 := by rw [gS296_]; exact k153_
  replace k159_ : q_K S296_ b155_ = 22 := by rw [gS296_]; exact k159_
  replace k165_ : q_K S296_ b161_ = 22 := by rw [gS296_]; exact k165_
  replace k170_ : q_K S296_ b166_ = 22 := by rw [gS296_]; exact k170_
  replace k176_ : q_K S296_ b172_ = 21 := by rw [gS296_]; exact k176_
  replace k182_ : q_K S296_ b178_ = 22 := by rw [gS296_]; exact k182_
  replace k187_ : q_K S296_ b183_ = 21 := by rw [gS296_]; exact k187_
  replace k193_ : q_K S296_ b189_ = 22 := by rw [gS296_]; exact k193_
  replace k199_ : q_K S296_ b195_ = 21 := by rw [gS296_]; exact k199_
  replace k204_ : q_K S296_ b200_ = 22 := by rw [gS296_]; exact k204_
  replace k210_ : q_K S296_ b206_ = 21 := by rw [gS296_]; exact k210_
  replace k216_ : q_K S296_ b212_ = 21 := by rw [gS296_]; exact k216_
  replace k221_ : q_K S296_ b217_ = 21 := by rw [gS296_]; exact k221_
  replace k227_ : q_K S296_ b223_ = 21 := by rw [gS296_]; exact k227_
  replace k233_ : q_K S296_ b229_ = 21 := by rw [gS296_]; exact k233_
  replace k238_ : q_K S296_ b234_ = 21 := by rw [gS296_]; exact k238_
  replace k244_ : q_K S296_ b240_ = 20 := by rw [gS296_]; exact k244_
  replace k250_ : q_K S296_ b246_ = 20 := by rw [gS296_]; exact k250_
  replace k255_ : q_K S296_ b251_ = 21 := by rw [gS296_]; exact k255_
  replace k261_ : q_K S296_ b257_ = 21 := by rw [gS296_]; exact k261_
  replace k267_ : q_K S296_ b263_ = 21 := by rw [gS296_]; exact k267_
  replace k272_ : q_K S296_ b268_ = 22 := by rw [gS296_]; exact k272_
  replace k278_ : q_K S296_ b274_ = 21 := by rw [gS296_]; exact k278_
  replace k284_ : q_K S296_ b280_ = 21 := by rw [gS296_]; exact k284_
  replace k289_ : q_K S296_ b285_ = 21 := by rw [gS296_]; exact k289_
  replace k295_ : q_K S296_ b291_ = 21 := by rw [gS296_]; exact k295_
  refine lv_aload_n hx hb dX12_init_453 rfl (lv_at hl 0 rfl) ?_
  refine lv_sipush (v := 256) hx hb dX12_init_454 (by decide) ?_
  obtain ⟨w300_, h⟩ := h
  refine q_newa X Y (k := 22) (t := 2) (n := 256) (ty := .boolean) rfl (by decide) rfl (fun _ _ => rfl) (by first | exact rfl | decide | simp [defaultValue]) ar_boolean (by decide) (by decide) (by decide) w300_ dX12_init_457 (fun b297_ H h298_ h299_ Y => ?_)
  replace h := h b297_ h298_
  replace hu := w300_
  replace k5_ := qs_R_keep (j := 22) (n := 256) h298_ k5_ (by decide)
  replace k6_ := qs_R_keep (j := 22) (n := 256) h298_ k6_ (by decide)
  replace k11_ := qs_R_keep (j := 22) (n := 256) h298_ k11_ (by decide)
  replace k17_ := qs_R_keep (j := 22) (n := 256) h298_ k17_ (by decide)
  replace k23_ := qs_R_keep (j := 22) (n := 256) h298_ k23_ (by decide)
  replace k29_ := qs_R_keep (j := 22) (n := 256) h298_ k29_ (by decide)
  replace k34_ := qs_R_keep (j := 22) (n := 256) h298_ k34_ (by decide)
  replace k40_ := qs_R_keep (j := 22) (n := 256) h298_ k40_ (by decide)
  replace k46_ := qs_R_keep (j := 22) (n := 256) h298_ k46_ (by decide)
  replace k51_ := qs_R_keep (j := 22) (n := 256) h298_ k51_ (by decide)
  replace k57_ := qs_R_keep (j := 22) (n := 256) h298_ k57_ (by decide)
  replace k63_ := qs_R_keep (j := 22) (n := 256) h298_ k63_ (by decide)
  replace k68_ := qs_R_keep (j := 22) (n := 256) h298_ k68_ (by decide)
  replace k74_ := qs_R_keep (j := 22) (n := 256) h298_ k74_ (by decide)
  replace k80_ := qs_R_keep (j := 22) (n := 256) h298_ k80_ (by decide)
  replace k85_ := qs_R_keep (j := 22) (n := 256) h298_ k85_ (by decide)
  replace k91_ := qs_R_keep (j := 22) (n := 256) h298_ k91_ (by decide)
  replace k97_ := qs_R_keep (j := 22) (n := 256) h298_ k97_ (by decide)
  replace k102_ := qs_R_keep (j := 22) (n := 256) h298_ k102_ (by decide)
  replace k108_ := qs_R_keep (j := 22) (n := 256) h298_ k108_ (by decide)
  replace k114_ := qs_R_keep (j := 22) (n := 256) h298_ k114_ (by decide)
  replace k119_ := qs_R_keep (j := 22) (n := 256) h298_ k119_ (by decide)
  replace k125_ := qs_R_keep (j := 22) (n := 256) h298_ k125_ (by decide)
  replace k131_ := qs_R_keep (j := 22) (n := 256) h298_ k131_ (by decide)
  replace k136_ := qs_R_keep (j := 22) (n := 256) h298_ k136_ (by decide)
  replace k142_ := qs_R_keep (j := 22) (n := 256) h298_ k142_ (by decide)
  replace k148_ := qs_R_keep (j := 22) (n := 256) h298_ k148_ (by decide)
  replace k153_ := qs_R_keep (j := 22) (n := 256) h298_ k153_ (by decide)
  replace k159_ := qs_R_keep (j := 22) (n := 256) h298_ k159_ (by decide)
  replace k165_ := qs_R_keep (j := 22) (n := 256) h298_ k165_ (by decide)
  replace k170_ := qs_R_keep (j := 22) (n := 256) h298_ k170_ (by decide)
  replace k176_ := qs_R_keep (j := 22) (n := 256) h298_ k176_ (by decide)
  replace k182_ := qs_R_keep (j := 22) (n := 256) h298_ k182_ (by decide)
  replace k187_ := qs_R_keep (j := 22) (n := 256) h298_ k187_ (by decide)
  replace k193_ := qs_R_keep (j := 22) (n := 256) h298_ k193_ (by decide)
  replace k199_ := qs_R_keep (j := 22) (n := 256) h298_ k199_ (by decide)
  replace k204_ := qs_R_keep (j := 22) (n := 256) h298_ k204_ (by decide)
  replace k210_ := qs_R_keep (j := 22) (n := 256) h298_ k210_ (by decide)
  replace k216_ := qs_R_keep (j := 22) (n := 256) h298_ k216_ (by decide)
  replace k221_ := qs_R_keep (j := 22) (n := 256) h298_ k221_ (by decide)
  replace k227_ := qs_R_keep (j := 22) (n := 256) h298_ k227_ (by decide)
  replace k233_ := qs_R_keep (j := 22) (n := 256) h298_ k233_ (by decide)
  replace k238_ := qs_R_keep (j := 22) (n := 256) h298_ k238_ (by decide)
  replace k244_ := qs_R_keep (j := 22) (n := 256) h298_ k244_ (by decide)
  replace k250_ := qs_R_keep (j := 22) (n := 256) h298_ k250_ (by decide)
  replace k255_ := qs_R_keep (j := 22) (n := 256) h298_ k255_ (by decide)
  replace k261_ := qs_R_keep (j := 22) (n := 256) h298_ k261_ (by decide)
  replace k267_ := qs_R_keep (j := 22) (n := 256) h298_ k267_ (by decide)
  replace k272_ := qs_R_keep (j := 22) (n := 256) h298_ k272_ (by decide)
  replace k278_ := qs_R_keep (j := 22) (n := 256) h298_ k278_ (by decide)
  replace k284_ := qs_R_keep (j := 22) (n := 256) h298_ k284_ (by decide)
  replace k289_ := qs_R_keep (j := 22) (n := 256) h298_ k289_ (by decide)
  replace k295_ := qs_R_keep (j := 22) (n := 256) h298_ k295_ (by decide)
  have k301_ : q_K (qs_R S296_ 22 256 b297_) b297_ = 22 := qs_R_Ks
  refine q_putP X Y (some b297_) rfl kX12 75 rfl fl_X12_173 k6_ _ rfl (Or.inr ⟨_, rfl⟩) (Or.inr ⟨rfl, hnm, rfl⟩) dX12_init_459 (fun H locs Y => ?_)
  refine lv_aload_n hx hb dX12_init_462 rfl (lv_at hl 0 rfl) ?_
  refine lv_sipush (v := 256) hx hb dX12_init_463 (by decide) ?_
  obtain ⟨w305_, h⟩ := h
  refine q_newa X Y (k := 21) (t := 1) (n := 256) (ty := .int) rfl (by decide) rfl (fun _ _ => rfl) (by first | exact rfl | decide | simp [defaultValue]) ar_int (by decide) (by decide) (by decide) w305_ dX12_init_466 (fun b302_ H h303_ h304_ Y => ?_)
  replace h := h b302_ h303_
  replace hu := w305_
  replace k5_ := qs_R_keep (j := 21) (n := 256) h303_ k5_ (by decide)
  replace k6_ := qs_R_keep (j := 21) (n := 256) h303_ k6_ (by decide)
  replace k11_ := qs_R_keep (j := 21) (n := 256) h303_ k11_ (by decide)
  replace k17_ := qs_R_keep (j := 21) (n := 256) h303_ k17_ (by decide)
  replace k23_ := qs_R_keep (j := 21) (n := 256) h303_ k23_ (by decide)
  replace k29_ := qs_R_keep (j := 21) (n := 256) h303_ k29_ (by decide)
  replace k34_ := qs_R_keep (j := 21) (n := 256) h303_ k34_ (by decide)
  replace k40_ := qs_R_keep (j := 21) (n := 256) h303_ k40_ (by decide)
  replace k46_ := qs_R_keep (j := 21) (n := 256) h303_ k46_ (by decide)
  replace k51_ := qs_R_keep (j := 21) (n := 256) h303_ k51_ (by decide)
  replace k57_ := qs_R_keep (j := 21) (n := 256) h303_ k57_ (by decide)
  replace k63_ := qs_R_keep (j := 21) (n := 256) h303_ k63_ (by decide)
  replace k68_ := qs_R_keep (j := 21) (n := 256) h303_ k68_ (by decide)
  replace k74_ := qs_R_keep (j := 21) (n := 256) h303_ k74_ (by decide)
  replace k80_ := qs_R_keep (j := 21) (n := 256) h303_ k80_ (by decide)
  replace k85_ := qs_R_keep (j := 21) (n := 256) h303_ k85_ (by decide)
  replace k91_ := qs_R_keep (j := 21) (n := 256) h303_ k91_ (by decide)
  replace k97_ := qs_R_keep (j := 21) (n := 256) h303_ k97_ (by decide)
  replace k102_ := qs_R_keep (j := 21) (n := 256) h303_ k102_ (by decide)
  replace k108_ := qs_R_keep (j := 21) (n := 256) h303_ k108_ (by decide)
  replace k114_ := qs_R_keep (j := 21) (n := 256) h303_ k114_ (by decide)
  replace k119_ := qs_R_keep (j := 21) (n := 256) h303_ k119_ (by decide)
  replace k125_ := qs_R_keep (j := 21) (n := 256) h303_ k125_ (by decide)
  replace k131_ := qs_R_keep (j := 21) (n := 256) h303_ k131_ (by decide)
  replace k136_ := qs_R_keep (j := 21) (n := 256) h303_ k136_ (by decide)
  replace k142_ := qs_R_keep (j := 21) (n := 256) h303_ k142_ (by decide)
  replace k148_ := qs_R_keep (j := 21) (n := 256) h303_ k148_ (by decide)
  replace k153_ := qs_R_keep (j := 21) (n := 256) h303_ k153_ (by decide)
  replace k159_ := qs_R_keep (j := 21) (n := 256) h303_ k159_ (by decide)
  replace k165_ := qs_R_keep (j := 21) (n := 256) h303_ k165_ (by decide)
  replace k170_ := qs_R_keep (j := 21) (n := 256) h303_ k170_ (by decide)
  replace k176_ := qs_R_keep (j := 21) (n := 256) h303_ k176_ (by decide)
  replace k182_ := qs_R_keep (j := 21) (n := 256) h303_ k182_ (by decide)
  replace k187_ := qs_R_keep (j := 21) (n := 256) h303_ k187_ (by decide)
  replace k193_ := qs_R_keep (j := 21) (n := 256) h303_ k193_ (by decide)
  replace k199_ := qs_R_keep (j := 21) (n := 256) h303_ k199_ (by decide)
  replace k204_ := qs_R_keep (j := 21) (n := 256) h303_ k204_ (by decide)
  replace k210_ := qs_R_keep (j := 21) (n := 256) h303_ k210_ (by decide)
  replace k216_ := qs_R_keep (j := 21) (n := 256) h303_ k216_ (by decide)
  replace k221_ := qs_R_keep (j := 21) (n := 256) h303_ k221_ (by decide)
  replace k227_ := qs_R_keep (j := 21) (n := 256) h303_ k227_ (by decide)
  replace k233_ := qs_R_keep (j := 21) (n := 256) h303_ k233_ (by decide)
  replace k238_ := qs_R_keep (j := 21) (n := 256) h303_ k238_ (by decide)
  replace k244_ := qs_R_keep (j := 21) (n := 256) h303_ k244_ (by decide)
  replace k250_ := qs_R_keep (j := 21) (n := 256) h303_ k250_ (by decide)
  replace k255_ := qs_R_keep (j := 21) (n := 256) h303_ k255_ (by decide)
  replace k261_ := qs_R_keep (j := 21) (n := 256) h303_ k261_ (by decide)
  replace k267_ := qs_R_keep (j := 21) (n := 256) h303_ k267_ (by decide)
  replace k272_ := qs_R_keep (j := 21) (n := 256) h303_ k272_ (by decide)
  replace k278_ := qs_R_keep (j := 21) (n := 256) h303_ k278_ (by decide)
  replace k284_ := qs_R_keep (j := 21) (n := 256) h303_ k284_ (by decide)
  replace k289_ := qs_R_keep (j := 21) (n := 256) h303_ k289_ (by decide)
  replace k295_ := qs_R_keep (j := 21) (n := 256) h303_ k295_ (by decide)
  replace k301_ := qs_R_keep (j := 21) (n := 256) h303_ k301_ (by decide)
  have k306_ : q_K (qs_R (qs_P (qs_R S296_ 22 256 b297_) 2475 a0 (some b297_)) 21 256 b302_) b302_ = 21 := qs_R_Ks
  obtain ⟨S307_, gS307_⟩ : ∃ z : q_S, z = (qs_R (qs_P (qs_R S296_ 22 256 b297_) 2475 a0 (some b297_)) 21 256 b302_) := ⟨_, rfl⟩
  replace Y : q_Y D cy lo s S307_ H locs := by rw [gS307_]; exact Y
  replace h := h S307_ gS307_
  replace k5_ : q_K S307_ b1_ = 20 := by rw [gS307_]; exact k5_
  replace k6_ : q_K S307_ a0 = 13 := by rw [gS307_]; exact k6_
  replace k11_ : q_K S307_ b7_ = 20 := by rw [gS307_]; exact k11_
  replace k17_ : q_K S307_ b13_ = 20 := by rw [gS307_]; exact k17_
  replace k23_ : q_K S307_ b19_ = 21 := by rw [gS307_]; exact k23_
  replace k29_ : q_K S307_ b25_ = 21 := by rw [gS307_]; exact k29_
  replace k34_ : q_K S307_ b30_ = 21 := by rw [gS307_]; exact k34_
  replace k40_ : q_K S307_ b36_ = 21 := by rw [gS307_]; exact k40_
  replace k46_ : q_K S307_ b42_ = 21 := by rw [gS307_]; exact k46_
  replace k51_ : q_K S307_ b47_ = 21 := by rw [gS307_]; exact k51_
  replace k57_ : q_K S307_ b53_ = 21 := by rw [gS307_]; exact k57_
  replace k63_ : q_K S307_ b59_ = 21 := by rw [gS307_]; exact k63_
  replace k68_ : q_K S307_ b64_ = 21 := by rw [gS307_]; exact k68_
  replace k74_ : q_K S307_ b70_ = 21 := by rw [gS307_]; exact k74_
  replace k80_ : q_K S307_ b76_ = 21 := by rw [gS307_]; exact k80_
  replace k85_ : q_K S307_ b81_ = 21 := by rw [gS307_]; exact k85_
  replace k91_ : q_K S307_ b87_ = 21 := by rw [gS307_]; exact k91_
  replace k97_ : q_K S307_ b93_ = 21 := by rw [gS307_]; exact k97_
  replace k102_ : q_K S307_ b98_ = 21 := by rw [gS307_]; exact k102_
  replace k108_ : q_K S307_ b104_ = 21 := by rw [gS307_]; exact k108_
  replace k114_ : q_K S307_ b110_ = 21 := by rw [gS307_]; exact k114_
  replace k119_ : q_K S307_ b115_ = 21 := by rw [gS307_]; exact k119_
  replace k125_ : q_K S307_ b121_ = 22 := by rw [gS307_]; exact k125_
  replace k131_ : q_K S307_ b127_ = 21 := by rw [gS307_]; exact k131_
  replace k136_ : q_K S307_ b132_ = 21 := by rw [gS307_]; exact k136_
  replace k142_ : q_K S307_ b138_ = 21 := by rw [gS307_]; exact k142_
  replace k148_ : q_K S307_ b144_ = 22 := by rw [gS307_]; exact k148_
  replace k153_ : q_K S307_ b149_ = 21 := by rw [gS307_]; exact k153_
  replace k159_ : q_K S307_ b155_ = 22 := by rw [gS307_]; exact k159_
  replace k165_ : q_K S307_ b161_ = 22 := by rw [gS307_]; exact k165_
  replace k170_ : q_K S307_ b166_ = 22 := by rw [gS307_]; exact k170_
  replace k176_ : q_K S307_ b172_ = 21 := by rw [gS307_]; exact k176_
  replace k182_ : q_K S307_ b178_ = 22 := by rw [gS307_]; exact k182_
  replace k187_ : q_K S307_ b183_ = 21 := by rw [gS307_]; exact k187_
  replace k193_ : q_K S307_ b189_ = 22 := by rw [gS307_]; exact k193_
  replace k199_ : q_K S307_ b195_ = 21 := by rw [gS307_]; exact k199_
  replace k204_ : q_K S307_ b200_ = 22 := by rw [gS307_]; exact k204_
  replace k210_ : q_K S307_ b206_ = 21 := by rw [gS307_]; exact k210_
  replace k216_ : q_K S307_ b212_ = 21 := by rw [gS307_]; exact k216_
  replace k221_ : q_K S307_ b217_ = 21 := by rw [gS307_]; exact k221_
  replace k227_ : q_K S307_ b223_ = 21 := by rw [gS307_]; exact k227_
  replace k233_ : q_K S307_ b229_ = 21 := by rw [gS307_]; exact k233_
  replace k238_ : q_K S307_ b234_ = 21 := by rw [gS307_]; exact k238_
  replace k244_ : q_K S307_ b240_ = 20 := by rw [gS307_]; exact k244_
  replace k250_ : q_K S307_ b246_ = 20 := by rw [gS307_]; exact k250_
  replace k255_ : q_K S307_ b251_ = 21 := by rw [gS307_]; exact k255_
  replace k261_ : q_K S307_ b257_ = 21 := by rw [gS307_]; exact k261_
  replace k267_ : q_K S307_ b263_ = 21 := by rw [gS307_]; exact k267_
  replace k272_ : q_K S307_ b268_ = 22 := by rw [gS307_]; exact k272_
  replace k278_ : q_K S307_ b274_ = 21 := by rw [gS307_]; exact k278_
  replace k284_ : q_K S307_ b280_ = 21 := by rw [gS307_]; exact k284_
  replace k289_ : q_K S307_ b285_ = 21 := by rw [gS307_]; exact k289_
  replace k295_ : q_K S307_ b291_ = 21 := by rw [gS307_]; exact k295_
  replace k301_ : q_K S307_ b297_ = 22 := by rw [gS307_]; exact k301_
  replace k306_ : q_K S307_ b302_ = 21 := by rw [gS307_]; exact k306_
  refine q_putP X Y (some b302_) rfl kX12 76 rfl fl_X12_176 k6_ _ rfl (Or.inr ⟨_, rfl⟩) (Or.inr ⟨rfl, hnm, rfl⟩) dX12_init_468 (fun H locs Y => ?_)
  refine lv_aload_n hx hb dX12_init_471 rfl (lv_at hl 0 rfl) ?_
  refine lv_sipush (v := 8192) hx hb dX12_init_472 (by decide) ?_
  obtain ⟨w311_, h⟩ := h
  refine q_newa X Y (k := 21) (t := 1) (n := 8192) (ty := .int) rfl (by decide) rfl (fun _ _ => rfl) (by first | exact rfl | decide | simp [defaultValue]) ar_int (by decide) (by decide) (by decide) w311_ dX12_init_475 (fun b308_ H h309_ h310_ Y => ?_)
  replace h := h b308_ h309_
  replace hu := w311_
  replace k5_ := qs_R_keep (j := 21) (n := 8192) h309_ k5_ (by decide)
  replace k6_ := qs_R_keep (j := 21) (n := 8192) h309_ k6_ (by decide)
  replace k11_ := qs_R_keep (j := 21) (n := 8192) h309_ k11_ (by decide)
  replace k17_ := qs_R_keep (j := 21) (n := 8192) h309_ k17_ (by decide)
  replace k23_ := qs_R_keep (j := 21) (n := 8192) h309_ k23_ (by decide)
  replace k29_ := qs_R_keep (j := 21) (n := 8192) h309_ k29_ (by decide)
  replace k34_ := qs_R_keep (j := 21) (n := 8192) h309_ k34_ (by decide)
  replace k40_ := qs_R_keep (j := 21) (n := 8192) h309_ k40_ (by decide)
  replace k46_ := qs_R_keep (j := 21) (n := 8192) h309_ k46_ (by decide)
  replace k51_ := qs_R_keep (j := 21) (n := 8192) h309_ k51_ (by decide)
  replace k57_ := qs_R_keep (j := 21) (n := 8192) h309_ k57_ (by decide)
  replace k63_ := qs_R_keep (j := 21) (n := 8192) h309_ k63_ (by decide)
  replace k68_ := qs_R_keep (j := 21) (n := 8192) h309_ k68_ (by decide)
  replace k74_ := qs_R_keep (j := 21) (n := 8192) h309_ k74_ (by decide)
  replace k80_ := qs_R_keep (j := 21) (n := 8192) h309_ k80_ (by decide)
  replace k85_ := qs_R_keep (j := 21) (n := 8192) h309_ k85_ (by decide)
  replace k91_ := qs_R_keep (j := 21) (n := 8192) h309_ k91_ (by decide)
  replace k97_ := qs_R_keep (j := 21) (n := 8192) h309_ k97_ (by decide)
  replace k102_ := qs_R_keep (j := 21) (n := 8192) h309_ k102_ (by decide)
  replace k108_ := qs_R_keep (j := 21) (n := 8192) h309_ k108_ (by decide)
  replace k114_ := qs_R_keep (j := 21) (n := 8192) h309_ k114_ (by decide)
  replace k119_ := qs_R_keep (j := 21) (n := 8192) h309_ k119_ (by decide)
  replace k125_ := qs_R_keep (j := 21) (n := 8192) h309_ k125_ (by decide)
  replace k131_ := qs_R_keep (j := 21) (n := 8192) h309_ k131_ (by decide)
  replace k136_ := qs_R_keep (j := 21) (n := 8192) h309_ k136_ (by decide)
  replace k142_ := qs_R_keep (j := 21) (n := 8192) h309_ k142_ (by decide)
  replace k148_ := qs_R_keep (j := 21) (n := 8192) h309_ k148_ (by decide)
  replace k153_ := qs_R_keep (j := 21) (n := 8192) h309_ k153_ (by decide)
  replace k159_ := qs_R_keep (j := 21) (n := 8192) h309_ k159_ (by decide)
  replace k165_ := qs_R_keep (j := 21) (n := 8192) h309_ k165_ (by decide)
  replace k170_ := qs_R_keep (j := 21) (n := 8192) h309_ k170_ (by decide)
  replace k176_ := qs_R_keep (j := 21) (n := 8192) h309_ k176_ (by decide)
  replace k182_ := qs_R_keep (j := 21) (n := 8192) h309_ k182_ (by decide)
  replace k187_ := qs_R_keep (j := 21) (n := 8192) h309_ k187_ (by decide)
  replace k193_ := qs_R_keep (j := 21) (n := 8192) h309_ k193_ (by decide)
  replace k199_ := qs_R_keep (j := 21) (n := 8192) h309_ k199_ (by decide)
  replace k204_ := qs_R_keep (j := 21) (n := 8192) h309_ k204_ (by decide)
  replace k210_ := qs_R_keep (j := 21) (n := 8192) h309_ k210_ (by decide)
  replace k216_ := qs_R_keep (j := 21) (n := 8192) h309_ k216_ (by decide)
  replace k221_ := qs_R_keep (j := 21) (n := 8192) h309_ k221_ (by decide)
  replace k227_ := qs_R_keep (j := 21) (n := 8192) h309_ k227_ (by decide)
  replace k233_ := qs_R_keep (j := 21) (n := 8192) h309_ k233_ (by decide)
  replace k238_ := qs_R_keep (j := 21) (n := 8192) h309_ k238_ (by decide)
  replace k244_ := qs_R_keep (j := 21) (n := 8192) h309_ k244_ (by decide)
  replace k250_ := qs_R_keep (j := 21) (n := 8192) h309_ k250_ (by decide)
  replace k255_ := qs_R_keep (j := 21) (n := 8192) h309_ k255_ (by decide)
  replace k261_ := qs_R_keep (j := 21) (n := 8192) h309_ k261_ (by decide)
  replace k267_ := qs_R_keep (j := 21) (n := 8192) h309_ k267_ (by decide)
  replace k272_ := qs_R_keep (j := 21) (n := 8192) h309_ k272_ (by decide)
  replace k278_ := qs_R_keep (j := 21) (n := 8192) h309_ k278_ (by decide)
  replace k284_ := qs_R_keep (j := 21) (n := 8192) h309_ k284_ (by decide)
  replace k289_ := qs_R_keep (j := 21) (n := 8192) h309_ k289_ (by decide)
  replace k295_ := qs_R_keep (j := 21) (n := 8192) h309_ k295_ (by decide)
  replace k301_ := qs_R_keep (j := 21) (n := 8192) h309_ k301_ (by decide)
  replace k306_ := qs_R_keep (j := 21) (n := 8192) h309_ k306_ (by decide)
  have k312_ : q_K (qs_R (qs_P S307_ 2476 a0 (some b302_)) 21 8192 b308_) b308_ = 21 := qs_R_Ks
  refine q_putP X Y (some b308_) rfl kX12 77 rfl fl_X12_179 k6_ _ rfl (Or.inr ⟨_, rfl⟩) (Or.inr ⟨rfl, hnm, rfl⟩) dX12_init_477 (fun H locs Y => ?_)
  obtain ⟨S313_, gS313_⟩ : ∃ z : q_S, z = (qs_P (qs_R (qs_P S307_ 2476 a0 (some b302_)) 21 8192 b308_) 2477 a0 (some b308_)) := ⟨_, rfl⟩
  replace Y : q_Y D cy lo s S313_ H locs := by rw [gS313_]; exact Y
  replace h := h S313_ gS313_
  replace k5_ : q_K S313_ b1_ = 20 := by rw [gS313_]; exact k5_
  replace k6_ : q_K S313_ a0 = 13 := by rw [gS313_]; exact k6_
  replace k11_ : q_K S313_ b7_ = 20 := by rw [gS313_]; exact k11_
  replace k17_ : q_K S313_ b13_ = 20 := by rw [gS313_]; exact k17_
  replace k23_ : q_K S313_ b19_ = 21 := by rw [gS313_]; exact k23_
  replace k29_ : q_K S313_ b25_ = 21 := by rw [gS313_]; exact k29_
  replace k34_ : q_K S313_ b30_ = 21 := by rw [gS313_]; exact k34_
  replace k40_ : q_K S313_ b36_ = 21 := by rw [gS313_]; exact k40_
  replace k46_ : q_K S313_ b42_ = 21 := by rw [gS313_]; exact k46_
  replace k51_ : q_K S313_ b47_ = 21 := by rw [gS313_]; exact k51_
  replace k57_ : q_K S313_ b53_ = 21 := by rw [gS313_]; exact k57_
  replace k63_ : q_K S313_ b59_ = 21 := by rw [gS313_]; exact k63_
  replace k68_ : q_K S313_ b64_ = 21 := by rw [gS313_]; exact k68_
  replace k74_ : q_K S313_ b70_ = 21 := by rw [gS313_]; exact k74_
  replace k80_ : q_K S313_ b76_ = 21 := by rw [gS313_]; exact k80_
  replace k85_ : q_K S313_ b81_ = 21 := by rw [gS313_]; exact k85_
  replace k91_ : q_K S313_ b87_ = 21 := by rw [gS313_]; exact k91_
  replace k97_ : q_K S313_ b93_ = 21 := by rw [gS313_]; exact k97_
  replace k102_ : q_K S313_ b98_ = 21 := by rw [gS313_]; exact k102_
  replace k108_ : q_K S313_ b104_ = 21 := by rw [gS313_]; exact k108_
  replace k114_ : q_K S313_ b110_ = 21 := by rw [gS313_]; exact k114_
  replace k119_ : q_K S313_ b115_ = 21 := by rw [gS313_]; exact k119_
  replace k125_ : q_K S313_ b121_ = 22 := by rw [gS313_]; exact k125_
  replace k131_ : q_K S313_ b127_ = 21 := by rw [gS313_]; exact k131_
  replace k136_ : q_K S313_ b132_ = 21 := by rw [gS313_]; exact k136_
  replace k142_ : q_K S313_ b138_ = 21 := by rw [gS313_]; exact k142_
  replace k148_ : q_K S313_ b144_ = 22 := by rw [gS313_]; exact k148_
  replace k153_ : q_K S313_ b149_ = 21 := by rw [gS313_]; exact k153_
  replace k159_ : q_K S313_ b155_ = 22 := by rw [gS313_]; exact k159_
  replace k165_ : q_K S313_ b161_ = 22 := by rw [gS313_]; exact k165_
  replace k170_ : q_K S313_ b166_ = 22 := by rw [gS313_]; exact k170_
  replace k176_ : q_K S313_ b172_ = 21 := by rw [gS313_]; exact k176_
  replace k182_ : q_K S313_ b178_ = 22 := by rw [gS313_]; exact k182_
  replace k187_ : q_K S313_ b183_ = 21 := by rw [gS313_]; exact k187_
  replace k193_ : q_K S313_ b189_ = 22 := by rw [gS313_]; exact k193_
  replace k199_ : q_K S313_ b195_ = 21 := by rw [gS313_]; exact k199_
  replace k204_ : q_K S313_ b200_ = 22 := by rw [gS313_]; exact k204_
  replace k210_ : q_K S313_ b206_ = 21 := by rw [gS313_]; exact k210_
  replace k216_ : q_K S313_ b212_ = 21 := by rw [gS313_]; exact k216_
  replace k221_ : q_K S313_ b217_ = 21 := by rw [gS313_]; exact k221_
  replace k227_ : q_K S313_ b223_ = 21 := by rw [gS313_]; exact k227_
  replace k233_ : q_K S313_ b229_ = 21 := by rw [gS313_]; exact k233_
  replace k238_ : q_K S313_ b234_ = 21 := by rw [gS313_]; exact k238_
  replace k244_ : q_K S313_ b240_ = 20 := by rw [gS313_]; exact k244_
  replace k250_ : q_K S313_ b246_ = 20 := by rw [gS313_]; exact k250_
  replace k255_ : q_K S313_ b251_ = 21 := by rw [gS313_]; exact k255_
  replace k261_ : q_K S313_ b257_ = 21 := by rw [gS313_]; exact k261_
  replace k267_ : q_K S313_ b263_ = 21 := by rw [gS313_]; exact k267_
  replace k272_ : q_K S313_ b268_ = 22 := by rw [gS313_]; exact k272_
  replace k278_ : q_K S313_ b274_ = 21 := by rw [gS313_]; exact k278_
  replace k284_ : q_K S313_ b280_ = 21 := by rw [gS313_]; exact k284_
  replace k289_ : q_K S313_ b285_ = 21 := by rw [gS313_]; exact k289_
  replace k295_ : q_K S313_ b291_ = 21 := by rw [gS313_]; exact k295_
  replace k301_ : q_K S313_ b297_ = 22 := by rw [gS313_]; exact k301_
  replace k306_ : q_K S313_ b302_ = 21 := by rw [gS313_]; exact k306_
  replace k312_ : q_K S313_ b308_ = 21 := by rw [gS313_]; exact k312_
  refine lv_aload_n hx hb dX12_init_480 rfl (lv_at hl 0 rfl) ?_
  refine lv_sipush (v := 256) hx hb dX12_init_481 (by decide) ?_
  obtain ⟨w317_, h⟩ := h
  refine q_newa X Y (k := 21) (t := 1) (n := 256) (ty := .int) rfl (by decide) rfl (fun _ _ => rfl) (by first | exact rfl | decide | simp [defaultValue]) ar_int (by decide) (by decide) (by decide) w317_ dX12_init_484 (fun b314_ H h315_ h316_ Y => ?_)
  replace h := h b314_ h315_
  replace hu := w317_
  replace k5_ := qs_R_keep (j := 21) (n := 256) h315_ k5_ (by decide)
  replace k6_ := qs_R_keep (j := 21) (n := 256) h315_ k6_ (by decide)
  replace k11_ := qs_R_keep (j := 21) (n := 256) h315_ k11_ (by decide)
  replace k17_ := qs_R_keep (j := 21) (n := 256) h315_ k17_ (by decide)
  replace k23_ := qs_R_keep (j := 21) (n := 256) h315_ k23_ (by decide)
  replace k29_ := qs_R_keep (j := 21) (n := 256) h315_ k29_ (by decide)
  replace k34_ := qs_R_keep (j := 21) (n := 256) h315_ k34_ (by decide)
  replace k40_ := qs_R_keep (j := 21) (n := 256) h315_ k40_ (by decide)
  replace k46_ := qs_R_keep (j := 21) (n := 256) h315_ k46_ (by decide)
  replace k51_ := qs_R_keep (j := 21) (n := 256) h315_ k51_ (by decide)
  replace k57_ := qs_R_keep (j := 21) (n := 256) h315_ k57_ (by decide)
  replace k63_ := qs_R_keep (j := 21) (n := 256) h315_ k63_ (by decide)
  replace k68_ := qs_R_keep (j := 21) (n := 256) h315_ k68_ (by decide)
  replace k74_ := qs_R_keep (j := 21) (n := 256) h315_ k74_ (by decide)
  replace k80_ := qs_R_keep (j := 21) (n := 256) h315_ k80_ (by decide)
  replace k85_ := qs_R_keep (j := 21) (n := 256) h315_ k85_ (by decide)
  replace k91_ := qs_R_keep (j := 21) (n := 256) h315_ k91_ (by decide)
  replace k97_ := qs_R_keep (j := 21) (n := 256) h315_ k97_ (by decide)
  replace k102_ := qs_R_keep (j := 21) (n := 256) h315_ k102_ (by decide)
  replace k108_ := qs_R_keep (j := 21) (n := 256) h315_ k108_ (by decide)
  replace k114_ := qs_R_keep (j := 21) (n := 256) h315_ k114_ (by decide)
  replace k119_ := qs_R_keep (j := 21) (n := 256) h315_ k119_ (by decide)
  replace k125_ := qs_R_keep (j := 21) (n := 256) h315_ k125_ (by decide)
  replace k131_ := qs_R_keep (j := 21) (n := 256) h315_ k131_ (by decide)
  replace k136_ := qs_R_keep (j := 21) (n := 256) h315_ k136_ (by decide)
  replace k142_ := qs_R_keep (j := 21) (n := 256) h315_ k142_ (by decide)
  replace k148_ := qs_R_keep (j := 21) (n := 256) h315_ k148_ (by decide)
  replace k153_ := qs_R_keep (j := 21) (n := 256) h315_ k153_ (by decide)
  replace k159_ := qs_R_keep (j := 21) (n := 256) h315_ k159_ (by decide)
  replace k165_ := qs_R_keep (j := 21) (n := 256) h315_ k165_ (by decide)
  replace k170_ := qs_R_keep (j := 21) (n := 256) h315_ k170_ (by decide)
  replace k176_ := qs_R_keep (j := 21) (n := 256) h315_ k176_ (by decide)
  replace k182_ := qs_R_keep (j := 21) (n := 256) h315_ k182_ (by decide)
  replace k187_ := qs_R_keep (j := 21) (n := 256) h315_ k187_ (by decide)
  replace k193_ := qs_R_keep (j := 21) (n := 256) h315_ k193_ (by decide)
  replace k199_ := qs_R_keep (j := 21) (n := 256) h315_ k199_ (by decide)
  replace k204_ := qs_R_keep (j := 21) (n := 256) h315_ k204_ (by decide)
  replace k210_ := qs_R_keep (j := 21) (n := 256) h315_ k210_ (by decide)
  replace k216_ := qs_R_keep (j := 21) (n := 256) h315_ k216_ (by decide)
  replace k221_ := qs_R_keep (j := 21) (n := 256) h315_ k221_ (by decide)
  replace k227_ := qs_R_keep (j := 21) (n := 256) h315_ k227_ (by decide)
  replace k233_ := qs_R_keep (j := 21) (n := 256) h315_ k233_ (by decide)
  replace k238_ := qs_R_keep (j := 21) (n := 256) h315_ k238_ (by decide)
  replace k244_ := qs_R_keep (j := 21) (n := 256) h315_ k244_ (by decide)
  replace k250_ := qs_R_keep (j := 21) (n := 256) h315_ k250_ (by decide)
  replace k255_ := qs_R_keep (j := 21) (n := 256) h315_ k255_ (by decide)
  replace k261_ := qs_R_keep (j := 21) (n := 256) h315_ k261_ (by decide)
  replace k267_ := qs_R_keep (j := 21) (n := 256) h315_ k267_ (by decide)
  replace k272_ := qs_R_keep (j := 21) (n := 256) h315_ k272_ (by decide)
  replace k278_ := qs_R_keep (j := 21) (n := 256) h315_ k278_ (by decide)
  replace k284_ := qs_R_keep (j := 21) (n := 256) h315_ k284_ (by decide)
  replace k289_ := qs_R_keep (j := 21) (n := 256) h315_ k289_ (by decide)
  replace k295_ := qs_R_keep (j := 21) (n := 256) h315_ k295_ (by decide)
  replace k301_ := qs_R_keep (j := 21) (n := 256) h315_ k301_ (by decide)
  replace k306_ := qs_R_keep (j := 21) (n := 256) h315_ k306_ (by decide)
  replace k312_ := qs_R_keep (j := 21) (n := 256) h315_ k312_ (by decide)
  have k318_ : q_K (qs_R S313_ 21 256 b314_) b314_ = 21 := qs_R_Ks
  refine q_putP X Y (some b314_) rfl kX12 78 rfl fl_X12_182 k6_ _ rfl (Or.inr ⟨_, rfl⟩) (Or.inr ⟨rfl, hnm, rfl⟩) dX12_init_486 (fun H locs Y => ?_)
  refine lv_aload_n hx hb dX12_init_489 rfl (lv_at hl 0 rfl) ?_
  refine lv_sipush (v := 256) hx hb dX12_init_490 (by decide) ?_
  obtain ⟨w322_, h⟩ := h
  refine q_newa X Y (k := 21) (t := 1) (n := 256) (ty := .int) rfl (by decide) rfl (fun _ _ => rfl) (by first | exact rfl | decide | simp [defaultValue]) ar_int (by decide) (by decide) (by decide) w322_ dX12_init_493 (fun b319_ H h320_ h321_ Y => ?_)
  replace h := h b319_ h320_
  replace hu := w322_
  replace k5_ := qs_R_keep (j := 21) (n := 256) h320_ k5_ (by decide)
  replace k6_ := qs_R_keep (j := 21) (n := 256) h320_ k6_ (by decide)
  replace k11_ := qs_R_keep (j := 21) (n := 256) h320_ k11_ (by decide)
  replace k17_ := qs_R_keep (j := 21) (n := 256) h320_ k17_ (by decide)
  replace k23_ := qs_R_keep (j := 21) (n := 256) h320_ k23_ (by decide)
  replace k29_ := qs_R_keep (j := 21) (n := 256) h320_ k29_ (by decide)
  replace k34_ := qs_R_keep (j := 21) (n := 256) h320_ k34_ (by decide)
  replace k40_ := qs_R_keep (j := 21) (n := 256) h320_ k40_ (by decide)
  replace k46_ := qs_R_keep (j := 21) (n := 256) h320_ k46_ (by decide)
  replace k51_ := qs_R_keep (j := 21) (n := 256) h320_ k51_ (by decide)
  replace k57_ := qs_R_keep (j := 21) (n := 256) h320_ k57_ (by decide)
  replace k63_ := qs_R_keep (j := 21) (n := 256) h320_ k63_ (by decide)
  replace k68_ := qs_R_keep (j := 21) (n := 256) h320_ k68_ (by decide)
  replace k74_ := qs_R_keep (j := 21) (n := 256) h320_ k74_ (by decide)
  replace k80_ := qs_R_keep (j := 21) (n := 256) h320_ k80_ (by decide)
  replace k85_ := qs_R_keep (j := 21) (n := 256) h320_ k85_ (by decide)
  replace k91_ := qs_R_keep (j := 21) (n := 256) h320_ k91_ (by decide)
  replace k97_ := qs_R_keep (j := 21) (n := 256) h320_ k97_ (by decide)
  replace k102_ := qs_R_keep (j := 21) (n := 256) h320_ k102_ (by decide)
  replace k108_ := qs_R_keep (j := 21) (n := 256) h320_ k108_ (by decide)
  replace k114_ := qs_R_keep (j := 21) (n := 256) h320_ k114_ (by decide)
  replace k119_ := qs_R_keep (j := 21) (n := 256) h320_ k119_ (by decide)
  replace k125_ := qs_R_keep (j := 21) (n := 256) h320_ k125_ (by decide)
  replace k131_ := qs_R_keep (j := 21) (n := 256) h320_ k131_ (by decide)
  replace k136_ := qs_R_keep (j := 21) (n := 256) h320_ k136_ (by decide)
  replace k142_ := qs_R_keep (j := 21) (n := 256) h320_ k142_ (by decide)
  replace k148_ := qs_R_keep (j := 21) (n := 256) h320_ k148_ (by decide)
  replace k153_ := qs_R_keep (j := 21) (n := 256) h320_ k153_ (by decide)
  replace k159_ := qs_R_keep (j := 21) (n := 256) h320_ k159_ (by decide)
  replace k165_ := qs_R_keep (j := 21) (n := 256) h320_ k165_ (by decide)
  replace k170_ := qs_R_keep (j := 21) (n := 256) h320_ k170_ (by decide)
  replace k176_ := qs_R_keep (j := 21) (n := 256) h320_ k176_ (by decide)
  replace k182_ := qs_R_keep (j := 21) (n := 256) h320_ k182_ (by decide)
  replace k187_ := qs_R_keep (j := 21) (n := 256) h320_ k187_ (by decide)
  replace k193_ := qs_R_keep (j := 21) (n := 256) h320_ k193_ (by decide)
  replace k199_ := qs_R_keep (j := 21) (n := 256) h320_ k199_ (by decide)
  replace k204_ := qs_R_keep (j := 21) (n := 256) h320_ k204_ (by decide)
  replace k210_ := qs_R_keep (j := 21) (n := 256) h320_ k210_ (by decide)
  replace k216_ := qs_R_keep (j := 21) (n := 256) h320_ k216_ (by decide)
  replace k221_ := qs_R_keep (j := 21) (n := 256) h320_ k221_ (by decide)
  replace k227_ := qs_R_keep (j := 21) (n := 256) h320_ k227_ (by decide)
  replace k233_ := qs_R_keep (j := 21) (n := 256) h320_ k233_ (by decide)
  replace k238_ := qs_R_keep (j := 21) (n := 256) h320_ k238_ (by decide)
  replace k244_ := qs_R_keep (j := 21) (n := 256) h320_ k244_ (by decide)
  replace k250_ := qs_R_keep (j := 21) (n := 256) h320_ k250_ (by decide)
  replace k255_ := qs_R_keep (j := 21) (n := 256) h320_ k255_ (by decide)
  replace k261_ := qs_R_keep (j := 21) (n := 256) h320_ k261_ (by decide)
  replace k267_ := qs_R_keep (j := 21) (n := 256) h320_ k267_ (by decide)
  replace k272_ := qs_R_keep (j := 21) (n := 256) h320_ k272_ (by decide)
  replace k278_ := qs_R_keep (j := 21) (n := 256) h320_ k278_ (by decide)
  replace k284_ := qs_R_keep (j := 21) (n := 256) h320_ k284_ (by decide)
  replace k289_ := qs_R_keep (j := 21) (n := 256) h320_ k289_ (by decide)
  replace k295_ := qs_R_keep (j := 21) (n := 256) h320_ k295_ (by decide)
  replace k301_ := qs_R_keep (j := 21) (n := 256) h320_ k301_ (by decide)
  replace k306_ := qs_R_keep (j := 21) (n := 256) h320_ k306_ (by decide)
  replace k312_ := qs_R_keep (j := 21) (n := 256) h320_ k312_ (by decide)
  replace k318_ := qs_R_keep (j := 21) (n := 256) h320_ k318_ (by decide)
  have k323_ : q_K (qs_R (qs_P (qs_R S313_ 21 256 b314_) 2478 a0 (some b314_)) 21 256 b319_) b319_ = 21 := qs_R_Ks
  obtain ⟨S324_, gS324_⟩ : ∃ z : q_S, z = (qs_R (qs_P (qs_R S313_ 21 256 b314_) 2478 a0 (some b314_)) 21 256 b319_) := ⟨_, rfl⟩
  replace Y : q_Y D cy lo s S324_ H locs := by rw [gS324_]; exact Y
  replace h := h S324_ gS324_
  replace k5_ : q_K S324_ b1_ = 20 := by rw [gS324_]; exact k5_
  replace k6_ : q_K S324_ a0 = 13 := by rw [gS324_]; exact k6_
  replace k11_ : q_K S324_ b7_ = 20 := by rw [gS324_]; exact k11_
  replace k17_ : q_K S324_ b13_ = 20 := by rw [gS324_]; exact k17_
  replace k23_ : q_K S324_ b19_ = 21 := by rw [gS324_]; exact k23_
  replace k29_ : q_K S324_ b25_ = 21 := by rw [gS324_]; exact k29_
  replace k34_ : q_K S324_ b30_ = 21 := by rw [gS324_]; exact k34_
  replace k40_ : q_K S324_ b36_ = 21 := by rw [gS324_]; exact k40_
  replace k46_ : q_K S324_ b42_ = 21 := by rw [gS324_]; exact k46_
  replace k51_ : q_K S324_ b47_ = 21 := by rw [gS324_]; exact k51_
  replace k57_ : q_K S324_ b53_ = 21 := by rw [gS324_]; exact k57_
  replace k63_ : q_K S324_ b59_ = 21 := by rw [gS324_]; exact k63_
  replace k68_ : q_K S324_ b64_ = 21 := by rw [gS324_]; exact k68_
  replace k74_ : q_K S324_ b70_ = 21 := by rw [gS324_]; exact k74_
  replace k80_ : q_K S324_ b76_ = 21 := by rw [gS324_]; exact k80_
  replace k85_ : q_K S324_ b81_ = 21 := by rw [gS324_]; exact k85_
  replace k91_ : q_K S324_ b87_ = 21 := by rw [gS324_]; exact k91_
  replace k97_ : q_K S324_ b93_ = 21 := by rw [gS324_]; exact k97_
  replace k102_ : q_K S324_ b98_ = 21 := by rw [gS324_]; exact k102_
  replace k108_ : q_K S324_ b104_ = 21 := by rw [gS324_]; exact k108_
  replace k114_ : q_K S324_ b110_ = 21 := by rw [gS324_]; exact k114_
  replace k119_ : q_K S324_ b115_ = 21 := by rw [gS324_]; exact k119_
  replace k125_ : q_K S324_ b121_ = 22 := by rw [gS324_]; exact k125_
  replace k131_ : q_K S324_ b127_ = 21 := by rw [gS324_]; exact k131_
  replace k136_ : q_K S324_ b132_ = 21 := by rw [gS324_]; exact k136_
  replace k142_ : q_K S324_ b138_ = 21 := by rw [gS324_]; exact k142_
  replace k148_ : q_K S324_ b144_ = 22 := by rw [gS324_]; exact k148_
  replace k153_ : q_K S324_ b149_ = 21 := by rw [gS324_]; exact k153_
  replace k159_ : q_K S324_ b155_ = 22 := by rw [gS324_]; exact k159_
  replace k165_ : q_K S324_ b161_ = 22 := by rw [gS324_]; exact k165_
  replace k170_ : q_K S324_ b166_ = 22 := by rw [gS324_]; exact k170_
  replace k176_ : q_K S324_ b172_ = 21 := by rw [gS324_]; exact k176_
  replace k182_ : q_K S324_ b178_ = 22 := by rw [gS324_]; exact k182_
  replace k187_ : q_K S324_ b183_ = 21 := by rw [gS324_]; exact k187_
  replace k193_ : q_K S324_ b189_ = 22 := by rw [gS324_]; exact k193_
  replace k199_ : q_K S324_ b195_ = 21 := by rw [gS324_]; exact k199_
  replace k204_ : q_K S324_ b200_ = 22 := by rw [gS324_]; exact k204_
  replace k210_ : q_K S324_ b206_ = 21 := by rw [gS324_]; exact k210_
  replace k216_ : q_K S324_ b212_ = 21 := by rw [gS324_]; exact k216_
  replace k221_ : q_K S324_ b217_ = 21 := by rw [gS324_]; exact k221_
  replace k227_ : q_K S324_ b223_ = 21 := by rw [gS324_]; exact k227_
  replace k233_ : q_K S324_ b229_ = 21 := by rw [gS324_]; exact k233_
  replace k238_ : q_K S324_ b234_ = 21 := by rw [gS324_]; exact k238_
  replace k244_ : q_K S324_ b240_ = 20 := by rw [gS324_]; exact k244_
  replace k250_ : q_K S324_ b246_ = 20 := by rw [gS324_]; exact k250_
  replace k255_ : q_K S324_ b251_ = 21 := by rw [gS324_]; exact k255_
  replace k261_ : q_K S324_ b257_ = 21 := by rw [gS324_]; exact k261_
  replace k267_ : q_K S324_ b263_ = 21 := by rw [gS324_]; exact k267_
  replace k272_ : q_K S324_ b268_ = 22 := by rw [gS324_]; exact k272_
  replace k278_ : q_K S324_ b274_ = 21 := by rw [gS324_]; exact k278_
  replace k284_ : q_K S324_ b280_ = 21 := by rw [gS324_]; exact k284_
  replace k289_ : q_K S324_ b285_ = 21 := by rw [gS324_]; exact k289_
  replace k295_ : q_K S324_ b291_ = 21 := by rw [gS324_]; exact k295_
  replace k301_ : q_K S324_ b297_ = 22 := by rw [gS324_]; exact k301_
  replace k306_ : q_K S324_ b302_ = 21 := by rw [gS324_]; exact k306_
  replace k312_ : q_K S324_ b308_ = 21 := by rw [gS324_]; exact k312_
  replace k318_ : q_K S324_ b314_ = 21 := by rw [gS324_]; exact k318_
  replace k323_ : q_K S324_ b319_ = 21 := by rw [gS324_]; exact k323_
  refine q_putP X Y (some b319_) rfl kX12 79 rfl fl_X12_185 k6_ _ rfl (Or.inr ⟨_, rfl⟩) (Or.inr ⟨rfl, hnm, rfl⟩) dX12_init_495 (fun H locs Y => ?_)
  refine lv_aload_n hx hb dX12_init_498 rfl (lv_at hl 0 rfl) ?_
  refine lv_sipush (v := 256) hx hb dX12_init_499 (by decide) ?_
  obtain ⟨w328_, h⟩ := h
  refine q_newa X Y (k := 21) (t := 1) (n := 256) (ty := .int) rfl (by decide) rfl (fun _ _ => rfl) (by first | exact rfl | decide | simp [defaultValue]) ar_int (by decide) (by decide) (by decide) w328_ dX12_init_502 (fun b325_ H h326_ h327_ Y => ?_)
  replace h := h b325_ h326_
  replace hu := w328_
  replace k5_ := qs_R_keep (j := 21) (n := 256) h326_ k5_ (by decide)
  replace k6_ := qs_R_keep (j := 21) (n := 256) h326_ k6_ (by decide)
  replace k11_ := qs_R_keep (j := 21) (n := 256) h326_ k11_ (by decide)
  replace k17_ := qs_R_keep (j := 21) (n := 256) h326_ k17_ (by decide)
  replace k23_ := qs_R_keep (j := 21) (n := 256) h326_ k23_ (by decide)
  replace k29_ := qs_R_keep (j := 21) (n := 256) h326_ k29_ (by decide)
  replace k34_ := qs_R_keep (j := 21) (n := 256) h326_ k34_ (by decide)
  replace k40_ := qs_R_keep (j := 21) (n := 256) h326_ k40_ (by decide)
  replace k46_ := qs_R_keep (j := 21) (n := 256) h326_ k46_ (by decide)
  replace k51_ := qs_R_keep (j := 21) (n := 256) h326_ k51_ (by decide)
  replace k57_ := qs_R_keep (j := 21) (n := 256) h326_ k57_ (by decide)
  replace k63_ := qs_R_keep (j := 21) (n := 256) h326_ k63_ (by decide)
  replace k68_ := qs_R_keep (j := 21) (n := 256) h326_ k68_ (by decide)
  replace k74_ := qs_R_keep (j := 21) (n := 256) h326_ k74_ (by decide)
  replace k80_ := qs_R_keep (j := 21) (n := 256) h326_ k80_ (by decide)
  replace k85_ := qs_R_keep (j := 21) (n := 256) h326_ k85_ (by decide)
  replace k91_ := qs_R_keep (j := 21) (n := 256) h326_ k91_ (by decide)
  replace k97_ := qs_R_keep (j := 21) (n := 256) h326_ k97_ (by decide)
  replace k102_ := qs_R_keep (j := 21) (n := 256) h326_ k102_ (by decide)
  replace k108_ := qs_R_keep (j := 21) (n := 256) h326_ k108_ (by decide)
  replace k114_ := qs_R_keep (j := 21) (n := 256) h326_ k114_ (by decide)
  replace k119_ := qs_R_keep (j := 21) (n := 256) h326_ k119_ (by decide)
  replace k125_ := qs_R_keep (j := 21) (n := 256) h326_ k125_ (by decide)
  replace k131_ := qs_R_keep (j := 21) (n := 256) h326_ k131_ (by decide)
  replace k136_ := qs_R_keep (j := 21) (n := 256) h326_ k136_ (by decide)
  replace k142_ := qs_R_keep (j := 21) (n := 256) h326_ k142_ (by decide)
  replace k148_ := qs_R_keep (j := 21) (n := 256) h326_ k148_ (by decide)
  replace k153_ := qs_R_keep (j := 21) (n := 256) h326_ k153_ (by decide)
  replace k159_ := qs_R_keep (j := 21) (n := 256) h326_ k159_ (by decide)
  replace k165_ := qs_R_keep (j := 21) (n := 256) h326_ k165_ (by decide)
  replace k170_ := qs_R_keep (j := 21) (n := 256) h326_ k170_ (by decide)
  replace k176_ := qs_R_keep (j := 21) (n := 256) h326_ k176_ (by decide)
  replace k182_ := qs_R_keep (j := 21) (n := 256) h326_ k182_ (by decide)
  replace k187_ := qs_R_keep (j := 21) (n := 256) h326_ k187_ (by decide)
  replace k193_ := qs_R_keep (j := 21) (n := 256) h326_ k193_ (by decide)
  replace k199_ := qs_R_keep (j := 21) (n := 256) h326_ k199_ (by decide)
  replace k204_ := qs_R_keep (j := 21) (n := 256) h326_ k204_ (by decide)
  replace k210_ := qs_R_keep (j := 21) (n := 256) h326_ k210_ (by decide)
  replace k216_ := qs_R_keep (j := 21) (n := 256) h326_ k216_ (by decide)
  replace k221_ := qs_R_keep (j := 21) (n := 256) h326_ k221_ (by decide)
  replace k227_ := qs_R_keep (j := 21) (n := 256) h326_ k227_ (by decide)
  replace k233_ := qs_R_keep (j := 21) (n := 256) h326_ k233_ (by decide)
  replace k238_ := qs_R_keep (j := 21) (n := 256) h326_ k238_ (by decide)
  replace k244_ := qs_R_keep (j := 21) (n := 256) h326_ k244_ (by decide)
  replace k250_ := qs_R_keep (j := 21) (n := 256) h326_ k250_ (by decide)
  replace k255_ := qs_R_keep (j := 21) (n := 256) h326_ k255_ (by decide)
  replace k261_ := qs_R_keep (j := 21) (n := 256) h326_ k261_ (by decide)
  replace k267_ := qs_R_keep (j := 21) (n := 256) h326_ k267_ (by decide)
  replace k272_ := qs_R_keep (j := 21) (n := 256) h326_ k272_ (by decide)
  replace k278_ := qs_R_keep (j := 21) (n := 256) h326_ k278_ (by decide)
  replace k284_ := qs_R_keep (j := 21) (n := 256) h326_ k284_ (by decide)
  replace k289_ := qs_R_keep (j := 21) (n := 256) h326_ k289_ (by decide)
  replace k295_ := qs_R_keep (j := 21) (n := 256) h326_ k295_ (by decide)
  replace k301_ := qs_R_keep (j := 21) (n := 256) h326_ k301_ (by decide)
  replace k306_ := qs_R_keep (j := 21) (n := 256) h326_ k306_ (by decide)
  replace k312_ := qs_R_keep (j := 21) (n := 256) h326_ k312_ (by decide)
  replace k318_ := qs_R_keep (j := 21) (n := 256) h326_ k318_ (by decide)
  replace k323_ := qs_R_keep (j := 21) (n := 256) h326_ k323_ (by decide)
  have k329_ : q_K (qs_R (qs_P S324_ 2479 a0 (some b319_)) 21 256 b325_) b325_ = 21 := qs_R_Ks
  refine q_putP X Y (some b325_) rfl kX12 80 rfl fl_X12_188 k6_ _ rfl (Or.inr ⟨_, rfl⟩) (Or.inr ⟨rfl, hnm, rfl⟩) dX12_init_504 (fun H locs Y => ?_)
  obtain ⟨S330_, gS330_⟩ : ∃ z : q_S, z = (qs_P (qs_R (qs_P S324_ 2479 a0 (some b319_)) 21 256 b325_) 2480 a0 (some b325_)) := ⟨_, rfl⟩
  replace Y : q_Y D cy lo s S330_ H locs := by rw [gS330_]; exact Y
  replace h := h S330_ gS330_
  replace k5_ : q_K S330_ b1_ = 20 := by rw [gS330_]; exact k5_
  replace k6_ : q_K S330_ a0 = 13 := by rw [gS330_]; exact k6_
  replace k11_ : q_K S330_ b7_ = 20 := by rw [gS330_]; exact k11_
  replace k17_ : q_K S330_ b13_ = 20 := by rw [gS330_]; exact k17_
  replace k23_ : q_K S330_ b19_ = 21 := by rw [gS330_]; exact k23_
  replace k29_ : q_K S330_ b25_ = 21 := by rw [gS330_]; exact k29_
  replace k34_ : q_K S330_ b30_ = 21 := by rw [gS330_]; exact k34_
  replace k40_ : q_K S330_ b36_ = 21 := by rw [gS330_]; exact k40_
  replace k46_ : q_K S330_ b42_ = 21 := by rw [gS330_]; exact k46_
  replace k51_ : q_K S330_ b47_ = 21 := by rw [gS330_]; exact k51_
  replace k57_ : q_K S330_ b53_ = 21 := by rw [gS330_]; exact k57_
  replace k63_ : q_K S330_ b59_ = 21 := by rw [gS330_]; exact k63_
  replace k68_ : q_K S330_ b64_ = 21 := by rw [gS330_]; exact k68_
  replace k74_ : q_K S330_ b70_ = 21 := by rw [gS330_]; exact k74_
  replace k80_ : q_K S330_ b76_ = 21 := by rw [gS330_]; exact k80_
  replace k85_ : q_K S330_ b81_ = 21 := by rw [gS330_]; exact k85_
  replace k91_ : q_K S330_ b87_ = 21 := by rw [gS330_]; exact k91_
  replace k97_ : q_K S330_ b93_ = 21 := by rw [gS330_]; exact k97_
  replace k102_ : q_K S330_ b98_ = 21 := by rw [gS330_]; exact k102_
  replace k108_ : q_K S330_ b104_ = 21 := by rw [gS330_]; exact k108_
  replace k114_ : q_K S330_ b110_ = 21 := by rw [gS330_]; exact k114_
  replace k119_ : q_K S330_ b115_ = 21 := by rw [gS330_]; exact k119_
  replace k125_ : q_K S330_ b121_ = 22 := by rw [gS330_]; exact k125_
  replace k131_ : q_K S330_ b127_ = 21 := by rw [gS330_]; exact k131_
  replace k136_ : q_K S330_ b132_ = 21 := by rw [gS330_]; exact k136_
  replace k142_ : q_K S330_ b138_ = 21 := by rw [gS330_]; exact k142_
  replace k148_ : q_K S330_ b144_ = 22 := by rw [gS330_]; exact k148_
  replace k153_ : q_K S330_ b149_ = 21 := by rw [gS330_]; exact k153_
  replace k159_ : q_K S330_ b155_ = 22 := by rw [gS330_]; exact k159_
  replace k165_ : q_K S330_ b161_ = 22 := by rw [gS330_]; exact k165_
  replace k170_ : q_K S330_ b166_ = 22 := by rw [gS330_]; exact k170_
  replace k176_ : q_K S330_ b172_ = 21 := by rw [gS330_]; exact k176_
  replace k182_ : q_K S330_ b178_ = 22 := by rw [gS330_]; exact k182_
  replace k187_ : q_K S330_ b183_ = 21 := by rw [gS330_]; exact k187_
  replace k193_ : q_K S330_ b189_ = 22 := by rw [gS330_]; exact k193_
  replace k199_ : q_K S330_ b195_ = 21 := by rw [gS330_]; exact k199_
  replace k204_ : q_K S330_ b200_ = 22 := by rw [gS330_]; exact k204_
  replace k210_ : q_K S330_ b206_ = 21 := by rw [gS330_]; exact k210_
  replace k216_ : q_K S330_ b212_ = 21 := by rw [gS330_]; exact k216_
  replace k221_ : q_K S330_ b217_ = 21 := by rw [gS330_]; exact k221_
  replace k227_ : q_K S330_ b223_ = 21 := by rw [gS330_]; exact k227_
  replace k233_ : q_K S330_ b229_ = 21 := by rw [gS330_]; exact k233_
  replace k238_ : q_K S330_ b234_ = 21 := by rw [gS330_]; exact k238_
  replace k244_ : q_K S330_ b240_ = 20 := by rw [gS330_]; exact k244_
  replace k250_ : q_K S330_ b246_ = 20 := by rw [gS330_]; exact k250_
  replace k255_ : q_K S330_ b251_ = 21 := by rw [gS330_]; exact k255_
  replace k261_ : q_K S330_ b257_ = 21 := by rw [gS330_]; exact k261_
  replace k267_ : q_K S330_ b263_ = 21 := by rw [gS330_]; exact k267_
  replace k272_ : q_K S330_ b268_ = 22 := by rw [gS330_]; exact k272_
  replace k278_ : q_K S330_ b274_ = 21 := by rw [gS330_]; exact k278_
  replace k284_ : q_K S330_ b280_ = 21 := by rw [gS330_]; exact k284_
  replace k289_ : q_K S330_ b285_ = 21 := by rw [gS330_]; exact k289_
  replace k295_ : q_K S330_ b291_ = 21 := by rw [gS330_]; exact k295_
  replace k301_ : q_K S330_ b297_ = 22 := by rw [gS330_]; exact k301_
  replace k306_ : q_K S330_ b302_ = 21 := by rw [gS330_]; exact k306_
  replace k312_ : q_K S330_ b308_ = 21 := by rw [gS330_]; exact k312_
  replace k318_ : q_K S330_ b314_ = 21 := by rw [gS330_]; exact k318_
  replace k323_ : q_K S330_ b319_ = 21 := by rw [gS330_]; exact k323_
  replace k329_ : q_K S330_ b325_ = 21 := by rw [gS330_]; exact k329_
  refine lv_aload_n hx hb dX12_init_507 rfl (lv_at hl 0 rfl) ?_
  refine lv_sipush (v := 256) hx hb dX12_init_508 (by decide) ?_
  obtain ⟨w334_, h⟩ := h
  refine q_newa X Y (k := 21) (t := 1) (n := 256) (ty := .int) rfl (by decide) rfl (fun _ _ => rfl) (by first | exact rfl | decide | simp [defaultValue]) ar_int (by decide) (by decide) (by decide) w334_ dX12_init_511 (fun b331_ H h332_ h333_ Y => ?_)
  replace h := h b331_ h332_
  replace hu := w334_
  replace k5_ := qs_R_keep (j := 21) (n := 256) h332_ k5_ (by decide)
  replace k6_ := qs_R_keep (j := 21) (n := 256) h332_ k6_ (by decide)
  replace k11_ := qs_R_keep (j := 21) (n := 256) h332_ k11_ (by decide)
  replace k17_ := qs_R_keep (j := 21) (n := 256) h332_ k17_ (by decide)
  replace k23_ := qs_R_keep (j := 21) (n := 256) h332_ k23_ (by decide)
  replace k29_ := qs_R_keep (j := 21) (n := 256) h332_ k29_ (by decide)
  replace k34_ := qs_R_keep (j := 21) (n := 256) h332_ k34_ (by decide)
  replace k40_ := qs_R_keep (j := 21) (n := 256) h332_ k40_ (by decide)
  replace k46_ := qs_R_keep (j := 21) (n := 256) h332_ k46_ (by decide)
  replace k51_ := qs_R_keep (j := 21) (n := 256) h332_ k51_ (by decide)
  replace k57_ := qs_R_keep (j := 21) (n := 256) h332_ k57_ (by decide)
  replace k63_ := qs_R_keep (j := 21) (n := 256) h332_ k63_ (by decide)
  replace k68_ := qs_R_keep (j := 21) (n := 256) h332_ k68_ (by decide)
  replace k74_ := qs_R_keep (j := 21) (n := 256) h332_ k74_ (by decide)
  replace k80_ := qs_R_keep (j := 21) (n := 256) h332_ k80_ (by decide)
  replace k85_ := qs_R_keep (j := 21) (n := 256) h332_ k85_ (by decide)
  replace k91_ := qs_R_keep (j := 21) (n := 256) h332_ k91_ (by decide)
  replace k97_ := qs_R_keep (j := 21) (n := 256) h332_ k97_ (by decide)
  replace k102_ := qs_R_keep (j := 21) (n := 256) h332_ k102_ (by decide)
  replace k108_ := qs_R_keep (j := 21) (n := 256) h332_ k108_ (by decide)
  replace k114_ := qs_R_keep (j := 21) (n := 256) h332_ k114_ (by decide)
  replace k119_ := qs_R_keep (j := 21) (n := 256) h332_ k119_ (by decide)
  replace k125_ := qs_R_keep (j := 21) (n := 256) h332_ k125_ (by decide)
  replace k131_ := qs_R_keep (j := 21) (n := 256) h332_ k131_ (by decide)
  replace k136_ := qs_R_keep (j := 21) (n := 256) h332_ k136_ (by decide)
  replace k142_ := qs_R_keep (j := 21) (n := 256) h332_ k142_ (by decide)
  replace k148_ := qs_R_keep (j := 21) (n := 256) h332_ k148_ (by decide)
  replace k153_ := qs_R_keep (j := 21) (n := 256) h332_ k153_ (by decide)
  replace k159_ := qs_R_keep (j := 21) (n := 256) h332_ k159_ (by decide)
  replace k165_ := qs_R_keep (j := 21) (n := 256) h332_ k165_ (by decide)
  replace k170_ := qs_R_keep (j := 21) (n := 256) h332_ k170_ (by decide)
  replace k176_ := qs_R_keep (j := 21) (n := 256) h332_ k176_ (by decide)
  replace k182_ := qs_R_keep (j := 21) (n := 256) h332_ k182_ (by decide)
  replace k187_ := qs_R_keep (j := 21) (n := 256) h332_ k187_ (by decide)
  replace k193_ := qs_R_keep (j := 21) (n := 256) h332_ k193_ (by decide)
  replace k199_ := qs_R_keep (j := 21) (n := 256) h332_ k199_ (by decide)
  replace k204_ := qs_R_keep (j := 21) (n := 256) h332_ k204_ (by decide)
  replace k210_ := qs_R_keep (j := 21) (n := 256) h332_ k210_ (by decide)
  replace k216_ := qs_R_keep (j := 21) (n := 256) h332_ k216_ (by decide)
  replace k221_ := qs_R_keep (j := 21) (n := 256) h332_ k221_ (by decide)
  replace k227_ := qs_R_keep (j := 21) (n := 256) h332_ k227_ (by decide)
  replace k233_ := qs_R_keep (j := 21) (n := 256) h332_ k233_ (by decide)
  replace k238_ := qs_R_keep (j := 21) (n := 256) h332_ k238_ (by decide)
  replace k244_ := qs_R_keep (j := 21) (n := 256) h332_ k244_ (by decide)
  replace k250_ := qs_R_keep (j := 21) (n := 256) h332_ k250_ (by decide)
  replace k255_ := qs_R_keep (j := 21) (n := 256) h332_ k255_ (by decide)
  replace k261_ := qs_R_keep (j := 21) (n := 256) h332_ k261_ (by decide)
  replace k267_ := qs_R_keep (j := 21) (n := 256) h332_ k267_ (by decide)
  replace k272_ := qs_R_keep (j := 21) (n := 256) h332_ k272_ (by decide)
  replace k278_ := qs_R_keep (j := 21) (n := 256) h332_ k278_ (by decide)
  replace k284_ := qs_R_keep (j := 21) (n := 256) h332_ k284_ (by decide)
  replace k289_ := qs_R_keep (j := 21) (n := 256) h332_ k289_ (by decide)
  replace k295_ := qs_R_keep (j := 21) (n := 256) h332_ k295_ (by decide)
  replace k301_ := qs_R_keep (j := 21) (n := 256) h332_ k301_ (by decide)
  replace k306_ := qs_R_keep (j := 21) (n := 256) h332_ k306_ (by decide)
  replace k312_ := qs_R_keep (j := 21) (n := 256) h332_ k312_ (by decide)
  replace k318_ := qs_R_keep (j := 21) (n := 256) h332_ k318_ (by decide)
  replace k323_ := qs_R_keep (j := 21) (n := 256) h332_ k323_ (by decide)
  replace k329_ := qs_R_keep (j := 21) (n := 256) h332_ k329_ (by decide)
  have k335_ : q_K (qs_R S330_ 21 256 b331_) b331_ = 21 := qs_R_Ks
  refine q_putP X Y (some b331_) rfl kX12 81 rfl fl_X12_191 k6_ _ rfl (Or.inr ⟨_, rfl⟩) (Or.inr ⟨rfl, hnm, rfl⟩) dX12_init_513 (fun H locs Y => ?_)
  refine lv_aload_n hx hb dX12_init_516 rfl (lv_at hl 0 rfl) ?_
  refine lv_sipush (v := 256) hx hb dX12_init_517 (by decide) ?_
  obtain ⟨w339_, h⟩ := h
  refine q_newa X Y (k := 21) (t := 1) (n := 256) (ty := .int) rfl (by decide) rfl (fun _ _ => rfl) (by first | exact rfl | decide | simp [defaultValue]) ar_int (by decide) (by decide) (by decide) w339_ dX12_init_520 (fun b336_ H h337_ h338_ Y => ?_)
  replace h := h b336_ h337_
  replace hu := w339_
  replace k5_ := qs_R_keep (j := 21) (n := 256) h337_ k5_ (by decide)
  replace k6_ := qs_R_keep (j := 21) (n := 256) h337_ k6_ (by decide)
  replace k11_ := qs_R_keep (j := 21) (n := 256) h337_ k11_ (by decide)
  replace k17_ := qs_R_keep (j := 21) (n := 256) h337_ k17_ (by decide)
  replace k23_ := qs_R_keep (j := 21) (n := 256) h337_ k23_ (by decide)
  replace k29_ := qs_R_keep (j := 21) (n := 256) h337_ k29_ (by decide)
  replace k34_ := qs_R_keep (j := 21) (n := 256) h337_ k34_ (by decide)
  replace k40_ := qs_R_keep (j := 21) (n := 256) h337_ k40_ (by decide)
  replace k46_ := qs_R_keep (j := 21) (n := 256) h337_ k46_ (by decide)
  replace k51_ := qs_R_keep (j := 21) (n := 256) h337_ k51_ (by decide)
  replace k57_ := qs_R_keep (j := 21) (n := 256) h337_ k57_ (by decide)
  replace k63_ := qs_R_keep (j := 21) (n := 256) h337_ k63_ (by decide)
  replace k68_ := qs_R_keep (j := 21) (n := 256) h337_ k68_ (by decide)
  replace k74_ := qs_R_keep (j := 21) (n := 256) h337_ k74_ (by decide)
  replace k80_ := qs_R_keep (j := 21) (n := 256) h337_ k80_ (by decide)
  replace k85_ := qs_R_keep (j := 21) (n := 256) h337_ k85_ (by decide)
  replace k91_ := qs_R_keep (j := 21) (n := 256) h337_ k91_ (by decide)
  replace k97_ := qs_R_keep (j := 21) (n := 256) h337_ k97_ (by decide)
  replace k102_ := qs_R_keep (j := 21) (n := 256) h337_ k102_ (by decide)
  replace k108_ := qs_R_keep (j := 21) (n := 256) h337_ k108_ (by decide)
  replace k114_ := qs_R_keep (j := 21) (n := 256) h337_ k114_ (by decide)
  replace k119_ := qs_R_keep (j := 21) (n := 256) h337_ k119_ (by decide)
  replace k125_ := qs_R_keep (j := 21) (n := 256) h337_ k125_ (by decide)
  replace k131_ := qs_R_keep (j := 21) (n := 256) h337_ k131_ (by decide)
  replace k136_ := qs_R_keep (j := 21) (n := 256) h337_ k136_ (by decide)
  replace k142_ := qs_R_keep (j := 21) (n := 256) h337_ k142_ (by decide)
  replace k148_ := qs_R_keep (j := 21) (n := 256) h337_ k148_ (by decide)
  replace k153_ := qs_R_keep (j := 21) (n := 256) h337_ k153_ (by decide)
  replace k159_ := qs_R_keep (j := 21) (n := 256) h337_ k159_ (by decide)
  replace k165_ := qs_R_keep (j := 21) (n := 256) h337_ k165_ (by decide)
  replace k170_ := qs_R_keep (j := 21) (n := 256) h337_ k170_ (by decide)
  replace k176_ := qs_R_keep (j := 21) (n := 256) h337_ k176_ (by decide)
  replace k182_ := qs_R_keep (j := 21) (n := 256) h337_ k182_ (by decide)
  replace k187_ := qs_R_keep (j := 21) (n := 256) h337_ k187_ (by decide)
  replace k193_ := qs_R_keep (j := 21) (n := 256) h337_ k193_ (by decide)
  replace k199_ := qs_R_keep (j := 21) (n := 256) h337_ k199_ (by decide)
  replace k204_ := qs_R_keep (j := 21) (n := 256) h337_ k204_ (by decide)
  replace k210_ := qs_R_keep (j := 21) (n := 256) h337_ k210_ (by decide)
  replace k216_ := qs_R_keep (j := 21) (n := 256) h337_ k216_ (by decide)
  replace k221_ := qs_R_keep (j := 21) (n := 256) h337_ k221_ (by decide)
  replace k227_ := qs_R_keep (j := 21) (n := 256) h337_ k227_ (by decide)
  replace k233_ := qs_R_keep (j := 21) (n := 256) h337_ k233_ (by decide)
  replace k238_ := qs_R_keep (j := 21) (n := 256) h337_ k238_ (by decide)
  replace k244_ := qs_R_keep (j := 21) (n := 256) h337_ k244_ (by decide)
  replace k250_ := qs_R_keep (j := 21) (n := 256) h337_ k250_ (by decide)
  replace k255_ := qs_R_keep (j := 21) (n := 256) h337_ k255_ (by decide)
  replace k261_ := qs_R_keep (j := 21) (n := 256) h337_ k261_ (by decide)
  replace k267_ := qs_R_keep (j := 21) (n := 256) h337_ k267_ (by decide)
  replace k272_ := qs_R_keep (j := 21) (n := 256) h337_ k272_ (by decide)
  replace k278_ := qs_R_keep (j := 21) (n := 256) h337_ k278_ (by decide)
  replace k284_ := qs_R_keep (j := 21) (n := 256) h337_ k284_ (by decide)
  replace k289_ := qs_R_keep (j := 21) (n := 256) h337_ k289_ (by decide)
  replace k295_ := qs_R_keep (j := 21) (n := 256) h337_ k295_ (by decide)
  replace k301_ := qs_R_keep (j := 21) (n := 256) h337_ k301_ (by decide)
  replace k306_ := qs_R_keep (j := 21) (n := 256) h337_ k306_ (by decide)
  replace k312_ := qs_R_keep (j := 21) (n := 256) h337_ k312_ (by decide)
  replace k318_ := qs_R_keep (j := 21) (n := 256) h337_ k318_ (by decide)
  replace k323_ := qs_R_keep (j := 21) (n := 256) h337_ k323_ (by decide)
  replace k329_ := qs_R_keep (j := 21) (n := 256) h337_ k329_ (by decide)
  replace k335_ := qs_R_keep (j := 21) (n := 256) h337_ k335_ (by decide)
  have k340_ : q_K (qs_R (qs_P (qs_R S330_ 21 256 b331_) 2481 a0 (some b331_)) 21 256 b336_) b336_ = 21 := qs_R_Ks
  obtain ⟨S341_, gS341_⟩ : ∃ z : q_S, z = (qs_R (qs_P (qs_R S330_ 21 256 b331_) 2481 a0 (some b331_)) 21 256 b336_) := ⟨_, rfl⟩
  replace Y : q_Y D cy lo s S341_ H locs := by rw [gS341_]; exact Y
  replace h := h S341_ gS341_
  replace k5_ : q_K S341_ b1_ = 20 := by rw [gS341_]; exact k5_
  replace k6_ : q_K S341_ a0 = 13 := by rw [gS341_]; exact k6_
  replace k11_ : q_K S341_ b7_ = 20 := by rw [gS341_]; exact k11_
  replace k17_ : q_K S341_ b13_ = 20 := by rw [gS341_]; exact k17_
  replace k23_ : q_K S341_ b19_ = 21 := by rw [gS341_]; exact k23_
  replace k29_ : q_K S341_ b25_ = 21 := by rw [gS341_]; exact k29_
  replace k34_ : q_K S341_ b30_ = 21 := by rw [gS341_]; exact k34_
  replace k40_ : q_K S341_ b36_ = 21 := by rw [gS341_]; exact k40_
  replace k46_ : q_K S341_ b42_ = 21 := by rw [gS341_]; exact k46_
  replace k51_ : q_K S341_ b47_ = 21 := by rw [gS341_]; exact k51_
  replace k57_ : q_K S341_ b53_ = 21 := by rw [gS341_]; exact k57_
  replace k63_ : q_K S341_ b59_ = 21 := by rw [gS341_]; exact k63_
  replace k68_ : q_K S341_ b64_ = 21 := by rw [gS341_]; exact k68_
  replace k74_ : q_K S341_ b70_ = 21 := by rw [gS341_]; exact k74_
  replace k80_ : q_K S341_ b76_ = 21 := by rw [gS341_]; exact k80_
  replace k85_ : q_K S341_ b81_ = 21 := by rw [gS341_]; exact k85_
  replace k91_ : q_K S341_ b87_ = 21 := by rw [gS341_]; exact k91_
  replace k97_ : q_K S341_ b93_ = 21 := by rw [gS341_]; exact k97_
  replace k102_ : q_K S341_ b98_ = 21 := by rw [gS341_]; exact k102_
  replace k108_ : q_K S341_ b104_ = 21 := by rw [gS341_]; exact k108_
  replace k114_ : q_K S341_ b110_ = 21 := by rw [gS341_]; exact k114_
  replace k119_ : q_K S341_ b115_ = 21 := by rw [gS341_]; exact k119_
  replace k125_ : q_K S341_ b121_ = 22 := by rw [gS341_]; exact k125_
  replace k131_ : q_K S341_ b127_ = 21 := by rw [gS341_]; exact k131_
  replace k136_ : q_K S341_ b132_ = 21 := by rw [gS341_]; exact k136_
  replace k142_ : q_K S341_ b138_ = 21 := by rw [gS341_]; exact k142_
  replace k148_ : q_K S341_ b144_ = 22 := by rw [gS341_]; exact k148_
  replace k153_ : q_K S341_ b149_ = 21 := by rw [gS341_]; exact k153_
  replace k159_ : q_K S341_ b155_ = 22 := by rw [gS341_]; exact k159_
  replace k165_ : q_K S341_ b161_ = 22 := by rw [gS341_]; exact k165_
  replace k170_ : q_K S341_ b166_ = 22 := by rw [gS341_]; exact k170_
  replace k176_ : q_K S341_ b172_ = 21 := by rw [gS341_]; exact k176_
  replace k182_ : q_K S341_ b178_ = 22 := by rw [gS341_]; exact k182_
  replace k187_ : q_K S341_ b183_ = 21 := by rw [gS341_]; exact k187_
  replace k193_ : q_K S341_ b189_ = 22 := by rw [gS341_]; exact k193_
  replace k199_ : q_K S341_ b195_ = 21 := by rw [gS341_]; exact k199_
  replace k204_ : q_K S341_ b200_ = 22 := by rw [gS341_]; exact k204_
  replace k210_ : q_K S341_ b206_ = 21 := by rw [gS341_]; exact k210_
  replace k216_ : q_K S341_ b212_ = 21 := by rw [gS341_]; exact k216_
  replace k221_ : q_K S341_ b217_ = 21 := by rw [gS341_]; exact k221_
  replace k227_ : q_K S341_ b223_ = 21 := by rw [gS341_]; exact k227_
  replace k233_ : q_K S341_ b229_ = 21 := by rw [gS341_]; exact k233_
  replace k238_ : q_K S341_ b234_ = 21 := by rw [gS341_]; exact k238_
  replace k244_ : q_K S341_ b240_ = 20 := by rw [gS341_]; exact k244_
  replace k250_ : q_K S341_ b246_ = 20 := by rw [gS341_]; exact k250_
  replace k255_ : q_K S341_ b251_ = 21 := by rw [gS341_]; exact k255_
  replace k261_ : q_K S341_ b257_ = 21 := by rw [gS341_]; exact k261_
  replace k267_ : q_K S341_ b263_ = 21 := by rw [gS341_]; exact k267_
  replace k272_ : q_K S341_ b268_ = 22 := by rw [gS341_]; exact k272_
  replace k278_ : q_K S341_ b274_ = 21 := by rw [gS341_]; exact k278_
  replace k284_ : q_K S341_ b280_ = 21 := by rw [gS341_]; exact k284_
  replace k289_ : q_K S341_ b285_ = 21 := by rw [gS341_]; exact k289_
  replace k295_ : q_K S341_ b291_ = 21 := by rw [gS341_]; exact k295_
  replace k301_ : q_K S341_ b297_ = 22 := by rw [gS341_]; exact k301_
  replace k306_ : q_K S341_ b302_ = 21 := by rw [gS341_]; exact k306_
  replace k312_ : q_K S341_ b308_ = 21 := by rw [gS341_]; exact k312_
  replace k318_ : q_K S341_ b314_ = 21 := by rw [gS341_]; exact k318_
  replace k323_ : q_K S341_ b319_ = 21 := by rw [gS341_]; exact k323_
  replace k329_ : q_K S341_ b325_ = 21 := by rw [gS341_]; exact k329_
  replace k335_ : q_K S341_ b331_ = 21 := by rw [gS341_]; exact k335_
  replace k340_ : q_K S341_ b336_ = 21 := by rw [gS341_]; exact k340_
  refine q_putP X Y (some b336_) rfl kX12 82 rfl fl_X12_194 k6_ _ rfl (Or.inr ⟨_, rfl⟩) (Or.inr ⟨rfl, hnm, rfl⟩) dX12_init_522 (fun H locs Y => ?_)
  refine lv_aload_n hx hb dX12_init_525 rfl (lv_at hl 0 rfl) ?_
  refine lv_bipush (v := 16) hx hb dX12_init_526 (by decide) ?_
  obtain ⟨w345_, h⟩ := h
  refine q_newa X Y (k := 21) (t := 1) (n := 16) (ty := .int) rfl (by decide) rfl (fun _ _ => rfl) (by first | exact rfl | decide | simp [defaultValue]) ar_int (by decide) (by decide) (by decide) w345_ dX12_init_528 (fun b342_ H h343_ h344_ Y => ?_)
  replace h := h b342_ h343_
  replace hu := w345_
  replace k5_ := qs_R_keep (j := 21) (n := 16) h343_ k5_ (by decide)
  replace k6_ := qs_R_keep (j := 21) (n := 16) h343_ k6_ (by decide)
  replace k11_ := qs_R_keep (j := 21) (n := 16) h343_ k11_ (by decide)
  replace k17_ := qs_R_keep (j := 21) (n := 16) h343_ k17_ (by decide)
  replace k23_ := qs_R_keep (j := 21) (n := 16) h343_ k23_ (by decide)
  replace k29_ := qs_R_keep (j := 21) (n := 16) h343_ k29_ (by decide)
  replace k34_ := qs_R_keep (j := 21) (n := 16) h343_ k34_ (by decide)
  replace k40_ := qs_R_keep (j := 21) (n := 16) h343_ k40_ (by decide)
  replace k46_ := qs_R_keep (j := 21) (n := 16) h343_ k46_ (by decide)
  replace k51_ := qs_R_keep (j := 21) (n := 16) h343_ k51_ (by decide)
  replace k57_ := qs_R_keep (j := 21) (n := 16) h343_ k57_ (by decide)
  replace k63_ := qs_R_keep (j := 21) (n := 16) h343_ k63_ (by decide)
  replace k68_ := qs_R_keep (j := 21) (n := 16) h343_ k68_ (by decide)
  replace k74_ := qs_R_keep (j := 21) (n := 16) h343_ k74_ (by decide)
  replace k80_ := qs_R_keep (j := 21) (n := 16) h343_ k80_ (by decide)
  replace k85_ := qs_R_keep (j := 21) (n := 16) h343_ k85_ (by decide)
  replace k91_ := qs_R_keep (j := 21) (n := 16) h343_ k91_ (by decide)
  replace k97_ := qs_R_keep (j := 21) (n := 16) h343_ k97_ (by decide)
  replace k102_ := qs_R_keep (j := 21) (n := 16) h343_ k102_ (by decide)
  replace k108_ := qs_R_keep (j := 21) (n := 16) h343_ k108_ (by decide)
  replace k114_ := qs_R_keep (j := 21) (n := 16) h343_ k114_ (by decide)
  replace k119_ := qs_R_keep (j := 21) (n := 16) h343_ k119_ (by decide)
  replace k125_ := qs_R_keep (j := 21) (n := 16) h343_ k125_ (by decide)
  replace k131_ := qs_R_keep (j := 21) (n := 16) h343_ k131_ (by decide)
  replace k136_ := qs_R_keep (j := 21) (n := 16) h343_ k136_ (by decide)
  replace k142_ := qs_R_keep (j := 21) (n := 16) h343_ k142_ (by decide)
  replace k148_ := qs_R_keep (j := 21) (n := 16) h343_ k148_ (by decide)
  replace k153_ := qs_R_keep (j := 21) (n := 16) h343_ k153_ (by decide)
  replace k159_ := qs_R_keep (j := 21) (n := 16) h343_ k159_ (by decide)
  replace k165_ := qs_R_keep (j := 21) (n := 16) h343_ k165_ (by decide)
  replace k170_ := qs_R_keep (j := 21) (n := 16) h343_ k170_ (by decide)
  replace k176_ := qs_R_keep (j := 21) (n := 16) h343_ k176_ (by decide)
  replace k182_ := qs_R_keep (j := 21) (n := 16) h343_ k182_ (by decide)
  replace k187_ := qs_R_keep (j := 21) (n := 16) h343_ k187_ (by decide)
  replace k193_ := qs_R_keep (j := 21) (n := 16) h343_ k193_ (by decide)
  replace k199_ := qs_R_keep (j := 21) (n := 16) h343_ k199_ (by decide)
  replace k204_ := qs_R_keep (j := 21) (n := 16) h343_ k204_ (by decide)
  replace k210_ := qs_R_keep (j := 21) (n := 16) h343_ k210_ (by decide)
  replace k216_ := qs_R_keep (j := 21) (n := 16) h343_ k216_ (by decide)
  replace k221_ := qs_R_keep (j := 21) (n := 16) h343_ k221_ (by decide)
  replace k227_ := qs_R_keep (j := 21) (n := 16) h343_ k227_ (by decide)
  replace k233_ := qs_R_keep (j := 21) (n := 16) h343_ k233_ (by decide)
  replace k238_ := qs_R_keep (j := 21) (n := 16) h343_ k238_ (by decide)
  replace k244_ := qs_R_keep (j := 21) (n := 16) h343_ k244_ (by decide)
  replace k250_ := qs_R_keep (j := 21) (n := 16) h343_ k250_ (by decide)
  replace k255_ := qs_R_keep (j := 21) (n := 16) h343_ k255_ (by decide)
  replace k261_ := qs_R_keep (j := 21) (n := 16) h343_ k261_ (by decide)
  replace k267_ := qs_R_keep (j := 21) (n := 16) h343_ k267_ (by decide)
  replace k272_ := qs_R_keep (j := 21) (n := 16) h343_ k272_ (by decide)
  replace k278_ := qs_R_keep (j := 21) (n := 16) h343_ k278_ (by decide)
  replace k284_ := qs_R_keep (j := 21) (n := 16) h343_ k284_ (by decide)
  replace k289_ := qs_R_keep (j := 21) (n := 16) h343_ k289_ (by decide)
  replace k295_ := qs_R_keep (j := 21) (n := 16) h343_ k295_ (by decide)
  replace k301_ := qs_R_keep (j := 21) (n := 16) h343_ k301_ (by decide)
  replace k306_ := qs_R_keep (j := 21) (n := 16) h343_ k306_ (by decide)
  replace k312_ := qs_R_keep (j := 21) (n := 16) h343_ k312_ (by decide)
  replace k318_ := qs_R_keep (j := 21) (n := 16) h343_ k318_ (by decide)
  replace k323_ := qs_R_keep (j := 21) (n := 16) h343_ k323_ (by decide)
  replace k329_ := qs_R_keep (j := 21) (n := 16) h343_ k329_ (by decide)
  replace k335_ := qs_R_keep (j := 21) (n := 16) h343_ k335_ (by decide)
  replace k340_ := qs_R_keep (j := 21) (n := 16) h343_ k340_ (by decide)
  have k346_ : q_K (qs_R (qs_P S341_ 2482 a0 (some b336_)) 21 16 b342_) b342_ = 21 := qs_R_Ks
  refine q_putP X Y (some b342_) rfl kX12 83 rfl fl_X12_197 k6_ _ rfl (Or.inr ⟨_, rfl⟩) (Or.inr ⟨rfl, hnm, rfl⟩) dX12_init_530 (fun H locs Y => ?_)
  obtain ⟨S347_, gS347_⟩ : ∃ z : q_S, z = (qs_P (qs_R (qs_P S341_ 2482 a0 (some b336_)) 21 16 b342_) 2483 a0 (some b342_)) := ⟨_, rfl⟩
  replace Y : q_Y D cy lo s S347_ H locs := by rw [gS347_]; exact Y
  replace h := h S347_ gS347_
  replace k5_ : q_K S347_ b1_ = 20 := by rw [gS347_]; exact k5_
  replace k6_ : q_K S347_ a0 = 13 := by rw [gS347_]; exact k6_
  replace k11_ : q_K S347_ b7_ = 20 := by rw [gS347_]; exact k11_
  replace k17_ : q_K S347_ b13_ = 20 := by rw [gS347_]; exact k17_
  replace k23_ : q_K S347_ b19_ = 21 := by rw [gS347_]; exact k23_
  replace k29_ : q_K S347_ b25_ = 21 := by rw [gS347_]; exact k29_
  replace k34_ : q_K S347_ b30_ = 21 := by rw [gS347_]; exact k34_
  replace k40_ : q_K S347_ b36_ = 21 := by rw [gS347_]; exact k40_
  replace k46_ : q_K S347_ b42_ = 21 := by rw [gS347_]; exact k46_
  replace k51_ : q_K S347_ b47_ = 21 := by rw [gS347_]; exact k51_
  replace k57_ : q_K S347_ b53_ = 21 := by rw [gS347_]; exact k57_
  replace k63_ : q_K S347_ b59_ = 21 := by rw [gS347_]; exact k63_
  replace k68_ : q_K S347_ b64_ = 21 := by rw [gS347_]; exact k68_
  replace k74_ : q_K S347_ b70_ = 21 := by rw [gS347_]; exact k74_
  replace k80_ : q_K S347_ b76_ = 21 := by rw [gS347_]; exact k80_
  replace k85_ : q_K S347_ b81_ = 21 := by rw [gS347_]; exact k85_
  replace k91_ : q_K S347_ b87_ = 21 := by rw [gS347_]; exact k91_
  replace k97_ : q_K S347_ b93_ = 21 := by rw [gS347_]; exact k97_
  replace k102_ : q_K S347_ b98_ = 21 := by rw [gS347_]; exact k102_
  replace k108_ : q_K S347_ b104_ = 21 := by rw [gS347_]; exact k108_
  replace k114_ : q_K S347_ b110_ = 21 := by rw [gS347_]; exact k114_
  replace k119_ : q_K S347_ b115_ = 21 := by rw [gS347_]; exact k119_
  replace k125_ : q_K S347_ b121_ = 22 := by rw [gS347_]; exact k125_
  replace k131_ : q_K S347_ b127_ = 21 := by rw [gS347_]; exact k131_
  replace k136_ : q_K S347_ b132_ = 21 := by rw [gS347_]; exact k136_
  replace k142_ : q_K S347_ b138_ = 21 := by rw [gS347_]; exact k142_
  replace k148_ : q_K S347_ b144_ = 22 := by rw [gS347_]; exact k148_
  replace k153_ : q_K S347_ b149_ = 21 := by rw [gS347_]; exact k153_
  replace k159_ : q_K S347_ b155_ = 22 := by rw [gS347_]; exact k159_
  replace k165_ : q_K S347_ b161_ = 22 := by rw [gS347_]; exact k165_
  replace k170_ : q_K S347_ b166_ = 22 := by rw [gS347_]; exact k170_
  replace k176_ : q_K S347_ b172_ = 21 := by rw [gS347_]; exact k176_
  replace k182_ : q_K S347_ b178_ = 22 := by rw [gS347_]; exact k182_
  replace k187_ : q_K S347_ b183_ = 21 := by rw [gS347_]; exact k187_
  replace k193_ : q_K S347_ b189_ = 22 := by rw [gS347_]; exact k193_
  replace k199_ : q_K S347_ b195_ = 21 := by rw [gS347_]; exact k199_
  replace k204_ : q_K S347_ b200_ = 22 := by rw [gS347_]; exact k204_
  replace k210_ : q_K S347_ b206_ = 21 := by rw [gS347_]; exact k210_
  replace k216_ : q_K S347_ b212_ = 21 := by rw [gS347_]; exact k216_
  replace k221_ : q_K S347_ b217_ = 21 := by rw [gS347_]; exact k221_
  replace k227_ : q_K S347_ b223_ = 21 := by rw [gS347_]; exact k227_
  replace k233_ : q_K S347_ b229_ = 21 := by rw [gS347_]; exact k233_
  replace k238_ : q_K S347_ b234_ = 21 := by rw [gS347_]; exact k238_
  replace k244_ : q_K S347_ b240_ = 20 := by rw [gS347_]; exact k244_
  replace k250_ : q_K S347_ b246_ = 20 := by rw [gS347_]; exact k250_
  replace k255_ : q_K S347_ b251_ = 21 := by rw [gS347_]; exact k255_
  replace k261_ : q_K S347_ b257_ = 21 := by rw [gS347_]; exact k261_
  replace k267_ : q_K S347_ b263_ = 21 := by rw [gS347_]; exact k267_
  replace k272_ : q_K S347_ b268_ = 22 := by rw [gS347_]; exact k272_
  replace k278_ : q_K S347_ b274_ = 21 := by rw [gS347_]; exact k278_
  replace k284_ : q_K S347_ b280_ = 21 := by rw [gS347_]; exact k284_
  replace k289_ : q_K S347_ b285_ = 21 := by rw [gS347_]; exact k289_
  replace k295_ : q_K S347_ b291_ = 21 := by rw [gS347_]; exact k295_
  replace k301_ : q_K S347_ b297_ = 22 := by rw [gS347_]; exact k301_
  replace k306_ : q_K S347_ b302_ = 21 := by rw [gS347_]; exact k306_
  replace k312_ : q_K S347_ b308_ = 21 := by rw [gS347_]; exact k312_
  replace k318_ : q_K S347_ b314_ = 21 := by rw [gS347_]; exact k318_
  replace k323_ : q_K S347_ b319_ = 21 := by rw [gS347_]; exact k323_
  replace k329_ : q_K S347_ b325_ = 21 := by rw [gS347_]; exact k329_
  replace k335_ : q_K S347_ b331_ = 21 := by rw [gS347_]; exact k335_
  replace k340_ : q_K S347_ b336_ = 21 := by rw [gS347_]; exact k340_
  replace k346_ : q_K S347_ b342_ = 21 := by rw [gS347_]; exact k346_
  refine lv_aload_n hx hb dX12_init_533 rfl (lv_at hl 0 rfl) ?_
  refine lv_bipush (v := 16) hx hb dX12_init_534 (by decide) ?_
  obtain ⟨w351_, h⟩ := h
  refine q_newa X Y (k := 21) (t := 1) (n := 16) (ty := .int) rfl (by decide) rfl (fun _ _ => rfl) (by first | exact rfl | decide | simp [defaultValue]) ar_int (by decide) (by decide) (by decide) w351_ dX12_init_536 (fun b348_ H h349_ h350_ Y => ?_)
  replace h := h b348_ h349_
  replace hu := w351_
  replace k5_ := qs_R_keep (j := 21) (n := 16) h349_ k5_ (by decide)
  replace k6_ := qs_R_keep (j := 21) (n := 16) h349_ k6_ (by decide)
  replace k11_ := qs_R_keep (j := 21) (n := 16) h349_ k11_ (by decide)
  replace k17_ := qs_R_keep (j := 21) (n := 16) h349_ k17_ (by decide)
  replace k23_ := qs_R_keep (j := 21) (n := 16) h349_ k23_ (by decide)
  replace k29_ := qs_R_keep (j := 21) (n := 16) h349_ k29_ (by decide)
  replace k34_ := qs_R_keep (j := 21) (n := 16) h349_ k34_ (by decide)
  replace k40_ := qs_R_keep (j := 21) (n := 16) h349_ k40_ (by decide)
  replace k46_ := qs_R_keep (j := 21) (n := 16) h349_ k46_ (by decide)
  replace k51_ := qs_R_keep (j := 21) (n := 16) h349_ k51_ (by decide)
  replace k57_ := qs_R_keep (j := 21) (n := 16) h349_ k57_ (by decide)
  replace k63_ := qs_R_keep (j := 21) (n := 16) h349_ k63_ (by decide)
  replace k68_ := qs_R_keep (j := 21) (n := 16) h349_ k68_ (by decide)
  replace k74_ := qs_R_keep (j := 21) (n := 16) h349_ k74_ (by decide)
  replace k80_ := qs_R_keep (j := 21) (n := 16) h349_ k80_ (by decide)
  replace k85_ := qs_R_keep (j := 21) (n := 16) h349_ k85_ (by decide)
  replace k91_ := qs_R_keep (j := 21) (n := 16) h349_ k91_ (by decide)
  replace k97_ := qs_R_keep (j := 21) (n := 16) h349_ k97_ (by decide)
  replace k102_ := qs_R_keep (j := 21) (n := 16) h349_ k102_ (by decide)
  replace k108_ := qs_R_keep (j := 21) (n := 16) h349_ k108_ (by decide)
  replace k114_ := qs_R_keep (j := 21) (n := 16) h349_ k114_ (by decide)
  replace k119_ := qs_R_keep (j := 21) (n := 16) h349_ k119_ (by decide)
  replace k125_ := qs_R_keep (j := 21) (n := 16) h349_ k125_ (by decide)
  replace k131_ := qs_R_keep (j := 21) (n := 16) h349_ k131_ (by decide)
  replace k136_ := qs_R_keep (j := 21) (n := 16) h349_ k136_ (by decide)
  replace k142_ := qs_R_keep (j := 21) (n := 16) h349_ k142_ (by decide)
  replace k148_ := qs_R_keep (j := 21) (n := 16) h349_ k148_ (by decide)
  replace k153_ := qs_R_keep (j := 21) (n := 16) h349_ k153_ (by decide)
  replace k159_ := qs_R_keep (j := 21) (n := 16) h349_ k159_ (by decide)
  replace k165_ := qs_R_keep (j := 21) (n := 16) h349_ k165_ (by decide)
  replace k170_ := qs_R_keep (j := 21) (n := 16) h349_ k170_ (by decide)
  replace k176_ := qs_R_keep (j := 21) (n := 16) h349_ k176_ (by decide)
  replace k182_ := qs_R_keep (j := 21) (n := 16) h349_ k182_ (by decide)
  replace k187_ := qs_R_keep (j := 21) (n := 16) h349_ k187_ (by decide)
  replace k193_ := qs_R_keep (j := 21) (n := 16) h349_ k193_ (by decide)
  replace k199_ := qs_R_keep (j := 21) (n := 16) h349_ k199_ (by decide)
  replace k204_ := qs_R_keep (j := 21) (n := 16) h349_ k204_ (by decide)
  replace k210_ := qs_R_keep (j := 21) (n := 16) h349_ k210_ (by decide)
  replace k216_ := qs_R_keep (j := 21) (n := 16) h349_ k216_ (by decide)
  replace k221_ := qs_R_keep (j := 21) (n := 16) h349_ k221_ (by decide)
  replace k227_ := qs_R_keep (j := 21) (n := 16) h349_ k227_ (by decide)
  replace k233_ := qs_R_keep (j := 21) (n := 16) h349_ k233_ (by decide)
  replace k238_ := qs_R_keep (j := 21) (n := 16) h349_ k238_ (by decide)
  replace k244_ := qs_R_keep (j := 21) (n := 16) h349_ k244_ (by decide)
  replace k250_ := qs_R_keep (j := 21) (n := 16) h349_ k250_ (by decide)
  replace k255_ := qs_R_keep (j := 21) (n := 16) h349_ k255_ (by decide)
  replace k261_ := qs_R_keep (j := 21) (n := 16) h349_ k261_ (by decide)
  replace k267_ := qs_R_keep (j := 21) (n := 16) h349_ k267_ (by decide)
  replace k272_ := qs_R_keep (j := 21) (n := 16) h349_ k272_ (by decide)
  replace k278_ := qs_R_keep (j := 21) (n := 16) h349_ k278_ (by decide)
  replace k284_ := qs_R_keep (j := 21) (n := 16) h349_ k284_ (by decide)
  replace k289_ := qs_R_keep (j := 21) (n := 16) h349_ k289_ (by decide)
  replace k295_ := qs_R_keep (j := 21) (n := 16) h349_ k295_ (by decide)
  replace k301_ := qs_R_keep (j := 21) (n := 16) h349_ k301_ (by decide)
  replace k306_ := qs_R_keep (j := 21) (n := 16) h349_ k306_ (by decide)
  replace k312_ := qs_R_keep (j := 21) (n := 16) h349_ k312_ (by decide)
  replace k318_ := qs_R_keep (j := 21) (n := 16) h349_ k318_ (by decide)
  replace k323_ := qs_R_keep (j := 21) (n := 16) h349_ k323_ (by decide)
  replace k329_ := qs_R_keep (j := 21) (n := 16) h349_ k329_ (by decide)
  replace k335_ := qs_R_keep (j := 21) (n := 16) h349_ k335_ (by decide)
  replace k340_ := qs_R_keep (j := 21) (n := 16) h349_ k340_ (by decide)
  replace k346_ := qs_R_keep (j := 21) (n := 16) h349_ k346_ (by decide)
  have k352_ : q_K (qs_R S347_ 21 16 b348_) b348_ = 21 := qs_R_Ks
  refine q_putP X Y (some b348_) rfl kX12 84 rfl fl_X12_200 k6_ _ rfl (Or.inr ⟨_, rfl⟩) (Or.inr ⟨rfl, hnm, rfl⟩) dX12_init_538 (fun H locs Y => ?_)
  refine lv_aload_n hx hb dX12_init_541 rfl (lv_at hl 0 rfl) ?_
  refine lv_bipush (v := 16) hx hb dX12_init_542 (by decide) ?_
  obtain ⟨w356_, h⟩ := h
  refine q_newa X Y (k := 21) (t := 1) (n := 16) (ty := .int) rfl (by decide) rfl (fun _ _ => rfl) (by first | exact rfl | decide | simp [defaultValue]) ar_int (by decide) (by decide) (by decide) w356_ dX12_init_544 (fun b353_ H h354_ h355_ Y => ?_)
  replace h := h b353_ h354_
  replace hu := w356_
  replace k5_ := qs_R_keep (j := 21) (n := 16) h354_ k5_ (by decide)
  replace k6_ := qs_R_keep (j := 21) (n := 16) h354_ k6_ (by decide)
  replace k11_ := qs_R_keep (j := 21) (n := 16) h354_ k11_ (by decide)
  replace k17_ := qs_R_keep (j := 21) (n := 16) h354_ k17_ (by decide)
  replace k23_ := qs_R_keep (j := 21) (n := 16) h354_ k23_ (by decide)
  replace k29_ := qs_R_keep (j := 21) (n := 16) h354_ k29_ (by decide)
  replace k34_ := qs_R_keep (j := 21) (n := 16) h354_ k34_ (by decide)
  replace k40_ := qs_R_keep (j := 21) (n := 16) h354_ k40_ (by decide)
  replace k46_ := qs_R_keep (j := 21) (n := 16) h354_ k46_ (by decide)
  replace k51_ := qs_R_keep (j := 21) (n := 16) h354_ k51_ (by decide)
  replace k57_ := qs_R_keep (j := 21) (n := 16) h354_ k57_ (by decide)
  replace k63_ := qs_R_keep (j := 21) (n := 16) h354_ k63_ (by decide)
  replace k68_ := qs_R_keep (j := 21) (n := 16) h354_ k68_ (by decide)
  replace k74_ := qs_R_keep (j := 21) (n := 16) h354_ k74_ (by decide)
  replace k80_ := qs_R_keep (j := 21) (n := 16) h354_ k80_ (by decide)
  replace k85_ := qs_R_keep (j := 21) (n := 16) h354_ k85_ (by decide)
  replace k91_ := qs_R_keep (j := 21) (n := 16) h354_ k91_ (by decide)
  replace k97_ := qs_R_keep (j := 21) (n := 16) h354_ k97_ (by decide)
  replace k102_ := qs_R_keep (j := 21) (n := 16) h354_ k102_ (by decide)
  replace k108_ := qs_R_keep (j := 21) (n := 16) h354_ k108_ (by decide)
  replace k114_ := qs_R_keep (j := 21) (n := 16) h354_ k114_ (by decide)
  replace k119_ := qs_R_keep (j := 21) (n := 16) h354_ k119_ (by decide)
  replace k125_ := qs_R_keep (j := 21) (n := 16) h354_ k125_ (by decide)
  replace k131_ := qs_R_keep (j := 21) (n := 16) h354_ k131_ (by decide)
  replace k136_ := qs_R_keep (j := 21) (n := 16) h354_ k136_ (by decide)
  replace k142_ := qs_R_keep (j := 21) (n := 16) h354_ k142_ (by decide)
  replace k148_ := qs_R_keep (j := 21) (n := 16) h354_ k148_ (by decide)
  replace k153_ := qs_R_keep (j := 21) (n := 16) h354_ k153_ (by decide)
  replace k159_ := qs_R_keep (j := 21) (n := 16) h354_ k159_ (by decide)
  replace k165_ := qs_R_keep (j := 21) (n := 16) h354_ k165_ (by decide)
  replace k170_ := qs_R_keep (j := 21) (n := 16) h354_ k170_ (by decide)
  replace k176_ := qs_R_keep (j := 21) (n := 16) h354_ k176_ (by decide)
  replace k182_ := qs_R_keep (j := 21) (n := 16) h354_ k182_ (by decide)
  replace k187_ := qs_R_keep (j := 21) (n := 16) h354_ k187_ (by decide)
  replace k193_ := qs_R_keep (j := 21) (n := 16) h354_ k193_ (by decide)
  replace k199_ := qs_R_keep (j := 21) (n := 16) h354_ k199_ (by decide)
  replace k204_ := qs_R_keep (j := 21) (n := 16) h354_ k204_ (by decide)
  replace k210_ := qs_R_keep (j := 21) (n := 16) h354_ k210_ (by decide)
  replace k216_ := qs_R_keep (j := 21) (n := 16) h354_ k216_ (by decide)
  replace k221_ := qs_R_keep (j := 21) (n := 16) h354_ k221_ (by decide)
  replace k227_ := qs_R_keep (j := 21) (n := 16) h354_ k227_ (by decide)
  replace k233_ := qs_R_keep (j := 21) (n := 16) h354_ k233_ (by decide)
  replace k238_ := qs_R_keep (j := 21) (n := 16) h354_ k238_ (by decide)
  replace k244_ := qs_R_keep (j := 21) (n := 16) h354_ k244_ (by decide)
  replace k250_ := qs_R_keep (j := 21) (n := 16) h354_ k250_ (by decide)
  replace k255_ := qs_R_keep (j := 21) (n := 16) h354_ k255_ (by decide)
  replace k261_ := qs_R_keep (j := 21) (n := 16) h354_ k261_ (by decide)
  replace k267_ := qs_R_keep (j := 21) (n := 16) h354_ k267_ (by decide)
  replace k272_ := qs_R_keep (j := 21) (n := 16) h354_ k272_ (by decide)
  replace k278_ := qs_R_keep (j := 21) (n := 16) h354_ k278_ (by decide)
  replace k284_ := qs_R_keep (j := 21) (n := 16) h354_ k284_ (by decide)
  replace k289_ := qs_R_keep (j := 21) (n := 16) h354_ k289_ (by decide)
  replace k295_ := qs_R_keep (j := 21) (n := 16) h354_ k295_ (by decide)
  replace k301_ := qs_R_keep (j := 21) (n := 16) h354_ k301_ (by decide)
  replace k306_ := qs_R_keep (j := 21) (n := 16) h354_ k306_ (by decide)
  replace k312_ := qs_R_keep (j := 21) (n := 16) h354_ k312_ (by decide)
  replace k318_ := qs_R_keep (j := 21) (n := 16) h354_ k318_ (by decide)
  replace k323_ := qs_R_keep (j := 21) (n := 16) h354_ k323_ (by decide)
  replace k329_ := qs_R_keep (j := 21) (n := 16) h354_ k329_ (by decide)
  replace k335_ := qs_R_keep (j := 21) (n := 16) h354_ k335_ (by decide)
  replace k340_ := qs_R_keep (j := 21) (n := 16) h354_ k340_ (by decide)
  replace k346_ := qs_R_keep (j := 21) (n := 16) h354_ k346_ (by decide)
  replace k352_ := qs_R_keep (j := 21) (n := 16) h354_ k352_ (by decide)
  have k357_ : q_K (qs_R (qs_P (qs_R S347_ 21 16 b348_) 2484 a0 (some b348_)) 21 16 b353_) b353_ = 21 := qs_R_Ks
  obtain ⟨S358_, gS358_⟩ : ∃ z : q_S, z = (qs_R (qs_P (qs_R S347_ 21 16 b348_) 2484 a0 (some b348_)) 21 16 b353_) := ⟨_, rfl⟩
  replace Y : q_Y D cy lo s S358_ H locs := by rw [gS358_]; exact Y
  replace h := h S358_ gS358_
  replace k5_ : q_K S358_ b1_ = 20 := by rw [gS358_]; exact k5_
  replace k6_ : q_K S358_ a0 = 13 := by rw [gS358_]; exact k6_
  replace k11_ : q_K S358_ b7_ = 20 := by rw [gS358_]; exact k11_
  replace k17_ : q_K S358_ b13_ = 20 := by rw [gS358_]; exact k17_
  replace k23_ : q_K S358_ b19_ = 21 := by rw [gS358_]; exact k23_
  replace k29_ : q_K S358_ b25_ = 21 := by rw [gS358_]; exact k29_
  replace k34_ : q_K S358_ b30_ = 21 := by rw [gS358_]; exact k34_
  replace k40_ : q_K S358_ b36_ = 21 := by rw [gS358_]; exact k40_
  replace k46_ : q_K S358_ b42_ = 21 := by rw [gS358_]; exact k46_
  replace k51_ : q_K S358_ b47_ = 21 := by rw [gS358_]; exact k51_
  replace k57_ : q_K S358_ b53_ = 21 := by rw [gS358_]; exact k57_
  replace k63_ : q_K S358_ b59_ = 21 := by rw [gS358_]; exact k63_
  replace k68_ : q_K S358_ b64_ = 21 := by rw [gS358_]; exact k68_
  replace k74_ : q_K S358_ b70_ = 21 := by rw [gS358_]; exact k74_
  replace k80_ : q_K S358_ b76_ = 21 := by rw [gS358_]; exact k80_
  replace k85_ : q_K S358_ b81_ = 21 := by rw [gS358_]; exact k85_
  replace k91_ : q_K S358_ b87_ = 21 := by rw [gS358_]; exact k91_
  replace k97_ : q_K S358_ b93_ = 21 := by rw [gS358_]; exact k97_
  replace k102_ : q_K S358_ b98_ = 21 := by rw [gS358_]; exact k102_
  replace k108_ : q_K S358_ b104_ = 21 := by rw [gS358_]; exact k108_
  replace k114_ : q_K S358_ b110_ = 21 := by rw [gS358_]; exact k114_
  replace k119_ : q_K S358_ b115_ = 21 := by rw [gS358_]; exact k119_
  replace k125_ : q_K S358_ b121_ = 22 := by rw [gS358_]; exact k125_
  replace k131_ : q_K S358_ b127_ = 21 := by rw [gS358_]; exact k131_
  replace k136_ : q_K S358_ b132_ = 21 := by rw [gS358_]; exact k136_
  replace k142_ : q_K S358_ b138_ = 21 := by rw [gS358_]; exact k142_
  replace k148_ : q_K S358_ b144_ = 22 := by rw [gS358_]; exact k148_
  replace k153_ : q_K S358_ b149_ = 21 := by rw [gS358_]; exact k153_
  replace k159_ : q_K S358_ b155_ = 22 := by rw [gS358_]; exact k159_
  replace k165_ : q_K S358_ b161_ = 22 := by rw [gS358_]; exact k165_
  replace k170_ : q_K S358_ b166_ = 22 := by rw [gS358_]; exact k170_
  replace k176_ : q_K S358_ b172_ = 21 := by rw [gS358_]; exact k176_
  replace k182_ : q_K S358_ b178_ = 22 := by rw [gS358_]; exact k182_
  replace k187_ : q_K S358_ b183_ = 21 := by rw [gS358_]; exact k187_
  replace k193_ : q_K S358_ b189_ = 22 := by rw [gS358_]; exact k193_
  replace k199_ : q_K S358_ b195_ = 21 := by rw [gS358_]; exact k199_
  replace k204_ : q_K S358_ b200_ = 22 := by rw [gS358_]; exact k204_
  replace k210_ : q_K S358_ b206_ = 21 := by rw [gS358_]; exact k210_
  replace k216_ : q_K S358_ b212_ = 21 := by rw [gS358_]; exact k216_
  replace k221_ : q_K S358_ b217_ = 21 := by rw [gS358_]; exact k221_
  replace k227_ : q_K S358_ b223_ = 21 := by rw [gS358_]; exact k227_
  replace k233_ : q_K S358_ b229_ = 21 := by rw [gS358_]; exact k233_
  replace k238_ : q_K S358_ b234_ = 21 := by rw [gS358_]; exact k238_
  replace k244_ : q_K S358_ b240_ = 20 := by rw [gS358_]; exact k244_
  replace k250_ : q_K S358_ b246_ = 20 := by rw [gS358_]; exact k250_
  replace k255_ : q_K S358_ b251_ = 21 := by rw [gS358_]; exact k255_
  replace k261_ : q_K S358_ b257_ = 21 := by rw [gS358_]; exact k261_
  replace k267_ : q_K S358_ b263_ = 21 := by rw [gS358_]; exact k267_
  replace k272_ : q_K S358_ b268_ = 22 := by rw [gS358_]; exact k272_
  replace k278_ : q_K S358_ b274_ = 21 := by rw [gS358_]; exact k278_
  replace k284_ : q_K S358_ b280_ = 21 := by rw [gS358_]; exact k284_
  replace k289_ : q_K S358_ b285_ = 21 := by rw [gS358_]; exact k289_
  replace k295_ : q_K S358_ b291_ = 21 := by rw [gS358_]; exact k295_
  replace k301_ : q_K S358_ b297_ = 22 := by rw [gS358_]; exact k301_
  replace k306_ : q_K S358_ b302_ = 21 := by rw [gS358_]; exact k306_
  replace k312_ : q_K S358_ b308_ = 21 := by rw [gS358_]; exact k312_
  replace k318_ : q_K S358_ b314_ = 21 := by rw [gS358_]; exact k318_
  replace k323_ : q_K S358_ b319_ = 21 := by rw [gS358_]; exact k323_
  replace k329_ : q_K S358_ b325_ = 21 := by rw [gS358_]; exact k329_
  replace k335_ : q_K S358_ b331_ = 21 := by rw [gS358_]; exact k335_
  replace k340_ : q_K S358_ b336_ = 21 := by rw [gS358_]; exact k340_
  replace k346_ : q_K S358_ b342_ = 21 := by rw [gS358_]; exact k346_
  replace k352_ : q_K S358_ b348_ = 21 := by rw [gS358_]; exact k352_
  replace k357_ : q_K S358_ b353_ = 21 := by rw [gS358_]; exact k357_
  refine q_putP X Y (some b353_) rfl kX12 85 rfl fl_X12_203 k6_ _ rfl (Or.inr ⟨_, rfl⟩) (Or.inr ⟨rfl, hnm, rfl⟩) dX12_init_546 (fun H locs Y => ?_)
  refine lv_aload_n hx hb dX12_init_549 rfl (lv_at hl 0 rfl) ?_
  refine lv_bipush (v := 16) hx hb dX12_init_550 (by decide) ?_
  obtain ⟨w362_, h⟩ := h
  refine q_newa X Y (k := 21) (t := 1) (n := 16) (ty := .int) rfl (by decide) rfl (fun _ _ => rfl) (by first | exact rfl | decide | simp [defaultValue]) ar_int (by decide) (by decide) (by decide) w362_ dX12_init_552 (fun b359_ H h360_ h361_ Y => ?_)
  replace h := h b359_ h360_
  replace hu := w362_
  replace k5_ := qs_R_keep (j := 21) (n := 16) h360_ k5_ (by decide)
  replace k6_ := qs_R_keep (j := 21) (n := 16) h360_ k6_ (by decide)
  replace k11_ := qs_R_keep (j := 21) (n := 16) h360_ k11_ (by decide)
  replace k17_ := qs_R_keep (j := 21) (n := 16) h360_ k17_ (by decide)
  replace k23_ := qs_R_keep (j := 21) (n := 16) h360_ k23_ (by decide)
  replace k29_ := qs_R_keep (j := 21) (n := 16) h360_ k29_ (by decide)
  replace k34_ := qs_R_keep (j := 21) (n := 16) h360_ k34_ (by decide)
  replace k40_ := qs_R_keep (j := 21) (n := 16) h360_ k40_ (by decide)
  replace k46_ := qs_R_keep (j := 21) (n := 16) h360_ k46_ (by decide)
  replace k51_ := qs_R_keep (j := 21) (n := 16) h360_ k51_ (by decide)
  replace k57_ := qs_R_keep (j := 21) (n := 16) h360_ k57_ (by decide)
  replace k63_ := qs_R_keep (j := 21) (n := 16) h360_ k63_ (by decide)
  replace k68_ := qs_R_keep (j := 21) (n := 16) h360_ k68_ (by decide)
  replace k74_ := qs_R_keep (j := 21) (n := 16) h360_ k74_ (by decide)
  replace k80_ := qs_R_keep (j := 21) (n := 16) h360_ k80_ (by decide)
  replace k85_ := qs_R_keep (j := 21) (n := 16) h360_ k85_ (by decide)
  replace k91_ := qs_R_keep (j := 21) (n := 16) h360_ k91_ (by decide)
  replace k97_ := qs_R_keep (j := 21) (n := 16) h360_ k97_ (by decide)
  replace k102_ := qs_R_keep (j := 21) (n := 16) h360_ k102_ (by decide)
  replace k108_ := qs_R_keep (j := 21) (n := 16) h360_ k108_ (by decide)
  replace k114_ := qs_R_keep (j := 21) (n := 16) h360_ k114_ (by decide)
  replace k119_ := qs_R_keep (j := 21) (n := 16) h360_ k119_ (by decide)
  replace k125_ := qs_R_keep (j := 21) (n := 16) h360_ k125_ (by decide)
  replace k131_ := qs_R_keep (j := 21) (n := 16) h360_ k131_ (by decide)
  replace k136_ := qs_R_keep (j := 21) (n := 16) h360_ k136_ (by decide)
  replace k142_ := qs_R_keep (j := 21) (n := 16) h360_ k142_ (by decide)
  replace k148_ := qs_R_keep (j := 21) (n := 16) h360_ k148_ (by decide)
  replace k153_ := qs_R_keep (j := 21) (n := 16) h360_ k153_ (by decide)
  replace k159_ := qs_R_keep (j := 21) (n := 16) h360_ k159_ (by decide)
  replace k165_ := qs_R_keep (j := 21) (n := 16) h360_ k165_ (by decide)
  replace k170_ := qs_R_keep (j := 21) (n := 16) h360_ k170_ (by decide)
  replace k176_ := qs_R_keep (j := 21) (n := 16) h360_ k176_ (by decide)
  replace k182_ := qs_R_keep (j := 21) (n := 16) h360_ k182_ (by decide)
  replace k187_ := qs_R_keep (j := 21) (n := 16) h360_ k187_ (by decide)
  replace k193_ := qs_R_keep (j := 21) (n := 16) h360_ k193_ (by decide)
  replace k199_ := qs_R_keep (j := 21) (n := 16) h360_ k199_ (by decide)
  replace k204_ := qs_R_keep (j := 21) (n := 16) h360_ k204_ (by decide)
  replace k210_ := qs_R_keep (j := 21) (n := 16) h360_ k210_ (by decide)
  replace k216_ := qs_R_keep (j := 21) (n := 16) h360_ k216_ (by decide)
  replace k221_ := qs_R_keep (j := 21) (n := 16) h360_ k221_ (by decide)
  replace k227_ := qs_R_keep (j := 21) (n := 16) h360_ k227_ (by decide)
  replace k233_ := qs_R_keep (j := 21) (n := 16) h360_ k233_ (by decide)
  replace k238_ := qs_R_keep (j := 21) (n := 16) h360_ k238_ (by decide)
  replace k244_ := qs_R_keep (j := 21) (n := 16) h360_ k244_ (by decide)
  replace k250_ := qs_R_keep (j := 21) (n := 16) h360_ k250_ (by decide)
  replace k255_ := qs_R_keep (j := 21) (n := 16) h360_ k255_ (by decide)
  replace k261_ := qs_R_keep (j := 21) (n := 16) h360_ k261_ (by decide)
  replace k267_ := qs_R_keep (j := 21) (n := 16) h360_ k267_ (by decide)
  replace k272_ := qs_R_keep (j := 21) (n := 16) h360_ k272_ (by decide)
  replace k278_ := qs_R_keep (j := 21) (n := 16) h360_ k278_ (by decide)
  replace k284_ := qs_R_keep (j := 21) (n := 16) h360_ k284_ (by decide)
  replace k289_ := qs_R_keep (j := 21) (n := 16) h360_ k289_ (by decide)
  replace k295_ := qs_R_keep (j := 21) (n := 16) h360_ k295_ (by decide)
  replace k301_ := qs_R_keep (j := 21) (n := 16) h360_ k301_ (by decide)
  replace k306_ := qs_R_keep (j := 21) (n := 16) h360_ k306_ (by decide)
  replace k312_ := qs_R_keep (j := 21) (n := 16) h360_ k312_ (by decide)
  replace k318_ := qs_R_keep (j := 21) (n := 16) h360_ k318_ (by decide)
  replace k323_ := qs_R_keep (j := 21) (n := 16) h360_ k323_ (by decide)
  replace k329_ := qs_R_keep (j := 21) (n := 16) h360_ k329_ (by decide)
  replace k335_ := qs_R_keep (j := 21) (n := 16) h360_ k335_ (by decide)
  replace k340_ := qs_R_keep (j := 21) (n := 16) h360_ k340_ (by decide)
  replace k346_ := qs_R_keep (j := 21) (n := 16) h360_ k346_ (by decide)
  replace k352_ := qs_R_keep (j := 21) (n := 16) h360_ k352_ (by decide)
  replace k357_ := qs_R_keep (j := 21) (n := 16) h360_ k357_ (by decide)
  have k363_ : q_K (qs_R (qs_P S358_ 2485 a0 (some b353_)) 21 16 b359_) b359_ = 21 := qs_R_Ks
  refine q_putP X Y (some b359_) rfl kX12 86 rfl fl_X12_206 k6_ _ rfl (Or.inr ⟨_, rfl⟩) (Or.inr ⟨rfl, hnm, rfl⟩) dX12_init_554 (fun H locs Y => ?_)
  obtain ⟨S364_, gS364_⟩ : ∃ z : q_S, z = (qs_P (qs_R (qs_P S358_ 2485 a0 (some b353_)) 21 16 b359_) 2486 a0 (some b359_)) := ⟨_, rfl⟩
  replace Y : q_Y D cy lo s S364_ H locs := by rw [gS364_]; exact Y
  replace h := h S364_ gS364_
  replace k5_ : q_K S364_ b1_ = 20 := by rw [gS364_]; exact k5_
  replace k6_ : q_K S364_ a0 = 13 := by rw [gS364_]; exact k6_
  replace k11_ : q_K S364_ b7_ = 20 := by rw [gS364_]; exact k11_
  replace k17_ : q_K S364_ b13_ = 20 := by rw [gS364_]; exact k17_
  replace k23_ : q_K S364_ b19_ = 21 := by rw [gS364_]; exact k23_
  replace k29_ : q_K S364_ b25_ = 21 := by rw [gS364_]; exact k29_
  replace k34_ : q_K S364_ b30_ = 21 := by rw [gS364_]; exact k34_
  replace k40_ : q_K S364_ b36_ = 21 := by rw [gS364_]; exact k40_
  replace k46_ : q_K S364_ b42_ = 21 := by rw [gS364_]; exact k46_
  replace k51_ : q_K S364_ b47_ = 21 := by rw [gS364_]; exact k51_
  replace k57_ : q_K S364_ b53_ = 21 := by rw [gS364_]; exact k57_
  replace k63_ : q_K S364_ b59_ = 21 := by rw [gS364_]; exact k63_
  replace k68_ : q_K S364_ b64_ = 21 := by rw [gS364_]; exact k68_
  replace k74_ : q_K S364_ b70_ = 21 := by rw [gS364_]; exact k74_
  replace k80_ : q_K S364_ b76_ = 21 := by rw [gS364_]; exact k80_
  replace k85_ : q_K S364_ b81_ = 21 := by rw [gS364_]; exact k85_
  replace k91_ : q_K S364_ b87_ = 21 := by rw [gS364_]; exact k91_
  replace k97_ : q_K S364_ b93_ = 21 := by rw [gS364_]; exact k97_
  replace k102_ : q_K S364_ b98_ = 21 := by rw [gS364_]; exact k102_
  replace k108_ : q_K S364_ b104_ = 21 := by rw [gS364_]; exact k108_
  replace k114_ : q_K S364_ b110_ = 21 := by rw [gS364_]; exact k114_
  replace k119_ : q_K S364_ b115_ = 21 := by rw [gS364_]; exact k119_
  replace k125_ : q_K S364_ b121_ = 22 := by rw [gS364_]; exact k125_
  replace k131_ : q_K S364_ b127_ = 21 := by rw [gS364_]; exact k131_
  replace k136_ : q_K S364_ b132_ = 21 := by rw [gS364_]; exact k136_
  replace k142_ : q_K S364_ b138_ = 21 := by rw [gS364_]; exact k142_
  replace k148_ : q_K S364_ b144_ = 22 := by rw [gS364_]; exact k148_
  replace k153_ : q_K S364_ b149_ = 21 := by rw [gS364_]; exact k153_
  replace k159_ : q_K S364_ b155_ = 22 := by rw [gS364_]; exact k159_
  replace k165_ : q_K S364_ b161_ = 22 := by rw [gS364_]; exact k165_
  replace k170_ : q_K S364_ b166_ = 22 := by rw [gS364_]; exact k170_
  replace k176_ : q_K S364_ b172_ = 21 := by rw [gS364_]; exact k176_
  replace k182_ : q_K S364_ b178_ = 22 := by rw [gS364_]; exact k182_
  replace k187_ : q_K S364_ b183_ = 21 := by rw [gS364_]; exact k187_
  replace k193_ : q_K S364_ b189_ = 22 := by rw [gS364_]; exact k193_
  replace k199_ : q_K S364_ b195_ = 21 := by rw [gS364_]; exact k199_
  replace k204_ : q_K S364_ b200_ = 22 := by rw [gS364_]; exact k204_
  replace k210_ : q_K S364_ b206_ = 21 := by rw [gS364_]; exact k210_
  replace k216_ : q_K S364_ b212_ = 21 := by rw [gS364_]; exact k216_
  replace k221_ : q_K S364_ b217_ = 21 := by rw [gS364_]; exact k221_
  replace k227_ : q_K S364_ b223_ = 21 := by rw [gS364_]; exact k227_
  replace k233_ : q_K S364_ b229_ = 21 := by rw [gS364_]; exact k233_
  replace k238_ : q_K S364_ b234_ = 21 := by rw [gS364_]; exact k238_
  replace k244_ : q_K S364_ b240_ = 20 := by rw [gS364_]; exact k244_
  replace k250_ : q_K S364_ b246_ = 20 := by rw [gS364_]; exact k250_
  replace k255_ : q_K S364_ b251_ = 21 := by rw [gS364_]; exact k255_
  replace k261_ : q_K S364_ b257_ = 21 := by rw [gS364_]; exact k261_
  replace k267_ : q_K S364_ b263_ = 21 := by rw [gS364_]; exact k267_
  replace k272_ : q_K S364_ b268_ = 22 := by rw [gS364_]; exact k272_
  replace k278_ : q_K S364_ b274_ = 21 := by rw [gS364_]; exact k278_
  replace k284_ : q_K S364_ b280_ = 21 := by rw [gS364_]; exact k284_
  replace k289_ : q_K S364_ b285_ = 21 := by rw [gS364_]; exact k289_
  replace k295_ : q_K S364_ b291_ = 21 := by rw [gS364_]; exact k295_
  replace k301_ : q_K S364_ b297_ = 22 := by rw [gS364_]; exact k301_
  replace k306_ : q_K S364_ b302_ = 21 := by rw [gS364_]; exact k306_
  replace k312_ : q_K S364_ b308_ = 21 := by rw [gS364_]; exact k312_
  replace k318_ : q_K S364_ b314_ = 21 := by rw [gS364_]; exact k318_
  replace k323_ : q_K S364_ b319_ = 21 := by rw [gS364_]; exact k323_
  replace k329_ : q_K S364_ b325_ = 21 := by rw [gS364_]; exact k329_
  replace k335_ : q_K S364_ b331_ = 21 := by rw [gS364_]; exact k335_
  replace k340_ : q_K S364_ b336_ = 21 := by rw [gS364_]; exact k340_
  replace k346_ : q_K S364_ b342_ = 21 := by rw [gS364_]; exact k346_
  replace k352_ : q_K S364_ b348_ = 21 := by rw [gS364_]; exact k352_
  replace k357_ : q_K S364_ b353_ = 21 := by rw [gS364_]; exact k357_
  replace k363_ : q_K S364_ b359_ = 21 := by rw [gS364_]; exact k363_
  refine lv_aload_n hx hb dX12_init_557 rfl (lv_at hl 0 rfl) ?_
  refine lv_bipush (v := 16) hx hb dX12_init_558 (by decide) ?_
  obtain ⟨w368_, h⟩ := h
  refine q_newa X Y (k := 21) (t := 1) (n := 16) (ty := .int) rfl (by decide) rfl (fun _ _ => rfl) (by first | exact rfl | decide | simp [defaultValue]) ar_int (by decide) (by decide) (by decide) w368_ dX12_init_560 (fun b365_ H h366_ h367_ Y => ?_)
  replace h := h b365_ h366_
  replace hu := w368_
  replace k5_ := qs_R_keep (j := 21) (n := 16) h366_ k5_ (by decide)
  replace k6_ := qs_R_keep (j := 21) (n := 16) h366_ k6_ (by decide)
  replace k11_ := qs_R_keep (j := 21) (n := 16) h366_ k11_ (by decide)
  replace k17_ := qs_R_keep (j := 21) (n := 16) h366_ k17_ (by decide)
  replace k23_ := qs_R_keep (j := 21) (n := 16) h366_ k23_ (by decide)
  replace k29_ := qs_R_keep (j := 21) (n := 16) h366_ k29_ (by decide)
  replace k34_ := qs_R_keep (j := 21) (n := 16) h366_ k34_ (by decide)
  replace k40_ := qs_R_keep (j := 21) (n := 16) h366_ k40_ (by decide)
  replace k46_ := qs_R_keep (j := 21) (n := 16) h366_ k46_ (by decide)
  replace k51_ := qs_R_keep (j := 21) (n := 16) h366_ k51_ (by decide)
  replace k57_ := qs_R_keep (j := 21) (n := 16) h366_ k57_ (by decide)
  replace k63_ := qs_R_keep (j := 21) (n := 16) h366_ k63_ (by decide)
  replace k68_ := qs_R_keep (j := 21) (n := 16) h366_ k68_ (by decide)
  replace k74_ := qs_R_keep (j := 21) (n := 16) h366_ k74_ (by decide)
  replace k80_ := qs_R_keep (j := 21) (n := 16) h366_ k80_ (by decide)
  replace k85_ := qs_R_keep (j := 21) (n := 16) h366_ k85_ (by decide)
  replace k91_ := qs_R_keep (j := 21) (n := 16) h366_ k91_ (by decide)
  replace k97_ := qs_R_keep (j := 21) (n := 16) h366_ k97_ (by decide)
  replace k102_ := qs_R_keep (j := 21) (n := 16) h366_ k102_ (by decide)
  replace k108_ := qs_R_keep (j := 21) (n := 16) h366_ k108_ (by decide)
  replace k114_ := qs_R_keep (j := 21) (n := 16) h366_ k114_ (by decide)
  replace k119_ := qs_R_keep (j := 21) (n := 16) h366_ k119_ (by decide)
  replace k125_ := qs_R_keep (j := 21) (n := 16) h366_ k125_ (by decide)
  replace k131_ := qs_R_keep (j := 21) (n := 16) h366_ k131_ (by decide)
  replace k136_ := qs_R_keep (j := 21) (n := 16) h366_ k136_ (by decide)
  replace k142_ := qs_R_keep (j := 21) (n := 16) h366_ k142_ (by decide)
  replace k148_ := qs_R_keep (j := 21) (n := 16) h366_ k148_ (by decide)
  replace k153_ := qs_R_keep (j := 21) (n := 16) h366_ k153_ (by decide)
  replace k159_ := qs_R_keep (j := 21) (n := 16) h366_ k159_ (by decide)
  replace k165_ := qs_R_keep (j := 21) (n := 16) h366_ k165_ (by decide)
  replace k170_ := qs_R_keep (j := 21) (n := 16) h366_ k170_ (by decide)
  replace k176_ := qs_R_keep (j := 21) (n := 16) h366_ k176_ (by decide)
  replace k182_ := qs_R_keep (j := 21) (n := 16) h366_ k182_ (by decide)
  replace k187_ := qs_R_keep (j := 21) (n := 16) h366_ k187_ (by decide)
  replace k193_ := qs_R_keep (j := 21) (n := 16) h366_ k193_ (by decide)
  replace k199_ := qs_R_keep (j := 21) (n := 16) h366_ k199_ (by decide)
  replace k204_ := qs_R_keep (j := 21) (n := 16) h366_ k204_ (by decide)
  replace k210_ := qs_R_keep (j := 21) (n := 16) h366_ k210_ (by decide)
  replace k216_ := qs_R_keep (j := 21) (n := 16) h366_ k216_ (by decide)
  replace k221_ := qs_R_keep (j := 21) (n := 16) h366_ k221_ (by decide)
  replace k227_ := qs_R_keep (j := 21) (n := 16) h366_ k227_ (by decide)
  replace k233_ := qs_R_keep (j := 21) (n := 16) h366_ k233_ (by decide)
  replace k238_ := qs_R_keep (j := 21) (n := 16) h366_ k238_ (by decide)
  replace k244_ := qs_R_keep (j := 21) (n := 16) h366_ k244_ (by decide)
  replace k250_ := qs_R_keep (j := 21) (n := 16) h366_ k250_ (by decide)
  replace k255_ := qs_R_keep (j := 21) (n := 16) h366_ k255_ (by decide)
  replace k261_ := qs_R_keep (j := 21) (n := 16) h366_ k261_ (by decide)
  replace k267_ := qs_R_keep (j := 21) (n := 16) h366_ k267_ (by decide)
  replace k272_ := qs_R_keep (j := 21) (n := 16) h366_ k272_ (by decide)
  replace k278_ := qs_R_keep (j := 21) (n := 16) h366_ k278_ (by decide)
  replace k284_ := qs_R_keep (j := 21) (n := 16) h366_ k284_ (by decide)
  replace k289_ := qs_R_keep (j := 21) (n := 16) h366_ k289_ (by decide)
  replace k295_ := qs_R_keep (j := 21) (n := 16) h366_ k295_ (by decide)
  replace k301_ := qs_R_keep (j := 21) (n := 16) h366_ k301_ (by decide)
  replace k306_ := qs_R_keep (j := 21) (n := 16) h366_ k306_ (by decide)
  replace k312_ := qs_R_keep (j := 21) (n := 16) h366_ k312_ (by decide)
  replace k318_ := qs_R_keep (j := 21) (n := 16) h366_ k318_ (by decide)
  replace k323_ := qs_R_keep (j := 21) (n := 16) h366_ k323_ (by decide)
  replace k329_ := qs_R_keep (j := 21) (n := 16) h366_ k329_ (by decide)
  replace k335_ := qs_R_keep (j := 21) (n := 16) h366_ k335_ (by decide)
  replace k340_ := qs_R_keep (j := 21) (n := 16) h366_ k340_ (by decide)
  replace k346_ := qs_R_keep (j := 21) (n := 16) h366_ k346_ (by decide)
  replace k352_ := qs_R_keep (j := 21) (n := 16) h366_ k352_ (by decide)
  replace k357_ := qs_R_keep (j := 21) (n := 16) h366_ k357_ (by decide)
  replace k363_ := qs_R_keep (j := 21) (n := 16) h366_ k363_ (by decide)
  have k369_ : q_K (qs_R S364_ 21 16 b365_) b365_ = 21 := qs_R_Ks
  refine q_putP X Y (some b365_) rfl kX12 87 rfl fl_X12_209 k6_ _ rfl (Or.inr ⟨_, rfl⟩) (Or.inr ⟨rfl, hnm, rfl⟩) dX12_init_562 (fun H locs Y => ?_)
  refine lv_aload_n hx hb dX12_init_565 rfl (lv_at hl 0 rfl) ?_
  refine lv_bipush (v := 16) hx hb dX12_init_566 (by decide) ?_
  obtain ⟨w373_, h⟩ := h
  refine q_newa X Y (k := 21) (t := 1) (n := 16) (ty := .int) rfl (by decide) rfl (fun _ _ => rfl) (by first | exact rfl | decide | simp [defaultValue]) ar_int (by decide) (by decide) (by decide) w373_ dX12_init_568 (fun b370_ H h371_ h372_ Y => ?_)
  replace h := h b370_ h371_
  replace hu := w373_
  replace k5_ := qs_R_keep (j := 21) (n := 16) h371_ k5_ (by decide)
  replace k6_ := qs_R_keep (j := 21) (n := 16) h371_ k6_ (by decide)
  replace k11_ := qs_R_keep (j := 21) (n := 16) h371_ k11_ (by decide)
  replace k17_ := qs_R_keep (j := 21) (n := 16) h371_ k17_ (by decide)
  replace k23_ := qs_R_keep (j := 21) (n := 16) h371_ k23_ (by decide)
  replace k29_ := qs_R_keep (j := 21) (n := 16) h371_ k29_ (by decide)
  replace k34_ := qs_R_keep (j := 21) (n := 16) h371_ k34_ (by decide)
  replace k40_ := qs_R_keep (j := 21) (n := 16) h371_ k40_ (by decide)
  replace k46_ := qs_R_keep (j := 21) (n := 16) h371_ k46_ (by decide)
  replace k51_ := qs_R_keep (j := 21) (n := 16) h371_ k51_ (by decide)
  replace k57_ := qs_R_keep (j := 21) (n := 16) h371_ k57_ (by decide)
  replace k63_ := qs_R_keep (j := 21) (n := 16) h371_ k63_ (by decide)
  replace k68_ := qs_R_keep (j := 21) (n := 16) h371_ k68_ (by decide)
  replace k74_ := qs_R_keep (j := 21) (n := 16) h371_ k74_ (by decide)
  replace k80_ := qs_R_keep (j := 21) (n := 16) h371_ k80_ (by decide)
  replace k85_ := qs_R_keep (j := 21) (n := 16) h371_ k85_ (by decide)
  replace k91_ := qs_R_keep (j := 21) (n := 16) h371_ k91_ (by decide)
  replace k97_ := qs_R_keep (j := 21) (n := 16) h371_ k97_ (by decide)
  replace k102_ := qs_R_keep (j := 21) (n := 16) h371_ k102_ (by decide)
  replace k108_ := qs_R_keep (j := 21) (n := 16) h371_ k108_ (by decide)
  replace k114_ := qs_R_keep (j := 21) (n := 16) h371_ k114_ (by decide)
  replace k119_ := qs_R_keep (j := 21) (n := 16) h371_ k119_ (by decide)
  replace k125_ := qs_R_keep (j := 21) (n := 16) h371_ k125_ (by decide)
  replace k131_ := qs_R_keep (j := 21) (n := 16) h371_ k131_ (by decide)
  replace k136_ := qs_R_keep (j := 21) (n := 16) h371_ k136_ (by decide)
  replace k142_ := qs_R_keep (j := 21) (n := 16) h371_ k142_ (by decide)
  replace k148_ := qs_R_keep (j := 21) (n := 16) h371_ k148_ (by decide)
  replace k153_ := qs_R_keep (j := 21) (n := 16) h371_ k153_ (by decide)
  replace k159_ := qs_R_keep (j := 21) (n := 16) h371_ k159_ (by decide)
  replace k165_ := qs_R_keep (j := 21) (n := 16) h371_ k165_ (by decide)
  replace k170_ := qs_R_keep (j := 21) (n := 16) h371_ k170_ (by decide)
  replace k176_ := qs_R_keep (j := 21) (n := 16) h371_ k176_ (by decide)
  replace k182_ := qs_R_keep (j := 21) (n := 16) h371_ k182_ (by decide)
  replace k187_ := qs_R_keep (j := 21) (n := 16) h371_ k187_ (by decide)
  replace k193_ := qs_R_keep (j := 21) (n := 16) h371_ k193_ (by decide)
  replace k199_ := qs_R_keep (j := 21) (n := 16) h371_ k199_ (by decide)
  replace k204_ := qs_R_keep (j := 21) (n := 16) h371_ k204_ (by decide)
  replace k210_ := qs_R_keep (j := 21) (n := 16) h371_ k210_ (by decide)
  replace k216_ := qs_R_keep (j := 21) (n := 16) h371_ k216_ (by decide)
  replace k221_ := qs_R_keep (j := 21) (n := 16) h371_ k221_ (by decide)
  replace k227_ := qs_R_keep (j := 21) (n := 16) h371_ k227_ (by decide)
  replace k233_ := qs_R_keep (j := 21) (n := 16) h371_ k233_ (by decide)
  replace k238_ := qs_R_keep (j := 21) (n := 16) h371_ k238_ (by decide)
  replace k244_ := qs_R_keep (j := 21) (n := 16) h371_ k244_ (by decide)
  replace k250_ := qs_R_keep (j := 21) (n := 16) h371_ k250_ (by decide)
  replace k255_ := qs_R_keep (j := 21) (n := 16) h371_ k255_ (by decide)
  replace k261_ := qs_R_keep (j := 21) (n := 16) h371_ k261_ (by decide)
  replace k267_ := qs_R_keep (j := 21) (n := 16) h371_ k267_ (by decide)
  replace k272_ := qs_R_keep (j := 21) (n := 16) h371_ k272_ (by decide)
  replace k278_ := qs_R_keep (j := 21) (n := 16) h371_ k278_ (by decide)
  replace k284_ := qs_R_keep (j := 21) (n := 16) h371_ k284_ (by decide)
  replace k289_ := qs_R_keep (j := 21) (n := 16) h371_ k289_ (by decide)
  replace k295_ := qs_R_keep (j := 21) (n := 16) h371_ k295_ (by decide)
  replace k301_ := qs_R_keep (j := 21) (n := 16) h371_ k301_ (by decide)
  replace k306_ := qs_R_keep (j := 21) (n := 16) h371_ k306_ (by decide)
  replace k312_ := qs_R_keep (j := 21) (n := 16) h371_ k312_ (by decide)
  replace k318_ := qs_R_keep (j := 21) (n := 16) h371_ k318_ (by decide)
  replace k323_ := qs_R_keep (j := 21) (n := 16) h371_ k323_ (by decide)
  replace k329_ := qs_R_keep (j := 21) (n := 16) h371_ k329_ (by decide)
  replace k335_ := qs_R_keep (j := 21) (n := 16) h371_ k335_ (by decide)
  replace k340_ := qs_R_keep (j := 21) (n := 16) h371_ k340_ (by decide)
  replace k346_ := qs_R_keep (j := 21) (n := 16) h371_ k346_ (by decide)
  replace k352_ := qs_R_keep (j := 21) (n := 16) h371_ k352_ (by decide)
  replace k357_ := qs_R_keep (j := 21) (n := 16) h371_ k357_ (by decide)
  replace k363_ := qs_R_keep (j := 21) (n := 16) h371_ k363_ (by decide)
  replace k369_ := qs_R_keep (j := 21) (n := 16) h371_ k369_ (by decide)
  have k374_ : q_K (qs_R (qs_P (qs_R S364_ 21 16 b365_) 2487 a0 (some b365_)) 21 16 b370_) b370_ = 21 := qs_R_Ks
  obtain ⟨S375_, gS375_⟩ : ∃ z : q_S, z = (qs_R (qs_P (qs_R S364_ 21 16 b365_) 2487 a0 (some b365_)) 21 16 b370_) := ⟨_, rfl⟩
  replace Y : q_Y D cy lo s S375_ H locs := by rw [gS375_]; exact Y
  replace h := h S375_ gS375_
  replace k5_ : q_K S375_ b1_ = 20 := by rw [gS375_]; exact k5_
  replace k6_ : q_K S375_ a0 = 13 := by rw [gS375_]; exact k6_
  replace k11_ : q_K S375_ b7_ = 20 := by rw [gS375_]; exact k11_
  replace k17_ : q_K S375_ b13_ = 20 := by rw [gS375_]; exact k17_
  replace k23_ : q_K S375_ b19_ = 21 := by rw [gS375_]; exact k23_
  replace k29_ : q_K S375_ b25_ = 21 := by rw [gS375_]; exact k29_
  replace k34_ : q_K S375_ b30_ = 21 := by rw [gS375_]; exact k34_
  replace k40_ : q_K S375_ b36_ = 21 := by rw [gS375_]; exact k40_
  replace k46_ : q_K S375_ b42_ = 21 := by rw [gS375_]; exact k46_
  replace k51_ : q_K S375_ b47_ = 21 := by rw [gS375_]; exact k51_
  replace k57_ : q_K S375_ b53_ = 21 := by rw [gS375_]; exact k57_
  replace k63_ : q_K S375_ b59_ = 21 := by rw [gS375_]; exact k63_
  replace k68_ : q_K S375_ b64_ = 21 := by rw [gS375_]; exact k68_
  replace k74_ : q_K S375_ b70_ = 21 := by rw [gS375_]; exact k74_
  replace k80_ : q_K S375_ b76_ = 21 := by rw [gS375_]; exact k80_
  replace k85_ : q_K S375_ b81_ = 21 := by rw [gS375_]; exact k85_
  replace k91_ : q_K S375_ b87_ = 21 := by rw [gS375_]; exact k91_
  replace k97_ : q_K S375_ b93_ = 21 := by rw [gS375_]; exact k97_
  replace k102_ : q_K S375_ b98_ = 21 := by rw [gS375_]; exact k102_
  replace k108_ : q_K S375_ b104_ = 21 := by rw [gS375_]; exact k108_
  replace k114_ : q_K S375_ b110_ = 21 := by rw [gS375_]; exact k114_
  replace k119_ : q_K S375_ b115_ = 21 := by rw [gS375_]; exact k119_
  replace k125_ : q_K S375_ b121_ = 22 := by rw [gS375_]; exact k125_
  replace k131_ : q_K S375_ b127_ = 21 := by rw [gS375_]; exact k131_
  replace k136_ : q_K S375_ b132_ = 21 := by rw [gS375_]; exact k136_
  replace k142_ : q_K S375_ b138_ = 21 := by rw [gS375_]; exact k142_
  replace k148_ : q_K S375_ b144_ = 22 := by rw [gS375_]; exact k148_
  replace k153_ : q_K S375_ b149_ = 21 := by rw [gS375_]; exact k153_
  replace k159_ : q_K S375_ b155_ = 22 := by rw [gS375_]; exact k159_
  replace k165_ : q_K S375_ b161_ = 22 := by rw [gS375_]; exact k165_
  replace k170_ : q_K S375_ b166_ = 22 := by rw [gS375_]; exact k170_
  replace k176_ : q_K S375_ b172_ = 21 := by rw [gS375_]; exact k176_
  replace k182_ : q_K S375_ b178_ = 22 := by rw [gS375_]; exact k182_
  replace k187_ : q_K S375_ b183_ = 21 := by rw [gS375_]; exact k187_
  replace k193_ : q_K S375_ b189_ = 22 := by rw [gS375_]; exact k193_
  replace k199_ : q_K S375_ b195_ = 21 := by rw [gS375_]; exact k199_
  replace k204_ : q_K S375_ b200_ = 22 := by rw [gS375_]; exact k204_
  replace k210_ : q_K S375_ b206_ = 21 := by rw [gS375_]; exact k210_
  replace k216_ : q_K S375_ b212_ = 21 := by rw [gS375_]; exact k216_
  replace k221_ : q_K S375_ b217_ = 21 := by rw [gS375_]; exact k221_
  replace k227_ : q_K S375_ b223_ = 21 := by rw [gS375_]; exact k227_
  replace k233_ : q_K S375_ b229_ = 21 := by rw [gS375_]; exact k233_
  replace k238_ : q_K S375_ b234_ = 21 := by rw [gS375_]; exact k238_
  replace k244_ : q_K S375_ b240_ = 20 := by rw [gS375_]; exact k244_
  replace k250_ : q_K S375_ b246_ = 20 := by rw [gS375_]; exact k250_
  replace k255_ : q_K S375_ b251_ = 21 := by rw [gS375_]; exact k255_
  replace k261_ : q_K S375_ b257_ = 21 := by rw [gS375_]; exact k261_
  replace k267_ : q_K S375_ b263_ = 21 := by rw [gS375_]; exact k267_
  replace k272_ : q_K S375_ b268_ = 22 := by rw [gS375_]; exact k272_
  replace k278_ : q_K S375_ b274_ = 21 := by rw [gS375_]; exact k278_
  replace k284_ : q_K S375_ b280_ = 21 := by rw [gS375_]; exact k284_
  replace k289_ : q_K S375_ b285_ = 21 := by rw [gS375_]; exact k289_
  replace k295_ : q_K S375_ b291_ = 21 := by rw [gS375_]; exact k295_
  replace k301_ : q_K S375_ b297_ = 22 := by rw [gS375_]; exact k301_
  replace k306_ : q_K S375_ b302_ = 21 := by rw [gS375_]; exact k306_
  replace k312_ : q_K S375_ b308_ = 21 := by rw [gS375_]; exact k312_
  replace k318_ : q_K S375_ b314_ = 21 := by rw [gS375_]; exact k318_
  replace k323_ : q_K S375_ b319_ = 21 := by rw [gS375_]; exact k323_
  replace k329_ : q_K S375_ b325_ = 21 := by rw [gS375_]; exact k329_
  replace k335_ : q_K S375_ b331_ = 21 := by rw [gS375_]; exact k335_
  replace k340_ : q_K S375_ b336_ = 21 := by rw [gS375_]; exact k340_
  replace k346_ : q_K S375_ b342_ = 21 := by rw [gS375_]; exact k346_
  replace k352_ : q_K S375_ b348_ = 21 := by rw [gS375_]; exact k352_
  replace k357_ : q_K S375_ b353_ = 21 := by rw [gS375_]; exact k357_
  replace k363_ : q_K S375_ b359_ = 21 := by rw [gS375_]; exact k363_
  replace k369_ : q_K S375_ b365_ = 21 := by rw [gS375_]; exact k369_
  replace k374_ : q_K S375_ b370_ = 21 := by rw [gS375_]; exact k374_
  refine q_putP X Y (some b370_) rfl kX12 88 rfl fl_X12_212 k6_ _ rfl (Or.inr ⟨_, rfl⟩) (Or.inr ⟨rfl, hnm, rfl⟩) dX12_init_570 (fun H locs Y => ?_)
  refine lv_aload_n hx hb dX12_init_573 rfl (lv_at hl 0 rfl) ?_
  refine lv_bipush (v := 16) hx hb dX12_init_574 (by decide) ?_
  obtain ⟨w379_, h⟩ := h
  refine q_newa X Y (k := 21) (t := 1) (n := 16) (ty := .int) rfl (by decide) rfl (fun _ _ => rfl) (by first | exact rfl | decide | simp [defaultValue]) ar_int (by decide) (by decide) (by decide) w379_ dX12_init_576 (fun b376_ H h377_ h378_ Y => ?_)
  replace h := h b376_ h377_
  replace hu := w379_
  replace k5_ := qs_R_keep (j := 21) (n := 16) h377_ k5_ (by decide)
  replace k6_ := qs_R_keep (j := 21) (n := 16) h377_ k6_ (by decide)
  replace k11_ := qs_R_keep (j := 21) (n := 16) h377_ k11_ (by decide)
  replace k17_ := qs_R_keep (j := 21) (n := 16) h377_ k17_ (by decide)
  replace k23_ := qs_R_keep (j := 21) (n := 16) h377_ k23_ (by decide)
  replace k29_ := qs_R_keep (j := 21) (n := 16) h377_ k29_ (by decide)
  replace k34_ := qs_R_keep (j := 21) (n := 16) h377_ k34_ (by decide)
  replace k40_ := qs_R_keep (j := 21) (n := 16) h377_ k40_ (by decide)
  replace k46_ := qs_R_keep (j := 21) (n := 16) h377_ k46_ (by decide)
  replace k51_ := qs_R_keep (j := 21) (n := 16) h377_ k51_ (by decide)
  replace k57_ := qs_R_keep (j := 21) (n := 16) h377_ k57_ (by decide)
  replace k63_ := qs_R_keep (j := 21) (n := 16) h377_ k63_ (by decide)
  replace k68_ := qs_R_keep (j := 21) (n := 16) h377_ k68_ (by decide)
  replace k74_ := qs_R_keep (j := 21) (n := 16) h377_ k74_ (by decide)
  replace k80_ := qs_R_keep (j := 21) (n := 16) h377_ k80_ (by decide)
  replace k85_ := qs_R_keep (j := 21) (n := 16) h377_ k85_ (by decide)
  replace k91_ := qs_R_keep (j := 21) (n := 16) h377_ k91_ (by decide)
  replace k97_ := qs_R_keep (j := 21) (n := 16) h377_ k97_ (by decide)
  replace k102_ := qs_R_keep (j := 21) (n := 16) h377_ k102_ (by decide)
  replace k108_ := qs_R_keep (j := 21) (n := 16) h377_ k108_ (by decide)
  replace k114_ := qs_R_keep (j := 21) (n := 16) h377_ k114_ (by decide)
  replace k119_ := qs_R_keep (j := 21) (n := 16) h377_ k119_ (by decide)
  replace k125_ := qs_R_keep (j := 21) (n := 16) h377_ k125_ (by decide)
  replace k131_ := qs_R_keep (j := 21) (n := 16) h377_ k131_ (by decide)
  replace k136_ := qs_R_keep (j := 21) (n := 16) h377_ k136_ (by decide)
  replace k142_ := qs_R_keep (j := 21) (n := 16) h377_ k142_ (by decide)
  replace k148_ := qs_R_keep (j := 21) (n := 16) h377_ k148_ (by decide)
  replace k153_ := qs_R_keep (j := 21) (n := 16) h377_ k153_ (by decide)
  replace k159_ := qs_R_keep (j := 21) (n := 16) h377_ k159_ (by decide)
  replace k165_ := qs_R_keep (j := 21) (n := 16) h377_ k165_ (by decide)
  replace k170_ := qs_R_keep (j := 21) (n := 16) h377_ k170_ (by decide)
  replace k176_ := qs_R_keep (j := 21) (n := 16) h377_ k176_ (by decide)
  replace k182_ := qs_R_keep (j := 21) (n := 16) h377_ k182_ (by decide)
  replace k187_ := qs_R_keep (j := 21) (n := 16) h377_ k187_ (by decide)
  replace k193_ := qs_R_keep (j := 21) (n := 16) h377_ k193_ (by decide)
  replace k199_ := qs_R_keep (j := 21) (n := 16) h377_ k199_ (by decide)
  replace k204_ := qs_R_keep (j := 21) (n := 16) h377_ k204_ (by decide)
  replace k210_ := qs_R_keep (j := 21) (n := 16) h377_ k210_ (by decide)
  replace k216_ := qs_R_keep (j := 21) (n := 16) h377_ k216_ (by decide)
  replace k221_ := qs_R_keep (j := 21) (n := 16) h377_ k221_ (by decide)
  replace k227_ := qs_R_keep (j := 21) (n := 16) h377_ k227_ (by decide)
  replace k233_ := qs_R_keep (j := 21) (n := 16) h377_ k233_ (by decide)
  replace k238_ := qs_R_keep (j := 21) (n := 16) h377_ k238_ (by decide)
  replace k244_ := qs_R_keep (j := 21) (n := 16) h377_ k244_ (by decide)
  replace k250_ := qs_R_keep (j := 21) (n := 16) h377_ k250_ (by decide)
  replace k255_ := qs_R_keep (j := 21) (n := 16) h377_ k255_ (by decide)
  replace k261_ := qs_R_keep (j := 21) (n := 16) h377_ k261_ (by decide)
  replace k267_ := qs_R_keep (j := 21) (n := 16) h377_ k267_ (by decide)
  replace k272_ := qs_R_keep (j := 21) (n := 16) h377_ k272_ (by decide)
  replace k278_ := qs_R_keep (j := 21) (n := 16) h377_ k278_ (by decide)
  replace k284_ := qs_R_keep (j := 21) (n := 16) h377_ k284_ (by decide)
  replace k289_ := qs_R_keep (j := 21) (n := 16) h377_ k289_ (by decide)
  replace k295_ := qs_R_keep (j := 21) (n := 16) h377_ k295_ (by decide)
  replace k301_ := qs_R_keep (j := 21) (n := 16) h377_ k301_ (by decide)
  replace k306_ := qs_R_keep (j := 21) (n := 16) h377_ k306_ (by decide)
  replace k312_ := qs_R_keep (j := 21) (n := 16) h377_ k312_ (by decide)
  replace k318_ := qs_R_keep (j := 21) (n := 16) h377_ k318_ (by decide)
  replace k323_ := qs_R_keep (j := 21) (n := 16) h377_ k323_ (by decide)
  replace k329_ := qs_R_keep (j := 21) (n := 16) h377_ k329_ (by decide)
  replace k335_ := qs_R_keep (j := 21) (n := 16) h377_ k335_ (by decide)
  replace k340_ := qs_R_keep (j := 21) (n := 16) h377_ k340_ (by decide)
  replace k346_ := qs_R_keep (j := 21) (n := 16) h377_ k346_ (by decide)
  replace k352_ := qs_R_keep (j := 21) (n := 16) h377_ k352_ (by decide)
  replace k357_ := qs_R_keep (j := 21) (n := 16) h377_ k357_ (by decide)
  replace k363_ := qs_R_keep (j := 21) (n := 16) h377_ k363_ (by decide)
  replace k369_ := qs_R_keep (j := 21) (n := 16) h377_ k369_ (by decide)
  replace k374_ := qs_R_keep (j := 21) (n := 16) h377_ k374_ (by decide)
  have k380_ : q_K (qs_R (qs_P S375_ 2488 a0 (some b370_)) 21 16 b376_) b376_ = 21 := qs_R_Ks
  refine q_putP X Y (some b376_) rfl kX12 89 rfl fl_X12_215 k6_ _ rfl (Or.inr ⟨_, rfl⟩) (Or.inr ⟨rfl, hnm, rfl⟩) dX12_init_578 (fun H locs Y => ?_)
  obtain ⟨S381_, gS381_⟩ : ∃ z : q_S, z = (qs_P (qs_R (qs_P S375_ 2488 a0 (some b370_)) 21 16 b376_) 2489 a0 (some b376_)) := ⟨_, rfl⟩
  replace Y : q_Y D cy lo s S381_ H locs := by rw [gS381_]; exact Y
  replace h := h S381_ gS381_
  replace k5_ : q_K S381_ b1_ = 20 := by rw [gS381_]; exact k5_
  replace k6_ : q_K S381_ a0 = 13 := by rw [gS381_]; exact k6_
  replace k11_ : q_K S381_ b7_ = 20 := by rw [gS381_]; exact k11_
  replace k17_ : q_K S381_ b13_ = 20 := by rw [gS381_]; exact k17_
  replace k23_ : q_K S381_ b19_ = 21 := by rw [gS381_]; exact k23_
  replace k29_ : q_K S381_ b25_ = 21 := by rw [gS381_]; exact k29_
  replace k34_ : q_K S381_ b30_ = 21 := by rw [gS381_]; exact k34_
  replace k40_ : q_K S381_ b36_ = 21 := by rw [gS381_]; exact k40_
  replace k46_ : q_K S381_ b42_ = 21 := by rw [gS381_]; exact k46_
  replace k51_ : q_K S381_ b47_ = 21 := by rw [gS381_]; exact k51_
  replace k57_ : q_K S381_ b53_ = 21 := by rw [gS381_]; exact k57_
  replace k63_ : q_K S381_ b59_ = 21 := by rw [gS381_]; exact k63_
  replace k68_ : q_K S381_ b64_ = 21 := by rw [gS381_]; exact k68_
  replace k74_ : q_K S381_ b70_ = 21 := by rw [gS381_]; exact k74_
  replace k80_ : q_K S381_ b76_ = 21 := by rw [gS381_]; exact k80_
  replace k85_ : q_K S381_ b81_ = 21 := by rw [gS381_]; exact k85_
  replace k91_ : q_K S381_ b87_ = 21 := by rw [gS381_]; exact k91_
  replace k97_ : q_K S381_ b93_ = 21 := by rw [gS381_]; exact k97_
  replace k102_ : q_K S381_ b98_ = 21 := by rw [gS381_]; exact k102_
  replace k108_ : q_K S381_ b104_ = 21 := by rw [gS381_]; exact k108_
  replace k114_ : q_K S381_ b110_ = 21 := by rw [gS381_]; exact k114_
  replace k119_ : q_K S381_ b115_ = 21 := by rw [gS381_]; exact k119_
  replace k125_ : q_K S381_ b121_ = 22 := by rw [gS381_]; exact k125_
  replace k131_ : q_K S381_ b127_ = 21 := by rw [gS381_]; exact k131_
  replace k136_ : q_K S381_ b132_ = 21 := by rw [gS381_]; exact k136_
  replace k142_ : q_K S381_ b138_ = 21 := by rw [gS381_]; exact k142_
  replace k148_ : q_K S381_ b144_ = 22 := by rw [gS381_]; exact k148_
  replace k153_ : q_K S381_ b149_ = 21 := by rw [gS381_]; exact k153_
  replace k159_ : q_K S381_ b155_ = 22 := by rw [gS381_]; exact k159_
  replace k165_ : q_K S381_ b161_ = 22 := by rw [gS381_]; exact k165_
  replace k170_ : q_K S381_ b166_ = 22 := by rw [gS381_]; exact k170_
  replace k176_ : q_K S381_ b172_ = 21 := by rw [gS381_]; exact k176_
  replace k182_ : q_K S381_ b178_ = 22 := by rw [gS381_]; exact k182_
  replace k187_ : q_K S381_ b183_ = 21 := by rw [gS381_]; exact k187_
  replace k193_ : q_K S381_ b189_ = 22 := by rw [gS381_]; exact k193_
  replace k199_ : q_K S381_ b195_ = 21 := by rw [gS381_]; exact k199_
  replace k204_ : q_K S381_ b200_ = 22 := by rw [gS381_]; exact k204_
  replace k210_ : q_K S381_ b206_ = 21 := by rw [gS381_]; exact k210_
  replace k216_ : q_K S381_ b212_ = 21 := by rw [gS381_]; exact k216_
  replace k221_ : q_K S381_ b217_ = 21 := by rw [gS381_]; exact k221_
  replace k227_ : q_K S381_ b223_ = 21 := by rw [gS381_]; exact k227_
  replace k233_ : q_K S381_ b229_ = 21 := by rw [gS381_]; exact k233_
  replace k238_ : q_K S381_ b234_ = 21 := by rw [gS381_]; exact k238_
  replace k244_ : q_K S381_ b240_ = 20 := by rw [gS381_]; exact k244_
  replace k250_ : q_K S381_ b246_ = 20 := by rw [gS381_]; exact k250_
  replace k255_ : q_K S381_ b251_ = 21 := by rw [gS381_]; exact k255_
  replace k261_ : q_K S381_ b257_ = 21 := by rw [gS381_]; exact k261_
  replace k267_ : q_K S381_ b263_ = 21 := by rw [gS381_]; exact k267_
  replace k272_ : q_K S381_ b268_ = 22 := by rw [gS381_]; exact k272_
  replace k278_ : q_K S381_ b274_ = 21 := by rw [gS381_]; exact k278_
  replace k284_ : q_K S381_ b280_ = 21 := by rw [gS381_]; exact k284_
  replace k289_ : q_K S381_ b285_ = 21 := by rw [gS381_]; exact k289_
  replace k295_ : q_K S381_ b291_ = 21 := by rw [gS381_]; exact k295_
  replace k301_ : q_K S381_ b297_ = 22 := by rw [gS381_]; exact k301_
  replace k306_ : q_K S381_ b302_ = 21 := by rw [gS381_]; exact k306_
  replace k312_ : q_K S381_ b308_ = 21 := by rw [gS381_]; exact k312_
  replace k318_ : q_K S381_ b314_ = 21 := by rw [gS381_]; exact k318_
  replace k323_ : q_K S381_ b319_ = 21 := by rw [gS381_]; exact k323_
  replace k329_ : q_K S381_ b325_ = 21 := by rw [gS381_]; exact k329_
  replace k335_ : q_K S381_ b331_ = 21 := by rw [gS381_]; exact k335_
  replace k340_ : q_K S381_ b336_ = 21 := by rw [gS381_]; exact k340_
  replace k346_ : q_K S381_ b342_ = 21 := by rw [gS381_]; exact k346_
  replace k352_ : q_K S381_ b348_ = 21 := by rw [gS381_]; exact k352_
  replace k357_ : q_K S381_ b353_ = 21 := by rw [gS381_]; exact k357_
  replace k363_ : q_K S381_ b359_ = 21 := by rw [gS381_]; exact k363_
  replace k369_ : q_K S381_ b365_ = 21 := by rw [gS381_]; exact k369_
  replace k374_ : q_K S381_ b370_ = 21 := by rw [gS381_]; exact k374_
  replace k380_ : q_K S381_ b376_ = 21 := by rw [gS381_]; exact k380_
  refine lv_aload_n hx hb dX12_init_581 rfl (lv_at hl 0 rfl) ?_
  refine lv_bipush (v := 16) hx hb dX12_init_582 (by decide) ?_
  obtain ⟨w385_, h⟩ := h
  refine q_newa X Y (k := 21) (t := 1) (n := 16) (ty := .int) rfl (by decide) rfl (fun _ _ => rfl) (by first | exact rfl | decide | simp [defaultValue]) ar_int (by decide) (by decide) (by decide) w385_ dX12_init_584 (fun b382_ H h383_ h384_ Y => ?_)
  replace h := h b382_ h383_
  replace hu := w385_
  replace k5_ := qs_R_keep (j := 21) (n := 16) h383_ k5_ (by decide)
  replace k6_ := qs_R_keep (j := 21) (n := 16) h383_ k6_ (by decide)
  replace k11_ := qs_R_keep (j := 21) (n := 16) h383_ k11_ (by decide)
  replace k17_ := qs_R_keep (j := 21) (n := 16) h383_ k17_ (by decide)
  replace k23_ := qs_R_keep (j := 21) (n := 16) h383_ k23_ (by decide)
  replace k29_ := qs_R_keep (j := 21) (n := 16) h383_ k29_ (by decide)
  replace k34_ := qs_R_keep (j := 21) (n := 16) h383_ k34_ (by decide)
  replace k40_ := qs_R_keep (j := 21) (n := 16) h383_ k40_ (by decide)
  replace k46_ := qs_R_keep (j := 21) (n := 16) h383_ k46_ (by decide)
  replace k51_ := qs_R_keep (j := 21) (n := 16) h383_ k51_ (by decide)
  replace k57_ := qs_R_keep (j := 21) (n := 16) h383_ k57_ (by decide)
  replace k63_ := qs_R_keep (j := 21) (n := 16) h383_ k63_ (by decide)
  replace k68_ := qs_R_keep (j := 21) (n := 16) h383_ k68_ (by decide)
  replace k74_ := qs_R_keep (j := 21) (n := 16) h383_ k74_ (by decide)
  replace k80_ := qs_R_keep (j := 21) (n := 16) h383_ k80_ (by decide)
  replace k85_ := qs_R_keep (j := 21) (n := 16) h383_ k85_ (by decide)
  replace k91_ := qs_R_keep (j := 21) (n := 16) h383_ k91_ (by decide)
  replace k97_ := qs_R_keep (j := 21) (n := 16) h383_ k97_ (by decide)
  replace k102_ := qs_R_keep (j := 21) (n := 16) h383_ k102_ (by decide)
  replace k108_ := qs_R_keep (j := 21) (n := 16) h383_ k108_ (by decide)
  replace k114_ := qs_R_keep (j := 21) (n := 16) h383_ k114_ (by decide)
  replace k119_ := qs_R_keep (j := 21) (n := 16) h383_ k119_ (by decide)
  replace k125_ := qs_R_keep (j := 21) (n := 16) h383_ k125_ (by decide)
  replace k131_ := qs_R_keep (j := 21) (n := 16) h383_ k131_ (by decide)
  replace k136_ := qs_R_keep (j := 21) (n := 16) h383_ k136_ (by decide)
  replace k142_ := qs_R_keep (j := 21) (n := 16) h383_ k142_ (by decide)
  replace k148_ := qs_R_keep (j := 21) (n := 16) h383_ k148_ (by decide)
  replace k153_ := qs_R_keep (j := 21) (n := 16) h383_ k153_ (by decide)
  replace k159_ := qs_R_keep (j := 21) (n := 16) h383_ k159_ (by decide)
  replace k165_ := qs_R_keep (j := 21) (n := 16) h383_ k165_ (by decide)
  replace k170_ := qs_R_keep (j := 21) (n := 16) h383_ k170_ (by decide)
  replace k176_ := qs_R_keep (j := 21) (n := 16) h383_ k176_ (by decide)
  replace k182_ := qs_R_keep (j := 21) (n := 16) h383_ k182_ (by decide)
  replace k187_ := qs_R_keep (j := 21) (n := 16) h383_ k187_ (by decide)
  replace k193_ := qs_R_keep (j := 21) (n := 16) h383_ k193_ (by decide)
  replace k199_ := qs_R_keep (j := 21) (n := 16) h383_ k199_ (by decide)
  replace k204_ := qs_R_keep (j := 21) (n := 16) h383_ k204_ (by decide)
  replace k210_ := qs_R_keep (j := 21) (n := 16) h383_ k210_ (by decide)
  replace k216_ := qs_R_keep (j := 21) (n := 16) h383_ k216_ (by decide)
  replace k221_ := qs_R_keep (j := 21) (n := 16) h383_ k221_ (by decide)
  replace k227_ := qs_R_keep (j := 21) (n := 16) h383_ k227_ (by decide)
  replace k233_ := qs_R_keep (j := 21) (n := 16) h383_ k233_ (by decide)
  replace k238_ := qs_R_keep (j := 21) (n := 16) h383_ k238_ (by decide)
  replace k244_ := qs_R_keep (j := 21) (n := 16) h383_ k244_ (by decide)
  replace k250_ := qs_R_keep (j := 21) (n := 16) h383_ k250_ (by decide)
  replace k255_ := qs_R_keep (j := 21) (n := 16) h383_ k255_ (by decide)
  replace k261_ := qs_R_keep (j := 21) (n := 16) h383_ k261_ (by decide)
  replace k267_ := qs_R_keep (j := 21) (n := 16) h383_ k267_ (by decide)
  replace k272_ := qs_R_keep (j := 21) (n := 16) h383_ k272_ (by decide)
  replace k278_ := qs_R_keep (j := 21) (n := 16) h383_ k278_ (by decide)
  replace k284_ := qs_R_keep (j := 21) (n := 16) h383_ k284_ (by decide)
  replace k289_ := qs_R_keep (j := 21) (n := 16) h383_ k289_ (by decide)
  replace k295_ := qs_R_keep (j := 21) (n := 16) h383_ k295_ (by decide)
  replace k301_ := qs_R_keep (j := 21) (n := 16) h383_ k301_ (by decide)
  replace k306_ := qs_R_keep (j := 21) (n := 16) h383_ k306_ (by decide)
  replace k312_ := qs_R_keep (j := 21) (n := 16) h383_ k312_ (by decide)
  replace k318_ := qs_R_keep (j := 21) (n := 16) h383_ k318_ (by decide)
  replace k323_ := qs_R_keep (j := 21) (n := 16) h383_ k323_ (by decide)
  replace k329_ := qs_R_keep (j := 21) (n := 16) h383_ k329_ (by decide)
  replace k335_ := qs_R_keep (j := 21) (n := 16) h383_ k335_ (by decide)
  replace k340_ := qs_R_keep (j := 21) (n := 16) h383_ k340_ (by decide)
  replace k346_ := qs_R_keep (j := 21) (n := 16) h383_ k346_ (by decide)
  replace k352_ := qs_R_keep (j := 21) (n := 16) h383_ k352_ (by decide)
  replace k357_ := qs_R_keep (j := 21) (n := 16) h383_ k357_ (by decide)
  replace k363_ := qs_R_keep (j := 21) (n := 16) h383_ k363_ (by decide)
  replace k369_ := qs_R_keep (j := 21) (n := 16) h383_ k369_ (by decide)
  replace k374_ := qs_R_keep (j := 21) (n := 16) h383_ k374_ (by decide)
  replace k380_ := qs_R_keep (j := 21) (n := 16) h383_ k380_ (by decide)
  have k386_ : q_K (qs_R S381_ 21 16 b382_) b382_ = 21 := qs_R_Ks
  refine q_putP X Y (some b382_) rfl kX12 90 rfl fl_X12_218 k6_ _ rfl (Or.inr ⟨_, rfl⟩) (Or.inr ⟨rfl, hnm, rfl⟩) dX12_init_586 (fun H locs Y => ?_)
  refine lv_aload_n hx hb dX12_init_589 rfl (lv_at hl 0 rfl) ?_
  refine lv_bipush (v := 16) hx hb dX12_init_590 (by decide) ?_
  obtain ⟨w390_, h⟩ := h
  refine q_newa X Y (k := 21) (t := 1) (n := 16) (ty := .int) rfl (by decide) rfl (fun _ _ => rfl) (by first | exact rfl | decide | simp [defaultValue]) ar_int (by decide) (by decide) (by decide) w390_ dX12_init_592 (fun b387_ H h388_ h389_ Y => ?_)
  replace h := h b387_ h388_
  replace hu := w390_
  replace k5_ := qs_R_keep (j := 21) (n := 16) h388_ k5_ (by decide)
  replace k6_ := qs_R_keep (j := 21) (n := 16) h388_ k6_ (by decide)
  replace k11_ := qs_R_keep (j := 21) (n := 16) h388_ k11_ (by decide)
  replace k17_ := qs_R_keep (j := 21) (n := 16) h388_ k17_ (by decide)
  replace k23_ := qs_R_keep (j := 21) (n := 16) h388_ k23_ (by decide)
  replace k29_ := qs_R_keep (j := 21) (n := 16) h388_ k29_ (by decide)
  replace k34_ := qs_R_keep (j := 21) (n := 16) h388_ k34_ (by decide)
  replace k40_ := qs_R_keep (j := 21) (n := 16) h388_ k40_ (by decide)
  replace k46_ := qs_R_keep (j := 21) (n := 16) h388_ k46_ (by decide)
  replace k51_ := qs_R_keep (j := 21) (n := 16) h388_ k51_ (by decide)
  replace k57_ := qs_R_keep (j := 21) (n := 16) h388_ k57_ (by decide)
  replace k63_ := qs_R_keep (j := 21) (n := 16) h388_ k63_ (by decide)
  replace k68_ := qs_R_keep (j := 21) (n := 16) h388_ k68_ (by decide)
  replace k74_ := qs_R_keep (j := 21) (n := 16) h388_ k74_ (by decide)
  replace k80_ := qs_R_keep (j := 21) (n := 16) h388_ k80_ (by decide)
  replace k85_ := qs_R_keep (j := 21) (n := 16) h388_ k85_ (by decide)
  replace k91_ := qs_R_keep (j := 21) (n := 16) h388_ k91_ (by decide)
  replace k97_ := qs_R_keep (j := 21) (n := 16) h388_ k97_ (by decide)
  replace k102_ := qs_R_keep (j := 21) (n := 16) h388_ k102_ (by decide)
  replace k108_ := qs_R_keep (j := 21) (n := 16) h388_ k108_ (by decide)
  replace k114_ := qs_R_keep (j := 21) (n := 16) h388_ k114_ (by decide)
  replace k119_ := qs_R_keep (j := 21) (n := 16) h388_ k119_ (by decide)
  replace k125_ := qs_R_keep (j := 21) (n := 16) h388_ k125_ (by decide)
  replace k131_ := qs_R_keep (j := 21) (n := 16) h388_ k131_ (by decide)
  replace k136_ := qs_R_keep (j := 21) (n := 16) h388_ k136_ (by decide)
  replace k142_ := qs_R_keep (j := 21) (n := 16) h388_ k142_ (by decide)
  replace k148_ := qs_R_keep (j := 21) (n := 16) h388_ k148_ (by decide)
  replace k153_ := qs_R_keep (j := 21) (n := 16) h388_ k153_ (by decide)
  replace k159_ := qs_R_keep (j := 21) (n := 16) h388_ k159_ (by decide)
  replace k165_ := qs_R_keep (j := 21) (n := 16) h388_ k165_ (by decide)
  replace k170_ := qs_R_keep (j := 21) (n := 16) h388_ k170_ (by decide)
  replace k176_ := qs_R_keep (j := 21) (n := 16) h388_ k176_ (by decide)
  replace k182_ := qs_R_keep (j := 21) (n := 16) h388_ k182_ (by decide)
  replace k187_ := qs_R_keep (j := 21) (n := 16) h388_ k187_ (by decide)
  replace k193_ := qs_R_keep (j := 21) (n := 16) h388_ k193_ (by decide)
  replace k199_ := qs_R_keep (j := 21) (n := 16) h388_ k199_ (by decide)
  replace k204_ := qs_R_keep (j := 21) (n := 16) h388_ k204_ (by decide)
  replace k210_ := qs_R_keep (j := 21) (n := 16) h388_ k210_ (by decide)
  replace k216_ := qs_R_keep (j := 21) (n := 16) h388_ k216_ (by decide)
  replace k221_ := qs_R_keep (j := 21) (n := 16) h388_ k221_ (by decide)
  replace k227_ := qs_R_keep (j := 21) (n := 16) h388_ k227_ (by decide)
  replace k233_ := qs_R_keep (j := 21) (n := 16) h388_ k233_ (by decide)
  replace k238_ := qs_R_keep (j := 21) (n := 16) h388_ k238_ (by decide)
  replace k244_ := qs_R_keep (j := 21) (n := 16) h388_ k244_ (by decide)
  replace k250_ := qs_R_keep (j := 21) (n := 16) h388_ k250_ (by decide)
  replace k255_ := qs_R_keep (j := 21) (n := 16) h388_ k255_ (by decide)
  replace k261_ := qs_R_keep (j := 21) (n := 16) h388_ k261_ (by decide)
  replace k267_ := qs_R_keep (j := 21) (n := 16) h388_ k267_ (by decide)
  replace k272_ := qs_R_keep (j := 21) (n := 16) h388_ k272_ (by decide)
  replace k278_ := qs_R_keep (j := 21) (n := 16) h388_ k278_ (by decide)
  replace k284_ := qs_R_keep (j := 21) (n := 16) h388_ k284_ (by decide)
  replace k289_ := qs_R_keep (j := 21) (n := 16) h388_ k289_ (by decide)
  replace k295_ := qs_R_keep (j := 21) (n := 16) h388_ k295_ (by decide)
  replace k301_ := qs_R_keep (j := 21) (n := 16) h388_ k301_ (by decide)
  replace k306_ := qs_R_keep (j := 21) (n := 16) h388_ k306_ (by decide)
  replace k312_ := qs_R_keep (j := 21) (n := 16) h388_ k312_ (by decide)
  replace k318_ := qs_R_keep (j := 21) (n := 16) h388_ k318_ (by decide)
  replace k323_ := qs_R_keep (j := 21) (n := 16) h388_ k323_ (by decide)
  replace k329_ := qs_R_keep (j := 21) (n := 16) h388_ k329_ (by decide)
  replace k335_ := qs_R_keep (j := 21) (n := 16) h388_ k335_ (by decide)
  replace k340_ := qs_R_keep (j := 21) (n := 16) h388_ k340_ (by decide)
  replace k346_ := qs_R_keep (j := 21) (n := 16) h388_ k346_ (by decide)
  replace k352_ := qs_R_keep (j := 21) (n := 16) h388_ k352_ (by decide)
  replace k357_ := qs_R_keep (j := 21) (n := 16) h388_ k357_ (by decide)
  replace k363_ := qs_R_keep (j := 21) (n := 16) h388_ k363_ (by decide)
  replace k369_ := qs_R_keep (j := 21) (n := 16) h388_ k369_ (by decide)
  replace k374_ := qs_R_keep (j := 21) (n := 16) h388_ k374_ (by decide)
  replace k380_ := qs_R_keep (j := 21) (n := 16) h388_ k380_ (by decide)
  replace k386_ := qs_R_keep (j := 21) (n := 16) h388_ k386_ (by decide)
  have k391_ : q_K (qs_R (qs_P (qs_R S381_ 21 16 b382_) 2490 a0 (some b382_)) 21 16 b387_) b387_ = 21 := qs_R_Ks
  obtain ⟨S392_, gS392_⟩ : ∃ z : q_S, z = (qs_R (qs_P (qs_R S381_ 21 16 b382_) 2490 a0 (some b382_)) 21 16 b387_) := ⟨_, rfl⟩
  replace Y : q_Y D cy lo s S392_ H locs := by rw [gS392_]; exact Y
  replace h := h S392_ gS392_
  replace k5_ : q_K S392_ b1_ = 20 := by rw [gS392_]; exact k5_
  replace k6_ : q_K S392_ a0 = 13 := by rw [gS392_]; exact k6_
  replace k11_ : q_K S392_ b7_ = 20 := by rw [gS392_]; exact k11_
  replace k17_ : q_K S392_ b13_ = 20 := by rw [gS392_]; exact k17_
  replace k23_ : q_K S392_ b19_ = 21 := by rw [gS392_]; exact k23_
  replace k29_ : q_K S392_ b25_ = 21 := by rw [gS392_]; exact k29_
  replace k34_ : q_K S392_ b30_ = 21 := by rw [gS392_]; exact k34_
  replace k40_ : q_K S392_ b36_ = 21 := by rw [gS392_]; exact k40_
  replace k46_ : q_K S392_ b42_ = 21 := by rw [gS392_]; exact k46_
  replace k51_ : q_K S392_ b47_ = 21 := by rw [gS392_]; exact k51_
  replace k57_ : q_K S392_ b53_ = 21 := by rw [gS392_]; exact k57_
  replace k63_ : q_K S392_ b59_ = 21 := by rw [gS392_]; exact k63_
  replace k68_ : q_K S392_ b64_ = 21 := by rw [gS392_]; exact k68_
  replace k74_ : q_K S392_ b70_ = 21 := by rw [gS392_]; exact k74_
  replace k80_ : q_K S392_ b76_ = 21 := by rw [gS392_]; exact k80_
  replace k85_ : q_K S392_ b81_ = 21 := by rw [gS392_]; exact k85_
  replace k91_ : q_K S392_ b87_ = 21 := by rw [gS392_]; exact k91_
  replace k97_ : q_K S392_ b93_ = 21 := by rw [gS392_]; exact k97_
  replace k102_ : q_K S392_ b98_ = 21 := by rw [gS392_]; exact k102_
  replace k108_ : q_K S392_ b104_ = 21 := by rw [gS392_]; exact k108_
  replace k114_ : q_K S392_ b110_ = 21 := by rw [gS392_]; exact k114_
  replace k119_ : q_K S392_ b115_ = 21 := by rw [gS392_]; exact k119_
  replace k125_ : q_K S392_ b121_ = 22 := by rw [gS392_]; exact k125_
  replace k131_ : q_K S392_ b127_ = 21 := by rw [gS392_]; exact k131_
  replace k136_ : q_K S392_ b132_ = 21 := by rw [gS392_]; exact k136_
  replace k142_ : q_K S392_ b138_ = 21 := by rw [gS392_]; exact k142_
  replace k148_ : q_K S392_ b144_ = 22 := by rw [gS392_]; exact k148_
  replace k153_ : q_K S392_ b149_ = 21 := by rw [gS392_]; exact k153_
  replace k159_ : q_K S392_ b155_ = 22 := by rw [gS392_]; exact k159_
  replace k165_ : q_K S392_ b161_ = 22 := by rw [gS392_]; exact k165_
  replace k170_ : q_K S392_ b166_ = 22 := by rw [gS392_]; exact k170_
  replace k176_ : q_K S392_ b172_ = 21 := by rw [gS392_]; exact k176_
  replace k182_ : q_K S392_ b178_ = 22 := by rw [gS392_]; exact k182_
  replace k187_ : q_K S392_ b183_ = 21 := by rw [gS392_]; exact k187_
  replace k193_ : q_K S392_ b189_ = 22 := by rw [gS392_]; exact k193_
  replace k199_ : q_K S392_ b195_ = 21 := by rw [gS392_]; exact k199_
  replace k204_ : q_K S392_ b200_ = 22 := by rw [gS392_]; exact k204_
  replace k210_ : q_K S392_ b206_ = 21 := by rw [gS392_]; exact k210_
  replace k216_ : q_K S392_ b212_ = 21 := by rw [gS392_]; exact k216_
  replace k221_ : q_K S392_ b217_ = 21 := by rw [gS392_]; exact k221_
  replace k227_ : q_K S392_ b223_ = 21 := by rw [gS392_]; exact k227_
  replace k233_ : q_K S392_ b229_ = 21 := by rw [gS392_]; exact k233_
  replace k238_ : q_K S392_ b234_ = 21 := by rw [gS392_]; exact k238_
  replace k244_ : q_K S392_ b240_ = 20 := by rw [gS392_]; exact k244_
  replace k250_ : q_K S392_ b246_ = 20 := by rw [gS392_]; exact k250_
  replace k255_ : q_K S392_ b251_ = 21 := by rw [gS392_]; exact k255_
  replace k261_ : q_K S392_ b257_ = 21 := by rw [gS392_]; exact k261_
  replace k267_ : q_K S392_ b263_ = 21 := by rw [gS392_]; exact k267_
  replace k272_ : q_K S392_ b268_ = 22 := by rw [gS392_]; exact k272_
  replace k278_ : q_K S392_ b274_ = 21 := by rw [gS392_]; exact k278_
  replace k284_ : q_K S392_ b280_ = 21 := by rw [gS392_]; exact k284_
  replace k289_ : q_K S392_ b285_ = 21 := by rw [gS392_]; exact k289_
  replace k295_ : q_K S392_ b291_ = 21 := by rw [gS392_]; exact k295_
  replace k301_ : q_K S392_ b297_ = 22 := by rw [gS392_]; exact k301_
  replace k306_ : q_K S392_ b302_ = 21 := by rw [gS392_]; exact k306_
  replace k312_ : q_K S392_ b308_ = 21 := by rw [gS392_]; exact k312_
  replace k318_ : q_K S392_ b314_ = 21 := by rw [gS392_]; exact k318_
  replace k323_ : q_K S392_ b319_ = 21 := by rw [gS392_]; exact k323_
  replace k329_ : q_K S392_ b325_ = 21 := by rw [gS392_]; exact k329_
  replace k335_ : q_K S392_ b331_ = 21 := by rw [gS392_]; exact k335_
  replace k340_ : q_K S392_ b336_ = 21 := by rw [gS392_]; exact k340_
  replace k346_ : q_K S392_ b342_ = 21 := by rw [gS392_]; exact k346_
  replace k352_ : q_K S392_ b348_ = 21 := by rw [gS392_]; exact k352_
  replace k357_ : q_K S392_ b353_ = 21 := by rw [gS392_]; exact k357_
  replace k363_ : q_K S392_ b359_ = 21 := by rw [gS392_]; exact k363_
  replace k369_ : q_K S392_ b365_ = 21 := by rw [gS392_]; exact k369_
  replace k374_ : q_K S392_ b370_ = 21 := by rw [gS392_]; exact k374_
  replace k380_ : q_K S392_ b376_ = 21 := by rw [gS392_]; exact k380_
  replace k386_ : q_K S392_ b382_ = 21 := by rw [gS392_]; exact k386_
  replace k391_ : q_K S392_ b387_ = 21 := by rw [gS392_]; exact k391_
  refine q_putP X Y (some b387_) rfl kX12 91 rfl fl_X12_221 k6_ _ rfl (Or.inr ⟨_, rfl⟩) (Or.inr ⟨rfl, hnm, rfl⟩) dX12_init_594 (fun H locs Y => ?_)
  refine lv_aload_n hx hb dX12_init_597 rfl (lv_at hl 0 rfl) ?_
  refine lv_sipush (v := 128) hx hb dX12_init_598 (by decide) ?_
  obtain ⟨w396_, h⟩ := h
  refine q_newa X Y (k := 21) (t := 1) (n := 128) (ty := .int) rfl (by decide) rfl (fun _ _ => rfl) (by first | exact rfl | decide | simp [defaultValue]) ar_int (by decide) (by decide) (by decide) w396_ dX12_init_601 (fun b393_ H h394_ h395_ Y => ?_)
  replace h := h b393_ h394_
  replace hu := w396_
  replace k5_ := qs_R_keep (j := 21) (n := 128) h394_ k5_ (by decide)
  replace k6_ := qs_R_keep (j := 21) (n := 128) h394_ k6_ (by decide)
  replace k11_ := qs_R_keep (j := 21) (n := 128) h394_ k11_ (by decide)
  replace k17_ := qs_R_keep (j := 21) (n := 128) h394_ k17_ (by decide)
  replace k23_ := qs_R_keep (j := 21) (n := 128) h394_ k23_ (by decide)
  replace k29_ := qs_R_keep (j := 21) (n := 128) h394_ k29_ (by decide)
  replace k34_ := qs_R_keep (j := 21) (n := 128) h394_ k34_ (by decide)
  replace k40_ := qs_R_keep (j := 21) (n := 128) h394_ k40_ (by decide)
  replace k46_ := qs_R_keep (j := 21) (n := 128) h394_ k46_ (by decide)
  replace k51_ := qs_R_keep (j := 21) (n := 128) h394_ k51_ (by decide)
  replace k57_ := qs_R_keep (j := 21) (n := 128) h394_ k57_ (by decide)
  replace k63_ := qs_R_keep (j := 21) (n := 128) h394_ k63_ (by decide)
  replace k68_ := qs_R_keep (j := 21) (n := 128) h394_ k68_ (by decide)
  replace k74_ := qs_R_keep (j := 21) (n := 128) h394_ k74_ (by decide)
  replace k80_ := qs_R_keep (j := 21) (n := 128) h394_ k80_ (by decide)
  replace k85_ := qs_R_keep (j := 21) (n := 128) h394_ k85_ (by decide)
  replace k91_ := qs_R_keep (j := 21) (n := 128) h394_ k91_ (by decide)
  replace k97_ := qs_R_keep (j := 21) (n := 128) h394_ k97_ (by decide)
  replace k102_ := qs_R_keep (j := 21) (n := 128) h394_ k102_ (by decide)
  replace k108_ := qs_R_keep (j := 21) (n := 128) h394_ k108_ (by decide)
  replace k114_ := qs_R_keep (j := 21) (n := 128) h394_ k114_ (by decide)
  replace k119_ := qs_R_keep (j := 21) (n := 128) h394_ k119_ (by decide)
  replace k125_ := qs_R_keep (j := 21) (n := 128) h394_ k125_ (by decide)
  replace k131_ := qs_R_keep (j := 21) (n := 128) h394_ k131_ (by decide)
  replace k136_ := qs_R_keep (j := 21) (n := 128) h394_ k136_ (by decide)
  replace k142_ := qs_R_keep (j := 21) (n := 128) h394_ k142_ (by decide)
  replace k148_ := qs_R_keep (j := 21) (n := 128) h394_ k148_ (by decide)
  replace k153_ := qs_R_keep (j := 21) (n := 128) h394_ k153_ (by decide)
  replace k159_ := qs_R_keep (j := 21) (n := 128) h394_ k159_ (by decide)
  replace k165_ := qs_R_keep (j := 21) (n := 128) h394_ k165_ (by decide)
  replace k170_ := qs_R_keep (j := 21) (n := 128) h394_ k170_ (by decide)
  replace k176_ := qs_R_keep (j := 21) (n := 128) h394_ k176_ (by decide)
  replace k182_ := qs_R_keep (j := 21) (n := 128) h394_ k182_ (by decide)
  replace k187_ := qs_R_keep (j := 21) (n := 128) h394_ k187_ (by decide)
  replace k193_ := qs_R_keep (j := 21) (n := 128) h394_ k193_ (by decide)
  replace k199_ := qs_R_keep (j := 21) (n := 128) h394_ k199_ (by decide)
  replace k204_ := qs_R_keep (j := 21) (n := 128) h394_ k204_ (by decide)
  replace k210_ := qs_R_keep (j := 21) (n := 128) h394_ k210_ (by decide)
  replace k216_ := qs_R_keep (j := 21) (n := 128) h394_ k216_ (by decide)
  replace k221_ := qs_R_keep (j := 21) (n := 128) h394_ k221_ (by decide)
  replace k227_ := qs_R_keep (j := 21) (n := 128) h394_ k227_ (by decide)
  replace k233_ := qs_R_keep (j := 21) (n := 128) h394_ k233_ (by decide)
  replace k238_ := qs_R_keep (j := 21) (n := 128) h394_ k238_ (by decide)
  replace k244_ := qs_R_keep (j := 21) (n := 128) h394_ k244_ (by decide)
  replace k250_ := qs_R_keep (j := 21) (n := 128) h394_ k250_ (by decide)
  replace k255_ := qs_R_keep (j := 21) (n := 128) h394_ k255_ (by decide)
  replace k261_ := qs_R_keep (j := 21) (n := 128) h394_ k261_ (by decide)
  replace k267_ := qs_R_keep (j := 21) (n := 128) h394_ k267_ (by decide)
  replace k272_ := qs_R_keep (j := 21) (n := 128) h394_ k272_ (by decide)
  replace k278_ := qs_R_keep (j := 21) (n := 128) h394_ k278_ (by decide)
  replace k284_ := qs_R_keep (j := 21) (n := 128) h394_ k284_ (by decide)
  replace k289_ := qs_R_keep (j := 21) (n := 128) h394_ k289_ (by decide)
  replace k295_ := qs_R_keep (j := 21) (n := 128) h394_ k295_ (by decide)
  replace k301_ := qs_R_keep (j := 21) (n := 128) h394_ k301_ (by decide)
  replace k306_ := qs_R_keep (j := 21) (n := 128) h394_ k306_ (by decide)
  replace k312_ := qs_R_keep (j := 21) (n := 128) h394_ k312_ (by decide)
  replace k318_ := qs_R_keep (j := 21) (n := 128) h394_ k318_ (by decide)
  replace k323_ := qs_R_keep (j := 21) (n := 128) h394_ k323_ (by decide)
  replace k329_ := qs_R_keep (j := 21) (n := 128) h394_ k329_ (by decide)
  replace k335_ := qs_R_keep (j := 21) (n := 128) h394_ k335_ (by decide)
  replace k340_ := qs_R_keep (j := 21) (n := 128) h394_ k340_ (by decide)
  replace k346_ := qs_R_keep (j := 21) (n := 128) h394_ k346_ (by decide)
  replace k352_ := qs_R_keep (j := 21) (n := 128) h394_ k352_ (by decide)
  replace k357_ := qs_R_keep (j := 21) (n := 128) h394_ k357_ (by decide)
  replace k363_ := qs_R_keep (j := 21) (n := 128) h394_ k363_ (by decide)
  replace k369_ := qs_R_keep (j := 21) (n := 128) h394_ k369_ (by decide)
  replace k374_ := qs_R_keep (j := 21) (n := 128) h394_ k374_ (by decide)
  replace k380_ := qs_R_keep (j := 21) (n := 128) h394_ k380_ (by decide)
  replace k386_ := qs_R_keep (j := 21) (n := 128) h394_ k386_ (by decide)
  replace k391_ := qs_R_keep (j := 21) (n := 128) h394_ k391_ (by decide)
  have k397_ : q_K (qs_R (qs_P S392_ 2491 a0 (some b387_)) 21 128 b393_) b393_ = 21 := qs_R_Ks
  refine q_putP X Y (some b393_) rfl kX12 92 rfl fl_X12_224 k6_ _ rfl (Or.inr ⟨_, rfl⟩) (Or.inr ⟨rfl, hnm, rfl⟩) dX12_init_603 (fun H locs Y => ?_)
  obtain ⟨S398_, gS398_⟩ : ∃ z : q_S, z = (qs_P (qs_R (qs_P S392_ 2491 a0 (some b387_)) 21 128 b393_) 2492 a0 (some b393_)) := ⟨_, rfl⟩
  replace Y : q_Y D cy lo s S398_ H locs := by rw [gS398_]; exact Y
  replace h := h S398_ gS398_
  replace k5_ : q_K S398_ b1_ = 20 := by rw [gS398_]; exact k5_
  replace k6_ : q_K S398_ a0 = 13 := by rw [gS398_]; exact k6_
  replace k11_ : q_K S398_ b7_ = 20 := by rw [gS398_]; exact k11_
  replace k17_ : q_K S398_ b13_ = 20 := by rw [gS398_]; exact k17_
  replace k23_ : q_K S398_ b19_ = 21 := by rw [gS398_]; exact k23_
  replace k29_ : q_K S398_ b25_ = 21 := by rw [gS398_]; exact k29_
  replace k34_ : q_K S398_ b30_ = 21 := by rw [gS398_]; exact k34_
  replace k40_ : q_K S398_ b36_ = 21 := by rw [gS398_]; exact k40_
  replace k46_ : q_K S398_ b42_ = 21 := by rw [gS398_]; exact k46_
  replace k51_ : q_K S398_ b47_ = 21 := by rw [gS398_]; exact k51_
  replace k57_ : q_K S398_ b53_ = 21 := by rw [gS398_]; exact k57_
  replace k63_ : q_K S398_ b59_ = 21 := by rw [gS398_]; exact k63_
  replace k68_ : q_K S398_ b64_ = 21 := by rw [gS398_]; exact k68_
  replace k74_ : q_K S398_ b70_ = 21 := by rw [gS398_]; exact k74_
  replace k80_ : q_K S398_ b76_ = 21 := by rw [gS398_]; exact k80_
  replace k85_ : q_K S398_ b81_ = 21 := by rw [gS398_]; exact k85_
  replace k91_ : q_K S398_ b87_ = 21 := by rw [gS398_]; exact k91_
  replace k97_ : q_K S398_ b93_ = 21 := by rw [gS398_]; exact k97_
  replace k102_ : q_K S398_ b98_ = 21 := by rw [gS398_]; exact k102_
  replace k108_ : q_K S398_ b104_ = 21 := by rw [gS398_]; exact k108_
  replace k114_ : q_K S398_ b110_ = 21 := by rw [gS398_]; exact k114_
  replace k119_ : q_K S398_ b115_ = 21 := by rw [gS398_]; exact k119_
  replace k125_ : q_K S398_ b121_ = 22 := by rw [gS398_]; exact k125_
  replace k131_ : q_K S398_ b127_ = 21 := by rw [gS398_]; exact k131_
  replace k136_ : q_K S398_ b132_ = 21 := by rw [gS398_]; exact k136_
  replace k142_ : q_K S398_ b138_ = 21 := by rw [gS398_]; exact k142_
  replace k148_ : q_K S398_ b144_ = 22 := by rw [gS398_]; exact k148_
  replace k153_ : q_K S398_ b149_ = 21 := by rw [gS398_]; exact k153_
  replace k159_ : q_K S398_ b155_ = 22 := by rw [gS398_]; exact k159_
  replace k165_ : q_K S398_ b161_ = 22 := by rw [gS398_]; exact k165_
  replace k170_ : q_K S398_ b166_ = 22 := by rw [gS398_]; exact k170_
  replace k176_ : q_K S398_ b172_ = 21 := by rw [gS398_]; exact k176_
  replace k182_ : q_K S398_ b178_ = 22 := by rw [gS398_]; exact k182_
  replace k187_ : q_K S398_ b183_ = 21 := by rw [gS398_]; exact k187_
  replace k193_ : q_K S398_ b189_ = 22 := by rw [gS398_]; exact k193_
  replace k199_ : q_K S398_ b195_ = 21 := by rw [gS398_]; exact k199_
  replace k204_ : q_K S398_ b200_ = 22 := by rw [gS398_]; exact k204_
  replace k210_ : q_K S398_ b206_ = 21 := by rw [gS398_]; exact k210_
  replace k216_ : q_K S398_ b212_ = 21 := by rw [gS398_]; exact k216_
  replace k221_ : q_K S398_ b217_ = 21 := by rw [gS398_]; exact k221_
  replace k227_ : q_K S398_ b223_ = 21 := by rw [gS398_]; exact k227_
  replace k233_ : q_K S398_ b229_ = 21 := by rw [gS398_]; exact k233_
  replace k238_ : q_K S398_ b234_ = 21 := by rw [gS398_]; exact k238_
  replace k244_ : q_K S398_ b240_ = 20 := by rw [gS398_]; exact k244_
  replace k250_ : q_K S398_ b246_ = 20 := by rw [gS398_]; exact k250_
  replace k255_ : q_K S398_ b251_ = 21 := by rw [gS398_]; exact k255_
  replace k261_ : q_K S398_ b257_ = 21 := by rw [gS398_]; exact k261_
  replace k267_ : q_K S398_ b263_ = 21 := by rw [gS398_]; exact k267_
  replace k272_ : q_K S398_ b268_ = 22 := by rw [gS398_]; exact k272_
  replace k278_ : q_K S398_ b274_ = 21 := by rw [gS398_]; exact k278_
  replace k284_ : q_K S398_ b280_ = 21 := by rw [gS398_]; exact k284_
  replace k289_ : q_K S398_ b285_ = 21 := by rw [gS398_]; exact k289_
  replace k295_ : q_K S398_ b291_ = 21 := by rw [gS398_]; exact k295_
  replace k301_ : q_K S398_ b297_ = 22 := by rw [gS398_]; exact k301_
  replace k306_ : q_K S398_ b302_ = 21 := by rw [gS398_]; exact k306_
  replace k312_ : q_K S398_ b308_ = 21 := by rw [gS398_]; exact k312_
  replace k318_ : q_K S398_ b314_ = 21 := by rw [gS398_]; exact k318_
  replace k323_ : q_K S398_ b319_ = 21 := by rw [gS398_]; exact k323_
  replace k329_ : q_K S398_ b325_ = 21 := by rw [gS398_]; exact k329_
  replace k335_ : q_K S398_ b331_ = 21 := by rw [gS398_]; exact k335_
  replace k340_ : q_K S398_ b336_ = 21 := by rw [gS398_]; exact k340_
  replace k346_ : q_K S398_ b342_ = 21 := by rw [gS398_]; exact k346_
  replace k352_ : q_K S398_ b348_ = 21 := by rw [gS398_]; exact k352_
  replace k357_ : q_K S398_ b353_ = 21 := by rw [gS398_]; exact k357_
  replace k363_ : q_K S398_ b359_ = 21 := by rw [gS398_]; exact k363_
  replace k369_ : q_K S398_ b365_ = 21 := by rw [gS398_]; exact k369_
  replace k374_ : q_K S398_ b370_ = 21 := by rw [gS398_]; exact k374_
  replace k380_ : q_K S398_ b376_ = 21 := by rw [gS398_]; exact k380_
  replace k386_ : q_K S398_ b382_ = 21 := by rw [gS398_]; exact k386_
  replace k391_ : q_K S398_ b387_ = 21 := by rw [gS398_]; exact k391_
  replace k397_ : q_K S398_ b393_ = 21 := by rw [gS398_]; exact k397_
  refine lv_aload_n hx hb dX12_init_606 rfl (lv_at hl 0 rfl) ?_
  refine lv_sipush (v := 128) hx hb dX12_init_607 (by decide) ?_
  obtain ⟨w402_, h⟩ := h
  refine q_newa X Y (k := 22) (t := 2) (n := 128) (ty := .boolean) rfl (by decide) rfl (fun _ _ => rfl) (by first | exact rfl | decide | simp [defaultValue]) ar_boolean (by decide) (by decide) (by decide) w402_ dX12_init_610 (fun b399_ H h400_ h401_ Y => ?_)
  replace h := h b399_ h400_
  replace hu := w402_
  replace k5_ := qs_R_keep (j := 22) (n := 128) h400_ k5_ (by decide)
  replace k6_ := qs_R_keep (j := 22) (n := 128) h400_ k6_ (by decide)
  replace k11_ := qs_R_keep (j := 22) (n := 128) h400_ k11_ (by decide)
  replace k17_ := qs_R_keep (j := 22) (n := 128) h400_ k17_ (by decide)
  replace k23_ := qs_R_keep (j := 22) (n := 128) h400_ k23_ (by decide)
  replace k29_ := qs_R_keep (j := 22) (n := 128) h400_ k29_ (by decide)
  replace k34_ := qs_R_keep (j := 22) (n := 128) h400_ k34_ (by decide)
  replace k40_ := qs_R_keep (j := 22) (n := 128) h400_ k40_ (by decide)
  replace k46_ := qs_R_keep (j := 22) (n := 128) h400_ k46_ (by decide)
  replace k51_ := qs_R_keep (j := 22) (n := 128) h400_ k51_ (by decide)
  replace k57_ := qs_R_keep (j := 22) (n := 128) h400_ k57_ (by decide)
  replace k63_ := qs_R_keep (j := 22) (n := 128) h400_ k63_ (by decide)
  replace k68_ := qs_R_keep (j := 22) (n := 128) h400_ k68_ (by decide)
  replace k74_ := qs_R_keep (j := 22) (n := 128) h400_ k74_ (by decide)
  replace k80_ := qs_R_keep (j := 22) (n := 128) h400_ k80_ (by decide)
  replace k85_ := qs_R_keep (j := 22) (n := 128) h400_ k85_ (by decide)
  replace k91_ := qs_R_keep (j := 22) (n := 128) h400_ k91_ (by decide)
  replace k97_ := qs_R_keep (j := 22) (n := 128) h400_ k97_ (by decide)
  replace k102_ := qs_R_keep (j := 22) (n := 128) h400_ k102_ (by decide)
  replace k108_ := qs_R_keep (j := 22) (n := 128) h400_ k108_ (by decide)
  replace k114_ := qs_R_keep (j := 22) (n := 128) h400_ k114_ (by decide)
  replace k119_ := qs_R_keep (j := 22) (n := 128) h400_ k119_ (by decide)
  replace k125_ := qs_R_keep (j := 22) (n := 128) h400_ k125_ (by decide)
  replace k131_ := qs_R_keep (j := 22) (n := 128) h400_ k131_ (by decide)
  replace k136_ := qs_R_keep (j := 22) (n := 128) h400_ k136_ (by decide)
  replace k142_ := qs_R_keep (j := 22) (n := 128) h400_ k142_ (by decide)
  replace k148_ := qs_R_keep (j := 22) (n := 128) h400_ k148_ (by decide)
  replace k153_ := qs_R_keep (j := 22) (n := 128) h400_ k153_ (by decide)
  replace k159_ := qs_R_keep (j := 22) (n := 128) h400_ k159_ (by decide)
  replace k165_ := qs_R_keep (j := 22) (n := 128) h400_ k165_ (by decide)
  replace k170_ := qs_R_keep (j := 22) (n := 128) h400_ k170_ (by decide)
  replace k176_ := qs_R_keep (j := 22) (n := 128) h400_ k176_ (by decide)
  replace k182_ := qs_R_keep (j := 22) (n := 128) h400_ k182_ (by decide)
  replace k187_ := qs_R_keep (j := 22) (n := 128) h400_ k187_ (by decide)
  replace k193_ := qs_R_keep (j := 22) (n := 128) h400_ k193_ (by decide)
  replace k199_ := qs_R_keep (j := 22) (n := 128) h400_ k199_ (by decide)
  replace k204_ := qs_R_keep (j := 22) (n := 128) h400_ k204_ (by decide)
  replace k210_ := qs_R_keep (j := 22) (n := 128) h400_ k210_ (by decide)
  replace k216_ := qs_R_keep (j := 22) (n := 128) h400_ k216_ (by decide)
  replace k221_ := qs_R_keep (j := 22) (n := 128) h400_ k221_ (by decide)
  replace k227_ := qs_R_keep (j := 22) (n := 128) h400_ k227_ (by decide)
  replace k233_ := qs_R_keep (j := 22) (n := 128) h400_ k233_ (by decide)
  replace k238_ := qs_R_keep (j := 22) (n := 128) h400_ k238_ (by decide)
  replace k244_ := qs_R_keep (j := 22) (n := 128) h400_ k244_ (by decide)
  replace k250_ := qs_R_keep (j := 22) (n := 128) h400_ k250_ (by decide)
  replace k255_ := qs_R_keep (j := 22) (n := 128) h400_ k255_ (by decide)
  replace k261_ := qs_R_keep (j := 22) (n := 128) h400_ k261_ (by decide)
  replace k267_ := qs_R_keep (j := 22) (n := 128) h400_ k267_ (by decide)
  replace k272_ := qs_R_keep (j := 22) (n := 128) h400_ k272_ (by decide)
  replace k278_ := qs_R_keep (j := 22) (n := 128) h400_ k278_ (by decide)
  replace k284_ := qs_R_keep (j := 22) (n := 128) h400_ k284_ (by decide)
  replace k289_ := qs_R_keep (j := 22) (n := 128) h400_ k289_ (by decide)
  replace k295_ := qs_R_keep (j := 22) (n := 128) h400_ k295_ (by decide)
  replace k301_ := qs_R_keep (j := 22) (n := 128) h400_ k301_ (by decide)
  replace k306_ := qs_R_keep (j := 22) (n := 128) h400_ k306_ (by decide)
  replace k312_ := qs_R_keep (j := 22) (n := 128) h400_ k312_ (by decide)
  replace k318_ := qs_R_keep (j := 22) (n := 128) h400_ k318_ (by decide)
  replace k323_ := qs_R_keep (j := 22) (n := 128) h400_ k323_ (by decide)
  replace k329_ := qs_R_keep (j := 22) (n := 128) h400_ k329_ (by decide)
  replace k335_ := qs_R_keep (j := 22) (n := 128) h400_ k335_ (by decide)
  replace k340_ := qs_R_keep (j := 22) (n := 128) h400_ k340_ (by decide)
  replace k346_ := qs_R_keep (j := 22) (n := 128) h400_ k346_ (by decide)
  replace k352_ := qs_R_keep (j := 22) (n := 128) h400_ k352_ (by decide)
  replace k357_ := qs_R_keep (j := 22) (n := 128) h400_ k357_ (by decide)
  replace k363_ := qs_R_keep (j := 22) (n := 128) h400_ k363_ (by decide)
  replace k369_ := qs_R_keep (j := 22) (n := 128) h400_ k369_ (by decide)
  replace k374_ := qs_R_keep (j := 22) (n := 128) h400_ k374_ (by decide)
  replace k380_ := qs_R_keep (j := 22) (n := 128) h400_ k380_ (by decide)
  replace k386_ := qs_R_keep (j := 22) (n := 128) h400_ k386_ (by decide)
  replace k391_ := qs_R_keep (j := 22) (n := 128) h400_ k391_ (by decide)
  replace k397_ := qs_R_keep (j := 22) (n := 128) h400_ k397_ (by decide)
  have k403_ : q_K (qs_R S398_ 22 128 b399_) b399_ = 22 := qs_R_Ks
  refine q_putP X Y (some b399_) rfl kX12 93 rfl fl_X12_227 k6_ _ rfl (Or.inr ⟨_, rfl⟩) (Or.inr ⟨rfl, hnm, rfl⟩) dX12_init_612 (fun H locs Y => ?_)
  refine lv_aload_n hx hb dX12_init_615 rfl (lv_at hl 0 rfl) ?_
  refine lv_sipush (v := 128) hx hb dX12_init_616 (by decide) ?_
  obtain ⟨w407_, h⟩ := h
  refine q_newa X Y (k := 21) (t := 1) (n := 128) (ty := .int) rfl (by decide) rfl (fun _ _ => rfl) (by first | exact rfl | decide | simp [defaultValue]) ar_int (by decide) (by decide) (by decide) w407_ dX12_init_619 (fun b404_ H h405_ h406_ Y => ?_)
  replace h := h b404_ h405_
  replace hu := w407_
  replace k5_ := qs_R_keep (j := 21) (n := 128) h405_ k5_ (by decide)
  replace k6_ := qs_R_keep (j := 21) (n := 128) h405_ k6_ (by decide)
  replace k11_ := qs_R_keep (j := 21) (n := 128) h405_ k11_ (by decide)
  replace k17_ := qs_R_keep (j := 21) (n := 128) h405_ k17_ (by decide)
  replace k23_ := qs_R_keep (j := 21) (n := 128) h405_ k23_ (by decide)
  replace k29_ := qs_R_keep (j := 21) (n := 128) h405_ k29_ (by decide)
  replace k34_ := qs_R_keep (j := 21) (n := 128) h405_ k34_ (by decide)
  replace k40_ := qs_R_keep (j := 21) (n := 128) h405_ k40_ (by decide)
  replace k46_ := qs_R_keep (j := 21) (n := 128) h405_ k46_ (by decide)
  replace k51_ := qs_R_keep (j := 21) (n := 128) h405_ k51_ (by decide)
  replace k57_ := qs_R_keep (j := 21) (n := 128) h405_ k57_ (by decide)
  replace k63_ := qs_R_keep (j := 21) (n := 128) h405_ k63_ (by decide)
  replace k68_ := qs_R_keep (j := 21) (n := 128) h405_ k68_ (by decide)
  replace k74_ := qs_R_keep (j := 21) (n := 128) h405_ k74_ (by decide)
  replace k80_ := qs_R_keep (j := 21) (n := 128) h405_ k80_ (by decide)
  replace k85_ := qs_R_keep (j := 21) (n := 128) h405_ k85_ (by decide)
  replace k91_ := qs_R_keep (j := 21) (n := 128) h405_ k91_ (by decide)
  replace k97_ := qs_R_keep (j := 21) (n := 128) h405_ k97_ (by decide)
  replace k102_ := qs_R_keep (j := 21) (n := 128) h405_ k102_ (by decide)
  replace k108_ := qs_R_keep (j := 21) (n := 128) h405_ k108_ (by decide)
  replace k114_ := qs_R_keep (j := 21) (n := 128) h405_ k114_ (by decide)
  replace k119_ := qs_R_keep (j := 21) (n := 128) h405_ k119_ (by decide)
  replace k125_ := qs_R_keep (j := 21) (n := 128) h405_ k125_ (by decide)
  replace k131_ := qs_R_keep (j := 21) (n := 128) h405_ k131_ (by decide)
  replace k136_ := qs_R_keep (j := 21) (n := 128) h405_ k136_ (by decide)
  replace k142_ := qs_R_keep (j := 21) (n := 128) h405_ k142_ (by decide)
  replace k148_ := qs_R_keep (j := 21) (n := 128) h405_ k148_ (by decide)
  replace k153_ := qs_R_keep (j := 21) (n := 128) h405_ k153_ (by decide)
  replace k159_ := qs_R_keep (j := 21) (n := 128) h405_ k159_ (by decide)
  replace k165_ := qs_R_keep (j := 21) (n := 128) h405_ k165_ (by decide)
  replace k170_ := qs_R_keep (j := 21) (n := 128) h405_ k170_ (by decide)
  replace k176_ := qs_R_keep (j := 21) (n := 128) h405_ k176_ (by decide)
  replace k182_ := qs_R_keep (j := 21) (n := 128) h405_ k182_ (by decide)
  replace k187_ := qs_R_keep (j := 21) (n := 128) h405_ k187_ (by decide)
  replace k193_ := qs_R_keep (j := 21) (n := 128) h405_ k193_ (by decide)
  replace k199_ := qs_R_keep (j := 21) (n := 128) h405_ k199_ (by decide)
  replace k204_ := qs_R_keep (j := 21) (n := 128) h405_ k204_ (by decide)
  replace k210_ := qs_R_keep (j := 21) (n := 128) h405_ k210_ (by decide)
  replace k216_ := qs_R_keep (j := 21) (n := 128) h405_ k216_ (by decide)
  replace k221_ := qs_R_keep (j := 21) (n := 128) h405_ k221_ (by decide)
  replace k227_ := qs_R_keep (j := 21) (n := 128) h405_ k227_ (by decide)
  replace k233_ := qs_R_keep (j := 21) (n := 128) h405_ k233_ (by decide)
  replace k238_ := qs_R_keep (j := 21) (n := 128) h405_ k238_ (by decide)
  replace k244_ := qs_R_keep (j := 21) (n := 128) h405_ k244_ (by decide)
  replace k250_ := qs_R_keep (j := 21) (n := 128) h405_ k250_ (by decide)
  replace k255_ := qs_R_keep (j := 21) (n := 128) h405_ k255_ (by decide)
  replace k261_ := qs_R_keep (j := 21) (n := 128) h405_ k261_ (by decide)
  replace k267_ := qs_R_keep (j := 21) (n := 128) h405_ k267_ (by decide)
  replace k272_ := qs_R_keep (j := 21) (n := 128) h405_ k272_ (by decide)
  replace k278_ := qs_R_keep (j := 21) (n := 128) h405_ k278_ (by decide)
  replace k284_ := qs_R_keep (j := 21) (n := 128) h405_ k284_ (by decide)
  replace k289_ := qs_R_keep (j := 21) (n := 128) h405_ k289_ (by decide)
  replace k295_ := qs_R_keep (j := 21) (n := 128) h405_ k295_ (by decide)
  replace k301_ := qs_R_keep (j := 21) (n := 128) h405_ k301_ (by decide)
  replace k306_ := qs_R_keep (j := 21) (n := 128) h405_ k306_ (by decide)
  replace k312_ := qs_R_keep (j := 21) (n := 128) h405_ k312_ (by decide)
  replace k318_ := qs_R_keep (j := 21) (n := 128) h405_ k318_ (by decide)
  replace k323_ := qs_R_keep (j := 21) (n := 128) h405_ k323_ (by decide)
  replace k329_ := qs_R_keep (j := 21) (n := 128) h405_ k329_ (by decide)
  replace k335_ := qs_R_keep (j := 21) (n := 128) h405_ k335_ (by decide)
  replace k340_ := qs_R_keep (j := 21) (n := 128) h405_ k340_ (by decide)
  replace k346_ := qs_R_keep (j := 21) (n := 128) h405_ k346_ (by decide)
  replace k352_ := qs_R_keep (j := 21) (n := 128) h405_ k352_ (by decide)
  replace k357_ := qs_R_keep (j := 21) (n := 128) h405_ k357_ (by decide)
  replace k363_ := qs_R_keep (j := 21) (n := 128) h405_ k363_ (by decide)
  replace k369_ := qs_R_keep (j := 21) (n := 128) h405_ k369_ (by decide)
  replace k374_ := qs_R_keep (j := 21) (n := 128) h405_ k374_ (by decide)
  replace k380_ := qs_R_keep (j := 21) (n := 128) h405_ k380_ (by decide)
  replace k386_ := qs_R_keep (j := 21) (n := 128) h405_ k386_ (by decide)
  replace k391_ := qs_R_keep (j := 21) (n := 128) h405_ k391_ (by decide)
  replace k397_ := qs_R_keep (j := 21) (n := 128) h405_ k397_ (by decide)
  replace k403_ := qs_R_keep (j := 21) (n := 128) h405_ k403_ (by decide)
  have k408_ : q_K (qs_R (qs_P (qs_R S398_ 22 128 b399_) 2493 a0 (some b399_)) 21 128 b404_) b404_ = 21 := qs_R_Ks
  obtain ⟨S409_, gS409_⟩ : ∃ z : q_S, z = (qs_R (qs_P (qs_R S398_ 22 128 b399_) 2493 a0 (some b399_)) 21 128 b404_) := ⟨_, rfl⟩
  replace Y : q_Y D cy lo s S409_ H locs := by rw [gS409_]; exact Y
  replace h := h S409_ gS409_
  replace k5_ : q_K S409_ b1_ = 20 := by rw [gS409_]; exact k5_
  replace k6_ : q_K S409_ a0 = 13 := by rw [gS409_]; exact k6_
  replace k11_ : q_K S409_ b7_ = 20 := by rw [gS409_]; exact k11_
  replace k17_ : q_K S409_ b13_ = 20 := by rw [gS409_]; exact k17_
  replace k23_ : q_K S409_ b19_ = 21 := by rw [gS409_]; exact k23_
  replace k29_ : q_K S409_ b25_ = 21 := by rw [gS409_]; exact k29_
  replace k34_ : q_K S409_ b30_ = 21 := by rw [gS409_]; exact k34_
  replace k40_ : q_K S409_ b36_ = 21 := by rw [gS409_]; exact k40_
  replace k46_ : q_K S409_ b42_ = 21 := by rw [gS409_]; exact k46_
  replace k51_ : q_K S409_ b47_ = 21 := by rw [gS409_]; exact k51_
  replace k57_ : q_K S409_ b53_ = 21 := by rw [gS409_]; exact k57_
  replace k63_ : q_K S409_ b59_ = 21 := by rw [gS409_]; exact k63_
  replace k68_ : q_K S409_ b64_ = 21 := by rw [gS409_]; exact k68_
  replace k74_ : q_K S409_ b70_ = 21 := by rw [gS409_]; exact k74_
  replace k80_ : q_K S409_ b76_ = 21 := by rw [gS409_]; exact k80_
  replace k85_ : q_K S409_ b81_ = 21 := by rw [gS409_]; exact k85_
  replace k91_ : q_K S409_ b87_ = 21 := by rw [gS409_]; exact k91_
  replace k97_ : q_K S409_ b93_ = 21 := by rw [gS409_]; exact k97_
  replace k102_ : q_K S409_ b98_ = 21 := by rw [gS409_]; exact k102_
  replace k108_ : q_K S409_ b104_ = 21 := by rw [gS409_]; exact k108_
  replace k114_ : q_K S409_ b110_ = 21 := by rw [gS409_]; exact k114_
  replace k119_ : q_K S409_ b115_ = 21 := by rw [gS409_]; exact k119_
  replace k125_ : q_K S409_ b121_ = 22 := by rw [gS409_]; exact k125_
  replace k131_ : q_K S409_ b127_ = 21 := by rw [gS409_]; exact k131_
  replace k136_ : q_K S409_ b132_ = 21 := by rw [gS409_]; exact k136_
  replace k142_ : q_K S409_ b138_ = 21 := by rw [gS409_]; exact k142_
  replace k148_ : q_K S409_ b144_ = 22 := by rw [gS409_]; exact k148_
  replace k153_ : q_K S409_ b149_ = 21 := by rw [gS409_]; exact k153_
  replace k159_ : q_K S409_ b155_ = 22 := by rw [gS409_]; exact k159_
  replace k165_ : q_K S409_ b161_ = 22 := by rw [gS409_]; exact k165_
  replace k170_ : q_K S409_ b166_ = 22 := by rw [gS409_]; exact k170_
  replace k176_ : q_K S409_ b172_ = 21 := by rw [gS409_]; exact k176_
  replace k182_ : q_K S409_ b178_ = 22 := by rw [gS409_]; exact k182_
  replace k187_ : q_K S409_ b183_ = 21 := by rw [gS409_]; exact k187_
  replace k193_ : q_K S409_ b189_ = 22 := by rw [gS409_]; exact k193_
  replace k199_ : q_K S409_ b195_ = 21 := by rw [gS409_]; exact k199_
  replace k204_ : q_K S409_ b200_ = 22 := by rw [gS409_]; exact k204_
  replace k210_ : q_K S409_ b206_ = 21 := by rw [gS409_]; exact k210_
  replace k216_ : q_K S409_ b212_ = 21 := by rw [gS409_]; exact k216_
  replace k221_ : q_K S409_ b217_ = 21 := by rw [gS409_]; exact k221_
  replace k227_ : q_K S409_ b223_ = 21 := by rw [gS409_]; exact k227_
  replace k233_ : q_K S409_ b229_ = 21 := by rw [gS409_]; exact k233_
  replace k238_ : q_K S409_ b234_ = 21 := by rw [gS409_]; exact k238_
  replace k244_ : q_K S409_ b240_ = 20 := by rw [gS409_]; exact k244_
  replace k250_ : q_K S409_ b246_ = 20 := by rw [gS409_]; exact k250_
  replace k255_ : q_K S409_ b251_ = 21 := by rw [gS409_]; exact k255_
  replace k261_ : q_K S409_ b257_ = 21 := by rw [gS409_]; exact k261_
  replace k267_ : q_K S409_ b263_ = 21 := by rw [gS409_]; exact k267_
  replace k272_ : q_K S409_ b268_ = 22 := by rw [gS409_]; exact k272_
  replace k278_ : q_K S409_ b274_ = 21 := by rw [gS409_]; exact k278_
  replace k284_ : q_K S409_ b280_ = 21 := by rw [gS409_]; exact k284_
  replace k289_ : q_K S409_ b285_ = 21 := by rw [gS409_]; exact k289_
  replace k295_ : q_K S409_ b291_ = 21 := by rw [gS409_]; exact k295_
  replace k301_ : q_K S409_ b297_ = 22 := by rw [gS409_]; exact k301_
  replace k306_ : q_K S409_ b302_ = 21 := by rw [gS409_]; exact k306_
  replace k312_ : q_K S409_ b308_ = 21 := by rw [gS409_]; exact k312_
  replace k318_ : q_K S409_ b314_ = 21 := by rw [gS409_]; exact k318_
  replace k323_ : q_K S409_ b319_ = 21 := by rw [gS409_]; exact k323_
  replace k329_ : q_K S409_ b325_ = 21 := by rw [gS409_]; exact k329_
  replace k335_ : q_K S409_ b331_ = 21 := by rw [gS409_]; exact k335_
  replace k340_ : q_K S409_ b336_ = 21 := by rw [gS409_]; exact k340_
  replace k346_ : q_K S409_ b342_ = 21 := by rw [gS409_]; exact k346_
  replace k352_ : q_K S409_ b348_ = 21 := by rw [gS409_]; exact k352_
  replace k357_ : q_K S409_ b353_ = 21 := by rw [gS409_]; exact k357_
  replace k363_ : q_K S409_ b359_ = 21 := by rw [gS409_]; exact k363_
  replace k369_ : q_K S409_ b365_ = 21 := by rw [gS409_]; exact k369_
  replace k374_ : q_K S409_ b370_ = 21 := by rw [gS409_]; exact k374_
  replace k380_ : q_K S409_ b376_ = 21 := by rw [gS409_]; exact k380_
  replace k386_ : q_K S409_ b382_ = 21 := by rw [gS409_]; exact k386_
  replace k391_ : q_K S409_ b387_ = 21 := by rw [gS409_]; exact k391_
  replace k397_ : q_K S409_ b393_ = 21 := by rw [gS409_]; exact k397_
  replace k403_ : q_K S409_ b399_ = 22 := by rw [gS409_]; exact k403_
  replace k408_ : q_K S409_ b404_ = 21 := by rw [gS409_]; exact k408_
  refine q_putP X Y (some b404_) rfl kX12 94 rfl fl_X12_230 k6_ _ rfl (Or.inr ⟨_, rfl⟩) (Or.inr ⟨rfl, hnm, rfl⟩) dX12_init_621 (fun H locs Y => ?_)
  refine lv_aload_n hx hb dX12_init_624 rfl (lv_at hl 0 rfl) ?_
  refine lv_sipush (v := 2048) hx hb dX12_init_625 (by decide) ?_
  obtain ⟨w413_, h⟩ := h
  refine q_newa X Y (k := 21) (t := 1) (n := 2048) (ty := .int) rfl (by decide) rfl (fun _ _ => rfl) (by first | exact rfl | decide | simp [defaultValue]) ar_int (by decide) (by decide) (by decide) w413_ dX12_init_628 (fun b410_ H h411_ h412_ Y => ?_)
  replace h := h b410_ h411_
  replace hu := w413_
  replace k5_ := qs_R_keep (j := 21) (n := 2048) h411_ k5_ (by decide)
  replace k6_ := qs_R_keep (j := 21) (n := 2048) h411_ k6_ (by decide)
  replace k11_ := qs_R_keep (j := 21) (n := 2048) h411_ k11_ (by decide)
  replace k17_ := qs_R_keep (j := 21) (n := 2048) h411_ k17_ (by decide)
  replace k23_ := qs_R_keep (j := 21) (n := 2048) h411_ k23_ (by decide)
  replace k29_ := qs_R_keep (j := 21) (n := 2048) h411_ k29_ (by decide)
  replace k34_ := qs_R_keep (j := 21) (n := 2048) h411_ k34_ (by decide)
  replace k40_ := qs_R_keep (j := 21) (n := 2048) h411_ k40_ (by decide)
  replace k46_ := qs_R_keep (j := 21) (n := 2048) h411_ k46_ (by decide)
  replace k51_ := qs_R_keep (j := 21) (n := 2048) h411_ k51_ (by decide)
  replace k57_ := qs_R_keep (j := 21) (n := 2048) h411_ k57_ (by decide)
  replace k63_ := qs_R_keep (j := 21) (n := 2048) h411_ k63_ (by decide)
  replace k68_ := qs_R_keep (j := 21) (n := 2048) h411_ k68_ (by decide)
  replace k74_ := qs_R_keep (j := 21) (n := 2048) h411_ k74_ (by decide)
  replace k80_ := qs_R_keep (j := 21) (n := 2048) h411_ k80_ (by decide)
  replace k85_ := qs_R_keep (j := 21) (n := 2048) h411_ k85_ (by decide)
  replace k91_ := qs_R_keep (j := 21) (n := 2048) h411_ k91_ (by decide)
  replace k97_ := qs_R_keep (j := 21) (n := 2048) h411_ k97_ (by decide)
  replace k102_ := qs_R_keep (j := 21) (n := 2048) h411_ k102_ (by decide)
  replace k108_ := qs_R_keep (j := 21) (n := 2048) h411_ k108_ (by decide)
  replace k114_ := qs_R_keep (j := 21) (n := 2048) h411_ k114_ (by decide)
  replace k119_ := qs_R_keep (j := 21) (n := 2048) h411_ k119_ (by decide)
  replace k125_ := qs_R_keep (j := 21) (n := 2048) h411_ k125_ (by decide)
  replace k131_ := qs_R_keep (j := 21) (n := 2048) h411_ k131_ (by decide)
  replace k136_ := qs_R_keep (j := 21) (n := 2048) h411_ k136_ (by decide)
  replace k142_ := qs_R_keep (j := 21) (n := 2048) h411_ k142_ (by decide)
  replace k148_ := qs_R_keep (j := 21) (n := 2048) h411_ k148_ (by decide)
  replace k153_ := qs_R_keep (j := 21) (n := 2048) h411_ k153_ (by decide)
  replace k159_ := qs_R_keep (j := 21) (n := 2048) h411_ k159_ (by decide)
  replace k165_ := qs_R_keep (j := 21) (n := 2048) h411_ k165_ (by decide)
  replace k170_ := qs_R_keep (j := 21) (n := 2048) h411_ k170_ (by decide)
  replace k176_ := qs_R_keep (j := 21) (n := 2048) h411_ k176_ (by decide)
  replace k182_ := qs_R_keep (j := 21) (n := 2048) h411_ k182_ (by decide)
  replace k187_ := qs_R_keep (j := 21) (n := 2048) h411_ k187_ (by decide)
  replace k193_ := qs_R_keep (j := 21) (n := 2048) h411_ k193_ (by decide)
  replace k199_ := qs_R_keep (j := 21) (n := 2048) h411_ k199_ (by decide)
  replace k204_ := qs_R_keep (j := 21) (n := 2048) h411_ k204_ (by decide)
  replace k210_ := qs_R_keep (j := 21) (n := 2048) h411_ k210_ (by decide)
  replace k216_ := qs_R_keep (j := 21) (n := 2048) h411_ k216_ (by decide)
  replace k221_ := qs_R_keep (j := 21) (n := 2048) h411_ k221_ (by decide)
  replace k227_ := qs_R_keep (j := 21) (n := 2048) h411_ k227_ (by decide)
  replace k233_ := qs_R_keep (j := 21) (n := 2048) h411_ k233_ (by decide)
  replace k238_ := qs_R_keep (j := 21) (n := 2048) h411_ k238_ (by decide)
  replace k244_ := qs_R_keep (j := 21) (n := 2048) h411_ k244_ (by decide)
  replace k250_ := qs_R_keep (j := 21) (n := 2048) h411_ k250_ (by decide)
  replace k255_ := qs_R_keep (j := 21) (n := 2048) h411_ k255_ (by decide)
  replace k261_ := qs_R_keep (j := 21) (n := 2048) h411_ k261_ (by decide)
  replace k267_ := qs_R_keep (j := 21) (n := 2048) h411_ k267_ (by decide)
  replace k272_ := qs_R_keep (j := 21) (n := 2048) h411_ k272_ (by decide)
  replace k278_ := qs_R_keep (j := 21) (n := 2048) h411_ k278_ (by decide)
  replace k284_ := qs_R_keep (j := 21) (n := 2048) h411_ k284_ (by decide)
  replace k289_ := qs_R_keep (j := 21) (n := 2048) h411_ k289_ (by decide)
  replace k295_ := qs_R_keep (j := 21) (n := 2048) h411_ k295_ (by decide)
  replace k301_ := qs_R_keep (j := 21) (n := 2048) h411_ k301_ (by decide)
  replace k306_ := qs_R_keep (j := 21) (n := 2048) h411_ k306_ (by decide)
  replace k312_ := qs_R_keep (j := 21) (n := 2048) h411_ k312_ (by decide)
  replace k318_ := qs_R_keep (j := 21) (n := 2048) h411_ k318_ (by decide)
  replace k323_ := qs_R_keep (j := 21) (n := 2048) h411_ k323_ (by decide)
  replace k329_ := qs_R_keep (j := 21) (n := 2048) h411_ k329_ (by decide)
  replace k335_ := qs_R_keep (j := 21) (n := 2048) h411_ k335_ (by decide)
  replace k340_ := qs_R_keep (j := 21) (n := 2048) h411_ k340_ (by decide)
  replace k346_ := qs_R_keep (j := 21) (n := 2048) h411_ k346_ (by decide)
  replace k352_ := qs_R_keep (j := 21) (n := 2048) h411_ k352_ (by decide)
  replace k357_ := qs_R_keep (j := 21) (n := 2048) h411_ k357_ (by decide)
  replace k363_ := qs_R_keep (j := 21) (n := 2048) h411_ k363_ (by decide)
  replace k369_ := qs_R_keep (j := 21) (n := 2048) h411_ k369_ (by decide)
  replace k374_ := qs_R_keep (j := 21) (n := 2048) h411_ k374_ (by decide)
  replace k380_ := qs_R_keep (j := 21) (n := 2048) h411_ k380_ (by decide)
  replace k386_ := qs_R_keep (j := 21) (n := 2048) h411_ k386_ (by decide)
  replace k391_ := qs_R_keep (j := 21) (n := 2048) h411_ k391_ (by decide)
  replace k397_ := qs_R_keep (j := 21) (n := 2048) h411_ k397_ (by decide)
  replace k403_ := qs_R_keep (j := 21) (n := 2048) h411_ k403_ (by decide)
  replace k408_ := qs_R_keep (j := 21) (n := 2048) h411_ k408_ (by decide)
  have k414_ : q_K (qs_R (qs_P S409_ 2494 a0 (some b404_)) 21 2048 b410_) b410_ = 21 := qs_R_Ks
  refine q_putP X Y (some b410_) rfl kX12 95 rfl fl_X12_233 k6_ _ rfl (Or.inr ⟨_, rfl⟩) (Or.inr ⟨rfl, hnm, rfl⟩) dX12_init_630 (fun H locs Y => ?_)
  obtain ⟨S415_, gS415_⟩ : ∃ z : q_S, z = (qs_P (qs_R (qs_P S409_ 2494 a0 (some b404_)) 21 2048 b410_) 2495 a0 (some b410_)) := ⟨_, rfl⟩
  replace Y : q_Y D cy lo s S415_ H locs := by rw [gS415_]; exact Y
  replace h := h S415_ gS415_
  replace k5_ : q_K S415_ b1_ = 20 := by rw [gS415_]; exact k5_
  replace k6_ : q_K S415_ a0 = 13 := by rw [gS415_]; exact k6_
  replace k11_ : q_K S415_ b7_ = 20 := by rw [gS415_]; exact k11_
  replace k17_ : q_K S415_ b13_ = 20 := by rw [gS415_]; exact k17_
  replace k23_ : q_K S415_ b19_ = 21 := by rw [gS415_]; exact k23_
  replace k29_ : q_K S415_ b25_ = 21 := by rw [gS415_]; exact k29_
  replace k34_ : q_K S415_ b30_ = 21 := by rw [gS415_]; exact k34_
  replace k40_ : q_K S415_ b36_ = 21 := by rw [gS415_]; exact k40_
  replace k46_ : q_K S415_ b42_ = 21 := by rw [gS415_]; exact k46_
  replace k51_ : q_K S415_ b47_ = 21 := by rw [gS415_]; exact k51_
  replace k57_ : q_K S415_ b53_ = 21 := by rw [gS415_]; exact k57_
  replace k63_ : q_K S415_ b59_ = 21 := by rw [gS415_]; exact k63_
  replace k68_ : q_K S415_ b64_ = 21 := by rw [gS415_]; exact k68_
  replace k74_ : q_K S415_ b70_ = 21 := by rw [gS415_]; exact k74_
  replace k80_ : q_K S415_ b76_ = 21 := by rw [gS415_]; exact k80_
  replace k85_ : q_K S415_ b81_ = 21 := by rw [gS415_]; exact k85_
  replace k91_ : q_K S415_ b87_ = 21 := by rw [gS415_]; exact k91_
  replace k97_ : q_K S415_ b93_ = 21 := by rw [gS415_]; exact k97_
  replace k102_ : q_K S415_ b98_ = 21 := by rw [gS415_]; exact k102_
  replace k108_ : q_K S415_ b104_ = 21 := by rw [gS415_]; exact k108_
  replace k114_ : q_K S415_ b110_ = 21 := by rw [gS415_]; exact k114_
  replace k119_ : q_K S415_ b115_ = 21 := by rw [gS415_]; exact k119_
  replace k125_ : q_K S415_ b121_ = 22 := by rw [gS415_]; exact k125_
  replace k131_ : q_K S415_ b127_ = 21 := by rw [gS415_]; exact k131_
  replace k136_ : q_K S415_ b132_ = 21 := by rw [gS415_]; exact k136_
  replace k142_ : q_K S415_ b138_ = 21 := by rw [gS415_]; exact k142_
  replace k148_ : q_K S415_ b144_ = 22 := by rw [gS415_]; exact k148_
  replace k153_ : q_K S415_ b149_ = 21 := by rw [gS415_]; exact k153_
  replace k159_ : q_K S415_ b155_ = 22 := by rw [gS415_]; exact k159_
  replace k165_ : q_K S415_ b161_ = 22 := by rw [gS415_]; exact k165_
  replace k170_ : q_K S415_ b166_ = 22 := by rw [gS415_]; exact k170_
  replace k176_ : q_K S415_ b172_ = 21 := by rw [gS415_]; exact k176_
  replace k182_ : q_K S415_ b178_ = 22 := by rw [gS415_]; exact k182_
  replace k187_ : q_K S415_ b183_ = 21 := by rw [gS415_]; exact k187_
  replace k193_ : q_K S415_ b189_ = 22 := by rw [gS415_]; exact k193_
  replace k199_ : q_K S415_ b195_ = 21 := by rw [gS415_]; exact k199_
  replace k204_ : q_K S415_ b200_ = 22 := by rw [gS415_]; exact k204_
  replace k210_ : q_K S415_ b206_ = 21 := by rw [gS415_]; exact k210_
  replace k216_ : q_K S415_ b212_ = 21 := by rw [gS415_]; exact k216_
  replace k221_ : q_K S415_ b217_ = 21 := by rw [gS415_]; exact k221_
  replace k227_ : q_K S415_ b223_ = 21 := by rw [gS415_]; exact k227_
  replace k233_ : q_K S415_ b229_ = 21 := by rw [gS415_]; exact k233_
  replace k238_ : q_K S415_ b234_ = 21 := by rw [gS415_]; exact k238_
  replace k244_ : q_K S415_ b240_ = 20 := by rw [gS415_]; exact k244_
  replace k250_ : q_K S415_ b246_ = 20 := by rw [gS415_]; exact k250_
  replace k255_ : q_K S415_ b251_ = 21 := by rw [gS415_]; exact k255_
  replace k261_ : q_K S415_ b257_ = 21 := by rw [gS415_]; exact k261_
  replace k267_ : q_K S415_ b263_ = 21 := by rw [gS415_]; exact k267_
  replace k272_ : q_K S415_ b268_ = 22 := by rw [gS415_]; exact k272_
  replace k278_ : q_K S415_ b274_ = 21 := by rw [gS415_]; exact k278_
  replace k284_ : q_K S415_ b280_ = 21 := by rw [gS415_]; exact k284_
  replace k289_ : q_K S415_ b285_ = 21 := by rw [gS415_]; exact k289_
  replace k295_ : q_K S415_ b291_ = 21 := by rw [gS415_]; exact k295_
  replace k301_ : q_K S415_ b297_ = 22 := by rw [gS415_]; exact k301_
  replace k306_ : q_K S415_ b302_ = 21 := by rw [gS415_]; exact k306_
  replace k312_ : q_K S415_ b308_ = 21 := by rw [gS415_]; exact k312_
  replace k318_ : q_K S415_ b314_ = 21 := by rw [gS415_]; exact k318_
  replace k323_ : q_K S415_ b319_ = 21 := by rw [gS415_]; exact k323_
  replace k329_ : q_K S415_ b325_ = 21 := by rw [gS415_]; exact k329_
  replace k335_ : q_K S415_ b331_ = 21 := by rw [gS415_]; exact k335_
  replace k340_ : q_K S415_ b336_ = 21 := by rw [gS415_]; exact k340_
  replace k346_ : q_K S415_ b342_ = 21 := by rw [gS415_]; exact k346_
  replace k352_ : q_K S415_ b348_ = 21 := by rw [gS415_]; exact k352_
  replace k357_ : q_K S415_ b353_ = 21 := by rw [gS415_]; exact k357_
  replace k363_ : q_K S415_ b359_ = 21 := by rw [gS415_]; exact k363_
  replace k369_ : q_K S415_ b365_ = 21 := by rw [gS415_]; exact k369_
  replace k374_ : q_K S415_ b370_ = 21 := by rw [gS415_]; exact k374_
  replace k380_ : q_K S415_ b376_ = 21 := by rw [gS415_]; exact k380_
  replace k386_ : q_K S415_ b382_ = 21 := by rw [gS415_]; exact k386_
  replace k391_ : q_K S415_ b387_ = 21 := by rw [gS415_]; exact k391_
  replace k397_ : q_K S415_ b393_ = 21 := by rw [gS415_]; exact k397_
  replace k403_ : q_K S415_ b399_ = 22 := by rw [gS415_]; exact k403_
  replace k408_ : q_K S415_ b404_ = 21 := by rw [gS415_]; exact k408_
  replace k414_ : q_K S415_ b410_ = 21 := by rw [gS415_]; exact k414_
  refine lv_aload_n hx hb dX12_init_633 rfl (lv_at hl 0 rfl) ?_
  refine lv_sipush (v := 128) hx hb dX12_init_634 (by decide) ?_
  obtain ⟨w419_, h⟩ := h
  refine q_newa X Y (k := 22) (t := 2) (n := 128) (ty := .boolean) rfl (by decide) rfl (fun _ _ => rfl) (by first | exact rfl | decide | simp [defaultValue]) ar_boolean (by decide) (by decide) (by decide) w419_ dX12_init_637 (fun b416_ H h417_ h418_ Y => ?_)
  replace h := h b416_ h417_
  replace hu := w419_
  replace k5_ := qs_R_keep (j := 22) (n := 128) h417_ k5_ (by decide)
  replace k6_ := qs_R_keep (j := 22) (n := 128) h417_ k6_ (by decide)
  replace k11_ := qs_R_keep (j := 22) (n := 128) h417_ k11_ (by decide)
  replace k17_ := qs_R_keep (j := 22) (n := 128) h417_ k17_ (by decide)
  replace k23_ := qs_R_keep (j := 22) (n := 128) h417_ k23_ (by decide)
  replace k29_ := qs_R_keep (j := 22) (n := 128) h417_ k29_ (by decide)
  replace k34_ := qs_R_keep (j := 22) (n := 128) h417_ k34_ (by decide)
  replace k40_ := qs_R_keep (j := 22) (n := 128) h417_ k40_ (by decide)
  replace k46_ := qs_R_keep (j := 22) (n := 128) h417_ k46_ (by decide)
  replace k51_ := qs_R_keep (j := 22) (n := 128) h417_ k51_ (by decide)
  replace k57_ := qs_R_keep (j := 22) (n := 128) h417_ k57_ (by decide)
  replace k63_ := qs_R_keep (j := 22) (n := 128) h417_ k63_ (by decide)
  replace k68_ := qs_R_keep (j := 22) (n := 128) h417_ k68_ (by decide)
  replace k74_ := qs_R_keep (j := 22) (n := 128) h417_ k74_ (by decide)
  replace k80_ := qs_R_keep (j := 22) (n := 128) h417_ k80_ (by decide)
  replace k85_ := qs_R_keep (j := 22) (n := 128) h417_ k85_ (by decide)
  replace k91_ := qs_R_keep (j := 22) (n := 128) h417_ k91_ (by decide)
  replace k97_ := qs_R_keep (j := 22) (n := 128) h417_ k97_ (by decide)
  replace k102_ := qs_R_keep (j := 22) (n := 128) h417_ k102_ (by decide)
  replace k108_ := qs_R_keep (j := 22) (n := 128) h417_ k108_ (by decide)
  replace k114_ := qs_R_keep (j := 22) (n := 128) h417_ k114_ (by decide)
  replace k119_ := qs_R_keep (j := 22) (n := 128) h417_ k119_ (by decide)
  replace k125_ := qs_R_keep (j := 22) (n := 128) h417_ k125_ (by decide)
  replace k131_ := qs_R_keep (j := 22) (n := 128) h417_ k131_ (by decide)
  replace k136_ := qs_R_keep (j := 22) (n := 128) h417_ k136_ (by decide)
  replace k142_ := qs_R_keep (j := 22) (n := 128) h417_ k142_ (by decide)
  replace k148_ := qs_R_keep (j := 22) (n := 128) h417_ k148_ (by decide)
  replace k153_ := qs_R_keep (j := 22) (n := 128) h417_ k153_ (by decide)
  replace k159_ := qs_R_keep (j := 22) (n := 128) h417_ k159_ (by decide)
  replace k165_ := qs_R_keep (j := 22) (n := 128) h417_ k165_ (by decide)
  replace k170_ := qs_R_keep (j := 22) (n := 128) h417_ k170_ (by decide)
  replace k176_ := qs_R_keep (j := 22) (n := 128) h417_ k176_ (by decide)
  replace k182_ := qs_R_keep (j := 22) (n := 128) h417_ k182_ (by decide)
  replace k187_ := qs_R_keep (j := 22) (n := 128) h417_ k187_ (by decide)
  replace k193_ := qs_R_keep (j := 22) (n := 128) h417_ k193_ (by decide)
  replace k199_ := qs_R_keep (j := 22) (n := 128) h417_ k199_ (by decide)
  replace k204_ := qs_R_keep (j := 22) (n := 128) h417_ k204_ (by decide)
  replace k210_ := qs_R_keep (j := 22) (n := 128) h417_ k210_ (by decide)
  replace k216_ := qs_R_keep (j := 22) (n := 128) h417_ k216_ (by decide)
  replace k221_ := qs_R_keep (j := 22) (n := 128) h417_ k221_ (by decide)
  replace k227_ := qs_R_keep (j := 22) (n := 128) h417_ k227_ (by decide)
  replace k233_ := qs_R_keep (j := 22) (n := 128) h417_ k233_ (by decide)
  replace k238_ := qs_R_keep (j := 22) (n := 128) h417_ k238_ (by decide)
  replace k244_ := qs_R_keep (j := 22) (n := 128) h417_ k244_ (by decide)
  replace k250_ := qs_R_keep (j := 22) (n := 128) h417_ k250_ (by decide)
  replace k255_ := qs_R_keep (j := 22) (n := 128) h417_ k255_ (by decide)
  replace k261_ := qs_R_keep (j := 22) (n := 128) h417_ k261_ (by decide)
  replace k267_ := qs_R_keep (j := 22) (n := 128) h417_ k267_ (by decide)
  replace k272_ := qs_R_keep (j := 22) (n := 128) h417_ k272_ (by decide)
  replace k278_ := qs_R_keep (j := 22) (n := 128) h417_ k278_ (by decide)
  replace k284_ := qs_R_keep (j := 22) (n := 128) h417_ k284_ (by decide)
  replace k289_ := qs_R_keep (j := 22) (n := 128) h417_ k289_ (by decide)
  replace k295_ := qs_R_keep (j := 22) (n := 128) h417_ k295_ (by decide)
  replace k301_ := qs_R_keep (j := 22) (n := 128) h417_ k301_ (by decide)
  replace k306_ := qs_R_keep (j := 22) (n := 128) h417_ k306_ (by decide)
  replace k312_ := qs_R_keep (j := 22) (n := 128) h417_ k312_ (by decide)
  replace k318_ := qs_R_keep (j := 22) (n := 128) h417_ k318_ (by decide)
  replace k323_ := qs_R_keep (j := 22) (n := 128) h417_ k323_ (by decide)
  replace k329_ := qs_R_keep (j := 22) (n := 128) h417_ k329_ (by decide)
  replace k335_ := qs_R_keep (j := 22) (n := 128) h417_ k335_ (by decide)
  replace k340_ := qs_R_keep (j := 22) (n := 128) h417_ k340_ (by decide)
  replace k346_ := qs_R_keep (j := 22) (n := 128) h417_ k346_ (by decide)
  replace k352_ := qs_R_keep (j := 22) (n := 128) h417_ k352_ (by decide)
  replace k357_ := qs_R_keep (j := 22) (n := 128) h417_ k357_ (by decide)
  replace k363_ := qs_R_keep (j := 22) (n := 128) h417_ k363_ (by decide)
  replace k369_ := qs_R_keep (j := 22) (n := 128) h417_ k369_ (by decide)
  replace k374_ := qs_R_keep (j := 22) (n := 128) h417_ k374_ (by decide)
  replace k380_ := qs_R_keep (j := 22) (n := 128) h417_ k380_ (by decide)
  replace k386_ := qs_R_keep (j := 22) (n := 128) h417_ k386_ (by decide)
  replace k391_ := qs_R_keep (j := 22) (n := 128) h417_ k391_ (by decide)
  replace k397_ := qs_R_keep (j := 22) (n := 128) h417_ k397_ (by decide)
  replace k403_ := qs_R_keep (j := 22) (n := 128) h417_ k403_ (by decide)
  replace k408_ := qs_R_keep (j := 22) (n := 128) h417_ k408_ (by decide)
  replace k414_ := qs_R_keep (j := 22) (n := 128) h417_ k414_ (by decide)
  have k420_ : q_K (qs_R S415_ 22 128 b416_) b416_ = 22 := qs_R_Ks
  refine q_putP X Y (some b416_) rfl kX12 96 rfl fl_X12_236 k6_ _ rfl (Or.inr ⟨_, rfl⟩) (Or.inr ⟨rfl, hnm, rfl⟩) dX12_init_639 (fun H locs Y => ?_)
  refine lv_aload_n hx hb dX12_init_642 rfl (lv_at hl 0 rfl) ?_
  refine lv_sipush (v := 128) hx hb dX12_init_643 (by decide) ?_
  obtain ⟨w424_, h⟩ := h
  refine q_newa X Y (k := 21) (t := 1) (n := 128) (ty := .int) rfl (by decide) rfl (fun _ _ => rfl) (by first | exact rfl | decide | simp [defaultValue]) ar_int (by decide) (by decide) (by decide) w424_ dX12_init_646 (fun b421_ H h422_ h423_ Y => ?_)
  replace h := h b421_ h422_
  replace hu := w424_
  replace k5_ := qs_R_keep (j := 21) (n := 128) h422_ k5_ (by decide)
  replace k6_ := qs_R_keep (j := 21) (n := 128) h422_ k6_ (by decide)
  replace k11_ := qs_R_keep (j := 21) (n := 128) h422_ k11_ (by decide)
  replace k17_ := qs_R_keep (j := 21) (n := 128) h422_ k17_ (by decide)
  replace k23_ := qs_R_keep (j := 21) (n := 128) h422_ k23_ (by decide)
  replace k29_ := qs_R_keep (j := 21) (n := 128) h422_ k29_ (by decide)
  replace k34_ := qs_R_keep (j := 21) (n := 128) h422_ k34_ (by decide)
  replace k40_ := qs_R_keep (j := 21) (n := 128) h422_ k40_ (by decide)
  replace k46_ := qs_R_keep (j := 21) (n := 128) h422_ k46_ (by decide)
  replace k51_ := qs_R_keep (j := 21) (n := 128) h422_ k51_ (by decide)
  replace k57_ := qs_R_keep (j := 21) (n := 128) h422_ k57_ (by decide)
  replace k63_ := qs_R_keep (j := 21) (n := 128) h422_ k63_ (by decide)
  replace k68_ := qs_R_keep (j := 21) (n := 128) h422_ k68_ (by decide)
  replace k74_ := qs_R_keep (j := 21) (n := 128) h422_ k74_ (by decide)
  replace k80_ := qs_R_keep (j := 21) (n := 128) h422_ k80_ (by decide)
  replace k85_ := qs_R_keep (j := 21) (n := 128) h422_ k85_ (by decide)
  replace k91_ := qs_R_keep (j := 21) (n := 128) h422_ k91_ (by decide)
  replace k97_ := qs_R_keep (j := 21) (n := 128) h422_ k97_ (by decide)
  replace k102_ := qs_R_keep (j := 21) (n := 128) h422_ k102_ (by decide)
  replace k108_ := qs_R_keep (j := 21) (n := 128) h422_ k108_ (by decide)
  replace k114_ := qs_R_keep (j := 21) (n := 128) h422_ k114_ (by decide)
  replace k119_ := qs_R_keep (j := 21) (n := 128) h422_ k119_ (by decide)
  replace k125_ := qs_R_keep (j := 21) (n := 128) h422_ k125_ (by decide)
  replace k131_ := qs_R_keep (j := 21) (n := 128) h422_ k131_ (by decide)
  replace k136_ := qs_R_keep (j := 21) (n := 128) h422_ k136_ (by decide)
  replace k142_ := qs_R_keep (j := 21) (n := 128) h422_ k142_ (by decide)
  replace k148_ := qs_R_keep (j := 21) (n := 128) h422_ k148_ (by decide)
  replace k153_ := qs_R_keep (j := 21) (n := 128) h422_ k153_ (by decide)
  replace k159_ := qs_R_keep (j := 21) (n := 128) h422_ k159_ (by decide)
  replace k165_ := qs_R_keep (j := 21) (n := 128) h422_ k165_ (by decide)
  replace k170_ := qs_R_keep (j := 21) (n := 128) h422_ k170_ (by decide)
  replace k176_ := qs_R_keep (j := 21) (n := 128) h422_ k176_ (by decide)
  replace k182_ := qs_R_keep (j := 21) (n := 128) h422_ k182_ (by decide)
  replace k187_ := qs_R_keep (j := 21) (n := 128) h422_ k187_ (by decide)
  replace k193_ := qs_R_keep (j := 21) (n := 128) h422_ k193_ (by decide)
  replace k199_ := qs_R_keep (j := 21) (n := 128) h422_ k199_ (by decide)
  replace k204_ := qs_R_keep (j := 21) (n := 128) h422_ k204_ (by decide)
  replace k210_ := qs_R_keep (j := 21) (n := 128) h422_ k210_ (by decide)
  replace k216_ := qs_R_keep (j := 21) (n := 128) h422_ k216_ (by decide)
  replace k221_ := qs_R_keep (j := 21) (n := 128) h422_ k221_ (by decide)
  replace k227_ := qs_R_keep (j := 21) (n := 128) h422_ k227_ (by decide)
  replace k233_ := qs_R_keep (j := 21) (n := 128) h422_ k233_ (by decide)
  replace k238_ := qs_R_keep (j := 21) (n := 128) h422_ k238_ (by decide)
  replace k244_ := qs_R_keep (j := 21) (n := 128) h422_ k244_ (by decide)
  replace k250_ := qs_R_keep (j := 21) (n := 128) h422_ k250_ (by decide)
  replace k255_ := qs_R_keep (j := 21) (n := 128) h422_ k255_ (by decide)
  replace k261_ := qs_R_keep (j := 21) (n := 128) h422_ k261_ (by decide)
  replace k267_ := qs_R_keep (j := 21) (n := 128) h422_ k267_ (by decide)
  replace k272_ := qs_R_keep (j := 21) (n := 128) h422_ k272_ (by decide)
  replace k278_ := qs_R_keep (j := 21) (n := 128) h422_ k278_ (by decide)
  replace k284_ := qs_R_keep (j := 21) (n := 128) h422_ k284_ (by decide)
  replace k289_ := qs_R_keep (j := 21) (n := 128) h422_ k289_ (by decide)
  replace k295_ := qs_R_keep (j := 21) (n := 128) h422_ k295_ (by decide)
  replace k301_ := qs_R_keep (j := 21) (n := 128) h422_ k301_ (by decide)
  replace k306_ := qs_R_keep (j := 21) (n := 128) h422_ k306_ (by decide)
  replace k312_ := qs_R_keep (j := 21) (n := 128) h422_ k312_ (by decide)
  replace k318_ := qs_R_keep (j := 21) (n := 128) h422_ k318_ (by decide)
  replace k323_ := qs_R_keep (j := 21) (n := 128) h422_ k323_ (by decide)
  replace k329_ := qs_R_keep (j := 21) (n := 128) h422_ k329_ (by decide)
  replace k335_ := qs_R_keep (j := 21) (n := 128) h422_ k335_ (by decide)
  replace k340_ := qs_R_keep (j := 21) (n := 128) h422_ k340_ (by decide)
  replace k346_ := qs_R_keep (j := 21) (n := 128) h422_ k346_ (by decide)
  replace k352_ := qs_R_keep (j := 21) (n := 128) h422_ k352_ (by decide)
  replace k357_ := qs_R_keep (j := 21) (n := 128) h422_ k357_ (by decide)
  replace k363_ := qs_R_keep (j := 21) (n := 128) h422_ k363_ (by decide)
  replace k369_ := qs_R_keep (j := 21) (n := 128) h422_ k369_ (by decide)
  replace k374_ := qs_R_keep (j := 21) (n := 128) h422_ k374_ (by decide)
  replace k380_ := qs_R_keep (j := 21) (n := 128) h422_ k380_ (by decide)
  replace k386_ := qs_R_keep (j := 21) (n := 128) h422_ k386_ (by decide)
  replace k391_ := qs_R_keep (j := 21) (n := 128) h422_ k391_ (by decide)
  replace k397_ := qs_R_keep (j := 21) (n := 128) h422_ k397_ (by decide)
  replace k403_ := qs_R_keep (j := 21) (n := 128) h422_ k403_ (by decide)
  replace k408_ := qs_R_keep (j := 21) (n := 128) h422_ k408_ (by decide)
  replace k414_ := qs_R_keep (j := 21) (n := 128) h422_ k414_ (by decide)
  replace k420_ := qs_R_keep (j := 21) (n := 128) h422_ k420_ (by decide)
  have k425_ : q_K (qs_R (qs_P (qs_R S415_ 22 128 b416_) 2496 a0 (some b416_)) 21 128 b421_) b421_ = 21 := qs_R_Ks
  obtain ⟨S426_, gS426_⟩ : ∃ z : q_S, z = (qs_R (qs_P (qs_R S415_ 22 128 b416_) 2496 a0 (some b416_)) 21 128 b421_) := ⟨_, rfl⟩
  replace Y : q_Y D cy lo s S426_ H locs := by rw [gS426_]; exact Y
  replace h := h S426_ gS426_
  replace k5_ : q_K S426_ b1_ = 20 := by rw [gS426_]; exact k5_
  replace k6_ : q_K S426_ a0 = 13 := by rw [gS426_]; exact k6_
  replace k11_ : q_K S426_ b7_ = 20 := by rw [gS426_]; exact k11_
  replace k17_ : q_K S426_ b13_ = 20 := by rw [gS426_]; exact k17_
  replace k23_ : q_K S426_ b19_ = 21 := by rw [gS426_]; exact k23_
  replace k29_ : q_K S426_ b25_ = 21 := by rw [gS426_]; exact k29_
  replace k34_ : q_K S426_ b30_ = 21 := by rw [gS426_]; exact k34_
  replace k40_ : q_K S426_ b36_ = 21 := by rw [gS426_]; exact k40_
  replace k46_ : q_K S426_ b42_ = 21 := by rw [gS426_]; exact k46_
  replace k51_ : q_K S426_ b47_ = 21 := by rw [gS426_]; exact k51_
  replace k57_ : q_K S426_ b53_ = 21 := by rw [gS426_]; exact k57_
  replace k63_ : q_K S426_ b59_ = 21 := by rw [gS426_]; exact k63_
  replace k68_ : q_K S426_ b64_ = 21 := by rw [gS426_]; exact k68_
  replace k74_ : q_K S426_ b70_ = 21 := by rw [gS426_]; exact k74_
  replace k80_ : q_K S426_ b76_ = 21 := by rw [gS426_]; exact k80_
  replace k85_ : q_K S426_ b81_ = 21 := by rw [gS426_]; exact k85_
  replace k91_ : q_K S426_ b87_ = 21 := by rw [gS426_]; exact k91_
  replace k97_ : q_K S426_ b93_ = 21 := by rw [gS426_]; exact k97_
  replace k102_ : q_K S426_ b98_ = 21 := by rw [gS426_]; exact k102_
  replace k108_ : q_K S426_ b104_ = 21 := by rw [gS426_]; exact k108_
  replace k114_ : q_K S426_ b110_ = 21 := by rw [gS426_]; exact k114_
  replace k119_ : q_K S426_ b115_ = 21 := by rw [gS426_]; exact k119_
  replace k125_ : q_K S426_ b121_ = 22 := by rw [gS426_]; exact k125_
  replace k131_ : q_K S426_ b127_ = 21 := by rw [gS426_]; exact k131_
  replace k136_ : q_K S426_ b132_ = 21 := by rw [gS426_]; exact k136_
  replace k142_ : q_K S426_ b138_ = 21 := by rw [gS426_]; exact k142_
  replace k148_ : q_K S426_ b144_ = 22 := by rw [gS426_]; exact k148_
  replace k153_ : q_K S426_ b149_ = 21 := by rw [gS426_]; exact k153_
  replace k159_ : q_K S426_ b155_ = 22 := by rw [gS426_]; exact k159_
  replace k165_ : q_K S426_ b161_ = 22 := by rw [gS426_]; exact k165_
  replace k170_ : q_K S426_ b166_ = 22 := by rw [gS426_]; exact k170_
  replace k176_ : q_K S426_ b172_ = 21 := by rw [gS426_]; exact k176_
  replace k182_ : q_K S426_ b178_ = 22 := by rw [gS426_]; exact k182_
  replace k187_ : q_K S426_ b183_ = 21 := by rw [gS426_]; exact k187_
  replace k193_ : q_K S426_ b189_ = 22 := by rw [gS426_]; exact k193_
  replace k199_ : q_K S426_ b195_ = 21 := by rw [gS426_]; exact k199_
  replace k204_ : q_K S426_ b200_ = 22 := by rw [gS426_]; exact k204_
  replace k210_ : q_K S426_ b206_ = 21 := by rw [gS426_]; exact k210_
  replace k216_ : q_K S426_ b212_ = 21 := by rw [gS426_]; exact k216_
  replace k221_ : q_K S426_ b217_ = 21 := by rw [gS426_]; exact k221_
  replace k227_ : q_K S426_ b223_ = 21 := by rw [gS426_]; exact k227_
  replace k233_ : q_K S426_ b229_ = 21 := by rw [gS426_]; exact k233_
  replace k238_ : q_K S426_ b234_ = 21 := by rw [gS426_]; exact k238_
  replace k244_ : q_K S426_ b240_ = 20 := by rw [gS426_]; exact k244_
  replace k250_ : q_K S426_ b246_ = 20 := by rw [gS426_]; exact k250_
  replace k255_ : q_K S426_ b251_ = 21 := by rw [gS426_]; exact k255_
  replace k261_ : q_K S426_ b257_ = 21 := by rw [gS426_]; exact k261_
  replace k267_ : q_K S426_ b263_ = 21 := by rw [gS426_]; exact k267_
  replace k272_ : q_K S426_ b268_ = 22 := by rw [gS426_]; exact k272_
  replace k278_ : q_K S426_ b274_ = 21 := by rw [gS426_]; exact k278_
  replace k284_ : q_K S426_ b280_ = 21 := by rw [gS426_]; exact k284_
  replace k289_ : q_K S426_ b285_ = 21 := by rw [gS426_]; exact k289_
  replace k295_ : q_K S426_ b291_ = 21 := by rw [gS426_]; exact k295_
  replace k301_ : q_K S426_ b297_ = 22 := by rw [gS426_]; exact k301_
  replace k306_ : q_K S426_ b302_ = 21 := by rw [gS426_]; exact k306_
  replace k312_ : q_K S426_ b308_ = 21 := by rw [gS426_]; exact k312_
  replace k318_ : q_K S426_ b314_ = 21 := by rw [gS426_]; exact k318_
  replace k323_ : q_K S426_ b319_ = 21 := by rw [gS426_]; exact k323_
  replace k329_ : q_K S426_ b325_ = 21 := by rw [gS426_]; exact k329_
  replace k335_ : q_K S426_ b331_ = 21 := by rw [gS426_]; exact k335_
  replace k340_ : q_K S426_ b336_ = 21 := by rw [gS426_]; exact k340_
  replace k346_ : q_K S426_ b342_ = 21 := by rw [gS426_]; exact k346_
  replace k352_ : q_K S426_ b348_ = 21 := by rw [gS426_]; exact k352_
  replace k357_ : q_K S426_ b353_ = 21 := by rw [gS426_]; exact k357_
  replace k363_ : q_K S426_ b359_ = 21 := by rw [gS426_]; exact k363_
  replace k369_ : q_K S426_ b365_ = 21 := by rw [gS426_]; exact k369_
  replace k374_ : q_K S426_ b370_ = 21 := by rw [gS426_]; exact k374_
  replace k380_ : q_K S426_ b376_ = 21 := by rw [gS426_]; exact k380_
  replace k386_ : q_K S426_ b382_ = 21 := by rw [gS426_]; exact k386_
  replace k391_ : q_K S426_ b387_ = 21 := by rw [gS426_]; exact k391_
  replace k397_ : q_K S426_ b393_ = 21 := by rw [gS426_]; exact k397_
  replace k403_ : q_K S426_ b399_ = 22 := by rw [gS426_]; exact k403_
  replace k408_ : q_K S426_ b404_ = 21 := by rw [gS426_]; exact k408_
  replace k414_ : q_K S426_ b410_ = 21 := by rw [gS426_]; exact k414_
  replace k420_ : q_K S426_ b416_ = 22 := by rw [gS426_]; exact k420_
  replace k425_ : q_K S426_ b421_ = 21 := by rw [gS426_]; exact k425_
  refine q_putP X Y (some b421_) rfl kX12 97 rfl fl_X12_239 k6_ _ rfl (Or.inr ⟨_, rfl⟩) (Or.inr ⟨rfl, hnm, rfl⟩) dX12_init_648 (fun H locs Y => ?_)
  refine lv_aload_n hx hb dX12_init_651 rfl (lv_at hl 0 rfl) ?_
  refine lv_bipush (v := 24) hx hb dX12_init_652 (by decide) ?_
  obtain ⟨w430_, h⟩ := h
  refine q_newa X Y (k := 22) (t := 2) (n := 24) (ty := .boolean) rfl (by decide) rfl (fun _ _ => rfl) (by first | exact rfl | decide | simp [defaultValue]) ar_boolean (by decide) (by decide) (by decide) w430_ dX12_init_654 (fun b427_ H h428_ h429_ Y => ?_)
  replace h := h b427_ h428_
  replace hu := w430_
  replace k5_ := qs_R_keep (j := 22) (n := 24) h428_ k5_ (by decide)
  replace k6_ := qs_R_keep (j := 22) (n := 24) h428_ k6_ (by decide)
  replace k11_ := qs_R_keep (j := 22) (n := 24) h428_ k11_ (by decide)
  replace k17_ := qs_R_keep (j := 22) (n := 24) h428_ k17_ (by decide)
  replace k23_ := qs_R_keep (j := 22) (n := 24) h428_ k23_ (by decide)
  replace k29_ := qs_R_keep (j := 22) (n := 24) h428_ k29_ (by decide)
  replace k34_ := qs_R_keep (j := 22) (n := 24) h428_ k34_ (by decide)
  replace k40_ := qs_R_keep (j := 22) (n := 24) h428_ k40_ (by decide)
  replace k46_ := qs_R_keep (j := 22) (n := 24) h428_ k46_ (by decide)
  replace k51_ := qs_R_keep (j := 22) (n := 24) h428_ k51_ (by decide)
  replace k57_ := qs_R_keep (j := 22) (n := 24) h428_ k57_ (by decide)
  replace k63_ := qs_R_keep (j := 22) (n := 24) h428_ k63_ (by decide)
  replace k68_ := qs_R_keep (j := 22) (n := 24) h428_ k68_ (by decide)
  replace k74_ := qs_R_keep (j := 22) (n := 24) h428_ k74_ (by decide)
  replace k80_ := qs_R_keep (j := 22) (n := 24) h428_ k80_ (by decide)
  replace k85_ := qs_R_keep (j := 22) (n := 24) h428_ k85_ (by decide)
  replace k91_ := qs_R_keep (j := 22) (n := 24) h428_ k91_ (by decide)
  replace k97_ := qs_R_keep (j := 22) (n := 24) h428_ k97_ (by decide)
  replace k102_ := qs_R_keep (j := 22) (n := 24) h428_ k102_ (by decide)
  replace k108_ := qs_R_keep (j := 22) (n := 24) h428_ k108_ (by decide)
  replace k114_ := qs_R_keep (j := 22) (n := 24) h428_ k114_ (by decide)
  replace k119_ := qs_R_keep (j := 22) (n := 24) h428_ k119_ (by decide)
  replace k125_ := qs_R_keep (j := 22) (n := 24) h428_ k125_ (by decide)
  replace k131_ := qs_R_keep (j := 22) (n := 24) h428_ k131_ (by decide)
  replace k136_ := qs_R_keep (j := 22) (n := 24) h428_ k136_ (by decide)
  replace k142_ := qs_R_keep (j := 22) (n := 24) h428_ k142_ (by decide)
  replace k148_ := qs_R_keep (j := 22) (n := 24) h428_ k148_ (by decide)
  replace k153_ := qs_R_keep (j := 22) (n := 24) h428_ k153_ (by decide)
  replace k159_ := qs_R_keep (j := 22) (n := 24) h428_ k159_ (by decide)
  replace k165_ := qs_R_keep (j := 22) (n := 24) h428_ k165_ (by decide)
  replace k170_ := qs_R_keep (j := 22) (n := 24) h428_ k170_ (by decide)
  replace k176_ := qs_R_keep (j := 22) (n := 24) h428_ k176_ (by decide)
  replace k182_ := qs_R_keep (j := 22) (n := 24) h428_ k182_ (by decide)
  replace k187_ := qs_R_keep (j := 22) (n := 24) h428_ k187_ (by decide)
  replace k193_ := qs_R_keep (j := 22) (n := 24) h428_ k193_ (by decide)
  replace k199_ := qs_R_keep (j := 22) (n := 24) h428_ k199_ (by decide)
  replace k204_ := qs_R_keep (j := 22) (n := 24) h428_ k204_ (by decide)
  replace k210_ := qs_R_keep (j := 22) (n := 24) h428_ k210_ (by decide)
  replace k216_ := qs_R_keep (j := 22) (n := 24) h428_ k216_ (by decide)
  replace k221_ := qs_R_keep (j := 22) (n := 24) h428_ k221_ (by decide)
  replace k227_ := qs_R_keep (j := 22) (n := 24) h428_ k227_ (by decide)
  replace k233_ := qs_R_keep (j := 22) (n := 24) h428_ k233_ (by decide)
  replace k238_ := qs_R_keep (j := 22) (n := 24) h428_ k238_ (by decide)
  replace k244_ := qs_R_keep (j := 22) (n := 24) h428_ k244_ (by decide)
  replace k250_ := qs_R_keep (j := 22) (n := 24) h428_ k250_ (by decide)
  replace k255_ := qs_R_keep (j := 22) (n := 24) h428_ k255_ (by decide)
  replace k261_ := qs_R_keep (j := 22) (n := 24) h428_ k261_ (by decide)
  replace k267_ := qs_R_keep (j := 22) (n := 24) h428_ k267_ (by decide)
  replace k272_ := qs_R_keep (j := 22) (n := 24) h428_ k272_ (by decide)
  replace k278_ := qs_R_keep (j := 22) (n := 24) h428_ k278_ (by decide)
  replace k284_ := qs_R_keep (j := 22) (n := 24) h428_ k284_ (by decide)
  replace k289_ := qs_R_keep (j := 22) (n := 24) h428_ k289_ (by decide)
  replace k295_ := qs_R_keep (j := 22) (n := 24) h428_ k295_ (by decide)
  replace k301_ := qs_R_keep (j := 22) (n := 24) h428_ k301_ (by decide)
  replace k306_ := qs_R_keep (j := 22) (n := 24) h428_ k306_ (by decide)
  replace k312_ := qs_R_keep (j := 22) (n := 24) h428_ k312_ (by decide)
  replace k318_ := qs_R_keep (j := 22) (n := 24) h428_ k318_ (by decide)
  replace k323_ := qs_R_keep (j := 22) (n := 24) h428_ k323_ (by decide)
  replace k329_ := qs_R_keep (j := 22) (n := 24) h428_ k329_ (by decide)
  replace k335_ := qs_R_keep (j := 22) (n := 24) h428_ k335_ (by decide)
  replace k340_ := qs_R_keep (j := 22) (n := 24) h428_ k340_ (by decide)
  replace k346_ := qs_R_keep (j := 22) (n := 24) h428_ k346_ (by decide)
  replace k352_ := qs_R_keep (j := 22) (n := 24) h428_ k352_ (by decide)
  replace k357_ := qs_R_keep (j := 22) (n := 24) h428_ k357_ (by decide)
  replace k363_ := qs_R_keep (j := 22) (n := 24) h428_ k363_ (by decide)
  replace k369_ := qs_R_keep (j := 22) (n := 24) h428_ k369_ (by decide)
  replace k374_ := qs_R_keep (j := 22) (n := 24) h428_ k374_ (by decide)
  replace k380_ := qs_R_keep (j := 22) (n := 24) h428_ k380_ (by decide)
  replace k386_ := qs_R_keep (j := 22) (n := 24) h428_ k386_ (by decide)
  replace k391_ := qs_R_keep (j := 22) (n := 24) h428_ k391_ (by decide)
  replace k397_ := qs_R_keep (j := 22) (n := 24) h428_ k397_ (by decide)
  replace k403_ := qs_R_keep (j := 22) (n := 24) h428_ k403_ (by decide)
  replace k408_ := qs_R_keep (j := 22) (n := 24) h428_ k408_ (by decide)
  replace k414_ := qs_R_keep (j := 22) (n := 24) h428_ k414_ (by decide)
  replace k420_ := qs_R_keep (j := 22) (n := 24) h428_ k420_ (by decide)
  replace k425_ := qs_R_keep (j := 22) (n := 24) h428_ k425_ (by decide)
  have k431_ : q_K (qs_R (qs_P S426_ 2497 a0 (some b421_)) 22 24 b427_) b427_ = 22 := qs_R_Ks
  refine q_putP X Y (some b427_) rfl kX12 98 rfl fl_X12_242 k6_ _ rfl (Or.inr ⟨_, rfl⟩) (Or.inr ⟨rfl, hnm, rfl⟩) dX12_init_656 (fun H locs Y => ?_)
  obtain ⟨S432_, gS432_⟩ : ∃ z : q_S, z = (qs_P (qs_R (qs_P S426_ 2497 a0 (some b421_)) 22 24 b427_) 2498 a0 (some b427_)) := ⟨_, rfl⟩
  replace Y : q_Y D cy lo s S432_ H locs := by rw [gS432_]; exact Y
  replace h := h S432_ gS432_
  replace k5_ : q_K S432_ b1_ = 20 := by rw [gS432_]; exact k5_
  replace k6_ : q_K S432_ a0 = 13 := by rw [gS432_]; exact k6_
  replace k11_ : q_K S432_ b7_ = 20 := by rw [gS432_]; exact k11_
  replace k17_ : q_K S432_ b13_ = 20 := by rw [gS432_]; exact k17_
  replace k23_ : q_K S432_ b19_ = 21 := by rw [gS432_]; exact k23_
  replace k29_ : q_K S432_ b25_ = 21 := by rw [gS432_]; exact k29_
  replace k34_ : q_K S432_ b30_ = 21 := by rw [gS432_]; exact k34_
  replace k40_ : q_K S432_ b36_ = 21 := by rw [gS432_]; exact k40_
  replace k46_ : q_K S432_ b42_ = 21 := by rw [gS432_]; exact k46_
  replace k51_ : q_K S432_ b47_ = 21 := by rw [gS432_]; exact k51_
  replace k57_ : q_K S432_ b53_ = 21 := by rw [gS432_]; exact k57_
  replace k63_ : q_K S432_ b59_ = 21 := by rw [gS432_]; exact k63_
  replace k68_ : q_K S432_ b64_ = 21 := by rw [gS432_]; exact k68_
  replace k74_ : q_K S432_ b70_ = 21 := by rw [gS432_]; exact k74_
  replace k80_ : q_K S432_ b76_ = 21 := by rw [gS432_]; exact k80_
  replace k85_ : q_K S432_ b81_ = 21 := by rw [gS432_]; exact k85_
  replace k91_ : q_K S432_ b87_ = 21 := by rw [gS432_]; exact k91_
  replace k97_ : q_K S432_ b93_ = 21 := by rw [gS432_]; exact k97_
  replace k102_ : q_K S432_ b98_ = 21 := by rw [gS432_]; exact k102_
  replace k108_ : q_K S432_ b104_ = 21 := by rw [gS432_]; exact k108_
  replace k114_ : q_K S432_ b110_ = 21 := by rw [gS432_]; exact k114_
  replace k119_ : q_K S432_ b115_ = 21 := by rw [gS432_]; exact k119_
  replace k125_ : q_K S432_ b121_ = 22 := by rw [gS432_]; exact k125_
  replace k131_ : q_K S432_ b127_ = 21 := by rw [gS432_]; exact k131_
  replace k136_ : q_K S432_ b132_ = 21 := by rw [gS432_]; exact k136_
  replace k142_ : q_K S432_ b138_ = 21 := by rw [gS432_]; exact k142_
  replace k148_ : q_K S432_ b144_ = 22 := by rw [gS432_]; exact k148_
  replace k153_ : q_K S432_ b149_ = 21 := by rw [gS432_]; exact k153_
  replace k159_ : q_K S432_ b155_ = 22 := by rw [gS432_]; exact k159_
  replace k165_ : q_K S432_ b161_ = 22 := by rw [gS432_]; exact k165_
  replace k170_ : q_K S432_ b166_ = 22 := by rw [gS432_]; exact k170_
  replace k176_ : q_K S432_ b172_ = 21 := by rw [gS432_]; exact k176_
  replace k182_ : q_K S432_ b178_ = 22 := by rw [gS432_]; exact k182_
  replace k187_ : q_K S432_ b183_ = 21 := by rw [gS432_]; exact k187_
  replace k193_ : q_K S432_ b189_ = 22 := by rw [gS432_]; exact k193_
  replace k199_ : q_K S432_ b195_ = 21 := by rw [gS432_]; exact k199_
  replace k204_ : q_K S432_ b200_ = 22 := by rw [gS432_]; exact k204_
  replace k210_ : q_K S432_ b206_ = 21 := by rw [gS432_]; exact k210_
  replace k216_ : q_K S432_ b212_ = 21 := by rw [gS432_]; exact k216_
  replace k221_ : q_K S432_ b217_ = 21 := by rw [gS432_]; exact k221_
  replace k227_ : q_K S432_ b223_ = 21 := by rw [gS432_]; exact k227_
  replace k233_ : q_K S432_ b229_ = 21 := by rw [gS432_]; exact k233_
  replace k238_ : q_K S432_ b234_ = 21 := by rw [gS432_]; exact k238_
  replace k244_ : q_K S432_ b240_ = 20 := by rw [gS432_]; exact k244_
  replace k250_ : q_K S432_ b246_ = 20 := by rw [gS432_]; exact k250_
  replace k255_ : q_K S432_ b251_ = 21 := by rw [gS432_]; exact k255_
  replace k261_ : q_K S432_ b257_ = 21 := by rw [gS432_]; exact k261_
  replace k267_ : q_K S432_ b263_ = 21 := by rw [gS432_]; exact k267_
  replace k272_ : q_K S432_ b268_ = 22 := by rw [gS432_]; exact k272_
  replace k278_ : q_K S432_ b274_ = 21 := by rw [gS432_]; exact k278_
  replace k284_ : q_K S432_ b280_ = 21 := by rw [gS432_]; exact k284_
  replace k289_ : q_K S432_ b285_ = 21 := by rw [gS432_]; exact k289_
  replace k295_ : q_K S432_ b291_ = 21 := by rw [gS432_]; exact k295_
  replace k301_ : q_K S432_ b297_ = 22 := by rw [gS432_]; exact k301_
  replace k306_ : q_K S432_ b302_ = 21 := by rw [gS432_]; exact k306_
  replace k312_ : q_K S432_ b308_ = 21 := by rw [gS432_]; exact k312_
  replace k318_ : q_K S432_ b314_ = 21 := by rw [gS432_]; exact k318_
  replace k323_ : q_K S432_ b319_ = 21 := by rw [gS432_]; exact k323_
  replace k329_ : q_K S432_ b325_ = 21 := by rw [gS432_]; exact k329_
  replace k335_ : q_K S432_ b331_ = 21 := by rw [gS432_]; exact k335_
  replace k340_ : q_K S432_ b336_ = 21 := by rw [gS432_]; exact k340_
  replace k346_ : q_K S432_ b342_ = 21 := by rw [gS432_]; exact k346_
  replace k352_ : q_K S432_ b348_ = 21 := by rw [gS432_]; exact k352_
  replace k357_ : q_K S432_ b353_ = 21 := by rw [gS432_]; exact k357_
  replace k363_ : q_K S432_ b359_ = 21 := by rw [gS432_]; exact k363_
  replace k369_ : q_K S432_ b365_ = 21 := by rw [gS432_]; exact k369_
  replace k374_ : q_K S432_ b370_ = 21 := by rw [gS432_]; exact k374_
  replace k380_ : q_K S432_ b376_ = 21 := by rw [gS432_]; exact k380_
  replace k386_ : q_K S432_ b382_ = 21 := by rw [gS432_]; exact k386_
  replace k391_ : q_K S432_ b387_ = 21 := by rw [gS432_]; exact k391_
  replace k397_ : q_K S432_ b393_ = 21 := by rw [gS432_]; exact k397_
  replace k403_ : q_K S432_ b399_ = 22 := by rw [gS432_]; exact k403_
  replace k408_ : q_K S432_ b404_ = 21 := by rw [gS432_]; exact k408_
  replace k414_ : q_K S432_ b410_ = 21 := by rw [gS432_]; exact k414_
  replace k420_ : q_K S432_ b416_ = 22 := by rw [gS432_]; exact k420_
  replace k425_ : q_K S432_ b421_ = 21 := by rw [gS432_]; exact k425_
  replace k431_ : q_K S432_ b427_ = 22 := by rw [gS432_]; exact k431_
  refine lv_aload_n hx hb dX12_init_659 rfl (lv_at hl 0 rfl) ?_
  refine lv_bipush (v := 24) hx hb dX12_init_660 (by decide) ?_
  obtain ⟨w436_, h⟩ := h
  refine q_newa X Y (k := 21) (t := 1) (n := 24) (ty := .int) rfl (by decide) rfl (fun _ _ => rfl) (by first | exact rfl | decide | simp [defaultValue]) ar_int (by decide) (by decide) (by decide) w436_ dX12_init_662 (fun b433_ H h434_ h435_ Y => ?_)
  replace h := h b433_ h434_
  replace hu := w436_
  replace k5_ := qs_R_keep (j := 21) (n := 24) h434_ k5_ (by decide)
  replace k6_ := qs_R_keep (j := 21) (n := 24) h434_ k6_ (by decide)
  replace k11_ := qs_R_keep (j := 21) (n := 24) h434_ k11_ (by decide)
  replace k17_ := qs_R_keep (j := 21) (n := 24) h434_ k17_ (by decide)
  replace k23_ := qs_R_keep (j := 21) (n := 24) h434_ k23_ (by decide)
  replace k29_ := qs_R_keep (j := 21) (n := 24) h434_ k29_ (by decide)
  replace k34_ := qs_R_keep (j := 21) (n := 24) h434_ k34_ (by decide)
  replace k40_ := qs_R_keep (j := 21) (n := 24) h434_ k40_ (by decide)
  replace k46_ := qs_R_keep (j := 21) (n := 24) h434_ k46_ (by decide)
  replace k51_ := qs_R_keep (j := 21) (n := 24) h434_ k51_ (by decide)
  replace k57_ := qs_R_keep (j := 21) (n := 24) h434_ k57_ (by decide)
  replace k63_ := qs_R_keep (j := 21) (n := 24) h434_ k63_ (by decide)
  replace k68_ := qs_R_keep (j := 21) (n := 24) h434_ k68_ (by decide)
  replace k74_ := qs_R_keep (j := 21) (n := 24) h434_ k74_ (by decide)
  replace k80_ := qs_R_keep (j := 21) (n := 24) h434_ k80_ (by decide)
  replace k85_ := qs_R_keep (j := 21) (n := 24) h434_ k85_ (by decide)
  replace k91_ := qs_R_keep (j := 21) (n := 24) h434_ k91_ (by decide)
  replace k97_ := qs_R_keep (j := 21) (n := 24) h434_ k97_ (by decide)
  replace k102_ := qs_R_keep (j := 21) (n := 24) h434_ k102_ (by decide)
  replace k108_ := qs_R_keep (j := 21) (n := 24) h434_ k108_ (by decide)
  replace k114_ := qs_R_keep (j := 21) (n := 24) h434_ k114_ (by decide)
  replace k119_ := qs_R_keep (j := 21) (n := 24) h434_ k119_ (by decide)
  replace k125_ := qs_R_keep (j := 21) (n := 24) h434_ k125_ (by decide)
  replace k131_ := qs_R_keep (j := 21) (n := 24) h434_ k131_ (by decide)
  replace k136_ := qs_R_keep (j := 21) (n := 24) h434_ k136_ (by decide)
  replace k142_ := qs_R_keep (j := 21) (n := 24) h434_ k142_ (by decide)
  replace k148_ := qs_R_keep (j := 21) (n := 24) h434_ k148_ (by decide)
  replace k153_ := qs_R_keep (j := 21) (n := 24) h434_ k153_ (by decide)
  replace k159_ := qs_R_keep (j := 21) (n := 24) h434_ k159_ (by decide)
  replace k165_ := qs_R_keep (j := 21) (n := 24) h434_ k165_ (by decide)
  replace k170_ := qs_R_keep (j := 21) (n := 24) h434_ k170_ (by decide)
  replace k176_ := qs_R_keep (j := 21) (n := 24) h434_ k176_ (by decide)
  replace k182_ := qs_R_keep (j := 21) (n := 24) h434_ k182_ (by decide)
  replace k187_ := qs_R_keep (j := 21) (n := 24) h434_ k187_ (by decide)
  replace k193_ := qs_R_keep (j := 21) (n := 24) h434_ k193_ (by decide)
  replace k199_ := qs_R_keep (j := 21) (n := 24) h434_ k199_ (by decide)
  replace k204_ := qs_R_keep (j := 21) (n := 24) h434_ k204_ (by decide)
  replace k210_ := qs_R_keep (j := 21) (n := 24) h434_ k210_ (by decide)
  replace k216_ := qs_R_keep (j := 21) (n := 24) h434_ k216_ (by decide)
  replace k221_ := qs_R_keep (j := 21) (n := 24) h434_ k221_ (by decide)
  replace k227_ := qs_R_keep (j := 21) (n := 24) h434_ k227_ (by decide)
  replace k233_ := qs_R_keep (j := 21) (n := 24) h434_ k233_ (by decide)
  replace k238_ := qs_R_keep (j := 21) (n := 24) h434_ k238_ (by decide)
  replace k244_ := qs_R_keep (j := 21) (n := 24) h434_ k244_ (by decide)
  replace k250_ := qs_R_keep (j := 21) (n := 24) h434_ k250_ (by decide)
  replace k255_ := qs_R_keep (j := 21) (n := 24) h434_ k255_ (by decide)
  replace k261_ := qs_R_keep (j := 21) (n := 24) h434_ k261_ (by decide)
  replace k267_ := qs_R_keep (j := 21) (n := 24) h434_ k267_ (by decide)
  replace k272_ := qs_R_keep (j := 21) (n := 24) h434_ k272_ (by decide)
  replace k278_ := qs_R_keep (j := 21) (n := 24) h434_ k278_ (by decide)
  replace k284_ := qs_R_keep (j := 21) (n := 24) h434_ k284_ (by decide)
  replace k289_ := qs_R_keep (j := 21) (n := 24) h434_ k289_ (by decide)
  replace k295_ := qs_R_keep (j := 21) (n := 24) h434_ k295_ (by decide)
  replace k301_ := qs_R_keep (j := 21) (n := 24) h434_ k301_ (by decide)
  replace k306_ := qs_R_keep (j := 21) (n := 24) h434_ k306_ (by decide)
  replace k312_ := qs_R_keep (j := 21) (n := 24) h434_ k312_ (by decide)
  replace k318_ := qs_R_keep (j := 21) (n := 24) h434_ k318_ (by decide)
  replace k323_ := qs_R_keep (j := 21) (n := 24) h434_ k323_ (by decide)
  replace k329_ := qs_R_keep (j := 21) (n := 24) h434_ k329_ (by decide)
  replace k335_ := qs_R_keep (j := 21) (n := 24) h434_ k335_ (by decide)
  replace k340_ := qs_R_keep (j := 21) (n := 24) h434_ k340_ (by decide)
  replace k346_ := qs_R_keep (j := 21) (n := 24) h434_ k346_ (by decide)
  replace k352_ := qs_R_keep (j := 21) (n := 24) h434_ k352_ (by decide)
  replace k357_ := qs_R_keep (j := 21) (n := 24) h434_ k357_ (by decide)
  replace k363_ := qs_R_keep (j := 21) (n := 24) h434_ k363_ (by decide)
  replace k369_ := qs_R_keep (j := 21) (n := 24) h434_ k369_ (by decide)
  replace k374_ := qs_R_keep (j := 21) (n := 24) h434_ k374_ (by decide)
  replace k380_ := qs_R_keep (j := 21) (n := 24) h434_ k380_ (by decide)
  replace k386_ := qs_R_keep (j := 21) (n := 24) h434_ k386_ (by decide)
  replace k391_ := qs_R_keep (j := 21) (n := 24) h434_ k391_ (by decide)
  replace k397_ := qs_R_keep (j := 21) (n := 24) h434_ k397_ (by decide)
  replace k403_ := qs_R_keep (j := 21) (n := 24) h434_ k403_ (by decide)
  replace k408_ := qs_R_keep (j := 21) (n := 24) h434_ k408_ (by decide)
  replace k414_ := qs_R_keep (j := 21) (n := 24) h434_ k414_ (by decide)
  replace k420_ := qs_R_keep (j := 21) (n := 24) h434_ k420_ (by decide)
  replace k425_ := qs_R_keep (j := 21) (n := 24) h434_ k425_ (by decide)
  replace k431_ := qs_R_keep (j := 21) (n := 24) h434_ k431_ (by decide)
  have k437_ : q_K (qs_R S432_ 21 24 b433_) b433_ = 21 := qs_R_Ks
  refine q_putP X Y (some b433_) rfl kX12 99 rfl fl_X12_245 k6_ _ rfl (Or.inr ⟨_, rfl⟩) (Or.inr ⟨rfl, hnm, rfl⟩) dX12_init_664 (fun H locs Y => ?_)
  refine lv_aload_n hx hb dX12_init_667 rfl (lv_at hl 0 rfl) ?_
  refine lv_bipush (v := 24) hx hb dX12_init_668 (by decide) ?_
  obtain ⟨w441_, h⟩ := h
  refine q_newa X Y (k := 21) (t := 1) (n := 24) (ty := .int) rfl (by decide) rfl (fun _ _ => rfl) (by first | exact rfl | decide | simp [defaultValue]) ar_int (by decide) (by decide) (by decide) w441_ dX12_init_670 (fun b438_ H h439_ h440_ Y => ?_)
  replace h := h b438_ h439_
  replace hu := w441_
  replace k5_ := qs_R_keep (j := 21) (n := 24) h439_ k5_ (by decide)
  replace k6_ := qs_R_keep (j := 21) (n := 24) h439_ k6_ (by decide)
  replace k11_ := qs_R_keep (j := 21) (n := 24) h439_ k11_ (by decide)
  replace k17_ := qs_R_keep (j := 21) (n := 24) h439_ k17_ (by decide)
  replace k23_ := qs_R_keep (j := 21) (n := 24) h439_ k23_ (by decide)
  replace k29_ := qs_R_keep (j := 21) (n := 24) h439_ k29_ (by decide)
  replace k34_ := qs_R_keep (j := 21) (n := 24) h439_ k34_ (by decide)
  replace k40_ := qs_R_keep (j := 21) (n := 24) h439_ k40_ (by decide)
  replace k46_ := qs_R_keep (j := 21) (n := 24) h439_ k46_ (by decide)
  replace k51_ := qs_R_keep (j := 21) (n := 24) h439_ k51_ (by decide)
  replace k57_ := qs_R_keep (j := 21) (n := 24) h439_ k57_ (by decide)
  replace k63_ := qs_R_keep (j := 21) (n := 24) h439_ k63_ (by decide)
  replace k68_ := qs_R_keep (j := 21) (n := 24) h439_ k68_ (by decide)
  replace k74_ := qs_R_keep (j := 21) (n := 24) h439_ k74_ (by decide)
  replace k80_ := qs_R_keep (j := 21) (n := 24) h439_ k80_ (by decide)
  replace k85_ := qs_R_keep (j := 21) (n := 24) h439_ k85_ (by decide)
  replace k91_ := qs_R_keep (j := 21) (n := 24) h439_ k91_ (by decide)
  replace k97_ := qs_R_keep (j := 21) (n := 24) h439_ k97_ (by decide)
  replace k102_ := qs_R_keep (j := 21) (n := 24) h439_ k102_ (by decide)
  replace k108_ := qs_R_keep (j := 21) (n := 24) h439_ k108_ (by decide)
  replace k114_ := qs_R_keep (j := 21) (n := 24) h439_ k114_ (by decide)
  replace k119_ := qs_R_keep (j := 21) (n := 24) h439_ k119_ (by decide)
  replace k125_ := qs_R_keep (j := 21) (n := 24) h439_ k125_ (by decide)
  replace k131_ := qs_R_keep (j := 21) (n := 24) h439_ k131_ (by decide)
  replace k136_ := qs_R_keep (j := 21) (n := 24) h439_ k136_ (by decide)
  replace k142_ := qs_R_keep (j := 21) (n := 24) h439_ k142_ (by decide)
  replace k148_ := qs_R_keep (j := 21) (n := 24) h439_ k148_ (by decide)
  replace k153_ := qs_R_keep (j := 21) (n := 24) h439_ k153_ (by decide)
  replace k159_ := qs_R_keep (j := 21) (n := 24) h439_ k159_ (by decide)
  replace k165_ := qs_R_keep (j := 21) (n := 24) h439_ k165_ (by decide)
  replace k170_ := qs_R_keep (j := 21) (n := 24) h439_ k170_ (by decide)
  replace k176_ := qs_R_keep (j := 21) (n := 24) h439_ k176_ (by decide)
  replace k182_ := qs_R_keep (j := 21) (n := 24) h439_ k182_ (by decide)
  replace k187_ := qs_R_keep (j := 21) (n := 24) h439_ k187_ (by decide)
  replace k193_ := qs_R_keep (j := 21) (n := 24) h439_ k193_ (by decide)
  replace k199_ := qs_R_keep (j := 21) (n := 24) h439_ k199_ (by decide)
  replace k204_ := qs_R_keep (j := 21) (n := 24) h439_ k204_ (by decide)
  replace k210_ := qs_R_keep (j := 21) (n := 24) h439_ k210_ (by decide)
  replace k216_ := qs_R_keep (j := 21) (n := 24) h439_ k216_ (by decide)
  replace k221_ := qs_R_keep (j := 21) (n := 24) h439_ k221_ (by decide)
  replace k227_ := qs_R_keep (j := 21) (n := 24) h439_ k227_ (by decide)
  replace k233_ := qs_R_keep (j := 21) (n := 24) h439_ k233_ (by decide)
  replace k238_ := qs_R_keep (j := 21) (n := 24) h439_ k238_ (by decide)
  replace k244_ := qs_R_keep (j := 21) (n := 24) h439_ k244_ (by decide)
  replace k250_ := qs_R_keep (j := 21) (n := 24) h439_ k250_ (by decide)
  replace k255_ := qs_R_keep (j := 21) (n := 24) h439_ k255_ (by decide)
  replace k261_ := qs_R_keep (j := 21) (n := 24) h439_ k261_ (by decide)
  replace k267_ := qs_R_keep (j := 21) (n := 24) h439_ k267_ (by decide)
  replace k272_ := qs_R_keep (j := 21) (n := 24) h439_ k272_ (by decide)
  replace k278_ := qs_R_keep (j := 21) (n := 24) h439_ k278_ (by decide)
  replace k284_ := qs_R_keep (j := 21) (n := 24) h439_ k284_ (by decide)
  replace k289_ := qs_R_keep (j := 21) (n := 24) h439_ k289_ (by decide)
  replace k295_ := qs_R_keep (j := 21) (n := 24) h439_ k295_ (by decide)
  replace k301_ := qs_R_keep (j := 21) (n := 24) h439_ k301_ (by decide)
  replace k306_ := qs_R_keep (j := 21) (n := 24) h439_ k306_ (by decide)
  replace k312_ := qs_R_keep (j := 21) (n := 24) h439_ k312_ (by decide)
  replace k318_ := qs_R_keep (j := 21) (n := 24) h439_ k318_ (by decide)
  replace k323_ := qs_R_keep (j := 21) (n := 24) h439_ k323_ (by decide)
  replace k329_ := qs_R_keep (j := 21) (n := 24) h439_ k329_ (by decide)
  replace k335_ := qs_R_keep (j := 21) (n := 24) h439_ k335_ (by decide)
  replace k340_ := qs_R_keep (j := 21) (n := 24) h439_ k340_ (by decide)
  replace k346_ := qs_R_keep (j := 21) (n := 24) h439_ k346_ (by decide)
  replace k352_ := qs_R_keep (j := 21) (n := 24) h439_ k352_ (by decide)
  replace k357_ := qs_R_keep (j := 21) (n := 24) h439_ k357_ (by decide)
  replace k363_ := qs_R_keep (j := 21) (n := 24) h439_ k363_ (by decide)
  replace k369_ := qs_R_keep (j := 21) (n := 24) h439_ k369_ (by decide)
  replace k374_ := qs_R_keep (j := 21) (n := 24) h439_ k374_ (by decide)
  replace k380_ := qs_R_keep (j := 21) (n := 24) h439_ k380_ (by decide)
  replace k386_ := qs_R_keep (j := 21) (n := 24) h439_ k386_ (by decide)
  replace k391_ := qs_R_keep (j := 21) (n := 24) h439_ k391_ (by decide)
  replace k397_ := qs_R_keep (j := 21) (n := 24) h439_ k397_ (by decide)
  replace k403_ := qs_R_keep (j := 21) (n := 24) h439_ k403_ (by decide)
  replace k408_ := qs_R_keep (j := 21) (n := 24) h439_ k408_ (by decide)
  replace k414_ := qs_R_keep (j := 21) (n := 24) h439_ k414_ (by decide)
  replace k420_ := qs_R_keep (j := 21) (n := 24) h439_ k420_ (by decide)
  replace k425_ := qs_R_keep (j := 21) (n := 24) h439_ k425_ (by decide)
  replace k431_ := qs_R_keep (j := 21) (n := 24) h439_ k431_ (by decide)
  replace k437_ := qs_R_keep (j := 21) (n := 24) h439_ k437_ (by decide)
  have k442_ : q_K (qs_R (qs_P (qs_R S432_ 21 24 b433_) 2499 a0 (some b433_)) 21 24 b438_) b438_ = 21 := qs_R_Ks
  obtain ⟨S443_, gS443_⟩ : ∃ z : q_S, z = (qs_R (qs_P (qs_R S432_ 21 24 b433_) 2499 a0 (some b433_)) 21 24 b438_) := ⟨_, rfl⟩
  replace Y : q_Y D cy lo s S443_ H locs := by rw [gS443_]; exact Y
  replace h := h S443_ gS443_
  replace k5_ : q_K S443_ b1_ = 20 := by rw [gS443_]; exact k5_
  replace k6_ : q_K S443_ a0 = 13 := by rw [gS443_]; exact k6_
  replace k11_ : q_K S443_ b7_ = 20 := by rw [gS443_]; exact k11_
  replace k17_ : q_K S443_ b13_ = 20 := by rw [gS443_]; exact k17_
  replace k23_ : q_K S443_ b19_ = 21 := by rw [gS443_]; exact k23_
  replace k29_ : q_K S443_ b25_ = 21 := by rw [gS443_]; exact k29_
  replace k34_ : q_K S443_ b30_ = 21 := by rw [gS443_]; exact k34_
  replace k40_ : q_K S443_ b36_ = 21 := by rw [gS443_]; exact k40_
  replace k46_ : q_K S443_ b42_ = 21 := by rw [gS443_]; exact k46_
  replace k51_ : q_K S443_ b47_ = 21 := by rw [gS443_]; exact k51_
  replace k57_ : q_K S443_ b53_ = 21 := by rw [gS443_]; exact k57_
  replace k63_ : q_K S443_ b59_ = 21 := by rw [gS443_]; exact k63_
  replace k68_ : q_K S443_ b64_ = 21 := by rw [gS443_]; exact k68_
  replace k74_ : q_K S443_ b70_ = 21 := by rw [gS443_]; exact k74_
  replace k80_ : q_K S443_ b76_ = 21 := by rw [gS443_]; exact k80_
  replace k85_ : q_K S443_ b81_ = 21 := by rw [gS443_]; exact k85_
  replace k91_ : q_K S443_ b87_ = 21 := by rw [gS443_]; exact k91_
  replace k97_ : q_K S443_ b93_ = 21 := by rw [gS443_]; exact k97_
  replace k102_ : q_K S443_ b98_ = 21 := by rw [gS443_]; exact k102_
  replace k108_ : q_K S443_ b104_ = 21 := by rw [gS443_]; exact k108_
  replace k114_ : q_K S443_ b110_ = 21 := by rw [gS443_]; exact k114_
  replace k119_ : q_K S443_ b115_ = 21 := by rw [gS443_]; exact k119_
  replace k125_ : q_K S443_ b121_ = 22 := by rw [gS443_]; exact k125_
  replace k131_ : q_K S443_ b127_ = 21 := by rw [gS443_]; exact k131_
  replace k136_ : q_K S443_ b132_ = 21 := by rw [gS443_]; exact k136_
  replace k142_ : q_K S443_ b138_ = 21 := by rw [gS443_]; exact k142_
  replace k148_ : q_K S443_ b144_ = 22 := by rw [gS443_]; exact k148_
  replace k153_ : q_K S443_ b149_ = 21 := by rw [gS443_]; exact k153_
  replace k159_ : q_K S443_ b155_ = 22 := by rw [gS443_]; exact k159_
  replace k165_ : q_K S443_ b161_ = 22 := by rw [gS443_]; exact k165_
  replace k170_ : q_K S443_ b166_ = 22 := by rw [gS443_]; exact k170_
  replace k176_ : q_K S443_ b172_ = 21 := by rw [gS443_]; exact k176_
  replace k182_ : q_K S443_ b178_ = 22 := by rw [gS443_]; exact k182_
  replace k187_ : q_K S443_ b183_ = 21 := by rw [gS443_]; exact k187_
  replace k193_ : q_K S443_ b189_ = 22 := by rw [gS443_]; exact k193_
  replace k199_ : q_K S443_ b195_ = 21 := by rw [gS443_]; exact k199_
  replace k204_ : q_K S443_ b200_ = 22 := by rw [gS443_]; exact k204_
  replace k210_ : q_K S443_ b206_ = 21 := by rw [gS443_]; exact k210_
  replace k216_ : q_K S443_ b212_ = 21 := by rw [gS443_]; exact k216_
  replace k221_ : q_K S443_ b217_ = 21 := by rw [gS443_]; exact k221_
  replace k227_ : q_K S443_ b223_ = 21 := by rw [gS443_]; exact k227_
  replace k233_ : q_K S443_ b229_ = 21 := by rw [gS443_]; exact k233_
  replace k238_ : q_K S443_ b234_ = 21 := by rw [gS443_]; exact k238_
  replace k244_ : q_K S443_ b240_ = 20 := by rw [gS443_]; exact k244_
  replace k250_ : q_K S443_ b246_ = 20 := by rw [gS443_]; exact k250_
  replace k255_ : q_K S443_ b251_ = 21 := by rw [gS443_]; exact k255_
  replace k261_ : q_K S443_ b257_ = 21 := by rw [gS443_]; exact k261_
  replace k267_ : q_K S443_ b263_ = 21 := by rw [gS443_]; exact k267_
  replace k272_ : q_K S443_ b268_ = 22 := by rw [gS443_]; exact k272_
  replace k278_ : q_K S443_ b274_ = 21 := by rw [gS443_]; exact k278_
  replace k284_ : q_K S443_ b280_ = 21 := by rw [gS443_]; exact k284_
  replace k289_ : q_K S443_ b285_ = 21 := by rw [gS443_]; exact k289_
  replace k295_ : q_K S443_ b291_ = 21 := by rw [gS443_]; exact k295_
  replace k301_ : q_K S443_ b297_ = 22 := by rw [gS443_]; exact k301_
  replace k306_ : q_K S443_ b302_ = 21 := by rw [gS443_]; exact k306_
  replace k312_ : q_K S443_ b308_ = 21 := by rw [gS443_]; exact k312_
  replace k318_ : q_K S443_ b314_ = 21 := by rw [gS443_]; exact k318_
  replace k323_ : q_K S443_ b319_ = 21 := by rw [gS443_]; exact k323_
  replace k329_ : q_K S443_ b325_ = 21 := by rw [gS443_]; exact k329_
  replace k335_ : q_K S443_ b331_ = 21 := by rw [gS443_]; exact k335_
  replace k340_ : q_K S443_ b336_ = 21 := by rw [gS443_]; exact k340_
  replace k346_ : q_K S443_ b342_ = 21 := by rw [gS443_]; exact k346_
  replace k352_ : q_K S443_ b348_ = 21 := by rw [gS443_]; exact k352_
  replace k357_ : q_K S443_ b353_ = 21 := by rw [gS443_]; exact k357_
  replace k363_ : q_K S443_ b359_ = 21 := by rw [gS443_]; exact k363_
  replace k369_ : q_K S443_ b365_ = 21 := by rw [gS443_]; exact k369_
  replace k374_ : q_K S443_ b370_ = 21 := by rw [gS443_]; exact k374_
  replace k380_ : q_K S443_ b376_ = 21 := by rw [gS443_]; exact k380_
  replace k386_ : q_K S443_ b382_ = 21 := by rw [gS443_]; exact k386_
  replace k391_ : q_K S443_ b387_ = 21 := by rw [gS443_]; exact k391_
  replace k397_ : q_K S443_ b393_ = 21 := by rw [gS443_]; exact k397_
  replace k403_ : q_K S443_ b399_ = 22 := by rw [gS443_]; exact k403_
  replace k408_ : q_K S443_ b404_ = 21 := by rw [gS443_]; exact k408_
  replace k414_ : q_K S443_ b410_ = 21 := by rw [gS443_]; exact k414_
  replace k420_ : q_K S443_ b416_ = 22 := by rw [gS443_]; exact k420_
  replace k425_ : q_K S443_ b421_ = 21 := by rw [gS443_]; exact k425_
  replace k431_ : q_K S443_ b427_ = 22 := by rw [gS443_]; exact k431_
  replace k437_ : q_K S443_ b433_ = 21 := by rw [gS443_]; exact k437_
  replace k442_ : q_K S443_ b438_ = 21 := by rw [gS443_]; exact k442_
  refine q_putP X Y (some b438_) rfl kX12 100 rfl fl_X12_248 k6_ _ rfl (Or.inr ⟨_, rfl⟩) (Or.inr ⟨rfl, hnm, rfl⟩) dX12_init_672 (fun H locs Y => ?_)
  refine lv_aload_n hx hb dX12_init_675 rfl (lv_at hl 0 rfl) ?_
  refine lv_bipush (v := 24) hx hb dX12_init_676 (by decide) ?_
  obtain ⟨w447_, h⟩ := h
  refine q_newa X Y (k := 21) (t := 1) (n := 24) (ty := .int) rfl (by decide) rfl (fun _ _ => rfl) (by first | exact rfl | decide | simp [defaultValue]) ar_int (by decide) (by decide) (by decide) w447_ dX12_init_678 (fun b444_ H h445_ h446_ Y => ?_)
  replace h := h b444_ h445_
  replace hu := w447_
  replace k5_ := qs_R_keep (j := 21) (n := 24) h445_ k5_ (by decide)
  replace k6_ := qs_R_keep (j := 21) (n := 24) h445_ k6_ (by decide)
  replace k11_ := qs_R_keep (j := 21) (n := 24) h445_ k11_ (by decide)
  replace k17_ := qs_R_keep (j := 21) (n := 24) h445_ k17_ (by decide)
  replace k23_ := qs_R_keep (j := 21) (n := 24) h445_ k23_ (by decide)
  replace k29_ := qs_R_keep (j := 21) (n := 24) h445_ k29_ (by decide)
  replace k34_ := qs_R_keep (j := 21) (n := 24) h445_ k34_ (by decide)
  replace k40_ := qs_R_keep (j := 21) (n := 24) h445_ k40_ (by decide)
  replace k46_ := qs_R_keep (j := 21) (n := 24) h445_ k46_ (by decide)
  replace k51_ := qs_R_keep (j := 21) (n := 24) h445_ k51_ (by decide)
  replace k57_ := qs_R_keep (j := 21) (n := 24) h445_ k57_ (by decide)
  replace k63_ := qs_R_keep (j := 21) (n := 24) h445_ k63_ (by decide)
  replace k68_ := qs_R_keep (j := 21) (n := 24) h445_ k68_ (by decide)
  replace k74_ := qs_R_keep (j := 21) (n := 24) h445_ k74_ (by decide)
  replace k80_ := qs_R_keep (j := 21) (n := 24) h445_ k80_ (by decide)
  replace k85_ := qs_R_keep (j := 21) (n := 24) h445_ k85_ (by decide)
  replace k91_ := qs_R_keep (j := 21) (n := 24) h445_ k91_ (by decide)
  replace k97_ := qs_R_keep (j := 21) (n := 24) h445_ k97_ (by decide)
  replace k102_ := qs_R_keep (j := 21) (n := 24) h445_ k102_ (by decide)
  replace k108_ := qs_R_keep (j := 21) (n := 24) h445_ k108_ (by decide)
  replace k114_ := qs_R_keep (j := 21) (n := 24) h445_ k114_ (by decide)
  replace k119_ := qs_R_keep (j := 21) (n := 24) h445_ k119_ (by decide)
  replace k125_ := qs_R_keep (j := 21) (n := 24) h445_ k125_ (by decide)
  replace k131_ := qs_R_keep (j := 21) (n := 24) h445_ k131_ (by decide)
  replace k136_ := qs_R_keep (j := 21) (n := 24) h445_ k136_ (by decide)
  replace k142_ := qs_R_keep (j := 21) (n := 24) h445_ k142_ (by decide)
  replace k148_ := qs_R_keep (j := 21) (n := 24) h445_ k148_ (by decide)
  replace k153_ := qs_R_keep (j := 21) (n := 24) h445_ k153_ (by decide)
  replace k159_ := qs_R_keep (j := 21) (n := 24) h445_ k159_ (by decide)
  replace k165_ := qs_R_keep (j := 21) (n := 24) h445_ k165_ (by decide)
  replace k170_ := qs_R_keep (j := 21) (n := 24) h445_ k170_ (by decide)
  replace k176_ := qs_R_keep (j := 21) (n := 24) h445_ k176_ (by decide)
  replace k182_ := qs_R_keep (j := 21) (n := 24) h445_ k182_ (by decide)
  replace k187_ := qs_R_keep (j := 21) (n := 24) h445_ k187_ (by decide)
  replace k193_ := qs_R_keep (j := 21) (n := 24) h445_ k193_ (by decide)
  replace k199_ := qs_R_keep (j := 21) (n := 24) h445_ k199_ (by decide)
  replace k204_ := qs_R_keep (j := 21) (n := 24) h445_ k204_ (by decide)
  replace k210_ := qs_R_keep (j := 21) (n := 24) h445_ k210_ (by decide)
  replace k216_ := qs_R_keep (j := 21) (n := 24) h445_ k216_ (by decide)
  replace k221_ := qs_R_keep (j := 21) (n := 24) h445_ k221_ (by decide)
  replace k227_ := qs_R_keep (j := 21) (n := 24) h445_ k227_ (by decide)
  replace k233_ := qs_R_keep (j := 21) (n := 24) h445_ k233_ (by decide)
  replace k238_ := qs_R_keep (j := 21) (n := 24) h445_ k238_ (by decide)
  replace k244_ := qs_R_keep (j := 21) (n := 24) h445_ k244_ (by decide)
  replace k250_ := qs_R_keep (j := 21) (n := 24) h445_ k250_ (by decide)
  replace k255_ := qs_R_keep (j := 21) (n := 24) h445_ k255_ (by decide)
  replace k261_ := qs_R_keep (j := 21) (n := 24) h445_ k261_ (by decide)
  replace k267_ := qs_R_keep (j := 21) (n := 24) h445_ k267_ (by decide)
  replace k272_ := qs_R_keep (j := 21) (n := 24) h445_ k272_ (by decide)
  replace k278_ := qs_R_keep (j := 21) (n := 24) h445_ k278_ (by decide)
  replace k284_ := qs_R_keep (j := 21) (n := 24) h445_ k284_ (by decide)
  replace k289_ := qs_R_keep (j := 21) (n := 24) h445_ k289_ (by decide)
  replace k295_ := qs_R_keep (j := 21) (n := 24) h445_ k295_ (by decide)
  replace k301_ := qs_R_keep (j := 21) (n := 24) h445_ k301_ (by decide)
  replace k306_ := qs_R_keep (j := 21) (n := 24) h445_ k306_ (by decide)
  replace k312_ := qs_R_keep (j := 21) (n := 24) h445_ k312_ (by decide)
  replace k318_ := qs_R_keep (j := 21) (n := 24) h445_ k318_ (by decide)
  replace k323_ := qs_R_keep (j := 21) (n := 24) h445_ k323_ (by decide)
  replace k329_ := qs_R_keep (j := 21) (n := 24) h445_ k329_ (by decide)
  replace k335_ := qs_R_keep (j := 21) (n := 24) h445_ k335_ (by decide)
  replace k340_ := qs_R_keep (j := 21) (n := 24) h445_ k340_ (by decide)
  replace k346_ := qs_R_keep (j := 21) (n := 24) h445_ k346_ (by decide)
  replace k352_ := qs_R_keep (j := 21) (n := 24) h445_ k352_ (by decide)
  replace k357_ := qs_R_keep (j := 21) (n := 24) h445_ k357_ (by decide)
  replace k363_ := qs_R_keep (j := 21) (n := 24) h445_ k363_ (by decide)
  replace k369_ := qs_R_keep (j := 21) (n := 24) h445_ k369_ (by decide)
  replace k374_ := qs_R_keep (j := 21) (n := 24) h445_ k374_ (by decide)
  replace k380_ := qs_R_keep (j := 21) (n := 24) h445_ k380_ (by decide)
  replace k386_ := qs_R_keep (j := 21) (n := 24) h445_ k386_ (by decide)
  replace k391_ := qs_R_keep (j := 21) (n := 24) h445_ k391_ (by decide)
  replace k397_ := qs_R_keep (j := 21) (n := 24) h445_ k397_ (by decide)
  replace k403_ := qs_R_keep (j := 21) (n := 24) h445_ k403_ (by decide)
  replace k408_ := qs_R_keep (j := 21) (n := 24) h445_ k408_ (by decide)
  replace k414_ := qs_R_keep (j := 21) (n := 24) h445_ k414_ (by decide)
  replace k420_ := qs_R_keep (j := 21) (n := 24) h445_ k420_ (by decide)
  replace k425_ := qs_R_keep (j := 21) (n := 24) h445_ k425_ (by decide)
  replace k431_ := qs_R_keep (j := 21) (n := 24) h445_ k431_ (by decide)
  replace k437_ := qs_R_keep (j := 21) (n := 24) h445_ k437_ (by decide)
  replace k442_ := qs_R_keep (j := 21) (n := 24) h445_ k442_ (by decide)
  have k448_ : q_K (qs_R (qs_P S443_ 2500 a0 (some b438_)) 21 24 b444_) b444_ = 21 := qs_R_Ks
  refine q_putP X Y (some b444_) rfl kX12 101 rfl fl_X12_251 k6_ _ rfl (Or.inr ⟨_, rfl⟩) (Or.inr ⟨rfl, hnm, rfl⟩) dX12_init_680 (fun H locs Y => ?_)
  obtain ⟨S449_, gS449_⟩ : ∃ z : q_S, z = (qs_P (qs_R (qs_P S443_ 2500 a0 (some b438_)) 21 24 b444_) 2501 a0 (some b444_)) := ⟨_, rfl⟩
  replace Y : q_Y D cy lo s S449_ H locs := by rw [gS449_]; exact Y
  replace h := h S449_ gS449_
  replace k5_ : q_K S449_ b1_ = 20 := by rw [gS449_]; exact k5_
  replace k6_ : q_K S449_ a0 = 13 := by rw [gS449_]; exact k6_
  replace k11_ : q_K S449_ b7_ = 20 := by rw [gS449_]; exact k11_
  replace k17_ : q_K S449_ b13_ = 20 := by rw [gS449_]; exact k17_
  replace k23_ : q_K S449_ b19_ = 21 := by rw [gS449_]; exact k23_
  replace k29_ : q_K S449_ b25_ = 21 := by rw [gS449_]; exact k29_
  replace k34_ : q_K S449_ b30_ = 21 := by rw [gS449_]; exact k34_
  replace k40_ : q_K S449_ b36_ = 21 := by rw [gS449_]; exact k40_
  replace k46_ : q_K S449_ b42_ = 21 := by rw [gS449_]; exact k46_
  replace k51_ : q_K S449_ b47_ = 21 := by rw [gS449_]; exact k51_
  replace k57_ : q_K S449_ b53_ = 21 := by rw [gS449_]; exact k57_
  replace k63_ : q_K S449_ b59_ = 21 := by rw [gS449_]; exact k63_
  replace k68_ : q_K S449_ b64_ = 21 := by rw [gS449_]; exact k68_
  replace k74_ : q_K S449_ b70_ = 21 := by rw [gS449_]; exact k74_
  replace k80_ : q_K S449_ b76_ = 21 := by rw [gS449_]; exact k80_
  replace k85_ : q_K S449_ b81_ = 21 := by rw [gS449_]; exact k85_
  replace k91_ : q_K S449_ b87_ = 21 := by rw [gS449_]; exact k91_
  replace k97_ : q_K S449_ b93_ = 21 := by rw [gS449_]; exact k97_
  replace k102_ : q_K S449_ b98_ = 21 := by rw [gS449_]; exact k102_
  replace k108_ : q_K S449_ b104_ = 21 := by rw [gS449_]; exact k108_
  replace k114_ : q_K S449_ b110_ = 21 := by rw [gS449_]; exact k114_
  replace k119_ : q_K S449_ b115_ = 21 := by rw [gS449_]; exact k119_
  replace k125_ : q_K S449_ b121_ = 22 := by rw [gS449_]; exact k125_
  replace k131_ : q_K S449_ b127_ = 21 := by rw [gS449_]; exact k131_
  replace k136_ : q_K S449_ b132_ = 21 := by rw [gS449_]; exact k136_
  replace k142_ : q_K S449_ b138_ = 21 := by rw [gS449_]; exact k142_
  replace k148_ : q_K S449_ b144_ = 22 := by rw [gS449_]; exact k148_
  replace k153_ : q_K S449_ b149_ = 21 := by rw [gS449_]; exact k153_
  replace k159_ : q_K S449_ b155_ = 22 := by rw [gS449_]; exact k159_
  replace k165_ : q_K S449_ b161_ = 22 := by rw [gS449_]; exact k165_
  replace k170_ : q_K S449_ b166_ = 22 := by rw [gS449_]; exact k170_
  replace k176_ : q_K S449_ b172_ = 21 := by rw [gS449_]; exact k176_
  replace k182_ : q_K S449_ b178_ = 22 := by rw [gS449_]; exact k182_
  replace k187_ : q_K S449_ b183_ = 21 := by rw [gS449_]; exact k187_
  replace k193_ : q_K S449_ b189_ = 22 := by rw [gS449_]; exact k193_
  replace k199_ : q_K S449_ b195_ = 21 := by rw [gS449_]; exact k199_
  replace k204_ : q_K S449_ b200_ = 22 := by rw [gS449_]; exact k204_
  replace k210_ : q_K S449_ b206_ = 21 := by rw [gS449_]; exact k210_
  replace k216_ : q_K S449_ b212_ = 21 := by rw [gS449_]; exact k216_
  replace k221_ : q_K S449_ b217_ = 21 := by rw [gS449_]; exact k221_
  replace k227_ : q_K S449_ b223_ = 21 := by rw [gS449_]; exact k227_
  replace k233_ : q_K S449_ b229_ = 21 := by rw [gS449_]; exact k233_
  replace k238_ : q_K S449_ b234_ = 21 := by rw [gS449_]; exact k238_
  replace k244_ : q_K S449_ b240_ = 20 := by rw [gS449_]; exact k244_
  replace k250_ : q_K S449_ b246_ = 20 := by rw [gS449_]; exact k250_
  replace k255_ : q_K S449_ b251_ = 21 := by rw [gS449_]; exact k255_
  replace k261_ : q_K S449_ b257_ = 21 := by rw [gS449_]; exact k261_
  replace k267_ : q_K S449_ b263_ = 21 := by rw [gS449_]; exact k267_
  replace k272_ : q_K S449_ b268_ = 22 := by rw [gS449_]; exact k272_
  replace k278_ : q_K S449_ b274_ = 21 := by rw [gS449_]; exact k278_
  replace k284_ : q_K S449_ b280_ = 21 := by rw [gS449_]; exact k284_
  replace k289_ : q_K S449_ b285_ = 21 := by rw [gS449_]; exact k289_
  replace k295_ : q_K S449_ b291_ = 21 := by rw [gS449_]; exact k295_
  replace k301_ : q_K S449_ b297_ = 22 := by rw [gS449_]; exact k301_
  replace k306_ : q_K S449_ b302_ = 21 := by rw [gS449_]; exact k306_
  replace k312_ : q_K S449_ b308_ = 21 := by rw [gS449_]; exact k312_
  replace k318_ : q_K S449_ b314_ = 21 := by rw [gS449_]; exact k318_
  replace k323_ : q_K S449_ b319_ = 21 := by rw [gS449_]; exact k323_
  replace k329_ : q_K S449_ b325_ = 21 := by rw [gS449_]; exact k329_
  replace k335_ : q_K S449_ b331_ = 21 := by rw [gS449_]; exact k335_
  replace k340_ : q_K S449_ b336_ = 21 := by rw [gS449_]; exact k340_
  replace k346_ : q_K S449_ b342_ = 21 := by rw [gS449_]; exact k346_
  replace k352_ : q_K S449_ b348_ = 21 := by rw [gS449_]; exact k352_
  replace k357_ : q_K S449_ b353_ = 21 := by rw [gS449_]; exact k357_
  replace k363_ : q_K S449_ b359_ = 21 := by rw [gS449_]; exact k363_
  replace k369_ : q_K S449_ b365_ = 21 := by rw [gS449_]; exact k369_
  replace k374_ : q_K S449_ b370_ = 21 := by rw [gS449_]; exact k374_
  replace k380_ : q_K S449_ b376_ = 21 := by rw [gS449_]; exact k380_
  replace k386_ : q_K S449_ b382_ = 21 := by rw [gS449_]; exact k386_
  replace k391_ : q_K S449_ b387_ = 21 := by rw [gS449_]; exact k391_
  replace k397_ : q_K S449_ b393_ = 21 := by rw [gS449_]; exact k397_
  replace k403_ : q_K S449_ b399_ = 22 := by rw [gS449_]; exact k403_
  replace k408_ : q_K S449_ b404_ = 21 := by rw [gS449_]; exact k408_
  replace k414_ : q_K S449_ b410_ = 21 := by rw [gS449_]; exact k414_
  replace k420_ : q_K S449_ b416_ = 22 := by rw [gS449_]; exact k420_
  replace k425_ : q_K S449_ b421_ = 21 := by rw [gS449_]; exact k425_
  replace k431_ : q_K S449_ b427_ = 22 := by rw [gS449_]; exact k431_
  replace k437_ : q_K S449_ b433_ = 21 := by rw [gS449_]; exact k437_
  replace k442_ : q_K S449_ b438_ = 21 := by rw [gS449_]; exact k442_
  replace k448_ : q_K S449_ b444_ = 21 := by rw [gS449_]; exact k448_
  refine lv_aload_n hx hb dX12_init_683 rfl (lv_at hl 0 rfl) ?_
  refine lv_sipush (v := 768) hx hb dX12_init_684 (by decide) ?_
  obtain ⟨w453_, h⟩ := h
  refine q_newa X Y (k := 21) (t := 1) (n := 768) (ty := .int) rfl (by decide) rfl (fun _ _ => rfl) (by first | exact rfl | decide | simp [defaultValue]) ar_int (by decide) (by decide) (by decide) w453_ dX12_init_687 (fun b450_ H h451_ h452_ Y => ?_)
  replace h := h b450_ h451_
  replace hu := w453_
  replace k5_ := qs_R_keep (j := 21) (n := 768) h451_ k5_ (by decide)
  replace k6_ := qs_R_keep (j := 21) (n := 768) h451_ k6_ (by decide)
  replace k11_ := qs_R_keep (j := 21) (n := 768) h451_ k11_ (by decide)
  replace k17_ := qs_R_keep (j := 21) (n := 768) h451_ k17_ (by decide)
  replace k23_ := qs_R_keep (j := 21) (n := 768) h451_ k23_ (by decide)
  replace k29_ := qs_R_keep (j := 21) (n := 768) h451_ k29_ (by decide)
  replace k34_ := qs_R_keep (j := 21) (n := 768) h451_ k34_ (by decide)
  replace k40_ := qs_R_keep (j := 21) (n := 768) h451_ k40_ (by decide)
  replace k46_ := qs_R_keep (j := 21) (n := 768) h451_ k46_ (by decide)
  replace k51_ := qs_R_keep (j := 21) (n := 768) h451_ k51_ (by decide)
  replace k57_ := qs_R_keep (j := 21) (n := 768) h451_ k57_ (by decide)
  replace k63_ := qs_R_keep (j := 21) (n := 768) h451_ k63_ (by decide)
  replace k68_ := qs_R_keep (j := 21) (n := 768) h451_ k68_ (by decide)
  replace k74_ := qs_R_keep (j := 21) (n := 768) h451_ k74_ (by decide)
  replace k80_ := qs_R_keep (j := 21) (n := 768) h451_ k80_ (by decide)
  replace k85_ := qs_R_keep (j := 21) (n := 768) h451_ k85_ (by decide)
  replace k91_ := qs_R_keep (j := 21) (n := 768) h451_ k91_ (by decide)
  replace k97_ := qs_R_keep (j := 21) (n := 768) h451_ k97_ (by decide)
  replace k102_ := qs_R_keep (j := 21) (n := 768) h451_ k102_ (by decide)
  replace k108_ := qs_R_keep (j := 21) (n := 768) h451_ k108_ (by decide)
  replace k114_ := qs_R_keep (j := 21) (n := 768) h451_ k114_ (by decide)
  replace k119_ := qs_R_keep (j := 21) (n := 768) h451_ k119_ (by decide)
  replace k125_ := qs_R_keep (j := 21) (n := 768) h451_ k125_ (by decide)
  replace k131_ := qs_R_keep (j := 21) (n := 768) h451_ k131_ (by decide)
  replace k136_ := qs_R_keep (j := 21) (n := 768) h451_ k136_ (by decide)
  replace k142_ := qs_R_keep (j := 21) (n := 768) h451_ k142_ (by decide)
  replace k148_ := qs_R_keep (j := 21) (n := 768) h451_ k148_ (by decide)
  replace k153_ := qs_R_keep (j := 21) (n := 768) h451_ k153_ (by decide)
  replace k159_ := qs_R_keep (j := 21) (n := 768) h451_ k159_ (by decide)
  replace k165_ := qs_R_keep (j := 21) (n := 768) h451_ k165_ (by decide)
  replace k170_ := qs_R_keep (j := 21) (n := 768) h451_ k170_ (by decide)
  replace k176_ := qs_R_keep (j := 21) (n := 768) h451_ k176_ (by decide)
  replace k182_ := qs_R_keep (j := 21) (n := 768) h451_ k182_ (by decide)
  replace k187_ := qs_R_keep (j := 21) (n := 768) h451_ k187_ (by decide)
  replace k193_ := qs_R_keep (j := 21) (n := 768) h451_ k193_ (by decide)
  replace k199_ := qs_R_keep (j := 21) (n := 768) h451_ k199_ (by decide)
  replace k204_ := qs_R_keep (j := 21) (n := 768) h451_ k204_ (by decide)
  replace k210_ := qs_R_keep (j := 21) (n := 768) h451_ k210_ (by decide)
  replace k216_ := qs_R_keep (j := 21) (n := 768) h451_ k216_ (by decide)
  replace k221_ := qs_R_keep (j := 21) (n := 768) h451_ k221_ (by decide)
  replace k227_ := qs_R_keep (j := 21) (n := 768) h451_ k227_ (by decide)
  replace k233_ := qs_R_keep (j := 21) (n := 768) h451_ k233_ (by decide)
  replace k238_ := qs_R_keep (j := 21) (n := 768) h451_ k238_ (by decide)
  replace k244_ := qs_R_keep (j := 21) (n := 768) h451_ k244_ (by decide)
  replace k250_ := qs_R_keep (j := 21) (n := 768) h451_ k250_ (by decide)
  replace k255_ := qs_R_keep (j := 21) (n := 768) h451_ k255_ (by decide)
  replace k261_ := qs_R_keep (j := 21) (n := 768) h451_ k261_ (by decide)
  replace k267_ := qs_R_keep (j := 21) (n := 768) h451_ k267_ (by decide)
  replace k272_ := qs_R_keep (j := 21) (n := 768) h451_ k272_ (by decide)
  replace k278_ := qs_R_keep (j := 21) (n := 768) h451_ k278_ (by decide)
  replace k284_ := qs_R_keep (j := 21) (n := 768) h451_ k284_ (by decide)
  replace k289_ := qs_R_keep (j := 21) (n := 768) h451_ k289_ (by decide)
  replace k295_ := qs_R_keep (j := 21) (n := 768) h451_ k295_ (by decide)
  replace k301_ := qs_R_keep (j := 21) (n := 768) h451_ k301_ (by decide)
  replace k306_ := qs_R_keep (j := 21) (n := 768) h451_ k306_ (by decide)
  replace k312_ := qs_R_keep (j := 21) (n := 768) h451_ k312_ (by decide)
  replace k318_ := qs_R_keep (j := 21) (n := 768) h451_ k318_ (by decide)
  replace k323_ := qs_R_keep (j := 21) (n := 768) h451_ k323_ (by decide)
  replace k329_ := qs_R_keep (j := 21) (n := 768) h451_ k329_ (by decide)
  replace k335_ := qs_R_keep (j := 21) (n := 768) h451_ k335_ (by decide)
  replace k340_ := qs_R_keep (j := 21) (n := 768) h451_ k340_ (by decide)
  replace k346_ := qs_R_keep (j := 21) (n := 768) h451_ k346_ (by decide)
  replace k352_ := qs_R_keep (j := 21) (n := 768) h451_ k352_ (by decide)
  replace k357_ := qs_R_keep (j := 21) (n := 768) h451_ k357_ (by decide)
  replace k363_ := qs_R_keep (j := 21) (n := 768) h451_ k363_ (by decide)
  replace k369_ := qs_R_keep (j := 21) (n := 768) h451_ k369_ (by decide)
  replace k374_ := qs_R_keep (j := 21) (n := 768) h451_ k374_ (by decide)
  replace k380_ := qs_R_keep (j := 21) (n := 768) h451_ k380_ (by decide)
  replace k386_ := qs_R_keep (j := 21) (n := 768) h451_ k386_ (by decide)
  replace k391_ := qs_R_keep (j := 21) (n := 768) h451_ k391_ (by decide)
  replace k397_ := qs_R_keep (j := 21) (n := 768) h451_ k397_ (by decide)
  replace k403_ := qs_R_keep (j := 21) (n := 768) h451_ k403_ (by decide)
  replace k408_ := qs_R_keep (j := 21) (n := 768) h451_ k408_ (by decide)
  replace k414_ := qs_R_keep (j := 21) (n := 768) h451_ k414_ (by decide)
  replace k420_ := qs_R_keep (j := 21) (n := 768) h451_ k420_ (by decide)
  replace k425_ := qs_R_keep (j := 21) (n := 768) h451_ k425_ (by decide)
  replace k431_ := qs_R_keep (j := 21) (n := 768) h451_ k431_ (by decide)
  replace k437_ := qs_R_keep (j := 21) (n := 768) h451_ k437_ (by decide)
  replace k442_ := qs_R_keep (j := 21) (n := 768) h451_ k442_ (by decide)
  replace k448_ := qs_R_keep (j := 21) (n := 768) h451_ k448_ (by decide)
  have k454_ : q_K (qs_R S449_ 21 768 b450_) b450_ = 21 := qs_R_Ks
  refine q_putP X Y (some b450_) rfl kX12 102 rfl fl_X12_254 k6_ _ rfl (Or.inr ⟨_, rfl⟩) (Or.inr ⟨rfl, hnm, rfl⟩) dX12_init_689 (fun H locs Y => ?_)
  refine lv_aload_n hx hb dX12_init_692 rfl (lv_at hl 0 rfl) ?_
  refine lv_bipush (v := 24) hx hb dX12_init_693 (by decide) ?_
  obtain ⟨w458_, h⟩ := h
  refine q_newa X Y (k := 21) (t := 1) (n := 24) (ty := .int) rfl (by decide) rfl (fun _ _ => rfl) (by first | exact rfl | decide | simp [defaultValue]) ar_int (by decide) (by decide) (by decide) w458_ dX12_init_695 (fun b455_ H h456_ h457_ Y => ?_)
  replace h := h b455_ h456_
  replace hu := w458_
  replace k5_ := qs_R_keep (j := 21) (n := 24) h456_ k5_ (by decide)
  replace k6_ := qs_R_keep (j := 21) (n := 24) h456_ k6_ (by decide)
  replace k11_ := qs_R_keep (j := 21) (n := 24) h456_ k11_ (by decide)
  replace k17_ := qs_R_keep (j := 21) (n := 24) h456_ k17_ (by decide)
  replace k23_ := qs_R_keep (j := 21) (n := 24) h456_ k23_ (by decide)
  replace k29_ := qs_R_keep (j := 21) (n := 24) h456_ k29_ (by decide)
  replace k34_ := qs_R_keep (j := 21) (n := 24) h456_ k34_ (by decide)
  replace k40_ := qs_R_keep (j := 21) (n := 24) h456_ k40_ (by decide)
  replace k46_ := qs_R_keep (j := 21) (n := 24) h456_ k46_ (by decide)
  replace k51_ := qs_R_keep (j := 21) (n := 24) h456_ k51_ (by decide)
  replace k57_ := qs_R_keep (j := 21) (n := 24) h456_ k57_ (by decide)
  replace k63_ := qs_R_keep (j := 21) (n := 24) h456_ k63_ (by decide)
  replace k68_ := qs_R_keep (j := 21) (n := 24) h456_ k68_ (by decide)
  replace k74_ := qs_R_keep (j := 21) (n := 24) h456_ k74_ (by decide)
  replace k80_ := qs_R_keep (j := 21) (n := 24) h456_ k80_ (by decide)
  replace k85_ := qs_R_keep (j := 21) (n := 24) h456_ k85_ (by decide)
  replace k91_ := qs_R_keep (j := 21) (n := 24) h456_ k91_ (by decide)
  replace k97_ := qs_R_keep (j := 21) (n := 24) h456_ k97_ (by decide)
  replace k102_ := qs_R_keep (j := 21) (n := 24) h456_ k102_ (by decide)
  replace k108_ := qs_R_keep (j := 21) (n := 24) h456_ k108_ (by decide)
  replace k114_ := qs_R_keep (j := 21) (n := 24) h456_ k114_ (by decide)
  replace k119_ := qs_R_keep (j := 21) (n := 24) h456_ k119_ (by decide)
  replace k125_ := qs_R_keep (j := 21) (n := 24) h456_ k125_ (by decide)
  replace k131_ := qs_R_keep (j := 21) (n := 24) h456_ k131_ (by decide)
  replace k136_ := qs_R_keep (j := 21) (n := 24) h456_ k136_ (by decide)
  replace k142_ := qs_R_keep (j := 21) (n := 24) h456_ k142_ (by decide)
  replace k148_ := qs_R_keep (j := 21) (n := 24) h456_ k148_ (by decide)
  replace k153_ := qs_R_keep (j := 21) (n := 24) h456_ k153_ (by decide)
  replace k159_ := qs_R_keep (j := 21) (n := 24) h456_ k159_ (by decide)
  replace k165_ := qs_R_keep (j := 21) (n := 24) h456_ k165_ (by decide)
  replace k170_ := qs_R_keep (j := 21) (n := 24) h456_ k170_ (by decide)
  replace k176_ := qs_R_keep (j := 21) (n := 24) h456_ k176_ (by decide)
  replace k182_ := qs_R_keep (j := 21) (n := 24) h456_ k182_ (by decide)
  replace k187_ := qs_R_keep (j := 21) (n := 24) h456_ k187_ (by decide)
  replace k193_ := qs_R_keep (j := 21) (n := 24) h456_ k193_ (by decide)
  replace k199_ := qs_R_keep (j := 21) (n := 24) h456_ k199_ (by decide)
  replace k204_ := qs_R_keep (j := 21) (n := 24) h456_ k204_ (by decide)
  replace k210_ := qs_R_keep (j := 21) (n := 24) h456_ k210_ (by decide)
  replace k216_ := qs_R_keep (j := 21) (n := 24) h456_ k216_ (by decide)
  replace k221_ := qs_R_keep (j := 21) (n := 24) h456_ k221_ (by decide)
  replace k227_ := qs_R_keep (j := 21) (n := 24) h456_ k227_ (by decide)
  replace k233_ := qs_R_keep (j := 21) (n := 24) h456_ k233_ (by decide)
  replace k238_ := qs_R_keep (j := 21) (n := 24) h456_ k238_ (by decide)
  replace k244_ := qs_R_keep (j := 21) (n := 24) h456_ k244_ (by decide)
  replace k250_ := qs_R_keep (j := 21) (n := 24) h456_ k250_ (by decide)
  replace k255_ := qs_R_keep (j := 21) (n := 24) h456_ k255_ (by decide)
  replace k261_ := qs_R_keep (j := 21) (n := 24) h456_ k261_ (by decide)
  replace k267_ := qs_R_keep (j := 21) (n := 24) h456_ k267_ (by decide)
  replace k272_ := qs_R_keep (j := 21) (n := 24) h456_ k272_ (by decide)
  replace k278_ := qs_R_keep (j := 21) (n := 24) h456_ k278_ (by decide)
  replace k284_ := qs_R_keep (j := 21) (n := 24) h456_ k284_ (by decide)
  replace k289_ := qs_R_keep (j := 21) (n := 24) h456_ k289_ (by decide)
  replace k295_ := qs_R_keep (j := 21) (n := 24) h456_ k295_ (by decide)
  replace k301_ := qs_R_keep (j := 21) (n := 24) h456_ k301_ (by decide)
  replace k306_ := qs_R_keep (j := 21) (n := 24) h456_ k306_ (by decide)
  replace k312_ := qs_R_keep (j := 21) (n := 24) h456_ k312_ (by decide)
  replace k318_ := qs_R_keep (j := 21) (n := 24) h456_ k318_ (by decide)
  replace k323_ := qs_R_keep (j := 21) (n := 24) h456_ k323_ (by decide)
  replace k329_ := qs_R_keep (j := 21) (n := 24) h456_ k329_ (by decide)
  replace k335_ := qs_R_keep (j := 21) (n := 24) h456_ k335_ (by decide)
  replace k340_ := qs_R_keep (j := 21) (n := 24) h456_ k340_ (by decide)
  replace k346_ := qs_R_keep (j := 21) (n := 24) h456_ k346_ (by decide)
  replace k352_ := qs_R_keep (j := 21) (n := 24) h456_ k352_ (by decide)
  replace k357_ := qs_R_keep (j := 21) (n := 24) h456_ k357_ (by decide)
  replace k363_ := qs_R_keep (j := 21) (n := 24) h456_ k363_ (by decide)
  replace k369_ := qs_R_keep (j := 21) (n := 24) h456_ k369_ (by decide)
  replace k374_ := qs_R_keep (j := 21) (n := 24) h456_ k374_ (by decide)
  replace k380_ := qs_R_keep (j := 21) (n := 24) h456_ k380_ (by decide)
  replace k386_ := qs_R_keep (j := 21) (n := 24) h456_ k386_ (by decide)
  replace k391_ := qs_R_keep (j := 21) (n := 24) h456_ k391_ (by decide)
  replace k397_ := qs_R_keep (j := 21) (n := 24) h456_ k397_ (by decide)
  replace k403_ := qs_R_keep (j := 21) (n := 24) h456_ k403_ (by decide)
  replace k408_ := qs_R_keep (j := 21) (n := 24) h456_ k408_ (by decide)
  replace k414_ := qs_R_keep (j := 21) (n := 24) h456_ k414_ (by decide)
  replace k420_ := qs_R_keep (j := 21) (n := 24) h456_ k420_ (by decide)
  replace k425_ := qs_R_keep (j := 21) (n := 24) h456_ k425_ (by decide)
  replace k431_ := qs_R_keep (j := 21) (n := 24) h456_ k431_ (by decide)
  replace k437_ := qs_R_keep (j := 21) (n := 24) h456_ k437_ (by decide)
  replace k442_ := qs_R_keep (j := 21) (n := 24) h456_ k442_ (by decide)
  replace k448_ := qs_R_keep (j := 21) (n := 24) h456_ k448_ (by decide)
  replace k454_ := qs_R_keep (j := 21) (n := 24) h456_ k454_ (by decide)
  have k459_ : q_K (qs_R (qs_P (qs_R S449_ 21 768 b450_) 2502 a0 (some b450_)) 21 24 b455_) b455_ = 21 := qs_R_Ks
  obtain ⟨S460_, gS460_⟩ : ∃ z : q_S, z = (qs_R (qs_P (qs_R S449_ 21 768 b450_) 2502 a0 (some b450_)) 21 24 b455_) := ⟨_, rfl⟩
  replace Y : q_Y D cy lo s S460_ H locs := by rw [gS460_]; exact Y
  replace h := h S460_ gS460_
  replace k5_ : q_K S460_ b1_ = 20 := by rw [gS460_]; exact k5_
  replace k6_ : q_K S460_ a0 = 13 := by rw [gS460_]; exact k6_
  replace k11_ : q_K S460_ b7_ = 20 := by rw [gS460_]; exact k11_
  replace k17_ : q_K S460_ b13_ = 20 := by rw [gS460_]; exact k17_
  replace k23_ : q_K S460_ b19_ = 21 := by rw [gS460_]; exact k23_
  replace k29_ : q_K S460_ b25_ = 21 := by rw [gS460_]; exact k29_
  replace k34_ : q_K S460_ b30_ = 21 := by rw [gS460_]; exact k34_
  replace k40_ : q_K S460_ b36_ = 21 := by rw [gS460_]; exact k40_
  replace k46_ : q_K S460_ b42_ = 21 := by rw [gS460_]; exact k46_
  replace k51_ : q_K S460_ b47_ = 21 := by rw [gS460_]; exact k51_
  replace k57_ : q_K S460_ b53_ = 21 := by rw [gS460_]; exact k57_
  replace k63_ : q_K S460_ b59_ = 21 := by rw [gS460_]; exact k63_
  replace k68_ : q_K S460_ b64_ = 21 := by rw [gS460_]; exact k68_
  replace k74_ : q_K S460_ b70_ = 21 := by rw [gS460_]; exact k74_
  replace k80_ : q_K S460_ b76_ = 21 := by rw [gS460_]; exact k80_
  replace k85_ : q_K S460_ b81_ = 21 := by rw [gS460_]; exact k85_
  replace k91_ : q_K S460_ b87_ = 21 := by rw [gS460_]; exact k91_
  replace k97_ : q_K S460_ b93_ = 21 := by rw [gS460_]; exact k97_
  replace k102_ : q_K S460_ b98_ = 21 := by rw [gS460_]; exact k102_
  replace k108_ : q_K S460_ b104_ = 21 := by rw [gS460_]; exact k108_
  replace k114_ : q_K S460_ b110_ = 21 := by rw [gS460_]; exact k114_
  replace k119_ : q_K S460_ b115_ = 21 := by rw [gS460_]; exact k119_
  replace k125_ : q_K S460_ b121_ = 22 := by rw [gS460_]; exact k125_
  replace k131_ : q_K S460_ b127_ = 21 := by rw [gS460_]; exact k131_
  replace k136_ : q_K S460_ b132_ = 21 := by rw [gS460_]; exact k136_
  replace k142_ : q_K S460_ b138_ = 21 := by rw [gS460_]; exact k142_
  replace k148_ : q_K S460_ b144_ = 22 := by rw [gS460_]; exact k148_
  replace k153_ : q_K S460_ b149_ = 21 := by rw [gS460_]; exact k153_
  replace k159_ : q_K S460_ b155_ = 22 := by rw [gS460_]; exact k159_
  replace k165_ : q_K S460_ b161_ = 22 := by rw [gS460_]; exact k165_
  replace k170_ : q_K S460_ b166_ = 22 := by rw [gS460_]; exact k170_
  replace k176_ : q_K S460_ b172_ = 21 := by rw [gS460_]; exact k176_
  replace k182_ : q_K S460_ b178_ = 22 := by rw [gS460_]; exact k182_
  replace k187_ : q_K S460_ b183_ = 21 := by rw [gS460_]; exact k187_
  replace k193_ : q_K S460_ b189_ = 22 := by rw [gS460_]; exact k193_
  replace k199_ : q_K S460_ b195_ = 21 := by rw [gS460_]; exact k199_
  replace k204_ : q_K S460_ b200_ = 22 := by rw [gS460_]; exact k204_
  replace k210_ : q_K S460_ b206_ = 21 := by rw [gS460_]; exact k210_
  replace k216_ : q_K S460_ b212_ = 21 := by rw [gS460_]; exact k216_
  replace k221_ : q_K S460_ b217_ = 21 := by rw [gS460_]; exact k221_
  replace k227_ : q_K S460_ b223_ = 21 := by rw [gS460_]; exact k227_
  replace k233_ : q_K S460_ b229_ = 21 := by rw [gS460_]; exact k233_
  replace k238_ : q_K S460_ b234_ = 21 := by rw [gS460_]; exact k238_
  replace k244_ : q_K S460_ b240_ = 20 := by rw [gS460_]; exact k244_
  replace k250_ : q_K S460_ b246_ = 20 := by rw [gS460_]; exact k250_
  replace k255_ : q_K S460_ b251_ = 21 := by rw [gS460_]; exact k255_
  replace k261_ : q_K S460_ b257_ = 21 := by rw [gS460_]; exact k261_
  replace k267_ : q_K S460_ b263_ = 21 := by rw [gS460_]; exact k267_
  replace k272_ : q_K S460_ b268_ = 22 := by rw [gS460_]; exact k272_
  replace k278_ : q_K S460_ b274_ = 21 := by rw [gS460_]; exact k278_
  replace k284_ : q_K S460_ b280_ = 21 := by rw [gS460_]; exact k284_
  replace k289_ : q_K S460_ b285_ = 21 := by rw [gS460_]; exact k289_
  replace k295_ : q_K S460_ b291_ = 21 := by rw [gS460_]; exact k295_
  replace k301_ : q_K S460_ b297_ = 22 := by rw [gS460_]; exact k301_
  replace k306_ : q_K S460_ b302_ = 21 := by rw [gS460_]; exact k306_
  replace k312_ : q_K S460_ b308_ = 21 := by rw [gS460_]; exact k312_
  replace k318_ : q_K S460_ b314_ = 21 := by rw [gS460_]; exact k318_
  replace k323_ : q_K S460_ b319_ = 21 := by rw [gS460_]; exact k323_
  replace k329_ : q_K S460_ b325_ = 21 := by rw [gS460_]; exact k329_
  replace k335_ : q_K S460_ b331_ = 21 := by rw [gS460_]; exact k335_
  replace k340_ : q_K S460_ b336_ = 21 := by rw [gS460_]; exact k340_
  replace k346_ : q_K S460_ b342_ = 21 := by rw [gS460_]; exact k346_
  replace k352_ : q_K S460_ b348_ = 21 := by rw [gS460_]; exact k352_
  replace k357_ : q_K S460_ b353_ = 21 := by rw [gS460_]; exact k357_
  replace k363_ : q_K S460_ b359_ = 21 := by rw [gS460_]; exact k363_
  replace k369_ : q_K S460_ b365_ = 21 := by rw [gS460_]; exact k369_
  replace k374_ : q_K S460_ b370_ = 21 := by rw [gS460_]; exact k374_
  replace k380_ : q_K S460_ b376_ = 21 := by rw [gS460_]; exact k380_
  replace k386_ : q_K S460_ b382_ = 21 := by rw [gS460_]; exact k386_
  replace k391_ : q_K S460_ b387_ = 21 := by rw [gS460_]; exact k391_
  replace k397_ : q_K S460_ b393_ = 21 := by rw [gS460_]; exact k397_
  replace k403_ : q_K S460_ b399_ = 22 := by rw [gS460_]; exact k403_
  replace k408_ : q_K S460_ b404_ = 21 := by rw [gS460_]; exact k408_
  replace k414_ : q_K S460_ b410_ = 21 := by rw [gS460_]; exact k414_
  replace k420_ : q_K S460_ b416_ = 22 := by rw [gS460_]; exact k420_
  replace k425_ : q_K S460_ b421_ = 21 := by rw [gS460_]; exact k425_
  replace k431_ : q_K S460_ b427_ = 22 := by rw [gS460_]; exact k431_
  replace k437_ : q_K S460_ b433_ = 21 := by rw [gS460_]; exact k437_
  replace k442_ : q_K S460_ b438_ = 21 := by rw [gS460_]; exact k442_
  replace k448_ : q_K S460_ b444_ = 21 := by rw [gS460_]; exact k448_
  replace k454_ : q_K S460_ b450_ = 21 := by rw [gS460_]; exact k454_
  replace k459_ : q_K S460_ b455_ = 21 := by rw [gS460_]; exact k459_
  refine q_putP X Y (some b455_) rfl kX12 103 rfl fl_X12_257 k6_ _ rfl (Or.inr ⟨_, rfl⟩) (Or.inr ⟨rfl, hnm, rfl⟩) dX12_init_697 (fun H locs Y => ?_)
  refine lv_aload_n hx hb dX12_init_700 rfl (lv_at hl 0 rfl) ?_
  refine lv_bipush (v := 24) hx hb dX12_init_701 (by decide) ?_
  obtain ⟨w464_, h⟩ := h
  refine q_newa X Y (k := 21) (t := 1) (n := 24) (ty := .int) rfl (by decide) rfl (fun _ _ => rfl) (by first | exact rfl | decide | simp [defaultValue]) ar_int (by decide) (by decide) (by decide) w464_ dX12_init_703 (fun b461_ H h462_ h463_ Y => ?_)
  replace h := h b461_ h462_
  replace hu := w464_
  replace k5_ := qs_R_keep (j := 21) (n := 24) h462_ k5_ (by decide)
  replace k6_ := qs_R_keep (j := 21) (n := 24) h462_ k6_ (by decide)
  replace k11_ := qs_R_keep (j := 21) (n := 24) h462_ k11_ (by decide)
  replace k17_ := qs_R_keep (j := 21) (n := 24) h462_ k17_ (by decide)
  replace k23_ := qs_R_keep (j := 21) (n := 24) h462_ k23_ (by decide)
  replace k29_ := qs_R_keep (j := 21) (n := 24) h462_ k29_ (by decide)
  replace k34_ := qs_R_keep (j := 21) (n := 24) h462_ k34_ (by decide)
  replace k40_ := qs_R_keep (j := 21) (n := 24) h462_ k40_ (by decide)
  replace k46_ := qs_R_keep (j := 21) (n := 24) h462_ k46_ (by decide)
  replace k51_ := qs_R_keep (j := 21) (n := 24) h462_ k51_ (by decide)
  replace k57_ := qs_R_keep (j := 21) (n := 24) h462_ k57_ (by decide)
  replace k63_ := qs_R_keep (j := 21) (n := 24) h462_ k63_ (by decide)
  replace k68_ := qs_R_keep (j := 21) (n := 24) h462_ k68_ (by decide)
  replace k74_ := qs_R_keep (j := 21) (n := 24) h462_ k74_ (by decide)
  replace k80_ := qs_R_keep (j := 21) (n := 24) h462_ k80_ (by decide)
  replace k85_ := qs_R_keep (j := 21) (n := 24) h462_ k85_ (by decide)
  replace k91_ := qs_R_keep (j := 21) (n := 24) h462_ k91_ (by decide)
  replace k97_ := qs_R_keep (j := 21) (n := 24) h462_ k97_ (by decide)
  replace k102_ := qs_R_keep (j := 21) (n := 24) h462_ k102_ (by decide)
  replace k108_ := qs_R_keep (j := 21) (n := 24) h462_ k108_ (by decide)
  replace k114_ := qs_R_keep (j := 21) (n := 24) h462_ k114_ (by decide)
  replace k119_ := qs_R_keep (j := 21) (n := 24) h462_ k119_ (by decide)
  replace k125_ := qs_R_keep (j := 21) (n := 24) h462_ k125_ (by decide)
  replace k131_ := qs_R_keep (j := 21) (n := 24) h462_ k131_ (by decide)
  replace k136_ := qs_R_keep (j := 21) (n := 24) h462_ k136_ (by decide)
  replace k142_ := qs_R_keep (j := 21) (n := 24) h462_ k142_ (by decide)
  replace k148_ := qs_R_keep (j := 21) (n := 24) h462_ k148_ (by decide)
  replace k153_ := qs_R_keep (j := 21) (n := 24) h462_ k153_ (by decide)
  replace k159_ := qs_R_keep (j := 21) (n := 24) h462_ k159_ (by decide)
  replace k165_ := qs_R_keep (j := 21) (n := 24) h462_ k165_ (by decide)
  replace k170_ := qs_R_keep (j := 21) (n := 24) h462_ k170_ (by decide)
  replace k176_ := qs_R_keep (j := 21) (n := 24) h462_ k176_ (by decide)
  replace k182_ := qs_R_keep (j := 21) (n := 24) h462_ k182_ (by decide)
  replace k187_ := qs_R_keep (j := 21) (n := 24) h462_ k187_ (by decide)
  replace k193_ := qs_R_keep (j := 21) (n := 24) h462_ k193_ (by decide)
  replace k199_ := qs_R_keep (j := 21) (n := 24) h462_ k199_ (by decide)
  replace k204_ := qs_R_keep (j := 21) (n := 24) h462_ k204_ (by decide)
  replace k210_ := qs_R_keep (j := 21) (n := 24) h462_ k210_ (by decide)
  replace k216_ := qs_R_keep (j := 21) (n := 24) h462_ k216_ (by decide)
  replace k221_ := qs_R_keep (j := 21) (n := 24) h462_ k221_ (by decide)
  replace k227_ := qs_R_keep (j := 21) (n := 24) h462_ k227_ (by decide)
  replace k233_ := qs_R_keep (j := 21) (n := 24) h462_ k233_ (by decide)
  replace k238_ := qs_R_keep (j := 21) (n := 24) h462_ k238_ (by decide)
  replace k244_ := qs_R_keep (j := 21) (n := 24) h462_ k244_ (by decide)
  replace k250_ := qs_R_keep (j := 21) (n := 24) h462_ k250_ (by decide)
  replace k255_ := qs_R_keep (j := 21) (n := 24) h462_ k255_ (by decide)
  replace k261_ := qs_R_keep (j := 21) (n := 24) h462_ k261_ (by decide)
  replace k267_ := qs_R_keep (j := 21) (n := 24) h462_ k267_ (by decide)
  replace k272_ := qs_R_keep (j := 21) (n := 24) h462_ k272_ (by decide)
  replace k278_ := qs_R_keep (j := 21) (n := 24) h462_ k278_ (by decide)
  replace k284_ := qs_R_keep (j := 21) (n := 24) h462_ k284_ (by decide)
  replace k289_ := qs_R_keep (j := 21) (n := 24) h462_ k289_ (by decide)
  replace k295_ := qs_R_keep (j := 21) (n := 24) h462_ k295_ (by decide)
  replace k301_ := qs_R_keep (j := 21) (n := 24) h462_ k301_ (by decide)
  replace k306_ := qs_R_keep (j := 21) (n := 24) h462_ k306_ (by decide)
  replace k312_ := qs_R_keep (j := 21) (n := 24) h462_ k312_ (by decide)
  replace k318_ := qs_R_keep (j := 21) (n := 24) h462_ k318_ (by decide)
  replace k323_ := qs_R_keep (j := 21) (n := 24) h462_ k323_ (by decide)
  replace k329_ := qs_R_keep (j := 21) (n := 24) h462_ k329_ (by decide)
  replace k335_ := qs_R_keep (j := 21) (n := 24) h462_ k335_ (by decide)
  replace k340_ := qs_R_keep (j := 21) (n := 24) h462_ k340_ (by decide)
  replace k346_ := qs_R_keep (j := 21) (n := 24) h462_ k346_ (by decide)
  replace k352_ := qs_R_keep (j := 21) (n := 24) h462_ k352_ (by decide)
  replace k357_ := qs_R_keep (j := 21) (n := 24) h462_ k357_ (by decide)
  replace k363_ := qs_R_keep (j := 21) (n := 24) h462_ k363_ (by decide)
  replace k369_ := qs_R_keep (j := 21) (n := 24) h462_ k369_ (by decide)
  replace k374_ := qs_R_keep (j := 21) (n := 24) h462_ k374_ (by decide)
  replace k380_ := qs_R_keep (j := 21) (n := 24) h462_ k380_ (by decide)
  replace k386_ := qs_R_keep (j := 21) (n := 24) h462_ k386_ (by decide)
  replace k391_ := qs_R_keep (j := 21) (n := 24) h462_ k391_ (by decide)
  replace k397_ := qs_R_keep (j := 21) (n := 24) h462_ k397_ (by decide)
  replace k403_ := qs_R_keep (j := 21) (n := 24) h462_ k403_ (by decide)
  replace k408_ := qs_R_keep (j := 21) (n := 24) h462_ k408_ (by decide)
  replace k414_ := qs_R_keep (j := 21) (n := 24) h462_ k414_ (by decide)
  replace k420_ := qs_R_keep (j := 21) (n := 24) h462_ k420_ (by decide)
  replace k425_ := qs_R_keep (j := 21) (n := 24) h462_ k425_ (by decide)
  replace k431_ := qs_R_keep (j := 21) (n := 24) h462_ k431_ (by decide)
  replace k437_ := qs_R_keep (j := 21) (n := 24) h462_ k437_ (by decide)
  replace k442_ := qs_R_keep (j := 21) (n := 24) h462_ k442_ (by decide)
  replace k448_ := qs_R_keep (j := 21) (n := 24) h462_ k448_ (by decide)
  replace k454_ := qs_R_keep (j := 21) (n := 24) h462_ k454_ (by decide)
  replace k459_ := qs_R_keep (j := 21) (n := 24) h462_ k459_ (by decide)
  have k465_ : q_K (qs_R (qs_P S460_ 2503 a0 (some b455_)) 21 24 b461_) b461_ = 21 := qs_R_Ks
  refine q_putP X Y (some b461_) rfl kX12 104 rfl fl_X12_260 k6_ _ rfl (Or.inr ⟨_, rfl⟩) (Or.inr ⟨rfl, hnm, rfl⟩) dX12_init_705 (fun H locs Y => ?_)
  obtain ⟨S466_, gS466_⟩ : ∃ z : q_S, z = (qs_P (qs_R (qs_P S460_ 2503 a0 (some b455_)) 21 24 b461_) 2504 a0 (some b461_)) := ⟨_, rfl⟩
  replace Y : q_Y D cy lo s S466_ H locs := by rw [gS466_]; exact Y
  replace h := h S466_ gS466_
  replace k5_ : q_K S466_ b1_ = 20 := by rw [gS466_]; exact k5_
  replace k6_ : q_K S466_ a0 = 13 := by rw [gS466_]; exact k6_
  replace k11_ : q_K S466_ b7_ = 20 := by rw [gS466_]; exact k11_
  replace k17_ : q_K S466_ b13_ = 20 := by rw [gS466_]; exact k17_
  replace k23_ : q_K S466_ b19_ = 21 := by rw [gS466_]; exact k23_
  replace k29_ : q_K S466_ b25_ = 21 := by rw [gS466_]; exact k29_
  replace k34_ : q_K S466_ b30_ = 21 := by rw [gS466_]; exact k34_
  replace k40_ : q_K S466_ b36_ = 21 := by rw [gS466_]; exact k40_
  replace k46_ : q_K S466_ b42_ = 21 := by rw [gS466_]; exact k46_
  replace k51_ : q_K S466_ b47_ = 21 := by rw [gS466_]; exact k51_
  replace k57_ : q_K S466_ b53_ = 21 := by rw [gS466_]; exact k57_
  replace k63_ : q_K S466_ b59_ = 21 := by rw [gS466_]; exact k63_
  replace k68_ : q_K S466_ b64_ = 21 := by rw [gS466_]; exact k68_
  replace k74_ : q_K S466_ b70_ = 21 := by rw [gS466_]; exact k74_
  replace k80_ : q_K S466_ b76_ = 21 := by rw [gS466_]; exact k80_
  replace k85_ : q_K S466_ b81_ = 21 := by rw [gS466_]; exact k85_
  replace k91_ : q_K S466_ b87_ = 21 := by rw [gS466_]; exact k91_
  replace k97_ : q_K S466_ b93_ = 21 := by rw [gS466_]; exact k97_
  replace k102_ : q_K S466_ b98_ = 21 := by rw [gS466_]; exact k102_
  replace k108_ : q_K S466_ b104_ = 21 := by rw [gS466_]; exact k108_
  replace k114_ : q_K S466_ b110_ = 21 := by rw [gS466_]; exact k114_
  replace k119_ : q_K S466_ b115_ = 21 := by rw [gS466_]; exact k119_
  replace k125_ : q_K S466_ b121_ = 22 := by rw [gS466_]; exact k125_
  replace k131_ : q_K S466_ b127_ = 21 := by rw [gS466_]; exact k131_
  replace k136_ : q_K S466_ b132_ = 21 := by rw [gS466_]; exact k136_
  replace k142_ : q_K S466_ b138_ = 21 := by rw [gS466_]; exact k142_
  replace k148_ : q_K S466_ b144_ = 22 := by rw [gS466_]; exact k148_
  replace k153_ : q_K S466_ b149_ = 21 := by rw [gS466_]; exact k153_
  replace k159_ : q_K S466_ b155_ = 22 := by rw [gS466_]; exact k159_
  replace k165_ : q_K S466_ b161_ = 22 := by rw [gS466_]; exact k165_
  replace k170_ : q_K S466_ b166_ = 22 := by rw [gS466_]; exact k170_
  replace k176_ : q_K S466_ b172_ = 21 := by rw [gS466_]; exact k176_
  replace k182_ : q_K S466_ b178_ = 22 := by rw [gS466_]; exact k182_
  replace k187_ : q_K S466_ b183_ = 21 := by rw [gS466_]; exact k187_
  replace k193_ : q_K S466_ b189_ = 22 := by rw [gS466_]; exact k193_
  replace k199_ : q_K S466_ b195_ = 21 := by rw [gS466_]; exact k199_
  replace k204_ : q_K S466_ b200_ = 22 := by rw [gS466_]; exact k204_
  replace k210_ : q_K S466_ b206_ = 21 := by rw [gS466_]; exact k210_
  replace k216_ : q_K S466_ b212_ = 21 := by rw [gS466_]; exact k216_
  replace k221_ : q_K S466_ b217_ = 21 := by rw [gS466_]; exact k221_
  replace k227_ : q_K S466_ b223_ = 21 := by rw [gS466_]; exact k227_
  replace k233_ : q_K S466_ b229_ = 21 := by rw [gS466_]; exact k233_
  replace k238_ : q_K S466_ b234_ = 21 := by rw [gS466_]; exact k238_
  replace k244_ : q_K S466_ b240_ = 20 := by rw [gS466_]; exact k244_
  replace k250_ : q_K S466_ b246_ = 20 := by rw [gS466_]; exact k250_
  replace k255_ : q_K S466_ b251_ = 21 := by rw [gS466_]; exact k255_
  replace k261_ : q_K S466_ b257_ = 21 := by rw [gS466_]; exact k261_
  replace k267_ : q_K S466_ b263_ = 21 := by rw [gS466_]; exact k267_
  replace k272_ : q_K S466_ b268_ = 22 := by rw [gS466_]; exact k272_
  replace k278_ : q_K S466_ b274_ = 21 := by rw [gS466_]; exact k278_
  replace k284_ : q_K S466_ b280_ = 21 := by rw [gS466_]; exact k284_
  replace k289_ : q_K S466_ b285_ = 21 := by rw [gS466_]; exact k289_
  replace k295_ : q_K S466_ b291_ = 21 := by rw [gS466_]; exact k295_
  replace k301_ : q_K S466_ b297_ = 22 := by rw [gS466_]; exact k301_
  replace k306_ : q_K S466_ b302_ = 21 := by rw [gS466_]; exact k306_
  replace k312_ : q_K S466_ b308_ = 21 := by rw [gS466_]; exact k312_
  replace k318_ : q_K S466_ b314_ = 21 := by rw [gS466_]; exact k318_
  replace k323_ : q_K S466_ b319_ = 21 := by rw [gS466_]; exact k323_
  replace k329_ : q_K S466_ b325_ = 21 := by rw [gS466_]; exact k329_
  replace k335_ : q_K S466_ b331_ = 21 := by rw [gS466_]; exact k335_
  replace k340_ : q_K S466_ b336_ = 21 := by rw [gS466_]; exact k340_
  replace k346_ : q_K S466_ b342_ = 21 := by rw [gS466_]; exact k346_
  replace k352_ : q_K S466_ b348_ = 21 := by rw [gS466_]; exact k352_
  replace k357_ : q_K S466_ b353_ = 21 := by rw [gS466_]; exact k357_
  replace k363_ : q_K S466_ b359_ = 21 := by rw [gS466_]; exact k363_
  replace k369_ : q_K S466_ b365_ = 21 := by rw [gS466_]; exact k369_
  replace k374_ : q_K S466_ b370_ = 21 := by rw [gS466_]; exact k374_
  replace k380_ : q_K S466_ b376_ = 21 := by rw [gS466_]; exact k380_
  replace k386_ : q_K S466_ b382_ = 21 := by rw [gS466_]; exact k386_
  replace k391_ : q_K S466_ b387_ = 21 := by rw [gS466_]; exact k391_
  replace k397_ : q_K S466_ b393_ = 21 := by rw [gS466_]; exact k397_
  replace k403_ : q_K S466_ b399_ = 22 := by rw [gS466_]; exact k403_
  replace k408_ : q_K S466_ b404_ = 21 := by rw [gS466_]; exact k408_
  replace k414_ : q_K S466_ b410_ = 21 := by rw [gS466_]; exact k414_
  replace k420_ : q_K S466_ b416_ = 22 := by rw [gS466_]; exact k420_
  replace k425_ : q_K S466_ b421_ = 21 := by rw [gS466_]; exact k425_
  replace k431_ : q_K S466_ b427_ = 22 := by rw [gS466_]; exact k431_
  replace k437_ : q_K S466_ b433_ = 21 := by rw [gS466_]; exact k437_
  replace k442_ : q_K S466_ b438_ = 21 := by rw [gS466_]; exact k442_
  replace k448_ : q_K S466_ b444_ = 21 := by rw [gS466_]; exact k448_
  replace k454_ : q_K S466_ b450_ = 21 := by rw [gS466_]; exact k454_
  replace k459_ : q_K S466_ b455_ = 21 := by rw [gS466_]; exact k459_
  replace k465_ : q_K S466_ b461_ = 21 := by rw [gS466_]; exact k465_
  refine lv_aload_n hx hb dX12_init_708 rfl (lv_at hl 0 rfl) ?_
  refine lv_bipush (v := 24) hx hb dX12_init_709 (by decide) ?_
  obtain ⟨w470_, h⟩ := h
  refine q_newa X Y (k := 21) (t := 1) (n := 24) (ty := .int) rfl (by decide) rfl (fun _ _ => rfl) (by first | exact rfl | decide | simp [defaultValue]) ar_int (by decide) (by decide) (by decide) w470_ dX12_init_711 (fun b467_ H h468_ h469_ Y => ?_)
  replace h := h b467_ h468_
  replace hu := w470_
  replace k5_ := qs_R_keep (j := 21) (n := 24) h468_ k5_ (by decide)
  replace k6_ := qs_R_keep (j := 21) (n := 24) h468_ k6_ (by decide)
  replace k11_ := qs_R_keep (j := 21) (n := 24) h468_ k11_ (by decide)
  replace k17_ := qs_R_keep (j := 21) (n := 24) h468_ k17_ (by decide)
  replace k23_ := qs_R_keep (j := 21) (n := 24) h468_ k23_ (by decide)
  replace k29_ := qs_R_keep (j := 21) (n := 24) h468_ k29_ (by decide)
  replace k34_ := qs_R_keep (j := 21) (n := 24) h468_ k34_ (by decide)
  replace k40_ := qs_R_keep (j := 21) (n := 24) h468_ k40_ (by decide)
  replace k46_ := qs_R_keep (j := 21) (n := 24) h468_ k46_ (by decide)
  replace k51_ := qs_R_keep (j := 21) (n := 24) h468_ k51_ (by decide)
  replace k57_ := qs_R_keep (j := 21) (n := 24) h468_ k57_ (by decide)
  replace k63_ := qs_R_keep (j := 21) (n := 24) h468_ k63_ (by decide)
  replace k68_ := qs_R_keep (j := 21) (n := 24) h468_ k68_ (by decide)
  replace k74_ := qs_R_keep (j := 21) (n := 24) h468_ k74_ (by decide)
  replace k80_ := qs_R_keep (j := 21) (n := 24) h468_ k80_ (by decide)
  replace k85_ := qs_R_keep (j := 21) (n := 24) h468_ k85_ (by decide)
  replace k91_ := qs_R_keep (j := 21) (n := 24) h468_ k91_ (by decide)
  replace k97_ := qs_R_keep (j := 21) (n := 24) h468_ k97_ (by decide)
  replace k102_ := qs_R_keep (j := 21) (n := 24) h468_ k102_ (by decide)
  replace k108_ := qs_R_keep (j := 21) (n := 24) h468_ k108_ (by decide)
  replace k114_ := qs_R_keep (j := 21) (n := 24) h468_ k114_ (by decide)
  replace k119_ := qs_R_keep (j := 21) (n := 24) h468_ k119_ (by decide)
  replace k125_ := qs_R_keep (j := 21) (n := 24) h468_ k125_ (by decide)
  replace k131_ := qs_R_keep (j := 21) (n := 24) h468_ k131_ (by decide)
  replace k136_ := qs_R_keep (j := 21) (n := 24) h468_ k136_ (by decide)
  replace k142_ := qs_R_keep (j := 21) (n := 24) h468_ k142_ (by decide)
  replace k148_ := qs_R_keep (j := 21) (n := 24) h468_ k148_ (by decide)
  replace k153_ := qs_R_keep (j := 21) (n := 24) h468_ k153_ (by decide)
  replace k159_ := qs_R_keep (j := 21) (n := 24) h468_ k159_ (by decide)
  replace k165_ := qs_R_keep (j := 21) (n := 24) h468_ k165_ (by decide)
  replace k170_ := qs_R_keep (j := 21) (n := 24) h468_ k170_ (by decide)
  replace k176_ := qs_R_keep (j := 21) (n := 24) h468_ k176_ (by decide)
  replace k182_ := qs_R_keep (j := 21) (n := 24) h468_ k182_ (by decide)
  replace k187_ := qs_R_keep (j := 21) (n := 24) h468_ k187_ (by decide)
  replace k193_ := qs_R_keep (j := 21) (n := 24) h468_ k193_ (by decide)
  replace k199_ := qs_R_keep (j := 21) (n := 24) h468_ k199_ (by decide)
  replace k204_ := qs_R_keep (j := 21) (n := 24) h468_ k204_ (by decide)
  replace k210_ := qs_R_keep (j := 21) (n := 24) h468_ k210_ (by decide)
  replace k216_ := qs_R_keep (j := 21) (n := 24) h468_ k216_ (by decide)
  replace k221_ := qs_R_keep (j := 21) (n := 24) h468_ k221_ (by decide)
  replace k227_ := qs_R_keep (j := 21) (n := 24) h468_ k227_ (by decide)
  replace k233_ := qs_R_keep (j := 21) (n := 24) h468_ k233_ (by decide)
  replace k238_ := qs_R_keep (j := 21) (n := 24) h468_ k238_ (by decide)
  replace k244_ := qs_R_keep (j := 21) (n := 24) h468_ k244_ (by decide)
  replace k250_ := qs_R_keep (j := 21) (n := 24) h468_ k250_ (by decide)
  replace k255_ := qs_R_keep (j := 21) (n := 24) h468_ k255_ (by decide)
  replace k261_ := qs_R_keep (j := 21) (n := 24) h468_ k261_ (by decide)
  replace k267_ := qs_R_keep (j := 21) (n := 24) h468_ k267_ (by decide)
  replace k272_ := qs_R_keep (j := 21) (n := 24) h468_ k272_ (by decide)
  replace k278_ := qs_R_keep (j := 21) (n := 24) h468_ k278_ (by decide)
  replace k284_ := qs_R_keep (j := 21) (n := 24) h468_ k284_ (by decide)
  replace k289_ := qs_R_keep (j := 21) (n := 24) h468_ k289_ (by decide)
  replace k295_ := qs_R_keep (j := 21) (n := 24) h468_ k295_ (by decide)
  replace k301_ := qs_R_keep (j := 21) (n := 24) h468_ k301_ (by decide)
  replace k306_ := qs_R_keep (j := 21) (n := 24) h468_ k306_ (by decide)
  replace k312_ := qs_R_keep (j := 21) (n := 24) h468_ k312_ (by decide)
  replace k318_ := qs_R_keep (j := 21) (n := 24) h468_ k318_ (by decide)
  replace k323_ := qs_R_keep (j := 21) (n := 24) h468_ k323_ (by decide)
  replace k329_ := qs_R_keep (j := 21) (n := 24) h468_ k329_ (by decide)
  replace k335_ := qs_R_keep (j := 21) (n := 24) h468_ k335_ (by decide)
  replace k340_ := qs_R_keep (j := 21) (n := 24) h468_ k340_ (by decide)
  replace k346_ := qs_R_keep (j := 21) (n := 24) h468_ k346_ (by decide)
  replace k352_ := qs_R_keep (j := 21) (n := 24) h468_ k352_ (by decide)
  replace k357_ := qs_R_keep (j := 21) (n := 24) h468_ k357_ (by decide)
  replace k363_ := qs_R_keep (j := 21) (n := 24) h468_ k363_ (by decide)
  replace k369_ := qs_R_keep (j := 21) (n := 24) h468_ k369_ (by decide)
  replace k374_ := qs_R_keep (j := 21) (n := 24) h468_ k374_ (by decide)
  replace k380_ := qs_R_keep (j := 21) (n := 24) h468_ k380_ (by decide)
  replace k386_ := qs_R_keep (j := 21) (n := 24) h468_ k386_ (by decide)
  replace k391_ := qs_R_keep (j := 21) (n := 24) h468_ k391_ (by decide)
  replace k397_ := qs_R_keep (j := 21) (n := 24) h468_ k397_ (by decide)
  replace k403_ := qs_R_keep (j := 21) (n := 24) h468_ k403_ (by decide)
  replace k408_ := qs_R_keep (j := 21) (n := 24) h468_ k408_ (by decide)
  replace k414_ := qs_R_keep (j := 21) (n := 24) h468_ k414_ (by decide)
  replace k420_ := qs_R_keep (j := 21) (n := 24) h468_ k420_ (by decide)
  replace k425_ := qs_R_keep (j := 21) (n := 24) h468_ k425_ (by decide)
  replace k431_ := qs_R_keep (j := 21) (n := 24) h468_ k431_ (by decide)
  replace k437_ := qs_R_keep (j := 21) (n := 24) h468_ k437_ (by decide)
  replace k442_ := qs_R_keep (j := 21) (n := 24) h468_ k442_ (by decide)
  replace k448_ := qs_R_keep (j := 21) (n := 24) h468_ k448_ (by decide)
  replace k454_ := qs_R_keep (j := 21) (n := 24) h468_ k454_ (by decide)
  replace k459_ := qs_R_keep (j := 21) (n := 24) h468_ k459_ (by decide)
  replace k465_ := qs_R_keep (j := 21) (n := 24) h468_ k465_ (by decide)
  have k471_ : q_K (qs_R S466_ 21 24 b467_) b467_ = 21 := qs_R_Ks
  refine q_putP X Y (some b467_) rfl kX12 105 rfl fl_X12_263 k6_ _ rfl (Or.inr ⟨_, rfl⟩) (Or.inr ⟨rfl, hnm, rfl⟩) dX12_init_713 (fun H locs Y => ?_)
  refine lv_aload_n hx hb dX12_init_716 rfl (lv_at hl 0 rfl) ?_
  refine lv_sipush (v := 1440) hx hb dX12_init_717 (by decide) ?_
  obtain ⟨w475_, h⟩ := h
  refine q_newa X Y (k := 21) (t := 1) (n := 1440) (ty := .int) rfl (by decide) rfl (fun _ _ => rfl) (by first | exact rfl | decide | simp [defaultValue]) ar_int (by decide) (by decide) (by decide) w475_ dX12_init_720 (fun b472_ H h473_ h474_ Y => ?_)
  replace h := h b472_ h473_
  replace hu := w475_
  replace k5_ := qs_R_keep (j := 21) (n := 1440) h473_ k5_ (by decide)
  replace k6_ := qs_R_keep (j := 21) (n := 1440) h473_ k6_ (by decide)
  replace k11_ := qs_R_keep (j := 21) (n := 1440) h473_ k11_ (by decide)
  replace k17_ := qs_R_keep (j := 21) (n := 1440) h473_ k17_ (by decide)
  replace k23_ := qs_R_keep (j := 21) (n := 1440) h473_ k23_ (by decide)
  replace k29_ := qs_R_keep (j := 21) (n := 1440) h473_ k29_ (by decide)
  replace k34_ := qs_R_keep (j := 21) (n := 1440) h473_ k34_ (by decide)
  replace k40_ := qs_R_keep (j := 21) (n := 1440) h473_ k40_ (by decide)
  replace k46_ := qs_R_keep (j := 21) (n := 1440) h473_ k46_ (by decide)
  replace k51_ := qs_R_keep (j := 21) (n := 1440) h473_ k51_ (by decide)
  replace k57_ := qs_R_keep (j := 21) (n := 1440) h473_ k57_ (by decide)
  replace k63_ := qs_R_keep (j := 21) (n := 1440) h473_ k63_ (by decide)
  replace k68_ := qs_R_keep (j := 21) (n := 1440) h473_ k68_ (by decide)
  replace k74_ := qs_R_keep (j := 21) (n := 1440) h473_ k74_ (by decide)
  replace k80_ := qs_R_keep (j := 21) (n := 1440) h473_ k80_ (by decide)
  replace k85_ := qs_R_keep (j := 21) (n := 1440) h473_ k85_ (by decide)
  replace k91_ := qs_R_keep (j := 21) (n := 1440) h473_ k91_ (by decide)
  replace k97_ := qs_R_keep (j := 21) (n := 1440) h473_ k97_ (by decide)
  replace k102_ := qs_R_keep (j := 21) (n := 1440) h473_ k102_ (by decide)
  replace k108_ := qs_R_keep (j := 21) (n := 1440) h473_ k108_ (by decide)
  replace k114_ := qs_R_keep (j := 21) (n := 1440) h473_ k114_ (by decide)
  replace k119_ := qs_R_keep (j := 21) (n := 1440) h473_ k119_ (by decide)
  replace k125_ := qs_R_keep (j := 21) (n := 1440) h473_ k125_ (by decide)
  replace k131_ := qs_R_keep (j := 21) (n := 1440) h473_ k131_ (by decide)
  replace k136_ := qs_R_keep (j := 21) (n := 1440) h473_ k136_ (by decide)
  replace k142_ := qs_R_keep (j := 21) (n := 1440) h473_ k142_ (by decide)
  replace k148_ := qs_R_keep (j := 21) (n := 1440) h473_ k148_ (by decide)
  replace k153_ := qs_R_keep (j := 21) (n := 1440) h473_ k153_ (by decide)
  replace k159_ := qs_R_keep (j := 21) (n := 1440) h473_ k159_ (by decide)
  replace k165_ := qs_R_keep (j := 21) (n := 1440) h473_ k165_ (by decide)
  replace k170_ := qs_R_keep (j := 21) (n := 1440) h473_ k170_ (by decide)
  replace k176_ := qs_R_keep (j := 21) (n := 1440) h473_ k176_ (by decide)
  replace k182_ := qs_R_keep (j := 21) (n := 1440) h473_ k182_ (by decide)
  replace k187_ := qs_R_keep (j := 21) (n := 1440) h473_ k187_ (by decide)
  replace k193_ := qs_R_keep (j := 21) (n := 1440) h473_ k193_ (by decide)
  replace k199_ := qs_R_keep (j := 21) (n := 1440) h473_ k199_ (by decide)
  replace k204_ := qs_R_keep (j := 21) (n := 1440) h473_ k204_ (by decide)
  replace k210_ := qs_R_keep (j := 21) (n := 1440) h473_ k210_ (by decide)
  replace k216_ := qs_R_keep (j := 21) (n := 1440) h473_ k216_ (by decide)
  replace k221_ := qs_R_keep (j := 21) (n := 1440) h473_ k221_ (by decide)
  replace k227_ := qs_R_keep (j := 21) (n := 1440) h473_ k227_ (by decide)
  replace k233_ := qs_R_keep (j := 21) (n := 1440) h473_ k233_ (by decide)
  replace k238_ := qs_R_keep (j := 21) (n := 1440) h473_ k238_ (by decide)
  replace k244_ := qs_R_keep (j := 21) (n := 1440) h473_ k244_ (by decide)
  replace k250_ := qs_R_keep (j := 21) (n := 1440) h473_ k250_ (by decide)
  replace k255_ := qs_R_keep (j := 21) (n := 1440) h473_ k255_ (by decide)
  replace k261_ := qs_R_keep (j := 21) (n := 1440) h473_ k261_ (by decide)
  replace k267_ := qs_R_keep (j := 21) (n := 1440) h473_ k267_ (by decide)
  replace k272_ := qs_R_keep (j := 21) (n := 1440) h473_ k272_ (by decide)
  replace k278_ := qs_R_keep (j := 21) (n := 1440) h473_ k278_ (by decide)
  replace k284_ := qs_R_keep (j := 21) (n := 1440) h473_ k284_ (by decide)
  replace k289_ := qs_R_keep (j := 21) (n := 1440) h473_ k289_ (by decide)
  replace k295_ := qs_R_keep (j := 21) (n := 1440) h473_ k295_ (by decide)
  replace k301_ := qs_R_keep (j := 21) (n := 1440) h473_ k301_ (by decide)
  replace k306_ := qs_R_keep (j := 21) (n := 1440) h473_ k306_ (by decide)
  replace k312_ := qs_R_keep (j := 21) (n := 1440) h473_ k312_ (by decide)
  replace k318_ := qs_R_keep (j := 21) (n := 1440) h473_ k318_ (by decide)
  replace k323_ := qs_R_keep (j := 21) (n := 1440) h473_ k323_ (by decide)
  replace k329_ := qs_R_keep (j := 21) (n := 1440) h473_ k329_ (by decide)
  replace k335_ := qs_R_keep (j := 21) (n := 1440) h473_ k335_ (by decide)
  replace k340_ := qs_R_keep (j := 21) (n := 1440) h473_ k340_ (by decide)
  replace k346_ := qs_R_keep (j := 21) (n := 1440) h473_ k346_ (by decide)
  replace k352_ := qs_R_keep (j := 21) (n := 1440) h473_ k352_ (by decide)
  replace k357_ := qs_R_keep (j := 21) (n := 1440) h473_ k357_ (by decide)
  replace k363_ := qs_R_keep (j := 21) (n := 1440) h473_ k363_ (by decide)
  replace k369_ := qs_R_keep (j := 21) (n := 1440) h473_ k369_ (by decide)
  replace k374_ := qs_R_keep (j := 21) (n := 1440) h473_ k374_ (by decide)
  replace k380_ := qs_R_keep (j := 21) (n := 1440) h473_ k380_ (by decide)
  replace k386_ := qs_R_keep (j := 21) (n := 1440) h473_ k386_ (by decide)
  replace k391_ := qs_R_keep (j := 21) (n := 1440) h473_ k391_ (by decide)
  replace k397_ := qs_R_keep (j := 21) (n := 1440) h473_ k397_ (by decide)
  replace k403_ := qs_R_keep (j := 21) (n := 1440) h473_ k403_ (by decide)
  replace k408_ := qs_R_keep (j := 21) (n := 1440) h473_ k408_ (by decide)
  replace k414_ := qs_R_keep (j := 21) (n := 1440) h473_ k414_ (by decide)
  replace k420_ := qs_R_keep (j := 21) (n := 1440) h473_ k420_ (by decide)
  replace k425_ := qs_R_keep (j := 21) (n := 1440) h473_ k425_ (by decide)
  replace k431_ := qs_R_keep (j := 21) (n := 1440) h473_ k431_ (by decide)
  replace k437_ := qs_R_keep (j := 21) (n := 1440) h473_ k437_ (by decide)
  replace k442_ := qs_R_keep (j := 21) (n := 1440) h473_ k442_ (by decide)
  replace k448_ := qs_R_keep (j := 21) (n := 1440) h473_ k448_ (by decide)
  replace k454_ := qs_R_keep (j := 21) (n := 1440) h473_ k454_ (by decide)
  replace k459_ := qs_R_keep (j := 21) (n := 1440) h473_ k459_ (by decide)
  replace k465_ := qs_R_keep (j := 21) (n := 1440) h473_ k465_ (by decide)
  replace k471_ := qs_R_keep (j := 21) (n := 1440) h473_ k471_ (by decide)
  have k476_ : q_K (qs_R (qs_P (qs_R S466_ 21 24 b467_) 2505 a0 (some b467_)) 21 1440 b472_) b472_ = 21 := qs_R_Ks
  obtain ⟨S477_, gS477_⟩ : ∃ z : q_S, z = (qs_R (qs_P (qs_R S466_ 21 24 b467_) 2505 a0 (some b467_)) 21 1440 b472_) := ⟨_, rfl⟩
  replace Y : q_Y D cy lo s S477_ H locs := by rw [gS477_]; exact Y
  replace h := h S477_ gS477_
  replace k5_ : q_K S477_ b1_ = 20 := by rw [gS477_]; exact k5_
  replace k6_ : q_K S477_ a0 = 13 := by rw [gS477_]; exact k6_
  replace k11_ : q_K S477_ b7_ = 20 := by rw [gS477_]; exact k11_
  replace k17_ : q_K S477_ b13_ = 20 := by rw [gS477_]; exact k17_
  replace k23_ : q_K S477_ b19_ = 21 := by rw [gS477_]; exact k23_
  replace k29_ : q_K S477_ b25_ = 21 := by rw [gS477_]; exact k29_
  replace k34_ : q_K S477_ b30_ = 21 := by rw [gS477_]; exact k34_
  replace k40_ : q_K S477_ b36_ = 21 := by rw [gS477_]; exact k40_
  replace k46_ : q_K S477_ b42_ = 21 := by rw [gS477_]; exact k46_
  replace k51_ : q_K S477_ b47_ = 21 := by rw [gS477_]; exact k51_
  replace k57_ : q_K S477_ b53_ = 21 := by rw [gS477_]; exact k57_
  replace k63_ : q_K S477_ b59_ = 21 := by rw [gS477_]; exact k63_
  replace k68_ : q_K S477_ b64_ = 21 := by rw [gS477_]; exact k68_
  replace k74_ : q_K S477_ b70_ = 21 := by rw [gS477_]; exact k74_
  replace k80_ : q_K S477_ b76_ = 21 := by rw [gS477_]; exact k80_
  replace k85_ : q_K S477_ b81_ = 21 := by rw [gS477_]; exact k85_
  replace k91_ : q_K S477_ b87_ = 21 := by rw [gS477_]; exact k91_
  replace k97_ : q_K S477_ b93_ = 21 := by rw [gS477_]; exact k97_
  replace k102_ : q_K S477_ b98_ = 21 := by rw [gS477_]; exact k102_
  replace k108_ : q_K S477_ b104_ = 21 := by rw [gS477_]; exact k108_
  replace k114_ : q_K S477_ b110_ = 21 := by rw [gS477_]; exact k114_
  replace k119_ : q_K S477_ b115_ = 21 := by rw [gS477_]; exact k119_
  replace k125_ : q_K S477_ b121_ = 22 := by rw [gS477_]; exact k125_
  replace k131_ : q_K S477_ b127_ = 21 := by rw [gS477_]; exact k131_
  replace k136_ : q_K S477_ b132_ = 21 := by rw [gS477_]; exact k136_
  replace k142_ : q_K S477_ b138_ = 21 := by rw [gS477_]; exact k142_
  replace k148_ : q_K S477_ b144_ = 22 := by rw [gS477_]; exact k148_
  replace k153_ : q_K S477_ b149_ = 21 := by rw [gS477_]; exact k153_
  replace k159_ : q_K S477_ b155_ = 22 := by rw [gS477_]; exact k159_
  replace k165_ : q_K S477_ b161_ = 22 := by rw [gS477_]; exact k165_
  replace k170_ : q_K S477_ b166_ = 22 := by rw [gS477_]; exact k170_
  replace k176_ : q_K S477_ b172_ = 21 := by rw [gS477_]; exact k176_
  replace k182_ : q_K S477_ b178_ = 22 := by rw [gS477_]; exact k182_
  replace k187_ : q_K S477_ b183_ = 21 := by rw [gS477_]; exact k187_
  replace k193_ : q_K S477_ b189_ = 22 := by rw [gS477_]; exact k193_
  replace k199_ : q_K S477_ b195_ = 21 := by rw [gS477_]; exact k199_
  replace k204_ : q_K S477_ b200_ = 22 := by rw [gS477_]; exact k204_
  replace k210_ : q_K S477_ b206_ = 21 := by rw [gS477_]; exact k210_
  replace k216_ : q_K S477_ b212_ = 21 := by rw [gS477_]; exact k216_
  replace k221_ : q_K S477_ b217_ = 21 := by rw [gS477_]; exact k221_
  replace k227_ : q_K S477_ b223_ = 21 := by rw [gS477_]; exact k227_
  replace k233_ : q_K S477_ b229_ = 21 := by rw [gS477_]; exact k233_
  replace k238_ : q_K S477_ b234_ = 21 := by rw [gS477_]; exact k238_
  replace k244_ : q_K S477_ b240_ = 20 := by rw [gS477_]; exact k244_
  replace k250_ : q_K S477_ b246_ = 20 := by rw [gS477_]; exact k250_
  replace k255_ : q_K S477_ b251_ = 21 := by rw [gS477_]; exact k255_
  replace k261_ : q_K S477_ b257_ = 21 := by rw [gS477_]; exact k261_
  replace k267_ : q_K S477_ b263_ = 21 := by rw [gS477_]; exact k267_
  replace k272_ : q_K S477_ b268_ = 22 := by rw [gS477_]; exact k272_
  replace k278_ : q_K S477_ b274_ = 21 := by rw [gS477_]; exact k278_
  replace k284_ : q_K S477_ b280_ = 21 := by rw [gS477_]; exact k284_
  replace k289_ : q_K S477_ b285_ = 21 := by rw [gS477_]; exact k289_
  replace k295_ : q_K S477_ b291_ = 21 := by rw [gS477_]; exact k295_
  replace k301_ : q_K S477_ b297_ = 22 := by rw [gS477_]; exact k301_
  replace k306_ : q_K S477_ b302_ = 21 := by rw [gS477_]; exact k306_
  replace k312_ : q_K S477_ b308_ = 21 := by rw [gS477_]; exact k312_
  replace k318_ : q_K S477_ b314_ = 21 := by rw [gS477_]; exact k318_
  replace k323_ : q_K S477_ b319_ = 21 := by rw [gS477_]; exact k323_
  replace k329_ : q_K S477_ b325_ = 21 := by rw [gS477_]; exact k329_
  replace k335_ : q_K S477_ b331_ = 21 := by rw [gS477_]; exact k335_
  replace k340_ : q_K S477_ b336_ = 21 := by rw [gS477_]; exact k340_
  replace k346_ : q_K S477_ b342_ = 21 := by rw [gS477_]; exact k346_
  replace k352_ : q_K S477_ b348_ = 21 := by rw [gS477_]; exact k352_
  replace k357_ : q_K S477_ b353_ = 21 := by rw [gS477_]; exact k357_
  replace k363_ : q_K S477_ b359_ = 21 := by rw [gS477_]; exact k363_
  replace k369_ : q_K S477_ b365_ = 21 := by rw [gS477_]; exact k369_
  replace k374_ : q_K S477_ b370_ = 21 := by rw [gS477_]; exact k374_
  replace k380_ : q_K S477_ b376_ = 21 := by rw [gS477_]; exact k380_
  replace k386_ : q_K S477_ b382_ = 21 := by rw [gS477_]; exact k386_
  replace k391_ : q_K S477_ b387_ = 21 := by rw [gS477_]; exact k391_
  replace k397_ : q_K S477_ b393_ = 21 := by rw [gS477_]; exact k397_
  replace k403_ : q_K S477_ b399_ = 22 := by rw [gS477_]; exact k403_
  replace k408_ : q_K S477_ b404_ = 21 := by rw [gS477_]; exact k408_
  replace k414_ : q_K S477_ b410_ = 21 := by rw [gS477_]; exact k414_
  replace k420_ : q_K S477_ b416_ = 22 := by rw [gS477_]; exact k420_
  replace k425_ : q_K S477_ b421_ = 21 := by rw [gS477_]; exact k425_
  replace k431_ : q_K S477_ b427_ = 22 := by rw [gS477_]; exact k431_
  replace k437_ : q_K S477_ b433_ = 21 := by rw [gS477_]; exact k437_
  replace k442_ : q_K S477_ b438_ = 21 := by rw [gS477_]; exact k442_
  replace k448_ : q_K S477_ b444_ = 21 := by rw [gS477_]; exact k448_
  replace k454_ : q_K S477_ b450_ = 21 := by rw [gS477_]; exact k454_
  replace k459_ : q_K S477_ b455_ = 21 := by rw [gS477_]; exact k459_
  replace k465_ : q_K S477_ b461_ = 21 := by rw [gS477_]; exact k465_
  replace k471_ : q_K S477_ b467_ = 21 := by rw [gS477_]; exact k471_
  replace k476_ : q_K S477_ b472_ = 21 := by rw [gS477_]; exact k476_
  refine q_putP X Y (some b472_) rfl kX12 106 rfl fl_X12_266 k6_ _ rfl (Or.inr ⟨_, rfl⟩) (Or.inr ⟨rfl, hnm, rfl⟩) dX12_init_722 (fun H locs Y => ?_)
  refine lv_aload_n hx hb dX12_init_725 rfl (lv_at hl 0 rfl) ?_
  refine lv_sipush (v := 1440) hx hb dX12_init_726 (by decide) ?_
  obtain ⟨w481_, h⟩ := h
  refine q_newa X Y (k := 21) (t := 1) (n := 1440) (ty := .int) rfl (by decide) rfl (fun _ _ => rfl) (by first | exact rfl | decide | simp [defaultValue]) ar_int (by decide) (by decide) (by decide) w481_ dX12_init_729 (fun b478_ H h479_ h480_ Y => ?_)
  replace h := h b478_ h479_
  replace hu := w481_
  replace k5_ := qs_R_keep (j := 21) (n := 1440) h479_ k5_ (by decide)
  replace k6_ := qs_R_keep (j := 21) (n := 1440) h479_ k6_ (by decide)
  replace k11_ := qs_R_keep (j := 21) (n := 1440) h479_ k11_ (by decide)
  replace k17_ := qs_R_keep (j := 21) (n := 1440) h479_ k17_ (by decide)
  replace k23_ := qs_R_keep (j := 21) (n := 1440) h479_ k23_ (by decide)
  replace k29_ := qs_R_keep (j := 21) (n := 1440) h479_ k29_ (by decide)
  replace k34_ := qs_R_keep (j := 21) (n := 1440) h479_ k34_ (by decide)
  replace k40_ := qs_R_keep (j := 21) (n := 1440) h479_ k40_ (by decide)
  replace k46_ := qs_R_keep (j := 21) (n := 1440) h479_ k46_ (by decide)
  replace k51_ := qs_R_keep (j := 21) (n := 1440) h479_ k51_ (by decide)
  replace k57_ := qs_R_keep (j := 21) (n := 1440) h479_ k57_ (by decide)
  replace k63_ := qs_R_keep (j := 21) (n := 1440) h479_ k63_ (by decide)
  replace k68_ := qs_R_keep (j := 21) (n := 1440) h479_ k68_ (by decide)
  replace k74_ := qs_R_keep (j := 21) (n := 1440) h479_ k74_ (by decide)
  replace k80_ := qs_R_keep (j := 21) (n := 1440) h479_ k80_ (by decide)
  replace k85_ := qs_R_keep (j := 21) (n := 1440) h479_ k85_ (by decide)
  replace k91_ := qs_R_keep (j := 21) (n := 1440) h479_ k91_ (by decide)
  replace k97_ := qs_R_keep (j := 21) (n := 1440) h479_ k97_ (by decide)
  replace k102_ := qs_R_keep (j := 21) (n := 1440) h479_ k102_ (by decide)
  replace k108_ := qs_R_keep (j := 21) (n := 1440) h479_ k108_ (by decide)
  replace k114_ := qs_R_keep (j := 21) (n := 1440) h479_ k114_ (by decide)
  replace k119_ := qs_R_keep (j := 21) (n := 1440) h479_ k119_ (by decide)
  replace k125_ := qs_R_keep (j := 21) (n := 1440) h479_ k125_ (by decide)
  replace k131_ := qs_R_keep (j := 21) (n := 1440) h479_ k131_ (by decide)
  replace k136_ := qs_R_keep (j := 21) (n := 1440) h479_ k136_ (by decide)
  replace k142_ := qs_R_keep (j := 21) (n := 1440) h479_ k142_ (by decide)
  replace k148_ := qs_R_keep (j := 21) (n := 1440) h479_ k148_ (by decide)
  replace k153_ := qs_R_keep (j := 21) (n := 1440) h479_ k153_ (by decide)
  replace k159_ := qs_R_keep (j := 21) (n := 1440) h479_ k159_ (by decide)
  replace k165_ := qs_R_keep (j := 21) (n := 1440) h479_ k165_ (by decide)
  replace k170_ := qs_R_keep (j := 21) (n := 1440) h479_ k170_ (by decide)
  replace k176_ := qs_R_keep (j := 21) (n := 1440) h479_ k176_ (by decide)
  replace k182_ := qs_R_keep (j := 21) (n := 1440) h479_ k182_ (by decide)
  replace k187_ := qs_R_keep (j := 21) (n := 1440) h479_ k187_ (by decide)
  replace k193_ := qs_R_keep (j := 21) (n := 1440) h479_ k193_ (by decide)
  replace k199_ := qs_R_keep (j := 21) (n := 1440) h479_ k199_ (by decide)
  replace k204_ := qs_R_keep (j := 21) (n := 1440) h479_ k204_ (by decide)
  replace k210_ := qs_R_keep (j := 21) (n := 1440) h479_ k210_ (by decide)
  replace k216_ := qs_R_keep (j := 21) (n := 1440) h479_ k216_ (by decide)
  replace k221_ := qs_R_keep (j := 21) (n := 1440) h479_ k221_ (by decide)
  replace k227_ := qs_R_keep (j := 21) (n := 1440) h479_ k227_ (by decide)
  replace k233_ := qs_R_keep (j := 21) (n := 1440) h479_ k233_ (by decide)
  replace k238_ := qs_R_keep (j := 21) (n := 1440) h479_ k238_ (by decide)
  replace k244_ := qs_R_keep (j := 21) (n := 1440) h479_ k244_ (by decide)
  replace k250_ := qs_R_keep (j := 21) (n := 1440) h479_ k250_ (by decide)
  replace k255_ := qs_R_keep (j := 21) (n := 1440) h479_ k255_ (by decide)
  replace k261_ := qs_R_keep (j := 21) (n := 1440) h479_ k261_ (by decide)
  replace k267_ := qs_R_keep (j := 21) (n := 1440) h479_ k267_ (by decide)
  replace k272_ := qs_R_keep (j := 21) (n := 1440) h479_ k272_ (by decide)
  replace k278_ := qs_R_keep (j := 21) (n := 1440) h479_ k278_ (by decide)
  replace k284_ := qs_R_keep (j := 21) (n := 1440) h479_ k284_ (by decide)
  replace k289_ := qs_R_keep (j := 21) (n := 1440) h479_ k289_ (by decide)
  replace k295_ := qs_R_keep (j := 21) (n := 1440) h479_ k295_ (by decide)
  replace k301_ := qs_R_keep (j := 21) (n := 1440) h479_ k301_ (by decide)
  replace k306_ := qs_R_keep (j := 21) (n := 1440) h479_ k306_ (by decide)
  replace k312_ := qs_R_keep (j := 21) (n := 1440) h479_ k312_ (by decide)
  replace k318_ := qs_R_keep (j := 21) (n := 1440) h479_ k318_ (by decide)
  replace k323_ := qs_R_keep (j := 21) (n := 1440) h479_ k323_ (by decide)
  replace k329_ := qs_R_keep (j := 21) (n := 1440) h479_ k329_ (by decide)
  replace k335_ := qs_R_keep (j := 21) (n := 1440) h479_ k335_ (by decide)
  replace k340_ := qs_R_keep (j := 21) (n := 1440) h479_ k340_ (by decide)
  replace k346_ := qs_R_keep (j := 21) (n := 1440) h479_ k346_ (by decide)
  replace k352_ := qs_R_keep (j := 21) (n := 1440) h479_ k352_ (by decide)
  replace k357_ := qs_R_keep (j := 21) (n := 1440) h479_ k357_ (by decide)
  replace k363_ := qs_R_keep (j := 21) (n := 1440) h479_ k363_ (by decide)
  replace k369_ := qs_R_keep (j := 21) (n := 1440) h479_ k369_ (by decide)
  replace k374_ := qs_R_keep (j := 21) (n := 1440) h479_ k374_ (by decide)
  replace k380_ := qs_R_keep (j := 21) (n := 1440) h479_ k380_ (by decide)
  replace k386_ := qs_R_keep (j := 21) (n := 1440) h479_ k386_ (by decide)
  replace k391_ := qs_R_keep (j := 21) (n := 1440) h479_ k391_ (by decide)
  replace k397_ := qs_R_keep (j := 21) (n := 1440) h479_ k397_ (by decide)
  replace k403_ := qs_R_keep (j := 21) (n := 1440) h479_ k403_ (by decide)
  replace k408_ := qs_R_keep (j := 21) (n := 1440) h479_ k408_ (by decide)
  replace k414_ := qs_R_keep (j := 21) (n := 1440) h479_ k414_ (by decide)
  replace k420_ := qs_R_keep (j := 21) (n := 1440) h479_ k420_ (by decide)
  replace k425_ := qs_R_keep (j := 21) (n := 1440) h479_ k425_ (by decide)
  replace k431_ := qs_R_keep (j := 21) (n := 1440) h479_ k431_ (by decide)
  replace k437_ := qs_R_keep (j := 21) (n := 1440) h479_ k437_ (by decide)
  replace k442_ := qs_R_keep (j := 21) (n := 1440) h479_ k442_ (by decide)
  replace k448_ := qs_R_keep (j := 21) (n := 1440) h479_ k448_ (by decide)
  replace k454_ := qs_R_keep (j := 21) (n := 1440) h479_ k454_ (by decide)
  replace k459_ := qs_R_keep (j := 21) (n := 1440) h479_ k459_ (by decide)
  replace k465_ := qs_R_keep (j := 21) (n := 1440) h479_ k465_ (by decide)
  replace k471_ := qs_R_keep (j := 21) (n := 1440) h479_ k471_ (by decide)
  replace k476_ := qs_R_keep (j := 21) (n := 1440) h479_ k476_ (by decide)
  have k482_ : q_K (qs_R (qs_P S477_ 2506 a0 (some b472_)) 21 1440 b478_) b478_ = 21 := qs_R_Ks
  refine q_putP X Y (some b478_) rfl kX12 107 rfl fl_X12_269 k6_ _ rfl (Or.inr ⟨_, rfl⟩) (Or.inr ⟨rfl, hnm, rfl⟩) dX12_init_731 (fun H locs Y => ?_)
  obtain ⟨S483_, gS483_⟩ : ∃ z : q_S, z = (qs_P (qs_R (qs_P S477_ 2506 a0 (some b472_)) 21 1440 b478_) 2507 a0 (some b478_)) := ⟨_, rfl⟩
  replace Y : q_Y D cy lo s S483_ H locs := by rw [gS483_]; exact Y
  replace h := h S483_ gS483_
  replace k5_ : q_K S483_ b1_ = 20 := by rw [gS483_]; exact k5_
  replace k6_ : q_K S483_ a0 = 13 := by rw [gS483_]; exact k6_
  replace k11_ : q_K S483_ b7_ = 20 := by rw [gS483_]; exact k11_
  replace k17_ : q_K S483_ b13_ = 20 := by rw [gS483_]; exact k17_
  replace k23_ : q_K S483_ b19_ = 21 := by rw [gS483_]; exact k23_
  replace k29_ : q_K S483_ b25_ = 21 := by rw [gS483_]; exact k29_
  replace k34_ : q_K S483_ b30_ = 21 := by rw [gS483_]; exact k34_
  replace k40_ : q_K S483_ b36_ = 21 := by rw [gS483_]; exact k40_
  replace k46_ : q_K S483_ b42_ = 21 := by rw [gS483_]; exact k46_
  replace k51_ : q_K S483_ b47_ = 21 := by rw [gS483_]; exact k51_
  replace k57_ : q_K S483_ b53_ = 21 := by rw [gS483_]; exact k57_
  replace k63_ : q_K S483_ b59_ = 21 := by rw [gS483_]; exact k63_
  replace k68_ : q_K S483_ b64_ = 21 := by rw [gS483_]; exact k68_
  replace k74_ : q_K S483_ b70_ = 21 := by rw [gS483_]; exact k74_
  replace k80_ : q_K S483_ b76_ = 21 := by rw [gS483_]; exact k80_
  replace k85_ : q_K S483_ b81_ = 21 := by rw [gS483_]; exact k85_
  replace k91_ : q_K S483_ b87_ = 21 := by rw [gS483_]; exact k91_
  replace k97_ : q_K S483_ b93_ = 21 := by rw [gS483_]; exact k97_
  replace k102_ : q_K S483_ b98_ = 21 := by rw [gS483_]; exact k102_
  replace k108_ : q_K S483_ b104_ = 21 := by rw [gS483_]; exact k108_
  replace k114_ : q_K S483_ b110_ = 21 := by rw [gS483_]; exact k114_
  replace k119_ : q_K S483_ b115_ = 21 := by rw [gS483_]; exact k119_
  replace k125_ : q_K S483_ b121_ = 22 := by rw [gS483_]; exact k125_
  replace k131_ : q_K S483_ b127_ = 21 := by rw [gS483_]; exact k131_
  replace k136_ : q_K S483_ b132_ = 21 := by rw [gS483_]; exact k136_
  replace k142_ : q_K S483_ b138_ = 21 := by rw [gS483_]; exact k142_
  replace k148_ : q_K S483_ b144_ = 22 := by rw [gS483_]; exact k148_
  replace k153_ : q_K S483_ b149_ = 21 := by rw [gS483_]; exact k153_
  replace k159_ : q_K S483_ b155_ = 22 := by rw [gS483_]; exact k159_
  replace k165_ : q_K S483_ b161_ = 22 := by rw [gS483_]; exact k165_
  replace k170_ : q_K S483_ b166_ = 22 := by rw [gS483_]; exact k170_
  replace k176_ : q_K S483_ b172_ = 21 := by rw [gS483_]; exact k176_
  replace k182_ : q_K S483_ b178_ = 22 := by rw [gS483_]; exact k182_
  replace k187_ : q_K S483_ b183_ = 21 := by rw [gS483_]; exact k187_
  replace k193_ : q_K S483_ b189_ = 22 := by rw [gS483_]; exact k193_
  replace k199_ : q_K S483_ b195_ = 21 := by rw [gS483_]; exact k199_
  replace k204_ : q_K S483_ b200_ = 22 := by rw [gS483_]; exact k204_
  replace k210_ : q_K S483_ b206_ = 21 := by rw [gS483_]; exact k210_
  replace k216_ : q_K S483_ b212_ = 21 := by rw [gS483_]; exact k216_
  replace k221_ : q_K S483_ b217_ = 21 := by rw [gS483_]; exact k221_
  replace k227_ : q_K S483_ b223_ = 21 := by rw [gS483_]; exact k227_
  replace k233_ : q_K S483_ b229_ = 21 := by rw [gS483_]; exact k233_
  replace k238_ : q_K S483_ b234_ = 21 := by rw [gS483_]; exact k238_
  replace k244_ : q_K S483_ b240_ = 20 := by rw [gS483_]; exact k244_
  replace k250_ : q_K S483_ b246_ = 20 := by rw [gS483_]; exact k250_
  replace k255_ : q_K S483_ b251_ = 21 := by rw [gS483_]; exact k255_
  replace k261_ : q_K S483_ b257_ = 21 := by rw [gS483_]; exact k261_
  replace k267_ : q_K S483_ b263_ = 21 := by rw [gS483_]; exact k267_
  replace k272_ : q_K S483_ b268_ = 22 := by rw [gS483_]; exact k272_
  replace k278_ : q_K S483_ b274_ = 21 := by rw [gS483_]; exact k278_
  replace k284_ : q_K S483_ b280_ = 21 := by rw [gS483_]; exact k284_
  replace k289_ : q_K S483_ b285_ = 21 := by rw [gS483_]; exact k289_
  replace k295_ : q_K S483_ b291_ = 21 := by rw [gS483_]; exact k295_
  replace k301_ : q_K S483_ b297_ = 22 := by rw [gS483_]; exact k301_
  replace k306_ : q_K S483_ b302_ = 21 := by rw [gS483_]; exact k306_
  replace k312_ : q_K S483_ b308_ = 21 := by rw [gS483_]; exact k312_
  replace k318_ : q_K S483_ b314_ = 21 := by rw [gS483_]; exact k318_
  replace k323_ : q_K S483_ b319_ = 21 := by rw [gS483_]; exact k323_
  replace k329_ : q_K S483_ b325_ = 21 := by rw [gS483_]; exact k329_
  replace k335_ : q_K S483_ b331_ = 21 := by rw [gS483_]; exact k335_
  replace k340_ : q_K S483_ b336_ = 21 := by rw [gS483_]; exact k340_
  replace k346_ : q_K S483_ b342_ = 21 := by rw [gS483_]; exact k346_
  replace k352_ : q_K S483_ b348_ = 21 := by rw [gS483_]; exact k352_
  replace k357_ : q_K S483_ b353_ = 21 := by rw [gS483_]; exact k357_
  replace k363_ : q_K S483_ b359_ = 21 := by rw [gS483_]; exact k363_
  replace k369_ : q_K S483_ b365_ = 21 := by rw [gS483_]; exact k369_
  replace k374_ : q_K S483_ b370_ = 21 := by rw [gS483_]; exact k374_
  replace k380_ : q_K S483_ b376_ = 21 := by rw [gS483_]; exact k380_
  replace k386_ : q_K S483_ b382_ = 21 := by rw [gS483_]; exact k386_
  replace k391_ : q_K S483_ b387_ = 21 := by rw [gS483_]; exact k391_
  replace k397_ : q_K S483_ b393_ = 21 := by rw [gS483_]; exact k397_
  replace k403_ : q_K S483_ b399_ = 22 := by rw [gS483_]; exact k403_
  replace k408_ : q_K S483_ b404_ = 21 := by rw [gS483_]; exact k408_
  replace k414_ : q_K S483_ b410_ = 21 := by rw [gS483_]; exact k414_
  replace k420_ : q_K S483_ b416_ = 22 := by rw [gS483_]; exact k420_
  replace k425_ : q_K S483_ b421_ = 21 := by rw [gS483_]; exact k425_
  replace k431_ : q_K S483_ b427_ = 22 := by rw [gS483_]; exact k431_
  replace k437_ : q_K S483_ b433_ = 21 := by rw [gS483_]; exact k437_
  replace k442_ : q_K S483_ b438_ = 21 := by rw [gS483_]; exact k442_
  replace k448_ : q_K S483_ b444_ = 21 := by rw [gS483_]; exact k448_
  replace k454_ : q_K S483_ b450_ = 21 := by rw [gS483_]; exact k454_
  replace k459_ : q_K S483_ b455_ = 21 := by rw [gS483_]; exact k459_
  replace k465_ : q_K S483_ b461_ = 21 := by rw [gS483_]; exact k465_
  replace k471_ : q_K S483_ b467_ = 21 := by rw [gS483_]; exact k471_
  replace k476_ : q_K S483_ b472_ = 21 := by rw [gS483_]; exact k476_
  replace k482_ : q_K S483_ b478_ = 21 := by rw [gS483_]; exact k482_
  refine lv_aload_n hx hb dX12_init_734 rfl (lv_at hl 0 rfl) ?_
  refine lv_sipush (v := 900) hx hb dX12_init_735 (by decide) ?_
  obtain ⟨w487_, h⟩ := h
  refine q_newa X Y (k := 21) (t := 1) (n := 900) (ty := .int) rfl (by decide) rfl (fun _ _ => rfl) (by first | exact rfl | decide | simp [defaultValue]) ar_int (by decide) (by decide) (by decide) w487_ dX12_init_738 (fun b484_ H h485_ h486_ Y => ?_)
  replace h := h b484_ h485_
  replace hu := w487_
  replace k5_ := qs_R_keep (j := 21) (n := 900) h485_ k5_ (by decide)
  replace k6_ := qs_R_keep (j := 21) (n := 900) h485_ k6_ (by decide)
  replace k11_ := qs_R_keep (j := 21) (n := 900) h485_ k11_ (by decide)
  replace k17_ := qs_R_keep (j := 21) (n := 900) h485_ k17_ (by decide)
  replace k23_ := qs_R_keep (j := 21) (n := 900) h485_ k23_ (by decide)
  replace k29_ := qs_R_keep (j := 21) (n := 900) h485_ k29_ (by decide)
  replace k34_ := qs_R_keep (j := 21) (n := 900) h485_ k34_ (by decide)
  replace k40_ := qs_R_keep (j := 21) (n := 900) h485_ k40_ (by decide)
  replace k46_ := qs_R_keep (j := 21) (n := 900) h485_ k46_ (by decide)
  replace k51_ := qs_R_keep (j := 21) (n := 900) h485_ k51_ (by decide)
  replace k57_ := qs_R_keep (j := 21) (n := 900) h485_ k57_ (by decide)
  replace k63_ := qs_R_keep (j := 21) (n := 900) h485_ k63_ (by decide)
  replace k68_ := qs_R_keep (j := 21) (n := 900) h485_ k68_ (by decide)
  replace k74_ := qs_R_keep (j := 21) (n := 900) h485_ k74_ (by decide)
  replace k80_ := qs_R_keep (j := 21) (n := 900) h485_ k80_ (by decide)
  replace k85_ := qs_R_keep (j := 21) (n := 900) h485_ k85_ (by decide)
  replace k91_ := qs_R_keep (j := 21) (n := 900) h485_ k91_ (by decide)
  replace k97_ := qs_R_keep (j := 21) (n := 900) h485_ k97_ (by decide)
  replace k102_ := qs_R_keep (j := 21) (n := 900) h485_ k102_ (by decide)
  replace k108_ := qs_R_keep (j := 21) (n := 900) h485_ k108_ (by decide)
  replace k114_ := qs_R_keep (j := 21) (n := 900) h485_ k114_ (by decide)
  replace k119_ := qs_R_keep (j := 21) (n := 900) h485_ k119_ (by decide)
  replace k125_ := qs_R_keep (j := 21) (n := 900) h485_ k125_ (by decide)
  replace k131_ := qs_R_keep (j := 21) (n := 900) h485_ k131_ (by decide)
  replace k136_ := qs_R_keep (j := 21) (n := 900) h485_ k136_ (by decide)
  replace k142_ := qs_R_keep (j := 21) (n := 900) h485_ k142_ (by decide)
  replace k148_ := qs_R_keep (j := 21) (n := 900) h485_ k148_ (by decide)
  replace k153_ := qs_R_keep (j := 21) (n := 900) h485_ k153_ (by decide)
  replace k159_ := qs_R_keep (j := 21) (n := 900) h485_ k159_ (by decide)
  replace k165_ := qs_R_keep (j := 21) (n := 900) h485_ k165_ (by decide)
  replace k170_ := qs_R_keep (j := 21) (n := 900) h485_ k170_ (by decide)
  replace k176_ := qs_R_keep (j := 21) (n := 900) h485_ k176_ (by decide)
  replace k182_ := qs_R_keep (j := 21) (n := 900) h485_ k182_ (by decide)
  replace k187_ := qs_R_keep (j := 21) (n := 900) h485_ k187_ (by decide)
  replace k193_ := qs_R_keep (j := 21) (n := 900) h485_ k193_ (by decide)
  replace k199_ := qs_R_keep (j := 21) (n := 900) h485_ k199_ (by decide)
  replace k204_ := qs_R_keep (j := 21) (n := 900) h485_ k204_ (by decide)
  replace k210_ := qs_R_keep (j := 21) (n := 900) h485_ k210_ (by decide)
  replace k216_ := qs_R_keep (j := 21) (n := 900) h485_ k216_ (by decide)
  replace k221_ := qs_R_keep (j := 21) (n := 900) h485_ k221_ (by decide)
  replace k227_ := qs_R_keep (j := 21) (n := 900) h485_ k227_ (by decide)
  replace k233_ := qs_R_keep (j := 21) (n := 900) h485_ k233_ (by decide)
  replace k238_ := qs_R_keep (j := 21) (n := 900) h485_ k238_ (by decide)
  replace k244_ := qs_R_keep (j := 21) (n := 900) h485_ k244_ (by decide)
  replace k250_ := qs_R_keep (j := 21) (n := 900) h485_ k250_ (by decide)
  replace k255_ := qs_R_keep (j := 21) (n := 900) h485_ k255_ (by decide)
  replace k261_ := qs_R_keep (j := 21) (n := 900) h485_ k261_ (by decide)
  replace k267_ := qs_R_keep (j := 21) (n := 900) h485_ k267_ (by decide)
  replace k272_ := qs_R_keep (j := 21) (n := 900) h485_ k272_ (by decide)
  replace k278_ := qs_R_keep (j := 21) (n := 900) h485_ k278_ (by decide)
  replace k284_ := qs_R_keep (j := 21) (n := 900) h485_ k284_ (by decide)
  replace k289_ := qs_R_keep (j := 21) (n := 900) h485_ k289_ (by decide)
  replace k295_ := qs_R_keep (j := 21) (n := 900) h485_ k295_ (by decide)
  replace k301_ := qs_R_keep (j := 21) (n := 900) h485_ k301_ (by decide)
  replace k306_ := qs_R_keep (j := 21) (n := 900) h485_ k306_ (by decide)
  replace k312_ := qs_R_keep (j := 21) (n := 900) h485_ k312_ (by decide)
  replace k318_ := qs_R_keep (j := 21) (n := 900) h485_ k318_ (by decide)
  replace k323_ := qs_R_keep (j := 21) (n := 900) h485_ k323_ (by decide)
  replace k329_ := qs_R_keep (j := 21) (n := 900) h485_ k329_ (by decide)
  replace k335_ := qs_R_keep (j := 21) (n := 900) h485_ k335_ (by decide)
  replace k340_ := qs_R_keep (j := 21) (n := 900) h485_ k340_ (by decide)
  replace k346_ := qs_R_keep (j := 21) (n := 900) h485_ k346_ (by decide)
  replace k352_ := qs_R_keep (j := 21) (n := 900) h485_ k352_ (by decide)
  replace k357_ := qs_R_keep (j := 21) (n := 900) h485_ k357_ (by decide)
  replace k363_ := qs_R_keep (j := 21) (n := 900) h485_ k363_ (by decide)
  replace k369_ := qs_R_keep (j := 21) (n := 900) h485_ k369_ (by decide)
  replace k374_ := qs_R_keep (j := 21) (n := 900) h485_ k374_ (by decide)
  replace k380_ := qs_R_keep (j := 21) (n := 900) h485_ k380_ (by decide)
  replace k386_ := qs_R_keep (j := 21) (n := 900) h485_ k386_ (by decide)
  replace k391_ := qs_R_keep (j := 21) (n := 900) h485_ k391_ (by decide)
  replace k397_ := qs_R_keep (j := 21) (n := 900) h485_ k397_ (by decide)
  replace k403_ := qs_R_keep (j := 21) (n := 900) h485_ k403_ (by decide)
  replace k408_ := qs_R_keep (j := 21) (n := 900) h485_ k408_ (by decide)
  replace k414_ := qs_R_keep (j := 21) (n := 900) h485_ k414_ (by decide)
  replace k420_ := qs_R_keep (j := 21) (n := 900) h485_ k420_ (by decide)
  replace k425_ := qs_R_keep (j := 21) (n := 900) h485_ k425_ (by decide)
  replace k431_ := qs_R_keep (j := 21) (n := 900) h485_ k431_ (by decide)
  replace k437_ := qs_R_keep (j := 21) (n := 900) h485_ k437_ (by decide)
  replace k442_ := qs_R_keep (j := 21) (n := 900) h485_ k442_ (by decide)
  replace k448_ := qs_R_keep (j := 21) (n := 900) h485_ k448_ (by decide)
  replace k454_ := qs_R_keep (j := 21) (n := 900) h485_ k454_ (by decide)
  replace k459_ := qs_R_keep (j := 21) (n := 900) h485_ k459_ (by decide)
  replace k465_ := qs_R_keep (j := 21) (n := 900) h485_ k465_ (by decide)
  replace k471_ := qs_R_keep (j := 21) (n := 900) h485_ k471_ (by decide)
  replace k476_ := qs_R_keep (j := 21) (n := 900) h485_ k476_ (by decide)
  replace k482_ := qs_R_keep (j := 21) (n := 900) h485_ k482_ (by decide)
  have k488_ : q_K (qs_R S483_ 21 900 b484_) b484_ = 21 := qs_R_Ks
  refine q_putP X Y (some b484_) rfl kX12 111 rfl fl_X12_272 k6_ _ rfl (Or.inr ⟨_, rfl⟩) (Or.inr ⟨rfl, hnm, rfl⟩) dX12_init_740 (fun H locs Y => ?_)
  refine lv_aload_n hx hb dX12_init_743 rfl (lv_at hl 0 rfl) ?_
  refine lv_sipush (v := 384) hx hb dX12_init_744 (by decide) ?_
  obtain ⟨w492_, h⟩ := h
  refine q_newa X Y (k := 21) (t := 1) (n := 384) (ty := .int) rfl (by decide) rfl (fun _ _ => rfl) (by first | exact rfl | decide | simp [defaultValue]) ar_int (by decide) (by decide) (by decide) w492_ dX12_init_747 (fun b489_ H h490_ h491_ Y => ?_)
  replace h := h b489_ h490_
  replace hu := w492_
  replace k5_ := qs_R_keep (j := 21) (n := 384) h490_ k5_ (by decide)
  replace k6_ := qs_R_keep (j := 21) (n := 384) h490_ k6_ (by decide)
  replace k11_ := qs_R_keep (j := 21) (n := 384) h490_ k11_ (by decide)
  replace k17_ := qs_R_keep (j := 21) (n := 384) h490_ k17_ (by decide)
  replace k23_ := qs_R_keep (j := 21) (n := 384) h490_ k23_ (by decide)
  replace k29_ := qs_R_keep (j := 21) (n := 384) h490_ k29_ (by decide)
  replace k34_ := qs_R_keep (j := 21) (n := 384) h490_ k34_ (by decide)
  replace k40_ := qs_R_keep (j := 21) (n := 384) h490_ k40_ (by decide)
  replace k46_ := qs_R_keep (j := 21) (n := 384) h490_ k46_ (by decide)
  replace k51_ := qs_R_keep (j := 21) (n := 384) h490_ k51_ (by decide)
  replace k57_ := qs_R_keep (j := 21) (n := 384) h490_ k57_ (by decide)
  replace k63_ := qs_R_keep (j := 21) (n := 384) h490_ k63_ (by decide)
  replace k68_ := qs_R_keep (j := 21) (n := 384) h490_ k68_ (by decide)
  replace k74_ := qs_R_keep (j := 21) (n := 384) h490_ k74_ (by decide)
  replace k80_ := qs_R_keep (j := 21) (n := 384) h490_ k80_ (by decide)
  replace k85_ := qs_R_keep (j := 21) (n := 384) h490_ k85_ (by decide)
  replace k91_ := qs_R_keep (j := 21) (n := 384) h490_ k91_ (by decide)
  replace k97_ := qs_R_keep (j := 21) (n := 384) h490_ k97_ (by decide)
  replace k102_ := qs_R_keep (j := 21) (n := 384) h490_ k102_ (by decide)
  replace k108_ := qs_R_keep (j := 21) (n := 384) h490_ k108_ (by decide)
  replace k114_ := qs_R_keep (j := 21) (n := 384) h490_ k114_ (by decide)
  replace k119_ := qs_R_keep (j := 21) (n := 384) h490_ k119_ (by decide)
  replace k125_ := qs_R_keep (j := 21) (n := 384) h490_ k125_ (by decide)
  replace k131_ := qs_R_keep (j := 21) (n := 384) h490_ k131_ (by decide)
  replace k136_ := qs_R_keep (j := 21) (n := 384) h490_ k136_ (by decide)
  replace k142_ := qs_R_keep (j := 21) (n := 384) h490_ k142_ (by decide)
  replace k148_ := qs_R_keep (j := 21) (n := 384) h490_ k148_ (by decide)
  replace k153_ := qs_R_keep (j := 21) (n := 384) h490_ k153_ (by decide)
  replace k159_ := qs_R_keep (j := 21) (n := 384) h490_ k159_ (by decide)
  replace k165_ := qs_R_keep (j := 21) (n := 384) h490_ k165_ (by decide)
  replace k170_ := qs_R_keep (j := 21) (n := 384) h490_ k170_ (by decide)
  replace k176_ := qs_R_keep (j := 21) (n := 384) h490_ k176_ (by decide)
  replace k182_ := qs_R_keep (j := 21) (n := 384) h490_ k182_ (by decide)
  replace k187_ := qs_R_keep (j := 21) (n := 384) h490_ k187_ (by decide)
  replace k193_ := qs_R_keep (j := 21) (n := 384) h490_ k193_ (by decide)
  replace k199_ := qs_R_keep (j := 21) (n := 384) h490_ k199_ (by decide)
  replace k204_ := qs_R_keep (j := 21) (n := 384) h490_ k204_ (by decide)
  replace k210_ := qs_R_keep (j := 21) (n := 384) h490_ k210_ (by decide)
  replace k216_ := qs_R_keep (j := 21) (n := 384) h490_ k216_ (by decide)
  replace k221_ := qs_R_keep (j := 21) (n := 384) h490_ k221_ (by decide)
  replace k227_ := qs_R_keep (j := 21) (n := 384) h490_ k227_ (by decide)
  replace k233_ := qs_R_keep (j := 21) (n := 384) h490_ k233_ (by decide)
  replace k238_ := qs_R_keep (j := 21) (n := 384) h490_ k238_ (by decide)
  replace k244_ := qs_R_keep (j := 21) (n := 384) h490_ k244_ (by decide)
  replace k250_ := qs_R_keep (j := 21) (n := 384) h490_ k250_ (by decide)
  replace k255_ := qs_R_keep (j := 21) (n := 384) h490_ k255_ (by decide)
  replace k261_ := qs_R_keep (j := 21) (n := 384) h490_ k261_ (by decide)
  replace k267_ := qs_R_keep (j := 21) (n := 384) h490_ k267_ (by decide)
  replace k272_ := qs_R_keep (j := 21) (n := 384) h490_ k272_ (by decide)
  replace k278_ := qs_R_keep (j := 21) (n := 384) h490_ k278_ (by decide)
  replace k284_ := qs_R_keep (j := 21) (n := 384) h490_ k284_ (by decide)
  replace k289_ := qs_R_keep (j := 21) (n := 384) h490_ k289_ (by decide)
  replace k295_ := qs_R_keep (j := 21) (n := 384) h490_ k295_ (by decide)
  replace k301_ := qs_R_keep (j := 21) (n := 384) h490_ k301_ (by decide)
  replace k306_ := qs_R_keep (j := 21) (n := 384) h490_ k306_ (by decide)
  replace k312_ := qs_R_keep (j := 21) (n := 384) h490_ k312_ (by decide)
  replace k318_ := qs_R_keep (j := 21) (n := 384) h490_ k318_ (by decide)
  replace k323_ := qs_R_keep (j := 21) (n := 384) h490_ k323_ (by decide)
  replace k329_ := qs_R_keep (j := 21) (n := 384) h490_ k329_ (by decide)
  replace k335_ := qs_R_keep (j := 21) (n := 384) h490_ k335_ (by decide)
  replace k340_ := qs_R_keep (j := 21) (n := 384) h490_ k340_ (by decide)
  replace k346_ := qs_R_keep (j := 21) (n := 384) h490_ k346_ (by decide)
  replace k352_ := qs_R_keep (j := 21) (n := 384) h490_ k352_ (by decide)
  replace k357_ := qs_R_keep (j := 21) (n := 384) h490_ k357_ (by decide)
  replace k363_ := qs_R_keep (j := 21) (n := 384) h490_ k363_ (by decide)
  replace k369_ := qs_R_keep (j := 21) (n := 384) h490_ k369_ (by decide)
  replace k374_ := qs_R_keep (j := 21) (n := 384) h490_ k374_ (by decide)
  replace k380_ := qs_R_keep (j := 21) (n := 384) h490_ k380_ (by decide)
  replace k386_ := qs_R_keep (j := 21) (n := 384) h490_ k386_ (by decide)
  replace k391_ := qs_R_keep (j := 21) (n := 384) h490_ k391_ (by decide)
  replace k397_ := qs_R_keep (j := 21) (n := 384) h490_ k397_ (by decide)
  replace k403_ := qs_R_keep (j := 21) (n := 384) h490_ k403_ (by decide)
  replace k408_ := qs_R_keep (j := 21) (n := 384) h490_ k408_ (by decide)
  replace k414_ := qs_R_keep (j := 21) (n := 384) h490_ k414_ (by decide)
  replace k420_ := qs_R_keep (j := 21) (n := 384) h490_ k420_ (by decide)
  replace k425_ := qs_R_keep (j := 21) (n := 384) h490_ k425_ (by decide)
  replace k431_ := qs_R_keep (j := 21) (n := 384) h490_ k431_ (by decide)
  replace k437_ := qs_R_keep (j := 21) (n := 384) h490_ k437_ (by decide)
  replace k442_ := qs_R_keep (j := 21) (n := 384) h490_ k442_ (by decide)
  replace k448_ := qs_R_keep (j := 21) (n := 384) h490_ k448_ (by decide)
  replace k454_ := qs_R_keep (j := 21) (n := 384) h490_ k454_ (by decide)
  replace k459_ := qs_R_keep (j := 21) (n := 384) h490_ k459_ (by decide)
  replace k465_ := qs_R_keep (j := 21) (n := 384) h490_ k465_ (by decide)
  replace k471_ := qs_R_keep (j := 21) (n := 384) h490_ k471_ (by decide)
  replace k476_ := qs_R_keep (j := 21) (n := 384) h490_ k476_ (by decide)
  replace k482_ := qs_R_keep (j := 21) (n := 384) h490_ k482_ (by decide)
  replace k488_ := qs_R_keep (j := 21) (n := 384) h490_ k488_ (by decide)
  have k493_ : q_K (qs_R (qs_P (qs_R S483_ 21 900 b484_) 2511 a0 (some b484_)) 21 384 b489_) b489_ = 21 := qs_R_Ks
  obtain ⟨S494_, gS494_⟩ : ∃ z : q_S, z = (qs_R (qs_P (qs_R S483_ 21 900 b484_) 2511 a0 (some b484_)) 21 384 b489_) := ⟨_, rfl⟩
  replace Y : q_Y D cy lo s S494_ H locs := by rw [gS494_]; exact Y
  replace h := h S494_ gS494_
  replace k5_ : q_K S494_ b1_ = 20 := by rw [gS494_]; exact k5_
  replace k6_ : q_K S494_ a0 = 13 := by rw [gS494_]; exact k6_
  replace k11_ : q_K S494_ b7_ = 20 := by rw [gS494_]; exact k11_
  replace k17_ : q_K S494_ b13_ = 20 := by rw [gS494_]; exact k17_
  replace k23_ : q_K S494_ b19_ = 21 := by rw [gS494_]; exact k23_
  replace k29_ : q_K S494_ b25_ = 21 := by rw [gS494_]; exact k29_
  replace k34_ : q_K S494_ b30_ = 21 := by rw [gS494_]; exact k34_
  replace k40_ : q_K S494_ b36_ = 21 := by rw [gS494_]; exact k40_
  replace k46_ : q_K S494_ b42_ = 21 := by rw [gS494_]; exact k46_
  replace k51_ : q_K S494_ b47_ = 21 := by rw [gS494_]; exact k51_
  replace k57_ : q_K S494_ b53_ = 21 := by rw [gS494_]; exact k57_
  replace k63_ : q_K S494_ b59_ = 21 := by rw [gS494_]; exact k63_
  replace k68_ : q_K S494_ b64_ = 21 := by rw [gS494_]; exact k68_
  replace k74_ : q_K S494_ b70_ = 21 := by rw [gS494_]; exact k74_
  replace k80_ : q_K S494_ b76_ = 21 := by rw [gS494_]; exact k80_
  replace k85_ : q_K S494_ b81_ = 21 := by rw [gS494_]; exact k85_
  replace k91_ : q_K S494_ b87_ = 21 := by rw [gS494_]; exact k91_
  replace k97_ : q_K S494_ b93_ = 21 := by rw [gS494_]; exact k97_
  replace k102_ : q_K S494_ b98_ = 21 := by rw [gS494_]; exact k102_
  replace k108_ : q_K S494_ b104_ = 21 := by rw [gS494_]; exact k108_
  replace k114_ : q_K S494_ b110_ = 21 := by rw [gS494_]; exact k114_
  replace k119_ : q_K S494_ b115_ = 21 := by rw [gS494_]; exact k119_
  replace k125_ : q_K S494_ b121_ = 22 := by rw [gS494_]; exact k125_
  replace k131_ : q_K S494_ b127_ = 21 := by rw [gS494_]; exact k131_
  replace k136_ : q_K S494_ b132_ = 21 := by rw [gS494_]; exact k136_
  replace k142_ : q_K S494_ b138_ = 21 := by rw [gS494_]; exact k142_
  replace k148_ : q_K S494_ b144_ = 22 := by rw [gS494_]; exact k148_
  replace k153_ : q_K S494_ b149_ = 21 := by rw [gS494_]; exact k153_
  replace k159_ : q_K S494_ b155_ = 22 := by rw [gS494_]; exact k159_
  replace k165_ : q_K S494_ b161_ = 22 := by rw [gS494_]; exact k165_
  replace k170_ : q_K S494_ b166_ = 22 := by rw [gS494_]; exact k170_
  replace k176_ : q_K S494_ b172_ = 21 := by rw [gS494_]; exact k176_
  replace k182_ : q_K S494_ b178_ = 22 := by rw [gS494_]; exact k182_
  replace k187_ : q_K S494_ b183_ = 21 := by rw [gS494_]; exact k187_
  replace k193_ : q_K S494_ b189_ = 22 := by rw [gS494_]; exact k193_
  replace k199_ : q_K S494_ b195_ = 21 := by rw [gS494_]; exact k199_
  replace k204_ : q_K S494_ b200_ = 22 := by rw [gS494_]; exact k204_
  replace k210_ : q_K S494_ b206_ = 21 := by rw [gS494_]; exact k210_
  replace k216_ : q_K S494_ b212_ = 21 := by rw [gS494_]; exact k216_
  replace k221_ : q_K S494_ b217_ = 21 := by rw [gS494_]; exact k221_
  replace k227_ : q_K S494_ b223_ = 21 := by rw [gS494_]; exact k227_
  replace k233_ : q_K S494_ b229_ = 21 := by rw [gS494_]; exact k233_
  replace k238_ : q_K S494_ b234_ = 21 := by rw [gS494_]; exact k238_
  replace k244_ : q_K S494_ b240_ = 20 := by rw [gS494_]; exact k244_
  replace k250_ : q_K S494_ b246_ = 20 := by rw [gS494_]; exact k250_
  replace k255_ : q_K S494_ b251_ = 21 := by rw [gS494_]; exact k255_
  replace k261_ : q_K S494_ b257_ = 21 := by rw [gS494_]; exact k261_
  replace k267_ : q_K S494_ b263_ = 21 := by rw [gS494_]; exact k267_
  replace k272_ : q_K S494_ b268_ = 22 := by rw [gS494_]; exact k272_
  replace k278_ : q_K S494_ b274_ = 21 := by rw [gS494_]; exact k278_
  replace k284_ : q_K S494_ b280_ = 21 := by rw [gS494_]; exact k284_
  replace k289_ : q_K S494_ b285_ = 21 := by rw [gS494_]; exact k289_
  replace k295_ : q_K S494_ b291_ = 21 := by rw [gS494_]; exact k295_
  replace k301_ : q_K S494_ b297_ = 22 := by rw [gS494_]; exact k301_
  replace k306_ : q_K S494_ b302_ = 21 := by rw [gS494_]; exact k306_
  replace k312_ : q_K S494_ b308_ = 21 := by rw [gS494_]; exact k312_
  replace k318_ : q_K S494_ b314_ = 21 := by rw [gS494_]; exact k318_
  replace k323_ : q_K S494_ b319_ = 21 := by rw [gS494_]; exact k323_
  replace k329_ : q_K S494_ b325_ = 21 := by rw [gS494_]; exact k329_
  replace k335_ : q_K S494_ b331_ = 21 := by rw [gS494_]; exact k335_
  replace k340_ : q_K S494_ b336_ = 21 := by rw [gS494_]; exact k340_
  replace k346_ : q_K S494_ b342_ = 21 := by rw [gS494_]; exact k346_
  replace k352_ : q_K S494_ b348_ = 21 := by rw [gS494_]; exact k352_
  replace k357_ : q_K S494_ b353_ = 21 := by rw [gS494_]; exact k357_
  replace k363_ : q_K S494_ b359_ = 21 := by rw [gS494_]; exact k363_
  replace k369_ : q_K S494_ b365_ = 21 := by rw [gS494_]; exact k369_
  replace k374_ : q_K S494_ b370_ = 21 := by rw [gS494_]; exact k374_
  replace k380_ : q_K S494_ b376_ = 21 := by rw [gS494_]; exact k380_
  replace k386_ : q_K S494_ b382_ = 21 := by rw [gS494_]; exact k386_
  replace k391_ : q_K S494_ b387_ = 21 := by rw [gS494_]; exact k391_
  replace k397_ : q_K S494_ b393_ = 21 := by rw [gS494_]; exact k397_
  replace k403_ : q_K S494_ b399_ = 22 := by rw [gS494_]; exact k403_
  replace k408_ : q_K S494_ b404_ = 21 := by rw [gS494_]; exact k408_
  replace k414_ : q_K S494_ b410_ = 21 := by rw [gS494_]; exact k414_
  replace k420_ : q_K S494_ b416_ = 22 := by rw [gS494_]; exact k420_
  replace k425_ : q_K S494_ b421_ = 21 := by rw [gS494_]; exact k425_
  replace k431_ : q_K S494_ b427_ = 22 := by rw [gS494_]; exact k431_
  replace k437_ : q_K S494_ b433_ = 21 := by rw [gS494_]; exact k437_
  replace k442_ : q_K S494_ b438_ = 21 := by rw [gS494_]; exact k442_
  replace k448_ : q_K S494_ b444_ = 21 := by rw [gS494_]; exact k448_
  replace k454_ : q_K S494_ b450_ = 21 := by rw [gS494_]; exact k454_
  replace k459_ : q_K S494_ b455_ = 21 := by rw [gS494_]; exact k459_
  replace k465_ : q_K S494_ b461_ = 21 := by rw [gS494_]; exact k465_
  replace k471_ : q_K S494_ b467_ = 21 := by rw [gS494_]; exact k471_
  replace k476_ : q_K S494_ b472_ = 21 := by rw [gS494_]; exact k476_
  replace k482_ : q_K S494_ b478_ = 21 := by rw [gS494_]; exact k482_
  replace k488_ : q_K S494_ b484_ = 21 := by rw [gS494_]; exact k488_
  replace k493_ : q_K S494_ b489_ = 21 := by rw [gS494_]; exact k493_
  refine q_putP X Y (some b489_) rfl kX12 112 rfl fl_X12_275 k6_ _ rfl (Or.inr ⟨_, rfl⟩) (Or.inr ⟨rfl, hnm, rfl⟩) dX12_init_749 (fun H locs Y => ?_)
  exact q_vret X Y hu.1 hu.2 h dX12_init_752
