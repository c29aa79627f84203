-- X3_fetch
theorem ml_X3_30 : Cond.methodLink RX3 30 yX3_finish ∈ q_G := q_tb (i := 1460) (by decide +kernel) (by decide +kernel)
theorem mt_X3_finish : q_Mt yX3_finish cX3_finish 6 (some .int) 4 := ⟨q_tb (i := 1463) (by decide +kernel) (by decide +kernel), q_tb (i := 9) (by decide +kernel) (by decide +kernel), by decide +kernel, by decide +kernel, by decide +kernel⟩
theorem mi_X3_finish : Cond.instanceMethod yX3_finish ∈ q_G ∧ Cond.selects yX3_finish.cls yX3_finish yX3_finish ∈ q_G := ⟨q_tb (i := 1462) (by decide +kernel) (by decide +kernel), q_tp (i := 41) (q := (yX3_finish, 1)) (by decide +kernel) (by decide +kernel)⟩
theorem ml_X3_67 : Cond.methodLink RX3 67 yX4_holds ∈ q_G := q_tb (i := 1487) (by decide +kernel) (by decide +kernel)
theorem ml_X3_70 : Cond.methodLink RX3 70 yX3_wrongPlace ∈ q_G := q_tb (i := 1488) (by decide +kernel) (by decide +kernel)
theorem mt_X3_wrongPlace : q_Mt yX3_wrongPlace cX3_wrongPlace 4 (some .int) 3 := ⟨q_tb (i := 1491) (by decide +kernel) (by decide +kernel), q_tb (i := 9) (by decide +kernel) (by decide +kernel), by decide +kernel, by decide +kernel, by decide +kernel⟩
theorem mi_X3_wrongPlace : Cond.instanceMethod yX3_wrongPlace ∈ q_G ∧ Cond.selects yX3_wrongPlace.cls yX3_wrongPlace yX3_wrongPlace ∈ q_G := ⟨q_tb (i := 1490) (by decide +kernel) (by decide +kernel), q_tp (i := 46) (q := (yX3_wrongPlace, 1)) (by decide +kernel) (by decide +kernel)⟩
theorem ml_X3_26 : Cond.methodLink RX3 26 yX4_partAt ∈ q_G := q_tb (i := 1449) (by decide +kernel) (by decide +kernel)
theorem dX3_fetch_0 : decode cX3_fetch 0 = .ok (.iload_n 3, 1) := by decide +kernel
theorem dX3_fetch_1 : decode cX3_fetch 1 = .ok (.bipush 12, 2) := by decide +kernel
theorem dX3_fetch_3 : decode cX3_fetch 3 = .ok (.ishr, 1) := by decide +kernel
theorem dX3_fetch_4 : decode cX3_fetch 4 = .ok (.bipush 7, 2) := by decide +kernel
theorem dX3_fetch_6 : decode cX3_fetch 6 = .ok (.iand, 1) := by decide +kernel
theorem dX3_fetch_7 : decode cX3_fetch 7 = .ok (.istore 4, 2) := by decide +kernel
theorem dX3_fetch_9 : decode cX3_fetch 9 = .ok (.iload 4, 2) := by decide +kernel
theorem dX3_fetch_11 : decode cX3_fetch 11 = .ok (.iconst 3, 1) := by decide +kernel
theorem dX3_fetch_12 : decode cX3_fetch 12 = .ok (.if_icmp .eq 9, 3) := by decide +kernel
theorem dX3_fetch_15 : decode cX3_fetch 15 = .ok (.iload 4, 2) := by decide +kernel
theorem dX3_fetch_17 : decode cX3_fetch 17 = .ok (.iconst 5, 1) := by decide +kernel
theorem dX3_fetch_18 : decode cX3_fetch 18 = .ok (.if_icmp .le 5, 3) := by decide +kernel
theorem dX3_fetch_21 : decode cX3_fetch 21 = .ok (.iconst 0, 1) := by decide +kernel
theorem dX3_fetch_22 : decode cX3_fetch 22 = .ok (.ireturn, 1) := by decide +kernel
theorem dX3_fetch_23 : decode cX3_fetch 23 = .ok (.iconst 1, 1) := by decide +kernel
theorem dX3_fetch_24 : decode cX3_fetch 24 = .ok (.iload 4, 2) := by decide +kernel
theorem dX3_fetch_26 : decode cX3_fetch 26 = .ok (.iconst 3, 1) := by decide +kernel
theorem dX3_fetch_27 : decode cX3_fetch 27 = .ok (.iand, 1) := by decide +kernel
theorem dX3_fetch_28 : decode cX3_fetch 28 = .ok (.ishl, 1) := by decide +kernel
theorem dX3_fetch_29 : decode cX3_fetch 29 = .ok (.istore 5, 2) := by decide +kernel
theorem dX3_fetch_31 : decode cX3_fetch 31 = .ok (.aload_n 1, 1) := by decide +kernel
theorem dX3_fetch_32 : decode cX3_fetch 32 = .ok (.getfield 38, 3) := by decide +kernel
theorem dX3_fetch_35 : decode cX3_fetch 35 = .ok (.iload_n 3, 1) := by decide +kernel
theorem dX3_fetch_36 : decode cX3_fetch 36 = .ok (.bipush 15, 2) := by decide +kernel
theorem dX3_fetch_38 : decode cX3_fetch 38 = .ok (.ishr, 1) := by decide +kernel
theorem dX3_fetch_39 : decode cX3_fetch 39 = .ok (.bipush 31, 2) := by decide +kernel
theorem dX3_fetch_41 : decode cX3_fetch 41 = .ok (.iand, 1) := by decide +kernel
theorem dX3_fetch_42 : decode cX3_fetch 42 = .ok (.iaload, 1) := by decide +kernel
theorem dX3_fetch_43 : decode cX3_fetch 43 = .ok (.iload_n 3, 1) := by decide +kernel
theorem dX3_fetch_44 : decode cX3_fetch 44 = .ok (.bipush 20, 2) := by decide +kernel
theorem dX3_fetch_46 : decode cX3_fetch 46 = .ok (.ishr, 1) := by decide +kernel
theorem dX3_fetch_47 : decode cX3_fetch 47 = .ok (.iadd, 1) := by decide +kernel
theorem dX3_fetch_48 : decode cX3_fetch 48 = .ok (.istore 6, 2) := by decide +kernel
theorem dX3_fetch_50 : decode cX3_fetch 50 = .ok (.aload_n 0, 1) := by decide +kernel
theorem dX3_fetch_51 : decode cX3_fetch 51 = .ok (.iload 6, 2) := by decide +kernel
theorem dX3_fetch_53 : decode cX3_fetch 53 = .ok (.iload 5, 2) := by decide +kernel
theorem dX3_fetch_55 : decode cX3_fetch 55 = .ok (.aload_n 2, 1) := by decide +kernel
theorem dX3_fetch_56 : decode cX3_fetch 56 = .ok (.iload 6, 2) := by decide +kernel
theorem dX3_fetch_58 : decode cX3_fetch 58 = .ok (.invokevirtual 67, 3) := by decide +kernel
theorem dX3_fetch_61 : decode cX3_fetch 61 = .ok (.invokevirtual 70, 3) := by decide +kernel
theorem dX3_fetch_64 : decode cX3_fetch 64 = .ok (.istore 7, 2) := by decide +kernel
theorem dX3_fetch_66 : decode cX3_fetch 66 = .ok (.iload 7, 2) := by decide +kernel
theorem dX3_fetch_68 : decode cX3_fetch 68 = .ok (.iconst (-1), 1) := by decide +kernel
theorem dX3_fetch_69 : decode cX3_fetch 69 = .ok (.if_icmp .eq 6, 3) := by decide +kernel
theorem dX3_fetch_72 : decode cX3_fetch 72 = .ok (.iload 7, 2) := by decide +kernel
theorem dX3_fetch_74 : decode cX3_fetch 74 = .ok (.ireturn, 1) := by decide +kernel
theorem dX3_fetch_75 : decode cX3_fetch 75 = .ok (.aload_n 2, 1) := by decide +kernel
theorem dX3_fetch_76 : decode cX3_fetch 76 = .ok (.iload 6, 2) := by decide +kernel
theorem dX3_fetch_78 : decode cX3_fetch 78 = .ok (.iload 5, 2) := by decide +kernel
theorem dX3_fetch_80 : decode cX3_fetch 80 = .ok (.invokevirtual 26, 3) := by decide +kernel
theorem dX3_fetch_83 : decode cX3_fetch 83 = .ok (.istore 8, 2) := by decide +kernel
theorem dX3_fetch_85 : decode cX3_fetch 85 = .ok (.iload 4, 2) := by decide +kernel
theorem dX3_fetch_87 : decode cX3_fetch 87 = .ok (.ifCond .ne 11, 3) := by decide +kernel
theorem dX3_fetch_90 : decode cX3_fetch 90 = .ok (.iload 8, 2) := by decide +kernel
theorem dX3_fetch_92 : decode cX3_fetch 92 = .ok (.i2b, 1) := by decide +kernel
theorem dX3_fetch_93 : decode cX3_fetch 93 = .ok (.istore 8, 2) := by decide +kernel
theorem dX3_fetch_95 : decode cX3_fetch 95 = .ok (.goto 14, 3) := by decide +kernel
theorem dX3_fetch_98 : decode cX3_fetch 98 = .ok (.iload 4, 2) := by decide +kernel
theorem dX3_fetch_100 : decode cX3_fetch 100 = .ok (.iconst 1, 1) := by decide +kernel
theorem dX3_fetch_101 : decode cX3_fetch 101 = .ok (.if_icmp .ne 8, 3) := by decide +kernel
theorem dX3_fetch_104 : decode cX3_fetch 104 = .ok (.iload 8, 2) := by decide +kernel
theorem dX3_fetch_106 : decode cX3_fetch 106 = .ok (.i2s, 1) := by decide +kernel
theorem dX3_fetch_107 : decode cX3_fetch 107 = .ok (.istore 8, 2) := by decide +kernel
theorem dX3_fetch_109 : decode cX3_fetch 109 = .ok (.aload_n 0, 1) := by decide +kernel
theorem dX3_fetch_110 : decode cX3_fetch 110 = .ok (.aload_n 1, 1) := by decide +kernel
theorem dX3_fetch_111 : decode cX3_fetch 111 = .ok (.iload_n 3, 1) := by decide +kernel
theorem dX3_fetch_112 : decode cX3_fetch 112 = .ok (.iload 8, 2) := by decide +kernel
theorem dX3_fetch_114 : decode cX3_fetch 114 = .ok (.aload_n 1, 1) := by decide +kernel
theorem dX3_fetch_115 : decode cX3_fetch 115 = .ok (.getfield 9, 3) := by decide +kernel
theorem dX3_fetch_118 : decode cX3_fetch 118 = .ok (.iconst 4, 1) := by decide +kernel
theorem dX3_fetch_119 : decode cX3_fetch 119 = .ok (.iadd, 1) := by decide +kernel
theorem dX3_fetch_120 : decode cX3_fetch 120 = .ok (.invokevirtual 30, 3) := by decide +kernel
theorem dX3_fetch_123 : decode cX3_fetch 123 = .ok (.ireturn, 1) := by decide +kernel
def wb_X3_fetch_21  (S : q_S) (Q : Option Value → q_S → Prop) : Prop := Q (some (.int (0 : Int32))) S
set_option maxHeartbeats 4000000 in
set_option maxRecDepth 100000 in
theorem cb_X3_fetch_21 {p : Program} {l : Launch} {e : Env} {s : State} {m : MethodId} {args : Array Value} {below : List Frame} {meth : Method} {c : Code} {D : va_G} {cy : Nat → ClassId} {lo : Nat}  {S : q_S} {Q : Option Value → q_S → Prop} {H : Heap} {locs : List Loc} {ls : Array Slot} (X : q_X p s m args meth c RX3 cX3_fetch 9 (some .int) D cy lo)  (Y : q_Y D cy lo s S H locs) (hl : lv_has ls 9 []) (h : wb_X3_fetch_21 S Q) : W p l e ({ frames := 2, cells := 0, slots := 0, locals := 43 } : Room) s m args below meth c H locs 0 0 (MQ below (q_Q D cy lo Q) args s 0 0 (fun q => lo ≤ q)) (F0 m 21 ls []) := by
  have hx := X.1
  have hb := X.2.1
  unfold wb_X3_fetch_21 at h
  refine lv_iconst (v := 0) hx hb dX3_fetch_21 (by decide) ?_
  exact q_iret X Y rfl (Nat.le_refl _) (Nat.le_refl _) h dX3_fetch_22
def wb_X3_fetch_109  (S : q_S) (a0 : Nat) (r1 : Option Nat) (x3 : Int32) (x8 : Int32) (Q : Option Value → q_S → Prop) : Prop := ∃ a1_ : Nat, r1 = some a1_ ∧ (q_K S a1_ = 8 ∧ (q_K S a0 = 4 ∧ (wm_X3_finish S a0 r1 x3 x8 ((q_I S 1410 a1_) + (4 : Int32)) (fun r5_ S6_ => ∃ x7_ : Int32, r5_ = some (.int x7_) ∧ (Q (some (.int x7_)) S6_)))))
set_option maxHeartbeats 4000000 in
set_option maxRecDepth 100000 in
theorem cb_X3_fetch_109 {p : Program} {l : Launch} {e : Env} {s : State} {m : MethodId} {args : Array Value} {below : List Frame} {meth : Method} {c : Code} {D : va_G} {cy : Nat → ClassId} {lo : Nat}  {S : q_S} {a0 : Nat} {r1 : Option Nat} {x3 : Int32} {x8 : Int32} {Q : Option Value → q_S → Prop} {H : Heap} {locs : List Loc} {ls : Array Slot} (X : q_X p s m args meth c RX3 cX3_fetch 9 (some .int) D cy lo)  (Y : q_Y D cy lo s S H locs) (hl : lv_has ls 9 [(0, .ref a0), (1, va_rf r1), (3, .int x3), (8, .int x8)]) (h : wb_X3_fetch_109 S a0 r1 x3 x8 Q) : W p l e ({ frames := 2, cells := 0, slots := 0, locals := 43 } : Room) s m args below meth c H locs 0 0 (MQ below (q_Q D cy lo Q) args s 0 0 (fun q => lo ≤ q)) (F0 m 109 ls []) := by
  have hx := X.1
  have hb := X.2.1
  unfold wb_X3_fetch_109 at h
  refine lv_aload_n hx hb dX3_fetch_109 rfl (lv_at hl 0 rfl) ?_
  refine q_aload_n hx hb dX3_fetch_110 rfl (lv_at hl 1 rfl) ?_
  refine lv_iload_n hx hb dX3_fetch_111 rfl (lv_at hl 2 rfl) ?_
  refine lv_iload hx hb dX3_fetch_112 (lv_at hl 3 rfl) ?_
  refine q_aload_n hx hb dX3_fetch_114 rfl (lv_at hl 1 rfl) ?_
  obtain ⟨a1_, e2_, h⟩ := h
  refine q_nn [] e2_ ?_
  obtain ⟨k3_, h⟩ := h
  refine q_getI X Y kX7 10 rfl fl_X3_9 k3_ dX3_fetch_115 ?_
  refine lv_iconst (v := 4) hx hb dX3_fetch_118 (by decide) ?_
  refine lv_iadd hx hb dX3_fetch_119 ?_
  obtain ⟨k4_, h⟩ := h
  refine q_callV X Y hl (cm_X3_finish h) mt_X3_finish mi_X3_finish ml_X3_30 (ci := 3) rfl k4_ (by decide) rfl rfl (by first | exact Nat.le_of_ble_eq_true rfl | simp [q_cat, q_catI, q_catJ, q_catR]) ⟨Nat.le_of_ble_eq_true rfl, Nat.le_of_ble_eq_true rfl⟩ ⟨Nat.le_of_ble_eq_true rfl, Nat.le_of_ble_eq_true rfl⟩ dX3_fetch_120 (fun r5_ S6_ H locs hp Y => ?_)
  obtain ⟨x7_, rfl, h⟩ := hp
  refine W.eq (g2 := F0 m 123 ls [.int x7_]) rfl ?_
  exact q_iret X Y rfl (Nat.le_refl _) (Nat.le_refl _) h dX3_fetch_123
def wm_X3_fetch (S : q_S) (a0 : Nat) (r1 : Option Nat) (r2 : Option Nat) (x3 : Int32) (Q : Option Value → q_S → Prop) : Prop := ((((x3 >>> ((12 : Int32) &&& 31)) &&& (7 : Int32)) = (3 : Int32) → (wb_X3_fetch_21 S Q)) ∧ (¬ ((x3 >>> ((12 : Int32) &&& 31)) &&& (7 : Int32)) = (3 : Int32) → (((((x3 >>> ((12 : Int32) &&& 31)) &&& (7 : Int32)) ≤ (5 : Int32) → (∃ a10_ : Nat, r1 = some a10_ ∧ (q_K S a10_ = 8 ∧ (∃ a13_ : Nat, (q_P S 1411 a10_) = some a13_ ∧ (q_K S a13_ = 21 ∧ (vp_in ((x3 >>> ((15 : Int32) &&& 31)) &&& (31 : Int32)) (q_N S a13_) ∧ (∃ a17_ : Nat, r2 = some a17_ ∧ (q_K S a17_ = 5 ∧ (wm_X4_holds S a17_ ((q_A S a13_ ((x3 >>> ((15 : Int32) &&& 31)) &&& (31 : Int32)).toNatClampNeg) + (x3 >>> ((20 : Int32) &&& 31))) (fun r20_ S21_ => ∃ x22_ : Int32, r20_ = some (.int x22_) ∧ (q_K S21_ a0 = 4 ∧ (wm_X3_wrongPlace S21_ a0 ((q_A S a13_ ((x3 >>> ((15 : Int32) &&& 31)) &&& (31 : Int32)).toNatClampNeg) + (x3 >>> ((20 : Int32) &&& 31))) ((1 : Int32) <<< ((((x3 >>> ((12 : Int32) &&& 31)) &&& (7 : Int32)) &&& (3 : Int32)) &&& 31)) x22_ (fun r24_ S25_ => ∃ x26_ : Int32, r24_ = some (.int x26_) ∧ (((x26_ = (-1 : Int32) → (q_K S25_ a17_ = 5 ∧ (wm_X4_partAt S25_ a17_ ((q_A S a13_ ((x3 >>> ((15 : Int32) &&& 31)) &&& (31 : Int32)).toNatClampNeg) + (x3 >>> ((20 : Int32) &&& 31))) ((1 : Int32) <<< ((((x3 >>> ((12 : Int32) &&& 31)) &&& (7 : Int32)) &&& (3 : Int32)) &&& 31)) (fun r29_ S30_ => ∃ x31_ : Int32, r29_ = some (.int x31_) ∧ (((¬ ((x3 >>> ((12 : Int32) &&& 31)) &&& (7 : Int32)) = 0 → (((¬ ((x3 >>> ((12 : Int32) &&& 31)) &&& (7 : Int32)) = (1 : Int32) → (wb_X3_fetch_109 S30_ a0 r1 x3 x31_ Q)) ∧ (((x3 >>> ((12 : Int32) &&& 31)) &&& (7 : Int32)) = (1 : Int32) → (wb_X3_fetch_109 S30_ a0 r1 x3 (x31_.toInt16.toInt32) Q))))) ∧ (((x3 >>> ((12 : Int32) &&& 31)) &&& (7 : Int32)) = 0 → (wb_X3_fetch_109 S30_ a0 r1 x3 (x31_.toInt8.toInt32) Q)))))))) ∧ (¬ x26_ = (-1 : Int32) → (Q (some (.int x26_)) S25_))))))))))))))))) ∧ (¬ ((x3 >>> ((12 : Int32) &&& 31)) &&& (7 : Int32)) ≤ (5 : Int32) → (wb_X3_fetch_21 S Q))))))
set_option maxHeartbeats 4000000 in
set_option maxRecDepth 100000 in
theorem cm_X3_fetch {l : Launch} {D : va_G} {cy : Nat → ClassId} {lo : Nat} {S : q_S} {a0 : Nat} {r1 : Option Nat} {r2 : Option Nat} {x3 : Int32} {Q : Option Value → q_S → Prop} (h : wm_X3_fetch S a0 r1 r2 x3 Q) : q_Met l D cy lo yX3_fetch cX3_fetch 9 (some .int) 2 43 0 0 [.ref a0, va_rf r1, va_rf r2, .int x3] S Q := by
  refine q_body (by decide) (by first | exact Nat.le_of_ble_eq_true rfl | simp [lg_sl, q_cat, q_catI, q_catJ, q_catR]) ?_
  intro p e s m below meth c ls X hnm Y hl
  have hx := X.1
  have hb := X.2.1
  have hl : lv_has ls 9 [(0, .ref a0), (1, va_rf r1), (2, va_rf r2), (3, .int x3)] := by first | exact hl | simpa [lv_args, q_cat, q_catI, q_catJ, q_catR] using hl
  generalize hargs : ([.ref a0, va_rf r1, va_rf r2, .int x3] : List Value).toArray = args at X ⊢
  unfold wm_X3_fetch at h
  refine lv_iload_n hx hb dX3_fetch_0 rfl (lv_at hl 3 rfl) ?_
  refine lv_bipush (v := 12) hx hb dX3_fetch_1 (by decide) ?_
  refine lv_ishr hx hb dX3_fetch_3 ?_
  refine lv_bipush (v := 7) hx hb dX3_fetch_4 (by decide) ?_
  refine lv_iand hx hb dX3_fetch_6 ?_
  refine lv_istore (i := 4) (lv' := [(4, .int ((x3 >>> ((12 : Int32) &&& 31)) &&& (7 : Int32))), (0, .ref a0), (1, va_rf r1), (2, va_rf r2), (3, .int x3)]) hx hb dX3_fetch_7 hl (by decide) (by first | rfl | simp [q_cat, q_catI, q_catJ, q_catR]) (fun ls hl => ?_)
  refine lv_iload hx hb dX3_fetch_9 (lv_at hl 0 rfl) ?_
  refine lv_iconst (v := 3) hx hb dX3_fetch_11 (by decide) ?_
  refine lv_icmp_eq (tgt := 21) hx hb dX3_fetch_12 (by decide) (fun c8_ => ?_) (fun c8_ => ?_)
  · replace h := h.1 c8_
    exact cb_X3_fetch_21 X Y (lv_sub hl [] rfl) h
  · replace h := h.2 c8_
    refine lv_iload hx hb dX3_fetch_15 (lv_at hl 0 rfl) ?_
    refine lv_iconst (v := 5) hx hb dX3_fetch_17 (by decide) ?_
    refine lv_icmp_le (tgt := 23) hx hb dX3_fetch_18 (by decide) (fun c9_ => ?_) (fun c9_ => ?_)
    · replace h := h.1 c9_
      refine lv_iconst (v := 1) hx hb dX3_fetch_23 (by decide) ?_
      refine lv_iload hx hb dX3_fetch_24 (lv_at hl 0 rfl) ?_
      refine lv_iconst (v := 3) hx hb dX3_fetch_26 (by decide) ?_
      refine lv_iand hx hb dX3_fetch_27 ?_
      refine lv_ishl hx hb dX3_fetch_28 ?_
      refine lv_istore (i := 5) (lv' := [(5, .int ((1 : Int32) <<< ((((x3 >>> ((12 : Int32) &&& 31)) &&& (7 : Int32)) &&& (3 : Int32)) &&& 31))), (4, .int ((x3 >>> ((12 : Int32) &&& 31)) &&& (7 : Int32))), (0, .ref a0), (1, va_rf r1), (2, va_rf r2), (3, .int x3)]) hx hb dX3_fetch_29 hl (by decide) (by first | rfl | simp [q_cat, q_catI, q_catJ, q_catR]) (fun ls hl => ?_)
      refine q_aload_n hx hb dX3_fetch_31 rfl (lv_at hl 3 rfl) ?_
      obtain ⟨a10_, e11_, h⟩ := h
      refine q_nn [] e11_ ?_
      obtain ⟨k12_, h⟩ := h
      refine q_getP X Y kX7 11 rfl fl_X3_38 k12_ rfl dX3_fetch_32 ?_
      refine lv_iload_n hx hb dX3_fetch_35 rfl (lv_at hl 5 rfl) ?_
      refine lv_bipush (v := 15) hx hb dX3_fetch_36 (by decide) ?_
      refine lv_ishr hx hb dX3_fetch_38 ?_
      refine lv_bipush (v := 31) hx hb dX3_fetch_39 (by decide) ?_
      refine lv_iand hx hb dX3_fetch_41 ?_
      obtain ⟨a13_, e14_, h⟩ := h
      refine q_nn [.int ((x3 >>> ((15 : Int32) &&& 31)) &&& (31 : Int32))] e14_ ?_
      obtain ⟨k15_, h⟩ := h
      obtain ⟨i16_, h⟩ := h
      refine q_ild X Y k15_ i16_ dX3_fetch_42 ?_
      refine lv_iload_n hx hb dX3_fetch_43 rfl (lv_at hl 5 rfl) ?_
      refine lv_bipush (v := 20) hx hb dX3_fetch_44 (by decide) ?_
      refine lv_ishr hx hb dX3_fetch_46 ?_
      refine lv_iadd hx hb dX3_fetch_47 ?_
      refine lv_istore (i := 6) (lv' := [(6, .int ((q_A S a13_ ((x3 >>> ((15 : Int32) &&& 31)) &&& (31 : Int32)).toNatClampNeg) + (x3 >>> ((20 : Int32) &&& 31)))), (5, .int ((1 : Int32) <<< ((((x3 >>> ((12 : Int32) &&& 31)) &&& (7 : Int32)) &&& (3 : Int32)) &&& 31))), (4, .int ((x3 >>> ((12 : Int32) &&& 31)) &&& (7 : Int32))), (0, .ref a0), (1, va_rf r1), (2, va_rf r2), (3, .int x3)]) hx hb dX3_fetch_48 hl (by decide) (by first | rfl | simp [q_cat, q_catI, q_catJ, q_catR]) (fun ls hl => ?_)
      refine lv_aload_n hx hb dX3_fetch_50 rfl (lv_at hl 3 rfl) ?_
      refine lv_iload hx hb dX3_fetch_51 (lv_at hl 0 rfl) ?_
      refine lv_iload hx hb dX3_fetch_53 (lv_at hl 1 rfl) ?_
      refine q_aload_n hx hb dX3_fetch_55 rfl (lv_at hl 5 rfl) ?_
      refine lv_iload hx hb dX3_fetch_56 (lv_at hl 0 rfl) ?_
      obtain ⟨a17_, e18_, h⟩ := h
      refine q_nn [.int ((q_A S a13_ ((x3 >>> ((15 : Int32) &&& 31)) &&& (31 : Int32)).toNatClampNeg) + (x3 >>> ((20 : Int32) &&& 31)))] e18_ ?_
      obtain ⟨k19_, h⟩ := h
      refine q_callV X Y hl (cm_X4_holds h) mt_X4_holds mi_X4_holds ml_X3_67 (ci := 4) rfl k19_ (by decide) rfl rfl (by first | exact Nat.le_of_ble_eq_true rfl | simp [q_cat, q_catI, q_catJ, q_catR]) ⟨Nat.le_of_ble_eq_true rfl, Nat.le_of_ble_eq_true rfl⟩ ⟨Nat.le_of_ble_eq_true rfl, Nat.le_of_ble_eq_true rfl⟩ dX3_fetch_58 (fun r20_ S21_ H locs hp Y => ?_)
      obtain ⟨x22_, rfl, h⟩ := hp
      refine W.eq (g2 := F0 m 61 ls [.int x22_, .int ((1 : Int32) <<< ((((x3 >>> ((12 : Int32) &&& 31)) &&& (7 : Int32)) &&& (3 : Int32)) &&& 31)), .int ((q_A S a13_ ((x3 >>> ((15 : Int32) &&& 31)) &&& (31 : Int32)).toNatClampNeg) + (x3 >>> ((20 : Int32) &&& 31))), .ref a0]) rfl ?_
      obtain ⟨k23_, h⟩ := h
      refine q_callV X Y hl (cm_X3_wrongPlace h) mt_X3_wrongPlace mi_X3_wrongPlace ml_X3_70 (ci := 3) rfl k23_ (by decide) rfl rfl (by first | exact Nat.le_of_ble_eq_true rfl | simp [q_cat, q_catI, q_catJ, q_catR]) ⟨Nat.le_of_ble_eq_true rfl, Nat.le_of_ble_eq_true rfl⟩ ⟨Nat.le_of_ble_eq_true rfl, Nat.le_of_ble_eq_true rfl⟩ dX3_fetch_61 (fun r24_ S25_ H locs hp Y => ?_)
      obtain ⟨x26_, rfl, h⟩ := hp
      refine W.eq (g2 := F0 m 64 ls [.int x26_]) rfl ?_
      refine lv_istore (i := 7) (lv' := [(7, .int x26_), (6, .int ((q_A S a13_ ((x3 >>> ((15 : Int32) &&& 31)) &&& (31 : Int32)).toNatClampNeg) + (x3 >>> ((20 : Int32) &&& 31)))), (5, .int ((1 : Int32) <<< ((((x3 >>> ((12 : Int32) &&& 31)) &&& (7 : Int32)) &&& (3 : Int32)) &&& 31))), (4, .int ((x3 >>> ((12 : Int32) &&& 31)) &&& (7 : Int32))), (0, .ref a0), (1, va_rf r1), (2, va_rf r2), (3, .int x3)]) hx hb dX3_fetch_64 hl (by decide) (by first | rfl | simp [q_cat, q_catI, q_catJ, q_catR]) (fun ls hl => ?_)
      refine lv_iload hx hb dX3_fetch_66 (lv_at hl 0 rfl) ?_
      refine lv_iconst (v := (-1)) hx hb dX3_fetch_68 (by decide) ?_
      refine lv_icmp_eq (tgt := 75) hx hb dX3_fetch_69 (by decide) (fun c27_ => ?_) (fun c27_ => ?_)
      · replace h := h.1 c27_
        refine q_aload_n hx hb dX3_fetch_75 rfl (lv_at hl 6 rfl) ?_
        refine lv_iload hx hb dX3_fetch_76 (lv_at hl 1 rfl) ?_
        refine lv_iload hx hb dX3_fetch_78 (lv_at hl 2 rfl) ?_
        refine q_nn [.int ((1 : Int32) <<< ((((x3 >>> ((12 : Int32) &&& 31)) &&& (7 : Int32)) &&& (3 : Int32)) &&& 31)), .int ((q_A S a13_ ((x3 >>> ((15 : Int32) &&& 31)) &&& (31 : Int32)).toNatClampNeg) + (x3 >>> ((20 : Int32) &&& 31)))] e18_ ?_
        obtain ⟨k28_, h⟩ := h
        refine q_callV X Y hl (cm_X4_partAt h) mt_X4_partAt mi_X4_partAt ml_X3_26 (ci := 4) rfl k28_ (by decide) rfl rfl (by first | exact Nat.le_of_ble_eq_true rfl | simp [q_cat, q_catI, q_catJ, q_catR]) ⟨Nat.le_of_ble_eq_true rfl, Nat.le_of_ble_eq_true rfl⟩ ⟨Nat.le_of_ble_eq_true rfl, Nat.le_of_ble_eq_true rfl⟩ dX3_fetch_80 (fun r29_ S30_ H locs hp Y => ?_)
        obtain ⟨x31_, rfl, h⟩ := hp
        refine W.eq (g2 := F0 m 83 ls [.int x31_]) rfl ?_
        refine lv_istore (i := 8) (lv' := [(8, .int x31_), (7, .int x26_), (6, .int ((q_A S a13_ ((x3 >>> ((15 : Int32) &&& 31)) &&& (31 : Int32)).toNatClampNeg) + (x3 >>> ((20 : Int32) &&& 31)))), (5, .int ((1 : Int32) <<< ((((x3 >>> ((12 : Int32) &&& 31)) &&& (7 : Int32)) &&& (3 : Int32)) &&& 31))), (4, .int ((x3 >>> ((12 : Int32) &&& 31)) &&& (7 : Int32))), (0, .ref a0), (1, va_rf r1), (2, va_rf r2), (3, .int x3)]) hx hb dX3_fetch_83 hl (by decide) (by first | rfl | simp [q_cat, q_catI, q_catJ, q_catR]) (fun ls hl => ?_)
        refine lv_iload hx hb dX3_fetch_85 (lv_at hl 4 rfl) ?_
        refine lv_if_ne (tgt := 98) hx hb dX3_fetch_87 (by decide) (fun c32_ => ?_) (fun c32_ => ?_)
        · replace h := h.1 c32_
          refine lv_iload hx hb dX3_fetch_98 (lv_at hl 4 rfl) ?_
          refine lv_iconst (v := 1) hx hb dX3_fetch_100 (by decide) ?_
          refine lv_icmp_ne (tgt := 109) hx hb dX3_fetch_101 (by decide) (fun c33_ => ?_) (fun c33_ => ?_)
          · replace h := h.1 c33_
            exact cb_X3_fetch_109 X Y (lv_sub hl [5, 6, 8, 0] rfl) h
          · replace h := h.2 c33_
            refine lv_iload hx hb dX3_fetch_104 (lv_at hl 0 rfl) ?_
            refine lv_i2s hx hb dX3_fetch_106 rfl ?_
            refine lv_istore (i := 8) (lv' := [(8, .int (x31_.toInt16.toInt32)), (7, .int x26_), (6, .int ((q_A S a13_ ((x3 >>> ((15 : Int32) &&& 31)) &&& (31 : Int32)).toNatClampNeg) + (x3 >>> ((20 : Int32) &&& 31)))), (5, .int ((1 : Int32) <<< ((((x3 >>> ((12 : Int32) &&& 31)) &&& (7 : Int32)) &&& (3 : Int32)) &&& 31))), (4, .int ((x3 >>> ((12 : Int32) &&& 31)) &&& (7 : Int32))), (0, .ref a0), (1, va_rf r1), (2, va_rf r2), (3, .int x3)]) hx hb dX3_fetch_107 hl (by decide) (by first | rfl | simp [q_cat, q_catI, q_catJ, q_catR]) (fun ls hl => ?_)
            exact cb_X3_fetch_109 X Y (lv_sub hl [5, 6, 8, 0] rfl) h
        · replace h := h.2 c32_
          refine lv_iload hx hb dX3_fetch_90 (lv_at hl 0 rfl) ?_
          refine lv_i2b hx hb dX3_fetch_92 rfl ?_
          refine lv_istore (i := 8) (lv' := [(8, .int (x31_.toInt8.toInt32)), (7, .int x26_), (6, .int ((q_A S a13_ ((x3 >>> ((15 : Int32) &&& 31)) &&& (31 : Int32)).toNatClampNeg) + (x3 >>> ((20 : Int32) &&& 31)))), (5, .int ((1 : Int32) <<< ((((x3 >>> ((12 : Int32) &&& 31)) &&& (7 : Int32)) &&& (3 : Int32)) &&& 31))), (4, .int ((x3 >>> ((12 : Int32) &&& 31)) &&& (7 : Int32))), (0, .ref a0), (1, va_rf r1), (2, va_rf r2), (3, .int x3)]) hx hb dX3_fetch_93 hl (by decide) (by first | rfl | simp [q_cat, q_catI, q_catJ, q_catR]) (fun ls hl => ?_)
          refine lv_goto (tgt := 109) hx hb dX3_fetch_95 (by decide) ?_
          exact cb_X3_fetch_109 X Y (lv_sub hl [5, 6, 8, 0] rfl) h
      · replace h := h.2 c27_
        refine lv_iload hx hb dX3_fetch_72 (lv_at hl 0 rfl) ?_
        exact q_iret X Y rfl (Nat.le_refl _) (Nat.le_refl _) h dX3_fetch_74
    · replace h := h.2 c9_
      exact cb_X3_fetch_21 X Y (lv_sub hl [] rfl) h
-- X4_mayStore
theorem dX4_mayStore_0 : decode cX4_mayStore 0 = .ok (.aload_n 0, 1) := by decide +kernel
theorem dX4_mayStore_1 : decode cX4_mayStore 1 = .ok (.iload_n 1, 1) := by decide +kernel
theorem dX4_mayStore_2 : decode cX4_mayStore 2 = .ok (.invokevirtual 53, 3) := by decide +kernel
theorem dX4_mayStore_5 : decode cX4_mayStore 5 = .ok (.istore_n 2, 1) := by decide +kernel
theorem dX4_mayStore_6 : decode cX4_mayStore 6 = .ok (.iload_n 2, 1) := by decide +kernel
theorem dX4_mayStore_7 : decode cX4_mayStore 7 = .ok (.iconst 1, 1) := by decide +kernel
theorem dX4_mayStore_8 : decode cX4_mayStore 8 = .ok (.if_icmp .eq 8, 3) := by decide +kernel
theorem dX4_mayStore_11 : decode cX4_mayStore 11 = .ok (.iload_n 2, 1) := by decide +kernel
theorem dX4_mayStore_12 : decode cX4_mayStore 12 = .ok (.iconst 3, 1) := by decide +kernel
theorem dX4_mayStore_13 : decode cX4_mayStore 13 = .ok (.if_icmp .ne 7, 3) := by decide +kernel
theorem dX4_mayStore_16 : decode cX4_mayStore 16 = .ok (.iconst 1, 1) := by decide +kernel
theorem dX4_mayStore_17 : decode cX4_mayStore 17 = .ok (.goto 4, 3) := by decide +kernel
theorem dX4_mayStore_20 : decode cX4_mayStore 20 = .ok (.iconst 0, 1) := by decide +kernel
theorem dX4_mayStore_21 : decode cX4_mayStore 21 = .ok (.ireturn, 1) := by decide +kernel
def wb_X4_mayStore_21  (S : q_S) (xs0 : Int32) (Q : Option Value → q_S → Prop) : Prop := (narrow .boolean (.int xs0) = .int xs0 ∧ Q (some (.int xs0)) S)
set_option maxHeartbeats 4000000 in
set_option maxRecDepth 100000 in
theorem cb_X4_mayStore_21 {p : Program} {l : Launch} {e : Env} {s : State} {m : MethodId} {args : Array Value} {below : List Frame} {meth : Method} {c : Code} {D : va_G} {cy : Nat → ClassId} {lo : Nat}  {S : q_S} {xs0 : Int32} {Q : Option Value → q_S → Prop} {H : Heap} {locs : List Loc} {ls : Array Slot} (X : q_X p s m args meth c RX4 cX4_mayStore 3 (some .boolean) D cy lo)  (Y : q_Y D cy lo s S H locs) (hl : lv_has ls 3 []) (h : wb_X4_mayStore_21 S xs0 Q) : W p l e ({ frames := 1, cells := 0, slots := 0, locals := 22 } : Room) s m args below meth c H locs 0 0 (MQ below (q_Q D cy lo Q) args s 0 0 (fun q => lo ≤ q)) (F0 m 21 ls [.int xs0]) := by
  have hx := X.1
  have hb := X.2.1
  unfold wb_X4_mayStore_21 at h
  exact q_iret X Y h.1 (Nat.le_refl _) (Nat.le_refl _) h.2 dX4_mayStore_21
def wb_X4_mayStore_16  (S : q_S) (Q : Option Value → q_S → Prop) : Prop := wb_X4_mayStore_21 S (1 : Int32) Q
set_option maxHeartbeats 4000000 in
set_option maxRecDepth 100000 in
theorem cb_X4_mayStore_16 {p : Program} {l : Launch} {e : Env} {s : State} {m : MethodId} {args : Array Value} {below : List Frame} {meth : Method} {c : Code} {D : va_G} {cy : Nat → ClassId} {lo : Nat}  {S : q_S} {Q : Option Value → q_S → Prop} {H : Heap} {locs : List Loc} {ls : Array Slot} (X : q_X p s m args meth c RX4 cX4_mayStore 3 (some .boolean) D cy lo)  (Y : q_Y D cy lo s S H locs) (hl : lv_has ls 3 []) (h : wb_X4_mayStore_16 S Q) : W p l e ({ frames := 1, cells := 0, slots := 0, locals := 22 } : Room) s m args below meth c H locs 0 0 (MQ below (q_Q D cy lo Q) args s 0 0 (fun q => lo ≤ q)) (F0 m 16 ls []) := by
  have hx := X.1
  have hb := X.2.1
  unfold wb_X4_mayStore_16 at h
  refine lv_iconst (v := 1) hx hb dX4_mayStore_16 (by decide) ?_
  refine lv_goto (tgt := 21) hx hb dX4_mayStore_17 (by decide) ?_
  exact cb_X4_mayStore_21 X Y (lv_sub hl [] rfl) h
def wm_X4_mayStore (S : q_S) (a0 : Nat) (x1 : Int32) (Q : Option Value → q_S → Prop) : Prop := q_K S a0 = 5 ∧ (wm_X4_sortAt S a0 x1 (fun r2_ S3_ => ∃ x4_ : Int32, r2_ = some (.int x4_) ∧ (((x4_ = (1 : Int32) → (wb_X4_mayStore_16 S3_ Q)) ∧ (¬ x4_ = (1 : Int32) → (((¬ x4_ = (3 : Int32) → (wb_X4_mayStore_21 S3_ (0 : Int32) Q)) ∧ (x4_ = (3 : Int32) → (wb_X4_mayStore_16 S3_ Q)))))))))
set_option maxHeartbeats 4000000 in
set_option maxRecDepth 100000 in
theorem cm_X4_mayStore {l : Launch} {D : va_G} {cy : Nat → ClassId} {lo : Nat} {S : q_S} {a0 : Nat} {x1 : Int32} {Q : Option Value → q_S → Prop} (h : wm_X4_mayStore S a0 x1 Q) : q_Met l D cy lo yX4_mayStore cX4_mayStore 3 (some .boolean) 1 22 0 0 [.ref a0, .int x1] S Q := by
  refine q_body (by decide) (by first | exact Nat.le_of_ble_eq_true rfl | simp [lg_sl, q_cat, q_catI, q_catJ, q_catR]) ?_
  intro p e s m below meth c ls X hnm Y hl
  have hx := X.1
  have hb := X.2.1
  have hl : lv_has ls 3 [(0, .ref a0), (1, .int x1)] := by first | exact hl | simpa [lv_args, q_cat, q_catI, q_catJ, q_catR] using hl
  generalize hargs : ([.ref a0, .int x1] : List Value).toArray = args at X ⊢
  unfold wm_X4_mayStore at h
  refine lv_aload_n hx hb dX4_mayStore_0 rfl (lv_at hl 0 rfl) ?_
  refine lv_iload_n hx hb dX4_mayStore_1 rfl (lv_at hl 1 rfl) ?_
  obtain ⟨k1_, h⟩ := h
  refine q_callV X Y hl (cm_X4_sortAt h) mt_X4_sortAt mi_X4_sortAt ml_X4_53 (ci := 4) rfl k1_ (by decide) rfl rfl (by first | exact Nat.le_of_ble_eq_true rfl | simp [q_cat, q_catI, q_catJ, q_catR]) ⟨Nat.le_of_ble_eq_true rfl, Nat.le_of_ble_eq_true rfl⟩ ⟨Nat.le_of_ble_eq_true rfl, Nat.le_of_ble_eq_true rfl⟩ dX4_mayStore_2 (fun r2_ S3_ H locs hp Y => ?_)
  obtain ⟨x4_, rfl, h⟩ := hp
  refine W.eq (g2 := F0 m 5 ls [.int x4_]) rfl ?_
  refine lv_istore_n (i := 2) (lv' := [(2, .int x4_), (0, .ref a0), (1, .int x1)]) hx hb dX4_mayStore_5 rfl hl (by decide) (by first | rfl | simp [q_cat, q_catI, q_catJ, q_catR]) (fun ls hl => ?_)
  refine lv_iload_n hx hb dX4_mayStore_6 rfl (lv_at hl 0 rfl) ?_
  refine lv_iconst (v := 1) hx hb dX4_mayStore_7 (by decide) ?_
  refine lv_icmp_eq (tgt := 16) hx hb dX4_mayStore_8 (by decide) (fun c5_ => ?_) (fun c5_ => ?_)
  · replace h := h.1 c5_
    exact cb_X4_mayStore_16 X Y (lv_sub hl [] rfl) h
  · replace h := h.2 c5_
    refine lv_iload_n hx hb dX4_mayStore_11 rfl (lv_at hl 0 rfl) ?_
    refine lv_iconst (v := 3) hx hb dX4_mayStore_12 (by decide) ?_
    refine lv_icmp_ne (tgt := 20) hx hb dX4_mayStore_13 (by decide) (fun c6_ => ?_) (fun c6_ => ?_)
    · replace h := h.1 c6_
      refine lv_iconst (v := 0) hx hb dX4_mayStore_20 (by decide) ?_
      exact cb_X4_mayStore_21 X Y (lv_sub hl [] rfl) h
    · replace h := h.2 c6_
      exact cb_X4_mayStore_16 X Y (lv_sub hl [] rfl) h
-- X4_put
theorem dX4_put_0 : decode cX4_put 0 = .ok (.aload_n 0, 1) := by decide +kernel
theorem dX4_put_1 : decode cX4_put 1 = .ok (.iload_n 1, 1) := by decide +kernel
theorem dX4_put_2 : decode cX4_put 2 = .ok (.invokevirtual 57, 3) := by decide +kernel
theorem dX4_put_5 : decode cX4_put 5 = .ok (.ifCond .eq 49, 3) := by decide +kernel
theorem dX4_put_8 : decode cX4_put 8 = .ok (.bipush 8, 2) := by decide +kernel
theorem dX4_put_10 : decode cX4_put 10 = .ok (.iload_n 1, 1) := by decide +kernel
theorem dX4_put_11 : decode cX4_put 11 = .ok (.iconst 3, 1) := by decide +kernel
theorem dX4_put_12 : decode cX4_put 12 = .ok (.iand, 1) := by decide +kernel
theorem dX4_put_13 : decode cX4_put 13 = .ok (.imul, 1) := by decide +kernel
theorem dX4_put_14 : decode cX4_put 14 = .ok (.istore 4, 2) := by decide +kernel
theorem dX4_put_16 : decode cX4_put 16 = .ok (.iload_n 2, 1) := by decide +kernel
theorem dX4_put_17 : decode cX4_put 17 = .ok (.invokestatic 61, 3) := by decide +kernel
theorem dX4_put_20 : decode cX4_put 20 = .ok (.iload 4, 2) := by decide +kernel
theorem dX4_put_22 : decode cX4_put 22 = .ok (.ishl, 1) := by decide +kernel
theorem dX4_put_23 : decode cX4_put 23 = .ok (.istore 5, 2) := by decide +kernel
theorem dX4_put_25 : decode cX4_put 25 = .ok (.aload_n 0, 1) := by decide +kernel
theorem dX4_put_26 : decode cX4_put 26 = .ok (.getfield 9, 3) := by decide +kernel
theorem dX4_put_29 : decode cX4_put 29 = .ok (.iload_n 1, 1) := by decide +kernel
theorem dX4_put_30 : decode cX4_put 30 = .ok (.iconst 2, 1) := by decide +kernel
theorem dX4_put_31 : decode cX4_put 31 = .ok (.ishr, 1) := by decide +kernel
theorem dX4_put_32 : decode cX4_put 32 = .ok (.aload_n 0, 1) := by decide +kernel
theorem dX4_put_33 : decode cX4_put 33 = .ok (.getfield 9, 3) := by decide +kernel
theorem dX4_put_36 : decode cX4_put 36 = .ok (.iload_n 1, 1) := by decide +kernel
theorem dX4_put_37 : decode cX4_put 37 = .ok (.iconst 2, 1) := by decide +kernel
theorem dX4_put_38 : decode cX4_put 38 = .ok (.ishr, 1) := by decide +kernel
theorem dX4_put_39 : decode cX4_put 39 = .ok (.iaload, 1) := by decide +kernel
theorem dX4_put_40 : decode cX4_put 40 = .ok (.iload 5, 2) := by decide +kernel
theorem dX4_put_42 : decode cX4_put 42 = .ok (.iconst (-1), 1) := by decide +kernel
theorem dX4_put_43 : decode cX4_put 43 = .ok (.ixor, 1) := by decide +kernel
theorem dX4_put_44 : decode cX4_put 44 = .ok (.iand, 1) := by decide +kernel
theorem dX4_put_45 : decode cX4_put 45 = .ok (.iload_n 3, 1) := by decide +kernel
theorem dX4_put_46 : decode cX4_put 46 = .ok (.iload 4, 2) := by decide +kernel
theorem dX4_put_48 : decode cX4_put 48 = .ok (.ishl, 1) := by decide +kernel
theorem dX4_put_49 : decode cX4_put 49 = .ok (.iload 5, 2) := by decide +kernel
theorem dX4_put_51 : decode cX4_put 51 = .ok (.iand, 1) := by decide +kernel
theorem dX4_put_52 : decode cX4_put 52 = .ok (.ior, 1) := by decide +kernel
theorem dX4_put_53 : decode cX4_put 53 = .ok (.iastore, 1) := by decide +kernel
theorem dX4_put_54 : decode cX4_put 54 = .ok (.return_, 1) := by decide +kernel
def wb_X4_put_54  (S : q_S) (Q : Option Value → q_S → Prop) : Prop := Q none S
set_option maxHeartbeats 4000000 in
set_option maxRecDepth 100000 in
theorem cb_X4_put_54 {p : Program} {l : Launch} {e : Env} {s : State} {m : MethodId} {args : Array Value} {below : List Frame} {meth : Method} {c : Code} {D : va_G} {cy : Nat → ClassId} {lo : Nat}  {S : q_S} {Q : Option Value → q_S → Prop} {H : Heap} {locs : List Loc} {ls : Array Slot} (X : q_X p s m args meth c RX4 cX4_put 6 none D cy lo)  (Y : q_Y D cy lo s S H locs) (hl : lv_has ls 6 []) (h : wb_X4_put_54 S Q) : W p l e ({ frames := 1, cells := 0, slots := 0, locals := 21 } : Room) s m args below meth c H locs 0 0 (MQ below (q_Q D cy lo Q) args s 0 0 (fun q => lo ≤ q)) (F0 m 54 ls []) := by
  have hx := X.1
  have hb := X.2.1
  unfold wb_X4_put_54 at h
  exact q_vret X Y (Nat.le_refl _) (Nat.le_refl _) h dX4_put_54
def wm_X4_put (S : q_S) (a0 : Nat) (x1 : Int32) (x2 : Int32) (x3 : Int32) (Q : Option Value → q_S → Prop) : Prop := q_K S a0 = 5 ∧ (wm_X4_holds S a0 x1 (fun r2_ S3_ => ∃ x4_ : Int32, r2_ = some (.int x4_) ∧ (((x4_ = 0 → (wb_X4_put_54 S3_ Q)) ∧ (¬ x4_ = 0 → (wm_X4_maskOf S3_ x2 (fun r6_ S7_ => ∃ x8_ : Int32, r6_ = some (.int x8_) ∧ (q_K S7_ a0 = 5 ∧ (∃ a10_ : Nat, (q_P S7_ 801 a0) = some a10_ ∧ (q_K S7_ a10_ = 21 ∧ (vp_in (x1 >>> ((2 : Int32) &&& 31)) (q_N S7_ a10_) ∧ (vp_in (x1 >>> ((2 : Int32) &&& 31)) (q_N S7_ a10_) ∧ (wb_X4_put_54 (qs_A S7_ a10_ (x1 >>> ((2 : Int32) &&& 31)).toNatClampNeg (((q_A S7_ a10_ (x1 >>> ((2 : Int32) &&& 31)).toNatClampNeg) &&& ((x8_ <<< (((8 : Int32) * (x1 &&& (3 : Int32))) &&& 31)) ^^^ (-1 : Int32))) ||| ((x3 <<< (((8 : Int32) * (x1 &&& (3 : Int32))) &&& 31)) &&& (x8_ <<< (((8 : Int32) * (x1 &&& (3 : Int32))) &&& 31))))) Q)))))))))))))
set_option maxHeartbeats 4000000 in
set_option maxRecDepth 100000 in
theorem cm_X4_put {l : Launch} {D : va_G} {cy : Nat → ClassId} {lo : Nat} {S : q_S} {a0 : Nat} {x1 : Int32} {x2 : Int32} {x3 : Int32} {Q : Option Value → q_S → Prop} (h : wm_X4_put S a0 x1 x2 x3 Q) : q_Met l D cy lo yX4_put cX4_put 6 none 1 21 0 0 [.ref a0, .int x1, .int x2, .int x3] S Q := by
  refine q_body (by decide) (by first | exact Nat.le_of_ble_eq_true rfl | simp [lg_sl, q_cat, q_catI, q_catJ, q_catR]) ?_
  intro p e s m below meth c ls X hnm Y hl
  have hx := X.1
  have hb := X.2.1
  have hl : lv_has ls 6 [(0, .ref a0), (1, .int x1), (2, .int x2), (3, .int x3)] := by first | exact hl | simpa [lv_args, q_cat, q_catI, q_catJ, q_catR] using hl
  generalize hargs : ([.ref a0, .int x1, .int x2, .int x3] : List Value).toArray = args at X ⊢
  unfold wm_X4_put at h
  refine lv_aload_n hx hb dX4_put_0 rfl (lv_at hl 0 rfl) ?_
  refine lv_iload_n hx hb dX4_put_1 rfl (lv_at hl 1 rfl) ?_
  obtain ⟨k1_, h⟩ := h
  refine q_callV X Y hl (cm_X4_holds h) mt_X4_holds mi_X4_holds ml_X4_57 (ci := 4) rfl k1_ (by decide) rfl rfl (by first | exact Nat.le_of_ble_eq_true rfl | simp [q_cat, q_catI, q_catJ, q_catR]) ⟨Nat.le_of_ble_eq_true rfl, Nat.le_of_ble_eq_true rfl⟩ ⟨Nat.le_of_ble_eq_true rfl, Nat.le_of_ble_eq_true rfl⟩ dX4_put_2 (fun r2_ S3_ H locs hp Y => ?_)
  obtain ⟨x4_, rfl, h⟩ := hp
  refine W.eq (g2 := F0 m 5 ls [.int x4_]) rfl ?_
  refine lv_if_eq (tgt := 54) hx hb dX4_put_5 (by decide) (fun c5_ => ?_) (fun c5_ => ?_)
  · replace h := h.1 c5_
    exact cb_X4_put_54 X Y (lv_sub hl [] rfl) h
  · replace h := h.2 c5_
    refine lv_bipush (v := 8) hx hb dX4_put_8 (by decide) ?_
    refine lv_iload_n hx hb dX4_put_10 rfl (lv_at hl 1 rfl) ?_
    refine lv_iconst (v := 3) hx hb dX4_put_11 (by decide) ?_
    refine lv_iand hx hb dX4_put_12 ?_
    refine lv_imul hx hb dX4_put_13 ?_
    refine lv_istore (i := 4) (lv' := [(4, .int ((8 : Int32) * (x1 &&& (3 : Int32)))), (0, .ref a0), (1, .int x1), (2, .int x2), (3, .int x3)]) hx hb dX4_put_14 hl (by decide) (by first | rfl | simp [q_cat, q_catI, q_catJ, q_catR]) (fun ls hl => ?_)
    refine lv_iload_n hx hb dX4_put_16 rfl (lv_at hl 3 rfl) ?_
    refine q_callS X Y hl (cm_X4_maskOf h) mt_X4_maskOf ms_X4_maskOf ml_X4_61 rfl rfl (by first | exact Nat.le_of_ble_eq_true rfl | simp [q_cat, q_catI, q_catJ, q_catR]) ⟨Nat.le_of_ble_eq_true rfl, Nat.le_of_ble_eq_true rfl⟩ ⟨Nat.le_of_ble_eq_true rfl, Nat.le_of_ble_eq_true rfl⟩ dX4_put_17 (fun r6_ S7_ H locs hp Y => ?_)
    obtain ⟨x8_, rfl, h⟩ := hp
    refine W.eq (g2 := F0 m 20 ls [.int x8_]) rfl ?_
    refine lv_iload hx hb dX4_put_20 (lv_at hl 0 rfl) ?_
    refine lv_ishl hx hb dX4_put_22 ?_
    refine lv_istore (i := 5) (lv' := [(5, .int (x8_ <<< (((8 : Int32) * (x1 &&& (3 : Int32))) &&& 31))), (4, .int ((8 : Int32) * (x1 &&& (3 : Int32)))), (0, .ref a0), (1, .int x1), (2, .int x2), (3, .int x3)]) hx hb dX4_put_23 hl (by decide) (by first | rfl | simp [q_cat, q_catI, q_catJ, q_catR]) (fun ls hl => ?_)
    refine lv_aload_n hx hb dX4_put_25 rfl (lv_at hl 2 rfl) ?_
    obtain ⟨k9_, h⟩ := h
    refine q_getP X Y kX4 1 rfl fl_X4_9 k9_ rfl dX4_put_26 ?_
    refine lv_iload_n hx hb dX4_put_29 rfl (lv_at hl 3 rfl) ?_
    refine lv_iconst (v := 2) hx hb dX4_put_30 (by decide) ?_
    refine lv_ishr hx hb dX4_put_31 ?_
    refine lv_aload_n hx hb dX4_put_32 rfl (lv_at hl 2 rfl) ?_
    refine q_getP X Y kX4 1 rfl fl_X4_9 k9_ rfl dX4_put_33 ?_
    refine lv_iload_n hx hb dX4_put_36 rfl (lv_at hl 3 rfl) ?_
    refine lv_iconst (v := 2) hx hb dX4_put_37 (by decide) ?_
    refine lv_ishr hx hb dX4_put_38 ?_
    obtain ⟨a10_, e11_, h⟩ := h
    refine q_nn [.int (x1 >>> ((2 : Int32) &&& 31))] e11_ ?_
    obtain ⟨k12_, h⟩ := h
    obtain ⟨i13_, h⟩ := h
    refine q_ild X Y k12_ i13_ dX4_put_39 ?_
    refine lv_iload hx hb dX4_put_40 (lv_at hl 0 rfl) ?_
    refine lv_iconst (v := (-1)) hx hb dX4_put_42 (by decide) ?_
    refine lv_ixor hx hb dX4_put_43 ?_
    refine lv_iand hx hb dX4_put_44 ?_
    refine lv_iload_n hx hb dX4_put_45 rfl (lv_at hl 5 rfl) ?_
    refine lv_iload hx hb dX4_put_46 (lv_at hl 1 rfl) ?_
    refine lv_ishl hx hb dX4_put_48 ?_
    refine lv_iload hx hb dX4_put_49 (lv_at hl 0 rfl) ?_
    refine lv_iand hx hb dX4_put_51 ?_
    refine lv_ior hx hb dX4_put_52 ?_
    refine q_nn [.int (((q_A S7_ a10_ (x1 >>> ((2 : Int32) &&& 31)).toNatClampNeg) &&& ((x8_ <<< (((8 : Int32) * (x1 &&& (3 : Int32))) &&& 31)) ^^^ (-1 : Int32))) ||| ((x3 <<< (((8 : Int32) * (x1 &&& (3 : Int32))) &&& 31)) &&& (x8_ <<< (((8 : Int32) * (x1 &&& (3 : Int32))) &&& 31)))), .int (x1 >>> ((2 : Int32) &&& 31))] e11_ ?_
    obtain ⟨i14_, h⟩ := h
    refine q_ist X Y k12_ i14_ dX4_put_53 (fun H locs Y => ?_)
    exact cb_X4_put_54 X Y (lv_sub hl [] rfl) h
-- X3_store
theorem ml_X3_74 : Cond.methodLink RX3 74 yX4_mayStore ∈ q_G := q_tb (i := 1496) (by decide +kernel) (by decide +kernel)
theorem mt_X4_mayStore : q_Mt yX4_mayStore cX4_mayStore 3 (some .boolean) 1 := ⟨q_tb (i := 1499) (by decide +kernel) (by decide +kernel), q_tb (i := 21) (by decide +kernel) (by decide +kernel), by decide +kernel, by decide +kernel, by decide +kernel⟩
theorem mi_X4_mayStore : Cond.instanceMethod yX4_mayStore ∈ q_G ∧ Cond.selects yX4_mayStore.cls yX4_mayStore yX4_mayStore ∈ q_G := ⟨q_tb (i := 1497) (by decide +kernel) (by decide +kernel), q_tb (i := 1498) (by decide +kernel) (by decide +kernel)⟩
theorem ml_X3_77 : Cond.methodLink RX3 77 yX4_put ∈ q_G := q_tb (i := 1500) (by decide +kernel) (by decide +kernel)
theorem mt_X4_put : q_Mt yX4_put cX4_put 6 none 3 := ⟨q_tb (i := 1503) (by decide +kernel) (by decide +kernel), q_tb (i := 21) (by decide +kernel) (by decide +kernel), by decide +kernel, by decide +kernel, by decide +kernel⟩
theorem mi_X4_put : Cond.instanceMethod yX4_put ∈ q_G ∧ Cond.selects yX4_put.cls yX4_put yX4_put ∈ q_G := ⟨q_tb (i := 1501) (by decide +kernel) (by decide +kernel), q_tb (i := 1502) (by decide +kernel) (by decide +kernel)⟩
theorem dX3_store_0 : decode cX3_store 0 = .ok (.iload_n 3, 1) := by decide +kernel
theorem dX3_store_1 : decode cX3_store 1 = .ok (.bipush 12, 2) := by decide +kernel
theorem dX3_store_3 : decode cX3_store 3 = .ok (.ishr, 1) := by decide +kernel
theorem dX3_store_4 : decode cX3_store 4 = .ok (.bipush 7, 2) := by decide +kernel
theorem dX3_store_6 : decode cX3_store 6 = .ok (.iand, 1) := by decide +kernel
theorem dX3_store_7 : decode cX3_store 7 = .ok (.istore 4, 2) := by decide +kernel
theorem dX3_store_9 : decode cX3_store 9 = .ok (.iload 4, 2) := by decide +kernel
theorem dX3_store_11 : decode cX3_store 11 = .ok (.iconst 2, 1) := by decide +kernel
theorem dX3_store_12 : decode cX3_store 12 = .ok (.if_icmp .le 5, 3) := by decide +kernel
theorem dX3_store_15 : decode cX3_store 15 = .ok (.iconst 0, 1) := by decide +kernel
theorem dX3_store_16 : decode cX3_store 16 = .ok (.ireturn, 1) := by decide +kernel
theorem dX3_store_17 : decode cX3_store 17 = .ok (.iconst 1, 1) := by decide +kernel
theorem dX3_store_18 : decode cX3_store 18 = .ok (.iload 4, 2) := by decide +kernel
theorem dX3_store_20 : decode cX3_store 20 = .ok (.ishl, 1) := by decide +kernel
theorem dX3_store_21 : decode cX3_store 21 = .ok (.istore 5, 2) := by decide +kernel
theorem dX3_store_23 : decode cX3_store 23 = .ok (.aload_n 1, 1) := by decide +kernel
theorem dX3_store_24 : decode cX3_store 24 = .ok (.getfield 38, 3) := by decide +kernel
theorem dX3_store_27 : decode cX3_store 27 = .ok (.iload_n 3, 1) := by decide +kernel
theorem dX3_store_28 : decode cX3_store 28 = .ok (.bipush 15, 2) := by decide +kernel
theorem dX3_store_30 : decode cX3_store 30 = .ok (.ishr, 1) := by decide +kernel
theorem dX3_store_31 : decode cX3_store 31 = .ok (.bipush 31, 2) := by decide +kernel
theorem dX3_store_33 : decode cX3_store 33 = .ok (.iand, 1) := by decide +kernel
theorem dX3_store_34 : decode cX3_store 34 = .ok (.iaload, 1) := by decide +kernel
theorem dX3_store_35 : decode cX3_store 35 = .ok (.iload_n 3, 1) := by decide +kernel
theorem dX3_store_36 : decode cX3_store 36 = .ok (.bipush 25, 2) := by decide +kernel
theorem dX3_store_38 : decode cX3_store 38 = .ok (.ishr, 1) := by decide +kernel
theorem dX3_store_39 : decode cX3_store 39 = .ok (.iconst 5, 1) := by decide +kernel
theorem dX3_store_40 : decode cX3_store 40 = .ok (.ishl, 1) := by decide +kernel
theorem dX3_store_41 : decode cX3_store 41 = .ok (.iload_n 3, 1) := by decide +kernel
theorem dX3_store_42 : decode cX3_store 42 = .ok (.bipush 7, 2) := by decide +kernel
theorem dX3_store_44 : decode cX3_store 44 = .ok (.ishr, 1) := by decide +kernel
theorem dX3_store_45 : decode cX3_store 45 = .ok (.bipush 31, 2) := by decide +kernel
theorem dX3_store_47 : decode cX3_store 47 = .ok (.iand, 1) := by decide +kernel
theorem dX3_store_48 : decode cX3_store 48 = .ok (.ior, 1) := by decide +kernel
theorem dX3_store_49 : decode cX3_store 49 = .ok (.iadd, 1) := by decide +kernel
theorem dX3_store_50 : decode cX3_store 50 = .ok (.istore 6, 2) := by decide +kernel
theorem dX3_store_52 : decode cX3_store 52 = .ok (.aload_n 0, 1) := by decide +kernel
theorem dX3_store_53 : decode cX3_store 53 = .ok (.iload 6, 2) := by decide +kernel
theorem dX3_store_55 : decode cX3_store 55 = .ok (.iload 5, 2) := by decide +kernel
theorem dX3_store_57 : decode cX3_store 57 = .ok (.aload_n 2, 1) := by decide +kernel
theorem dX3_store_58 : decode cX3_store 58 = .ok (.iload 6, 2) := by decide +kernel
theorem dX3_store_60 : decode cX3_store 60 = .ok (.invokevirtual 74, 3) := by decide +kernel
theorem dX3_store_63 : decode cX3_store 63 = .ok (.invokevirtual 70, 3) := by decide +kernel
theorem dX3_store_66 : decode cX3_store 66 = .ok (.istore 7, 2) := by decide +kernel
theorem dX3_store_68 : decode cX3_store 68 = .ok (.iload 7, 2) := by decide +kernel
theorem dX3_store_70 : decode cX3_store 70 = .ok (.iconst (-1), 1) := by decide +kernel
theorem dX3_store_71 : decode cX3_store 71 = .ok (.if_icmp .ne 33, 3) := by decide +kernel
theorem dX3_store_74 : decode cX3_store 74 = .ok (.aload_n 2, 1) := by decide +kernel
theorem dX3_store_75 : decode cX3_store 75 = .ok (.iload 6, 2) := by decide +kernel
theorem dX3_store_77 : decode cX3_store 77 = .ok (.iload 5, 2) := by decide +kernel
theorem dX3_store_79 : decode cX3_store 79 = .ok (.aload_n 1, 1) := by decide +kernel
theorem dX3_store_80 : decode cX3_store 80 = .ok (.getfield 38, 3) := by decide +kernel
theorem dX3_store_83 : decode cX3_store 83 = .ok (.iload_n 3, 1) := by decide +kernel
theorem dX3_store_84 : decode cX3_store 84 = .ok (.bipush 20, 2) := by decide +kernel
theorem dX3_store_86 : decode cX3_store 86 = .ok (.ishr, 1) := by decide +kernel
theorem dX3_store_87 : decode cX3_store 87 = .ok (.bipush 31, 2) := by decide +kernel
theorem dX3_store_89 : decode cX3_store 89 = .ok (.iand, 1) := by decide +kernel
theorem dX3_store_90 : decode cX3_store 90 = .ok (.iaload, 1) := by decide +kernel
theorem dX3_store_91 : decode cX3_store 91 = .ok (.invokevirtual 77, 3) := by decide +kernel
theorem dX3_store_94 : decode cX3_store 94 = .ok (.aload_n 1, 1) := by decide +kernel
theorem dX3_store_95 : decode cX3_store 95 = .ok (.dup, 1) := by decide +kernel
theorem dX3_store_96 : decode cX3_store 96 = .ok (.getfield 9, 3) := by decide +kernel
theorem dX3_store_99 : decode cX3_store 99 = .ok (.iconst 4, 1) := by decide +kernel
theorem dX3_store_100 : decode cX3_store 100 = .ok (.iadd, 1) := by decide +kernel
theorem dX3_store_101 : decode cX3_store 101 = .ok (.putfield 9, 3) := by decide +kernel
theorem dX3_store_104 : decode cX3_store 104 = .ok (.iload 7, 2) := by decide +kernel
theorem dX3_store_106 : decode cX3_store 106 = .ok (.ireturn, 1) := by decide +kernel
def wb_X3_store_104  (S : q_S) (x7 : Int32) (Q : Option Value → q_S → Prop) : Prop := Q (some (.int x7)) S
set_option maxHeartbeats 4000000 in
set_option maxRecDepth 100000 in
theorem cb_X3_store_104 {p : Program} {l : Launch} {e : Env} {s : State} {m : MethodId} {args : Array Value} {below : List Frame} {meth : Method} {c : Code} {D : va_G} {cy : Nat → ClassId} {lo : Nat}  {S : q_S} {x7 : Int32} {Q : Option Value → q_S → Prop} {H : Heap} {locs : List Loc} {ls : Array Slot} (X : q_X p s m args meth c RX3 cX3_store 8 (some .int) D cy lo)  (Y : q_Y D cy lo s S H locs) (hl : lv_has ls 8 [(7, .int x7)]) (h : wb_X3_store_104 S x7 Q) : W p l e ({ frames := 2, cells := 0, slots := 0, locals := 46 } : Room) s m args below meth c H locs 0 0 (MQ below (q_Q D cy lo Q) args s 0 0 (fun q => lo ≤ q)) (F0 m 104 ls []) := by
  have hx := X.1
  have hb := X.2.1
  unfold wb_X3_store_104 at h
  refine lv_iload hx hb dX3_store_104 (lv_at hl 0 rfl) ?_
  exact q_iret X Y rfl (Nat.le_refl _) (Nat.le_refl _) h dX3_store_106
def wm_X3_store (S : q_S) (a0 : Nat) (r1 : Option Nat) (r2 : Option Nat) (x3 : Int32) (Q : Option Value → q_S → Prop) : Prop := ((((x3 >>> ((12 : Int32) &&& 31)) &&& (7 : Int32)) ≤ (2 : Int32) → (∃ a2_ : Nat, r1 = some a2_ ∧ (q_K S a2_ = 8 ∧ (∃ a5_ : Nat, (q_P S 1411 a2_) = some a5_ ∧ (q_K S a5_ = 21 ∧ (vp_in ((x3 >>> ((15 : Int32) &&& 31)) &&& (31 : Int32)) (q_N S a5_) ∧ (∃ a9_ : Nat, r2 = some a9_ ∧ (q_K S a9_ = 5 ∧ (wm_X4_mayStore S a9_ ((q_A S a5_ ((x3 >>> ((15 : Int32) &&& 31)) &&& (31 : Int32)).toNatClampNeg) + (((x3 >>> ((25 : Int32) &&& 31)) <<< ((5 : Int32) &&& 31)) ||| ((x3 >>> ((7 : Int32) &&& 31)) &&& (31 : Int32)))) (fun r12_ S13_ => ∃ x14_ : Int32, r12_ = some (.int x14_) ∧ (q_K S13_ a0 = 4 ∧ (wm_X3_wrongPlace S13_ a0 ((q_A S a5_ ((x3 >>> ((15 : Int32) &&& 31)) &&& (31 : Int32)).toNatClampNeg) + (((x3 >>> ((25 : Int32) &&& 31)) <<< ((5 : Int32) &&& 31)) ||| ((x3 >>> ((7 : Int32) &&& 31)) &&& (31 : Int32)))) ((1 : Int32) <<< (((x3 >>> ((12 : Int32) &&& 31)) &&& (7 : Int32)) &&& 31)) x14_ (fun r16_ S17_ => ∃ x18_ : Int32, r16_ = some (.int x18_) ∧ (((¬ x18_ = (-1 : Int32) → (wb_X3_store_104 S17_ x18_ Q)) ∧ (x18_ = (-1 : Int32) → (q_K S17_ a2_ = 8 ∧ (∃ a21_ : Nat, (q_P S17_ 1411 a2_) = some a21_ ∧ (q_K S17_ a21_ = 21 ∧ (vp_in ((x3 >>> ((20 : Int32) &&& 31)) &&& (31 : Int32)) (q_N S17_ a21_) ∧ (q_K S17_ a9_ = 5 ∧ (wm_X4_put S17_ a9_ ((q_A S a5_ ((x3 >>> ((15 : Int32) &&& 31)) &&& (31 : Int32)).toNatClampNeg) + (((x3 >>> ((25 : Int32) &&& 31)) <<< ((5 : Int32) &&& 31)) ||| ((x3 >>> ((7 : Int32) &&& 31)) &&& (31 : Int32)))) ((1 : Int32) <<< (((x3 >>> ((12 : Int32) &&& 31)) &&& (7 : Int32)) &&& 31)) (q_A S17_ a21_ ((x3 >>> ((20 : Int32) &&& 31)) &&& (31 : Int32)).toNatClampNeg) (fun r26_ S27_ => r26_ = none ∧ (q_K S27_ a2_ = 8 ∧ (wb_X3_store_104 (qs_I S27_ 1410 a2_ ((q_I S27_ 1410 a2_) + (4 : Int32))) x18_ Q))))))))))))))))))))))))) ∧ (¬ ((x3 >>> ((12 : Int32) &&& 31)) &&& (7 : Int32)) ≤ (2 : Int32) → (Q (some (.int (0 : Int32))) S)))
set_option maxHeartbeats 4000000 in
set_option maxRecDepth 100000 in
theorem cm_X3_store {l : Launch} {D : va_G} {cy : Nat → ClassId} {lo : Nat} {S : q_S} {a0 : Nat} {r1 : Option Nat} {r2 : Option Nat} {x3 : Int32} {Q : Option Value → q_S → Prop} (h : wm_X3_store S a0 r1 r2 x3 Q) : q_Met l D cy lo yX3_store cX3_store 8 (some .int) 2 46 0 0 [.ref a0, va_rf r1, va_rf r2, .int x3] S Q := by
  refine q_body (by decide) (by first | exact Nat.le_of_ble_eq_true rfl | simp [lg_sl, q_cat, q_catI, q_catJ, q_catR]) ?_
  intro p e s m below meth c ls X hnm Y hl
  have hx := X.1
  have hb := X.2.1
  have hl : lv_has ls 8 [(0, .ref a0), (1, va_rf r1), (2, va_rf r2), (3, .int x3)] := by first | exact hl | simpa [lv_args, q_cat, q_catI, q_catJ, q_catR] using hl
  generalize hargs : ([.ref a0, va_rf r1, va_rf r2, .int x3] : List Value).toArray = args at X ⊢
  unfold wm_X3_store at h
  refine lv_iload_n hx hb dX3_store_0 rfl (lv_at hl 3 rfl) ?_
  refine lv_bipush (v := 12) hx hb dX3_store_1 (by decide) ?_
  refine lv_ishr hx hb dX3_store_3 ?_
  refine lv_bipush (v := 7) hx hb dX3_store_4 (by decide) ?_
  refine lv_iand hx hb dX3_store_6 ?_
  refine lv_istore (i := 4) (lv' := [(4, .int ((x3 >>> ((12 : Int32) &&& 31)) &&& (7 : Int32))), (0, .ref a0), (1, va_rf r1), (2, va_rf r2), (3, .int x3)]) hx hb dX3_store_7 hl (by decide) (by first | rfl | simp [q_cat, q_catI, q_catJ, q_catR]) (fun ls hl => ?_)
  refine lv_iload hx hb dX3_store_9 (lv_at hl 0 rfl) ?_
  refine lv_iconst (v := 2) hx hb dX3_store_11 (by decide) ?_
  refine lv_icmp_le (tgt := 17) hx hb dX3_store_12 (by decide) (fun c1_ => ?_) (fun c1_ => ?_)
  · replace h := h.1 c1_
    refine lv_iconst (v := 1) hx hb dX3_store_17 (by decide) ?_
    refine lv_iload hx hb dX3_store_18 (lv_at hl 0 rfl) ?_
    refine lv_ishl hx hb dX3_store_20 ?_
    refine lv_istore (i := 5) (lv' := [(5, .int ((1 : Int32) <<< (((x3 >>> ((12 : Int32) &&& 31)) &&& (7 : Int32)) &&& 31))), (4, .int ((x3 >>> ((12 : Int32) &&& 31)) &&& (7 : Int32))), (0, .ref a0), (1, va_rf r1), (2, va_rf r2), (3, .int x3)]) hx hb dX3_store_21 hl (by decide) (by first | rfl | simp [q_cat, q_catI, q_catJ, q_catR]) (fun ls hl => ?_)
    refine q_aload_n hx hb dX3_store_23 rfl (lv_at hl 3 rfl) ?_
    obtain ⟨a2_, e3_, h⟩ := h
    refine q_nn [] e3_ ?_
    obtain ⟨k4_, h⟩ := h
    refine q_getP X Y kX7 11 rfl fl_X3_38 k4_ rfl dX3_store_24 ?_
    refine lv_iload_n hx hb dX3_store_27 rfl (lv_at hl 5 rfl) ?_
    refine lv_bipush (v := 15) hx hb dX3_store_28 (by decide) ?_
    refine lv_ishr hx hb dX3_store_30 ?_
    refine lv_bipush (v := 31) hx hb dX3_store_31 (by decide) ?_
    refine lv_iand hx hb dX3_store_33 ?_
    obtain ⟨a5_, e6_, h⟩ := h
    refine q_nn [.int ((x3 >>> ((15 : Int32) &&& 31)) &&& (31 : Int32))] e6_ ?_
    obtain ⟨k7_, h⟩ := h
    obtain ⟨i8_, h⟩ := h
    refine q_ild X Y k7_ i8_ dX3_store_34 ?_
    refine lv_iload_n hx hb dX3_store_35 rfl (lv_at hl 5 rfl) ?_
    refine lv_bipush (v := 25) hx hb dX3_store_36 (by decide) ?_
    refine lv_ishr hx hb dX3_store_38 ?_
    refine lv_iconst (v := 5) hx hb dX3_store_39 (by decide) ?_
    refine lv_ishl hx hb dX3_store_40 ?_
    refine lv_iload_n hx hb dX3_store_41 rfl (lv_at hl 5 rfl) ?_
    refine lv_bipush (v := 7) hx hb dX3_store_42 (by decide) ?_
    refine lv_ishr hx hb dX3_store_44 ?_
    refine lv_bipush (v := 31) hx hb dX3_store_45 (by decide) ?_
    refine lv_iand hx hb dX3_store_47 ?_
    refine lv_ior hx hb dX3_store_48 ?_
    refine lv_iadd hx hb dX3_store_49 ?_
    refine lv_istore (i := 6) (lv' := [(6, .int ((q_A S a5_ ((x3 >>> ((15 : Int32) &&& 31)) &&& (31 : Int32)).toNatClampNeg) + (((x3 >>> ((25 : Int32) &&& 31)) <<< ((5 : Int32) &&& 31)) ||| ((x3 >>> ((7 : Int32) &&& 31)) &&& (31 : Int32))))), (5, .int ((1 : Int32) <<< (((x3 >>> ((12 : Int32) &&& 31)) &&& (7 : Int32)) &&& 31))), (4, .int ((x3 >>> ((12 : Int32) &&& 31)) &&& (7 : Int32))), (0, .ref a0), (1, va_rf r1), (2, va_rf r2), (3, .int x3)]) hx hb dX3_store_50 hl (by decide) (by first | rfl | simp [q_cat, q_catI, q_catJ, q_catR]) (fun ls hl => ?_)
    refine lv_aload_n hx hb dX3_store_52 rfl (lv_at hl 3 rfl) ?_
    refine lv_iload hx hb dX3_store_53 (lv_at hl 0 rfl) ?_
    refine lv_iload hx hb dX3_store_55 (lv_at hl 1 rfl) ?_
    refine q_aload_n hx hb dX3_store_57 rfl (lv_at hl 5 rfl) ?_
    refine lv_iload hx hb dX3_store_58 (lv_at hl 0 rfl) ?_
    obtain ⟨a9_, e10_, h⟩ := h
    refine q_nn [.int ((q_A S a5_ ((x3 >>> ((15 : Int32) &&& 31)) &&& (31 : Int32)).toNatClampNeg) + (((x3 >>> ((25 : Int32) &&& 31)) <<< ((5 : Int32) &&& 31)) ||| ((x3 >>> ((7 : Int32) &&& 31)) &&& (31 : Int32))))] e10_ ?_
    obtain ⟨k11_, h⟩ := h
    refine q_callV X Y hl (cm_X4_mayStore h) mt_X4_mayStore mi_X4_mayStore ml_X3_74 (ci := 4) rfl k11_ (by decide) rfl rfl (by first | exact Nat.le_of_ble_eq_true rfl | simp [q_cat, q_catI, q_catJ, q_catR]) ⟨Nat.le_of_ble_eq_true rfl, Nat.le_of_ble_eq_true rfl⟩ ⟨Nat.le_of_ble_eq_true rfl, Nat.le_of_ble_eq_true rfl⟩ dX3_store_60 (fun r12_ S13_ H locs hp Y => ?_)
    obtain ⟨x14_, rfl, h⟩ := hp
    refine W.eq (g2 := F0 m 63 ls [.int x14_, .int ((1 : Int32) <<< (((x3 >>> ((12 : Int32) &&& 31)) &&& (7 : Int32)) &&& 31)), .int ((q_A S a5_ ((x3 >>> ((15 : Int32) &&& 31)) &&& (31 : Int32)).toNatClampNeg) + (((x3 >>> ((25 : Int32) &&& 31)) <<< ((5 : Int32) &&& 31)) ||| ((x3 >>> ((7 : Int32) &&& 31)) &&& (31 : Int32)))), .ref a0]) rfl ?_
    obtain ⟨k15_, h⟩ := h
    refine q_callV X Y hl (cm_X3_wrongPlace h) mt_X3_wrongPlace mi_X3_wrongPlace ml_X3_70 (ci := 3) rfl k15_ (by decide) rfl rfl (by first | exact Nat.le_of_ble_eq_true rfl | simp [q_cat, q_catI, q_catJ, q_catR]) ⟨Nat.le_of_ble_eq_true rfl, Nat.le_of_ble_eq_true rfl⟩ ⟨Nat.le_of_ble_eq_true rfl, Nat.le_of_ble_eq_true rfl⟩ dX3_store_63 (fun r16_ S17_ H locs hp Y => ?_)
    obtain ⟨x18_, rfl, h⟩ := hp
    refine W.eq (g2 := F0 m 66 ls [.int x18_]) rfl ?_
    refine lv_istore (i := 7) (lv' := [(7, .int x18_), (6, .int ((q_A S a5_ ((x3 >>> ((15 : Int32) &&& 31)) &&& (31 : Int32)).toNatClampNeg) + (((x3 >>> ((25 : Int32) &&& 31)) <<< ((5 : Int32) &&& 31)) ||| ((x3 >>> ((7 : Int32) &&& 31)) &&& (31 : Int32))))), (5, .int ((1 : Int32) <<< (((x3 >>> ((12 : Int32) &&& 31)) &&& (7 : Int32)) &&& 31))), (4, .int ((x3 >>> ((12 : Int32) &&& 31)) &&& (7 : Int32))), (0, .ref a0), (1, va_rf r1), (2, va_rf r2), (3, .int x3)]) hx hb dX3_store_66 hl (by decide) (by first | rfl | simp [q_cat, q_catI, q_catJ, q_catR]) (fun ls hl => ?_)
    refine lv_iload hx hb dX3_store_68 (lv_at hl 0 rfl) ?_
    refine lv_iconst (v := (-1)) hx hb dX3_store_70 (by decide) ?_
    refine lv_icmp_ne (tgt := 104) hx hb dX3_store_71 (by decide) (fun c19_ => ?_) (fun c19_ => ?_)
    · replace h := h.1 c19_
      exact cb_X3_store_104 X Y (lv_sub hl [0] rfl) h
    · replace h := h.2 c19_
      refine q_aload_n hx hb dX3_store_74 rfl (lv_at hl 6 rfl) ?_
      refine lv_iload hx hb dX3_store_75 (lv_at hl 1 rfl) ?_
      refine lv_iload hx hb dX3_store_77 (lv_at hl 2 rfl) ?_
      refine q_aload_n hx hb dX3_store_79 rfl (lv_at hl 5 rfl) ?_
      refine q_nn [] e3_ ?_
      obtain ⟨k20_, h⟩ := h
      refine q_getP X Y kX7 11 rfl fl_X3_38 k20_ rfl dX3_store_80 ?_
      refine lv_iload_n hx hb dX3_store_83 rfl (lv_at hl 7 rfl) ?_
      refine lv_bipush (v := 20) hx hb dX3_store_84 (by decide) ?_
      refine lv_ishr hx hb dX3_store_86 ?_
      refine lv_bipush (v := 31) hx hb dX3_store_87 (by decide) ?_
      refine lv_iand hx hb dX3_store_89 ?_
      obtain ⟨a21_, e22_, h⟩ := h
      refine q_nn [.int ((x3 >>> ((20 : Int32) &&& 31)) &&& (31 : Int32))] e22_ ?_
      obtain ⟨k23_, h⟩ := h
      obtain ⟨i24_, h⟩ := h
      refine q_ild X Y k23_ i24_ dX3_store_90 ?_
      refine q_nn [.int (q_A S17_ a21_ ((x3 >>> ((20 : Int32) &&& 31)) &&& (31 : Int32)).toNatClampNeg), .int ((1 : Int32) <<< (((x3 >>> ((12 : Int32) &&& 31)) &&& (7 : Int32)) &&& 31)), .int ((q_A S a5_ ((x3 >>> ((15 : Int32) &&& 31)) &&& (31 : Int32)).toNatClampNeg) + (((x3 >>> ((25 : Int32) &&& 31)) <<< ((5 : Int32) &&& 31)) ||| ((x3 >>> ((7 : Int32) &&& 31)) &&& (31 : Int32))))] e10_ ?_
      obtain ⟨k25_, h⟩ := h
      refine q_callV X Y hl (cm_X4_put h) mt_X4_put mi_X4_put ml_X3_77 (ci := 4) rfl k25_ (by decide) rfl rfl (by first | exact Nat.le_of_ble_eq_true rfl | simp [q_cat, q_catI, q_catJ, q_catR]) ⟨Nat.le_of_ble_eq_true rfl, Nat.le_of_ble_eq_true rfl⟩ ⟨Nat.le_of_ble_eq_true rfl, Nat.le_of_ble_eq_true rfl⟩ dX3_store_91 (fun r26_ S27_ H locs hp Y => ?_)
      obtain ⟨rfl, h⟩ := hp
      refine W.eq (g2 := F0 m 94 ls []) rfl ?_
      refine q_aload_n hx hb dX3_store_94 rfl (lv_at hl 5 rfl) ?_
      refine lv_dup hx hb dX3_store_95 (q_cat _) ?_
      refine q_nn [] e3_ ?_
      obtain ⟨k28_, h⟩ := h
      refine q_getI X Y kX7 10 rfl fl_X3_9 k28_ dX3_store_96 ?_
      refine lv_iconst (v := 4) hx hb dX3_store_99 (by decide) ?_
      refine lv_iadd hx hb dX3_store_100 ?_
      refine q_nn [.int ((q_I S27_ 1410 a2_) + (4 : Int32))] e3_ ?_
      refine q_putI X Y kX7 10 rfl fl_X3_9 k28_ .int rfl ⟨rfl, rfl⟩ rfl dX3_store_101 (fun H locs Y => ?_)
      exact cb_X3_store_104 X Y (lv_sub hl [0] rfl) h
  · replace h := h.2 c1_
    refine lv_iconst (v := 0) hx hb dX3_store_15 (by decide) ?_
    exact q_iret X Y rfl (Nat.le_refl _) (Nat.le_refl _) h dX3_store_16
-- X3_reckon
theorem dX3_reckon_0 : decode cX3_reckon 0 = .ok (.iload_n 1, 1) := by decide +kernel
theorem dX3_reckon_1 : decode cX3_reckon 1 = .ok (.tableswitch 126 0 6 #[43, 59, 67, 79, 94, 99, 121], 43) := by decide +kernel
theorem dX3_reckon_44 : decode cX3_reckon 44 = .ok (.iload_n 2, 1) := by decide +kernel
theorem dX3_reckon_45 : decode cX3_reckon 45 = .ok (.ifCond .eq 10, 3) := by decide +kernel
theorem dX3_reckon_48 : decode cX3_reckon 48 = .ok (.iload_n 3, 1) := by decide +kernel
theorem dX3_reckon_49 : decode cX3_reckon 49 = .ok (.iload 4, 2) := by decide +kernel
theorem dX3_reckon_51 : decode cX3_reckon 51 = .ok (.isub, 1) := by decide +kernel
theorem dX3_reckon_52 : decode cX3_reckon 52 = .ok (.goto 7, 3) := by decide +kernel
theorem dX3_reckon_55 : decode cX3_reckon 55 = .ok (.iload_n 3, 1) := by decide +kernel
theorem dX3_reckon_56 : decode cX3_reckon 56 = .ok (.iload 4, 2) := by decide +kernel
theorem dX3_reckon_58 : decode cX3_reckon 58 = .ok (.iadd, 1) := by decide +kernel
theorem dX3_reckon_59 : decode cX3_reckon 59 = .ok (.ireturn, 1) := by decide +kernel
theorem dX3_reckon_60 : decode cX3_reckon 60 = .ok (.iload_n 3, 1) := by decide +kernel
theorem dX3_reckon_61 : decode cX3_reckon 61 = .ok (.iload 4, 2) := by decide +kernel
theorem dX3_reckon_63 : decode cX3_reckon 63 = .ok (.bipush 31, 2) := by decide +kernel
theorem dX3_reckon_65 : decode cX3_reckon 65 = .ok (.iand, 1) := by decide +kernel
theorem dX3_reckon_66 : decode cX3_reckon 66 = .ok (.ishl, 1) := by decide +kernel
theorem dX3_reckon_67 : decode cX3_reckon 67 = .ok (.ireturn, 1) := by decide +kernel
theorem dX3_reckon_68 : decode cX3_reckon 68 = .ok (.iload_n 3, 1) := by decide +kernel
theorem dX3_reckon_69 : decode cX3_reckon 69 = .ok (.iload 4, 2) := by decide +kernel
theorem dX3_reckon_71 : decode cX3_reckon 71 = .ok (.if_icmp .ge 7, 3) := by decide +kernel
theorem dX3_reckon_74 : decode cX3_reckon 74 = .ok (.iconst 1, 1) := by decide +kernel
theorem dX3_reckon_75 : decode cX3_reckon 75 = .ok (.goto 4, 3) := by decide +kernel
theorem dX3_reckon_78 : decode cX3_reckon 78 = .ok (.iconst 0, 1) := by decide +kernel
theorem dX3_reckon_79 : decode cX3_reckon 79 = .ok (.ireturn, 1) := by decide +kernel
theorem dX3_reckon_80 : decode cX3_reckon 80 = .ok (.iload_n 3, 1) := by decide +kernel
theorem dX3_reckon_81 : decode cX3_reckon 81 = .ok (.iload 4, 2) := by decide +kernel
theorem dX3_reckon_83 : decode cX3_reckon 83 = .ok (.invokestatic 59, 3) := by decide +kernel
theorem dX3_reckon_86 : decode cX3_reckon 86 = .ok (.ifCond .ge 7, 3) := by decide +kernel
theorem dX3_reckon_89 : decode cX3_reckon 89 = .ok (.iconst 1, 1) := by decide +kernel
theorem dX3_reckon_90 : decode cX3_reckon 90 = .ok (.goto 4, 3) := by decide +kernel
theorem dX3_reckon_93 : decode cX3_reckon 93 = .ok (.iconst 0, 1) := by decide +kernel
theorem dX3_reckon_94 : decode cX3_reckon 94 = .ok (.ireturn, 1) := by decide +kernel
theorem dX3_reckon_95 : decode cX3_reckon 95 = .ok (.iload_n 3, 1) := by decide +kernel
theorem dX3_reckon_96 : decode cX3_reckon 96 = .ok (.iload 4, 2) := by decide +kernel
theorem dX3_reckon_98 : decode cX3_reckon 98 = .ok (.ixor, 1) := by decide +kernel
theorem dX3_reckon_99 : decode cX3_reckon 99 = .ok (.ireturn, 1) := by decide +kernel
theorem dX3_reckon_100 : decode cX3_reckon 100 = .ok (.iload_n 2, 1) := by decide +kernel
theorem dX3_reckon_101 : decode cX3_reckon 101 = .ok (.ifCond .eq 13, 3) := by decide +kernel
theorem dX3_reckon_104 : decode cX3_reckon 104 = .ok (.iload_n 3, 1) := by decide +kernel
theorem dX3_reckon_105 : decode cX3_reckon 105 = .ok (.iload 4, 2) := by decide +kernel
theorem dX3_reckon_107 : decode cX3_reckon 107 = .ok (.bipush 31, 2) := by decide +kernel
theorem dX3_reckon_109 : decode cX3_reckon 109 = .ok (.iand, 1) := by decide +kernel
theorem dX3_reckon_110 : decode cX3_reckon 110 = .ok (.ishr, 1) := by decide +kernel
theorem dX3_reckon_111 : decode cX3_reckon 111 = .ok (.goto 10, 3) := by decide +kernel
theorem dX3_reckon_114 : decode cX3_reckon 114 = .ok (.iload_n 3, 1) := by decide +kernel
theorem dX3_reckon_115 : decode cX3_reckon 115 = .ok (.iload 4, 2) := by decide +kernel
theorem dX3_reckon_117 : decode cX3_reckon 117 = .ok (.bipush 31, 2) := by decide +kernel
theorem dX3_reckon_119 : decode cX3_reckon 119 = .ok (.iand, 1) := by decide +kernel
theorem dX3_reckon_120 : decode cX3_reckon 120 = .ok (.iushr, 1) := by decide +kernel
theorem dX3_reckon_121 : decode cX3_reckon 121 = .ok (.ireturn, 1) := by decide +kernel
theorem dX3_reckon_122 : decode cX3_reckon 122 = .ok (.iload_n 3, 1) := by decide +kernel
theorem dX3_reckon_123 : decode cX3_reckon 123 = .ok (.iload 4, 2) := by decide +kernel
theorem dX3_reckon_125 : decode cX3_reckon 125 = .ok (.ior, 1) := by decide +kernel
theorem dX3_reckon_126 : decode cX3_reckon 126 = .ok (.ireturn, 1) := by decide +kernel
theorem dX3_reckon_127 : decode cX3_reckon 127 = .ok (.iload_n 3, 1) := by decide +kernel
theorem dX3_reckon_128 : decode cX3_reckon 128 = .ok (.iload 4, 2) := by decide +kernel
theorem dX3_reckon_130 : decode cX3_reckon 130 = .ok (.iand, 1) := by decide +kernel
theorem dX3_reckon_131 : decode cX3_reckon 131 = .ok (.ireturn, 1) := by decide +kernel
def wb_X3_reckon_121  (S : q_S) (xs0 : Int32) (Q : Option Value → q_S → Prop) : Prop := Q (some (.int xs0)) S
set_option maxHeartbeats 4000000 in
set_option maxRecDepth 100000 in
theorem cb_X3_reckon_121 {p : Program} {l : Launch} {e : Env} {s : State} {m : MethodId} {args : Array Value} {below : List Frame} {meth : Method} {c : Code} {D : va_G} {cy : Nat → ClassId} {lo : Nat}  {S : q_S} {xs0 : Int32} {Q : Option Value → q_S → Prop} {H : Heap} {locs : List Loc} {ls : Array Slot} (X : q_X p s m args meth c RX3 cX3_reckon 5 (some .int) D cy lo)  (Y : q_Y D cy lo s S H locs) (hl : lv_has ls 5 []) (h : wb_X3_reckon_121 S xs0 Q) : W p l e ({ frames := 2, cells := 0, slots := 0, locals := 42 } : Room) s m args below meth c H locs 0 0 (MQ below (q_Q D cy lo Q) args s 0 0 (fun q => lo ≤ q)) (F0 m 121 ls [.int xs0]) := by
  have hx := X.1
  have hb := X.2.1
  unfold wb_X3_reckon_121 at h
  exact q_iret X Y rfl (Nat.le_refl _) (Nat.le_refl _) h dX3_reckon_121
def wb_X3_reckon_94  (S : q_S) (xs0 : Int32) (Q : Option Value → q_S → Prop) : Prop := Q (some (.int xs0)) S
set_option maxHeartbeats 4000000 in
set_option maxRecDepth 100000 in
theorem cb_X3_reckon_94 {p : Program} {l : Launch} {e : Env} {s : State} {m : MethodId} {args : Array Value} {below : List Frame} {meth : Method} {c : Code} {D : va_G} {cy : Nat → ClassId} {lo : Nat}  {S : q_S} {xs0 : Int32} {Q : Option Value → q_S → Prop} {H : Heap} {locs : List Loc} {ls : Array Slot} (X : q_X p s m args meth c RX3 cX3_reckon 5 (some .int) D cy lo)  (Y : q_Y D cy lo s S H locs) (hl : lv_has ls 5 []) (h : wb_X3_reckon_94 S xs0 Q) : W p l e ({ frames := 2, cells := 0, slots := 0, locals := 42 } : Room) s m args below meth c H locs 0 0 (MQ below (q_Q D cy lo Q) args s 0 0 (fun q => lo ≤ q)) (F0 m 94 ls [.int xs0]) := by
  have hx := X.1
  have hb := X.2.1
  unfold wb_X3_reckon_94 at h
  exact q_iret X Y rfl (Nat.le_refl _) (Nat.le_refl _) h dX3_reckon_94
def wb_X3_reckon_79  (S : q_S) (xs0 : Int32) (Q : Option Value → q_S → Prop) : Prop := Q (some (.int xs0)) S
set_option maxHeartbeats 4000000 in
set_option maxRecDepth 100000 in
theorem cb_X3_reckon_79 {p : Program} {l : Launch} {e : Env} {s : State} {m : MethodId} {args : Array Value} {below : List Frame} {meth : Method} {c : Code} {D : va_G} {cy : Nat → ClassId} {lo : Nat}  {S : q_S} {xs0 : Int32} {Q : Option Value → q_S → Prop} {H : Heap} {locs : List Loc} {ls : Array Slot} (X : q_X p s m args meth c RX3 cX3_reckon 5 (some .int) D cy lo)  (Y : q_Y D cy lo s S H locs) (hl : lv_has ls 5 []) (h : wb_X3_reckon_79 S xs0 Q) : W p l e ({ frames := 2, cells := 0, slots := 0, locals := 42 } : Room) s m args below meth c H locs 0 0 (MQ below (q_Q D cy lo Q) args s 0 0 (fun q => lo ≤ q)) (F0 m 79 ls [.int xs0]) := by
  have hx := X.1
  have hb := X.2.1
  unfold wb_X3_reckon_79 at h
  exact q_iret X Y rfl (Nat.le_refl _) (Nat.le_refl _) h dX3_reckon_79
def wb_X3_reckon_59  (S : q_S) (xs0 : Int32) (Q : Option Value → q_S → Prop) : Prop := Q (some (.int xs0)) S
set_option maxHeartbeats 4000000 in
set_option maxRecDepth 100000 in
theorem cb_X3_reckon_59 {p : Program} {l : Launch} {e : Env} {s : State} {m : MethodId} {args : Array Value} {below : List Frame} {meth : Method} {c : Code} {D : va_G} {cy : Nat → ClassId} {lo : Nat}  {S : q_S} {xs0 : Int32} {Q : Option Value → q_S → Prop} {H : Heap} {locs : List Loc} {ls : Array Slot} (X : q_X p s m args meth c RX3 cX3_reckon 5 (some .int) D cy lo)  (Y : q_Y D cy lo s S H locs) (hl : lv_has ls 5 []) (h : wb_X3_reckon_59 S xs0 Q) : W p l e ({ frames := 2, cells := 0, slots := 0, locals := 42 } : Room) s m args below meth c H locs 0 0 (MQ below (q_Q D cy lo Q) args s 0 0 (fun q => lo ≤ q)) (F0 m 59 ls [.int xs0]) := by
  have hx := X.1
  have hb := X.2.1
  unfold wb_X3_reckon_59 at h
  exact q_iret X Y rfl (Nat.le_refl _) (Nat.le_refl _) h dX3_reckon_59
def wm_X3_reckon (S : q_S) (a0 : Nat) (x1 : Int32) (x2 : Int32) (x3 : Int32) (x4 : Int32) (Q : Option Value → q_S → Prop) : Prop := (((x1.toInt < 0 ∨ 6 < x1.toInt) → (Q (some (.int (x3 &&& x4))) S)) ∧ ((x1 = (0 : Int32)) → (((x2 = 0 → (wb_X3_reckon_59 S (x3 + x4) Q)) ∧ (¬ x2 = 0 → (wb_X3_reckon_59 S (x3 - x4) Q))))) ∧ ((x1 = (1 : Int32)) → (Q (some (.int (x3 <<< ((x4 &&& (31 : Int32)) &&& 31)))) S)) ∧ ((x1 = (2 : Int32)) → (((x4 ≤ x3 → (wb_X3_reckon_79 S (0 : Int32) Q)) ∧ (¬ x4 ≤ x3 → (wb_X3_reckon_79 S (1 : Int32) Q))))) ∧ ((x1 = (3 : Int32)) → (wm_J6_compareUnsigned_7cf53 S x3 x4 (fun r3_ S4_ => ∃ x5_ : Int32, r3_ = some (.int x5_) ∧ (((0 ≤ x5_ → (wb_X3_reckon_94 S4_ (0 : Int32) Q)) ∧ (¬ 0 ≤ x5_ → (wb_X3_reckon_94 S4_ (1 : Int32) Q))))))) ∧ ((x1 = (4 : Int32)) → (Q (some (.int (x3 ^^^ x4))) S)) ∧ ((x1 = (5 : Int32)) → (((x2 = 0 → (wb_X3_reckon_121 S ((x3.toUInt32 >>> ((x4 &&& (31 : Int32)).toUInt32 &&& Int32.toUInt32 31)).toInt32) Q)) ∧ (¬ x2 = 0 → (wb_X3_reckon_121 S (x3 >>> ((x4 &&& (31 : Int32)) &&& 31)) Q))))) ∧ ((x1 = (6 : Int32)) → (Q (some (.int (x3 ||| x4))) S)))
set_option maxHeartbeats 4000000 in
set_option maxRecDepth 100000 in
theorem cm_X3_reckon {l : Launch} {D : va_G} {cy : Nat → ClassId} {lo : Nat} {S : q_S} {a0 : Nat} {x1 : Int32} {x2 : Int32} {x3 : Int32} {x4 : Int32} {Q : Option Value → q_S → Prop} (h : wm_X3_reckon S a0 x1 x2 x3 x4 Q) : q_Met l D cy lo yX3_reckon cX3_reckon 5 (some .int) 2 42 0 0 [.ref a0, .int x1, .int x2, .int x3, .int x4] S Q := by
  refine q_body (by decide) (by first | exact Nat.le_of_ble_eq_true rfl | simp [lg_sl, q_cat, q_catI, q_catJ, q_catR]) ?_
  intro p e s m below meth c ls X hnm Y hl
  have hx := X.1
  have hb := X.2.1
  have hl : lv_has ls 5 [(0, .ref a0), (1, .int x1), (2, .int x2), (3, .int x3), (4, .int x4)] := by first | exact hl | simpa [lv_args, q_cat, q_catI, q_catJ, q_catR] using hl
  generalize hargs : ([.ref a0, .int x1, .int x2, .int x3, .int x4] : List Value).toArray = args at X ⊢
  unfold wm_X3_reckon at h
  refine lv_iload_n hx hb dX3_reckon_0 rfl (lv_at hl 1 rfl) ?_
  refine q_tsw (tgt := 127) hx hb dX3_reckon_1 (by decide) (by decide) (fun c8_ => ?_) (fun j9_ hj_ c8_ => ?_)
  · replace h := h.1 c8_
    refine lv_iload_n hx hb dX3_reckon_127 rfl (lv_at hl 3 rfl) ?_
    refine lv_iload hx hb dX3_reckon_128 (lv_at hl 4 rfl) ?_
    refine lv_iand hx hb dX3_reckon_130 ?_
    exact q_iret X Y rfl (Nat.le_refl _) (Nat.le_refl _) h dX3_reckon_131
  · match j9_, hj_, c8_ with
    | 0, _, c8_ =>
      refine ⟨43, 44, rfl, by decide, ?_⟩
      replace h := h.2.1 (q_eqI c8_ (by decide))
      refine lv_iload_n hx hb dX3_reckon_44 rfl (lv_at hl 2 rfl) ?_
      refine lv_if_eq (tgt := 55) hx hb dX3_reckon_45 (by decide) (fun c1_ => ?_) (fun c1_ => ?_)
      · replace h := h.1 c1_
        refine lv_iload_n hx hb dX3_reckon_55 rfl (lv_at hl 3 rfl) ?_
        refine lv_iload hx hb dX3_reckon_56 (lv_at hl 4 rfl) ?_
        refine lv_iadd hx hb dX3_reckon_58 ?_
        exact cb_X3_reckon_59 X Y (lv_sub hl [] rfl) h
      · replace h := h.2 c1_
        refine lv_iload_n hx hb dX3_reckon_48 rfl (lv_at hl 3 rfl) ?_
        refine lv_iload hx hb dX3_reckon_49 (lv_at hl 4 rfl) ?_
        refine lv_isub hx hb dX3_reckon_51 ?_
        refine lv_goto (tgt := 59) hx hb dX3_reckon_52 (by decide) ?_
        exact cb_X3_reckon_59 X Y (lv_sub hl [] rfl) h
    | 1, _, c8_ =>
      refine ⟨59, 60, rfl, by decide, ?_⟩
      replace h := h.2.2.1 (q_eqI c8_ (by decide))
      refine lv_iload_n hx hb dX3_reckon_60 rfl (lv_at hl 3 rfl) ?_
      refine lv_iload hx hb dX3_reckon_61 (lv_at hl 4 rfl) ?_
      refine lv_bipush (v := 31) hx hb dX3_reckon_63 (by decide) ?_
      refine lv_iand hx hb dX3_reckon_65 ?_
      refine lv_ishl hx hb dX3_reckon_66 ?_
      exact q_iret X Y rfl (Nat.le_refl _) (Nat.le_refl _) h dX3_reckon_67
    | 2, _, c8_ =>
      refine ⟨67, 68, rfl, by decide, ?_⟩
      replace h := h.2.2.2.1 (q_eqI c8_ (by decide))
      refine lv_iload_n hx hb dX3_reckon_68 rfl (lv_at hl 3 rfl) ?_
      refine lv_iload hx hb dX3_reckon_69 (lv_at hl 4 rfl) ?_
      refine lv_icmp_ge (tgt := 78) hx hb dX3_reckon_71 (by decide) (fun c2_ => ?_) (fun c2_ => ?_)
      · replace h := h.1 c2_
        refine lv_iconst (v := 0) hx hb dX3_reckon_78 (by decide) ?_
        exact cb_X3_reckon_79 X Y (lv_sub hl [] rfl) h
      · replace h := h.2 c2_
        refine lv_iconst (v := 1) hx hb dX3_reckon_74 (by decide) ?_
        refine lv_goto (tgt := 79) hx hb dX3_reckon_75 (by decide) ?_
        exact cb_X3_reckon_79 X Y (lv_sub hl [] rfl) h
    | 3, _, c8_ =>
      refine ⟨79, 80, rfl, by decide, ?_⟩
      replace h := h.2.2.2.2.1 (q_eqI c8_ (by decide))
      refine lv_iload_n hx hb dX3_reckon_80 rfl (lv_at hl 3 rfl) ?_
      refine lv_iload hx hb dX3_reckon_81 (lv_at hl 4 rfl) ?_
      refine q_callS X Y hl (cm_J6_compareUnsigned_7cf53 h) mt_J6_compareUnsigned_7cf53 ms_J6_compareUnsigned_7cf53 ml_X3_59 rfl rfl (by first | exact Nat.le_of_ble_eq_true rfl | simp [q_cat, q_catI, q_catJ, q_catR]) ⟨Nat.le_of_ble_eq_true rfl, Nat.le_of_ble_eq_true rfl⟩ ⟨Nat.le_of_ble_eq_true rfl, Nat.le_of_ble_eq_true rfl⟩ dX3_reckon_83 (fun r3_ S4_ H locs hp Y => ?_)
      obtain ⟨x5_, rfl, h⟩ := hp
      refine W.eq (g2 := F0 m 86 ls [.int x5_]) rfl ?_
      refine lv_if_ge (tgt := 93) hx hb dX3_reckon_86 (by decide) (fun c6_ => ?_) (fun c6_ => ?_)
      · replace h := h.1 c6_
        refine lv_iconst (v := 0) hx hb dX3_reckon_93 (by decide) ?_
        exact cb_X3_reckon_94 X Y (lv_sub hl [] rfl) h
      · replace h := h.2 c6_
        refine lv_iconst (v := 1) hx hb dX3_reckon_89 (by decide) ?_
        refine lv_goto (tgt := 94) hx hb dX3_reckon_90 (by decide) ?_
        exact cb_X3_reckon_94 X Y (lv_sub hl [] rfl) h
    | 4, _, c8_ =>
      refine ⟨94, 95, rfl, by decide, ?_⟩
      replace h := h.2.2.2.2.2.1 (q_eqI c8_ (by decide))
      refine lv_iload_n hx hb dX3_reckon_95 rfl (lv_at hl 3 rfl) ?_
      refine lv_iload hx hb dX3_reckon_96 (lv_at hl 4 rfl) ?_
      refine lv_ixor hx hb dX3_reckon_98 ?_
      exact q_iret X Y rfl (Nat.le_refl _) (Nat.le_refl _) h dX3_reckon_99
    | 5, _, c8_ =>
      refine ⟨99, 100, rfl, by decide, ?_⟩
      replace h := h.2.2.2.2.2.2.1 (q_eqI c8_ (by decide))
      refine lv_iload_n hx hb dX3_reckon_100 rfl (lv_at hl 2 rfl) ?_
      refine lv_if_eq (tgt := 114) hx hb dX3_reckon_101 (by decide) (fun c7_ => ?_) (fun c7_ => ?_)
      · replace h := h.1 c7_
        refine lv_iload_n hx hb dX3_reckon_114 rfl (lv_at hl 3 rfl) ?_
        refine lv_iload hx hb dX3_reckon_115 (lv_at hl 4 rfl) ?_
        refine lv_bipush (v := 31) hx hb dX3_reckon_117 (by decide) ?_
        refine lv_iand hx hb dX3_reckon_119 ?_
        refine lv_iushr hx hb dX3_reckon_120 rfl ?_
        exact cb_X3_reckon_121 X Y (lv_sub hl [] rfl) h
      · replace h := h.2 c7_
        refine lv_iload_n hx hb dX3_reckon_104 rfl (lv_at hl 3 rfl) ?_
        refine lv_iload hx hb dX3_reckon_105 (lv_at hl 4 rfl) ?_
        refine lv_bipush (v := 31) hx hb dX3_reckon_107 (by decide) ?_
        refine lv_iand hx hb dX3_reckon_109 ?_
        refine lv_ishr hx hb dX3_reckon_110 ?_
        refine lv_goto (tgt := 121) hx hb dX3_reckon_111 (by decide) ?_
        exact cb_X3_reckon_121 X Y (lv_sub hl [] rfl) h
    | 6, _, c8_ =>
      refine ⟨121, 122, rfl, by decide, ?_⟩
      replace h := h.2.2.2.2.2.2.2 (q_eqI c8_ (by decide))
      refine lv_iload_n hx hb dX3_reckon_122 rfl (lv_at hl 3 rfl) ?_
      refine lv_iload hx hb dX3_reckon_123 (lv_at hl 4 rfl) ?_
      refine lv_ior hx hb dX3_reckon_125 ?_
      exact q_iret X Y rfl (Nat.le_refl _) (Nat.le_refl _) h dX3_reckon_126
    | z_ + 7, hj_, _ => exact absurd hj_ (by simp)
-- X3_reckonWithNumber
theorem ml_X3_81 : Cond.methodLink RX3 81 yX3_reckon ∈ q_G := q_tb (i := 1508) (by decide +kernel) (by decide +kernel)
theorem mt_X3_reckon : q_Mt yX3_reckon cX3_reckon 5 (some .int) 4 := ⟨q_tb (i := 1511) (by decide +kernel) (by decide +kernel), q_tb (i := 9) (by decide +kernel) (by decide +kernel), by decide +kernel, by decide +kernel, by decide +kernel⟩
theorem mi_X3_reckon : Cond.instanceMethod yX3_reckon ∈ q_G ∧ Cond.selects yX3_reckon.cls yX3_reckon yX3_reckon ∈ q_G := ⟨q_tb (i := 1510) (by decide +kernel) (by decide +kernel), q_tp (i := 49) (q := (yX3_reckon, 1)) (by decide +kernel) (by decide +kernel)⟩
theorem dX3_reckonWithNumber_0 : decode cX3_reckonWithNumber 0 = .ok (.iload_n 2, 1) := by decide +kernel
theorem dX3_reckonWithNumber_1 : decode cX3_reckonWithNumber 1 = .ok (.bipush 12, 2) := by decide +kernel
theorem dX3_reckonWithNumber_3 : decode cX3_reckonWithNumber 3 = .ok (.ishr, 1) := by decide +kernel
theorem dX3_reckonWithNumber_4 : decode cX3_reckonWithNumber 4 = .ok (.bipush 7, 2) := by decide +kernel
theorem dX3_reckonWithNumber_6 : decode cX3_reckonWithNumber 6 = .ok (.iand, 1) := by decide +kernel
theorem dX3_reckonWithNumber_7 : decode cX3_reckonWithNumber 7 = .ok (.istore_n 3, 1) := by decide +kernel
theorem dX3_reckonWithNumber_8 : decode cX3_reckonWithNumber 8 = .ok (.iload_n 2, 1) := by decide +kernel
theorem dX3_reckonWithNumber_9 : decode cX3_reckonWithNumber 9 = .ok (.bipush 25, 2) := by decide +kernel
theorem dX3_reckonWithNumber_11 : decode cX3_reckonWithNumber 11 = .ok (.iushr, 1) := by decide +kernel
theorem dX3_reckonWithNumber_12 : decode cX3_reckonWithNumber 12 = .ok (.istore 4, 2) := by decide +kernel
theorem dX3_reckonWithNumber_14 : decode cX3_reckonWithNumber 14 = .ok (.iload_n 3, 1) := by decide +kernel
theorem dX3_reckonWithNumber_15 : decode cX3_reckonWithNumber 15 = .ok (.iconst 5, 1) := by decide +kernel
theorem dX3_reckonWithNumber_16 : decode cX3_reckonWithNumber 16 = .ok (.if_icmp .ne 14, 3) := by decide +kernel
theorem dX3_reckonWithNumber_19 : decode cX3_reckonWithNumber 19 = .ok (.iload 4, 2) := by decide +kernel
theorem dX3_reckonWithNumber_21 : decode cX3_reckonWithNumber 21 = .ok (.bipush 32, 2) := by decide +kernel
theorem dX3_reckonWithNumber_23 : decode cX3_reckonWithNumber 23 = .ok (.if_icmp .ne 7, 3) := by decide +kernel
theorem dX3_reckonWithNumber_26 : decode cX3_reckonWithNumber 26 = .ok (.iconst 1, 1) := by decide +kernel
theorem dX3_reckonWithNumber_27 : decode cX3_reckonWithNumber 27 = .ok (.goto 4, 3) := by decide +kernel
theorem dX3_reckonWithNumber_30 : decode cX3_reckonWithNumber 30 = .ok (.iconst 0, 1) := by decide +kernel
theorem dX3_reckonWithNumber_31 : decode cX3_reckonWithNumber 31 = .ok (.istore 5, 2) := by decide +kernel
theorem dX3_reckonWithNumber_33 : decode cX3_reckonWithNumber 33 = .ok (.iload_n 3, 1) := by decide +kernel
theorem dX3_reckonWithNumber_34 : decode cX3_reckonWithNumber 34 = .ok (.iconst 1, 1) := by decide +kernel
theorem dX3_reckonWithNumber_35 : decode cX3_reckonWithNumber 35 = .ok (.if_icmp .eq 8, 3) := by decide +kernel
theorem dX3_reckonWithNumber_38 : decode cX3_reckonWithNumber 38 = .ok (.iload_n 3, 1) := by decide +kernel
theorem dX3_reckonWithNumber_39 : decode cX3_reckonWithNumber 39 = .ok (.iconst 5, 1) := by decide +kernel
theorem dX3_reckonWithNumber_40 : decode cX3_reckonWithNumber 40 = .ok (.if_icmp .ne 15, 3) := by decide +kernel
theorem dX3_reckonWithNumber_43 : decode cX3_reckonWithNumber 43 = .ok (.iload 4, 2) := by decide +kernel
theorem dX3_reckonWithNumber_45 : decode cX3_reckonWithNumber 45 = .ok (.ifCond .eq 10, 3) := by decide +kernel
theorem dX3_reckonWithNumber_48 : decode cX3_reckonWithNumber 48 = .ok (.iload 5, 2) := by decide +kernel
theorem dX3_reckonWithNumber_50 : decode cX3_reckonWithNumber 50 = .ok (.ifCond .ne 5, 3) := by decide +kernel
theorem dX3_reckonWithNumber_53 : decode cX3_reckonWithNumber 53 = .ok (.iconst 0, 1) := by decide +kernel
theorem dX3_reckonWithNumber_54 : decode cX3_reckonWithNumber 54 = .ok (.ireturn, 1) := by decide +kernel
theorem dX3_reckonWithNumber_55 : decode cX3_reckonWithNumber 55 = .ok (.aload_n 0, 1) := by decide +kernel
theorem dX3_reckonWithNumber_56 : decode cX3_reckonWithNumber 56 = .ok (.aload_n 1, 1) := by decide +kernel
theorem dX3_reckonWithNumber_57 : decode cX3_reckonWithNumber 57 = .ok (.iload_n 2, 1) := by decide +kernel
theorem dX3_reckonWithNumber_58 : decode cX3_reckonWithNumber 58 = .ok (.aload_n 0, 1) := by decide +kernel
theorem dX3_reckonWithNumber_59 : decode cX3_reckonWithNumber 59 = .ok (.iload_n 3, 1) := by decide +kernel
theorem dX3_reckonWithNumber_60 : decode cX3_reckonWithNumber 60 = .ok (.iload 5, 2) := by decide +kernel
theorem dX3_reckonWithNumber_62 : decode cX3_reckonWithNumber 62 = .ok (.aload_n 1, 1) := by decide +kernel
theorem dX3_reckonWithNumber_63 : decode cX3_reckonWithNumber 63 = .ok (.getfield 38, 3) := by decide +kernel
theorem dX3_reckonWithNumber_66 : decode cX3_reckonWithNumber 66 = .ok (.iload_n 2, 1) := by decide +kernel
theorem dX3_reckonWithNumber_67 : decode cX3_reckonWithNumber 67 = .ok (.bipush 15, 2) := by decide +kernel
theorem dX3_reckonWithNumber_69 : decode cX3_reckonWithNumber 69 = .ok (.ishr, 1) := by decide +kernel
theorem dX3_reckonWithNumber_70 : decode cX3_reckonWithNumber 70 = .ok (.bipush 31, 2) := by decide +kernel
theorem dX3_reckonWithNumber_72 : decode cX3_reckonWithNumber 72 = .ok (.iand, 1) := by decide +kernel
theorem dX3_reckonWithNumber_73 : decode cX3_reckonWithNumber 73 = .ok (.iaload, 1) := by decide +kernel
theorem dX3_reckonWithNumber_74 : decode cX3_reckonWithNumber 74 = .ok (.iload_n 2, 1) := by decide +kernel
theorem dX3_reckonWithNumber_75 : decode cX3_reckonWithNumber 75 = .ok (.bipush 20, 2) := by decide +kernel
theorem dX3_reckonWithNumber_77 : decode cX3_reckonWithNumber 77 = .ok (.ishr, 1) := by decide +kernel
theorem dX3_reckonWithNumber_78 : decode cX3_reckonWithNumber 78 = .ok (.invokevirtual 81, 3) := by decide +kernel
theorem dX3_reckonWithNumber_81 : decode cX3_reckonWithNumber 81 = .ok (.aload_n 1, 1) := by decide +kernel
theorem dX3_reckonWithNumber_82 : decode cX3_reckonWithNumber 82 = .ok (.getfield 9, 3) := by decide +kernel
theorem dX3_reckonWithNumber_85 : decode cX3_reckonWithNumber 85 = .ok (.iconst 4, 1) := by decide +kernel
theorem dX3_reckonWithNumber_86 : decode cX3_reckonWithNumber 86 = .ok (.iadd, 1) := by decide +kernel
theorem dX3_reckonWithNumber_87 : decode cX3_reckonWithNumber 87 = .ok (.invokevirtual 30, 3) := by decide +kernel
theorem dX3_reckonWithNumber_90 : decode cX3_reckonWithNumber 90 = .ok (.ireturn, 1) := by decide +kernel
def wb_X3_reckonWithNumber_55  (S : q_S) (a0 : Nat) (r1 : Option Nat) (x2 : Int32) (x3 : Int32) (x5 : Int32) (Q : Option Value → q_S → Prop) : Prop := ∃ a1_ : Nat, r1 = some a1_ ∧ (q_K S a1_ = 8 ∧ (∃ a4_ : Nat, (q_P S 1411 a1_) = some a4_ ∧ (q_K S a4_ = 21 ∧ (vp_in ((x2 >>> ((15 : Int32) &&& 31)) &&& (31 : Int32)) (q_N S a4_) ∧ (q_K S a0 = 4 ∧ (wm_X3_reckon S a0 x3 x5 (q_A S a4_ ((x2 >>> ((15 : Int32) &&& 31)) &&& (31 : Int32)).toNatClampNeg) (x2 >>> ((20 : Int32) &&& 31)) (fun r9_ S10_ => ∃ x11_ : Int32, r9_ = some (.int x11_) ∧ (q_K S10_ a1_ = 8 ∧ (q_K S10_ a0 = 4 ∧ (wm_X3_finish S10_ a0 r1 x2 x11_ ((q_I S10_ 1410 a1_) + (4 : Int32)) (fun r14_ S15_ => ∃ x16_ : Int32, r14_ = some (.int x16_) ∧ (Q (some (.int x16_)) S15_))))))))))))
set_option maxHeartbeats 4000000 in
set_option maxRecDepth 100000 in
theorem cb_X3_reckonWithNumber_55 {p : Program} {l : Launch} {e : Env} {s : State} {m : MethodId} {args : Array Value} {below : List Frame} {meth : Method} {c : Code} {D : va_G} {cy : Nat → ClassId} {lo : Nat}  {S : q_S} {a0 : Nat} {r1 : Option Nat} {x2 : Int32} {x3 : Int32} {x5 : Int32} {Q : Option Value → q_S → Prop} {H : Heap} {locs : List Loc} {ls : Array Slot} (X : q_X p s m args meth c RX3 cX3_reckonWithNumber 6 (some .int) D cy lo)  (Y : q_Y D cy lo s S H locs) (hl : lv_has ls 6 [(0, .ref a0), (1, va_rf r1), (2, .int x2), (3, .int x3), (5, .int x5)]) (h : wb_X3_reckonWithNumber_55 S a0 r1 x2 x3 x5 Q) : W p l e ({ frames := 3, cells := 0, slots := 0, locals := 66 } : Room) s m args below meth c H locs 0 0 (MQ below (q_Q D cy lo Q) args s 0 0 (fun q => lo ≤ q)) (F0 m 55 ls []) := by
  have hx := X.1
  have hb := X.2.1
  unfold wb_X3_reckonWithNumber_55 at h
  refine lv_aload_n hx hb dX3_reckonWithNumber_55 rfl (lv_at hl 0 rfl) ?_
  refine q_aload_n hx hb dX3_reckonWithNumber_56 rfl (lv_at hl 1 rfl) ?_
  refine lv_iload_n hx hb dX3_reckonWithNumber_57 rfl (lv_at hl 2 rfl) ?_
  refine lv_aload_n hx hb dX3_reckonWithNumber_58 rfl (lv_at hl 0 rfl) ?_
  refine lv_iload_n hx hb dX3_reckonWithNumber_59 rfl (lv_at hl 3 rfl) ?_
  refine lv_iload hx hb dX3_reckonWithNumber_60 (lv_at hl 4 rfl) ?_
  refine q_aload_n hx hb dX3_reckonWithNumber_62 rfl (lv_at hl 1 rfl) ?_
  obtain ⟨a1_, e2_, h⟩ := h
  refine q_nn [] e2_ ?_
  obtain ⟨k3_, h⟩ := h
  refine q_getP X Y kX7 11 rfl fl_X3_38 k3_ rfl dX3_reckonWithNumber_63 ?_
  refine lv_iload_n hx hb dX3_reckonWithNumber_66 rfl (lv_at hl 2 rfl) ?_
  refine lv_bipush (v := 15) hx hb dX3_reckonWithNumber_67 (by decide) ?_
  refine lv_ishr hx hb dX3_reckonWithNumber_69 ?_
  refine lv_bipush (v := 31) hx hb dX3_reckonWithNumber_70 (by decide) ?_
  refine lv_iand hx hb dX3_reckonWithNumber_72 ?_
  obtain ⟨a4_, e5_, h⟩ := h
  refine q_nn [.int ((x2 >>> ((15 : Int32) &&& 31)) &&& (31 : Int32))] e5_ ?_
  obtain ⟨k6_, h⟩ := h
  obtain ⟨i7_, h⟩ := h
  refine q_ild X Y k6_ i7_ dX3_reckonWithNumber_73 ?_
  refine lv_iload_n hx hb dX3_reckonWithNumber_74 rfl (lv_at hl 2 rfl) ?_
  refine lv_bipush (v := 20) hx hb dX3_reckonWithNumber_75 (by decide) ?_
  refine lv_ishr hx hb dX3_reckonWithNumber_77 ?_
  obtain ⟨k8_, h⟩ := h
  refine q_callV X Y hl (cm_X3_reckon h) mt_X3_reckon mi_X3_reckon ml_X3_81 (ci := 3) rfl k8_ (by decide) rfl rfl (by first | exact Nat.le_of_ble_eq_true rfl | simp [q_cat, q_catI, q_catJ, q_catR]) ⟨Nat.le_of_ble_eq_true rfl, Nat.le_of_ble_eq_true rfl⟩ ⟨Nat.le_of_ble_eq_true rfl, Nat.le_of_ble_eq_true rfl⟩ dX3_reckonWithNumber_78 (fun r9_ S10_ H locs hp Y => ?_)
  obtain ⟨x11_, rfl, h⟩ := hp
  refine W.eq (g2 := F0 m 81 ls [.int x11_, .int x2, va_rf r1, .ref a0]) rfl ?_
  refine q_aload_n hx hb dX3_reckonWithNumber_81 rfl (lv_at hl 1 rfl) ?_
  refine q_nn [] e2_ ?_
  obtain ⟨k12_, h⟩ := h
  refine q_getI X Y kX7 10 rfl fl_X3_9 k12_ dX3_reckonWithNumber_82 ?_
  refine lv_iconst (v := 4) hx hb dX3_reckonWithNumber_85 (by decide) ?_
  refine lv_iadd hx hb dX3_reckonWithNumber_86 ?_
  obtain ⟨k13_, h⟩ := h
  refine q_callV X Y hl (cm_X3_finish h) mt_X3_finish mi_X3_finish ml_X3_30 (ci := 3) rfl k13_ (by decide) rfl rfl (by first | exact Nat.le_of_ble_eq_true rfl | simp [q_cat, q_catI, q_catJ, q_catR]) ⟨Nat.le_of_ble_eq_true rfl, Nat.le_of_ble_eq_true rfl⟩ ⟨Nat.le_of_ble_eq_true rfl, Nat.le_of_ble_eq_true rfl⟩ dX3_reckonWithNumber_87 (fun r14_ S15_ H locs hp Y => ?_)
  obtain ⟨x16_, rfl, h⟩ := hp
  refine W.eq (g2 := F0 m 90 ls [.int x16_]) rfl ?_
  exact q_iret X Y rfl (Nat.le_refl _) (Nat.le_refl _) h dX3_reckonWithNumber_90
def wb_X3_reckonWithNumber_43  (S : q_S) (a0 : Nat) (r1 : Option Nat) (x2 : Int32) (x3 : Int32) (x4 : Int32) (x5 : Int32) (Q : Option Value → q_S → Prop) : Prop := ((x4 = 0 → (wb_X3_reckonWithNumber_55 S a0 r1 x2 x3 x5 Q)) ∧ (¬ x4 = 0 → (((¬ x5 = 0 → (wb_X3_reckonWithNumber_55 S a0 r1 x2 x3 x5 Q)) ∧ (x5 = 0 → (Q (some (.int (0 : Int32))) S))))))
set_option maxHeartbeats 4000000 in
set_option maxRecDepth 100000 in
theorem cb_X3_reckonWithNumber_43 {p : Program} {l : Launch} {e : Env} {s : State} {m : MethodId} {args : Array Value} {below : List Frame} {meth : Method} {c : Code} {D : va_G} {cy : Nat → ClassId} {lo : Nat}  {S : q_S} {a0 : Nat} {r1 : Option Nat} {x2 : Int32} {x3 : Int32} {x4 : Int32} {x5 : Int32} {Q : Option Value → q_S → Prop} {H : Heap} {locs : List Loc} {ls : Array Slot} (X : q_X p s m args meth c RX3 cX3_reckonWithNumber 6 (some .int) D cy lo)  (Y : q_Y D cy lo s S H locs) (hl : lv_has ls 6 [(0, .ref a0), (1, va_rf r1), (2, .int x2), (3, .int x3), (4, .int x4), (5, .int x5)]) (h : wb_X3_reckonWithNumber_43 S a0 r1 x2 x3 x4 x5 Q) : W p l e ({ frames := 3, cells := 0, slots := 0, locals := 66 } : Room) s m args below meth c H locs 0 0 (MQ below (q_Q D cy lo Q) args s 0 0 (fun q => lo ≤ q)) (F0 m 43 ls []) := by
  have hx := X.1
  have hb := X.2.1
  unfold wb_X3_reckonWithNumber_43 at h
  refine lv_iload hx hb dX3_reckonWithNumber_43 (lv_at hl 4 rfl) ?_
  refine lv_if_eq (tgt := 55) hx hb dX3_reckonWithNumber_45 (by decide) (fun c17_ => ?_) (fun c17_ => ?_)
  · replace h := h.1 c17_
    exact cb_X3_reckonWithNumber_55 X Y (lv_sub hl [0, 1, 2, 3, 5] rfl) h
  · replace h := h.2 c17_
    refine lv_iload hx hb dX3_reckonWithNumber_48 (lv_at hl 5 rfl) ?_
    refine lv_if_ne (tgt := 55) hx hb dX3_reckonWithNumber_50 (by decide) (fun c18_ => ?_) (fun c18_ => ?_)
    · replace h := h.1 c18_
      exact cb_X3_reckonWithNumber_55 X Y (lv_sub hl [0, 1, 2, 3, 5] rfl) h
    · replace h := h.2 c18_
      refine lv_iconst (v := 0) hx hb dX3_reckonWithNumber_53 (by decide) ?_
      exact q_iret X Y rfl (Nat.le_refl _) (Nat.le_refl _) h dX3_reckonWithNumber_54
def wb_X3_reckonWithNumber_31  (S : q_S) (a0 : Nat) (r1 : Option Nat) (x2 : Int32) (x3 : Int32) (x4 : Int32) (xs0 : Int32) (Q : Option Value → q_S → Prop) : Prop := ((x3 = (1 : Int32) → (wb_X3_reckonWithNumber_43 S a0 r1 x2 x3 x4 xs0 Q)) ∧ (¬ x3 = (1 : Int32) → (((¬ x3 = (5 : Int32) → (wb_X3_reckonWithNumber_55 S a0 r1 x2 x3 xs0 Q)) ∧ (x3 = (5 : Int32) → (wb_X3_reckonWithNumber_43 S a0 r1 x2 x3 x4 xs0 Q))))))
set_option maxHeartbeats 4000000 in
set_option maxRecDepth 100000 in
theorem cb_X3_reckonWithNumber_31 {p : Program} {l : Launch} {e : Env} {s : State} {m : MethodId} {args : Array Value} {below : List Frame} {meth : Method} {c : Code} {D : va_G} {cy : Nat → ClassId} {lo : Nat}  {S : q_S} {a0 : Nat} {r1 : Option Nat} {x2 : Int32} {x3 : Int32} {x4 : Int32} {xs0 : Int32} {Q : Option Value → q_S → Prop} {H : Heap} {locs : List Loc} {ls : Array Slot} (X : q_X p s m args meth c RX3 cX3_reckonWithNumber 6 (some .int) D cy lo)  (Y : q_Y D cy lo s S H locs) (hl : lv_has ls 6 [(0, .ref a0), (1, va_rf r1), (2, .int x2), (3, .int x3), (4, .int x4)]) (h : wb_X3_reckonWithNumber_31 S a0 r1 x2 x3 x4 xs0 Q) : W p l e ({ frames := 3, cells := 0, slots := 0, locals := 66 } : Room) s m args below meth c H locs 0 0 (MQ below (q_Q D cy lo Q) args s 0 0 (fun q => lo ≤ q)) (F0 m 31 ls [.int xs0]) := by
  have hx := X.1
  have hb := X.2.1
  unfold wb_X3_reckonWithNumber_31 at h
  refine lv_istore (i := 5) (lv' := [(5, .int xs0), (0, .ref a0), (1, va_rf r1), (2, .int x2), (3, .int x3), (4, .int x4)]) hx hb dX3_reckonWithNumber_31 hl (by decide) (by first | rfl | simp [q_cat, q_catI, q_catJ, q_catR]) (fun ls hl => ?_)
  refine lv_iload_n hx hb dX3_reckonWithNumber_33 rfl (lv_at hl 4 rfl) ?_
  refine lv_iconst (v := 1) hx hb dX3_reckonWithNumber_34 (by decide) ?_
  refine lv_icmp_eq (tgt := 43) hx hb dX3_reckonWithNumber_35 (by decide) (fun c19_ => ?_) (fun c19_ => ?_)
  · replace h := h.1 c19_
    exact cb_X3_reckonWithNumber_43 X Y (lv_sub hl [1, 2, 3, 4, 5, 0] rfl) h
  · replace h := h.2 c19_
    refine lv_iload_n hx hb dX3_reckonWithNumber_38 rfl (lv_at hl 4 rfl) ?_
    refine lv_iconst (v := 5) hx hb dX3_reckonWithNumber_39 (by decide) ?_
    refine lv_icmp_ne (tgt := 55) hx hb dX3_reckonWithNumber_40 (by decide) (fun c20_ => ?_) (fun c20_ => ?_)
    · replace h := h.1 c20_
      exact cb_X3_reckonWithNumber_55 X Y (lv_sub hl [1, 2, 3, 4, 0] rfl) h
    · replace h := h.2 c20_
      exact cb_X3_reckonWithNumber_43 X Y (lv_sub hl [1, 2, 3, 4, 5, 0] rfl) h
def wb_X3_reckonWithNumber_30  (S : q_S) (a0 : Nat) (r1 : Option Nat) (x2 : Int32) (x3 : Int32) (x4 : Int32) (Q : Option Value → q_S → Prop) : Prop := wb_X3_reckonWithNumber_31 S a0 r1 x2 x3 x4 (0 : Int32) Q
set_option maxHeartbeats 4000000 in
set_option maxRecDepth 100000 in
theorem cb_X3_reckonWithNumber_30 {p : Program} {l : Launch} {e : Env} {s : State} {m : MethodId} {args : Array Value} {below : List Frame} {meth : Method} {c : Code} {D : va_G} {cy : Nat → ClassId} {lo : Nat}  {S : q_S} {a0 : Nat} {r1 : Option Nat} {x2 : Int32} {x3 : Int32} {x4 : Int32} {Q : Option Value → q_S → Prop} {H : Heap} {locs : List Loc} {ls : Array Slot} (X : q_X p s m args meth c RX3 cX3_reckonWithNumber 6 (some .int) D cy lo)  (Y : q_Y D cy lo s S H locs) (hl : lv_has ls 6 [(0, .ref a0), (1, va_rf r1), (2, .int x2), (3, .int x3), (4, .int x4)]) (h : wb_X3_reckonWithNumber_30 S a0 r1 x2 x3 x4 Q) : W p l e ({ frames := 3, cells := 0, slots := 0, locals := 66 } : Room) s m args below meth c H locs 0 0 (MQ below (q_Q D cy lo Q) args s 0 0 (fun q => lo ≤ q)) (F0 m 30 ls []) := by
  have hx := X.1
  have hb := X.2.1
  unfold wb_X3_reckonWithNumber_30 at h
  refine lv_iconst (v := 0) hx hb dX3_reckonWithNumber_30 (by decide) ?_
  exact cb_X3_reckonWithNumber_31 X Y (lv_sub hl [0, 1, 2, 3, 4] rfl) h
def wm_X3_reckonWithNumber (S : q_S) (a0 : Nat) (r1 : Option Nat) (x2 : Int32) (Q : Option Value → q_S → Prop) : Prop := ((¬ ((x2 >>> ((12 : Int32) &&& 31)) &&& (7 : Int32)) = (5 : Int32) → (wb_X3_reckonWithNumber_30 S a0 r1 x2 ((x2 >>> ((12 : Int32) &&& 31)) &&& (7 : Int32)) ((x2.toUInt32 >>> ((25 : Int32).toUInt32 &&& Int32.toUInt32 31)).toInt32) Q)) ∧ (((x2 >>> ((12 : Int32) &&& 31)) &&& (7 : Int32)) = (5 : Int32) → (((¬ ((x2.toUInt32 >>> ((25 : Int32).toUInt32 &&& Int32.toUInt32 31)).toInt32) = (32 : Int32) → (wb_X3_reckonWithNumber_30 S a0 r1 x2 ((x2 >>> ((12 : Int32) &&& 31)) &&& (7 : Int32)) ((x2.toUInt32 >>> ((25 : Int32).toUInt32 &&& Int32.toUInt32 31)).toInt32) Q)) ∧ (((x2.toUInt32 >>> ((25 : Int32).toUInt32 &&& Int32.toUInt32 31)).toInt32) = (32 : Int32) → (wb_X3_reckonWithNumber_31 S a0 r1 x2 ((x2 >>> ((12 : Int32) &&& 31)) &&& (7 : Int32)) ((x2.toUInt32 >>> ((25 : Int32).toUInt32 &&& Int32.toUInt32 31)).toInt32) (1 : Int32) Q))))))
set_option maxHeartbeats 4000000 in
set_option maxRecDepth 100000 in
theorem cm_X3_reckonWithNumber {l : Launch} {D : va_G} {cy : Nat → ClassId} {lo : Nat} {S : q_S} {a0 : Nat} {r1 : Option Nat} {x2 : Int32} {Q : Option Value → q_S → Prop} (h : wm_X3_reckonWithNumber S a0 r1 x2 Q) : q_Met l D cy lo yX3_reckonWithNumber cX3_reckonWithNumber 6 (some .int) 3 66 0 0 [.ref a0, va_rf r1, .int x2] S Q := by
  refine q_body (by decide) (by first | exact Nat.le_of_ble_eq_true rfl | simp [lg_sl, q_cat, q_catI, q_catJ, q_catR]) ?_
  intro p e s m below meth c ls X hnm Y hl
  have hx := X.1
  have hb := X.2.1
  have hl : lv_has ls 6 [(0, .ref a0), (1, va_rf r1), (2, .int x2)] := by first | exact hl | simpa [lv_args, q_cat, q_catI, q_catJ, q_catR] using hl
  generalize hargs : ([.ref a0, va_rf r1, .int x2] : List Value).toArray = args at X ⊢
  unfold wm_X3_reckonWithNumber at h
  refine lv_iload_n hx hb dX3_reckonWithNumber_0 rfl (lv_at hl 2 rfl) ?_
  refine lv_bipush (v := 12) hx hb dX3_reckonWithNumber_1 (by decide) ?_
  refine lv_ishr hx hb dX3_reckonWithNumber_3 ?_
  refine lv_bipush (v := 7) hx hb dX3_reckonWithNumber_4 (by decide) ?_
  refine lv_iand hx hb dX3_reckonWithNumber_6 ?_
  refine lv_istore_n (i := 3) (lv' := [(3, .int ((x2 >>> ((12 : Int32) &&& 31)) &&& (7 : Int32))), (0, .ref a0), (1, va_rf r1), (2, .int x2)]) hx hb dX3_reckonWithNumber_7 rfl hl (by decide) (by first | rfl | simp [q_cat, q_catI, q_catJ, q_catR]) (fun ls hl => ?_)
  refine lv_iload_n hx hb dX3_reckonWithNumber_8 rfl (lv_at hl 3 rfl) ?_
  refine lv_bipush (v := 25) hx hb dX3_reckonWithNumber_9 (by decide) ?_
  refine lv_iushr hx hb dX3_reckonWithNumber_11 rfl ?_
  refine lv_istore (i := 4) (lv' := [(4, .int ((x2.toUInt32 >>> ((25 : Int32).toUInt32 &&& Int32.toUInt32 31)).toInt32)), (3, .int ((x2 >>> ((12 : Int32) &&& 31)) &&& (7 : Int32))), (0, .ref a0), (1, va_rf r1), (2, .int x2)]) hx hb dX3_reckonWithNumber_12 hl (by decide) (by first | rfl | simp [q_cat, q_catI, q_catJ, q_catR]) (fun ls hl => ?_)
  refine lv_iload_n hx hb dX3_reckonWithNumber_14 rfl (lv_at hl 1 rfl) ?_
  refine lv_iconst (v := 5) hx hb dX3_reckonWithNumber_15 (by decide) ?_
  refine lv_icmp_ne (tgt := 30) hx hb dX3_reckonWithNumber_16 (by decide) (fun c21_ => ?_) (fun c21_ => ?_)
  · replace h := h.1 c21_
    exact cb_X3_reckonWithNumber_30 X Y (lv_sub hl [2, 3, 4, 1, 0] rfl) h
  · replace h := h.2 c21_
    refine lv_iload hx hb dX3_reckonWithNumber_19 (lv_at hl 0 rfl) ?_
    refine lv_bipush (v := 32) hx hb dX3_reckonWithNumber_21 (by decide) ?_
    refine lv_icmp_ne (tgt := 30) hx hb dX3_reckonWithNumber_23 (by decide) (fun c22_ => ?_) (fun c22_ => ?_)
    · replace h := h.1 c22_
      exact cb_X3_reckonWithNumber_30 X Y (lv_sub hl [2, 3, 4, 1, 0] rfl) h
    · replace h := h.2 c22_
      refine lv_iconst (v := 1) hx hb dX3_reckonWithNumber_26 (by decide) ?_
      refine lv_goto (tgt := 31) hx hb dX3_reckonWithNumber_27 (by decide) ?_
      exact cb_X3_reckonWithNumber_31 X Y (lv_sub hl [2, 3, 4, 1, 0] rfl) h
-- X3_reckonWithRegister
theorem dX3_reckonWithRegister_0 : decode cX3_reckonWithRegister 0 = .ok (.iload_n 2, 1) := by decide +kernel
theorem dX3_reckonWithRegister_1 : decode cX3_reckonWithRegister 1 = .ok (.bipush 12, 2) := by decide +kernel
theorem dX3_reckonWithRegister_3 : decode cX3_reckonWithRegister 3 = .ok (.ishr, 1) := by decide +kernel
theorem dX3_reckonWithRegister_4 : decode cX3_reckonWithRegister 4 = .ok (.bipush 7, 2) := by decide +kernel
theorem dX3_reckonWithRegister_6 : decode cX3_reckonWithRegister 6 = .ok (.iand, 1) := by decide +kernel
theorem dX3_reckonWithRegister_7 : decode cX3_reckonWithRegister 7 = .ok (.istore_n 3, 1) := by decide +kernel
theorem dX3_reckonWithRegister_8 : decode cX3_reckonWithRegister 8 = .ok (.iload_n 2, 1) := by decide +kernel
theorem dX3_reckonWithRegister_9 : decode cX3_reckonWithRegister 9 = .ok (.bipush 25, 2) := by decide +kernel
theorem dX3_reckonWithRegister_11 : decode cX3_reckonWithRegister 11 = .ok (.iushr, 1) := by decide +kernel
theorem dX3_reckonWithRegister_12 : decode cX3_reckonWithRegister 12 = .ok (.istore 4, 2) := by decide +kernel
theorem dX3_reckonWithRegister_14 : decode cX3_reckonWithRegister 14 = .ok (.iload 4, 2) := by decide +kernel
theorem dX3_reckonWithRegister_16 : decode cX3_reckonWithRegister 16 = .ok (.bipush 32, 2) := by decide +kernel
theorem dX3_reckonWithRegister_18 : decode cX3_reckonWithRegister 18 = .ok (.if_icmp .ne 16, 3) := by decide +kernel
theorem dX3_reckonWithRegister_21 : decode cX3_reckonWithRegister 21 = .ok (.iload_n 3, 1) := by decide +kernel
theorem dX3_reckonWithRegister_22 : decode cX3_reckonWithRegister 22 = .ok (.ifCond .eq 8, 3) := by decide +kernel
theorem dX3_reckonWithRegister_25 : decode cX3_reckonWithRegister 25 = .ok (.iload_n 3, 1) := by decide +kernel
theorem dX3_reckonWithRegister_26 : decode cX3_reckonWithRegister 26 = .ok (.iconst 5, 1) := by decide +kernel
theorem dX3_reckonWithRegister_27 : decode cX3_reckonWithRegister 27 = .ok (.if_icmp .ne 7, 3) := by decide +kernel
theorem dX3_reckonWithRegister_30 : decode cX3_reckonWithRegister 30 = .ok (.iconst 1, 1) := by decide +kernel
theorem dX3_reckonWithRegister_31 : decode cX3_reckonWithRegister 31 = .ok (.goto 4, 3) := by decide +kernel
theorem dX3_reckonWithRegister_34 : decode cX3_reckonWithRegister 34 = .ok (.iconst 0, 1) := by decide +kernel
theorem dX3_reckonWithRegister_35 : decode cX3_reckonWithRegister 35 = .ok (.istore 5, 2) := by decide +kernel
theorem dX3_reckonWithRegister_37 : decode cX3_reckonWithRegister 37 = .ok (.iload 4, 2) := by decide +kernel
theorem dX3_reckonWithRegister_39 : decode cX3_reckonWithRegister 39 = .ok (.ifCond .eq 10, 3) := by decide +kernel
theorem dX3_reckonWithRegister_42 : decode cX3_reckonWithRegister 42 = .ok (.iload 5, 2) := by decide +kernel
theorem dX3_reckonWithRegister_44 : decode cX3_reckonWithRegister 44 = .ok (.ifCond .ne 5, 3) := by decide +kernel
theorem dX3_reckonWithRegister_47 : decode cX3_reckonWithRegister 47 = .ok (.iconst 0, 1) := by decide +kernel
theorem dX3_reckonWithRegister_48 : decode cX3_reckonWithRegister 48 = .ok (.ireturn, 1) := by decide +kernel
theorem dX3_reckonWithRegister_49 : decode cX3_reckonWithRegister 49 = .ok (.aload_n 0, 1) := by decide +kernel
theorem dX3_reckonWithRegister_50 : decode cX3_reckonWithRegister 50 = .ok (.aload_n 1, 1) := by decide +kernel
theorem dX3_reckonWithRegister_51 : decode cX3_reckonWithRegister 51 = .ok (.iload_n 2, 1) := by decide +kernel
theorem dX3_reckonWithRegister_52 : decode cX3_reckonWithRegister 52 = .ok (.aload_n 0, 1) := by decide +kernel
theorem dX3_reckonWithRegister_53 : decode cX3_reckonWithRegister 53 = .ok (.iload_n 3, 1) := by decide +kernel
theorem dX3_reckonWithRegister_54 : decode cX3_reckonWithRegister 54 = .ok (.iload 5, 2) := by decide +kernel
theorem dX3_reckonWithRegister_56 : decode cX3_reckonWithRegister 56 = .ok (.aload_n 1, 1) := by decide +kernel
theorem dX3_reckonWithRegister_57 : decode cX3_reckonWithRegister 57 = .ok (.getfield 38, 3) := by decide +kernel
theorem dX3_reckonWithRegister_60 : decode cX3_reckonWithRegister 60 = .ok (.iload_n 2, 1) := by decide +kernel
theorem dX3_reckonWithRegister_61 : decode cX3_reckonWithRegister 61 = .ok (.bipush 15, 2) := by decide +kernel
theorem dX3_reckonWithRegister_63 : decode cX3_reckonWithRegister 63 = .ok (.ishr, 1) := by decide +kernel
theorem dX3_reckonWithRegister_64 : decode cX3_reckonWithRegister 64 = .ok (.bipush 31, 2) := by decide +kernel
theorem dX3_reckonWithRegister_66 : decode cX3_reckonWithRegister 66 = .ok (.iand, 1) := by decide +kernel
theorem dX3_reckonWithRegister_67 : decode cX3_reckonWithRegister 67 = .ok (.iaload, 1) := by decide +kernel
theorem dX3_reckonWithRegister_68 : decode cX3_reckonWithRegister 68 = .ok (.aload_n 1, 1) := by decide +kernel
theorem dX3_reckonWithRegister_69 : decode cX3_reckonWithRegister 69 = .ok (.getfield 38, 3) := by decide +kernel
theorem dX3_reckonWithRegister_72 : decode cX3_reckonWithRegister 72 = .ok (.iload_n 2, 1) := by decide +kernel
theorem dX3_reckonWithRegister_73 : decode cX3_reckonWithRegister 73 = .ok (.bipush 20, 2) := by decide +kernel
theorem dX3_reckonWithRegister_75 : decode cX3_reckonWithRegister 75 = .ok (.ishr, 1) := by decide +kernel
theorem dX3_reckonWithRegister_76 : decode cX3_reckonWithRegister 76 = .ok (.bipush 31, 2) := by decide +kernel
theorem dX3_reckonWithRegister_78 : decode cX3_reckonWithRegister 78 = .ok (.iand, 1) := by decide +kernel
theorem dX3_reckonWithRegister_79 : decode cX3_reckonWithRegister 79 = .ok (.iaload, 1) := by decide +kernel
theorem dX3_reckonWithRegister_80 : decode cX3_reckonWithRegister 80 = .ok (.invokevirtual 81, 3) := by decide +kernel
theorem dX3_reckonWithRegister_83 : decode cX3_reckonWithRegister 83 = .ok (.aload_n 1, 1) := by decide +kernel
theorem dX3_reckonWithRegister_84 : decode cX3_reckonWithRegister 84 = .ok (.getfield 9, 3) := by decide +kernel
theorem dX3_reckonWithRegister_87 : decode cX3_reckonWithRegister 87 = .ok (.iconst 4, 1) := by decide +kernel
theorem dX3_reckonWithRegister_88 : decode cX3_reckonWithRegister 88 = .ok (.iadd, 1) := by decide +kernel
theorem dX3_reckonWithRegister_89 : decode cX3_reckonWithRegister 89 = .ok (.invokevirtual 30, 3) := by decide +kernel
theorem dX3_reckonWithRegister_92 : decode cX3_reckonWithRegister 92 = .ok (.ireturn, 1) := by decide +kernel
def wb_X3_reckonWithRegister_49  (S : q_S) (a0 : Nat) (r1 : Option Nat) (x2 : Int32) (x3 : Int32) (x5 : Int32) (Q : Option Value → q_S → Prop) : Prop := ∃ a1_ : Nat, r1 = some a1_ ∧ (q_K S a1_ = 8 ∧ (∃ a4_ : Nat, (q_P S 1411 a1_) = some a4_ ∧ (q_K S a4_ = 21 ∧ (vp_in ((x2 >>> ((15 : Int32) &&& 31)) &&& (31 : Int32)) (q_N S a4_) ∧ (vp_in ((x2 >>> ((20 : Int32) &&& 31)) &&& (31 : Int32)) (q_N S a4_) ∧ (q_K S a0 = 4 ∧ (wm_X3_reckon S a0 x3 x5 (q_A S a4_ ((x2 >>> ((15 : Int32) &&& 31)) &&& (31 : Int32)).toNatClampNeg) (q_A S a4_ ((x2 >>> ((20 : Int32) &&& 31)) &&& (31 : Int32)).toNatClampNeg) (fun r10_ S11_ => ∃ x12_ : Int32, r10_ = some (.int x12_) ∧ (q_K S11_ a1_ = 8 ∧ (q_K S11_ a0 = 4 ∧ (wm_X3_finish S11_ a0 r1 x2 x12_ ((q_I S11_ 1410 a1_) + (4 : Int32)) (fun r15_ S16_ => ∃ x17_ : Int32, r15_ = some (.int x17_) ∧ (Q (some (.int x17_)) S16_)))))))))))))
set_option maxHeartbeats 4000000 in
set_option maxRecDepth 100000 in
theorem cb_X3_reckonWithRegister_49 {p : Program} {l : Launch} {e : Env} {s : State} {m : MethodId} {args : Array Value} {below : List Frame} {meth : Method} {c : Code} {D : va_G} {cy : Nat → ClassId} {lo : Nat}  {S : q_S} {a0 : Nat} {r1 : Option Nat} {x2 : Int32} {x3 : Int32} {x5 : Int32} {Q : Option Value → q_S → Prop} {H : Heap} {locs : List Loc} {ls : Array Slot} (X : q_X p s m args meth c RX3 cX3_reckonWithRegister 6 (some .int) D cy lo)  (Y : q_Y D cy lo s S H locs) (hl : lv_has ls 6 [(0, .ref a0), (1, va_rf r1), (2, .int x2), (3, .int x3), (5, .int x5)]) (h : wb_X3_reckonWithRegister_49 S a0 r1 x2 x3 x5 Q) : W p l e ({ frames := 3, cells := 0, slots := 0, locals := 66 } : Room) s m args below meth c H locs 0 0 (MQ below (q_Q D cy lo Q) args s 0 0 (fun q => lo ≤ q)) (F0 m 49 ls []) := by
  have hx := X.1
  have hb := X.2.1
  unfold wb_X3_reckonWithRegister_49 at h
  refine lv_aload_n hx hb dX3_reckonWithRegister_49 rfl (lv_at hl 0 rfl) ?_
  refine q_aload_n hx hb dX3_reckonWithRegister_50 rfl (lv_at hl 1 rfl) ?_
  refine lv_iload_n hx hb dX3_reckonWithRegister_51 rfl (lv_at hl 2 rfl) ?_
  refine lv_aload_n hx hb dX3_reckonWithRegister_52 rfl (lv_at hl 0 rfl) ?_
  refine lv_iload_n hx hb dX3_reckonWithRegister_53 rfl (lv_at hl 3 rfl) ?_
  refine lv_iload hx hb dX3_reckonWithRegister_54 (lv_at hl 4 rfl) ?_
  refine q_aload_n hx hb dX3_reckonWithRegister_56 rfl (lv_at hl 1 rfl) ?_
  obtain ⟨a1_, e2_, h⟩ := h
  refine q_nn [] e2_ ?_
  obtain ⟨k3_, h⟩ := h
  refine q_getP X Y kX7 11 rfl fl_X3_38 k3_ rfl dX3_reckonWithRegister_57 ?_
  refine lv_iload_n hx hb dX3_reckonWithRegister_60 rfl (lv_at hl 2 rfl) ?_
  refine lv_bipush (v := 15) hx hb dX3_reckonWithRegister_61 (by decide) ?_
  refine lv_ishr hx hb dX3_reckonWithRegister_63 ?_
  refine lv_bipush (v := 31) hx hb dX3_reckonWithRegister_64 (by decide) ?_
  refine lv_iand hx hb dX3_reckonWithRegister_66 ?_
  obtain ⟨a4_, e5_, h⟩ := h
  refine q_nn [.int ((x2 >>> ((15 : Int32) &&& 31)) &&& (31 : Int32))] e5_ ?_
  obtain ⟨k6_, h⟩ := h
  obtain ⟨i7_, h⟩ := h
  refine q_ild X Y k6_ i7_ dX3_reckonWithRegister_67 ?_
  refine q_aload_n hx hb dX3_reckonWithRegister_68 rfl (lv_at hl 1 rfl) ?_
  refine q_nn [] e2_ ?_
  refine q_getR X Y kX7 11 rfl fl_X3_38 k3_ e5_ dX3_reckonWithRegister_69 ?_
  refine lv_iload_n hx hb dX3_reckonWithRegister_72 rfl (lv_at hl 2 rfl) ?_
  refine lv_bipush (v := 20) hx hb dX3_reckonWithRegister_73 (by decide) ?_
  refine lv_ishr hx hb dX3_reckonWithRegister_75 ?_
  refine lv_bipush (v := 31) hx hb dX3_reckonWithRegister_76 (by decide) ?_
  refine lv_iand hx hb dX3_reckonWithRegister_78 ?_
  obtain ⟨i8_, h⟩ := h
  refine q_ild X Y k6_ i8_ dX3_reckonWithRegister_79 ?_
  obtain ⟨k9_, h⟩ := h
  refine q_callV X Y hl (cm_X3_reckon h) mt_X3_reckon mi_X3_reckon ml_X3_81 (ci := 3) rfl k9_ (by decide) rfl rfl (by first | exact Nat.le_of_ble_eq_true rfl | simp [q_cat, q_catI, q_catJ, q_catR]) ⟨Nat.le_of_ble_eq_true rfl, Nat.le_of_ble_eq_true rfl⟩ ⟨Nat.le_of_ble_eq_true rfl, Nat.le_of_ble_eq_true rfl⟩ dX3_reckonWithRegister_80 (fun r10_ S11_ H locs hp Y => ?_)
  obtain ⟨x12_, rfl, h⟩ := hp
  refine W.eq (g2 := F0 m 83 ls [.int x12_, .int x2, va_rf r1, .ref a0]) rfl ?_
  refine q_aload_n hx hb dX3_reckonWithRegister_83 rfl (lv_at hl 1 rfl) ?_
  refine q_nn [] e2_ ?_
  obtain ⟨k13_, h⟩ := h
  refine q_getI X Y kX7 10 rfl fl_X3_9 k13_ dX3_reckonWithRegister_84 ?_
  refine lv_iconst (v := 4) hx hb dX3_reckonWithRegister_87 (by decide) ?_
  refine lv_iadd hx hb dX3_reckonWithRegister_88 ?_
  obtain ⟨k14_, h⟩ := h
  refine q_callV X Y hl (cm_X3_finish h) mt_X3_finish mi_X3_finish ml_X3_30 (ci := 3) rfl k14_ (by decide) rfl rfl (by first | exact Nat.le_of_ble_eq_true rfl | simp [q_cat, q_catI, q_catJ, q_catR]) ⟨Nat.le_of_ble_eq_true rfl, Nat.le_of_ble_eq_true rfl⟩ ⟨Nat.le_of_ble_eq_true rfl, Nat.le_of_ble_eq_true rfl⟩ dX3_reckonWithRegister_89 (fun r15_ S16_ H locs hp Y => ?_)
  obtain ⟨x17_, rfl, h⟩ := hp
  refine W.eq (g2 := F0 m 92 ls [.int x17_]) rfl ?_
  exact q_iret X Y rfl (Nat.le_refl _) (Nat.le_refl _) h dX3_reckonWithRegister_92
def wb_X3_reckonWithRegister_35  (S : q_S) (a0 : Nat) (r1 : Option Nat) (x2 : Int32) (x3 : Int32) (x4 : Int32) (xs0 : Int32) (Q : Option Value → q_S → Prop) : Prop := ((x4 = 0 → (wb_X3_reckonWithRegister_49 S a0 r1 x2 x3 xs0 Q)) ∧ (¬ x4 = 0 → (((¬ xs0 = 0 → (wb_X3_reckonWithRegister_49 S a0 r1 x2 x3 xs0 Q)) ∧ (xs0 = 0 → (Q (some (.int (0 : Int32))) S))))))
set_option maxHeartbeats 4000000 in
set_option maxRecDepth 100000 in
theorem cb_X3_reckonWithRegister_35 {p : Program} {l : Launch} {e : Env} {s : State} {m : MethodId} {args : Array Value} {below : List Frame} {meth : Method} {c : Code} {D : va_G} {cy : Nat → ClassId} {lo : Nat}  {S : q_S} {a0 : Nat} {r1 : Option Nat} {x2 : Int32} {x3 : Int32} {x4 : Int32} {xs0 : Int32} {Q : Option Value → q_S → Prop} {H : Heap} {locs : List Loc} {ls : Array Slot} (X : q_X p s m args meth c RX3 cX3_reckonWithRegister 6 (some .int) D cy lo)  (Y : q_Y D cy lo s S H locs) (hl : lv_has ls 6 [(0, .ref a0), (1, va_rf r1), (2, .int x2), (3, .int x3), (4, .int x4)]) (h : wb_X3_reckonWithRegister_35 S a0 r1 x2 x3 x4 xs0 Q) : W p l e ({ frames := 3, cells := 0, slots := 0, locals := 66 } : Room) s m args below meth c H locs 0 0 (MQ below (q_Q D cy lo Q) args s 0 0 (fun q => lo ≤ q)) (F0 m 35 ls [.int xs0]) := by
  have hx := X.1
  have hb := X.2.1
  unfold wb_X3_reckonWithRegister_35 at h
  refine lv_istore (i := 5) (lv' := [(5, .int xs0), (0, .ref a0), (1, va_rf r1), (2, .int x2), (3, .int x3), (4, .int x4)]) hx hb dX3_reckonWithRegister_35 hl (by decide) (by first | rfl | simp [q_cat, q_catI, q_catJ, q_catR]) (fun ls hl => ?_)
  refine lv_iload hx hb dX3_reckonWithRegister_37 (lv_at hl 5 rfl) ?_
  refine lv_if_eq (tgt := 49) hx hb dX3_reckonWithRegister_39 (by decide) (fun c18_ => ?_) (fun c18_ => ?_)
  · replace h := h.1 c18_
    exact cb_X3_reckonWithRegister_49 X Y (lv_sub hl [1, 2, 3, 4, 0] rfl) h
  · replace h := h.2 c18_
    refine lv_iload hx hb dX3_reckonWithRegister_42 (lv_at hl 0 rfl) ?_
    refine lv_if_ne (tgt := 49) hx hb dX3_reckonWithRegister_44 (by decide) (fun c19_ => ?_) (fun c19_ => ?_)
    · replace h := h.1 c19_
      exact cb_X3_reckonWithRegister_49 X Y (lv_sub hl [1, 2, 3, 4, 0] rfl) h
    · replace h := h.2 c19_
      refine lv_iconst (v := 0) hx hb dX3_reckonWithRegister_47 (by decide) ?_
      exact q_iret X Y rfl (Nat.le_refl _) (Nat.le_refl _) h dX3_reckonWithRegister_48
def wb_X3_reckonWithRegister_30  (S : q_S) (a0 : Nat) (r1 : Option Nat) (x2 : Int32) (x3 : Int32) (x4 : Int32) (Q : Option Value → q_S → Prop) : Prop := wb_X3_reckonWithRegister_35 S a0 r1 x2 x3 x4 (1 : Int32) Q
set_option maxHeartbeats 4000000 in
set_option maxRecDepth 100000 in
theorem cb_X3_reckonWithRegister_30 {p : Program} {l : Launch} {e : Env} {s : State} {m : MethodId} {args : Array Value} {below : List Frame} {meth : Method} {c : Code} {D : va_G} {cy : Nat → ClassId} {lo : Nat}  {S : q_S} {a0 : Nat} {r1 : Option Nat} {x2 : Int32} {x3 : Int32} {x4 : Int32} {Q : Option Value → q_S → Prop} {H : Heap} {locs : List Loc} {ls : Array Slot} (X : q_X p s m args meth c RX3 cX3_reckonWithRegister 6 (some .int) D cy lo)  (Y : q_Y D cy lo s S H locs) (hl : lv_has ls 6 [(0, .ref a0), (1, va_rf r1), (2, .int x2), (3, .int x3), (4, .int x4)]) (h : wb_X3_reckonWithRegister_30 S a0 r1 x2 x3 x4 Q) : W p l e ({ frames := 3, cells := 0, slots := 0, locals := 66 } : Room) s m args below meth c H locs 0 0 (MQ below (q_Q D cy lo Q) args s 0 0 (fun q => lo ≤ q)) (F0 m 30 ls []) := by
  have hx := X.1
  have hb := X.2.1
  unfold wb_X3_reckonWithRegister_30 at h
  refine lv_iconst (v := 1) hx hb dX3_reckonWithRegister_30 (by decide) ?_
  refine lv_goto (tgt := 35) hx hb dX3_reckonWithRegister_31 (by decide) ?_
  exact cb_X3_reckonWithRegister_35 X Y (lv_sub hl [0, 1, 2, 3, 4] rfl) h
def wb_X3_reckonWithRegister_34  (S : q_S) (a0 : Nat) (r1 : Option Nat) (x2 : Int32) (x3 : Int32) (x4 : Int32) (Q : Option Value → q_S → Prop) : Prop := wb_X3_reckonWithRegister_35 S a0 r1 x2 x3 x4 (0 : Int32) Q
set_option maxHeartbeats 4000000 in
set_option maxRecDepth 100000 in
theorem cb_X3_reckonWithRegister_34 {p : Program} {l : Launch} {e : Env} {s : State} {m : MethodId} {args : Array Value} {below : List Frame} {meth : Method} {c : Code} {D : va_G} {cy : Nat → ClassId} {lo : Nat}  {S : q_S} {a0 : Nat} {r1 : Option Nat} {x2 : Int32} {x3 : Int32} {x4 : Int32} {Q : Option Value → q_S → Prop} {H : Heap} {locs : List Loc} {ls : Array Slot} (X : q_X p s m args meth c RX3 cX3_reckonWithRegister 6 (some .int) D cy lo)  (Y : q_Y D cy lo s S H locs) (hl : lv_has ls 6 [(0, .ref a0), (1, va_rf r1), (2, .int x2), (3, .int x3), (4, .int x4)]) (h : wb_X3_reckonWithRegister_34 S a0 r1 x2 x3 x4 Q) : W p l e ({ frames := 3, cells := 0, slots := 0, locals := 66 } : Room) s m args below meth c H locs 0 0 (MQ below (q_Q D cy lo Q) args s 0 0 (fun q => lo ≤ q)) (F0 m 34 ls []) := by
  have hx := X.1
  have hb := X.2.1
  unfold wb_X3_reckonWithRegister_34 at h
  refine lv_iconst (v := 0) hx hb dX3_reckonWithRegister_34 (by decide) ?_
  exact cb_X3_reckonWithRegister_35 X Y (lv_sub hl [0, 1, 2, 3, 4] rfl) h
def wm_X3_reckonWithRegister (S : q_S) (a0 : Nat) (r1 : Option Nat) (x2 : Int32) (Q : Option Value → q_S → Prop) : Prop := ((¬ ((x2.toUInt32 >>> ((25 : Int32).toUInt32 &&& Int32.toUInt32 31)).toInt32) = (32 : Int32) → (wb_X3_reckonWithRegister_34 S a0 r1 x2 ((x2 >>> ((12 : Int32) &&& 31)) &&& (7 : Int32)) ((x2.toUInt32 >>> ((25 : Int32).toUInt32 &&& Int32.toUInt32 31)).toInt32) Q)) ∧ (((x2.toUInt32 >>> ((25 : Int32).toUInt32 &&& Int32.toUInt32 31)).toInt32) = (32 : Int32) → (((((x2 >>> ((12 : Int32) &&& 31)) &&& (7 : Int32)) = 0 → (wb_X3_reckonWithRegister_30 S a0 r1 x2 ((x2 >>> ((12 : Int32) &&& 31)) &&& (7 : Int32)) ((x2.toUInt32 >>> ((25 : Int32).toUInt32 &&& Int32.toUInt32 31)).toInt32) Q)) ∧ (¬ ((x2 >>> ((12 : Int32) &&& 31)) &&& (7 : Int32)) = 0 → (((¬ ((x2 >>> ((12 : Int32) &&& 31)) &&& (7 : Int32)) = (5 : Int32) → (wb_X3_reckonWithRegister_34 S a0 r1 x2 ((x2 >>> ((12 : Int32) &&& 31)) &&& (7 : Int32)) ((x2.toUInt32 >>> ((25 : Int32).toUInt32 &&& Int32.toUInt32 31)).toInt32) Q)) ∧ (((x2 >>> ((12 : Int32) &&& 31)) &&& (7 : Int32)) = (5 : Int32) → (wb_X3_reckonWithRegister_30 S a0 r1 x2 ((x2 >>> ((12 : Int32) &&& 31)) &&& (7 : Int32)) ((x2.toUInt32 >>> ((25 : Int32).toUInt32 &&& Int32.toUInt32 31)).toInt32) Q)))))))))
set_option maxHeartbeats 4000000 in
set_option maxRecDepth 100000 in
theorem cm_X3_reckonWithRegister {l : Launch} {D : va_G} {cy : Nat → ClassId} {lo : Nat} {S : q_S} {a0 : Nat} {r1 : Option Nat} {x2 : Int32} {Q : Option Value → q_S → Prop} (h : wm_X3_reckonWithRegister S a0 r1 x2 Q) : q_Met l D cy lo yX3_reckonWithRegister cX3_reckonWithRegister 6 (some .int) 3 66 0 0 [.ref a0, va_rf r1, .int x2] S Q := by
  refine q_body (by decide) (by first | exact Nat.le_of_ble_eq_true rfl | simp [lg_sl, q_cat, q_catI, q_catJ, q_catR]) ?_
  intro p e s m below meth c ls X hnm Y hl
  have hx := X.1
  have hb := X.2.1
  have hl : lv_has ls 6 [(0, .ref a0), (1, va_rf r1), (2, .int x2)] := by first | exact hl | simpa [lv_args, q_cat, q_catI, q_catJ, q_catR] using hl
  generalize hargs : ([.ref a0, va_rf r1, .int x2] : List Value).toArray = args at X ⊢
  unfold wm_X3_reckonWithRegister at h
  refine lv_iload_n hx hb dX3_reckonWithRegister_0 rfl (lv_at hl 2 rfl) ?_
  refine lv_bipush (v := 12) hx hb dX3_reckonWithRegister_1 (by decide) ?_
  refine lv_ishr hx hb dX3_reckonWithRegister_3 ?_
  refine lv_bipush (v := 7) hx hb dX3_reckonWithRegister_4 (by decide) ?_
  refine lv_iand hx hb dX3_reckonWithRegister_6 ?_
  refine lv_istore_n (i := 3) (lv' := [(3, .int ((x2 >>> ((12 : Int32) &&& 31)) &&& (7 : Int32))), (0, .ref a0), (1, va_rf r1), (2, .int x2)]) hx hb dX3_reckonWithRegister_7 rfl hl (by decide) (by first | rfl | simp [q_cat, q_catI, q_catJ, q_catR]) (fun ls hl => ?_)
  refine lv_iload_n hx hb dX3_reckonWithRegister_8 rfl (lv_at hl 3 rfl) ?_
  refine lv_bipush (v := 25) hx hb dX3_reckonWithRegister_9 (by decide) ?_
  refine lv_iushr hx hb dX3_reckonWithRegister_11 rfl ?_
  refine lv_istore (i := 4) (lv' := [(4, .int ((x2.toUInt32 >>> ((25 : Int32).toUInt32 &&& Int32.toUInt32 31)).toInt32)), (3, .int ((x2 >>> ((12 : Int32) &&& 31)) &&& (7 : Int32))), (0, .ref a0), (1, va_rf r1), (2, .int x2)]) hx hb dX3_reckonWithRegister_12 hl (by decide) (by first | rfl | simp [q_cat, q_catI, q_catJ, q_catR]) (fun ls hl => ?_)
  refine lv_iload hx hb dX3_reckonWithRegister_14 (lv_at hl 0 rfl) ?_
  refine lv_bipush (v := 32) hx hb dX3_reckonWithRegister_16 (by decide) ?_
  refine lv_icmp_ne (tgt := 34) hx hb dX3_reckonWithRegister_18 (by decide) (fun c20_ => ?_) (fun c20_ => ?_)
  · replace h := h.1 c20_
    exact cb_X3_reckonWithRegister_34 X Y (lv_sub hl [2, 3, 4, 1, 0] rfl) h
  · replace h := h.2 c20_
    refine lv_iload_n hx hb dX3_reckonWithRegister_21 rfl (lv_at hl 1 rfl) ?_
    refine lv_if_eq (tgt := 30) hx hb dX3_reckonWithRegister_22 (by decide) (fun c21_ => ?_) (fun c21_ => ?_)
    · replace h := h.1 c21_
      exact cb_X3_reckonWithRegister_30 X Y (lv_sub hl [2, 3, 4, 1, 0] rfl) h
    · replace h := h.2 c21_
      refine lv_iload_n hx hb dX3_reckonWithRegister_25 rfl (lv_at hl 1 rfl) ?_
      refine lv_iconst (v := 5) hx hb dX3_reckonWithRegister_26 (by decide) ?_
      refine lv_icmp_ne (tgt := 34) hx hb dX3_reckonWithRegister_27 (by decide) (fun c22_ => ?_) (fun c22_ => ?_)
      · replace h := h.1 c22_
        exact cb_X3_reckonWithRegister_34 X Y (lv_sub hl [2, 3, 4, 1, 0] rfl) h
      · replace h := h.2 c22_
        exact cb_X3_reckonWithRegister_30 X Y (lv_sub hl [2, 3, 4, 1, 0] rfl) h
-- X3_step
theorem ml_X3_20 : Cond.methodLink RX3 20 yX4_mayRun ∈ q_G := q_tb (i := 1441) (by decide +kernel) (by decide +kernel)
theorem mt_X4_mayRun : q_Mt yX4_mayRun cX4_mayRun 3 (some .boolean) 1 := ⟨q_tb (i := 1444) (by decide +kernel) (by decide +kernel), q_tb (i := 21) (by decide +kernel) (by decide +kernel), by decide +kernel, by decide +kernel, by decide +kernel⟩
theorem mi_X4_mayRun : Cond.instanceMethod yX4_mayRun ∈ q_G ∧ Cond.selects yX4_mayRun.cls yX4_mayRun yX4_mayRun ∈ q_G := ⟨q_tb (i := 1442) (by decide +kernel) (by decide +kernel), q_tb (i := 1443) (by decide +kernel) (by decide +kernel)⟩
theorem ml_X3_46 : Cond.methodLink RX3 46 yX3_fetch ∈ q_G := q_tb (i := 1483) (by decide +kernel) (by decide +kernel)
theorem mt_X3_fetch : q_Mt yX3_fetch cX3_fetch 9 (some .int) 3 := ⟨q_tb (i := 1486) (by decide +kernel) (by decide +kernel), q_tb (i := 9) (by decide +kernel) (by decide +kernel), by decide +kernel, by decide +kernel, by decide +kernel⟩
theorem mi_X3_fetch : Cond.instanceMethod yX3_fetch ∈ q_G ∧ Cond.selects yX3_fetch.cls yX3_fetch yX3_fetch ∈ q_G := ⟨q_tb (i := 1485) (by decide +kernel) (by decide +kernel), q_tp (i := 45) (q := (yX3_fetch, 1)) (by decide +kernel) (by decide +kernel)⟩
theorem ml_X3_53 : Cond.methodLink RX3 53 yX3_reckonWithNumber ∈ q_G := q_tb (i := 1504) (by decide +kernel) (by decide +kernel)
theorem mt_X3_reckonWithNumber : q_Mt yX3_reckonWithNumber cX3_reckonWithNumber 6 (some .int) 2 := ⟨q_tb (i := 1507) (by decide +kernel) (by decide +kernel), q_tb (i := 9) (by decide +kernel) (by decide +kernel), by decide +kernel, by decide +kernel, by decide +kernel⟩
theorem mi_X3_reckonWithNumber : Cond.instanceMethod yX3_reckonWithNumber ∈ q_G ∧ Cond.selects yX3_reckonWithNumber.cls yX3_reckonWithNumber yX3_reckonWithNumber ∈ q_G := ⟨q_tb (i := 1506) (by decide +kernel) (by decide +kernel), q_tp (i := 48) (q := (yX3_reckonWithNumber, 1)) (by decide +kernel) (by decide +kernel)⟩
theorem ml_X3_50 : Cond.methodLink RX3 50 yX3_store ∈ q_G := q_tb (i := 1492) (by decide +kernel) (by decide +kernel)
theorem mt_X3_store : q_Mt yX3_store cX3_store 8 (some .int) 3 := ⟨q_tb (i := 1495) (by decide +kernel) (by decide +kernel), q_tb (i := 9) (by decide +kernel) (by decide +kernel), by decide +kernel, by decide +kernel, by decide +kernel⟩
theorem mi_X3_store : Cond.instanceMethod yX3_store ∈ q_G ∧ Cond.selects yX3_store.cls yX3_store yX3_store ∈ q_G := ⟨q_tb (i := 1494) (by decide +kernel) (by decide +kernel), q_tp (i := 47) (q := (yX3_store, 1)) (by decide +kernel) (by decide +kernel)⟩
theorem ml_X3_56 : Cond.methodLink RX3 56 yX3_reckonWithRegister ∈ q_G := q_tb (i := 1512) (by decide +kernel) (by decide +kernel)
theorem mt_X3_reckonWithRegister : q_Mt yX3_reckonWithRegister cX3_reckonWithRegister 6 (some .int) 2 := ⟨q_tb (i := 1515) (by decide +kernel) (by decide +kernel), q_tb (i := 9) (by decide +kernel) (by decide +kernel), by decide +kernel, by decide +kernel, by decide +kernel⟩
theorem mi_X3_reckonWithRegister : Cond.instanceMethod yX3_reckonWithRegister ∈ q_G ∧ Cond.selects yX3_reckonWithRegister.cls yX3_reckonWithRegister yX3_reckonWithRegister ∈ q_G := ⟨q_tb (i := 1514) (by decide +kernel) (by decide +kernel), q_tp (i := 50) (q := (yX3_reckonWithRegister, 1)) (by decide +kernel) (by decide +kernel)⟩
theorem ml_X3_42 : Cond.methodLink RX3 42 yX3_branch ∈ q_G := q_tb (i := 1468) (by decide +kernel) (by decide +kernel)
theorem mt_X3_branch : q_Mt yX3_branch cX3_branch 7 (some .int) 2 := ⟨q_tb (i := 1471) (by decide +kernel) (by decide +kernel), q_tb (i := 9) (by decide +kernel) (by decide +kernel), by decide +kernel, by decide +kernel, by decide +kernel⟩
theorem mi_X3_branch : Cond.instanceMethod yX3_branch ∈ q_G ∧ Cond.selects yX3_branch.cls yX3_branch yX3_branch ∈ q_G := ⟨q_tb (i := 1470) (by decide +kernel) (by decide +kernel), q_tp (i := 43) (q := (yX3_branch, 1)) (by decide +kernel) (by decide +kernel)⟩
theorem ml_X3_34 : Cond.methodLink RX3 34 yX3_jumpOf ∈ q_G := q_tb (i := 1464) (by decide +kernel) (by decide +kernel)
theorem mt_X3_jumpOf : q_Mt yX3_jumpOf cX3_jumpOf 2 (some .int) 1 := ⟨q_tb (i := 1467) (by decide +kernel) (by decide +kernel), q_tb (i := 9) (by decide +kernel) (by decide +kernel), by decide +kernel, by decide +kernel, by decide +kernel⟩
theorem mi_X3_jumpOf : Cond.instanceMethod yX3_jumpOf ∈ q_G ∧ Cond.selects yX3_jumpOf.cls yX3_jumpOf yX3_jumpOf ∈ q_G := ⟨q_tb (i := 1466) (by decide +kernel) (by decide +kernel), q_tp (i := 42) (q := (yX3_jumpOf, 1)) (by decide +kernel) (by decide +kernel)⟩
theorem dX3_step_0 : decode cX3_step 0 = .ok (.aload_n 0, 1) := by decide +kernel
theorem dX3_step_1 : decode cX3_step 1 = .ok (.aload_n 1, 1) := by decide +kernel
theorem dX3_step_2 : decode cX3_step 2 = .ok (.getfield 9, 3) := by decide +kernel
theorem dX3_step_5 : decode cX3_step 5 = .ok (.putfield 15, 3) := by decide +kernel
theorem dX3_step_8 : decode cX3_step 8 = .ok (.aload_n 1, 1) := by decide +kernel
theorem dX3_step_9 : decode cX3_step 9 = .ok (.getfield 9, 3) := by decide +kernel
theorem dX3_step_12 : decode cX3_step 12 = .ok (.iconst 3, 1) := by decide +kernel
theorem dX3_step_13 : decode cX3_step 13 = .ok (.iand, 1) := by decide +kernel
theorem dX3_step_14 : decode cX3_step 14 = .ok (.ifCond .eq 5, 3) := by decide +kernel
theorem dX3_step_17 : decode cX3_step 17 = .ok (.iconst 4, 1) := by decide +kernel
theorem dX3_step_18 : decode cX3_step 18 = .ok (.ireturn, 1) := by decide +kernel
theorem dX3_step_19 : decode cX3_step 19 = .ok (.aload_n 2, 1) := by decide +kernel
theorem dX3_step_20 : decode cX3_step 20 = .ok (.aload_n 1, 1) := by decide +kernel
theorem dX3_step_21 : decode cX3_step 21 = .ok (.getfield 9, 3) := by decide +kernel
theorem dX3_step_24 : decode cX3_step 24 = .ok (.invokevirtual 20, 3) := by decide +kernel
theorem dX3_step_27 : decode cX3_step 27 = .ok (.ifCond .ne 5, 3) := by decide +kernel
theorem dX3_step_30 : decode cX3_step 30 = .ok (.iconst 1, 1) := by decide +kernel
theorem dX3_step_31 : decode cX3_step 31 = .ok (.ireturn, 1) := by decide +kernel
theorem dX3_step_32 : decode cX3_step 32 = .ok (.aload_n 2, 1) := by decide +kernel
theorem dX3_step_33 : decode cX3_step 33 = .ok (.aload_n 1, 1) := by decide +kernel
theorem dX3_step_34 : decode cX3_step 34 = .ok (.getfield 9, 3) := by decide +kernel
theorem dX3_step_37 : decode cX3_step 37 = .ok (.iconst 4, 1) := by decide +kernel
theorem dX3_step_38 : decode cX3_step 38 = .ok (.invokevirtual 26, 3) := by decide +kernel
theorem dX3_step_41 : decode cX3_step 41 = .ok (.istore_n 3, 1) := by decide +kernel
theorem dX3_step_42 : decode cX3_step 42 = .ok (.aload_n 0, 1) := by decide +kernel
theorem dX3_step_43 : decode cX3_step 43 = .ok (.iload_n 3, 1) := by decide +kernel
theorem dX3_step_44 : decode cX3_step 44 = .ok (.putfield 15, 3) := by decide +kernel
theorem dX3_step_47 : decode cX3_step 47 = .ok (.iload_n 3, 1) := by decide +kernel
theorem dX3_step_48 : decode cX3_step 48 = .ok (.sipush (-4096), 3) := by decide +kernel
theorem dX3_step_51 : decode cX3_step 51 = .ok (.iand, 1) := by decide +kernel
theorem dX3_step_52 : decode cX3_step 52 = .ok (.istore 4, 2) := by decide +kernel
theorem dX3_step_54 : decode cX3_step 54 = .ok (.iload_n 3, 1) := by decide +kernel
theorem dX3_step_55 : decode cX3_step 55 = .ok (.bipush 127, 2) := by decide +kernel
theorem dX3_step_57 : decode cX3_step 57 = .ok (.iand, 1) := by decide +kernel
theorem dX3_step_58 : decode cX3_step 58 = .ok (.lookupswitch 224 #[(3, 194), (19, 210), (23, 97), (35, 202), (51, 217), (55, 82), (99, 187), (103, 140), (111, 117)], 82) := by decide +kernel
theorem dX3_step_140 : decode cX3_step 140 = .ok (.aload_n 0, 1) := by decide +kernel
theorem dX3_step_141 : decode cX3_step 141 = .ok (.aload_n 1, 1) := by decide +kernel
theorem dX3_step_142 : decode cX3_step 142 = .ok (.iload_n 3, 1) := by decide +kernel
theorem dX3_step_143 : decode cX3_step 143 = .ok (.iload 4, 2) := by decide +kernel
theorem dX3_step_145 : decode cX3_step 145 = .ok (.aload_n 1, 1) := by decide +kernel
theorem dX3_step_146 : decode cX3_step 146 = .ok (.getfield 9, 3) := by decide +kernel
theorem dX3_step_149 : decode cX3_step 149 = .ok (.iconst 4, 1) := by decide +kernel
theorem dX3_step_150 : decode cX3_step 150 = .ok (.iadd, 1) := by decide +kernel
theorem dX3_step_151 : decode cX3_step 151 = .ok (.invokevirtual 30, 3) := by decide +kernel
theorem dX3_step_154 : decode cX3_step 154 = .ok (.ireturn, 1) := by decide +kernel
theorem dX3_step_155 : decode cX3_step 155 = .ok (.aload_n 0, 1) := by decide +kernel
theorem dX3_step_156 : decode cX3_step 156 = .ok (.aload_n 1, 1) := by decide +kernel
theorem dX3_step_157 : decode cX3_step 157 = .ok (.iload_n 3, 1) := by decide +kernel
theorem dX3_step_158 : decode cX3_step 158 = .ok (.aload_n 1, 1) := by decide +kernel
theorem dX3_step_159 : decode cX3_step 159 = .ok (.getfield 9, 3) := by decide +kernel
theorem dX3_step_162 : decode cX3_step 162 = .ok (.iload 4, 2) := by decide +kernel
theorem dX3_step_164 : decode cX3_step 164 = .ok (.iadd, 1) := by decide +kernel
theorem dX3_step_165 : decode cX3_step 165 = .ok (.aload_n 1, 1) := by decide +kernel
theorem dX3_step_166 : decode cX3_step 166 = .ok (.getfield 9, 3) := by decide +kernel
theorem dX3_step_169 : decode cX3_step 169 = .ok (.iconst 4, 1) := by decide +kernel
theorem dX3_step_170 : decode cX3_step 170 = .ok (.iadd, 1) := by decide +kernel
theorem dX3_step_171 : decode cX3_step 171 = .ok (.invokevirtual 30, 3) := by decide +kernel
theorem dX3_step_174 : decode cX3_step 174 = .ok (.ireturn, 1) := by decide +kernel
theorem dX3_step_175 : decode cX3_step 175 = .ok (.aload_n 0, 1) := by decide +kernel
theorem dX3_step_176 : decode cX3_step 176 = .ok (.aload_n 1, 1) := by decide +kernel
theorem dX3_step_177 : decode cX3_step 177 = .ok (.iload_n 3, 1) := by decide +kernel
theorem dX3_step_178 : decode cX3_step 178 = .ok (.aload_n 1, 1) := by decide +kernel
theorem dX3_step_179 : decode cX3_step 179 = .ok (.getfield 9, 3) := by decide +kernel
theorem dX3_step_182 : decode cX3_step 182 = .ok (.iconst 4, 1) := by decide +kernel
theorem dX3_step_183 : decode cX3_step 183 = .ok (.iadd, 1) := by decide +kernel
theorem dX3_step_184 : decode cX3_step 184 = .ok (.aload_n 1, 1) := by decide +kernel
theorem dX3_step_185 : decode cX3_step 185 = .ok (.getfield 9, 3) := by decide +kernel
theorem dX3_step_188 : decode cX3_step 188 = .ok (.aload_n 0, 1) := by decide +kernel
theorem dX3_step_189 : decode cX3_step 189 = .ok (.iload_n 3, 1) := by decide +kernel
theorem dX3_step_190 : decode cX3_step 190 = .ok (.invokevirtual 34, 3) := by decide +kernel
theorem dX3_step_193 : decode cX3_step 193 = .ok (.iadd, 1) := by decide +kernel
theorem dX3_step_194 : decode cX3_step 194 = .ok (.invokevirtual 30, 3) := by decide +kernel
theorem dX3_step_197 : decode cX3_step 197 = .ok (.ireturn, 1) := by decide +kernel
theorem dX3_step_198 : decode cX3_step 198 = .ok (.iload_n 3, 1) := by decide +kernel
theorem dX3_step_199 : decode cX3_step 199 = .ok (.bipush 12, 2) := by decide +kernel
theorem dX3_step_201 : decode cX3_step 201 = .ok (.ishr, 1) := by decide +kernel
theorem dX3_step_202 : decode cX3_step 202 = .ok (.bipush 7, 2) := by decide +kernel
theorem dX3_step_204 : decode cX3_step 204 = .ok (.iand, 1) := by decide +kernel
theorem dX3_step_205 : decode cX3_step 205 = .ok (.ifCond .eq 7, 3) := by decide +kernel
theorem dX3_step_208 : decode cX3_step 208 = .ok (.iconst 0, 1) := by decide +kernel
theorem dX3_step_209 : decode cX3_step 209 = .ok (.goto 35, 3) := by decide +kernel
theorem dX3_step_212 : decode cX3_step 212 = .ok (.aload_n 0, 1) := by decide +kernel
theorem dX3_step_213 : decode cX3_step 213 = .ok (.aload_n 1, 1) := by decide +kernel
theorem dX3_step_214 : decode cX3_step 214 = .ok (.iload_n 3, 1) := by decide +kernel
theorem dX3_step_215 : decode cX3_step 215 = .ok (.aload_n 1, 1) := by decide +kernel
theorem dX3_step_216 : decode cX3_step 216 = .ok (.getfield 9, 3) := by decide +kernel
theorem dX3_step_219 : decode cX3_step 219 = .ok (.iconst 4, 1) := by decide +kernel
theorem dX3_step_220 : decode cX3_step 220 = .ok (.iadd, 1) := by decide +kernel
theorem dX3_step_221 : decode cX3_step 221 = .ok (.aload_n 1, 1) := by decide +kernel
theorem dX3_step_222 : decode cX3_step 222 = .ok (.getfield 38, 3) := by decide +kernel
theorem dX3_step_225 : decode cX3_step 225 = .ok (.iload_n 3, 1) := by decide +kernel
theorem dX3_step_226 : decode cX3_step 226 = .ok (.bipush 15, 2) := by decide +kernel
theorem dX3_step_228 : decode cX3_step 228 = .ok (.ishr, 1) := by decide +kernel
theorem dX3_step_229 : decode cX3_step 229 = .ok (.bipush 31, 2) := by decide +kernel
theorem dX3_step_231 : decode cX3_step 231 = .ok (.iand, 1) := by decide +kernel
theorem dX3_step_232 : decode cX3_step 232 = .ok (.iaload, 1) := by decide +kernel
theorem dX3_step_233 : decode cX3_step 233 = .ok (.iload_n 3, 1) := by decide +kernel
theorem dX3_step_234 : decode cX3_step 234 = .ok (.bipush 20, 2) := by decide +kernel
theorem dX3_step_236 : decode cX3_step 236 = .ok (.ishr, 1) := by decide +kernel
theorem dX3_step_237 : decode cX3_step 237 = .ok (.iadd, 1) := by decide +kernel
theorem dX3_step_238 : decode cX3_step 238 = .ok (.bipush (-2), 2) := by decide +kernel
theorem dX3_step_240 : decode cX3_step 240 = .ok (.iand, 1) := by decide +kernel
theorem dX3_step_241 : decode cX3_step 241 = .ok (.invokevirtual 30, 3) := by decide +kernel
theorem dX3_step_244 : decode cX3_step 244 = .ok (.ireturn, 1) := by decide +kernel
theorem dX3_step_245 : decode cX3_step 245 = .ok (.aload_n 0, 1) := by decide +kernel
theorem dX3_step_246 : decode cX3_step 246 = .ok (.aload_n 1, 1) := by decide +kernel
theorem dX3_step_247 : decode cX3_step 247 = .ok (.iload_n 3, 1) := by decide +kernel
theorem dX3_step_248 : decode cX3_step 248 = .ok (.invokevirtual 42, 3) := by decide +kernel
theorem dX3_step_251 : decode cX3_step 251 = .ok (.ireturn, 1) := by decide +kernel
theorem dX3_step_252 : decode cX3_step 252 = .ok (.aload_n 0, 1) := by decide +kernel
theorem dX3_step_253 : decode cX3_step 253 = .ok (.aload_n 1, 1) := by decide +kernel
theorem dX3_step_254 : decode cX3_step 254 = .ok (.aload_n 2, 1) := by decide +kernel
theorem dX3_step_255 : decode cX3_step 255 = .ok (.iload_n 3, 1) := by decide +kernel
theorem dX3_step_256 : decode cX3_step 256 = .ok (.invokevirtual 46, 3) := by decide +kernel
theorem dX3_step_259 : decode cX3_step 259 = .ok (.ireturn, 1) := by decide +kernel
theorem dX3_step_260 : decode cX3_step 260 = .ok (.aload_n 0, 1) := by decide +kernel
theorem dX3_step_261 : decode cX3_step 261 = .ok (.aload_n 1, 1) := by decide +kernel
theorem dX3_step_262 : decode cX3_step 262 = .ok (.aload_n 2, 1) := by decide +kernel
theorem dX3_step_263 : decode cX3_step 263 = .ok (.iload_n 3, 1) := by decide +kernel
theorem dX3_step_264 : decode cX3_step 264 = .ok (.invokevirtual 50, 3) := by decide +kernel
theorem dX3_step_267 : decode cX3_step 267 = .ok (.ireturn, 1) := by decide +kernel
theorem dX3_step_268 : decode cX3_step 268 = .ok (.aload_n 0, 1) := by decide +kernel
theorem dX3_step_269 : decode cX3_step 269 = .ok (.aload_n 1, 1) := by decide +kernel
theorem dX3_step_270 : decode cX3_step 270 = .ok (.iload_n 3, 1) := by decide +kernel
theorem dX3_step_271 : decode cX3_step 271 = .ok (.invokevirtual 53, 3) := by decide +kernel
theorem dX3_step_274 : decode cX3_step 274 = .ok (.ireturn, 1) := by decide +kernel
theorem dX3_step_275 : decode cX3_step 275 = .ok (.aload_n 0, 1) := by decide +kernel
theorem dX3_step_276 : decode cX3_step 276 = .ok (.aload_n 1, 1) := by decide +kernel
theorem dX3_step_277 : decode cX3_step 277 = .ok (.iload_n 3, 1) := by decide +kernel
theorem dX3_step_278 : decode cX3_step 278 = .ok (.invokevirtual 56, 3) := by decide +kernel
theorem dX3_step_281 : decode cX3_step 281 = .ok (.ireturn, 1) := by decide +kernel
theorem dX3_step_282 : decode cX3_step 282 = .ok (.iload_n 3, 1) := by decide +kernel
theorem dX3_step_283 : decode cX3_step 283 = .ok (.bipush 115, 2) := by decide +kernel
theorem dX3_step_285 : decode cX3_step 285 = .ok (.if_icmp .ne 7, 3) := by decide +kernel
theorem dX3_step_288 : decode cX3_step 288 = .ok (.iconst 5, 1) := by decide +kernel
theorem dX3_step_289 : decode cX3_step 289 = .ok (.goto 4, 3) := by decide +kernel
theorem dX3_step_292 : decode cX3_step 292 = .ok (.iconst 0, 1) := by decide +kernel
theorem dX3_step_293 : decode cX3_step 293 = .ok (.ireturn, 1) := by decide +kernel
def wb_X3_step_293  (S : q_S) (xs0 : Int32) (Q : Option Value → q_S → Prop) : Prop := Q (some (.int xs0)) S
set_option maxHeartbeats 4000000 in
set_option maxRecDepth 100000 in
theorem cb_X3_step_293 {p : Program} {l : Launch} {e : Env} {s : State} {m : MethodId} {args : Array Value} {below : List Frame} {meth : Method} {c : Code} {D : va_G} {cy : Nat → ClassId} {lo : Nat}  {S : q_S} {xs0 : Int32} {Q : Option Value → q_S → Prop} {H : Heap} {locs : List Loc} {ls : Array Slot} (X : q_X p s m args meth c RX3 cX3_step 5 (some .int) D cy lo)  (Y : q_Y D cy lo s S H locs) (hl : lv_has ls 5 []) (h : wb_X3_step_293 S xs0 Q) : W p l e ({ frames := 4, cells := 0, slots := 0, locals := 91 } : Room) s m args below meth c H locs 0 0 (MQ below (q_Q D cy lo Q) args s 0 0 (fun q => lo ≤ q)) (F0 m 293 ls [.int xs0]) := by
  have hx := X.1
  have hb := X.2.1
  unfold wb_X3_step_293 at h
  exact q_iret X Y rfl (Nat.le_refl _) (Nat.le_refl _) h dX3_step_293
def wb_X3_step_244  (S : q_S) (xs0 : Int32) (Q : Option Value → q_S → Prop) : Prop := Q (some (.int xs0)) S
set_option maxHeartbeats 4000000 in
set_option maxRecDepth 100000 in
theorem cb_X3_step_244 {p : Program} {l : Launch} {e : Env} {s : State} {m : MethodId} {args : Array Value} {below : List Frame} {meth : Method} {c : Code} {D : va_G} {cy : Nat → ClassId} {lo : Nat}  {S : q_S} {xs0 : Int32} {Q : Option Value → q_S → Prop} {H : Heap} {locs : List Loc} {ls : Array Slot} (X : q_X p s m args meth c RX3 cX3_step 5 (some .int) D cy lo)  (Y : q_Y D cy lo s S H locs) (hl : lv_has ls 5 []) (h : wb_X3_step_244 S xs0 Q) : W p l e ({ frames := 4, cells := 0, slots := 0, locals := 91 } : Room) s m args below meth c H locs 0 0 (MQ below (q_Q D cy lo Q) args s 0 0 (fun q => lo ≤ q)) (F0 m 244 ls [.int xs0]) := by
  have hx := X.1
  have hb := X.2.1
  unfold wb_X3_step_244 at h
  exact q_iret X Y rfl (Nat.le_refl _) (Nat.le_refl _) h dX3_step_244
def wm_X3_step (S : q_S) (a0 : Nat) (r1 : Option Nat) (r2 : Option Nat) (Q : Option Value → q_S → Prop) : Prop := ∃ a1_ : Nat, r1 = some a1_ ∧ (q_K S a1_ = 8 ∧ (q_K S a0 = 4 ∧ (((((q_I (qs_I S 600 a0 (q_I S 1410 a1_)) 1410 a1_) &&& (3 : Int32)) = 0 → (∃ a6_ : Nat, r2 = some a6_ ∧ (q_K (qs_I S 600 a0 (q_I S 1410 a1_)) a6_ = 5 ∧ (wm_X4_mayRun (qs_I S 600 a0 (q_I S 1410 a1_)) a6_ (q_I (qs_I S 600 a0 (q_I S 1410 a1_)) 1410 a1_) (fun r9_ S10_ => ∃ x11_ : Int32, r9_ = some (.int x11_) ∧ (((¬ x11_ = 0 → (q_K S10_ a1_ = 8 ∧ (q_K S10_ a6_ = 5 ∧ (wm_X4_partAt S10_ a6_ (q_I S10_ 1410 a1_) (4 : Int32) (fun r15_ S16_ => ∃ x17_ : Int32, r15_ = some (.int x17_) ∧ (q_K S16_ a0 = 4 ∧ ((((x17_ &&& (127 : Int32)) = (3 : Int32) → (wm_X3_fetch (qs_I S16_ 600 a0 x17_) a0 r1 r2 x17_ (fun r19_ S20_ => ∃ x21_ : Int32, r19_ = some (.int x21_) ∧ (Q (some (.int x21_)) S20_)))) ∧ ((x17_ &&& (127 : Int32)) = (19 : Int32) → (wm_X3_reckonWithNumber (qs_I S16_ 600 a0 x17_) a0 r1 x17_ (fun r22_ S23_ => ∃ x24_ : Int32, r22_ = some (.int x24_) ∧ (Q (some (.int x24_)) S23_)))) ∧ ((x17_ &&& (127 : Int32)) = (23 : Int32) → (q_K (qs_I S16_ 600 a0 x17_) a1_ = 8 ∧ (wm_X3_finish (qs_I S16_ 600 a0 x17_) a0 r1 x17_ ((q_I (qs_I S16_ 600 a0 x17_) 1410 a1_) + (x17_ &&& (-4096 : Int32))) ((q_I (qs_I S16_ 600 a0 x17_) 1410 a1_) + (4 : Int32)) (fun r26_ S27_ => ∃ x28_ : Int32, r26_ = some (.int x28_) ∧ (Q (some (.int x28_)) S27_))))) ∧ ((x17_ &&& (127 : Int32)) = (35 : Int32) → (wm_X3_store (qs_I S16_ 600 a0 x17_) a0 r1 r2 x17_ (fun r29_ S30_ => ∃ x31_ : Int32, r29_ = some (.int x31_) ∧ (Q (some (.int x31_)) S30_)))) ∧ ((x17_ &&& (127 : Int32)) = (51 : Int32) → (wm_X3_reckonWithRegister (qs_I S16_ 600 a0 x17_) a0 r1 x17_ (fun r32_ S33_ => ∃ x34_ : Int32, r32_ = some (.int x34_) ∧ (Q (some (.int x34_)) S33_)))) ∧ ((x17_ &&& (127 : Int32)) = (55 : Int32) → (q_K (qs_I S16_ 600 a0 x17_) a1_ = 8 ∧ (wm_X3_finish (qs_I S16_ 600 a0 x17_) a0 r1 x17_ (x17_ &&& (-4096 : Int32)) ((q_I (qs_I S16_ 600 a0 x17_) 1410 a1_) + (4 : Int32)) (fun r36_ S37_ => ∃ x38_ : Int32, r36_ = some (.int x38_) ∧ (Q (some (.int x38_)) S37_))))) ∧ ((x17_ &&& (127 : Int32)) = (99 : Int32) → (wm_X3_branch (qs_I S16_ 600 a0 x17_) a0 r1 x17_ (fun r39_ S40_ => ∃ x41_ : Int32, r39_ = some (.int x41_) ∧ (Q (some (.int x41_)) S40_)))) ∧ ((x17_ &&& (127 : Int32)) = (103 : Int32) → (((((x17_ >>> ((12 : Int32) &&& 31)) &&& (7 : Int32)) = 0 → (q_K (qs_I S16_ 600 a0 x17_) a1_ = 8 ∧ (∃ a44_ : Nat, (q_P (qs_I S16_ 600 a0 x17_) 1411 a1_) = some a44_ ∧ (q_K (qs_I S16_ 600 a0 x17_) a44_ = 21 ∧ (vp_in ((x17_ >>> ((15 : Int32) &&& 31)) &&& (31 : Int32)) (q_N (qs_I S16_ 600 a0 x17_) a44_) ∧ (wm_X3_finish (qs_I S16_ 600 a0 x17_) a0 r1 x17_ ((q_I (qs_I S16_ 600 a0 x17_) 1410 a1_) + (4 : Int32)) (((q_A (qs_I S16_ 600 a0 x17_) a44_ ((x17_ >>> ((15 : Int32) &&& 31)) &&& (31 : Int32)).toNatClampNeg) + (x17_ >>> ((20 : Int32) &&& 31))) &&& (-2 : Int32)) (fun r48_ S49_ => ∃ x50_ : Int32, r48_ = some (.int x50_) ∧ (wb_X3_step_244 S49_ x50_ Q)))))))) ∧ (¬ ((x17_ >>> ((12 : Int32) &&& 31)) &&& (7 : Int32)) = 0 → (wb_X3_step_244 (qs_I S16_ 600 a0 x17_) (0 : Int32) Q))))) ∧ ((x17_ &&& (127 : Int32)) = (111 : Int32) → (q_K (qs_I S16_ 600 a0 x17_) a1_ = 8 ∧ (wm_X3_jumpOf (qs_I S16_ 600 a0 x17_) a0 x17_ (fun r52_ S53_ => ∃ x54_ : Int32, r52_ = some (.int x54_) ∧ (q_K S53_ a0 = 4 ∧ (wm_X3_finish S53_ a0 r1 x17_ ((q_I (qs_I S16_ 600 a0 x17_) 1410 a1_) + (4 : Int32)) ((q_I (qs_I S16_ 600 a0 x17_) 1410 a1_) + x54_) (fun r56_ S57_ => ∃ x58_ : Int32, r56_ = some (.int x58_) ∧ (Q (some (.int x58_)) S57_)))))))) ∧ ((¬ (x17_ &&& (127 : Int32)) = (3 : Int32) ∧ ¬ (x17_ &&& (127 : Int32)) = (19 : Int32) ∧ ¬ (x17_ &&& (127 : Int32)) = (23 : Int32) ∧ ¬ (x17_ &&& (127 : Int32)) = (35 : Int32) ∧ ¬ (x17_ &&& (127 : Int32)) = (51 : Int32) ∧ ¬ (x17_ &&& (127 : Int32)) = (55 : Int32) ∧ ¬ (x17_ &&& (127 : Int32)) = (99 : Int32) ∧ ¬ (x17_ &&& (127 : Int32)) = (103 : Int32) ∧ ¬ (x17_ &&& (127 : Int32)) = (111 : Int32)) → (((¬ x17_ = (115 : Int32) → (wb_X3_step_293 (qs_I S16_ 600 a0 x17_) (0 : Int32) Q)) ∧ (x17_ = (115 : Int32) → (wb_X3_step_293 (qs_I S16_ 600 a0 x17_) (5 : Int32) Q))))))))))))) ∧ (x11_ = 0 → (Q (some (.int (1 : Int32))) S10_))))))))) ∧ (¬ ((q_I (qs_I S 600 a0 (q_I S 1410 a1_)) 1410 a1_) &&& (3 : Int32)) = 0 → (Q (some (.int (4 : Int32))) (qs_I S 600 a0 (q_I S 1410 a1_))))))))
set_option maxHeartbeats 4000000 in
set_option maxRecDepth 100000 in
theorem cm_X3_step {l : Launch} {D : va_G} {cy : Nat → ClassId} {lo : Nat} {S : q_S} {a0 : Nat} {r1 : Option Nat} {r2 : Option Nat} {Q : Option Value → q_S → Prop} (h : wm_X3_step S a0 r1 r2 Q) : q_Met l D cy lo yX3_step cX3_step 5 (some .int) 4 91 0 0 [.ref a0, va_rf r1, va_rf r2] S Q := by
  refine q_body (by decide) (by first | exact Nat.le_of_ble_eq_true rfl | simp [lg_sl, q_cat, q_catI, q_catJ, q_catR]) ?_
  intro p e s m below meth c ls X hnm Y hl
  have hx := X.1
  have hb := X.2.1
  have hl : lv_has ls 5 [(0, .ref a0), (1, va_rf r1), (2, va_rf r2)] := by first | exact hl | simpa [lv_args, q_cat, q_catI, q_catJ, q_catR] using hl
  generalize hargs : ([.ref a0, va_rf r1, va_rf r2] : List Value).toArray = args at X ⊢
  unfold wm_X3_step at h
  refine lv_aload_n hx hb dX3_step_0 rfl (lv_at hl 0 rfl) ?_
  refine q_aload_n hx hb dX3_step_1 rfl (lv_at hl 1 rfl) ?_
  obtain ⟨a1_, e2_, h⟩ := h
  refine q_nn [] e2_ ?_
  obtain ⟨k3_, h⟩ := h
  refine q_getI X Y kX7 10 rfl fl_X3_9 k3_ dX3_step_2 ?_
  obtain ⟨k4_, h⟩ := h
  refine q_putI X Y kX3 0 rfl fl_X3_15 k4_ .int rfl ⟨rfl, rfl⟩ rfl dX3_step_5 (fun H locs Y => ?_)
  refine q_aload_n hx hb dX3_step_8 rfl (lv_at hl 1 rfl) ?_
  refine q_nn [] e2_ ?_
  refine q_getI X Y kX7 10 rfl fl_X3_9 k3_ dX3_step_9 ?_
  refine lv_iconst (v := 3) hx hb dX3_step_12 (by decide) ?_
  refine lv_iand hx hb dX3_step_13 ?_
  refine lv_if_eq (tgt := 19) hx hb dX3_step_14 (by decide) (fun c5_ => ?_) (fun c5_ => ?_)
  · replace h := h.1 c5_
    refine q_aload_n hx hb dX3_step_19 rfl (lv_at hl 2 rfl) ?_
    refine q_aload_n hx hb dX3_step_20 rfl (lv_at hl 1 rfl) ?_
    refine q_nn [] e2_ ?_
    refine q_getI X Y kX7 10 rfl fl_X3_9 k3_ dX3_step_21 ?_
    obtain ⟨a6_, e7_, h⟩ := h
    refine q_nn [.int (q_I (qs_I S 600 a0 (q_I S 1410 a1_)) 1410 a1_)] e7_ ?_
    obtain ⟨k8_, h⟩ := h
    refine q_callV X Y hl (cm_X4_mayRun h) mt_X4_mayRun mi_X4_mayRun ml_X3_20 (ci := 4) rfl k8_ (by decide) rfl rfl (by first | exact Nat.le_of_ble_eq_true rfl | simp [q_cat, q_catI, q_catJ, q_catR]) ⟨Nat.le_of_ble_eq_true rfl, Nat.le_of_ble_eq_true rfl⟩ ⟨Nat.le_of_ble_eq_true rfl, Nat.le_of_ble_eq_true rfl⟩ dX3_step_24 (fun r9_ S10_ H locs hp Y => ?_)
    obtain ⟨x11_, rfl, h⟩ := hp
    refine W.eq (g2 := F0 m 27 ls [.int x11_]) rfl ?_
    refine lv_if_ne (tgt := 32) hx hb dX3_step_27 (by decide) (fun c12_ => ?_) (fun c12_ => ?_)
    · replace h := h.1 c12_
      refine q_aload_n hx hb dX3_step_32 rfl (lv_at hl 2 rfl) ?_
      refine q_aload_n hx hb dX3_step_33 rfl (lv_at hl 1 rfl) ?_
      refine q_nn [] e2_ ?_
      obtain ⟨k13_, h⟩ := h
      refine q_getI X Y kX7 10 rfl fl_X3_9 k13_ dX3_step_34 ?_
      refine lv_iconst (v := 4) hx hb dX3_step_37 (by decide) ?_
      refine q_nn [.int (4 : Int32), .int (q_I S10_ 1410 a1_)] e7_ ?_
      obtain ⟨k14_, h⟩ := h
      refine q_callV X Y hl (cm_X4_partAt h) mt_X4_partAt mi_X4_partAt ml_X3_26 (ci := 4) rfl k14_ (by decide) rfl rfl (by first | exact Nat.le_of_ble_eq_true rfl | simp [q_cat, q_catI, q_catJ, q_catR]) ⟨Nat.le_of_ble_eq_true rfl, Nat.le_of_ble_eq_true rfl⟩ ⟨Nat.le_of_ble_eq_true rfl, Nat.le_of_ble_eq_true rfl⟩ dX3_step_38 (fun r15_ S16_ H locs hp Y => ?_)
      obtain ⟨x17_, rfl, h⟩ := hp
      refine W.eq (g2 := F0 m 41 ls [.int x17_]) rfl ?_
      refine lv_istore_n (i := 3) (lv' := [(3, .int x17_), (0, .ref a0), (1, va_rf r1), (2, va_rf r2)]) hx hb dX3_step_41 rfl hl (by decide) (by first | rfl | simp [q_cat, q_catI, q_catJ, q_catR]) (fun ls hl => ?_)
      refine lv_aload_n hx hb dX3_step_42 rfl (lv_at hl 1 rfl) ?_
      refine lv_iload_n hx hb dX3_step_43 rfl (lv_at hl 0 rfl) ?_
      obtain ⟨k18_, h⟩ := h
      refine q_putI X Y kX3 0 rfl fl_X3_15 k18_ .int rfl ⟨rfl, rfl⟩ rfl dX3_step_44 (fun H locs Y => ?_)
      refine lv_iload_n hx hb dX3_step_47 rfl (lv_at hl 0 rfl) ?_
      refine lv_sipush (v := (-4096)) hx hb dX3_step_48 (by decide) ?_
      refine lv_iand hx hb dX3_step_51 ?_
      refine lv_istore (i := 4) (lv' := [(4, .int (x17_ &&& (-4096 : Int32))), (3, .int x17_), (0, .ref a0), (1, va_rf r1), (2, va_rf r2)]) hx hb dX3_step_52 hl (by decide) (by first | rfl | simp [q_cat, q_catI, q_catJ, q_catR]) (fun ls hl => ?_)
      refine lv_iload_n hx hb dX3_step_54 rfl (lv_at hl 1 rfl) ?_
      refine lv_bipush (v := 127) hx hb dX3_step_55 (by decide) ?_
      refine lv_iand hx hb dX3_step_57 ?_
      by_cases c60_ : (x17_ &&& (127 : Int32)) = (3 : Int32)
      · refine lv_lookup (off := 194) (tgt := 252) hx hb dX3_step_58 (by decide) (by rw [c60_]; rfl) (by decide) ?_
        replace h := h.1 c60_
        refine lv_aload_n hx hb dX3_step_252 rfl (lv_at hl 2 rfl) ?_
        refine q_aload_n hx hb dX3_step_253 rfl (lv_at hl 3 rfl) ?_
        refine q_aload_n hx hb dX3_step_254 rfl (lv_at hl 4 rfl) ?_
        refine lv_iload_n hx hb dX3_step_255 rfl (lv_at hl 1 rfl) ?_
        refine q_callV X Y hl (cm_X3_fetch h) mt_X3_fetch mi_X3_fetch ml_X3_46 (ci := 3) rfl k18_ (by decide) rfl rfl (by first | exact Nat.le_of_ble_eq_true rfl | simp [q_cat, q_catI, q_catJ, q_catR]) ⟨Nat.le_of_ble_eq_true rfl, Nat.le_of_ble_eq_true rfl⟩ ⟨Nat.le_of_ble_eq_true rfl, Nat.le_of_ble_eq_true rfl⟩ dX3_step_256 (fun r19_ S20_ H locs hp Y => ?_)
        obtain ⟨x21_, rfl, h⟩ := hp
        refine W.eq (g2 := F0 m 259 ls [.int x21_]) rfl ?_
        exact q_iret X Y rfl (Nat.le_refl _) (Nat.le_refl _) h dX3_step_259
      · skip
        by_cases c61_ : (x17_ &&& (127 : Int32)) = (19 : Int32)
        · refine lv_lookup (off := 210) (tgt := 268) hx hb dX3_step_58 (by decide) (by rw [c61_]; rfl) (by decide) ?_
          replace h := h.2.1 c61_
          refine lv_aload_n hx hb dX3_step_268 rfl (lv_at hl 2 rfl) ?_
          refine q_aload_n hx hb dX3_step_269 rfl (lv_at hl 3 rfl) ?_
          refine lv_iload_n hx hb dX3_step_270 rfl (lv_at hl 1 rfl) ?_
          refine q_callV X Y hl (cm_X3_reckonWithNumber h) mt_X3_reckonWithNumber mi_X3_reckonWithNumber ml_X3_53 (ci := 3) rfl k18_ (by decide) rfl rfl (by first | exact Nat.le_of_ble_eq_true rfl | simp [q_cat, q_catI, q_catJ, q_catR]) ⟨Nat.le_of_ble_eq_true rfl, Nat.le_of_ble_eq_true rfl⟩ ⟨Nat.le_of_ble_eq_true rfl, Nat.le_of_ble_eq_true rfl⟩ dX3_step_271 (fun r22_ S23_ H locs hp Y => ?_)
          obtain ⟨x24_, rfl, h⟩ := hp
          refine W.eq (g2 := F0 m 274 ls [.int x24_]) rfl ?_
          exact q_iret X Y rfl (Nat.le_refl _) (Nat.le_refl _) h dX3_step_274
        · skip
          by_cases c62_ : (x17_ &&& (127 : Int32)) = (23 : Int32)
          · refine lv_lookup (off := 97) (tgt := 155) hx hb dX3_step_58 (by decide) (by rw [c62_]; rfl) (by decide) ?_
            replace h := h.2.2.1 c62_
            refine lv_aload_n hx hb dX3_step_155 rfl (lv_at hl 2 rfl) ?_
            refine q_aload_n hx hb dX3_step_156 rfl (lv_at hl 3 rfl) ?_
            refine lv_iload_n hx hb dX3_step_157 rfl (lv_at hl 1 rfl) ?_
            refine q_aload_n hx hb dX3_step_158 rfl (lv_at hl 3 rfl) ?_
            refine q_nn [] e2_ ?_
            obtain ⟨k25_, h⟩ := h
            refine q_getI X Y kX7 10 rfl fl_X3_9 k25_ dX3_step_159 ?_
            refine lv_iload hx hb dX3_step_162 (lv_at hl 0 rfl) ?_
            refine lv_iadd hx hb dX3_step_164 ?_
            refine q_aload_n hx hb dX3_step_165 rfl (lv_at hl 3 rfl) ?_
            refine q_nn [] e2_ ?_
            refine q_getI X Y kX7 10 rfl fl_X3_9 k25_ dX3_step_166 ?_
            refine lv_iconst (v := 4) hx hb dX3_step_169 (by decide) ?_
            refine lv_iadd hx hb dX3_step_170 ?_
            refine q_callV X Y hl (cm_X3_finish h) mt_X3_finish mi_X3_finish ml_X3_30 (ci := 3) rfl k18_ (by decide) rfl rfl (by first | exact Nat.le_of_ble_eq_true rfl | simp [q_cat, q_catI, q_catJ, q_catR]) ⟨Nat.le_of_ble_eq_true rfl, Nat.le_of_ble_eq_true rfl⟩ ⟨Nat.le_of_ble_eq_true rfl, Nat.le_of_ble_eq_true rfl⟩ dX3_step_171 (fun r26_ S27_ H locs hp Y => ?_)
            obtain ⟨x28_, rfl, h⟩ := hp
            refine W.eq (g2 := F0 m 174 ls [.int x28_]) rfl ?_
            exact q_iret X Y rfl (Nat.le_refl _) (Nat.le_refl _) h dX3_step_174
          · skip
            by_cases c63_ : (x17_ &&& (127 : Int32)) = (35 : Int32)
            · refine lv_lookup (off := 202) (tgt := 260) hx hb dX3_step_58 (by decide) (by rw [c63_]; rfl) (by decide) ?_
              replace h := h.2.2.2.1 c63_
              refine lv_aload_n hx hb dX3_step_260 rfl (lv_at hl 2 rfl) ?_
              refine q_aload_n hx hb dX3_step_261 rfl (lv_at hl 3 rfl) ?_
              refine q_aload_n hx hb dX3_step_262 rfl (lv_at hl 4 rfl) ?_
              refine lv_iload_n hx hb dX3_step_263 rfl (lv_at hl 1 rfl) ?_
              refine q_callV X Y hl (cm_X3_store h) mt_X3_store mi_X3_store ml_X3_50 (ci := 3) rfl k18_ (by decide) rfl rfl (by first | exact Nat.le_of_ble_eq_true rfl | simp [q_cat, q_catI, q_catJ, q_catR]) ⟨Nat.le_of_ble_eq_true rfl, Nat.le_of_ble_eq_true rfl⟩ ⟨Nat.le_of_ble_eq_true rfl, Nat.le_of_ble_eq_true rfl⟩ dX3_step_264 (fun r29_ S30_ H locs hp Y => ?_)
              obtain ⟨x31_, rfl, h⟩ := hp
              refine W.eq (g2 := F0 m 267 ls [.int x31_]) rfl ?_
              exact q_iret X Y rfl (Nat.le_refl _) (Nat.le_refl _) h dX3_step_267
            · skip
              by_cases c64_ : (x17_ &&& (127 : Int32)) = (51 : Int32)
              · refine lv_lookup (off := 217) (tgt := 275) hx hb dX3_step_58 (by decide) (by rw [c64_]; rfl) (by decide) ?_
                replace h := h.2.2.2.2.1 c64_
                refine lv_aload_n hx hb dX3_step_275 rfl (lv_at hl 2 rfl) ?_
                refine q_aload_n hx hb dX3_step_276 rfl (lv_at hl 3 rfl) ?_
                refine lv_iload_n hx hb dX3_step_277 rfl (lv_at hl 1 rfl) ?_
                refine q_callV X Y hl (cm_X3_reckonWithRegister h) mt_X3_reckonWithRegister mi_X3_reckonWithRegister ml_X3_56 (ci := 3) rfl k18_ (by decide) rfl rfl (by first | exact Nat.le_of_ble_eq_true rfl | simp [q_cat, q_catI, q_catJ, q_catR]) ⟨Nat.le_of_ble_eq_true rfl, Nat.le_of_ble_eq_true rfl⟩ ⟨Nat.le_of_ble_eq_true rfl, Nat.le_of_ble_eq_true rfl⟩ dX3_step_278 (fun r32_ S33_ H locs hp Y => ?_)
                obtain ⟨x34_, rfl, h⟩ := hp
                refine W.eq (g2 := F0 m 281 ls [.int x34_]) rfl ?_
                exact q_iret X Y rfl (Nat.le_refl _) (Nat.le_refl _) h dX3_step_281
              · skip
                by_cases c65_ : (x17_ &&& (127 : Int32)) = (55 : Int32)
                · refine lv_lookup (off := 82) (tgt := 140) hx hb dX3_step_58 (by decide) (by rw [c65_]; rfl) (by decide) ?_
                  replace h := h.2.2.2.2.2.1 c65_
                  refine lv_aload_n hx hb dX3_step_140 rfl (lv_at hl 2 rfl) ?_
                  refine q_aload_n hx hb dX3_step_141 rfl (lv_at hl 3 rfl) ?_
                  refine lv_iload_n hx hb dX3_step_142 rfl (lv_at hl 1 rfl) ?_
                  refine lv_iload hx hb dX3_step_143 (lv_at hl 0 rfl) ?_
                  refine q_aload_n hx hb dX3_step_145 rfl (lv_at hl 3 rfl) ?_
                  refine q_nn [] e2_ ?_
                  obtain ⟨k35_, h⟩ := h
                  refine q_getI X Y kX7 10 rfl fl_X3_9 k35_ dX3_step_146 ?_
                  refine lv_iconst (v := 4) hx hb dX3_step_149 (by decide) ?_
                  refine lv_iadd hx hb dX3_step_150 ?_
                  refine q_callV X Y hl (cm_X3_finish h) mt_X3_finish mi_X3_finish ml_X3_30 (ci := 3) rfl k18_ (by decide) rfl rfl (by first | exact Nat.le_of_ble_eq_true rfl | simp [q_cat, q_catI, q_catJ, q_catR]) ⟨Nat.le_of_ble_eq_true rfl, Nat.le_of_ble_eq_true rfl⟩ ⟨Nat.le_of_ble_eq_true rfl, Nat.le_of_ble_eq_true rfl⟩ dX3_step_151 (fun r36_ S37_ H locs hp Y => ?_)
                  obtain ⟨x38_, rfl, h⟩ := hp
                  refine W.eq (g2 := F0 m 154 ls [.int x38_]) rfl ?_
                  exact q_iret X Y rfl (Nat.le_refl _) (Nat.le_refl _) h dX3_step_154
                · skip
                  by_cases c66_ : (x17_ &&& (127 : Int32)) = (99 : Int32)
                  · refine lv_lookup (off := 187) (tgt := 245) hx hb dX3_step_58 (by decide) (by rw [c66_]; rfl) (by decide) ?_
                    replace h := h.2.2.2.2.2.2.1 c66_
                    refine lv_aload_n hx hb dX3_step_245 rfl (lv_at hl 2 rfl) ?_
                    refine q_aload_n hx hb dX3_step_246 rfl (lv_at hl 3 rfl) ?_
                    refine lv_iload_n hx hb dX3_step_247 rfl (lv_at hl 1 rfl) ?_
                    refine q_callV X Y hl (cm_X3_branch h) mt_X3_branch mi_X3_branch ml_X3_42 (ci := 3) rfl k18_ (by decide) rfl rfl (by first | exact Nat.le_of_ble_eq_true rfl | simp [q_cat, q_catI, q_catJ, q_catR]) ⟨Nat.le_of_ble_eq_true rfl, Nat.le_of_ble_eq_true rfl⟩ ⟨Nat.le_of_ble_eq_true rfl, Nat.le_of_ble_eq_true rfl⟩ dX3_step_248 (fun r39_ S40_ H locs hp Y => ?_)
                    obtain ⟨x41_, rfl, h⟩ := hp
                    refine W.eq (g2 := F0 m 251 ls [.int x41_]) rfl ?_
                    exact q_iret X Y rfl (Nat.le_refl _) (Nat.le_refl _) h dX3_step_251
                  · skip
                    by_cases c67_ : (x17_ &&& (127 : Int32)) = (103 : Int32)
                    · refine lv_lookup (off := 140) (tgt := 198) hx hb dX3_step_58 (by decide) (by rw [c67_]; rfl) (by decide) ?_
                      replace h := h.2.2.2.2.2.2.2.1 c67_
                      refine lv_iload_n hx hb dX3_step_198 rfl (lv_at hl 1 rfl) ?_
                      refine lv_bipush (v := 12) hx hb dX3_step_199 (by decide) ?_
                      refine lv_ishr hx hb dX3_step_201 ?_
                      refine lv_bipush (v := 7) hx hb dX3_step_202 (by decide) ?_
                      refine lv_iand hx hb dX3_step_204 ?_
                      refine lv_if_eq (tgt := 212) hx hb dX3_step_205 (by decide) (fun c42_ => ?_) (fun c42_ => ?_)
                      · replace h := h.1 c42_
                        refine lv_aload_n hx hb dX3_step_212 rfl (lv_at hl 2 rfl) ?_
                        refine q_aload_n hx hb dX3_step_213 rfl (lv_at hl 3 rfl) ?_
                        refine lv_iload_n hx hb dX3_step_214 rfl (lv_at hl 1 rfl) ?_
                        refine q_aload_n hx hb dX3_step_215 rfl (lv_at hl 3 rfl) ?_
                        refine q_nn [] e2_ ?_
                        obtain ⟨k43_, h⟩ := h
                        refine q_getI X Y kX7 10 rfl fl_X3_9 k43_ dX3_step_216 ?_
                        refine lv_iconst (v := 4) hx hb dX3_step_219 (by decide) ?_
                        refine lv_iadd hx hb dX3_step_220 ?_
                        refine q_aload_n hx hb dX3_step_221 rfl (lv_at hl 3 rfl) ?_
                        refine q_nn [] e2_ ?_
                        refine q_getP X Y kX7 11 rfl fl_X3_38 k43_ rfl dX3_step_222 ?_
                        refine lv_iload_n hx hb dX3_step_225 rfl (lv_at hl 1 rfl) ?_
                        refine lv_bipush (v := 15) hx hb dX3_step_226 (by decide) ?_
                        refine lv_ishr hx hb dX3_step_228 ?_
                        refine lv_bipush (v := 31) hx hb dX3_step_229 (by decide) ?_
                        refine lv_iand hx hb dX3_step_231 ?_
                        obtain ⟨a44_, e45_, h⟩ := h
                        refine q_nn [.int ((x17_ >>> ((15 : Int32) &&& 31)) &&& (31 : Int32))] e45_ ?_
                        obtain ⟨k46_, h⟩ := h
                        obtain ⟨i47_, h⟩ := h
                        refine q_ild X Y k46_ i47_ dX3_step_232 ?_
                        refine lv_iload_n hx hb dX3_step_233 rfl (lv_at hl 1 rfl) ?_
                        refine lv_bipush (v := 20) hx hb dX3_step_234 (by decide) ?_
                        refine lv_ishr hx hb dX3_step_236 ?_
                        refine lv_iadd hx hb dX3_step_237 ?_
                        refine lv_bipush (v := (-2)) hx hb dX3_step_238 (by decide) ?_
                        refine lv_iand hx hb dX3_step_240 ?_
                        refine q_callV X Y hl (cm_X3_finish h) mt_X3_finish mi_X3_finish ml_X3_30 (ci := 3) rfl k18_ (by decide) rfl rfl (by first | exact Nat.le_of_ble_eq_true rfl | simp [q_cat, q_catI, q_catJ, q_catR]) ⟨Nat.le_of_ble_eq_true rfl, Nat.le_of_ble_eq_true rfl⟩ ⟨Nat.le_of_ble_eq_true rfl, Nat.le_of_ble_eq_true rfl⟩ dX3_step_241 (fun r48_ S49_ H locs hp Y => ?_)
                        obtain ⟨x50_, rfl, h⟩ := hp
                        refine W.eq (g2 := F0 m 244 ls [.int x50_]) rfl ?_
                        exact cb_X3_step_244 X Y (lv_sub hl [] rfl) h
                      · replace h := h.2 c42_
                        refine lv_iconst (v := 0) hx hb dX3_step_208 (by decide) ?_
                        refine lv_goto (tgt := 244) hx hb dX3_step_209 (by decide) ?_
                        exact cb_X3_step_244 X Y (lv_sub hl [] rfl) h
                    · skip
                      by_cases c68_ : (x17_ &&& (127 : Int32)) = (111 : Int32)
                      · refine lv_lookup (off := 117) (tgt := 175) hx hb dX3_step_58 (by decide) (by rw [c68_]; rfl) (by decide) ?_
                        replace h := h.2.2.2.2.2.2.2.2.1 c68_
                        refine lv_aload_n hx hb dX3_step_175 rfl (lv_at hl 2 rfl) ?_
                        refine q_aload_n hx hb dX3_step_176 rfl (lv_at hl 3 rfl) ?_
                        refine lv_iload_n hx hb dX3_step_177 rfl (lv_at hl 1 rfl) ?_
                        refine q_aload_n hx hb dX3_step_178 rfl (lv_at hl 3 rfl) ?_
                        refine q_nn [] e2_ ?_
                        obtain ⟨k51_, h⟩ := h
                        refine q_getI X Y kX7 10 rfl fl_X3_9 k51_ dX3_step_179 ?_
                        refine lv_iconst (v := 4) hx hb dX3_step_182 (by decide) ?_
                        refine lv_iadd hx hb dX3_step_183 ?_
                        refine q_aload_n hx hb dX3_step_184 rfl (lv_at hl 3 rfl) ?_
                        refine q_nn [] e2_ ?_
                        refine q_getI X Y kX7 10 rfl fl_X3_9 k51_ dX3_step_185 ?_
                        refine lv_aload_n hx hb dX3_step_188 rfl (lv_at hl 2 rfl) ?_
                        refine lv_iload_n hx hb dX3_step_189 rfl (lv_at hl 1 rfl) ?_
                        refine q_callV X Y hl (cm_X3_jumpOf h) mt_X3_jumpOf mi_X3_jumpOf ml_X3_34 (ci := 3) rfl k18_ (by decide) rfl rfl (by first | exact Nat.le_of_ble_eq_true rfl | simp [q_cat, q_catI, q_catJ, q_catR]) ⟨Nat.le_of_ble_eq_true rfl, Nat.le_of_ble_eq_true rfl⟩ ⟨Nat.le_of_ble_eq_true rfl, Nat.le_of_ble_eq_true rfl⟩ dX3_step_190 (fun r52_ S53_ H locs hp Y => ?_)
                        obtain ⟨x54_, rfl, h⟩ := hp
                        refine W.eq (g2 := F0 m 193 ls [.int x54_, .int (q_I (qs_I S16_ 600 a0 x17_) 1410 a1_), .int ((q_I (qs_I S16_ 600 a0 x17_) 1410 a1_) + (4 : Int32)), .int x17_, va_rf r1, .ref a0]) rfl ?_
                        refine lv_iadd hx hb dX3_step_193 ?_
                        obtain ⟨k55_, h⟩ := h
                        refine q_callV X Y hl (cm_X3_finish h) mt_X3_finish mi_X3_finish ml_X3_30 (ci := 3) rfl k55_ (by decide) rfl rfl (by first | exact Nat.le_of_ble_eq_true rfl | simp [q_cat, q_catI, q_catJ, q_catR]) ⟨Nat.le_of_ble_eq_true rfl, Nat.le_of_ble_eq_true rfl⟩ ⟨Nat.le_of_ble_eq_true rfl, Nat.le_of_ble_eq_true rfl⟩ dX3_step_194 (fun r56_ S57_ H locs hp Y => ?_)
                        obtain ⟨x58_, rfl, h⟩ := hp
                        refine W.eq (g2 := F0 m 197 ls [.int x58_]) rfl ?_
                        exact q_iret X Y rfl (Nat.le_refl _) (Nat.le_refl _) h dX3_step_197
                      · skip
                        refine lv_lookup (off := 224) (tgt := 282) hx hb dX3_step_58 (by decide) (by show Op.lookupswitch.offset [(3, 194), (19, 210), (23, 97), (35, 202), (51, 217), (55, 82), (99, 187), (103, 140), (111, 117)] _ _ = _; rw [lv_osw c60_ (by decide), lv_osw c61_ (by decide), lv_osw c62_ (by decide), lv_osw c63_ (by decide), lv_osw c64_ (by decide), lv_osw c65_ (by decide), lv_osw c66_ (by decide), lv_osw c67_ (by decide), lv_osw c68_ (by decide)]; rfl) (by decide) ?_
                        replace h := h.2.2.2.2.2.2.2.2.2 ⟨c60_, c61_, c62_, c63_, c64_, c65_, c66_, c67_, c68_⟩
                        refine lv_iload_n hx hb dX3_step_282 rfl (lv_at hl 1 rfl) ?_
                        refine lv_bipush (v := 115) hx hb dX3_step_283 (by decide) ?_
                        refine lv_icmp_ne (tgt := 292) hx hb dX3_step_285 (by decide) (fun c59_ => ?_) (fun c59_ => ?_)
                        · replace h := h.1 c59_
                          refine lv_iconst (v := 0) hx hb dX3_step_292 (by decide) ?_
                          exact cb_X3_step_293 X Y (lv_sub hl [] rfl) h
                        · replace h := h.2 c59_
                          refine lv_iconst (v := 5) hx hb dX3_step_288 (by decide) ?_
                          refine lv_goto (tgt := 293) hx hb dX3_step_289 (by decide) ?_
                          exact cb_X3_step_293 X Y (lv_sub hl [] rfl) h
    · replace h := h.2 c12_
      refine lv_iconst (v := 1) hx hb dX3_step_30 (by decide) ?_
      exact q_iret X Y rfl (Nat.le_refl _) (Nat.le_refl _) h dX3_step_31
  · replace h := h.2 c5_
    refine lv_iconst (v := 4) hx hb dX3_step_17 (by decide) ?_
    exact q_iret X Y rfl (Nat.le_refl _) (Nat.le_refl _) h dX3_step_18
-- X4_init
theorem ml_X4_3 : Cond.methodLink RX4 3 Lib.objectInit ∈ q_G := q_tb (i := 656) (by decide +kernel) (by decide +kernel)
theorem dX4_init_0 : decode cX4_init 0 = .ok (.aload_n 0, 1) := by decide +kernel
theorem dX4_init_1 : decode cX4_init 1 = .ok (.invokespecial 3, 3) := by decide +kernel
theorem dX4_init_4 : decode cX4_init 4 = .ok (.aload_n 0, 1) := by decide +kernel
theorem dX4_init_5 : decode cX4_init 5 = .ok (.iconst 0, 1) := by decide +kernel
theorem dX4_init_6 : decode cX4_init 6 = .ok (.newarray .int, 2) := by decide +kernel
theorem dX4_init_8 : decode cX4_init 8 = .ok (.putfield 9, 3) := by decide +kernel
theorem dX4_init_11 : decode cX4_init 11 = .ok (.aload_n 0, 1) := by decide +kernel
theorem dX4_init_12 : decode cX4_init 12 = .ok (.iconst 0, 1) := by decide +kernel
theorem dX4_init_13 : decode cX4_init 13 = .ok (.newarray .int, 2) := by decide +kernel
theorem dX4_init_15 : decode cX4_init 15 = .ok (.putfield 15, 3) := by decide +kernel
theorem dX4_init_18 : decode cX4_init 18 = .ok (.aload_n 0, 1) := by decide +kernel
theorem dX4_init_19 : decode cX4_init 19 = .ok (.bipush 6, 2) := by decide +kernel
theorem dX4_init_21 : decode cX4_init 21 = .ok (.newarray .int, 2) := by decide +kernel
theorem dX4_init_23 : decode cX4_init 23 = .ok (.putfield 18, 3) := by decide +kernel
theorem dX4_init_26 : decode cX4_init 26 = .ok (.aload_n 0, 1) := by decide +kernel
theorem dX4_init_27 : decode cX4_init 27 = .ok (.bipush 6, 2) := by decide +kernel
theorem dX4_init_29 : decode cX4_init 29 = .ok (.newarray .int, 2) := by decide +kernel
theorem dX4_init_31 : decode cX4_init 31 = .ok (.putfield 21, 3) := by decide +kernel
theorem dX4_init_34 : decode cX4_init 34 = .ok (.return_, 1) := by decide +kernel
def wm_X4_init (bc bs : Nat) (S : q_S) (a0 : Nat) (Q : Option Value → q_S → Prop) : Prop := (0 + 1 ≤ bc ∧ 0 + 0 ≤ bs) ∧ (∀ b1_ : Nat, q_K S b1_ = 0 → (q_K (qs_R S 21 0 b1_) a0 = 5 ∧ (((0 + 1) + 1 ≤ bc ∧ (0 + 0) + 0 ≤ bs) ∧ (∀ b7_ : Nat, q_K (qs_P (qs_R S 21 0 b1_) 801 a0 (some b1_)) b7_ = 0 → (∀ S12_ : q_S, S12_ = (qs_R (qs_P (qs_R S 21 0 b1_) 801 a0 (some b1_)) 21 0 b7_) → ((((0 + 1) + 1) + 1 ≤ bc ∧ ((0 + 0) + 0) + 6 ≤ bs) ∧ (∀ b13_ : Nat, q_K (qs_P S12_ 802 a0 (some b7_)) b13_ = 0 → (∀ S18_ : q_S, S18_ = (qs_P (qs_R (qs_P S12_ 802 a0 (some b7_)) 21 6 b13_) 804 a0 (some b13_)) → (((((0 + 1) + 1) + 1) + 1 ≤ bc ∧ (((0 + 0) + 0) + 6) + 6 ≤ bs) ∧ (∀ b19_ : Nat, q_K S18_ b19_ = 0 → (Q none (qs_P (qs_R S18_ 21 6 b19_) 805 a0 (some b19_)))))))))))))
set_option maxHeartbeats 4000000 in
set_option maxRecDepth 100000 in
theorem cm_X4_init {l : Launch} {D : va_G} {cy : Nat → ClassId} {lo : Nat} {bc bs : Nat} {S : q_S} {a0 : Nat} {Q : Option Value → q_S → Prop} (h : wm_X4_init bc bs S a0 Q) : q_Met l D cy lo yX4_init cX4_init 1 none 1 20 bc bs [.ref a0] S Q := by
  refine q_body (by decide) (by first | exact Nat.le_of_ble_eq_true rfl | simp [lg_sl, q_cat, q_catI, q_catJ, q_catR]) ?_
  intro p e s m below meth c ls X hnm Y hl
  have hx := X.1
  have hb := X.2.1
  have hl : lv_has ls 1 [(0, .ref a0)] := by first | exact hl | simpa [lv_args, q_cat, q_catI, q_catJ, q_catR] using hl
  generalize hargs : ([.ref a0] : List Value).toArray = args at X ⊢
  have hu : 0 ≤ bc ∧ 0 ≤ bs := ⟨Nat.zero_le _, Nat.zero_le _⟩
  unfold wm_X4_init at h
  refine lv_aload_n hx hb dX4_init_0 rfl (lv_at hl 0 rfl) ?_
  refine q_obj X hl ml_X4_3 oi_ oc_ ⟨Nat.le_of_ble_eq_true rfl, (by first | exact Nat.le_of_ble_eq_true rfl | simp [q_cat, q_catI, q_catJ, q_catR])⟩ dX4_init_1 ?_
  refine lv_aload_n hx hb dX4_init_4 rfl (lv_at hl 0 rfl) ?_
  refine lv_iconst (v := 0) hx hb dX4_init_5 (by decide) ?_
  obtain ⟨w4_, h⟩ := h
  refine q_newa X Y (k := 21) (t := 1) (n := 0) (ty := .int) rfl (by decide) rfl (fun _ _ => rfl) (by first | exact rfl | decide | simp [defaultValue]) ar_int (by decide) (by decide) (by decide) w4_ dX4_init_6 (fun b1_ H h2_ h3_ Y => ?_)
  replace h := h b1_ h2_
  replace hu := w4_
  have k5_ : q_K (qs_R S 21 0 b1_) b1_ = 21 := qs_R_Ks
  obtain ⟨k6_, h⟩ := h
  refine q_putP X Y (some b1_) rfl kX4 1 rfl fl_X4_9 k6_ _ rfl (Or.inr ⟨_, rfl⟩) (Or.inl rfl) dX4_init_8 (fun H locs Y => ?_)
  refine lv_aload_n hx hb dX4_init_11 rfl (lv_at hl 0 rfl) ?_
  refine lv_iconst (v := 0) hx hb dX4_init_12 (by decide) ?_
  obtain ⟨w10_, h⟩ := h
  refine q_newa X Y (k := 21) (t := 1) (n := 0) (ty := .int) rfl (by decide) rfl (fun _ _ => rfl) (by first | exact rfl | decide | simp [defaultValue]) ar_int (by decide) (by decide) (by decide) w10_ dX4_init_13 (fun b7_ H h8_ h9_ Y => ?_)
  replace h := h b7_ h8_
  replace hu := w10_
  replace k5_ := qs_R_keep (j := 21) (n := 0) h8_ k5_ (by decide)
  replace k6_ := qs_R_keep (j := 21) (n := 0) h8_ k6_ (by decide)
  have k11_ : q_K (qs_R (qs_P (qs_R S 21 0 b1_) 801 a0 (some b1_)) 21 0 b7_) b7_ = 21 := qs_R_Ks
  obtain ⟨S12_, gS12_⟩ : ∃ z : q_S, z = (qs_R (qs_P (qs_R S 21 0 b1_) 801 a0 (some b1_)) 21 0 b7_) := ⟨_, rfl⟩
  replace Y : q_Y D cy lo s S12_ H locs := by rw [gS12_]; exact Y
  replace h := h S12_ gS12_
  replace k5_ : q_K S12_ b1_ = 21 := by rw [gS12_]; exact k5_
  replace k6_ : q_K S12_ a0 = 5 := by rw [gS12_]; exact k6_
  replace k11_ : q_K S12_ b7_ = 21 := by rw [gS12_]; exact k11_
  refine q_putP X Y (some b7_) rfl kX4 2 rfl fl_X4_15 k6_ _ rfl (Or.inr ⟨_, rfl⟩) (Or.inl rfl) dX4_init_15 (fun H locs Y => ?_)
  refine lv_aload_n hx hb dX4_init_18 rfl (lv_at hl 0 rfl) ?_
  refine lv_bipush (v := 6) hx hb dX4_init_19 (by decide) ?_
  obtain ⟨w16_, h⟩ := h
  refine q_newa X Y (k := 21) (t := 1) (n := 6) (ty := .int) rfl (by decide) rfl (fun _ _ => rfl) (by first | exact rfl | decide | simp [defaultValue]) ar_int (by decide) (by decide) (by decide) w16_ dX4_init_21 (fun b13_ H h14_ h15_ Y => ?_)
  replace h := h b13_ h14_
  replace hu := w16_
  replace k5_ := qs_R_keep (j := 21) (n := 6) h14_ k5_ (by decide)
  replace k6_ := qs_R_keep (j := 21) (n := 6) h14_ k6_ (by decide)
  replace k11_ := qs_R_keep (j := 21) (n := 6) h14_ k11_ (by decide)
  have k17_ : q_K (qs_R (qs_P S12_ 802 a0 (some b7_)) 21 6 b13_) b13_ = 21 := qs_R_Ks
  refine q_putP X Y (some b13_) rfl kX4 4 rfl fl_X4_18 k6_ _ rfl (Or.inr ⟨_, rfl⟩) (Or.inr ⟨rfl, hnm, rfl⟩) dX4_init_23 (fun H locs Y => ?_)
  obtain ⟨S18_, gS18_⟩ : ∃ z : q_S, z = (qs_P (qs_R (qs_P S12_ 802 a0 (some b7_)) 21 6 b13_) 804 a0 (some b13_)) := ⟨_, rfl⟩
  replace Y : q_Y D cy lo s S18_ H locs := by rw [gS18_]; exact Y
  replace h := h S18_ gS18_
  replace k5_ : q_K S18_ b1_ = 21 := by rw [gS18_]; exact k5_
  replace k6_ : q_K S18_ a0 = 5 := by rw [gS18_]; exact k6_
  replace k11_ : q_K S18_ b7_ = 21 := by rw [gS18_]; exact k11_
  replace k17_ : q_K S18_ b13_ = 21 := by rw [gS18_]; exact k17_
  refine lv_aload_n hx hb dX4_init_26 rfl (lv_at hl 0 rfl) ?_
  refine lv_bipush (v := 6) hx hb dX4_init_27 (by decide) ?_
  obtain ⟨w22_, h⟩ := h
  refine q_newa X Y (k := 21) (t := 1) (n := 6) (ty := .int) rfl (by decide) rfl (fun _ _ => rfl) (by first | exact rfl | decide | simp [defaultValue]) ar_int (by decide) (by decide) (by decide) w22_ dX4_init_29 (fun b19_ H h20_ h21_ Y => ?_)
  replace h := h b19_ h20_
  replace hu := w22_
  replace k5_ := qs_R_keep (j := 21) (n := 6) h20_ k5_ (by decide)
  replace k6_ := qs_R_keep (j := 21) (n := 6) h20_ k6_ (by decide)
  replace k11_ := qs_R_keep (j := 21) (n := 6) h20_ k11_ (by decide)
  replace k17_ := qs_R_keep (j := 21) (n := 6) h20_ k17_ (by decide)
  have k23_ : q_K (qs_R S18_ 21 6 b19_) b19_ = 21 := qs_R_Ks
  refine q_putP X Y (some b19_) rfl kX4 5 rfl fl_X4_21 k6_ _ rfl (Or.inr ⟨_, rfl⟩) (Or.inr ⟨rfl, hnm, rfl⟩) dX4_init_31 (fun H locs Y => ?_)
  exact q_vret X Y hu.1 hu.2 h dX4_init_34
-- X4_setBytes
theorem ml_X4_37 : Cond.methodLink RX4 37 yJ7_fill_53178 ∈ q_G := q_tb (i := 793) (by decide +kernel) (by decide +kernel)
theorem mx_X4_24 : Cond.methodLink RX4 24 Lib.Math.max.name ∈ q_G := q_tb (i := 792) (by decide +kernel) (by decide +kernel)
theorem dX4_setBytes_0 : decode cX4_setBytes 0 = .ok (.aload_n 0, 1) := by decide +kernel
theorem dX4_setBytes_1 : decode cX4_setBytes 1 = .ok (.iconst 0, 1) := by decide +kernel
theorem dX4_setBytes_2 : decode cX4_setBytes 2 = .ok (.iload_n 1, 1) := by decide +kernel
theorem dX4_setBytes_3 : decode cX4_setBytes 3 = .ok (.invokestatic 24, 3) := by decide +kernel
theorem dX4_setBytes_6 : decode cX4_setBytes 6 = .ok (.putfield 30, 3) := by decide +kernel
theorem dX4_setBytes_9 : decode cX4_setBytes 9 = .ok (.aload_n 0, 1) := by decide +kernel
theorem dX4_setBytes_10 : decode cX4_setBytes 10 = .ok (.iconst 0, 1) := by decide +kernel
theorem dX4_setBytes_11 : decode cX4_setBytes 11 = .ok (.putfield 34, 3) := by decide +kernel
theorem dX4_setBytes_14 : decode cX4_setBytes 14 = .ok (.aload_n 0, 1) := by decide +kernel
theorem dX4_setBytes_15 : decode cX4_setBytes 15 = .ok (.getfield 15, 3) := by decide +kernel
theorem dX4_setBytes_18 : decode cX4_setBytes 18 = .ok (.arraylength, 1) := by decide +kernel
theorem dX4_setBytes_19 : decode cX4_setBytes 19 = .ok (.aload_n 0, 1) := by decide +kernel
theorem dX4_setBytes_20 : decode cX4_setBytes 20 = .ok (.getfield 30, 3) := by decide +kernel
theorem dX4_setBytes_23 : decode cX4_setBytes 23 = .ok (.iconst 2, 1) := by decide +kernel
theorem dX4_setBytes_24 : decode cX4_setBytes 24 = .ok (.ishr, 1) := by decide +kernel
theorem dX4_setBytes_25 : decode cX4_setBytes 25 = .ok (.if_icmp .ge 27, 3) := by decide +kernel
theorem dX4_setBytes_28 : decode cX4_setBytes 28 = .ok (.aload_n 0, 1) := by decide +kernel
theorem dX4_setBytes_29 : decode cX4_setBytes 29 = .ok (.aload_n 0, 1) := by decide +kernel
theorem dX4_setBytes_30 : decode cX4_setBytes 30 = .ok (.getfield 30, 3) := by decide +kernel
theorem dX4_setBytes_33 : decode cX4_setBytes 33 = .ok (.iconst 2, 1) := by decide +kernel
theorem dX4_setBytes_34 : decode cX4_setBytes 34 = .ok (.ishr, 1) := by decide +kernel
theorem dX4_setBytes_35 : decode cX4_setBytes 35 = .ok (.newarray .int, 2) := by decide +kernel
theorem dX4_setBytes_37 : decode cX4_setBytes 37 = .ok (.putfield 15, 3) := by decide +kernel
theorem dX4_setBytes_40 : decode cX4_setBytes 40 = .ok (.aload_n 0, 1) := by decide +kernel
theorem dX4_setBytes_41 : decode cX4_setBytes 41 = .ok (.aload_n 0, 1) := by decide +kernel
theorem dX4_setBytes_42 : decode cX4_setBytes 42 = .ok (.getfield 30, 3) := by decide +kernel
theorem dX4_setBytes_45 : decode cX4_setBytes 45 = .ok (.iconst 2, 1) := by decide +kernel
theorem dX4_setBytes_46 : decode cX4_setBytes 46 = .ok (.ishr, 1) := by decide +kernel
theorem dX4_setBytes_47 : decode cX4_setBytes 47 = .ok (.newarray .int, 2) := by decide +kernel
theorem dX4_setBytes_49 : decode cX4_setBytes 49 = .ok (.putfield 9, 3) := by decide +kernel
theorem dX4_setBytes_52 : decode cX4_setBytes 52 = .ok (.aload_n 0, 1) := by decide +kernel
theorem dX4_setBytes_53 : decode cX4_setBytes 53 = .ok (.getfield 15, 3) := by decide +kernel
theorem dX4_setBytes_56 : decode cX4_setBytes 56 = .ok (.iconst 0, 1) := by decide +kernel
theorem dX4_setBytes_57 : decode cX4_setBytes 57 = .ok (.invokestatic 37, 3) := by decide +kernel
theorem dX4_setBytes_60 : decode cX4_setBytes 60 = .ok (.aload_n 0, 1) := by decide +kernel
theorem dX4_setBytes_61 : decode cX4_setBytes 61 = .ok (.getfield 9, 3) := by decide +kernel
theorem dX4_setBytes_64 : decode cX4_setBytes 64 = .ok (.iconst 0, 1) := by decide +kernel
theorem dX4_setBytes_65 : decode cX4_setBytes 65 = .ok (.invokestatic 37, 3) := by decide +kernel
theorem dX4_setBytes_68 : decode cX4_setBytes 68 = .ok (.return_, 1) := by decide +kernel
def wb_X4_setBytes_52 (bc bs : Nat)  (u v : Nat) (S : q_S) (a0 : Nat) (Q : Option Value → q_S → Prop) : Prop := q_K S a0 = 5 ∧ (wm_J7_fill_53178 S (q_P S 802 a0) (0 : Int32) (fun r2_ S3_ => r2_ = none ∧ (q_K S3_ a0 = 5 ∧ (wm_J7_fill_53178 S3_ (q_P S3_ 801 a0) (0 : Int32) (fun r5_ S6_ => r5_ = none ∧ (Q none S6_))))))
set_option maxHeartbeats 4000000 in
set_option maxRecDepth 100000 in
theorem cb_X4_setBytes_52 {p : Program} {l : Launch} {e : Env} {s : State} {m : MethodId} {args : Array Value} {below : List Frame} {meth : Method} {c : Code} {D : va_G} {cy : Nat → ClassId} {lo : Nat} {bc bs : Nat}  {u v : Nat} {S : q_S} {a0 : Nat} {Q : Option Value → q_S → Prop} {H : Heap} {locs : List Loc} {ls : Array Slot} (X : q_X p s m args meth c RX4 cX4_setBytes 2 none D cy lo)  (hu : u ≤ bc ∧ v ≤ bs) (Y : q_Y D cy lo s S H locs) (hl : lv_has ls 2 [(0, .ref a0)]) (h : wb_X4_setBytes_52 bc bs u v S a0 Q) : W p l e ({ frames := 1, cells := bc, slots := bs, locals := 30 } : Room) s m args below meth c H locs u v (MQ below (q_Q D cy lo Q) args s bc bs (fun q => lo ≤ q)) (F0 m 52 ls []) := by
  have hx := X.1
  have hb := X.2.1
  unfold wb_X4_setBytes_52 at h
  refine lv_aload_n hx hb dX4_setBytes_52 rfl (lv_at hl 0 rfl) ?_
  obtain ⟨k1_, h⟩ := h
  refine q_getP X Y kX4 2 rfl fl_X4_15 k1_ rfl dX4_setBytes_53 ?_
  refine lv_iconst (v := 0) hx hb dX4_setBytes_56 (by decide) ?_
  refine q_callS X Y hl (cm_J7_fill_53178 h) mt_J7_fill_53178 ms_J7_fill_53178 ml_X4_37 rfl rfl (by first | exact Nat.le_of_ble_eq_true rfl | simp [q_cat, q_catI, q_catJ, q_catR]) ⟨Nat.le_of_ble_eq_true rfl, Nat.le_of_ble_eq_true rfl⟩ hu dX4_setBytes_57 (fun r2_ S3_ H locs hp Y => ?_)
  obtain ⟨rfl, h⟩ := hp
  refine W.eq (g2 := F0 m 60 ls []) rfl ?_
  refine lv_aload_n hx hb dX4_setBytes_60 rfl (lv_at hl 0 rfl) ?_
  obtain ⟨k4_, h⟩ := h
  refine q_getP X Y kX4 1 rfl fl_X4_9 k4_ rfl dX4_setBytes_61 ?_
  refine lv_iconst (v := 0) hx hb dX4_setBytes_64 (by decide) ?_
  refine q_callS X Y hl (cm_J7_fill_53178 h) mt_J7_fill_53178 ms_J7_fill_53178 ml_X4_37 rfl rfl (by first | exact Nat.le_of_ble_eq_true rfl | simp [q_cat, q_catI, q_catJ, q_catR]) ⟨Nat.le_of_ble_eq_true rfl, Nat.le_of_ble_eq_true rfl⟩ hu dX4_setBytes_65 (fun r5_ S6_ H locs hp Y => ?_)
  obtain ⟨rfl, h⟩ := hp
  refine W.eq (g2 := F0 m 68 ls []) rfl ?_
  exact q_vret X Y hu.1 hu.2 h dX4_setBytes_68
def wm_X4_setBytes (bc bs : Nat) (S : q_S) (a0 : Nat) (x1 : Int32) (Q : Option Value → q_S → Prop) : Prop := q_K S a0 = 5 ∧ (∃ a8_ : Nat, (q_P (qs_I (qs_I S 800 a0 (if (0 : Int32) < x1 then x1 else (0 : Int32))) 803 a0 (0 : Int32)) 802 a0) = some a8_ ∧ (q_K (qs_I (qs_I S 800 a0 (if (0 : Int32) < x1 then x1 else (0 : Int32))) 803 a0 (0 : Int32)) a8_ = 21 ∧ (((((q_I (qs_I (qs_I S 800 a0 (if (0 : Int32) < x1 then x1 else (0 : Int32))) 803 a0 (0 : Int32)) 800 a0) >>> ((2 : Int32) &&& 31)) ≤ (nI (q_N (qs_I (qs_I S 800 a0 (if (0 : Int32) < x1 then x1 else (0 : Int32))) 803 a0 (0 : Int32)) a8_)) → (wb_X4_setBytes_52 bc bs 0 0 (qs_I (qs_I S 800 a0 (if (0 : Int32) < x1 then x1 else (0 : Int32))) 803 a0 (0 : Int32)) a0 Q)) ∧ (¬ ((q_I (qs_I (qs_I S 800 a0 (if (0 : Int32) < x1 then x1 else (0 : Int32))) 803 a0 (0 : Int32)) 800 a0) >>> ((2 : Int32) &&& 31)) ≤ (nI (q_N (qs_I (qs_I S 800 a0 (if (0 : Int32) < x1 then x1 else (0 : Int32))) 803 a0 (0 : Int32)) a8_)) → (∃ n16_ : Nat, ((q_I (qs_I (qs_I S 800 a0 (if (0 : Int32) < x1 then x1 else (0 : Int32))) 803 a0 (0 : Int32)) 800 a0) >>> ((2 : Int32) &&& 31)) = nI n16_ ∧ n16_ < 1000000 ∧ ((0 + 1 ≤ bc ∧ 0 + n16_ ≤ bs) ∧ (∀ b12_ : Nat, q_K (qs_I (qs_I S 800 a0 (if (0 : Int32) < x1 then x1 else (0 : Int32))) 803 a0 (0 : Int32)) b12_ = 0 → (∀ S20_ : q_S, S20_ = (qs_R (qs_I (qs_I S 800 a0 (if (0 : Int32) < x1 then x1 else (0 : Int32))) 803 a0 (0 : Int32)) 21 n16_ b12_) → (∃ n25_ : Nat, ((q_I (qs_P S20_ 802 a0 (some b12_)) 800 a0) >>> ((2 : Int32) &&& 31)) = nI n25_ ∧ n25_ < 1000000 ∧ (((0 + 1) + 1 ≤ bc ∧ (0 + n16_) + n25_ ≤ bs) ∧ (∀ b21_ : Nat, q_K (qs_P S20_ 802 a0 (some b12_)) b21_ = 0 → (∀ S29_ : q_S, S29_ = (qs_P (qs_R (qs_P S20_ 802 a0 (some b12_)) 21 n25_ b21_) 801 a0 (some b21_)) → (wb_X4_setBytes_52 bc bs ((0 + 1) + 1) ((0 + n16_) + n25_) S29_ a0 Q))))))))))))))
set_option maxHeartbeats 4000000 in
set_option maxRecDepth 100000 in
theorem cm_X4_setBytes {l : Launch} {D : va_G} {cy : Nat → ClassId} {lo : Nat} {bc bs : Nat} {S : q_S} {a0 : Nat} {x1 : Int32} {Q : Option Value → q_S → Prop} (h : wm_X4_setBytes bc bs S a0 x1 Q) : q_Met l D cy lo yX4_setBytes cX4_setBytes 2 none 1 30 bc bs [.ref a0, .int x1] S Q := by
  refine q_body (by decide) (by first | exact Nat.le_of_ble_eq_true rfl | simp [lg_sl, q_cat, q_catI, q_catJ, q_catR]) ?_
  intro p e s m below meth c ls X hnm Y hl
  have hx := X.1
  have hb := X.2.1
  have hl : lv_has ls 2 [(0, .ref a0), (1, .int x1)] := by first | exact hl | simpa [lv_args, q_cat, q_catI, q_catJ, q_catR] using hl
  generalize hargs : ([.ref a0, .int x1] : List Value).toArray = args at X ⊢
  have hu : 0 ≤ bc ∧ 0 ≤ bs := ⟨Nat.zero_le _, Nat.zero_le _⟩
  unfold wm_X4_setBytes at h
  refine lv_aload_n hx hb dX4_setBytes_0 rfl (lv_at hl 0 rfl) ?_
  refine lv_iconst (v := 0) hx hb dX4_setBytes_1 (by decide) ?_
  refine lv_iload_n hx hb dX4_setBytes_2 rfl (lv_at hl 1 rfl) ?_
  refine va_mmax hx hb (X.2.2.1.trans hl.1.symm) X.2.2.2.1 (X.2.2.2.2.1 _ mx_X4_24) (X.2.2.2.2.1 _ mxs_max) (X.2.2.2.2.1 _ mxi_) (X.2.2.2.2.1 _ mxc_max) (Nat.le_of_ble_eq_true rfl) (by first | exact Nat.le_of_ble_eq_true rfl | simp [q_cat, q_catI, q_catJ, q_catR]) hu.1 hu.2 dX4_setBytes_3 ?_
  obtain ⟨k7_, h⟩ := h
  refine q_putI X Y kX4 0 rfl fl_X4_30 k7_ .int rfl ⟨rfl, rfl⟩ rfl dX4_setBytes_6 (fun H locs Y => ?_)
  refine lv_aload_n hx hb dX4_setBytes_9 rfl (lv_at hl 0 rfl) ?_
  refine lv_iconst (v := 0) hx hb dX4_setBytes_10 (by decide) ?_
  refine q_putI X Y kX4 3 rfl fl_X4_34 k7_ .int rfl ⟨rfl, rfl⟩ rfl dX4_setBytes_11 (fun H locs Y => ?_)
  refine lv_aload_n hx hb dX4_setBytes_14 rfl (lv_at hl 0 rfl) ?_
  refine q_getP X Y kX4 2 rfl fl_X4_15 k7_ rfl dX4_setBytes_15 ?_
  obtain ⟨a8_, e9_, h⟩ := h
  refine q_nn [] e9_ ?_
  obtain ⟨k10_, h⟩ := h
  refine q_alen X Y k10_ (by decide) (t := 1) rfl dX4_setBytes_18 ?_
  refine lv_aload_n hx hb dX4_setBytes_19 rfl (lv_at hl 0 rfl) ?_
  refine q_getI X Y kX4 0 rfl fl_X4_30 k7_ dX4_setBytes_20 ?_
  refine lv_iconst (v := 2) hx hb dX4_setBytes_23 (by decide) ?_
  refine lv_ishr hx hb dX4_setBytes_24 ?_
  refine lv_icmp_ge (tgt := 52) hx hb dX4_setBytes_25 (by decide) (fun c11_ => ?_) (fun c11_ => ?_)
  · replace h := h.1 c11_
    exact cb_X4_setBytes_52 X hu Y (lv_sub hl [0] rfl) h
  · replace h := h.2 c11_
    refine lv_aload_n hx hb dX4_setBytes_28 rfl (lv_at hl 0 rfl) ?_
    refine lv_aload_n hx hb dX4_setBytes_29 rfl (lv_at hl 0 rfl) ?_
    refine q_getI X Y kX4 0 rfl fl_X4_30 k7_ dX4_setBytes_30 ?_
    refine lv_iconst (v := 2) hx hb dX4_setBytes_33 (by decide) ?_
    refine lv_ishr hx hb dX4_setBytes_34 ?_
    obtain ⟨n16_, e17_, e18_, h⟩ := h
    obtain ⟨w15_, h⟩ := h
    refine q_newa X Y (k := 21) (t := 1) (n := n16_) (ty := .int) rfl (by decide) rfl (fun _ _ => rfl) (by first | exact rfl | decide | simp [defaultValue]) ar_int e17_ e18_ (Nat.le_trans (Nat.mul_le_mul_right _ (Nat.le_of_lt e18_)) (by decide)) w15_ dX4_setBytes_35 (fun b12_ H h13_ h14_ Y => ?_)
    replace h := h b12_ h13_
    replace hu := w15_
    replace k7_ := qs_R_keep (j := 21) (n := n16_) h13_ k7_ (by decide)
    replace k10_ := qs_R_keep (j := 21) (n := n16_) h13_ k10_ (by decide)
    have k19_ : q_K (qs_R (qs_I (qs_I S 800 a0 (if (0 : Int32) < x1 then x1 else (0 : Int32))) 803 a0 (0 : Int32)) 21 n16_ b12_) b12_ = 21 := qs_R_Ks
    obtain ⟨S20_, gS20_⟩ : ∃ z : q_S, z = (qs_R (qs_I (qs_I S 800 a0 (if (0 : Int32) < x1 then x1 else (0 : Int32))) 803 a0 (0 : Int32)) 21 n16_ b12_) := ⟨_, rfl⟩
    replace Y : q_Y D cy lo s S20_ H locs := by rw [gS20_]; exact Y
    replace h := h S20_ gS20_
    replace k7_ : q_K S20_ a0 = 5 := by rw [gS20_]; exact k7_
    replace k10_ : q_K S20_ a8_ = 21 := by rw [gS20_]; exact k10_
    replace k19_ : q_K S20_ b12_ = 21 := by rw [gS20_]; exact k19_
    refine q_putP X Y (some b12_) rfl kX4 2 rfl fl_X4_15 k7_ _ rfl (Or.inr ⟨_, rfl⟩) (Or.inl rfl) dX4_setBytes_37 (fun H locs Y => ?_)
    refine lv_aload_n hx hb dX4_setBytes_40 rfl (lv_at hl 0 rfl) ?_
    refine lv_aload_n hx hb dX4_setBytes_41 rfl (lv_at hl 0 rfl) ?_
    refine q_getI X Y kX4 0 rfl fl_X4_30 k7_ dX4_setBytes_42 ?_
    refine lv_iconst (v := 2) hx hb dX4_setBytes_45 (by decide) ?_
    refine lv_ishr hx hb dX4_setBytes_46 ?_
    obtain ⟨n25_, e26_, e27_, h⟩ := h
    obtain ⟨w24_, h⟩ := h
    refine q_newa X Y (k := 21) (t := 1) (n := n25_) (ty := .int) rfl (by decide) rfl (fun _ _ => rfl) (by first | exact rfl | decide | simp [defaultValue]) ar_int e26_ e27_ (Nat.le_trans (Nat.mul_le_mul_right _ (Nat.le_of_lt e27_)) (by decide)) w24_ dX4_setBytes_47 (fun b21_ H h22_ h23_ Y => ?_)
    replace h := h b21_ h22_
    replace hu := w24_
    replace k7_ := qs_R_keep (j := 21) (n := n25_) h22_ k7_ (by decide)
    replace k10_ := qs_R_keep (j := 21) (n := n25_) h22_ k10_ (by decide)
    replace k19_ := qs_R_keep (j := 21) (n := n25_) h22_ k19_ (by decide)
    have k28_ : q_K (qs_R (qs_P S20_ 802 a0 (some b12_)) 21 n25_ b21_) b21_ = 21 := qs_R_Ks
    refine q_putP X Y (some b21_) rfl kX4 1 rfl fl_X4_9 k7_ _ rfl (Or.inr ⟨_, rfl⟩) (Or.inl rfl) dX4_setBytes_49 (fun H locs Y => ?_)
    obtain ⟨S29_, gS29_⟩ : ∃ z : q_S, z = (qs_P (qs_R (qs_P S20_ 802 a0 (some b12_)) 21 n25_ b21_) 801 a0 (some b21_)) := ⟨_, rfl⟩
    replace Y : q_Y D cy lo s S29_ H locs := by rw [gS29_]; exact Y
    replace h := h S29_ gS29_
    replace k7_ : q_K S29_ a0 = 5 := by rw [gS29_]; exact k7_
    replace k10_ : q_K S29_ a8_ = 21 := by rw [gS29_]; exact k10_
    replace k19_ : q_K S29_ b12_ = 21 := by rw [gS29_]; exact k19_
    replace k28_ : q_K S29_ b21_ = 21 := by rw [gS29_]; exact k28_
    exact cb_X4_setBytes_52 X hu Y (lv_sub hl [0] rfl) h
-- X4_covered
theorem dX4_covered_0 : decode cX4_covered 0 = .ok (.aload_n 0, 1) := by decide +kernel
theorem dX4_covered_1 : decode cX4_covered 1 = .ok (.getfield 34, 3) := by decide +kernel
theorem dX4_covered_4 : decode cX4_covered 4 = .ok (.ifCond .ne 7, 3) := by decide +kernel
theorem dX4_covered_7 : decode cX4_covered 7 = .ok (.iconst 0, 1) := by decide +kernel
theorem dX4_covered_8 : decode cX4_covered 8 = .ok (.goto 14, 3) := by decide +kernel
theorem dX4_covered_11 : decode cX4_covered 11 = .ok (.aload_n 0, 1) := by decide +kernel
theorem dX4_covered_12 : decode cX4_covered 12 = .ok (.getfield 18, 3) := by decide +kernel
theorem dX4_covered_15 : decode cX4_covered 15 = .ok (.aload_n 0, 1) := by decide +kernel
theorem dX4_covered_16 : decode cX4_covered 16 = .ok (.getfield 34, 3) := by decide +kernel
theorem dX4_covered_19 : decode cX4_covered 19 = .ok (.iconst 1, 1) := by decide +kernel
theorem dX4_covered_20 : decode cX4_covered 20 = .ok (.isub, 1) := by decide +kernel
theorem dX4_covered_21 : decode cX4_covered 21 = .ok (.iaload, 1) := by decide +kernel
theorem dX4_covered_22 : decode cX4_covered 22 = .ok (.ireturn, 1) := by decide +kernel
def wb_X4_covered_22  (S : q_S) (xs0 : Int32) (Q : Option Value → q_S → Prop) : Prop := Q (some (.int xs0)) S
set_option maxHeartbeats 4000000 in
set_option maxRecDepth 100000 in
theorem cb_X4_covered_22 {p : Program} {l : Launch} {e : Env} {s : State} {m : MethodId} {args : Array Value} {below : List Frame} {meth : Method} {c : Code} {D : va_G} {cy : Nat → ClassId} {lo : Nat}  {S : q_S} {xs0 : Int32} {Q : Option Value → q_S → Prop} {H : Heap} {locs : List Loc} {ls : Array Slot} (X : q_X p s m args meth c RX4 cX4_covered 1 (some .int) D cy lo)  (Y : q_Y D cy lo s S H locs) (hl : lv_has ls 1 []) (h : wb_X4_covered_22 S xs0 Q) : W p l e ({ frames := 0, cells := 0, slots := 0, locals := 0 } : Room) s m args below meth c H locs 0 0 (MQ below (q_Q D cy lo Q) args s 0 0 (fun q => lo ≤ q)) (F0 m 22 ls [.int xs0]) := by
  have hx := X.1
  have hb := X.2.1
  unfold wb_X4_covered_22 at h
  exact q_iret X Y rfl (Nat.le_refl _) (Nat.le_refl _) h dX4_covered_22
def wm_X4_covered (S : q_S) (a0 : Nat) (Q : Option Value → q_S → Prop) : Prop := q_K S a0 = 5 ∧ (((¬ (q_I S 803 a0) = 0 → (∃ a3_ : Nat, (q_P S 804 a0) = some a3_ ∧ (q_K S a3_ = 21 ∧ (vp_in ((q_I S 803 a0) - (1 : Int32)) (q_N S a3_) ∧ (wb_X4_covered_22 S (q_A S a3_ ((q_I S 803 a0) - (1 : Int32)).toNatClampNeg) Q))))) ∧ ((q_I S 803 a0) = 0 → (wb_X4_covered_22 S (0 : Int32) Q))))
set_option maxHeartbeats 4000000 in
set_option maxRecDepth 100000 in
theorem cm_X4_covered {l : Launch} {D : va_G} {cy : Nat → ClassId} {lo : Nat} {S : q_S} {a0 : Nat} {Q : Option Value → q_S → Prop} (h : wm_X4_covered S a0 Q) : q_Met l D cy lo yX4_covered cX4_covered 1 (some .int) 0 0 0 0 [.ref a0] S Q := by
  refine q_body (by decide) (by first | exact Nat.le_of_ble_eq_true rfl | simp [lg_sl, q_cat, q_catI, q_catJ, q_catR]) ?_
  intro p e s m below meth c ls X hnm Y hl
  have hx := X.1
  have hb := X.2.1
  have hl : lv_has ls 1 [(0, .ref a0)] := by first | exact hl | simpa [lv_args, q_cat, q_catI, q_catJ, q_catR] using hl
  generalize hargs : ([.ref a0] : List Value).toArray = args at X ⊢
  unfold wm_X4_covered at h
  refine lv_aload_n hx hb dX4_covered_0 rfl (lv_at hl 0 rfl) ?_
  obtain ⟨k1_, h⟩ := h
  refine q_getI X Y kX4 3 rfl fl_X4_34 k1_ dX4_covered_1 ?_
  refine lv_if_ne (tgt := 11) hx hb dX4_covered_4 (by decide) (fun c2_ => ?_) (fun c2_ => ?_)
  · replace h := h.1 c2_
    refine lv_aload_n hx hb dX4_covered_11 rfl (lv_at hl 0 rfl) ?_
    refine q_getP X Y kX4 4 rfl fl_X4_18 k1_ rfl dX4_covered_12 ?_
    refine lv_aload_n hx hb dX4_covered_15 rfl (lv_at hl 0 rfl) ?_
    refine q_getI X Y kX4 3 rfl fl_X4_34 k1_ dX4_covered_16 ?_
    refine lv_iconst (v := 1) hx hb dX4_covered_19 (by decide) ?_
    refine lv_isub hx hb dX4_covered_20 ?_
    obtain ⟨a3_, e4_, h⟩ := h
    refine q_nn [.int ((q_I S 803 a0) - (1 : Int32))] e4_ ?_
    obtain ⟨k5_, h⟩ := h
    obtain ⟨i6_, h⟩ := h
    refine q_ild X Y k5_ i6_ dX4_covered_21 ?_
    exact cb_X4_covered_22 X Y (lv_sub hl [] rfl) h
  · replace h := h.2 c2_
    refine lv_iconst (v := 0) hx hb dX4_covered_7 (by decide) ?_
    refine lv_goto (tgt := 22) hx hb dX4_covered_8 (by decide) ?_
    exact cb_X4_covered_22 X Y (lv_sub hl [] rfl) h
-- X4_addRegion
theorem ml_X4_43 : Cond.methodLink RX4 43 yX4_covered ∈ q_G := q_tb (i := 806) (by decide +kernel) (by decide +kernel)
theorem mt_X4_covered : q_Mt yX4_covered cX4_covered 1 (some .int) 0 := ⟨q_tb (i := 801) (by decide +kernel) (by decide +kernel), q_tb (i := 21) (by decide +kernel) (by decide +kernel), by decide +kernel, by decide +kernel, by decide +kernel⟩
theorem mi_X4_covered : Cond.instanceMethod yX4_covered ∈ q_G ∧ Cond.selects yX4_covered.cls yX4_covered yX4_covered ∈ q_G := ⟨q_tb (i := 799) (by decide +kernel) (by decide +kernel), q_tb (i := 800) (by decide +kernel) (by decide +kernel)⟩
theorem dX4_addRegion_0 : decode cX4_addRegion 0 = .ok (.aload_n 0, 1) := by decide +kernel
theorem dX4_addRegion_1 : decode cX4_addRegion 1 = .ok (.getfield 34, 3) := by decide +kernel
theorem dX4_addRegion_4 : decode cX4_addRegion 4 = .ok (.bipush 6, 2) := by decide +kernel
theorem dX4_addRegion_6 : decode cX4_addRegion 6 = .ok (.if_icmp .ge 38, 3) := by decide +kernel
theorem dX4_addRegion_9 : decode cX4_addRegion 9 = .ok (.aload_n 0, 1) := by decide +kernel
theorem dX4_addRegion_10 : decode cX4_addRegion 10 = .ok (.getfield 18, 3) := by decide +kernel
theorem dX4_addRegion_13 : decode cX4_addRegion 13 = .ok (.aload_n 0, 1) := by decide +kernel
theorem dX4_addRegion_14 : decode cX4_addRegion 14 = .ok (.getfield 34, 3) := by decide +kernel
theorem dX4_addRegion_17 : decode cX4_addRegion 17 = .ok (.aload_n 0, 1) := by decide +kernel
theorem dX4_addRegion_18 : decode cX4_addRegion 18 = .ok (.invokevirtual 43, 3) := by decide +kernel
theorem dX4_addRegion_21 : decode cX4_addRegion 21 = .ok (.iload_n 1, 1) := by decide +kernel
theorem dX4_addRegion_22 : decode cX4_addRegion 22 = .ok (.iadd, 1) := by decide +kernel
theorem dX4_addRegion_23 : decode cX4_addRegion 23 = .ok (.iastore, 1) := by decide +kernel
theorem dX4_addRegion_24 : decode cX4_addRegion 24 = .ok (.aload_n 0, 1) := by decide +kernel
theorem dX4_addRegion_25 : decode cX4_addRegion 25 = .ok (.getfield 21, 3) := by decide +kernel
theorem dX4_addRegion_28 : decode cX4_addRegion 28 = .ok (.aload_n 0, 1) := by decide +kernel
theorem dX4_addRegion_29 : decode cX4_addRegion 29 = .ok (.getfield 34, 3) := by decide +kernel
theorem dX4_addRegion_32 : decode cX4_addRegion 32 = .ok (.iload_n 2, 1) := by decide +kernel
theorem dX4_addRegion_33 : decode cX4_addRegion 33 = .ok (.iastore, 1) := by decide +kernel
theorem dX4_addRegion_34 : decode cX4_addRegion 34 = .ok (.aload_n 0, 1) := by decide +kernel
theorem dX4_addRegion_35 : decode cX4_addRegion 35 = .ok (.dup, 1) := by decide +kernel
theorem dX4_addRegion_36 : decode cX4_addRegion 36 = .ok (.getfield 34, 3) := by decide +kernel
theorem dX4_addRegion_39 : decode cX4_addRegion 39 = .ok (.iconst 1, 1) := by decide +kernel
theorem dX4_addRegion_40 : decode cX4_addRegion 40 = .ok (.iadd, 1) := by decide +kernel
theorem dX4_addRegion_41 : decode cX4_addRegion 41 = .ok (.putfield 34, 3) := by decide +kernel
theorem dX4_addRegion_44 : decode cX4_addRegion 44 = .ok (.return_, 1) := by decide +kernel
def wb_X4_addRegion_44  (S : q_S) (Q : Option Value → q_S → Prop) : Prop := Q none S
set_option maxHeartbeats 4000000 in
set_option maxRecDepth 100000 in
theorem cb_X4_addRegion_44 {p : Program} {l : Launch} {e : Env} {s : State} {m : MethodId} {args : Array Value} {below : List Frame} {meth : Method} {c : Code} {D : va_G} {cy : Nat → ClassId} {lo : Nat}  {S : q_S} {Q : Option Value → q_S → Prop} {H : Heap} {locs : List Loc} {ls : Array Slot} (X : q_X p s m args meth c RX4 cX4_addRegion 3 none D cy lo)  (Y : q_Y D cy lo s S H locs) (hl : lv_has ls 3 []) (h : wb_X4_addRegion_44 S Q) : W p l e ({ frames := 1, cells := 0, slots := 0, locals := 20 } : Room) s m args below meth c H locs 0 0 (MQ below (q_Q D cy lo Q) args s 0 0 (fun q => lo ≤ q)) (F0 m 44 ls []) := by
  have hx := X.1
  have hb := X.2.1
  unfold wb_X4_addRegion_44 at h
  exact q_vret X Y (Nat.le_refl _) (Nat.le_refl _) h dX4_addRegion_44
def wm_X4_addRegion (S : q_S) (a0 : Nat) (x1 : Int32) (x2 : Int32) (Q : Option Value → q_S → Prop) : Prop := q_K S a0 = 5 ∧ ((((6 : Int32) ≤ (q_I S 803 a0) → (wb_X4_addRegion_44 S Q)) ∧ (¬ (6 : Int32) ≤ (q_I S 803 a0) → (wm_X4_covered S a0 (fun r3_ S4_ => ∃ x5_ : Int32, r3_ = some (.int x5_) ∧ (∃ a6_ : Nat, (q_P S 804 a0) = some a6_ ∧ (q_K S4_ a6_ = 21 ∧ (vp_in (q_I S 803 a0) (q_N S4_ a6_) ∧ (q_K (qs_A S4_ a6_ (q_I S 803 a0).toNatClampNeg (x5_ + x1)) a0 = 5 ∧ (∃ a11_ : Nat, (q_P (qs_A S4_ a6_ (q_I S 803 a0).toNatClampNeg (x5_ + x1)) 805 a0) = some a11_ ∧ (q_K (qs_A S4_ a6_ (q_I S 803 a0).toNatClampNeg (x5_ + x1)) a11_ = 21 ∧ (vp_in (q_I (qs_A S4_ a6_ (q_I S 803 a0).toNatClampNeg (x5_ + x1)) 803 a0) (q_N (qs_A S4_ a6_ (q_I S 803 a0).toNatClampNeg (x5_ + x1)) a11_) ∧ (∀ S15_ : q_S, S15_ = (qs_A (qs_A S4_ a6_ (q_I S 803 a0).toNatClampNeg (x5_ + x1)) a11_ (q_I (qs_A S4_ a6_ (q_I S 803 a0).toNatClampNeg (x5_ + x1)) 803 a0).toNatClampNeg x2) → (wb_X4_addRegion_44 (qs_I S15_ 803 a0 ((q_I S15_ 803 a0) + (1 : Int32))) Q))))))))))))))
set_option maxHeartbeats 4000000 in
set_option maxRecDepth 100000 in
theorem cm_X4_addRegion {l : Launch} {D : va_G} {cy : Nat → ClassId} {lo : Nat} {S : q_S} {a0 : Nat} {x1 : Int32} {x2 : Int32} {Q : Option Value → q_S → Prop} (h : wm_X4_addRegion S a0 x1 x2 Q) : q_Met l D cy lo yX4_addRegion cX4_addRegion 3 none 1 20 0 0 [.ref a0, .int x1, .int x2] S Q := by
  refine q_body (by decide) (by first | exact Nat.le_of_ble_eq_true rfl | simp [lg_sl, q_cat, q_catI, q_catJ, q_catR]) ?_
  intro p e s m below meth c ls X hnm Y hl
  have hx := X.1
  have hb := X.2.1
  have hl : lv_has ls 3 [(0, .ref a0), (1, .int x1), (2, .int x2)] := by first | exact hl | simpa [lv_args, q_cat, q_catI, q_catJ, q_catR] using hl
  generalize hargs : ([.ref a0, .int x1, .int x2] : List Value).toArray = args at X ⊢
  unfold wm_X4_addRegion at h
  refine lv_aload_n hx hb dX4_addRegion_0 rfl (lv_at hl 0 rfl) ?_
  obtain ⟨k1_, h⟩ := h
  refine q_getI X Y kX4 3 rfl fl_X4_34 k1_ dX4_addRegion_1 ?_
  refine lv_bipush (v := 6) hx hb dX4_addRegion_4 (by decide) ?_
  refine lv_icmp_ge (tgt := 44) hx hb dX4_addRegion_6 (by decide) (fun c2_ => ?_) (fun c2_ => ?_)
  · replace h := h.1 c2_
    exact cb_X4_addRegion_44 X Y (lv_sub hl [] rfl) h
  · replace h := h.2 c2_
    refine lv_aload_n hx hb dX4_addRegion_9 rfl (lv_at hl 0 rfl) ?_
    refine q_getP X Y kX4 4 rfl fl_X4_18 k1_ rfl dX4_addRegion_10 ?_
    refine lv_aload_n hx hb dX4_addRegion_13 rfl (lv_at hl 0 rfl) ?_
    refine q_getI X Y kX4 3 rfl fl_X4_34 k1_ dX4_addRegion_14 ?_
    refine lv_aload_n hx hb dX4_addRegion_17 rfl (lv_at hl 0 rfl) ?_
    refine q_callV X Y hl (cm_X4_covered h) mt_X4_covered mi_X4_covered ml_X4_43 (ci := 4) rfl k1_ (by decide) rfl rfl (by first | exact Nat.le_of_ble_eq_true rfl | simp [q_cat, q_catI, q_catJ, q_catR]) ⟨Nat.le_of_ble_eq_true rfl, Nat.le_of_ble_eq_true rfl⟩ ⟨Nat.le_of_ble_eq_true rfl, Nat.le_of_ble_eq_true rfl⟩ dX4_addRegion_18 (fun r3_ S4_ H locs hp Y => ?_)
    obtain ⟨x5_, rfl, h⟩ := hp
    refine W.eq (g2 := F0 m 21 ls [.int x5_, .int (q_I S 803 a0), va_rf (q_P S 804 a0)]) rfl ?_
    refine lv_iload_n hx hb dX4_addRegion_21 rfl (lv_at hl 1 rfl) ?_
    refine lv_iadd hx hb dX4_addRegion_22 ?_
    obtain ⟨a6_, e7_, h⟩ := h
    refine q_nn [.int (x5_ + x1), .int (q_I S 803 a0)] e7_ ?_
    obtain ⟨k8_, h⟩ := h
    obtain ⟨i9_, h⟩ := h
    refine q_ist X Y k8_ i9_ dX4_addRegion_23 (fun H locs Y => ?_)
    refine lv_aload_n hx hb dX4_addRegion_24 rfl (lv_at hl 0 rfl) ?_
    obtain ⟨k10_, h⟩ := h
    refine q_getP X Y kX4 5 rfl fl_X4_21 k10_ rfl dX4_addRegion_25 ?_
    refine lv_aload_n hx hb dX4_addRegion_28 rfl (lv_at hl 0 rfl) ?_
    refine q_getI X Y kX4 3 rfl fl_X4_34 k10_ dX4_addRegion_29 ?_
    refine lv_iload_n hx hb dX4_addRegion_32 rfl (lv_at hl 2 rfl) ?_
    obtain ⟨a11_, e12_, h⟩ := h
    refine q_nn [.int x2, .int (q_I (qs_A S4_ a6_ (q_I S 803 a0).toNatClampNeg (x5_ + x1)) 803 a0)] e12_ ?_
    obtain ⟨k13_, h⟩ := h
    obtain ⟨i14_, h⟩ := h
    refine q_ist X Y k13_ i14_ dX4_addRegion_33 (fun H locs Y => ?_)
    obtain ⟨S15_, gS15_⟩ : ∃ z : q_S, z = (qs_A (qs_A S4_ a6_ (q_I S 803 a0).toNatClampNeg (x5_ + x1)) a11_ (q_I (qs_A S4_ a6_ (q_I S 803 a0).toNatClampNeg (x5_ + x1)) 803 a0).toNatClampNeg x2) := ⟨_, rfl⟩
    replace Y : q_Y D cy lo s S15_ H locs := by rw [gS15_]; exact Y
    replace h := h S15_ gS15_
    replace k8_ : q_K S15_ a6_ = 21 := by rw [gS15_]; exact k8_
    replace k10_ : q_K S15_ a0 = 5 := by rw [gS15_]; exact k10_
    replace k13_ : q_K S15_ a11_ = 21 := by rw [gS15_]; exact k13_
    refine lv_aload_n hx hb dX4_addRegion_34 rfl (lv_at hl 0 rfl) ?_
    refine lv_dup hx hb dX4_addRegion_35 rfl ?_
    refine q_getI X Y kX4 3 rfl fl_X4_34 k10_ dX4_addRegion_36 ?_
    refine lv_iconst (v := 1) hx hb dX4_addRegion_39 (by decide) ?_
    refine lv_iadd hx hb dX4_addRegion_40 ?_
    refine q_putI X Y kX4 3 rfl fl_X4_34 k10_ .int rfl ⟨rfl, rfl⟩ rfl dX4_addRegion_41 (fun H locs Y => ?_)
    exact cb_X4_addRegion_44 X Y (lv_sub hl [] rfl) h
-- X4_firstOf
theorem dX4_firstOf_0 : decode cX4_firstOf 0 = .ok (.iload_n 1, 1) := by decide +kernel
theorem dX4_firstOf_1 : decode cX4_firstOf 1 = .ok (.ifCond .le 11, 3) := by decide +kernel
theorem dX4_firstOf_4 : decode cX4_firstOf 4 = .ok (.iload_n 1, 1) := by decide +kernel
theorem dX4_firstOf_5 : decode cX4_firstOf 5 = .ok (.aload_n 0, 1) := by decide +kernel
theorem dX4_firstOf_6 : decode cX4_firstOf 6 = .ok (.getfield 34, 3) := by decide +kernel
theorem dX4_firstOf_9 : decode cX4_firstOf 9 = .ok (.if_icmp .le 7, 3) := by decide +kernel
theorem dX4_firstOf_12 : decode cX4_firstOf 12 = .ok (.iconst 0, 1) := by decide +kernel
theorem dX4_firstOf_13 : decode cX4_firstOf 13 = .ok (.goto 11, 3) := by decide +kernel
theorem dX4_firstOf_16 : decode cX4_firstOf 16 = .ok (.aload_n 0, 1) := by decide +kernel
theorem dX4_firstOf_17 : decode cX4_firstOf 17 = .ok (.getfield 18, 3) := by decide +kernel
theorem dX4_firstOf_20 : decode cX4_firstOf 20 = .ok (.iload_n 1, 1) := by decide +kernel
theorem dX4_firstOf_21 : decode cX4_firstOf 21 = .ok (.iconst 1, 1) := by decide +kernel
theorem dX4_firstOf_22 : decode cX4_firstOf 22 = .ok (.isub, 1) := by decide +kernel
theorem dX4_firstOf_23 : decode cX4_firstOf 23 = .ok (.iaload, 1) := by decide +kernel
theorem dX4_firstOf_24 : decode cX4_firstOf 24 = .ok (.ireturn, 1) := by decide +kernel
def wb_X4_firstOf_24  (S : q_S) (xs0 : Int32) (Q : Option Value → q_S → Prop) : Prop := Q (some (.int xs0)) S
set_option maxHeartbeats 4000000 in
set_option maxRecDepth 100000 in
theorem cb_X4_firstOf_24 {p : Program} {l : Launch} {e : Env} {s : State} {m : MethodId} {args : Array Value} {below : List Frame} {meth : Method} {c : Code} {D : va_G} {cy : Nat → ClassId} {lo : Nat}  {S : q_S} {xs0 : Int32} {Q : Option Value → q_S → Prop} {H : Heap} {locs : List Loc} {ls : Array Slot} (X : q_X p s m args meth c RX4 cX4_firstOf 2 (some .int) D cy lo)  (Y : q_Y D cy lo s S H locs) (hl : lv_has ls 2 []) (h : wb_X4_firstOf_24 S xs0 Q) : W p l e ({ frames := 0, cells := 0, slots := 0, locals := 0 } : Room) s m args below meth c H locs 0 0 (MQ below (q_Q D cy lo Q) args s 0 0 (fun q => lo ≤ q)) (F0 m 24 ls [.int xs0]) := by
  have hx := X.1
  have hb := X.2.1
  unfold wb_X4_firstOf_24 at h
  exact q_iret X Y rfl (Nat.le_refl _) (Nat.le_refl _) h dX4_firstOf_24
def wb_X4_firstOf_12  (S : q_S) (Q : Option Value → q_S → Prop) : Prop := wb_X4_firstOf_24 S (0 : Int32) Q
set_option maxHeartbeats 4000000 in
set_option maxRecDepth 100000 in
theorem cb_X4_firstOf_12 {p : Program} {l : Launch} {e : Env} {s : State} {m : MethodId} {args : Array Value} {below : List Frame} {meth : Method} {c : Code} {D : va_G} {cy : Nat → ClassId} {lo : Nat}  {S : q_S} {Q : Option Value → q_S → Prop} {H : Heap} {locs : List Loc} {ls : Array Slot} (X : q_X p s m args meth c RX4 cX4_firstOf 2 (some .int) D cy lo)  (Y : q_Y D cy lo s S H locs) (hl : lv_has ls 2 []) (h : wb_X4_firstOf_12 S Q) : W p l e ({ frames := 0, cells := 0, slots := 0, locals := 0 } : Room) s m args below meth c H locs 0 0 (MQ below (q_Q D cy lo Q) args s 0 0 (fun q => lo ≤ q)) (F0 m 12 ls []) := by
  have hx := X.1
  have hb := X.2.1
  unfold wb_X4_firstOf_12 at h
  refine lv_iconst (v := 0) hx hb dX4_firstOf_12 (by decide) ?_
  refine lv_goto (tgt := 24) hx hb dX4_firstOf_13 (by decide) ?_
  exact cb_X4_firstOf_24 X Y (lv_sub hl [] rfl) h
def wm_X4_firstOf (S : q_S) (a0 : Nat) (x1 : Int32) (Q : Option Value → q_S → Prop) : Prop := ((x1 ≤ 0 → (wb_X4_firstOf_12 S Q)) ∧ (¬ x1 ≤ 0 → (q_K S a0 = 5 ∧ (((x1 ≤ (q_I S 803 a0) → (∃ a4_ : Nat, (q_P S 804 a0) = some a4_ ∧ (q_K S a4_ = 21 ∧ (vp_in (x1 - (1 : Int32)) (q_N S a4_) ∧ (wb_X4_firstOf_24 S (q_A S a4_ (x1 - (1 : Int32)).toNatClampNeg) Q))))) ∧ (¬ x1 ≤ (q_I S 803 a0) → (wb_X4_firstOf_12 S Q)))))))
set_option maxHeartbeats 4000000 in
set_option maxRecDepth 100000 in
theorem cm_X4_firstOf {l : Launch} {D : va_G} {cy : Nat → ClassId} {lo : Nat} {S : q_S} {a0 : Nat} {x1 : Int32} {Q : Option Value → q_S → Prop} (h : wm_X4_firstOf S a0 x1 Q) : q_Met l D cy lo yX4_firstOf cX4_firstOf 2 (some .int) 0 0 0 0 [.ref a0, .int x1] S Q := by
  refine q_body (by decide) (by first | exact Nat.le_of_ble_eq_true rfl | simp [lg_sl, q_cat, q_catI, q_catJ, q_catR]) ?_
  intro p e s m below meth c ls X hnm Y hl
  have hx := X.1
  have hb := X.2.1
  have hl : lv_has ls 2 [(0, .ref a0), (1, .int x1)] := by first | exact hl | simpa [lv_args, q_cat, q_catI, q_catJ, q_catR] using hl
  generalize hargs : ([.ref a0, .int x1] : List Value).toArray = args at X ⊢
  unfold wm_X4_firstOf at h
  refine lv_iload_n hx hb dX4_firstOf_0 rfl (lv_at hl 1 rfl) ?_
  refine lv_if_le (tgt := 12) hx hb dX4_firstOf_1 (by decide) (fun c1_ => ?_) (fun c1_ => ?_)
  · replace h := h.1 c1_
    exact cb_X4_firstOf_12 X Y (lv_sub hl [] rfl) h
  · replace h := h.2 c1_
    refine lv_iload_n hx hb dX4_firstOf_4 rfl (lv_at hl 1 rfl) ?_
    refine lv_aload_n hx hb dX4_firstOf_5 rfl (lv_at hl 0 rfl) ?_
    obtain ⟨k2_, h⟩ := h
    refine q_getI X Y kX4 3 rfl fl_X4_34 k2_ dX4_firstOf_6 ?_
    refine lv_icmp_le (tgt := 16) hx hb dX4_firstOf_9 (by decide) (fun c3_ => ?_) (fun c3_ => ?_)
    · replace h := h.1 c3_
      refine lv_aload_n hx hb dX4_firstOf_16 rfl (lv_at hl 0 rfl) ?_
      refine q_getP X Y kX4 4 rfl fl_X4_18 k2_ rfl dX4_firstOf_17 ?_
      refine lv_iload_n hx hb dX4_firstOf_20 rfl (lv_at hl 1 rfl) ?_
      refine lv_iconst (v := 1) hx hb dX4_firstOf_21 (by decide) ?_
      refine lv_isub hx hb dX4_firstOf_22 ?_
      obtain ⟨a4_, e5_, h⟩ := h
      refine q_nn [.int (x1 - (1 : Int32))] e5_ ?_
      obtain ⟨k6_, h⟩ := h
      obtain ⟨i7_, h⟩ := h
      refine q_ild X Y k6_ i7_ dX4_firstOf_23 ?_
      exact cb_X4_firstOf_24 X Y (lv_sub hl [] rfl) h
    · replace h := h.2 c3_
      exact cb_X4_firstOf_12 X Y (lv_sub hl [] rfl) h
-- X4_hasWord
theorem dX4_hasWord_0 : decode cX4_hasWord 0 = .ok (.iload_n 1, 1) := by decide +kernel
theorem dX4_hasWord_1 : decode cX4_hasWord 1 = .ok (.ifCond .lt 21, 3) := by decide +kernel
theorem dX4_hasWord_4 : decode cX4_hasWord 4 = .ok (.iload_n 1, 1) := by decide +kernel
theorem dX4_hasWord_5 : decode cX4_hasWord 5 = .ok (.aload_n 0, 1) := by decide +kernel
theorem dX4_hasWord_6 : decode cX4_hasWord 6 = .ok (.getfield 30, 3) := by decide +kernel
theorem dX4_hasWord_9 : decode cX4_hasWord 9 = .ok (.if_icmp .ge 13, 3) := by decide +kernel
theorem dX4_hasWord_12 : decode cX4_hasWord 12 = .ok (.iload_n 1, 1) := by decide +kernel
theorem dX4_hasWord_13 : decode cX4_hasWord 13 = .ok (.iconst 3, 1) := by decide +kernel
theorem dX4_hasWord_14 : decode cX4_hasWord 14 = .ok (.iand, 1) := by decide +kernel
theorem dX4_hasWord_15 : decode cX4_hasWord 15 = .ok (.ifCond .ne 7, 3) := by decide +kernel
theorem dX4_hasWord_18 : decode cX4_hasWord 18 = .ok (.iconst 1, 1) := by decide +kernel
theorem dX4_hasWord_19 : decode cX4_hasWord 19 = .ok (.goto 4, 3) := by decide +kernel
theorem dX4_hasWord_22 : decode cX4_hasWord 22 = .ok (.iconst 0, 1) := by decide +kernel
theorem dX4_hasWord_23 : decode cX4_hasWord 23 = .ok (.ireturn, 1) := by decide +kernel
def wb_X4_hasWord_23  (S : q_S) (xs0 : Int32) (Q : Option Value → q_S → Prop) : Prop := (narrow .boolean (.int xs0) = .int xs0 ∧ Q (some (.int xs0)) S)
set_option maxHeartbeats 4000000 in
set_option maxRecDepth 100000 in
theorem cb_X4_hasWord_23 {p : Program} {l : Launch} {e : Env} {s : State} {m : MethodId} {args : Array Value} {below : List Frame} {meth : Method} {c : Code} {D : va_G} {cy : Nat → ClassId} {lo : Nat}  {S : q_S} {xs0 : Int32} {Q : Option Value → q_S → Prop} {H : Heap} {locs : List Loc} {ls : Array Slot} (X : q_X p s m args meth c RX4 cX4_hasWord 2 (some .boolean) D cy lo)  (Y : q_Y D cy lo s S H locs) (hl : lv_has ls 2 []) (h : wb_X4_hasWord_23 S xs0 Q) : W p l e ({ frames := 0, cells := 0, slots := 0, locals := 0 } : Room) s m args below meth c H locs 0 0 (MQ below (q_Q D cy lo Q) args s 0 0 (fun q => lo ≤ q)) (F0 m 23 ls [.int xs0]) := by
  have hx := X.1
  have hb := X.2.1
  unfold wb_X4_hasWord_23 at h
  exact q_iret X Y h.1 (Nat.le_refl _) (Nat.le_refl _) h.2 dX4_hasWord_23
def wb_X4_hasWord_22  (S : q_S) (Q : Option Value → q_S → Prop) : Prop := wb_X4_hasWord_23 S (0 : Int32) Q
set_option maxHeartbeats 4000000 in
set_option maxRecDepth 100000 in
theorem cb_X4_hasWord_22 {p : Program} {l : Launch} {e : Env} {s : State} {m : MethodId} {args : Array Value} {below : List Frame} {meth : Method} {c : Code} {D : va_G} {cy : Nat → ClassId} {lo : Nat}  {S : q_S} {Q : Option Value → q_S → Prop} {H : Heap} {locs : List Loc} {ls : Array Slot} (X : q_X p s m args meth c RX4 cX4_hasWord 2 (some .boolean) D cy lo)  (Y : q_Y D cy lo s S H locs) (hl : lv_has ls 2 []) (h : wb_X4_hasWord_22 S Q) : W p l e ({ frames := 0, cells := 0, slots := 0, locals := 0 } : Room) s m args below meth c H locs 0 0 (MQ below (q_Q D cy lo Q) args s 0 0 (fun q => lo ≤ q)) (F0 m 22 ls []) := by
  have hx := X.1
  have hb := X.2.1
  unfold wb_X4_hasWord_22 at h
  refine lv_iconst (v := 0) hx hb dX4_hasWord_22 (by decide) ?_
  exact cb_X4_hasWord_23 X Y (lv_sub hl [] rfl) h
def wm_X4_hasWord (S : q_S) (a0 : Nat) (x1 : Int32) (Q : Option Value → q_S → Prop) : Prop := ((x1 < 0 → (wb_X4_hasWord_22 S Q)) ∧ (¬ x1 < 0 → (q_K S a0 = 5 ∧ ((((q_I S 800 a0) ≤ x1 → (wb_X4_hasWord_22 S Q)) ∧ (¬ (q_I S 800 a0) ≤ x1 → (((¬ (x1 &&& (3 : Int32)) = 0 → (wb_X4_hasWord_22 S Q)) ∧ ((x1 &&& (3 : Int32)) = 0 → (wb_X4_hasWord_23 S (1 : Int32) Q))))))))))
set_option maxHeartbeats 4000000 in
set_option maxRecDepth 100000 in
theorem cm_X4_hasWord {l : Launch} {D : va_G} {cy : Nat → ClassId} {lo : Nat} {S : q_S} {a0 : Nat} {x1 : Int32} {Q : Option Value → q_S → Prop} (h : wm_X4_hasWord S a0 x1 Q) : q_Met l D cy lo yX4_hasWord cX4_hasWord 2 (some .boolean) 0 0 0 0 [.ref a0, .int x1] S Q := by
  refine q_body (by decide) (by first | exact Nat.le_of_ble_eq_true rfl | simp [lg_sl, q_cat, q_catI, q_catJ, q_catR]) ?_
  intro p e s m below meth c ls X hnm Y hl
  have hx := X.1
  have hb := X.2.1
  have hl : lv_has ls 2 [(0, .ref a0), (1, .int x1)] := by first | exact hl | simpa [lv_args, q_cat, q_catI, q_catJ, q_catR] using hl
  generalize hargs : ([.ref a0, .int x1] : List Value).toArray = args at X ⊢
  unfold wm_X4_hasWord at h
  refine lv_iload_n hx hb dX4_hasWord_0 rfl (lv_at hl 1 rfl) ?_
  refine lv_if_lt (tgt := 22) hx hb dX4_hasWord_1 (by decide) (fun c1_ => ?_) (fun c1_ => ?_)
  · replace h := h.1 c1_
    exact cb_X4_hasWord_22 X Y (lv_sub hl [] rfl) h
  · replace h := h.2 c1_
    refine lv_iload_n hx hb dX4_hasWord_4 rfl (lv_at hl 1 rfl) ?_
    refine lv_aload_n hx hb dX4_hasWord_5 rfl (lv_at hl 0 rfl) ?_
    obtain ⟨k2_, h⟩ := h
    refine q_getI X Y kX4 0 rfl fl_X4_30 k2_ dX4_hasWord_6 ?_
    refine lv_icmp_ge (tgt := 22) hx hb dX4_hasWord_9 (by decide) (fun c3_ => ?_) (fun c3_ => ?_)
    · replace h := h.1 c3_
      exact cb_X4_hasWord_22 X Y (lv_sub hl [] rfl) h
    · replace h := h.2 c3_
      refine lv_iload_n hx hb dX4_hasWord_12 rfl (lv_at hl 1 rfl) ?_
      refine lv_iconst (v := 3) hx hb dX4_hasWord_13 (by decide) ?_
      refine lv_iand hx hb dX4_hasWord_14 ?_
      refine lv_if_ne (tgt := 22) hx hb dX4_hasWord_15 (by decide) (fun c4_ => ?_) (fun c4_ => ?_)
      · replace h := h.1 c4_
        exact cb_X4_hasWord_22 X Y (lv_sub hl [] rfl) h
      · replace h := h.2 c4_
        refine lv_iconst (v := 1) hx hb dX4_hasWord_18 (by decide) ?_
        refine lv_goto (tgt := 23) hx hb dX4_hasWord_19 (by decide) ?_
        exact cb_X4_hasWord_23 X Y (lv_sub hl [] rfl) h
-- X5_init
theorem ml_X5_3 : Cond.methodLink RX5 3 Lib.objectInit ∈ q_G := q_tb (i := 650) (by decide +kernel) (by decide +kernel)
theorem cl_X5_9 : Cond.classLink RX5 9 RX4 ∈ q_G := q_tb (i := 651) (by decide +kernel) (by decide +kernel)
theorem ib_X4 : Cond.instantiable RX4 6 ∈ q_G := q_tb (i := 652) (by decide +kernel) (by decide +kernel)
theorem in_X4 : Cond.initialized RX4 ∈ q_G := q_tb (i := 21) (by decide +kernel) (by decide +kernel)
theorem dv_X4 : ∀ k, k < 6 → defaultValue (tyX4 k) = vp_V ((q_F 4).map (fun q => q_dv q.1)) k := by decide +kernel
theorem mn_X5_11 : Cond.methodLinkNest RX5 11 yX4_init "PartitionWorks" ∈ q_Nw := List.mem_filter.mpr ⟨List.mem_of_getElem? (i := 653) (by decide +kernel), rfl⟩
theorem mt_X4_init : q_Mt yX4_init cX4_init 1 none 0 := ⟨q_tb (i := 655) (by decide +kernel) (by decide +kernel), q_tb (i := 21) (by decide +kernel) (by decide +kernel), by decide +kernel, by decide +kernel, by decide +kernel⟩
theorem mj_X4_init : Cond.instanceMethod yX4_init ∈ q_G := q_tb (i := 654) (by decide +kernel) (by decide +kernel)
theorem cl_X5_18 : Cond.classLink RX5 18 RX7 ∈ q_G := q_tb (i := 685) (by decide +kernel) (by decide +kernel)
theorem cl_X5_24 : Cond.classLink RX5 24 RX10 ∈ q_G := q_tb (i := 687) (by decide +kernel) (by decide +kernel)
theorem fl_X5_34 : Cond.fieldLink RX5 34 "PartitionWorks$Partition" "actions" "[I" ∈ q_G := q_tb (i := 706) (by decide +kernel) (by decide +kernel)
theorem dX5_init_0 : decode cX5_init 0 = .ok (.aload_n 0, 1) := by decide +kernel
theorem dX5_init_1 : decode cX5_init 1 = .ok (.invokespecial 3, 3) := by decide +kernel
theorem dX5_init_4 : decode cX5_init 4 = .ok (.aload_n 0, 1) := by decide +kernel
theorem dX5_init_5 : decode cX5_init 5 = .ok (.new 9, 3) := by decide +kernel
theorem dX5_init_8 : decode cX5_init 8 = .ok (.dup, 1) := by decide +kernel
theorem dX5_init_9 : decode cX5_init 9 = .ok (.invokespecial 11, 3) := by decide +kernel
theorem dX5_init_12 : decode cX5_init 12 = .ok (.putfield 12, 3) := by decide +kernel
theorem dX5_init_15 : decode cX5_init 15 = .ok (.aload_n 0, 1) := by decide +kernel
theorem dX5_init_16 : decode cX5_init 16 = .ok (.bipush 16, 2) := by decide +kernel
theorem dX5_init_18 : decode cX5_init 18 = .ok (.anewarray 18, 3) := by decide +kernel
theorem dX5_init_21 : decode cX5_init 21 = .ok (.putfield 20, 3) := by decide +kernel
theorem dX5_init_24 : decode cX5_init 24 = .ok (.aload_n 0, 1) := by decide +kernel
theorem dX5_init_25 : decode cX5_init 25 = .ok (.bipush 48, 2) := by decide +kernel
theorem dX5_init_27 : decode cX5_init 27 = .ok (.anewarray 24, 3) := by decide +kernel
theorem dX5_init_30 : decode cX5_init 30 = .ok (.putfield 26, 3) := by decide +kernel
theorem dX5_init_33 : decode cX5_init 33 = .ok (.aload_n 0, 1) := by decide +kernel
theorem dX5_init_34 : decode cX5_init 34 = .ok (.iconst 5, 1) := by decide +kernel
theorem dX5_init_35 : decode cX5_init 35 = .ok (.newarray .int, 2) := by decide +kernel
theorem dX5_init_37 : decode cX5_init 37 = .ok (.putfield 30, 3) := by decide +kernel
theorem dX5_init_40 : decode cX5_init 40 = .ok (.aload_n 0, 1) := by decide +kernel
theorem dX5_init_41 : decode cX5_init 41 = .ok (.iconst 5, 1) := by decide +kernel
theorem dX5_init_42 : decode cX5_init 42 = .ok (.newarray .int, 2) := by decide +kernel
theorem dX5_init_44 : decode cX5_init 44 = .ok (.putfield 34, 3) := by decide +kernel
theorem dX5_init_47 : decode cX5_init 47 = .ok (.return_, 1) := by decide +kernel
def wm_X5_init (bc bs : Nat) (S : q_S) (a0 : Nat) (Q : Option Value → q_S → Prop) : Prop := (0 + 1 ≤ bc ∧ 0 + 6 ≤ bs) ∧ (∀ b1_ : Nat, q_K S b1_ = 0 → (∃ m8_ m9_ : Nat, ((0 + 1) + m8_ ≤ bc ∧ (0 + 6) + m9_ ≤ bs) ∧ (wm_X4_init m8_ m9_ (qs_O S 4 b1_) b1_ (fun r6_ S7_ => r6_ = none ∧ (q_K S7_ a0 = 6 ∧ ((((0 + 1) + m8_) + 1 ≤ bc ∧ ((0 + 6) + m9_) + 16 ≤ bs) ∧ (∀ b12_ : Nat, q_K (qs_P S7_ 1002 a0 (some b1_)) b12_ = 0 → (∀ S17_ : q_S, S17_ = (qs_P (qs_R (qs_P S7_ 1002 a0 (some b1_)) 26 16 b12_) 1003 a0 (some b12_)) → (((((0 + 1) + m8_) + 1) + 1 ≤ bc ∧ (((0 + 6) + m9_) + 16) + 48 ≤ bs) ∧ (∀ b18_ : Nat, q_K S17_ b18_ = 0 → ((((((0 + 1) + m8_) + 1) + 1) + 1 ≤ bc ∧ ((((0 + 6) + m9_) + 16) + 48) + 5 ≤ bs) ∧ (∀ b23_ : Nat, q_K (qs_P (qs_R S17_ 27 48 b18_) 1005 a0 (some b18_)) b23_ = 0 → (∀ S28_ : q_S, S28_ = (qs_R (qs_P (qs_R S17_ 27 48 b18_) 1005 a0 (some b18_)) 21 5 b23_) → (((((((0 + 1) + m8_) + 1) + 1) + 1) + 1 ≤ bc ∧ (((((0 + 6) + m9_) + 16) + 48) + 5) + 5 ≤ bs) ∧ (∀ b29_ : Nat, q_K (qs_P S28_ 1006 a0 (some b23_)) b29_ = 0 → (∀ S34_ : q_S, S34_ = (qs_P (qs_R (qs_P S28_ 1006 a0 (some b23_)) 21 5 b29_) 1007 a0 (some b29_)) → (Q none S34_)))))))))))))))))
set_option maxHeartbeats 4000000 in
set_option maxRecDepth 100000 in
theorem cm_X5_init {l : Launch} {D : va_G} {cy : Nat → ClassId} {lo : Nat} {bc bs : Nat} {S : q_S} {a0 : Nat} {Q : Option Value → q_S → Prop} (h : wm_X5_init bc bs S a0 Q) : q_Met l D cy lo yX5_init cX5_init 1 none 2 40 bc bs [.ref a0] S Q := by
  refine q_body (by decide) (by first | exact Nat.le_of_ble_eq_true rfl | simp [lg_sl, q_cat, q_catI, q_catJ, q_catR]) ?_
  intro p e s m below meth c ls X hnm Y hl
  have hx := X.1
  have hb := X.2.1
  have hl : lv_has ls 1 [(0, .ref a0)] := by first | exact hl | simpa [lv_args, q_cat, q_catI, q_catJ, q_catR] using hl
  generalize hargs : ([.ref a0] : List Value).toArray = args at X ⊢
  have hu : 0 ≤ bc ∧ 0 ≤ bs := ⟨Nat.zero_le _, Nat.zero_le _⟩
  unfold wm_X5_init at h
  refine lv_aload_n hx hb dX5_init_0 rfl (lv_at hl 0 rfl) ?_
  refine q_obj X hl ml_X5_3 oi_ oc_ ⟨Nat.le_of_ble_eq_true rfl, (by first | exact Nat.le_of_ble_eq_true rfl | simp [q_cat, q_catI, q_catJ, q_catR])⟩ dX5_init_1 ?_
  refine lv_aload_n hx hb dX5_init_4 rfl (lv_at hl 0 rfl) ?_
  obtain ⟨w4_, h⟩ := h
  refine q_new X Y kX4 tyX4 tyX4_ok dv_X4 cl_X5_9 ib_X4 in_X4 w4_ dX5_init_5 (fun b1_ H h2_ h3_ Y => ?_)
  replace h := h b1_ h2_
  replace hu := w4_
  have k5_ : q_K (qs_O S 4 b1_) b1_ = 5 := qs_O_Ks
  refine lv_dup hx hb dX5_init_8 rfl ?_
  obtain ⟨m8_, m9_, w10_, h⟩ := h
  refine q_callN X Y hl (cm_X4_init h) mt_X4_init mj_X4_init rfl mn_X5_11 rfl rfl (by first | exact Nat.le_of_ble_eq_true rfl | simp [q_cat, q_catI, q_catJ, q_catR]) ⟨Nat.le_of_ble_eq_true rfl, Nat.le_of_ble_eq_true rfl⟩ w10_ dX5_init_9 (fun r6_ S7_ H locs hp Y => ?_)
  obtain ⟨rfl, h⟩ := hp
  replace hu := w10_
  refine W.eq (g2 := F0 m 12 ls [.ref b1_, .ref a0]) rfl ?_
  obtain ⟨k11_, h⟩ := h
  refine q_putP X Y (some b1_) rfl kX5 2 rfl fl_X5_12 k11_ _ rfl (Or.inl ⟨_, rfl⟩) (Or.inr ⟨rfl, hnm, rfl⟩) dX5_init_12 (fun H locs Y => ?_)
  refine lv_aload_n hx hb dX5_init_15 rfl (lv_at hl 0 rfl) ?_
  refine lv_bipush (v := 16) hx hb dX5_init_16 (by decide) ?_
  obtain ⟨w15_, h⟩ := h
  refine q_newq X Y (k := 26) (t := 6) (n := 16) (by decide) rfl cl_X5_18 X.2.2.2.2.2.2.1.2.1.2.2.1 (by decide) (by decide) w15_ dX5_init_18 (fun b12_ H h13_ h14_ Y => ?_)
  replace h := h b12_ h13_
  replace hu := w15_
  replace k11_ := qs_R_keep (j := 26) (n := 16) h13_ k11_ (by decide)
  have k16_ : q_K (qs_R (qs_P S7_ 1002 a0 (some b1_)) 26 16 b12_) b12_ = 26 := qs_R_Ks
  refine q_putP X Y (some b12_) rfl kX5 3 rfl fl_X5_20 k11_ _ rfl (Or.inr ⟨_, rfl⟩) (Or.inr ⟨rfl, hnm, rfl⟩) dX5_init_21 (fun H locs Y => ?_)
  obtain ⟨S17_, gS17_⟩ : ∃ z : q_S, z = (qs_P (qs_R (qs_P S7_ 1002 a0 (some b1_)) 26 16 b12_) 1003 a0 (some b12_)) := ⟨_, rfl⟩
  replace Y : q_Y D cy lo s S17_ H locs := by rw [gS17_]; exact Y
  replace h := h S17_ gS17_
  replace k11_ : q_K S17_ a0 = 6 := by rw [gS17_]; exact k11_
  replace k16_ : q_K S17_ b12_ = 26 := by rw [gS17_]; exact k16_
  refine lv_aload_n hx hb dX5_init_24 rfl (lv_at hl 0 rfl) ?_
  refine lv_bipush (v := 48) hx hb dX5_init_25 (by decide) ?_
  obtain ⟨w21_, h⟩ := h
  refine q_newq X Y (k := 27) (t := 7) (n := 48) (by decide) rfl cl_X5_24 X.2.2.2.2.2.2.1.2.1.2.2.2 (by decide) (by decide) w21_ dX5_init_27 (fun b18_ H h19_ h20_ Y => ?_)
  replace h := h b18_ h19_
  replace hu := w21_
  replace k11_ := qs_R_keep (j := 27) (n := 48) h19_ k11_ (by decide)
  replace k16_ := qs_R_keep (j := 27) (n := 48) h19_ k16_ (by decide)
  have k22_ : q_K (qs_R S17_ 27 48 b18_) b18_ = 27 := qs_R_Ks
  refine q_putP X Y (some b18_) rfl kX5 5 rfl fl_X5_26 k11_ _ rfl (Or.inr ⟨_, rfl⟩) (Or.inr ⟨rfl, hnm, rfl⟩) dX5_init_30 (fun H locs Y => ?_)
  refine lv_aload_n hx hb dX5_init_33 rfl (lv_at hl 0 rfl) ?_
  refine lv_iconst (v := 5) hx hb dX5_init_34 (by decide) ?_
  obtain ⟨w26_, h⟩ := h
  refine q_newa X Y (k := 21) (t := 1) (n := 5) (ty := .int) rfl (by decide) rfl (fun _ _ => rfl) (by first | exact rfl | decide | simp [defaultValue]) ar_int (by decide) (by decide) (by decide) w26_ dX5_init_35 (fun b23_ H h24_ h25_ Y => ?_)
  replace h := h b23_ h24_
  replace hu := w26_
  replace k11_ := qs_R_keep (j := 21) (n := 5) h24_ k11_ (by decide)
  replace k16_ := qs_R_keep (j := 21) (n := 5) h24_ k16_ (by decide)
  replace k22_ := qs_R_keep (j := 21) (n := 5) h24_ k22_ (by decide)
  have k27_ : q_K (qs_R (qs_P (qs_R S17_ 27 48 b18_) 1005 a0 (some b18_)) 21 5 b23_) b23_ = 21 := qs_R_Ks
  obtain ⟨S28_, gS28_⟩ : ∃ z : q_S, z = (qs_R (qs_P (qs_R S17_ 27 48 b18_) 1005 a0 (some b18_)) 21 5 b23_) := ⟨_, rfl⟩
  replace Y : q_Y D cy lo s S28_ H locs := by rw [gS28_]; exact Y
  replace h := h S28_ gS28_
  replace k11_ : q_K S28_ a0 = 6 := by rw [gS28_]; exact k11_
  replace k16_ : q_K S28_ b12_ = 26 := by rw [gS28_]; exact k16_
  replace k22_ : q_K S28_ b18_ = 27 := by rw [gS28_]; exact k22_
  replace k27_ : q_K S28_ b23_ = 21 := by rw [gS28_]; exact k27_
  refine q_putP X Y (some b23_) rfl kX5 6 rfl fl_X5_30 k11_ _ rfl (Or.inr ⟨_, rfl⟩) (Or.inr ⟨rfl, hnm, rfl⟩) dX5_init_37 (fun H locs Y => ?_)
  refine lv_aload_n hx hb dX5_init_40 rfl (lv_at hl 0 rfl) ?_
  refine lv_iconst (v := 5) hx hb dX5_init_41 (by decide) ?_
  obtain ⟨w32_, h⟩ := h
  refine q_newa X Y (k := 21) (t := 1) (n := 5) (ty := .int) rfl (by decide) rfl (fun _ _ => rfl) (by first | exact rfl | decide | simp [defaultValue]) ar_int (by decide) (by decide) (by decide) w32_ dX5_init_42 (fun b29_ H h30_ h31_ Y => ?_)
  replace h := h b29_ h30_
  replace hu := w32_
  replace k11_ := qs_R_keep (j := 21) (n := 5) h30_ k11_ (by decide)
  replace k16_ := qs_R_keep (j := 21) (n := 5) h30_ k16_ (by decide)
  replace k22_ := qs_R_keep (j := 21) (n := 5) h30_ k22_ (by decide)
  replace k27_ := qs_R_keep (j := 21) (n := 5) h30_ k27_ (by decide)
  have k33_ : q_K (qs_R (qs_P S28_ 1006 a0 (some b23_)) 21 5 b29_) b29_ = 21 := qs_R_Ks
  refine q_putP X Y (some b29_) rfl kX5 7 rfl fl_X5_34 k11_ _ rfl (Or.inr ⟨_, rfl⟩) (Or.inr ⟨rfl, hnm, rfl⟩) dX5_init_44 (fun H locs Y => ?_)
  obtain ⟨S34_, gS34_⟩ : ∃ z : q_S, z = (qs_P (qs_R (qs_P S28_ 1006 a0 (some b23_)) 21 5 b29_) 1007 a0 (some b29_)) := ⟨_, rfl⟩
  replace Y : q_Y D cy lo s S34_ H locs := by rw [gS34_]; exact Y
  replace h := h S34_ gS34_
  replace k11_ : q_K S34_ a0 = 6 := by rw [gS34_]; exact k11_
  replace k16_ : q_K S34_ b12_ = 26 := by rw [gS34_]; exact k16_
  replace k22_ : q_K S34_ b18_ = 27 := by rw [gS34_]; exact k22_
  replace k27_ : q_K S34_ b23_ = 21 := by rw [gS34_]; exact k27_
  replace k33_ : q_K S34_ b29_ = 21 := by rw [gS34_]; exact k33_
  exact q_vret X Y hu.1 hu.2 h dX5_init_47
-- X5_reset
theorem fl_X5_37 : Cond.fieldLink RX5 37 "PartitionWorks$Partition" "number" "I" ∈ q_G := q_tb (i := 689) (by decide +kernel) (by decide +kernel)
theorem fl_X5_41 : Cond.fieldLink RX5 41 "PartitionWorks$Partition" "name" "J" ∈ q_G := q_tb (i := 693) (by decide +kernel) (by decide +kernel)
theorem ml_X5_48 : Cond.methodLink RX5 48 yJ7_fill_53178 ∈ q_G := q_tb (i := 773) (by decide +kernel) (by decide +kernel)
theorem fl_X5_54 : Cond.fieldLink RX5 54 "PartitionWorks$Partition" "handler" "I" ∈ q_G := q_tb (i := 707) (by decide +kernel) (by decide +kernel)
theorem fl_X5_66 : Cond.fieldLink RX5 66 "PartitionWorks$Partition" "done" "I" ∈ q_G := q_tb (i := 716) (by decide +kernel) (by decide +kernel)
theorem dX5_reset_0 : decode cX5_reset 0 = .ok (.aload_n 0, 1) := by decide +kernel
theorem dX5_reset_1 : decode cX5_reset 1 = .ok (.iload_n 1, 1) := by decide +kernel
theorem dX5_reset_2 : decode cX5_reset 2 = .ok (.putfield 37, 3) := by decide +kernel
theorem dX5_reset_5 : decode cX5_reset 5 = .ok (.aload_n 0, 1) := by decide +kernel
theorem dX5_reset_6 : decode cX5_reset 6 = .ok (.lload_n 2, 1) := by decide +kernel
theorem dX5_reset_7 : decode cX5_reset 7 = .ok (.putfield 41, 3) := by decide +kernel
theorem dX5_reset_10 : decode cX5_reset 10 = .ok (.aload_n 0, 1) := by decide +kernel
theorem dX5_reset_11 : decode cX5_reset 11 = .ok (.iconst 0, 1) := by decide +kernel
theorem dX5_reset_12 : decode cX5_reset 12 = .ok (.putfield 45, 3) := by decide +kernel
theorem dX5_reset_15 : decode cX5_reset 15 = .ok (.aload_n 0, 1) := by decide +kernel
theorem dX5_reset_16 : decode cX5_reset 16 = .ok (.getfield 30, 3) := by decide +kernel
theorem dX5_reset_19 : decode cX5_reset 19 = .ok (.iconst 0, 1) := by decide +kernel
theorem dX5_reset_20 : decode cX5_reset 20 = .ok (.invokestatic 48, 3) := by decide +kernel
theorem dX5_reset_23 : decode cX5_reset 23 = .ok (.aload_n 0, 1) := by decide +kernel
theorem dX5_reset_24 : decode cX5_reset 24 = .ok (.getfield 34, 3) := by decide +kernel
theorem dX5_reset_27 : decode cX5_reset 27 = .ok (.iconst 0, 1) := by decide +kernel
theorem dX5_reset_28 : decode cX5_reset 28 = .ok (.invokestatic 48, 3) := by decide +kernel
theorem dX5_reset_31 : decode cX5_reset 31 = .ok (.aload_n 0, 1) := by decide +kernel
theorem dX5_reset_32 : decode cX5_reset 32 = .ok (.iconst (-1), 1) := by decide +kernel
theorem dX5_reset_33 : decode cX5_reset 33 = .ok (.putfield 54, 3) := by decide +kernel
theorem dX5_reset_36 : decode cX5_reset 36 = .ok (.aload_n 0, 1) := by decide +kernel
theorem dX5_reset_37 : decode cX5_reset 37 = .ok (.iconst 0, 1) := by decide +kernel
theorem dX5_reset_38 : decode cX5_reset 38 = .ok (.putfield 57, 3) := by decide +kernel
theorem dX5_reset_41 : decode cX5_reset 41 = .ok (.aload_n 0, 1) := by decide +kernel
theorem dX5_reset_42 : decode cX5_reset 42 = .ok (.iconst (-1), 1) := by decide +kernel
theorem dX5_reset_43 : decode cX5_reset 43 = .ok (.putfield 60, 3) := by decide +kernel
theorem dX5_reset_46 : decode cX5_reset 46 = .ok (.aload_n 0, 1) := by decide +kernel
theorem dX5_reset_47 : decode cX5_reset 47 = .ok (.iconst 0, 1) := by decide +kernel
theorem dX5_reset_48 : decode cX5_reset 48 = .ok (.putfield 63, 3) := by decide +kernel
theorem dX5_reset_51 : decode cX5_reset 51 = .ok (.aload_n 0, 1) := by decide +kernel
theorem dX5_reset_52 : decode cX5_reset 52 = .ok (.iconst 0, 1) := by decide +kernel
theorem dX5_reset_53 : decode cX5_reset 53 = .ok (.putfield 66, 3) := by decide +kernel
theorem dX5_reset_56 : decode cX5_reset 56 = .ok (.aload_n 0, 1) := by decide +kernel
theorem dX5_reset_57 : decode cX5_reset 57 = .ok (.iconst 0, 1) := by decide +kernel
theorem dX5_reset_58 : decode cX5_reset 58 = .ok (.putfield 69, 3) := by decide +kernel
theorem dX5_reset_61 : decode cX5_reset 61 = .ok (.aload_n 0, 1) := by decide +kernel
theorem dX5_reset_62 : decode cX5_reset 62 = .ok (.iconst (-1), 1) := by decide +kernel
theorem dX5_reset_63 : decode cX5_reset 63 = .ok (.putfield 72, 3) := by decide +kernel
theorem dX5_reset_66 : decode cX5_reset 66 = .ok (.aload_n 0, 1) := by decide +kernel
theorem dX5_reset_67 : decode cX5_reset 67 = .ok (.iconst 0, 1) := by decide +kernel
theorem dX5_reset_68 : decode cX5_reset 68 = .ok (.putfield 75, 3) := by decide +kernel
theorem dX5_reset_71 : decode cX5_reset 71 = .ok (.aload_n 0, 1) := by decide +kernel
theorem dX5_reset_72 : decode cX5_reset 72 = .ok (.iconst (-1), 1) := by decide +kernel
theorem dX5_reset_73 : decode cX5_reset 73 = .ok (.putfield 78, 3) := by decide +kernel
theorem dX5_reset_76 : decode cX5_reset 76 = .ok (.return_, 1) := by decide +kernel
def wm_X5_reset (S : q_S) (a0 : Nat) (x1 : Int32) (z2 : Int64) (Q : Option Value → q_S → Prop) : Prop := q_K S a0 = 6 ∧ (∀ S2_ : q_S, S2_ = (qs_I (qs_J (qs_I S 1000 a0 x1) 1001 a0 z2) 1004 a0 (0 : Int32)) → (wm_J7_fill_53178 S2_ (q_P S2_ 1006 a0) (0 : Int32) (fun r3_ S4_ => r3_ = none ∧ (q_K S4_ a0 = 6 ∧ (wm_J7_fill_53178 S4_ (q_P S4_ 1007 a0) (0 : Int32) (fun r6_ S7_ => r6_ = none ∧ (q_K S7_ a0 = 6 ∧ (∀ S9_ : q_S, S9_ = (qs_I (qs_I (qs_I S7_ 1008 a0 (-1 : Int32)) 1009 a0 (0 : Int32)) 1010 a0 (-1 : Int32)) → (∀ S10_ : q_S, S10_ = (qs_I (qs_I (qs_I S9_ 1011 a0 (0 : Int32)) 1012 a0 (0 : Int32)) 1013 a0 (0 : Int32)) → (∀ S11_ : q_S, S11_ = (qs_I (qs_I (qs_I S10_ 1014 a0 (-1 : Int32)) 1015 a0 (0 : Int32)) 1016 a0 (-1 : Int32)) → (Q none S11_)))))))))))
set_option maxHeartbeats 4000000 in
set_option maxRecDepth 100000 in
theorem cm_X5_reset {l : Launch} {D : va_G} {cy : Nat → ClassId} {lo : Nat} {S : q_S} {a0 : Nat} {x1 : Int32} {z2 : Int64} {Q : Option Value → q_S → Prop} (h : wm_X5_reset S a0 x1 z2 Q) : q_Met l D cy lo yX5_reset cX5_reset 4 none 1 23 0 0 [.ref a0, .int x1, .long z2] S Q := by
  refine q_body (by decide) (by first | exact Nat.le_of_ble_eq_true rfl | simp [lg_sl, q_cat, q_catI, q_catJ, q_catR]) ?_
  intro p e s m below meth c ls X hnm Y hl
  have hx := X.1
  have hb := X.2.1
  have hl : lv_has ls 4 [(0, .ref a0), (1, .int x1), (2, .long z2)] := by first | exact hl | simpa [lv_args, q_cat, q_catI, q_catJ, q_catR] using hl
  generalize hargs : ([.ref a0, .int x1, .long z2] : List Value).toArray = args at X ⊢
  unfold wm_X5_reset at h
  refine lv_aload_n hx hb dX5_reset_0 rfl (lv_at hl 0 rfl) ?_
  refine lv_iload_n hx hb dX5_reset_1 rfl (lv_at hl 1 rfl) ?_
  obtain ⟨k1_, h⟩ := h
  refine q_putI X Y kX5 0 rfl fl_X5_37 k1_ .int rfl ⟨rfl, rfl⟩ rfl dX5_reset_2 (fun H locs Y => ?_)
  refine lv_aload_n hx hb dX5_reset_5 rfl (lv_at hl 0 rfl) ?_
  refine lv_lload_n hx hb dX5_reset_6 rfl (lv_at hl 2 rfl) ?_
  refine q_putJ X Y kX5 1 rfl fl_X5_41 k1_ rfl rfl dX5_reset_7 (fun H locs Y => ?_)
  refine lv_aload_n hx hb dX5_reset_10 rfl (lv_at hl 0 rfl) ?_
  refine lv_iconst (v := 0) hx hb dX5_reset_11 (by decide) ?_
  refine q_putI X Y kX5 4 rfl fl_X5_45 k1_ .int rfl ⟨rfl, rfl⟩ rfl dX5_reset_12 (fun H locs Y => ?_)
  obtain ⟨S2_, gS2_⟩ : ∃ z : q_S, z = (qs_I (qs_J (qs_I S 1000 a0 x1) 1001 a0 z2) 1004 a0 (0 : Int32)) := ⟨_, rfl⟩
  replace Y : q_Y D cy lo s S2_ H locs := by rw [gS2_]; exact Y
  replace h := h S2_ gS2_
  replace k1_ : q_K S2_ a0 = 6 := by rw [gS2_]; exact k1_
  refine lv_aload_n hx hb dX5_reset_15 rfl (lv_at hl 0 rfl) ?_
  refine q_getP X Y kX5 6 rfl fl_X5_30 k1_ rfl dX5_reset_16 ?_
  refine lv_iconst (v := 0) hx hb dX5_reset_19 (by decide) ?_
  refine q_callS X Y hl (cm_J7_fill_53178 h) mt_J7_fill_53178 ms_J7_fill_53178 ml_X5_48 rfl rfl (by first | exact Nat.le_of_ble_eq_true rfl | simp [q_cat, q_catI, q_catJ, q_catR]) ⟨Nat.le_of_ble_eq_true rfl, Nat.le_of_ble_eq_true rfl⟩ ⟨Nat.le_of_ble_eq_true rfl, Nat.le_of_ble_eq_true rfl⟩ dX5_reset_20 (fun r3_ S4_ H locs hp Y => ?_)
  obtain ⟨rfl, h⟩ := hp
  refine W.eq (g2 := F0 m 23 ls []) rfl ?_
  refine lv_aload_n hx hb dX5_reset_23 rfl (lv_at hl 0 rfl) ?_
  obtain ⟨k5_, h⟩ := h
  refine q_getP X Y kX5 7 rfl fl_X5_34 k5_ rfl dX5_reset_24 ?_
  refine lv_iconst (v := 0) hx hb dX5_reset_27 (by decide) ?_
  refine q_callS X Y hl (cm_J7_fill_53178 h) mt_J7_fill_53178 ms_J7_fill_53178 ml_X5_48 rfl rfl (by first | exact Nat.le_of_ble_eq_true rfl | simp [q_cat, q_catI, q_catJ, q_catR]) ⟨Nat.le_of_ble_eq_true rfl, Nat.le_of_ble_eq_true rfl⟩ ⟨Nat.le_of_ble_eq_true rfl, Nat.le_of_ble_eq_true rfl⟩ dX5_reset_28 (fun r6_ S7_ H locs hp Y => ?_)
  obtain ⟨rfl, h⟩ := hp
  refine W.eq (g2 := F0 m 31 ls []) rfl ?_
  refine lv_aload_n hx hb dX5_reset_31 rfl (lv_at hl 0 rfl) ?_
  refine lv_iconst (v := (-1)) hx hb dX5_reset_32 (by decide) ?_
  obtain ⟨k8_, h⟩ := h
  refine q_putI X Y kX5 8 rfl fl_X5_54 k8_ .int rfl ⟨rfl, rfl⟩ rfl dX5_reset_33 (fun H locs Y => ?_)
  refine lv_aload_n hx hb dX5_reset_36 rfl (lv_at hl 0 rfl) ?_
  refine lv_iconst (v := 0) hx hb dX5_reset_37 (by decide) ?_
  refine q_putI X Y kX5 9 rfl fl_X5_57 k8_ .int rfl ⟨rfl, rfl⟩ rfl dX5_reset_38 (fun H locs Y => ?_)
  refine lv_aload_n hx hb dX5_reset_41 rfl (lv_at hl 0 rfl) ?_
  refine lv_iconst (v := (-1)) hx hb dX5_reset_42 (by decide) ?_
  refine q_putI X Y kX5 10 rfl fl_X5_60 k8_ .int rfl ⟨rfl, rfl⟩ rfl dX5_reset_43 (fun H locs Y => ?_)
  obtain ⟨S9_, gS9_⟩ : ∃ z : q_S, z = (qs_I (qs_I (qs_I S7_ 1008 a0 (-1 : Int32)) 1009 a0 (0 : Int32)) 1010 a0 (-1 : Int32)) := ⟨_, rfl⟩
  replace Y : q_Y D cy lo s S9_ H locs := by rw [gS9_]; exact Y
  replace h := h S9_ gS9_
  replace k8_ : q_K S9_ a0 = 6 := by rw [gS9_]; exact k8_
  refine lv_aload_n hx hb dX5_reset_46 rfl (lv_at hl 0 rfl) ?_
  refine lv_iconst (v := 0) hx hb dX5_reset_47 (by decide) ?_
  refine q_putI X Y kX5 11 rfl fl_X5_63 k8_ .int rfl ⟨rfl, rfl⟩ rfl dX5_reset_48 (fun H locs Y => ?_)
  refine lv_aload_n hx hb dX5_reset_51 rfl (lv_at hl 0 rfl) ?_
  refine lv_iconst (v := 0) hx hb dX5_reset_52 (by decide) ?_
  refine q_putI X Y kX5 12 rfl fl_X5_66 k8_ .int rfl ⟨rfl, rfl⟩ rfl dX5_reset_53 (fun H locs Y => ?_)
  refine lv_aload_n hx hb dX5_reset_56 rfl (lv_at hl 0 rfl) ?_
  refine lv_iconst (v := 0) hx hb dX5_reset_57 (by decide) ?_
  refine q_putI X Y kX5 13 rfl fl_X5_69 k8_ .int rfl ⟨rfl, rfl⟩ rfl dX5_reset_58 (fun H locs Y => ?_)
  obtain ⟨S10_, gS10_⟩ : ∃ z : q_S, z = (qs_I (qs_I (qs_I S9_ 1011 a0 (0 : Int32)) 1012 a0 (0 : Int32)) 1013 a0 (0 : Int32)) := ⟨_, rfl⟩
  replace Y : q_Y D cy lo s S10_ H locs := by rw [gS10_]; exact Y
  replace h := h S10_ gS10_
  replace k8_ : q_K S10_ a0 = 6 := by rw [gS10_]; exact k8_
  refine lv_aload_n hx hb dX5_reset_61 rfl (lv_at hl 0 rfl) ?_
  refine lv_iconst (v := (-1)) hx hb dX5_reset_62 (by decide) ?_
  refine q_putI X Y kX5 14 rfl fl_X5_72 k8_ .int rfl ⟨rfl, rfl⟩ rfl dX5_reset_63 (fun H locs Y => ?_)
  refine lv_aload_n hx hb dX5_reset_66 rfl (lv_at hl 0 rfl) ?_
  refine lv_iconst (v := 0) hx hb dX5_reset_67 (by decide) ?_
  refine q_putI X Y kX5 15 rfl fl_X5_75 k8_ .int rfl ⟨rfl, rfl⟩ rfl dX5_reset_68 (fun H locs Y => ?_)
  refine lv_aload_n hx hb dX5_reset_71 rfl (lv_at hl 0 rfl) ?_
  refine lv_iconst (v := (-1)) hx hb dX5_reset_72 (by decide) ?_
  refine q_putI X Y kX5 16 rfl fl_X5_78 k8_ .int rfl ⟨rfl, rfl⟩ rfl dX5_reset_73 (fun H locs Y => ?_)
  obtain ⟨S11_, gS11_⟩ : ∃ z : q_S, z = (qs_I (qs_I (qs_I S10_ 1014 a0 (-1 : Int32)) 1015 a0 (0 : Int32)) 1016 a0 (-1 : Int32)) := ⟨_, rfl⟩
  replace Y : q_Y D cy lo s S11_ H locs := by rw [gS11_]; exact Y
  replace h := h S11_ gS11_
  replace k8_ : q_K S11_ a0 = 6 := by rw [gS11_]; exact k8_
  exact q_vret X Y (Nat.le_refl _) (Nat.le_refl _) h dX5_reset_76
-- X5_isFull
theorem dX5_isFull_0 : decode cX5_isFull 0 = .ok (.iload_n 1, 1) := by decide +kernel
theorem dX5_isFull_1 : decode cX5_isFull 1 = .ok (.iconst 5, 1) := by decide +kernel
theorem dX5_isFull_2 : decode cX5_isFull 2 = .ok (.if_icmp .ne 18, 3) := by decide +kernel
theorem dX5_isFull_5 : decode cX5_isFull 5 = .ok (.aload_n 0, 1) := by decide +kernel
theorem dX5_isFull_6 : decode cX5_isFull 6 = .ok (.getfield 45, 3) := by decide +kernel
theorem dX5_isFull_9 : decode cX5_isFull 9 = .ok (.bipush 16, 2) := by decide +kernel
theorem dX5_isFull_11 : decode cX5_isFull 11 = .ok (.if_icmp .lt 7, 3) := by decide +kernel
theorem dX5_isFull_14 : decode cX5_isFull 14 = .ok (.iconst 1, 1) := by decide +kernel
theorem dX5_isFull_15 : decode cX5_isFull 15 = .ok (.goto 4, 3) := by decide +kernel
theorem dX5_isFull_18 : decode cX5_isFull 18 = .ok (.iconst 0, 1) := by decide +kernel
theorem dX5_isFull_19 : decode cX5_isFull 19 = .ok (.ireturn, 1) := by decide +kernel
theorem dX5_isFull_20 : decode cX5_isFull 20 = .ok (.aload_n 0, 1) := by decide +kernel
theorem dX5_isFull_21 : decode cX5_isFull 21 = .ok (.getfield 30, 3) := by decide +kernel
theorem dX5_isFull_24 : decode cX5_isFull 24 = .ok (.iload_n 1, 1) := by decide +kernel
theorem dX5_isFull_25 : decode cX5_isFull 25 = .ok (.iaload, 1) := by decide +kernel
theorem dX5_isFull_26 : decode cX5_isFull 26 = .ok (.iload_n 1, 1) := by decide +kernel
theorem dX5_isFull_27 : decode cX5_isFull 27 = .ok (.iconst 4, 1) := by decide +kernel
theorem dX5_isFull_28 : decode cX5_isFull 28 = .ok (.if_icmp .ne 8, 3) := by decide +kernel
theorem dX5_isFull_31 : decode cX5_isFull 31 = .ok (.bipush 16, 2) := by decide +kernel
theorem dX5_isFull_33 : decode cX5_isFull 33 = .ok (.goto 5, 3) := by decide +kernel
theorem dX5_isFull_36 : decode cX5_isFull 36 = .ok (.bipush 8, 2) := by decide +kernel
theorem dX5_isFull_38 : decode cX5_isFull 38 = .ok (.if_icmp .lt 7, 3) := by decide +kernel
theorem dX5_isFull_41 : decode cX5_isFull 41 = .ok (.iconst 1, 1) := by decide +kernel
theorem dX5_isFull_42 : decode cX5_isFull 42 = .ok (.goto 4, 3) := by decide +kernel
theorem dX5_isFull_45 : decode cX5_isFull 45 = .ok (.iconst 0, 1) := by decide +kernel
theorem dX5_isFull_46 : decode cX5_isFull 46 = .ok (.ireturn, 1) := by decide +kernel
def wb_X5_isFull_19  (S : q_S) (xs0 : Int32) (Q : Option Value → q_S → Prop) : Prop := (narrow .boolean (.int xs0) = .int xs0 ∧ Q (some (.int xs0)) S)
set_option maxHeartbeats 4000000 in
set_option maxRecDepth 100000 in
theorem cb_X5_isFull_19 {p : Program} {l : Launch} {e : Env} {s : State} {m : MethodId} {args : Array Value} {below : List Frame} {meth : Method} {c : Code} {D : va_G} {cy : Nat → ClassId} {lo : Nat}  {S : q_S} {xs0 : Int32} {Q : Option Value → q_S → Prop} {H : Heap} {locs : List Loc} {ls : Array Slot} (X : q_X p s m args meth c RX5 cX5_isFull 2 (some .boolean) D cy lo)  (Y : q_Y D cy lo s S H locs) (hl : lv_has ls 2 []) (h : wb_X5_isFull_19 S xs0 Q) : W p l e ({ frames := 0, cells := 0, slots := 0, locals := 0 } : Room) s m args below meth c H locs 0 0 (MQ below (q_Q D cy lo Q) args s 0 0 (fun q => lo ≤ q)) (F0 m 19 ls [.int xs0]) := by
  have hx := X.1
  have hb := X.2.1
  unfold wb_X5_isFull_19 at h
  exact q_iret X Y h.1 (Nat.le_refl _) (Nat.le_refl _) h.2 dX5_isFull_19
def wb_X5_isFull_46  (S : q_S) (xs0 : Int32) (Q : Option Value → q_S → Prop) : Prop := (narrow .boolean (.int xs0) = .int xs0 ∧ Q (some (.int xs0)) S)
set_option maxHeartbeats 4000000 in
set_option maxRecDepth 100000 in
theorem cb_X5_isFull_46 {p : Program} {l : Launch} {e : Env} {s : State} {m : MethodId} {args : Array Value} {below : List Frame} {meth : Method} {c : Code} {D : va_G} {cy : Nat → ClassId} {lo : Nat}  {S : q_S} {xs0 : Int32} {Q : Option Value → q_S → Prop} {H : Heap} {locs : List Loc} {ls : Array Slot} (X : q_X p s m args meth c RX5 cX5_isFull 2 (some .boolean) D cy lo)  (Y : q_Y D cy lo s S H locs) (hl : lv_has ls 2 []) (h : wb_X5_isFull_46 S xs0 Q) : W p l e ({ frames := 0, cells := 0, slots := 0, locals := 0 } : Room) s m args below meth c H locs 0 0 (MQ below (q_Q D cy lo Q) args s 0 0 (fun q => lo ≤ q)) (F0 m 46 ls [.int xs0]) := by
  have hx := X.1
  have hb := X.2.1
  unfold wb_X5_isFull_46 at h
  exact q_iret X Y h.1 (Nat.le_refl _) (Nat.le_refl _) h.2 dX5_isFull_46
def wb_X5_isFull_38  (S : q_S) (xs0 : Int32) (xs1 : Int32) (Q : Option Value → q_S → Prop) : Prop := ((xs0 < xs1 → (wb_X5_isFull_46 S (0 : Int32) Q)) ∧ (¬ xs0 < xs1 → (wb_X5_isFull_46 S (1 : Int32) Q)))
set_option maxHeartbeats 4000000 in
set_option maxRecDepth 100000 in
theorem cb_X5_isFull_38 {p : Program} {l : Launch} {e : Env} {s : State} {m : MethodId} {args : Array Value} {below : List Frame} {meth : Method} {c : Code} {D : va_G} {cy : Nat → ClassId} {lo : Nat}  {S : q_S} {xs0 : Int32} {xs1 : Int32} {Q : Option Value → q_S → Prop} {H : Heap} {locs : List Loc} {ls : Array Slot} (X : q_X p s m args meth c RX5 cX5_isFull 2 (some .boolean) D cy lo)  (Y : q_Y D cy lo s S H locs) (hl : lv_has ls 2 []) (h : wb_X5_isFull_38 S xs0 xs1 Q) : W p l e ({ frames := 0, cells := 0, slots := 0, locals := 0 } : Room) s m args below meth c H locs 0 0 (MQ below (q_Q D cy lo Q) args s 0 0 (fun q => lo ≤ q)) (F0 m 38 ls [.int xs1, .int xs0]) := by
  have hx := X.1
  have hb := X.2.1
  unfold wb_X5_isFull_38 at h
  refine lv_icmp_lt (tgt := 45) hx hb dX5_isFull_38 (by decide) (fun c1_ => ?_) (fun c1_ => ?_)
  · replace h := h.1 c1_
    refine lv_iconst (v := 0) hx hb dX5_isFull_45 (by decide) ?_
    exact cb_X5_isFull_46 X Y (lv_sub hl [] rfl) h
  · replace h := h.2 c1_
    refine lv_iconst (v := 1) hx hb dX5_isFull_41 (by decide) ?_
    refine lv_goto (tgt := 46) hx hb dX5_isFull_42 (by decide) ?_
    exact cb_X5_isFull_46 X Y (lv_sub hl [] rfl) h
def wm_X5_isFull (S : q_S) (a0 : Nat) (x1 : Int32) (Q : Option Value → q_S → Prop) : Prop := ((¬ x1 = (5 : Int32) → (q_K S a0 = 6 ∧ (∃ a4_ : Nat, (q_P S 1006 a0) = some a4_ ∧ (q_K S a4_ = 21 ∧ (vp_in x1 (q_N S a4_) ∧ (((¬ x1 = (4 : Int32) → (wb_X5_isFull_38 S (q_A S a4_ x1.toNatClampNeg) (8 : Int32) Q)) ∧ (x1 = (4 : Int32) → (wb_X5_isFull_38 S (q_A S a4_ x1.toNatClampNeg) (16 : Int32) Q))))))))) ∧ (x1 = (5 : Int32) → (q_K S a0 = 6 ∧ ((((q_I S 1004 a0) < (16 : Int32) → (wb_X5_isFull_19 S (0 : Int32) Q)) ∧ (¬ (q_I S 1004 a0) < (16 : Int32) → (wb_X5_isFull_19 S (1 : Int32) Q)))))))
set_option maxHeartbeats 4000000 in
set_option maxRecDepth 100000 in
theorem cm_X5_isFull {l : Launch} {D : va_G} {cy : Nat → ClassId} {lo : Nat} {S : q_S} {a0 : Nat} {x1 : Int32} {Q : Option Value → q_S → Prop} (h : wm_X5_isFull S a0 x1 Q) : q_Met l D cy lo yX5_isFull cX5_isFull 2 (some .boolean) 0 0 0 0 [.ref a0, .int x1] S Q := by
  refine q_body (by decide) (by first | exact Nat.le_of_ble_eq_true rfl | simp [lg_sl, q_cat, q_catI, q_catJ, q_catR]) ?_
  intro p e s m below meth c ls X hnm Y hl
  have hx := X.1
  have hb := X.2.1
  have hl : lv_has ls 2 [(0, .ref a0), (1, .int x1)] := by first | exact hl | simpa [lv_args, q_cat, q_catI, q_catJ, q_catR] using hl
  generalize hargs : ([.ref a0, .int x1] : List Value).toArray = args at X ⊢
  unfold wm_X5_isFull at h
  refine lv_iload_n hx hb dX5_isFull_0 rfl (lv_at hl 1 rfl) ?_
  refine lv_iconst (v := 5) hx hb dX5_isFull_1 (by decide) ?_
  refine lv_icmp_ne (tgt := 20) hx hb dX5_isFull_2 (by decide) (fun c2_ => ?_) (fun c2_ => ?_)
  · replace h := h.1 c2_
    refine lv_aload_n hx hb dX5_isFull_20 rfl (lv_at hl 0 rfl) ?_
    obtain ⟨k3_, h⟩ := h
    refine q_getP X Y kX5 6 rfl fl_X5_30 k3_ rfl dX5_isFull_21 ?_
    refine lv_iload_n hx hb dX5_isFull_24 rfl (lv_at hl 1 rfl) ?_
    obtain ⟨a4_, e5_, h⟩ := h
    refine q_nn [.int x1] e5_ ?_
    obtain ⟨k6_, h⟩ := h
    obtain ⟨i7_, h⟩ := h
    refine q_ild X Y k6_ i7_ dX5_isFull_25 ?_
    refine lv_iload_n hx hb dX5_isFull_26 rfl (lv_at hl 1 rfl) ?_
    refine lv_iconst (v := 4) hx hb dX5_isFull_27 (by decide) ?_
    refine lv_icmp_ne (tgt := 36) hx hb dX5_isFull_28 (by decide) (fun c8_ => ?_) (fun c8_ => ?_)
    · replace h := h.1 c8_
      refine lv_bipush (v := 8) hx hb dX5_isFull_36 (by decide) ?_
      exact cb_X5_isFull_38 X Y (lv_sub hl [] rfl) h
    · replace h := h.2 c8_
      refine lv_bipush (v := 16) hx hb dX5_isFull_31 (by decide) ?_
      refine lv_goto (tgt := 38) hx hb dX5_isFull_33 (by decide) ?_
      exact cb_X5_isFull_38 X Y (lv_sub hl [] rfl) h
  · replace h := h.2 c2_
    refine lv_aload_n hx hb dX5_isFull_5 rfl (lv_at hl 0 rfl) ?_
    obtain ⟨k9_, h⟩ := h
    refine q_getI X Y kX5 4 rfl fl_X5_45 k9_ dX5_isFull_6 ?_
    refine lv_bipush (v := 16) hx hb dX5_isFull_9 (by decide) ?_
    refine lv_icmp_lt (tgt := 18) hx hb dX5_isFull_11 (by decide) (fun c10_ => ?_) (fun c10_ => ?_)
    · replace h := h.1 c10_
      refine lv_iconst (v := 0) hx hb dX5_isFull_18 (by decide) ?_
      exact cb_X5_isFull_19 X Y (lv_sub hl [] rfl) h
    · replace h := h.2 c10_
      refine lv_iconst (v := 1) hx hb dX5_isFull_14 (by decide) ?_
      refine lv_goto (tgt := 19) hx hb dX5_isFull_15 (by decide) ?_
      exact cb_X5_isFull_19 X Y (lv_sub hl [] rfl) h
