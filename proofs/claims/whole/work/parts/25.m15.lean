-- X12_wordsOf
theorem dX12_wordsOf_0 : decode cX12_wordsOf 0 = .ok (.iload_n 1, 1) := by decide +kernel
theorem dX12_wordsOf_1 : decode cX12_wordsOf 1 = .ok (.iconst (-1), 1) := by decide +kernel
theorem dX12_wordsOf_2 : decode cX12_wordsOf 2 = .ok (.if_icmp .ne 7, 3) := by decide +kernel
theorem dX12_wordsOf_5 : decode cX12_wordsOf 5 = .ok (.iconst 0, 1) := by decide +kernel
theorem dX12_wordsOf_6 : decode cX12_wordsOf 6 = .ok (.goto 35, 3) := by decide +kernel
theorem dX12_wordsOf_9 : decode cX12_wordsOf 9 = .ok (.aload_n 0, 1) := by decide +kernel
theorem dX12_wordsOf_10 : decode cX12_wordsOf 10 = .ok (.getfield 115, 3) := by decide +kernel
theorem dX12_wordsOf_13 : decode cX12_wordsOf 13 = .ok (.iload_n 1, 1) := by decide +kernel
theorem dX12_wordsOf_14 : decode cX12_wordsOf 14 = .ok (.baload, 1) := by decide +kernel
theorem dX12_wordsOf_15 : decode cX12_wordsOf 15 = .ok (.ifCond .eq 12, 3) := by decide +kernel
theorem dX12_wordsOf_18 : decode cX12_wordsOf 18 = .ok (.aload_n 0, 1) := by decide +kernel
theorem dX12_wordsOf_19 : decode cX12_wordsOf 19 = .ok (.getfield 251, 3) := by decide +kernel
theorem dX12_wordsOf_22 : decode cX12_wordsOf 22 = .ok (.iload_n 1, 1) := by decide +kernel
theorem dX12_wordsOf_23 : decode cX12_wordsOf 23 = .ok (.iaload, 1) := by decide +kernel
theorem dX12_wordsOf_24 : decode cX12_wordsOf 24 = .ok (.goto 17, 3) := by decide +kernel
theorem dX12_wordsOf_27 : decode cX12_wordsOf 27 = .ok (.aload_n 0, 1) := by decide +kernel
theorem dX12_wordsOf_28 : decode cX12_wordsOf 28 = .ok (.getfield 242, 3) := by decide +kernel
theorem dX12_wordsOf_31 : decode cX12_wordsOf 31 = .ok (.iload_n 1, 1) := by decide +kernel
theorem dX12_wordsOf_32 : decode cX12_wordsOf 32 = .ok (.baload, 1) := by decide +kernel
theorem dX12_wordsOf_33 : decode cX12_wordsOf 33 = .ok (.ifCond .eq 7, 3) := by decide +kernel
theorem dX12_wordsOf_36 : decode cX12_wordsOf 36 = .ok (.iconst 1, 1) := by decide +kernel
theorem dX12_wordsOf_37 : decode cX12_wordsOf 37 = .ok (.goto 4, 3) := by decide +kernel
theorem dX12_wordsOf_40 : decode cX12_wordsOf 40 = .ok (.iconst 0, 1) := by decide +kernel
theorem dX12_wordsOf_41 : decode cX12_wordsOf 41 = .ok (.ireturn, 1) := by decide +kernel
def wb_X12_wordsOf_41  (S : q_S) (xs0 : Int32) (Q : Option Value → q_S → Prop) : Prop := Q (some (.int xs0)) S
set_option maxHeartbeats 4000000 in
set_option maxRecDepth 100000 in
theorem cb_X12_wordsOf_41 {p : Program} {l : Launch} {e : Env} {s : State} {m : MethodId} {args : Array Value} {below : List Frame} {meth : Method} {c : Code} {D : va_G} {cy : Nat → ClassId} {lo : Nat}  {S : q_S} {xs0 : Int32} {Q : Option Value → q_S → Prop} {H : Heap} {locs : List Loc} {ls : Array Slot} (X : q_X p s m args meth c RX12 cX12_wordsOf 2 (some .int) D cy lo)  (Y : q_Y D cy lo s S H locs) (hl : lv_has ls 2 []) (h : wb_X12_wordsOf_41 S xs0 Q) : W p l e ({ frames := 0, cells := 0, slots := 0, locals := 0 } : Room) s m args below meth c H locs 0 0 (MQ below (q_Q D cy lo Q) args s 0 0 (fun q => lo ≤ q)) (F0 m 41 ls [.int xs0]) := by
  have hx := X.1
  have hb := X.2.1
  unfold wb_X12_wordsOf_41 at h
  exact q_iret X Y rfl (Nat.le_refl _) (Nat.le_refl _) h dX12_wordsOf_41
def wm_X12_wordsOf (S : q_S) (a0 : Nat) (x1 : Int32) (Q : Option Value → q_S → Prop) : Prop := ((¬ x1 = (-1 : Int32) → (q_K S a0 = 13 ∧ (∃ a3_ : Nat, (q_P S 2454 a0) = some a3_ ∧ (q_K S a3_ = 22 ∧ (vp_in x1 (q_N S a3_) ∧ ((((q_A S a3_ x1.toNatClampNeg) = 0 → (∃ a8_ : Nat, (q_P S 2498 a0) = some a8_ ∧ (q_K S a8_ = 22 ∧ (vp_in x1 (q_N S a8_) ∧ ((((q_A S a8_ x1.toNatClampNeg) = 0 → (wb_X12_wordsOf_41 S (0 : Int32) Q)) ∧ (¬ (q_A S a8_ x1.toNatClampNeg) = 0 → (wb_X12_wordsOf_41 S (1 : Int32) Q)))))))) ∧ (¬ (q_A S a3_ x1.toNatClampNeg) = 0 → (∃ a13_ : Nat, (q_P S 2501 a0) = some a13_ ∧ (q_K S a13_ = 21 ∧ (vp_in x1 (q_N S a13_) ∧ (wb_X12_wordsOf_41 S (q_A S a13_ x1.toNatClampNeg) Q)))))))))))) ∧ (x1 = (-1 : Int32) → (wb_X12_wordsOf_41 S (0 : Int32) Q)))
set_option maxHeartbeats 4000000 in
set_option maxRecDepth 100000 in
theorem cm_X12_wordsOf {l : Launch} {D : va_G} {cy : Nat → ClassId} {lo : Nat} {S : q_S} {a0 : Nat} {x1 : Int32} {Q : Option Value → q_S → Prop} (h : wm_X12_wordsOf S a0 x1 Q) : q_Met l D cy lo yX12_wordsOf cX12_wordsOf 2 (some .int) 0 0 0 0 [.ref a0, .int x1] S Q := by
  refine q_body (by decide) (by first | exact Nat.le_of_ble_eq_true rfl | simp [lg_sl, q_cat, q_catI, q_catJ, q_catR]) ?_
  intro p e s m below meth c ls X hnm Y hl
  have hx := X.1
  have hb := X.2.1
  have hl : lv_has ls 2 [(0, .ref a0), (1, .int x1)] := by first | exact hl | simpa [lv_args, q_cat, q_catI, q_catJ, q_catR] using hl
  generalize hargs : ([.ref a0, .int x1] : List Value).toArray = args at X ⊢
  unfold wm_X12_wordsOf at h
  refine lv_iload_n hx hb dX12_wordsOf_0 rfl (lv_at hl 1 rfl) ?_
  refine lv_iconst (v := (-1)) hx hb dX12_wordsOf_1 (by decide) ?_
  refine lv_icmp_ne (tgt := 9) hx hb dX12_wordsOf_2 (by decide) (fun c1_ => ?_) (fun c1_ => ?_)
  · replace h := h.1 c1_
    refine lv_aload_n hx hb dX12_wordsOf_9 rfl (lv_at hl 0 rfl) ?_
    obtain ⟨k2_, h⟩ := h
    refine q_getP X Y kX12 54 rfl fl_X12_115 k2_ rfl dX12_wordsOf_10 ?_
    refine lv_iload_n hx hb dX12_wordsOf_13 rfl (lv_at hl 1 rfl) ?_
    obtain ⟨a3_, e4_, h⟩ := h
    refine q_nn [.int x1] e4_ ?_
    obtain ⟨k5_, h⟩ := h
    obtain ⟨i6_, h⟩ := h
    refine q_zld X Y k5_ i6_ dX12_wordsOf_14 ?_
    refine lv_if_eq (tgt := 27) hx hb dX12_wordsOf_15 (by decide) (fun c7_ => ?_) (fun c7_ => ?_)
    · replace h := h.1 c7_
      refine lv_aload_n hx hb dX12_wordsOf_27 rfl (lv_at hl 0 rfl) ?_
      refine q_getP X Y kX12 98 rfl fl_X12_242 k2_ rfl dX12_wordsOf_28 ?_
      refine lv_iload_n hx hb dX12_wordsOf_31 rfl (lv_at hl 1 rfl) ?_
      obtain ⟨a8_, e9_, h⟩ := h
      refine q_nn [.int x1] e9_ ?_
      obtain ⟨k10_, h⟩ := h
      obtain ⟨i11_, h⟩ := h
      refine q_zld X Y k10_ i11_ dX12_wordsOf_32 ?_
      refine lv_if_eq (tgt := 40) hx hb dX12_wordsOf_33 (by decide) (fun c12_ => ?_) (fun c12_ => ?_)
      · replace h := h.1 c12_
        refine lv_iconst (v := 0) hx hb dX12_wordsOf_40 (by decide) ?_
        exact cb_X12_wordsOf_41 X Y (lv_sub hl [] rfl) h
      · replace h := h.2 c12_
        refine lv_iconst (v := 1) hx hb dX12_wordsOf_36 (by decide) ?_
        refine lv_goto (tgt := 41) hx hb dX12_wordsOf_37 (by decide) ?_
        exact cb_X12_wordsOf_41 X Y (lv_sub hl [] rfl) h
    · replace h := h.2 c7_
      refine lv_aload_n hx hb dX12_wordsOf_18 rfl (lv_at hl 0 rfl) ?_
      refine q_getP X Y kX12 101 rfl fl_X12_251 k2_ rfl dX12_wordsOf_19 ?_
      refine lv_iload_n hx hb dX12_wordsOf_22 rfl (lv_at hl 1 rfl) ?_
      obtain ⟨a13_, e14_, h⟩ := h
      refine q_nn [.int x1] e14_ ?_
      obtain ⟨k15_, h⟩ := h
      obtain ⟨i16_, h⟩ := h
      refine q_ild X Y k15_ i16_ dX12_wordsOf_23 ?_
      refine lv_goto (tgt := 41) hx hb dX12_wordsOf_24 (by decide) ?_
      exact cb_X12_wordsOf_41 X Y (lv_sub hl [] rfl) h
  · replace h := h.2 c1_
    refine lv_iconst (v := 0) hx hb dX12_wordsOf_5 (by decide) ?_
    refine lv_goto (tgt := 41) hx hb dX12_wordsOf_6 (by decide) ?_
    exact cb_X12_wordsOf_41 X Y (lv_sub hl [] rfl) h
-- X12_tells
theorem dX12_tells_0 : decode cX12_tells 0 = .ok (.bipush 8, 2) := by decide +kernel
theorem dX12_tells_2 : decode cX12_tells 2 = .ok (.iload_n 1, 1) := by decide +kernel
theorem dX12_tells_3 : decode cX12_tells 3 = .ok (.imul, 1) := by decide +kernel
theorem dX12_tells_4 : decode cX12_tells 4 = .ok (.iload_n 3, 1) := by decide +kernel
theorem dX12_tells_5 : decode cX12_tells 5 = .ok (.iadd, 1) := by decide +kernel
theorem dX12_tells_6 : decode cX12_tells 6 = .ok (.istore 4, 2) := by decide +kernel
theorem dX12_tells_8 : decode cX12_tells 8 = .ok (.iload_n 2, 1) := by decide +kernel
theorem dX12_tells_9 : decode cX12_tells 9 = .ok (.tableswitch 79 0 3 #[31, 39, 55, 63], 31) := by decide +kernel
theorem dX12_tells_40 : decode cX12_tells 40 = .ok (.aload_n 0, 1) := by decide +kernel
theorem dX12_tells_41 : decode cX12_tells 41 = .ok (.getfield 224, 3) := by decide +kernel
theorem dX12_tells_44 : decode cX12_tells 44 = .ok (.iload 4, 2) := by decide +kernel
theorem dX12_tells_46 : decode cX12_tells 46 = .ok (.iaload, 1) := by decide +kernel
theorem dX12_tells_47 : decode cX12_tells 47 = .ok (.ireturn, 1) := by decide +kernel
theorem dX12_tells_48 : decode cX12_tells 48 = .ok (.aload_n 0, 1) := by decide +kernel
theorem dX12_tells_49 : decode cX12_tells 49 = .ok (.getfield 227, 3) := by decide +kernel
theorem dX12_tells_52 : decode cX12_tells 52 = .ok (.iload 4, 2) := by decide +kernel
theorem dX12_tells_54 : decode cX12_tells 54 = .ok (.baload, 1) := by decide +kernel
theorem dX12_tells_55 : decode cX12_tells 55 = .ok (.ifCond .eq 7, 3) := by decide +kernel
theorem dX12_tells_58 : decode cX12_tells 58 = .ok (.iconst 1, 1) := by decide +kernel
theorem dX12_tells_59 : decode cX12_tells 59 = .ok (.goto 4, 3) := by decide +kernel
theorem dX12_tells_62 : decode cX12_tells 62 = .ok (.iconst 0, 1) := by decide +kernel
theorem dX12_tells_63 : decode cX12_tells 63 = .ok (.ireturn, 1) := by decide +kernel
theorem dX12_tells_64 : decode cX12_tells 64 = .ok (.aload_n 0, 1) := by decide +kernel
theorem dX12_tells_65 : decode cX12_tells 65 = .ok (.getfield 230, 3) := by decide +kernel
theorem dX12_tells_68 : decode cX12_tells 68 = .ok (.iload 4, 2) := by decide +kernel
theorem dX12_tells_70 : decode cX12_tells 70 = .ok (.iaload, 1) := by decide +kernel
theorem dX12_tells_71 : decode cX12_tells 71 = .ok (.ireturn, 1) := by decide +kernel
theorem dX12_tells_72 : decode cX12_tells 72 = .ok (.aload_n 0, 1) := by decide +kernel
theorem dX12_tells_73 : decode cX12_tells 73 = .ok (.getfield 236, 3) := by decide +kernel
theorem dX12_tells_76 : decode cX12_tells 76 = .ok (.iload 4, 2) := by decide +kernel
theorem dX12_tells_78 : decode cX12_tells 78 = .ok (.baload, 1) := by decide +kernel
theorem dX12_tells_79 : decode cX12_tells 79 = .ok (.ifCond .eq 7, 3) := by decide +kernel
theorem dX12_tells_82 : decode cX12_tells 82 = .ok (.iconst 1, 1) := by decide +kernel
theorem dX12_tells_83 : decode cX12_tells 83 = .ok (.goto 4, 3) := by decide +kernel
theorem dX12_tells_86 : decode cX12_tells 86 = .ok (.iconst 0, 1) := by decide +kernel
theorem dX12_tells_87 : decode cX12_tells 87 = .ok (.ireturn, 1) := by decide +kernel
theorem dX12_tells_88 : decode cX12_tells 88 = .ok (.aload_n 0, 1) := by decide +kernel
theorem dX12_tells_89 : decode cX12_tells 89 = .ok (.getfield 106, 3) := by decide +kernel
theorem dX12_tells_92 : decode cX12_tells 92 = .ok (.bipush 16, 2) := by decide +kernel
theorem dX12_tells_94 : decode cX12_tells 94 = .ok (.iload_n 1, 1) := by decide +kernel
theorem dX12_tells_95 : decode cX12_tells 95 = .ok (.imul, 1) := by decide +kernel
theorem dX12_tells_96 : decode cX12_tells 96 = .ok (.iload_n 3, 1) := by decide +kernel
theorem dX12_tells_97 : decode cX12_tells 97 = .ok (.iadd, 1) := by decide +kernel
theorem dX12_tells_98 : decode cX12_tells 98 = .ok (.iaload, 1) := by decide +kernel
theorem dX12_tells_99 : decode cX12_tells 99 = .ok (.ireturn, 1) := by decide +kernel
def wb_X12_tells_87  (S : q_S) (xs0 : Int32) (Q : Option Value → q_S → Prop) : Prop := Q (some (.int xs0)) S
set_option maxHeartbeats 4000000 in
set_option maxRecDepth 100000 in
theorem cb_X12_tells_87 {p : Program} {l : Launch} {e : Env} {s : State} {m : MethodId} {args : Array Value} {below : List Frame} {meth : Method} {c : Code} {D : va_G} {cy : Nat → ClassId} {lo : Nat}  {S : q_S} {xs0 : Int32} {Q : Option Value → q_S → Prop} {H : Heap} {locs : List Loc} {ls : Array Slot} (X : q_X p s m args meth c RX12 cX12_tells 5 (some .int) D cy lo)  (Y : q_Y D cy lo s S H locs) (hl : lv_has ls 5 []) (h : wb_X12_tells_87 S xs0 Q) : W p l e ({ frames := 0, cells := 0, slots := 0, locals := 0 } : Room) s m args below meth c H locs 0 0 (MQ below (q_Q D cy lo Q) args s 0 0 (fun q => lo ≤ q)) (F0 m 87 ls [.int xs0]) := by
  have hx := X.1
  have hb := X.2.1
  unfold wb_X12_tells_87 at h
  exact q_iret X Y rfl (Nat.le_refl _) (Nat.le_refl _) h dX12_tells_87
def wb_X12_tells_63  (S : q_S) (xs0 : Int32) (Q : Option Value → q_S → Prop) : Prop := Q (some (.int xs0)) S
set_option maxHeartbeats 4000000 in
set_option maxRecDepth 100000 in
theorem cb_X12_tells_63 {p : Program} {l : Launch} {e : Env} {s : State} {m : MethodId} {args : Array Value} {below : List Frame} {meth : Method} {c : Code} {D : va_G} {cy : Nat → ClassId} {lo : Nat}  {S : q_S} {xs0 : Int32} {Q : Option Value → q_S → Prop} {H : Heap} {locs : List Loc} {ls : Array Slot} (X : q_X p s m args meth c RX12 cX12_tells 5 (some .int) D cy lo)  (Y : q_Y D cy lo s S H locs) (hl : lv_has ls 5 []) (h : wb_X12_tells_63 S xs0 Q) : W p l e ({ frames := 0, cells := 0, slots := 0, locals := 0 } : Room) s m args below meth c H locs 0 0 (MQ below (q_Q D cy lo Q) args s 0 0 (fun q => lo ≤ q)) (F0 m 63 ls [.int xs0]) := by
  have hx := X.1
  have hb := X.2.1
  unfold wb_X12_tells_63 at h
  exact q_iret X Y rfl (Nat.le_refl _) (Nat.le_refl _) h dX12_tells_63
def wm_X12_tells (S : q_S) (a0 : Nat) (x1 : Int32) (x2 : Int32) (x3 : Int32) (Q : Option Value → q_S → Prop) : Prop := (((x2.toInt < 0 ∨ 3 < x2.toInt) → (q_K S a0 = 13 ∧ (∃ a2_ : Nat, (q_P S 2450 a0) = some a2_ ∧ (q_K S a2_ = 21 ∧ (vp_in (((16 : Int32) * x1) + x3) (q_N S a2_) ∧ (Q (some (.int (q_A S a2_ (((16 : Int32) * x1) + x3).toNatClampNeg))) S)))))) ∧ ((x2 = (0 : Int32)) → (q_K S a0 = 13 ∧ (∃ a7_ : Nat, (q_P S 2492 a0) = some a7_ ∧ (q_K S a7_ = 21 ∧ (vp_in (((8 : Int32) * x1) + x3) (q_N S a7_) ∧ (Q (some (.int (q_A S a7_ (((8 : Int32) * x1) + x3).toNatClampNeg))) S)))))) ∧ ((x2 = (1 : Int32)) → (q_K S a0 = 13 ∧ (∃ a12_ : Nat, (q_P S 2493 a0) = some a12_ ∧ (q_K S a12_ = 22 ∧ (vp_in (((8 : Int32) * x1) + x3) (q_N S a12_) ∧ ((((q_A S a12_ (((8 : Int32) * x1) + x3).toNatClampNeg) = 0 → (wb_X12_tells_63 S (0 : Int32) Q)) ∧ (¬ (q_A S a12_ (((8 : Int32) * x1) + x3).toNatClampNeg) = 0 → (wb_X12_tells_63 S (1 : Int32) Q))))))))) ∧ ((x2 = (2 : Int32)) → (q_K S a0 = 13 ∧ (∃ a18_ : Nat, (q_P S 2494 a0) = some a18_ ∧ (q_K S a18_ = 21 ∧ (vp_in (((8 : Int32) * x1) + x3) (q_N S a18_) ∧ (Q (some (.int (q_A S a18_ (((8 : Int32) * x1) + x3).toNatClampNeg))) S)))))) ∧ ((x2 = (3 : Int32)) → (q_K S a0 = 13 ∧ (∃ a23_ : Nat, (q_P S 2496 a0) = some a23_ ∧ (q_K S a23_ = 22 ∧ (vp_in (((8 : Int32) * x1) + x3) (q_N S a23_) ∧ ((((q_A S a23_ (((8 : Int32) * x1) + x3).toNatClampNeg) = 0 → (wb_X12_tells_87 S (0 : Int32) Q)) ∧ (¬ (q_A S a23_ (((8 : Int32) * x1) + x3).toNatClampNeg) = 0 → (wb_X12_tells_87 S (1 : Int32) Q))))))))))
set_option maxHeartbeats 4000000 in
set_option maxRecDepth 100000 in
theorem cm_X12_tells {l : Launch} {D : va_G} {cy : Nat → ClassId} {lo : Nat} {S : q_S} {a0 : Nat} {x1 : Int32} {x2 : Int32} {x3 : Int32} {Q : Option Value → q_S → Prop} (h : wm_X12_tells S a0 x1 x2 x3 Q) : q_Met l D cy lo yX12_tells cX12_tells 5 (some .int) 0 0 0 0 [.ref a0, .int x1, .int x2, .int x3] S Q := by
  refine q_body (by decide) (by first | exact Nat.le_of_ble_eq_true rfl | simp [lg_sl, q_cat, q_catI, q_catJ, q_catR]) ?_
  intro p e s m below meth c ls X hnm Y hl
  have hx := X.1
  have hb := X.2.1
  have hl : lv_has ls 5 [(0, .ref a0), (1, .int x1), (2, .int x2), (3, .int x3)] := by first | exact hl | simpa [lv_args, q_cat, q_catI, q_catJ, q_catR] using hl
  generalize hargs : ([.ref a0, .int x1, .int x2, .int x3] : List Value).toArray = args at X ⊢
  unfold wm_X12_tells at h
  refine lv_bipush (v := 8) hx hb dX12_tells_0 (by decide) ?_
  refine lv_iload_n hx hb dX12_tells_2 rfl (lv_at hl 1 rfl) ?_
  refine lv_imul hx hb dX12_tells_3 ?_
  refine lv_iload_n hx hb dX12_tells_4 rfl (lv_at hl 3 rfl) ?_
  refine lv_iadd hx hb dX12_tells_5 ?_
  refine lv_istore (i := 4) (lv' := [(4, .int (((8 : Int32) * x1) + x3)), (0, .ref a0), (1, .int x1), (2, .int x2), (3, .int x3)]) hx hb dX12_tells_6 hl (by decide) (by first | rfl | simp [q_cat, q_catI, q_catJ, q_catR]) (fun ls hl => ?_)
  refine lv_iload_n hx hb dX12_tells_8 rfl (lv_at hl 3 rfl) ?_
  refine q_tsw (tgt := 88) hx hb dX12_tells_9 (by decide) (by decide) (fun c28_ => ?_) (fun j29_ hj_ c28_ => ?_)
  · replace h := h.1 c28_
    refine lv_aload_n hx hb dX12_tells_88 rfl (lv_at hl 1 rfl) ?_
    obtain ⟨k1_, h⟩ := h
    refine q_getP X Y kX12 50 rfl fl_X12_106 k1_ rfl dX12_tells_89 ?_
    refine lv_bipush (v := 16) hx hb dX12_tells_92 (by decide) ?_
    refine lv_iload_n hx hb dX12_tells_94 rfl (lv_at hl 2 rfl) ?_
    refine lv_imul hx hb dX12_tells_95 ?_
    refine lv_iload_n hx hb dX12_tells_96 rfl (lv_at hl 4 rfl) ?_
    refine lv_iadd hx hb dX12_tells_97 ?_
    obtain ⟨a2_, e3_, h⟩ := h
    refine q_nn [.int (((16 : Int32) * x1) + x3)] e3_ ?_
    obtain ⟨k4_, h⟩ := h
    obtain ⟨i5_, h⟩ := h
    refine q_ild X Y k4_ i5_ dX12_tells_98 ?_
    exact q_iret X Y rfl (Nat.le_refl _) (Nat.le_refl _) h dX12_tells_99
  · match j29_, hj_, c28_ with
    | 0, _, c28_ =>
      refine ⟨31, 40, rfl, by decide, ?_⟩
      replace h := h.2.1 (q_eqI c28_ (by decide))
      refine lv_aload_n hx hb dX12_tells_40 rfl (lv_at hl 1 rfl) ?_
      obtain ⟨k6_, h⟩ := h
      refine q_getP X Y kX12 92 rfl fl_X12_224 k6_ rfl dX12_tells_41 ?_
      refine lv_iload hx hb dX12_tells_44 (lv_at hl 0 rfl) ?_
      obtain ⟨a7_, e8_, h⟩ := h
      refine q_nn [.int (((8 : Int32) * x1) + x3)] e8_ ?_
      obtain ⟨k9_, h⟩ := h
      obtain ⟨i10_, h⟩ := h
      refine q_ild X Y k9_ i10_ dX12_tells_46 ?_
      exact q_iret X Y rfl (Nat.le_refl _) (Nat.le_refl _) h dX12_tells_47
    | 1, _, c28_ =>
      refine ⟨39, 48, rfl, by decide, ?_⟩
      replace h := h.2.2.1 (q_eqI c28_ (by decide))
      refine lv_aload_n hx hb dX12_tells_48 rfl (lv_at hl 1 rfl) ?_
      obtain ⟨k11_, h⟩ := h
      refine q_getP X Y kX12 93 rfl fl_X12_227 k11_ rfl dX12_tells_49 ?_
      refine lv_iload hx hb dX12_tells_52 (lv_at hl 0 rfl) ?_
      obtain ⟨a12_, e13_, h⟩ := h
      refine q_nn [.int (((8 : Int32) * x1) + x3)] e13_ ?_
      obtain ⟨k14_, h⟩ := h
      obtain ⟨i15_, h⟩ := h
      refine q_zld X Y k14_ i15_ dX12_tells_54 ?_
      refine lv_if_eq (tgt := 62) hx hb dX12_tells_55 (by decide) (fun c16_ => ?_) (fun c16_ => ?_)
      · replace h := h.1 c16_
        refine lv_iconst (v := 0) hx hb dX12_tells_62 (by decide) ?_
        exact cb_X12_tells_63 X Y (lv_sub hl [] rfl) h
      · replace h := h.2 c16_
        refine lv_iconst (v := 1) hx hb dX12_tells_58 (by decide) ?_
        refine lv_goto (tgt := 63) hx hb dX12_tells_59 (by decide) ?_
        exact cb_X12_tells_63 X Y (lv_sub hl [] rfl) h
    | 2, _, c28_ =>
      refine ⟨55, 64, rfl, by decide, ?_⟩
      replace h := h.2.2.2.1 (q_eqI c28_ (by decide))
      refine lv_aload_n hx hb dX12_tells_64 rfl (lv_at hl 1 rfl) ?_
      obtain ⟨k17_, h⟩ := h
      refine q_getP X Y kX12 94 rfl fl_X12_230 k17_ rfl dX12_tells_65 ?_
      refine lv_iload hx hb dX12_tells_68 (lv_at hl 0 rfl) ?_
      obtain ⟨a18_, e19_, h⟩ := h
      refine q_nn [.int (((8 : Int32) * x1) + x3)] e19_ ?_
      obtain ⟨k20_, h⟩ := h
      obtain ⟨i21_, h⟩ := h
      refine q_ild X Y k20_ i21_ dX12_tells_70 ?_
      exact q_iret X Y rfl (Nat.le_refl _) (Nat.le_refl _) h dX12_tells_71
    | 3, _, c28_ =>
      refine ⟨63, 72, rfl, by decide, ?_⟩
      replace h := h.2.2.2.2 (q_eqI c28_ (by decide))
      refine lv_aload_n hx hb dX12_tells_72 rfl (lv_at hl 1 rfl) ?_
      obtain ⟨k22_, h⟩ := h
      refine q_getP X Y kX12 96 rfl fl_X12_236 k22_ rfl dX12_tells_73 ?_
      refine lv_iload hx hb dX12_tells_76 (lv_at hl 0 rfl) ?_
      obtain ⟨a23_, e24_, h⟩ := h
      refine q_nn [.int (((8 : Int32) * x1) + x3)] e24_ ?_
      obtain ⟨k25_, h⟩ := h
      obtain ⟨i26_, h⟩ := h
      refine q_zld X Y k25_ i26_ dX12_tells_78 ?_
      refine lv_if_eq (tgt := 86) hx hb dX12_tells_79 (by decide) (fun c27_ => ?_) (fun c27_ => ?_)
      · replace h := h.1 c27_
        refine lv_iconst (v := 0) hx hb dX12_tells_86 (by decide) ?_
        exact cb_X12_tells_87 X Y (lv_sub hl [] rfl) h
      · replace h := h.2 c27_
        refine lv_iconst (v := 1) hx hb dX12_tells_82 (by decide) ?_
        refine lv_goto (tgt := 87) hx hb dX12_tells_83 (by decide) ?_
        exact cb_X12_tells_87 X Y (lv_sub hl [] rfl) h
    | z_ + 4, hj_, _ => exact absurd hj_ (by simp)
-- X12_wait
theorem dX12_wait_0 : decode cX12_wait 0 = .ok (.iload_n 2, 1) := by decide +kernel
theorem dX12_wait_1 : decode cX12_wait 1 = .ok (.iconst 4, 1) := by decide +kernel
theorem dX12_wait_2 : decode cX12_wait 2 = .ok (.if_icmp .ne 17, 3) := by decide +kernel
theorem dX12_wait_5 : decode cX12_wait 5 = .ok (.aload_n 0, 1) := by decide +kernel
theorem dX12_wait_6 : decode cX12_wait 6 = .ok (.getfield 106, 3) := by decide +kernel
theorem dX12_wait_9 : decode cX12_wait 9 = .ok (.bipush 16, 2) := by decide +kernel
theorem dX12_wait_11 : decode cX12_wait 11 = .ok (.iload_n 1, 1) := by decide +kernel
theorem dX12_wait_12 : decode cX12_wait 12 = .ok (.imul, 1) := by decide +kernel
theorem dX12_wait_13 : decode cX12_wait 13 = .ok (.iload_n 3, 1) := by decide +kernel
theorem dX12_wait_14 : decode cX12_wait 14 = .ok (.iadd, 1) := by decide +kernel
theorem dX12_wait_15 : decode cX12_wait 15 = .ok (.iaload, 1) := by decide +kernel
theorem dX12_wait_16 : decode cX12_wait 16 = .ok (.goto 9, 3) := by decide +kernel
theorem dX12_wait_19 : decode cX12_wait 19 = .ok (.bipush 8, 2) := by decide +kernel
theorem dX12_wait_21 : decode cX12_wait 21 = .ok (.iload_n 1, 1) := by decide +kernel
theorem dX12_wait_22 : decode cX12_wait 22 = .ok (.imul, 1) := by decide +kernel
theorem dX12_wait_23 : decode cX12_wait 23 = .ok (.iload_n 3, 1) := by decide +kernel
theorem dX12_wait_24 : decode cX12_wait 24 = .ok (.iadd, 1) := by decide +kernel
theorem dX12_wait_25 : decode cX12_wait 25 = .ok (.istore 4, 2) := by decide +kernel
theorem dX12_wait_27 : decode cX12_wait 27 = .ok (.iconst 0, 1) := by decide +kernel
theorem dX12_wait_28 : decode cX12_wait 28 = .ok (.istore 5, 2) := by decide +kernel
theorem dX12_wait_30 : decode cX12_wait 30 = .ok (.bipush 16, 2) := by decide +kernel
theorem dX12_wait_32 : decode cX12_wait 32 = .ok (.iload_n 1, 1) := by decide +kernel
theorem dX12_wait_33 : decode cX12_wait 33 = .ok (.imul, 1) := by decide +kernel
theorem dX12_wait_34 : decode cX12_wait 34 = .ok (.istore 6, 2) := by decide +kernel
theorem dX12_wait_36 : decode cX12_wait 36 = .ok (.iload 6, 2) := by decide +kernel
theorem dX12_wait_38 : decode cX12_wait 38 = .ok (.aload_n 0, 1) := by decide +kernel
theorem dX12_wait_39 : decode cX12_wait 39 = .ok (.iload_n 1, 1) := by decide +kernel
theorem dX12_wait_40 : decode cX12_wait 40 = .ok (.invokevirtual 499, 3) := by decide +kernel
theorem dX12_wait_43 : decode cX12_wait 43 = .ok (.if_icmp .ge 185, 3) := by decide +kernel
theorem dX12_wait_46 : decode cX12_wait 46 = .ok (.aload_n 0, 1) := by decide +kernel
theorem dX12_wait_47 : decode cX12_wait 47 = .ok (.getfield 149, 3) := by decide +kernel
theorem dX12_wait_50 : decode cX12_wait 50 = .ok (.iload 6, 2) := by decide +kernel
theorem dX12_wait_52 : decode cX12_wait 52 = .ok (.iaload, 1) := by decide +kernel
theorem dX12_wait_53 : decode cX12_wait 53 = .ok (.iconst 2, 1) := by decide +kernel
theorem dX12_wait_54 : decode cX12_wait 54 = .ok (.if_icmp .ne 13, 3) := by decide +kernel
theorem dX12_wait_57 : decode cX12_wait 57 = .ok (.aload_n 0, 1) := by decide +kernel
theorem dX12_wait_58 : decode cX12_wait 58 = .ok (.getfield 182, 3) := by decide +kernel
theorem dX12_wait_61 : decode cX12_wait 61 = .ok (.iload 6, 2) := by decide +kernel
theorem dX12_wait_63 : decode cX12_wait 63 = .ok (.iaload, 1) := by decide +kernel
theorem dX12_wait_64 : decode cX12_wait 64 = .ok (.goto 4, 3) := by decide +kernel
theorem dX12_wait_67 : decode cX12_wait 67 = .ok (.iconst 0, 1) := by decide +kernel
theorem dX12_wait_68 : decode cX12_wait 68 = .ok (.istore 7, 2) := by decide +kernel
theorem dX12_wait_70 : decode cX12_wait 70 = .ok (.iload_n 2, 1) := by decide +kernel
theorem dX12_wait_71 : decode cX12_wait 71 = .ok (.ifCond .ne 17, 3) := by decide +kernel
theorem dX12_wait_74 : decode cX12_wait 74 = .ok (.iload 7, 2) := by decide +kernel
theorem dX12_wait_76 : decode cX12_wait 76 = .ok (.iconst 1, 1) := by decide +kernel
theorem dX12_wait_77 : decode cX12_wait 77 = .ok (.if_icmp .ne 7, 3) := by decide +kernel
theorem dX12_wait_80 : decode cX12_wait 80 = .ok (.iconst 1, 1) := by decide +kernel
theorem dX12_wait_81 : decode cX12_wait 81 = .ok (.goto 112, 3) := by decide +kernel
theorem dX12_wait_84 : decode cX12_wait 84 = .ok (.iconst 0, 1) := by decide +kernel
theorem dX12_wait_85 : decode cX12_wait 85 = .ok (.goto 108, 3) := by decide +kernel
theorem dX12_wait_88 : decode cX12_wait 88 = .ok (.iload_n 2, 1) := by decide +kernel
theorem dX12_wait_89 : decode cX12_wait 89 = .ok (.iconst 1, 1) := by decide +kernel
theorem dX12_wait_90 : decode cX12_wait 90 = .ok (.if_icmp .ne 17, 3) := by decide +kernel
theorem dX12_wait_93 : decode cX12_wait 93 = .ok (.iload 7, 2) := by decide +kernel
theorem dX12_wait_95 : decode cX12_wait 95 = .ok (.iconst 2, 1) := by decide +kernel
theorem dX12_wait_96 : decode cX12_wait 96 = .ok (.if_icmp .ne 7, 3) := by decide +kernel
theorem dX12_wait_99 : decode cX12_wait 99 = .ok (.iconst 1, 1) := by decide +kernel
theorem dX12_wait_100 : decode cX12_wait 100 = .ok (.goto 93, 3) := by decide +kernel
theorem dX12_wait_103 : decode cX12_wait 103 = .ok (.iconst 0, 1) := by decide +kernel
theorem dX12_wait_104 : decode cX12_wait 104 = .ok (.goto 89, 3) := by decide +kernel
theorem dX12_wait_107 : decode cX12_wait 107 = .ok (.iload_n 2, 1) := by decide +kernel
theorem dX12_wait_108 : decode cX12_wait 108 = .ok (.iconst 2, 1) := by decide +kernel
theorem dX12_wait_109 : decode cX12_wait 109 = .ok (.if_icmp .ne 23, 3) := by decide +kernel
theorem dX12_wait_112 : decode cX12_wait 112 = .ok (.iload 7, 2) := by decide +kernel
theorem dX12_wait_114 : decode cX12_wait 114 = .ok (.iconst 3, 1) := by decide +kernel
theorem dX12_wait_115 : decode cX12_wait 115 = .ok (.if_icmp .eq 9, 3) := by decide +kernel
theorem dX12_wait_118 : decode cX12_wait 118 = .ok (.iload 7, 2) := by decide +kernel
theorem dX12_wait_120 : decode cX12_wait 120 = .ok (.iconst 4, 1) := by decide +kernel
theorem dX12_wait_121 : decode cX12_wait 121 = .ok (.if_icmp .ne 7, 3) := by decide +kernel
theorem dX12_wait_124 : decode cX12_wait 124 = .ok (.iconst 1, 1) := by decide +kernel
theorem dX12_wait_125 : decode cX12_wait 125 = .ok (.goto 68, 3) := by decide +kernel
theorem dX12_wait_128 : decode cX12_wait 128 = .ok (.iconst 0, 1) := by decide +kernel
theorem dX12_wait_129 : decode cX12_wait 129 = .ok (.goto 64, 3) := by decide +kernel
theorem dX12_wait_132 : decode cX12_wait 132 = .ok (.iload_n 2, 1) := by decide +kernel
theorem dX12_wait_133 : decode cX12_wait 133 = .ok (.iconst 3, 1) := by decide +kernel
theorem dX12_wait_134 : decode cX12_wait 134 = .ok (.if_icmp .ne 17, 3) := by decide +kernel
theorem dX12_wait_137 : decode cX12_wait 137 = .ok (.iload 7, 2) := by decide +kernel
theorem dX12_wait_139 : decode cX12_wait 139 = .ok (.iconst 5, 1) := by decide +kernel
theorem dX12_wait_140 : decode cX12_wait 140 = .ok (.if_icmp .ne 7, 3) := by decide +kernel
theorem dX12_wait_143 : decode cX12_wait 143 = .ok (.iconst 1, 1) := by decide +kernel
theorem dX12_wait_144 : decode cX12_wait 144 = .ok (.goto 49, 3) := by decide +kernel
theorem dX12_wait_147 : decode cX12_wait 147 = .ok (.iconst 0, 1) := by decide +kernel
theorem dX12_wait_148 : decode cX12_wait 148 = .ok (.goto 45, 3) := by decide +kernel
theorem dX12_wait_151 : decode cX12_wait 151 = .ok (.iload 7, 2) := by decide +kernel
theorem dX12_wait_153 : decode cX12_wait 153 = .ok (.aload_n 0, 1) := by decide +kernel
theorem dX12_wait_154 : decode cX12_wait 154 = .ok (.getfield 100, 3) := by decide +kernel
theorem dX12_wait_157 : decode cX12_wait 157 = .ok (.bipush 16, 2) := by decide +kernel
theorem dX12_wait_159 : decode cX12_wait 159 = .ok (.iload_n 1, 1) := by decide +kernel
theorem dX12_wait_160 : decode cX12_wait 160 = .ok (.imul, 1) := by decide +kernel
theorem dX12_wait_161 : decode cX12_wait 161 = .ok (.iload_n 3, 1) := by decide +kernel
theorem dX12_wait_162 : decode cX12_wait 162 = .ok (.iadd, 1) := by decide +kernel
theorem dX12_wait_163 : decode cX12_wait 163 = .ok (.baload, 1) := by decide +kernel
theorem dX12_wait_164 : decode cX12_wait 164 = .ok (.ifCond .eq 8, 3) := by decide +kernel
theorem dX12_wait_167 : decode cX12_wait 167 = .ok (.bipush 7, 2) := by decide +kernel
theorem dX12_wait_169 : decode cX12_wait 169 = .ok (.goto 5, 3) := by decide +kernel
theorem dX12_wait_172 : decode cX12_wait 172 = .ok (.bipush 6, 2) := by decide +kernel
theorem dX12_wait_174 : decode cX12_wait 174 = .ok (.if_icmp .ne 18, 3) := by decide +kernel
theorem dX12_wait_177 : decode cX12_wait 177 = .ok (.aload_n 0, 1) := by decide +kernel
theorem dX12_wait_178 : decode cX12_wait 178 = .ok (.getfield 188, 3) := by decide +kernel
theorem dX12_wait_181 : decode cX12_wait 181 = .ok (.iload 6, 2) := by decide +kernel
theorem dX12_wait_183 : decode cX12_wait 183 = .ok (.iaload, 1) := by decide +kernel
theorem dX12_wait_184 : decode cX12_wait 184 = .ok (.iload_n 3, 1) := by decide +kernel
theorem dX12_wait_185 : decode cX12_wait 185 = .ok (.if_icmp .ne 7, 3) := by decide +kernel
theorem dX12_wait_188 : decode cX12_wait 188 = .ok (.iconst 1, 1) := by decide +kernel
theorem dX12_wait_189 : decode cX12_wait 189 = .ok (.goto 4, 3) := by decide +kernel
theorem dX12_wait_192 : decode cX12_wait 192 = .ok (.iconst 0, 1) := by decide +kernel
theorem dX12_wait_193 : decode cX12_wait 193 = .ok (.istore 8, 2) := by decide +kernel
theorem dX12_wait_195 : decode cX12_wait 195 = .ok (.iload 5, 2) := by decide +kernel
theorem dX12_wait_197 : decode cX12_wait 197 = .ok (.iload 8, 2) := by decide +kernel
theorem dX12_wait_199 : decode cX12_wait 199 = .ok (.ifCond .eq 19, 3) := by decide +kernel
theorem dX12_wait_202 : decode cX12_wait 202 = .ok (.aload_n 0, 1) := by decide +kernel
theorem dX12_wait_203 : decode cX12_wait 203 = .ok (.getfield 185, 3) := by decide +kernel
theorem dX12_wait_206 : decode cX12_wait 206 = .ok (.iload 6, 2) := by decide +kernel
theorem dX12_wait_208 : decode cX12_wait 208 = .ok (.iaload, 1) := by decide +kernel
theorem dX12_wait_209 : decode cX12_wait 209 = .ok (.iload 4, 2) := by decide +kernel
theorem dX12_wait_211 : decode cX12_wait 211 = .ok (.if_icmp .ne 7, 3) := by decide +kernel
theorem dX12_wait_214 : decode cX12_wait 214 = .ok (.iconst 1, 1) := by decide +kernel
theorem dX12_wait_215 : decode cX12_wait 215 = .ok (.goto 4, 3) := by decide +kernel
theorem dX12_wait_218 : decode cX12_wait 218 = .ok (.iconst 0, 1) := by decide +kernel
theorem dX12_wait_219 : decode cX12_wait 219 = .ok (.iadd, 1) := by decide +kernel
theorem dX12_wait_220 : decode cX12_wait 220 = .ok (.istore 5, 2) := by decide +kernel
theorem dX12_wait_222 : decode cX12_wait 222 = .ok (.iinc 6 1, 3) := by decide +kernel
theorem dX12_wait_225 : decode cX12_wait 225 = .ok (.goto (-189), 3) := by decide +kernel
theorem dX12_wait_228 : decode cX12_wait 228 = .ok (.iload 5, 2) := by decide +kernel
theorem dX12_wait_230 : decode cX12_wait 230 = .ok (.ireturn, 1) := by decide +kernel
def wb_X12_wait_219 (B36 : q_S → Nat → Int32 → Int32 → Int32 → Int32 → Int32 → Int32 → Prop) (S : q_S) (a0 : Nat) (x1 : Int32) (x2 : Int32) (x3 : Int32) (x4 : Int32) (x6 : Int32) (xs0 : Int32) (xs1 : Int32) (Q : Option Value → q_S → Prop) : Prop := B36 S a0 x1 x2 x3 x4 (xs0 + xs1) (x6 + 1)
set_option maxHeartbeats 4000000 in
set_option maxRecDepth 100000 in
theorem cb_X12_wait_219 {p : Program} {l : Launch} {e : Env} {s : State} {m : MethodId} {args : Array Value} {below : List Frame} {meth : Method} {c : Code} {D : va_G} {cy : Nat → ClassId} {lo : Nat} {B36 : q_S → Nat → Int32 → Int32 → Int32 → Int32 → Int32 → Int32 → Prop} {S : q_S} {a0 : Nat} {x1 : Int32} {x2 : Int32} {x3 : Int32} {x4 : Int32} {x6 : Int32} {xs0 : Int32} {xs1 : Int32} {Q : Option Value → q_S → Prop} {H : Heap} {locs : List Loc} {ls : Array Slot} (X : q_X p s m args meth c RX12 cX12_wait 9 (some .int) D cy lo) (hB36 : ∀ (S : q_S) (a0 : Nat) (x1 : Int32) (x2 : Int32) (x3 : Int32) (x4 : Int32) (x5 : Int32) (x6 : Int32) (H : Heap) (locs : List Loc) (ls : Array Slot), B36 S a0 x1 x2 x3 x4 x5 x6 → q_Y D cy lo s S H locs → lv_has ls 9 [(0, .ref a0), (1, .int x1), (2, .int x2), (3, .int x3), (4, .int x4), (5, .int x5), (6, .int x6)] → W p l e ({ frames := 1, cells := 0, slots := 0, locals := 21 } : Room) s m args below meth c H locs 0 0 (MQ below (q_Q D cy lo Q) args s 0 0 (fun q => lo ≤ q)) (F0 m 36 ls [])) (Y : q_Y D cy lo s S H locs) (hl : lv_has ls 9 [(0, .ref a0), (1, .int x1), (2, .int x2), (3, .int x3), (4, .int x4), (6, .int x6)]) (h : wb_X12_wait_219 B36 S a0 x1 x2 x3 x4 x6 xs0 xs1 Q) : W p l e ({ frames := 1, cells := 0, slots := 0, locals := 21 } : Room) s m args below meth c H locs 0 0 (MQ below (q_Q D cy lo Q) args s 0 0 (fun q => lo ≤ q)) (F0 m 219 ls [.int xs1, .int xs0]) := by
  have hx := X.1
  have hb := X.2.1
  unfold wb_X12_wait_219 at h
  refine lv_iadd hx hb dX12_wait_219 ?_
  refine lv_istore (i := 5) (lv' := [(5, .int (xs0 + xs1)), (0, .ref a0), (1, .int x1), (2, .int x2), (3, .int x3), (4, .int x4), (6, .int x6)]) hx hb dX12_wait_220 hl (by decide) (by first | rfl | simp [q_cat, q_catI, q_catJ, q_catR]) (fun ls hl => ?_)
  refine lv_iinc (v := (x6 + 1)) (lv' := [(6, .int (x6 + 1)), (5, .int (xs0 + xs1)), (0, .ref a0), (1, .int x1), (2, .int x2), (3, .int x3), (4, .int x4)]) hx hb dX12_wait_222 hl (k := 6) rfl (by first | rfl | decide) (by decide) (by first | rfl | simp [q_cat, q_catI, q_catJ, q_catR]) (fun ls hl => ?_)
  refine lv_goto (tgt := 36) hx hb dX12_wait_225 (by decide) ?_
  exact hB36 _ _ _ _ _ _ _ _ _ _ _ h Y (lv_sub hl [2, 3, 4, 5, 6, 1, 0] rfl)
def wb_X12_wait_218 (B36 : q_S → Nat → Int32 → Int32 → Int32 → Int32 → Int32 → Int32 → Prop) (S : q_S) (a0 : Nat) (x1 : Int32) (x2 : Int32) (x3 : Int32) (x4 : Int32) (x6 : Int32) (xs0 : Int32) (Q : Option Value → q_S → Prop) : Prop := wb_X12_wait_219 B36 S a0 x1 x2 x3 x4 x6 xs0 (0 : Int32) Q
set_option maxHeartbeats 4000000 in
set_option maxRecDepth 100000 in
theorem cb_X12_wait_218 {p : Program} {l : Launch} {e : Env} {s : State} {m : MethodId} {args : Array Value} {below : List Frame} {meth : Method} {c : Code} {D : va_G} {cy : Nat → ClassId} {lo : Nat} {B36 : q_S → Nat → Int32 → Int32 → Int32 → Int32 → Int32 → Int32 → Prop} {S : q_S} {a0 : Nat} {x1 : Int32} {x2 : Int32} {x3 : Int32} {x4 : Int32} {x6 : Int32} {xs0 : Int32} {Q : Option Value → q_S → Prop} {H : Heap} {locs : List Loc} {ls : Array Slot} (X : q_X p s m args meth c RX12 cX12_wait 9 (some .int) D cy lo) (hB36 : ∀ (S : q_S) (a0 : Nat) (x1 : Int32) (x2 : Int32) (x3 : Int32) (x4 : Int32) (x5 : Int32) (x6 : Int32) (H : Heap) (locs : List Loc) (ls : Array Slot), B36 S a0 x1 x2 x3 x4 x5 x6 → q_Y D cy lo s S H locs → lv_has ls 9 [(0, .ref a0), (1, .int x1), (2, .int x2), (3, .int x3), (4, .int x4), (5, .int x5), (6, .int x6)] → W p l e ({ frames := 1, cells := 0, slots := 0, locals := 21 } : Room) s m args below meth c H locs 0 0 (MQ below (q_Q D cy lo Q) args s 0 0 (fun q => lo ≤ q)) (F0 m 36 ls [])) (Y : q_Y D cy lo s S H locs) (hl : lv_has ls 9 [(0, .ref a0), (1, .int x1), (2, .int x2), (3, .int x3), (4, .int x4), (6, .int x6)]) (h : wb_X12_wait_218 B36 S a0 x1 x2 x3 x4 x6 xs0 Q) : W p l e ({ frames := 1, cells := 0, slots := 0, locals := 21 } : Room) s m args below meth c H locs 0 0 (MQ below (q_Q D cy lo Q) args s 0 0 (fun q => lo ≤ q)) (F0 m 218 ls [.int xs0]) := by
  have hx := X.1
  have hb := X.2.1
  unfold wb_X12_wait_218 at h
  refine lv_iconst (v := 0) hx hb dX12_wait_218 (by decide) ?_
  exact cb_X12_wait_219 X hB36 Y (lv_sub hl [0, 1, 2, 3, 4, 5] rfl) h
def wb_X12_wait_193 (B36 : q_S → Nat → Int32 → Int32 → Int32 → Int32 → Int32 → Int32 → Prop) (S : q_S) (a0 : Nat) (x1 : Int32) (x2 : Int32) (x3 : Int32) (x4 : Int32) (x5 : Int32) (x6 : Int32) (xs0 : Int32) (Q : Option Value → q_S → Prop) : Prop := ((xs0 = 0 → (wb_X12_wait_218 B36 S a0 x1 x2 x3 x4 x6 x5 Q)) ∧ (¬ xs0 = 0 → (q_K S a0 = 13 ∧ (∃ a3_ : Nat, (q_P S 2479 a0) = some a3_ ∧ (q_K S a3_ = 21 ∧ (vp_in x6 (q_N S a3_) ∧ (((¬ (q_A S a3_ x6.toNatClampNeg) = x4 → (wb_X12_wait_218 B36 S a0 x1 x2 x3 x4 x6 x5 Q)) ∧ ((q_A S a3_ x6.toNatClampNeg) = x4 → (wb_X12_wait_219 B36 S a0 x1 x2 x3 x4 x6 x5 (1 : Int32) Q))))))))))
set_option maxHeartbeats 4000000 in
set_option maxRecDepth 100000 in
theorem cb_X12_wait_193 {p : Program} {l : Launch} {e : Env} {s : State} {m : MethodId} {args : Array Value} {below : List Frame} {meth : Method} {c : Code} {D : va_G} {cy : Nat → ClassId} {lo : Nat} {B36 : q_S → Nat → Int32 → Int32 → Int32 → Int32 → Int32 → Int32 → Prop} {S : q_S} {a0 : Nat} {x1 : Int32} {x2 : Int32} {x3 : Int32} {x4 : Int32} {x5 : Int32} {x6 : Int32} {xs0 : Int32} {Q : Option Value → q_S → Prop} {H : Heap} {locs : List Loc} {ls : Array Slot} (X : q_X p s m args meth c RX12 cX12_wait 9 (some .int) D cy lo) (hB36 : ∀ (S : q_S) (a0 : Nat) (x1 : Int32) (x2 : Int32) (x3 : Int32) (x4 : Int32) (x5 : Int32) (x6 : Int32) (H : Heap) (locs : List Loc) (ls : Array Slot), B36 S a0 x1 x2 x3 x4 x5 x6 → q_Y D cy lo s S H locs → lv_has ls 9 [(0, .ref a0), (1, .int x1), (2, .int x2), (3, .int x3), (4, .int x4), (5, .int x5), (6, .int x6)] → W p l e ({ frames := 1, cells := 0, slots := 0, locals := 21 } : Room) s m args below meth c H locs 0 0 (MQ below (q_Q D cy lo Q) args s 0 0 (fun q => lo ≤ q)) (F0 m 36 ls [])) (Y : q_Y D cy lo s S H locs) (hl : lv_has ls 9 [(0, .ref a0), (1, .int x1), (2, .int x2), (3, .int x3), (4, .int x4), (5, .int x5), (6, .int x6)]) (h : wb_X12_wait_193 B36 S a0 x1 x2 x3 x4 x5 x6 xs0 Q) : W p l e ({ frames := 1, cells := 0, slots := 0, locals := 21 } : Room) s m args below meth c H locs 0 0 (MQ below (q_Q D cy lo Q) args s 0 0 (fun q => lo ≤ q)) (F0 m 193 ls [.int xs0]) := by
  have hx := X.1
  have hb := X.2.1
  unfold wb_X12_wait_193 at h
  refine lv_istore (i := 8) (lv' := [(8, .int xs0), (0, .ref a0), (1, .int x1), (2, .int x2), (3, .int x3), (4, .int x4), (5, .int x5), (6, .int x6)]) hx hb dX12_wait_193 hl (by decide) (by first | rfl | simp [q_cat, q_catI, q_catJ, q_catR]) (fun ls hl => ?_)
  refine lv_iload hx hb dX12_wait_195 (lv_at hl 6 rfl) ?_
  refine lv_iload hx hb dX12_wait_197 (lv_at hl 0 rfl) ?_
  refine lv_if_eq (tgt := 218) hx hb dX12_wait_199 (by decide) (fun c1_ => ?_) (fun c1_ => ?_)
  · replace h := h.1 c1_
    exact cb_X12_wait_218 X hB36 Y (lv_sub hl [1, 2, 3, 4, 5, 7] rfl) h
  · replace h := h.2 c1_
    refine lv_aload_n hx hb dX12_wait_202 rfl (lv_at hl 1 rfl) ?_
    obtain ⟨k2_, h⟩ := h
    refine q_getP X Y kX12 79 rfl fl_X12_185 k2_ rfl dX12_wait_203 ?_
    refine lv_iload hx hb dX12_wait_206 (lv_at hl 7 rfl) ?_
    obtain ⟨a3_, e4_, h⟩ := h
    refine q_nn [.int x6] e4_ ?_
    obtain ⟨k5_, h⟩ := h
    obtain ⟨i6_, h⟩ := h
    refine q_ild X Y k5_ i6_ dX12_wait_208 ?_
    refine lv_iload hx hb dX12_wait_209 (lv_at hl 5 rfl) ?_
    refine lv_icmp_ne (tgt := 218) hx hb dX12_wait_211 (by decide) (fun c7_ => ?_) (fun c7_ => ?_)
    · replace h := h.1 c7_
      exact cb_X12_wait_218 X hB36 Y (lv_sub hl [1, 2, 3, 4, 5, 7] rfl) h
    · replace h := h.2 c7_
      refine lv_iconst (v := 1) hx hb dX12_wait_214 (by decide) ?_
      refine lv_goto (tgt := 219) hx hb dX12_wait_215 (by decide) ?_
      exact cb_X12_wait_219 X hB36 Y (lv_sub hl [1, 2, 3, 4, 5, 7] rfl) h
def wb_X12_wait_124 (B36 : q_S → Nat → Int32 → Int32 → Int32 → Int32 → Int32 → Int32 → Prop) (S : q_S) (a0 : Nat) (x1 : Int32) (x2 : Int32) (x3 : Int32) (x4 : Int32) (x5 : Int32) (x6 : Int32) (Q : Option Value → q_S → Prop) : Prop := wb_X12_wait_193 B36 S a0 x1 x2 x3 x4 x5 x6 (1 : Int32) Q
set_option maxHeartbeats 4000000 in
set_option maxRecDepth 100000 in
theorem cb_X12_wait_124 {p : Program} {l : Launch} {e : Env} {s : State} {m : MethodId} {args : Array Value} {below : List Frame} {meth : Method} {c : Code} {D : va_G} {cy : Nat → ClassId} {lo : Nat} {B36 : q_S → Nat → Int32 → Int32 → Int32 → Int32 → Int32 → Int32 → Prop} {S : q_S} {a0 : Nat} {x1 : Int32} {x2 : Int32} {x3 : Int32} {x4 : Int32} {x5 : Int32} {x6 : Int32} {Q : Option Value → q_S → Prop} {H : Heap} {locs : List Loc} {ls : Array Slot} (X : q_X p s m args meth c RX12 cX12_wait 9 (some .int) D cy lo) (hB36 : ∀ (S : q_S) (a0 : Nat) (x1 : Int32) (x2 : Int32) (x3 : Int32) (x4 : Int32) (x5 : Int32) (x6 : Int32) (H : Heap) (locs : List Loc) (ls : Array Slot), B36 S a0 x1 x2 x3 x4 x5 x6 → q_Y D cy lo s S H locs → lv_has ls 9 [(0, .ref a0), (1, .int x1), (2, .int x2), (3, .int x3), (4, .int x4), (5, .int x5), (6, .int x6)] → W p l e ({ frames := 1, cells := 0, slots := 0, locals := 21 } : Room) s m args below meth c H locs 0 0 (MQ below (q_Q D cy lo Q) args s 0 0 (fun q => lo ≤ q)) (F0 m 36 ls [])) (Y : q_Y D cy lo s S H locs) (hl : lv_has ls 9 [(0, .ref a0), (1, .int x1), (2, .int x2), (3, .int x3), (4, .int x4), (5, .int x5), (6, .int x6)]) (h : wb_X12_wait_124 B36 S a0 x1 x2 x3 x4 x5 x6 Q) : W p l e ({ frames := 1, cells := 0, slots := 0, locals := 21 } : Room) s m args below meth c H locs 0 0 (MQ below (q_Q D cy lo Q) args s 0 0 (fun q => lo ≤ q)) (F0 m 124 ls []) := by
  have hx := X.1
  have hb := X.2.1
  unfold wb_X12_wait_124 at h
  refine lv_iconst (v := 1) hx hb dX12_wait_124 (by decide) ?_
  refine lv_goto (tgt := 193) hx hb dX12_wait_125 (by decide) ?_
  exact cb_X12_wait_193 X hB36 Y (lv_sub hl [0, 1, 2, 3, 4, 5, 6] rfl) h
def wb_X12_wait_192 (B36 : q_S → Nat → Int32 → Int32 → Int32 → Int32 → Int32 → Int32 → Prop) (S : q_S) (a0 : Nat) (x1 : Int32) (x2 : Int32) (x3 : Int32) (x4 : Int32) (x5 : Int32) (x6 : Int32) (Q : Option Value → q_S → Prop) : Prop := wb_X12_wait_193 B36 S a0 x1 x2 x3 x4 x5 x6 (0 : Int32) Q
set_option maxHeartbeats 4000000 in
set_option maxRecDepth 100000 in
theorem cb_X12_wait_192 {p : Program} {l : Launch} {e : Env} {s : State} {m : MethodId} {args : Array Value} {below : List Frame} {meth : Method} {c : Code} {D : va_G} {cy : Nat → ClassId} {lo : Nat} {B36 : q_S → Nat → Int32 → Int32 → Int32 → Int32 → Int32 → Int32 → Prop} {S : q_S} {a0 : Nat} {x1 : Int32} {x2 : Int32} {x3 : Int32} {x4 : Int32} {x5 : Int32} {x6 : Int32} {Q : Option Value → q_S → Prop} {H : Heap} {locs : List Loc} {ls : Array Slot} (X : q_X p s m args meth c RX12 cX12_wait 9 (some .int) D cy lo) (hB36 : ∀ (S : q_S) (a0 : Nat) (x1 : Int32) (x2 : Int32) (x3 : Int32) (x4 : Int32) (x5 : Int32) (x6 : Int32) (H : Heap) (locs : List Loc) (ls : Array Slot), B36 S a0 x1 x2 x3 x4 x5 x6 → q_Y D cy lo s S H locs → lv_has ls 9 [(0, .ref a0), (1, .int x1), (2, .int x2), (3, .int x3), (4, .int x4), (5, .int x5), (6, .int x6)] → W p l e ({ frames := 1, cells := 0, slots := 0, locals := 21 } : Room) s m args below meth c H locs 0 0 (MQ below (q_Q D cy lo Q) args s 0 0 (fun q => lo ≤ q)) (F0 m 36 ls [])) (Y : q_Y D cy lo s S H locs) (hl : lv_has ls 9 [(0, .ref a0), (1, .int x1), (2, .int x2), (3, .int x3), (4, .int x4), (5, .int x5), (6, .int x6)]) (h : wb_X12_wait_192 B36 S a0 x1 x2 x3 x4 x5 x6 Q) : W p l e ({ frames := 1, cells := 0, slots := 0, locals := 21 } : Room) s m args below meth c H locs 0 0 (MQ below (q_Q D cy lo Q) args s 0 0 (fun q => lo ≤ q)) (F0 m 192 ls []) := by
  have hx := X.1
  have hb := X.2.1
  unfold wb_X12_wait_192 at h
  refine lv_iconst (v := 0) hx hb dX12_wait_192 (by decide) ?_
  exact cb_X12_wait_193 X hB36 Y (lv_sub hl [0, 1, 2, 3, 4, 5, 6] rfl) h
def wb_X12_wait_174 (B36 : q_S → Nat → Int32 → Int32 → Int32 → Int32 → Int32 → Int32 → Prop) (S : q_S) (a0 : Nat) (x1 : Int32) (x2 : Int32) (x3 : Int32) (x4 : Int32) (x5 : Int32) (x6 : Int32) (xs0 : Int32) (xs1 : Int32) (Q : Option Value → q_S → Prop) : Prop := ((¬ xs0 = xs1 → (wb_X12_wait_192 B36 S a0 x1 x2 x3 x4 x5 x6 Q)) ∧ (xs0 = xs1 → (q_K S a0 = 13 ∧ (∃ a10_ : Nat, (q_P S 2480 a0) = some a10_ ∧ (q_K S a10_ = 21 ∧ (vp_in x6 (q_N S a10_) ∧ (((¬ (q_A S a10_ x6.toNatClampNeg) = x3 → (wb_X12_wait_192 B36 S a0 x1 x2 x3 x4 x5 x6 Q)) ∧ ((q_A S a10_ x6.toNatClampNeg) = x3 → (wb_X12_wait_193 B36 S a0 x1 x2 x3 x4 x5 x6 (1 : Int32) Q))))))))))
set_option maxHeartbeats 4000000 in
set_option maxRecDepth 100000 in
theorem cb_X12_wait_174 {p : Program} {l : Launch} {e : Env} {s : State} {m : MethodId} {args : Array Value} {below : List Frame} {meth : Method} {c : Code} {D : va_G} {cy : Nat → ClassId} {lo : Nat} {B36 : q_S → Nat → Int32 → Int32 → Int32 → Int32 → Int32 → Int32 → Prop} {S : q_S} {a0 : Nat} {x1 : Int32} {x2 : Int32} {x3 : Int32} {x4 : Int32} {x5 : Int32} {x6 : Int32} {xs0 : Int32} {xs1 : Int32} {Q : Option Value → q_S → Prop} {H : Heap} {locs : List Loc} {ls : Array Slot} (X : q_X p s m args meth c RX12 cX12_wait 9 (some .int) D cy lo) (hB36 : ∀ (S : q_S) (a0 : Nat) (x1 : Int32) (x2 : Int32) (x3 : Int32) (x4 : Int32) (x5 : Int32) (x6 : Int32) (H : Heap) (locs : List Loc) (ls : Array Slot), B36 S a0 x1 x2 x3 x4 x5 x6 → q_Y D cy lo s S H locs → lv_has ls 9 [(0, .ref a0), (1, .int x1), (2, .int x2), (3, .int x3), (4, .int x4), (5, .int x5), (6, .int x6)] → W p l e ({ frames := 1, cells := 0, slots := 0, locals := 21 } : Room) s m args below meth c H locs 0 0 (MQ below (q_Q D cy lo Q) args s 0 0 (fun q => lo ≤ q)) (F0 m 36 ls [])) (Y : q_Y D cy lo s S H locs) (hl : lv_has ls 9 [(0, .ref a0), (1, .int x1), (2, .int x2), (3, .int x3), (4, .int x4), (5, .int x5), (6, .int x6)]) (h : wb_X12_wait_174 B36 S a0 x1 x2 x3 x4 x5 x6 xs0 xs1 Q) : W p l e ({ frames := 1, cells := 0, slots := 0, locals := 21 } : Room) s m args below meth c H locs 0 0 (MQ below (q_Q D cy lo Q) args s 0 0 (fun q => lo ≤ q)) (F0 m 174 ls [.int xs1, .int xs0]) := by
  have hx := X.1
  have hb := X.2.1
  unfold wb_X12_wait_174 at h
  refine lv_icmp_ne (tgt := 192) hx hb dX12_wait_174 (by decide) (fun c8_ => ?_) (fun c8_ => ?_)
  · replace h := h.1 c8_
    exact cb_X12_wait_192 X hB36 Y (lv_sub hl [0, 1, 2, 3, 4, 5, 6] rfl) h
  · replace h := h.2 c8_
    refine lv_aload_n hx hb dX12_wait_177 rfl (lv_at hl 0 rfl) ?_
    obtain ⟨k9_, h⟩ := h
    refine q_getP X Y kX12 80 rfl fl_X12_188 k9_ rfl dX12_wait_178 ?_
    refine lv_iload hx hb dX12_wait_181 (lv_at hl 6 rfl) ?_
    obtain ⟨a10_, e11_, h⟩ := h
    refine q_nn [.int x6] e11_ ?_
    obtain ⟨k12_, h⟩ := h
    obtain ⟨i13_, h⟩ := h
    refine q_ild X Y k12_ i13_ dX12_wait_183 ?_
    refine lv_iload_n hx hb dX12_wait_184 rfl (lv_at hl 3 rfl) ?_
    refine lv_icmp_ne (tgt := 192) hx hb dX12_wait_185 (by decide) (fun c14_ => ?_) (fun c14_ => ?_)
    · replace h := h.1 c14_
      exact cb_X12_wait_192 X hB36 Y (lv_sub hl [0, 1, 2, 3, 4, 5, 6] rfl) h
    · replace h := h.2 c14_
      refine lv_iconst (v := 1) hx hb dX12_wait_188 (by decide) ?_
      refine lv_goto (tgt := 193) hx hb dX12_wait_189 (by decide) ?_
      exact cb_X12_wait_193 X hB36 Y (lv_sub hl [0, 1, 2, 3, 4, 5, 6] rfl) h
def wb_X12_wait_68 (B36 : q_S → Nat → Int32 → Int32 → Int32 → Int32 → Int32 → Int32 → Prop) (S : q_S) (a0 : Nat) (x1 : Int32) (x2 : Int32) (x3 : Int32) (x4 : Int32) (x5 : Int32) (x6 : Int32) (xs0 : Int32) (Q : Option Value → q_S → Prop) : Prop := ((¬ x2 = 0 → (((¬ x2 = (1 : Int32) → (((¬ x2 = (2 : Int32) → (((¬ x2 = (3 : Int32) → (q_K S a0 = 13 ∧ (∃ a20_ : Nat, (q_P S 2448 a0) = some a20_ ∧ (q_K S a20_ = 22 ∧ (vp_in (((16 : Int32) * x1) + x3) (q_N S a20_) ∧ ((((q_A S a20_ (((16 : Int32) * x1) + x3).toNatClampNeg) = 0 → (wb_X12_wait_174 B36 S a0 x1 x2 x3 x4 x5 x6 xs0 (6 : Int32) Q)) ∧ (¬ (q_A S a20_ (((16 : Int32) * x1) + x3).toNatClampNeg) = 0 → (wb_X12_wait_174 B36 S a0 x1 x2 x3 x4 x5 x6 xs0 (7 : Int32) Q))))))))) ∧ (x2 = (3 : Int32) → (((¬ xs0 = (5 : Int32) → (wb_X12_wait_193 B36 S a0 x1 x2 x3 x4 x5 x6 (0 : Int32) Q)) ∧ (xs0 = (5 : Int32) → (wb_X12_wait_193 B36 S a0 x1 x2 x3 x4 x5 x6 (1 : Int32) Q)))))))) ∧ (x2 = (2 : Int32) → (((xs0 = (3 : Int32) → (wb_X12_wait_124 B36 S a0 x1 x2 x3 x4 x5 x6 Q)) ∧ (¬ xs0 = (3 : Int32) → (((¬ xs0 = (4 : Int32) → (wb_X12_wait_193 B36 S a0 x1 x2 x3 x4 x5 x6 (0 : Int32) Q)) ∧ (xs0 = (4 : Int32) → (wb_X12_wait_124 B36 S a0 x1 x2 x3 x4 x5 x6 Q))))))))))) ∧ (x2 = (1 : Int32) → (((¬ xs0 = (2 : Int32) → (wb_X12_wait_193 B36 S a0 x1 x2 x3 x4 x5 x6 (0 : Int32) Q)) ∧ (xs0 = (2 : Int32) → (wb_X12_wait_193 B36 S a0 x1 x2 x3 x4 x5 x6 (1 : Int32) Q)))))))) ∧ (x2 = 0 → (((¬ xs0 = (1 : Int32) → (wb_X12_wait_193 B36 S a0 x1 x2 x3 x4 x5 x6 (0 : Int32) Q)) ∧ (xs0 = (1 : Int32) → (wb_X12_wait_193 B36 S a0 x1 x2 x3 x4 x5 x6 (1 : Int32) Q))))))
set_option maxHeartbeats 4000000 in
set_option maxRecDepth 100000 in
theorem cb_X12_wait_68 {p : Program} {l : Launch} {e : Env} {s : State} {m : MethodId} {args : Array Value} {below : List Frame} {meth : Method} {c : Code} {D : va_G} {cy : Nat → ClassId} {lo : Nat} {B36 : q_S → Nat → Int32 → Int32 → Int32 → Int32 → Int32 → Int32 → Prop} {S : q_S} {a0 : Nat} {x1 : Int32} {x2 : Int32} {x3 : Int32} {x4 : Int32} {x5 : Int32} {x6 : Int32} {xs0 : Int32} {Q : Option Value → q_S → Prop} {H : Heap} {locs : List Loc} {ls : Array Slot} (X : q_X p s m args meth c RX12 cX12_wait 9 (some .int) D cy lo) (hB36 : ∀ (S : q_S) (a0 : Nat) (x1 : Int32) (x2 : Int32) (x3 : Int32) (x4 : Int32) (x5 : Int32) (x6 : Int32) (H : Heap) (locs : List Loc) (ls : Array Slot), B36 S a0 x1 x2 x3 x4 x5 x6 → q_Y D cy lo s S H locs → lv_has ls 9 [(0, .ref a0), (1, .int x1), (2, .int x2), (3, .int x3), (4, .int x4), (5, .int x5), (6, .int x6)] → W p l e ({ frames := 1, cells := 0, slots := 0, locals := 21 } : Room) s m args below meth c H locs 0 0 (MQ below (q_Q D cy lo Q) args s 0 0 (fun q => lo ≤ q)) (F0 m 36 ls [])) (Y : q_Y D cy lo s S H locs) (hl : lv_has ls 9 [(0, .ref a0), (1, .int x1), (2, .int x2), (3, .int x3), (4, .int x4), (5, .int x5), (6, .int x6)]) (h : wb_X12_wait_68 B36 S a0 x1 x2 x3 x4 x5 x6 xs0 Q) : W p l e ({ frames := 1, cells := 0, slots := 0, locals := 21 } : Room) s m args below meth c H locs 0 0 (MQ below (q_Q D cy lo Q) args s 0 0 (fun q => lo ≤ q)) (F0 m 68 ls [.int xs0]) := by
  have hx := X.1
  have hb := X.2.1
  unfold wb_X12_wait_68 at h
  refine lv_istore (i := 7) (lv' := [(7, .int xs0), (0, .ref a0), (1, .int x1), (2, .int x2), (3, .int x3), (4, .int x4), (5, .int x5), (6, .int x6)]) hx hb dX12_wait_68 hl (by decide) (by first | rfl | simp [q_cat, q_catI, q_catJ, q_catR]) (fun ls hl => ?_)
  refine lv_iload_n hx hb dX12_wait_70 rfl (lv_at hl 3 rfl) ?_
  refine lv_if_ne (tgt := 88) hx hb dX12_wait_71 (by decide) (fun c15_ => ?_) (fun c15_ => ?_)
  · replace h := h.1 c15_
    refine lv_iload_n hx hb dX12_wait_88 rfl (lv_at hl 3 rfl) ?_
    refine lv_iconst (v := 1) hx hb dX12_wait_89 (by decide) ?_
    refine lv_icmp_ne (tgt := 107) hx hb dX12_wait_90 (by decide) (fun c16_ => ?_) (fun c16_ => ?_)
    · replace h := h.1 c16_
      refine lv_iload_n hx hb dX12_wait_107 rfl (lv_at hl 3 rfl) ?_
      refine lv_iconst (v := 2) hx hb dX12_wait_108 (by decide) ?_
      refine lv_icmp_ne (tgt := 132) hx hb dX12_wait_109 (by decide) (fun c17_ => ?_) (fun c17_ => ?_)
      · replace h := h.1 c17_
        refine lv_iload_n hx hb dX12_wait_132 rfl (lv_at hl 3 rfl) ?_
        refine lv_iconst (v := 3) hx hb dX12_wait_133 (by decide) ?_
        refine lv_icmp_ne (tgt := 151) hx hb dX12_wait_134 (by decide) (fun c18_ => ?_) (fun c18_ => ?_)
        · replace h := h.1 c18_
          refine lv_iload hx hb dX12_wait_151 (lv_at hl 0 rfl) ?_
          refine lv_aload_n hx hb dX12_wait_153 rfl (lv_at hl 1 rfl) ?_
          obtain ⟨k19_, h⟩ := h
          refine q_getP X Y kX12 48 rfl fl_X12_100 k19_ rfl dX12_wait_154 ?_
          refine lv_bipush (v := 16) hx hb dX12_wait_157 (by decide) ?_
          refine lv_iload_n hx hb dX12_wait_159 rfl (lv_at hl 2 rfl) ?_
          refine lv_imul hx hb dX12_wait_160 ?_
          refine lv_iload_n hx hb dX12_wait_161 rfl (lv_at hl 4 rfl) ?_
          refine lv_iadd hx hb dX12_wait_162 ?_
          obtain ⟨a20_, e21_, h⟩ := h
          refine q_nn [.int (((16 : Int32) * x1) + x3)] e21_ ?_
          obtain ⟨k22_, h⟩ := h
          obtain ⟨i23_, h⟩ := h
          refine q_zld X Y k22_ i23_ dX12_wait_163 ?_
          refine lv_if_eq (tgt := 172) hx hb dX12_wait_164 (by decide) (fun c24_ => ?_) (fun c24_ => ?_)
          · replace h := h.1 c24_
            refine lv_bipush (v := 6) hx hb dX12_wait_172 (by decide) ?_
            exact cb_X12_wait_174 X hB36 Y (lv_sub hl [1, 2, 3, 4, 5, 6, 7] rfl) h
          · replace h := h.2 c24_
            refine lv_bipush (v := 7) hx hb dX12_wait_167 (by decide) ?_
            refine lv_goto (tgt := 174) hx hb dX12_wait_169 (by decide) ?_
            exact cb_X12_wait_174 X hB36 Y (lv_sub hl [1, 2, 3, 4, 5, 6, 7] rfl) h
        · replace h := h.2 c18_
          refine lv_iload hx hb dX12_wait_137 (lv_at hl 0 rfl) ?_
          refine lv_iconst (v := 5) hx hb dX12_wait_139 (by decide) ?_
          refine lv_icmp_ne (tgt := 147) hx hb dX12_wait_140 (by decide) (fun c25_ => ?_) (fun c25_ => ?_)
          · replace h := h.1 c25_
            refine lv_iconst (v := 0) hx hb dX12_wait_147 (by decide) ?_
            refine lv_goto (tgt := 193) hx hb dX12_wait_148 (by decide) ?_
            exact cb_X12_wait_193 X hB36 Y (lv_sub hl [1, 2, 3, 4, 5, 6, 7] rfl) h
          · replace h := h.2 c25_
            refine lv_iconst (v := 1) hx hb dX12_wait_143 (by decide) ?_
            refine lv_goto (tgt := 193) hx hb dX12_wait_144 (by decide) ?_
            exact cb_X12_wait_193 X hB36 Y (lv_sub hl [1, 2, 3, 4, 5, 6, 7] rfl) h
      · replace h := h.2 c17_
        refine lv_iload hx hb dX12_wait_112 (lv_at hl 0 rfl) ?_
        refine lv_iconst (v := 3) hx hb dX12_wait_114 (by decide) ?_
        refine lv_icmp_eq (tgt := 124) hx hb dX12_wait_115 (by decide) (fun c26_ => ?_) (fun c26_ => ?_)
        · replace h := h.1 c26_
          exact cb_X12_wait_124 X hB36 Y (lv_sub hl [1, 2, 3, 4, 5, 6, 7] rfl) h
        · replace h := h.2 c26_
          refine lv_iload hx hb dX12_wait_118 (lv_at hl 0 rfl) ?_
          refine lv_iconst (v := 4) hx hb dX12_wait_120 (by decide) ?_
          refine lv_icmp_ne (tgt := 128) hx hb dX12_wait_121 (by decide) (fun c27_ => ?_) (fun c27_ => ?_)
          · replace h := h.1 c27_
            refine lv_iconst (v := 0) hx hb dX12_wait_128 (by decide) ?_
            refine lv_goto (tgt := 193) hx hb dX12_wait_129 (by decide) ?_
            exact cb_X12_wait_193 X hB36 Y (lv_sub hl [1, 2, 3, 4, 5, 6, 7] rfl) h
          · replace h := h.2 c27_
            exact cb_X12_wait_124 X hB36 Y (lv_sub hl [1, 2, 3, 4, 5, 6, 7] rfl) h
    · replace h := h.2 c16_
      refine lv_iload hx hb dX12_wait_93 (lv_at hl 0 rfl) ?_
      refine lv_iconst (v := 2) hx hb dX12_wait_95 (by decide) ?_
      refine lv_icmp_ne (tgt := 103) hx hb dX12_wait_96 (by decide) (fun c28_ => ?_) (fun c28_ => ?_)
      · replace h := h.1 c28_
        refine lv_iconst (v := 0) hx hb dX12_wait_103 (by decide) ?_
        refine lv_goto (tgt := 193) hx hb dX12_wait_104 (by decide) ?_
        exact cb_X12_wait_193 X hB36 Y (lv_sub hl [1, 2, 3, 4, 5, 6, 7] rfl) h
      · replace h := h.2 c28_
        refine lv_iconst (v := 1) hx hb dX12_wait_99 (by decide) ?_
        refine lv_goto (tgt := 193) hx hb dX12_wait_100 (by decide) ?_
        exact cb_X12_wait_193 X hB36 Y (lv_sub hl [1, 2, 3, 4, 5, 6, 7] rfl) h
  · replace h := h.2 c15_
    refine lv_iload hx hb dX12_wait_74 (lv_at hl 0 rfl) ?_
    refine lv_iconst (v := 1) hx hb dX12_wait_76 (by decide) ?_
    refine lv_icmp_ne (tgt := 84) hx hb dX12_wait_77 (by decide) (fun c29_ => ?_) (fun c29_ => ?_)
    · replace h := h.1 c29_
      refine lv_iconst (v := 0) hx hb dX12_wait_84 (by decide) ?_
      refine lv_goto (tgt := 193) hx hb dX12_wait_85 (by decide) ?_
      exact cb_X12_wait_193 X hB36 Y (lv_sub hl [1, 2, 3, 4, 5, 6, 7] rfl) h
    · replace h := h.2 c29_
      refine lv_iconst (v := 1) hx hb dX12_wait_80 (by decide) ?_
      refine lv_goto (tgt := 193) hx hb dX12_wait_81 (by decide) ?_
      exact cb_X12_wait_193 X hB36 Y (lv_sub hl [1, 2, 3, 4, 5, 6, 7] rfl) h
def wb_X12_wait_36 (B36 : q_S → Nat → Int32 → Int32 → Int32 → Int32 → Int32 → Int32 → Prop) (S : q_S) (a0 : Nat) (x1 : Int32) (x2 : Int32) (x3 : Int32) (x4 : Int32) (x5 : Int32) (x6 : Int32) (Q : Option Value → q_S → Prop) : Prop := q_K S a0 = 13 ∧ (wm_X12_lastOf S a0 x1 (fun r31_ S32_ => ∃ x33_ : Int32, r31_ = some (.int x33_) ∧ (((x33_ ≤ x6 → (Q (some (.int x5)) S32_)) ∧ (¬ x33_ ≤ x6 → (q_K S32_ a0 = 13 ∧ (∃ a36_ : Nat, (q_P S32_ 2467 a0) = some a36_ ∧ (q_K S32_ a36_ = 21 ∧ (vp_in x6 (q_N S32_ a36_) ∧ (((¬ (q_A S32_ a36_ x6.toNatClampNeg) = (2 : Int32) → (wb_X12_wait_68 B36 S32_ a0 x1 x2 x3 x4 x5 x6 (0 : Int32) Q)) ∧ ((q_A S32_ a36_ x6.toNatClampNeg) = (2 : Int32) → (∃ a41_ : Nat, (q_P S32_ 2478 a0) = some a41_ ∧ (q_K S32_ a41_ = 21 ∧ (vp_in x6 (q_N S32_ a41_) ∧ (wb_X12_wait_68 B36 S32_ a0 x1 x2 x3 x4 x5 x6 (q_A S32_ a41_ x6.toNatClampNeg) Q))))))))))))))))
set_option maxHeartbeats 4000000 in
set_option maxRecDepth 100000 in
theorem cb_X12_wait_36 {p : Program} {l : Launch} {e : Env} {s : State} {m : MethodId} {args : Array Value} {below : List Frame} {meth : Method} {c : Code} {D : va_G} {cy : Nat → ClassId} {lo : Nat} {B36 : q_S → Nat → Int32 → Int32 → Int32 → Int32 → Int32 → Int32 → Prop} {S : q_S} {a0 : Nat} {x1 : Int32} {x2 : Int32} {x3 : Int32} {x4 : Int32} {x5 : Int32} {x6 : Int32} {Q : Option Value → q_S → Prop} {H : Heap} {locs : List Loc} {ls : Array Slot} (X : q_X p s m args meth c RX12 cX12_wait 9 (some .int) D cy lo) (hB36 : ∀ (S : q_S) (a0 : Nat) (x1 : Int32) (x2 : Int32) (x3 : Int32) (x4 : Int32) (x5 : Int32) (x6 : Int32) (H : Heap) (locs : List Loc) (ls : Array Slot), B36 S a0 x1 x2 x3 x4 x5 x6 → q_Y D cy lo s S H locs → lv_has ls 9 [(0, .ref a0), (1, .int x1), (2, .int x2), (3, .int x3), (4, .int x4), (5, .int x5), (6, .int x6)] → W p l e ({ frames := 1, cells := 0, slots := 0, locals := 21 } : Room) s m args below meth c H locs 0 0 (MQ below (q_Q D cy lo Q) args s 0 0 (fun q => lo ≤ q)) (F0 m 36 ls [])) (Y : q_Y D cy lo s S H locs) (hl : lv_has ls 9 [(0, .ref a0), (1, .int x1), (2, .int x2), (3, .int x3), (4, .int x4), (5, .int x5), (6, .int x6)]) (h : wb_X12_wait_36 B36 S a0 x1 x2 x3 x4 x5 x6 Q) : W p l e ({ frames := 1, cells := 0, slots := 0, locals := 21 } : Room) s m args below meth c H locs 0 0 (MQ below (q_Q D cy lo Q) args s 0 0 (fun q => lo ≤ q)) (F0 m 36 ls []) := by
  have hx := X.1
  have hb := X.2.1
  unfold wb_X12_wait_36 at h
  refine lv_iload hx hb dX12_wait_36 (lv_at hl 6 rfl) ?_
  refine lv_aload_n hx hb dX12_wait_38 rfl (lv_at hl 0 rfl) ?_
  refine lv_iload_n hx hb dX12_wait_39 rfl (lv_at hl 1 rfl) ?_
  obtain ⟨k30_, h⟩ := h
  refine q_callV X Y hl (cm_X12_lastOf h) mt_X12_lastOf mi_X12_lastOf ml_X12_499 (ci := 12) rfl k30_ (by decide) rfl rfl (by first | exact Nat.le_of_ble_eq_true rfl | simp [q_cat, q_catI, q_catJ, q_catR]) ⟨Nat.le_of_ble_eq_true rfl, Nat.le_of_ble_eq_true rfl⟩ ⟨Nat.le_of_ble_eq_true rfl, Nat.le_of_ble_eq_true rfl⟩ dX12_wait_40 (fun r31_ S32_ H locs hp Y => ?_)
  obtain ⟨x33_, rfl, h⟩ := hp
  refine W.eq (g2 := F0 m 43 ls [.int x33_, .int x6]) rfl ?_
  refine lv_icmp_ge (tgt := 228) hx hb dX12_wait_43 (by decide) (fun c34_ => ?_) (fun c34_ => ?_)
  · replace h := h.1 c34_
    refine lv_iload hx hb dX12_wait_228 (lv_at hl 5 rfl) ?_
    exact q_iret X Y rfl (Nat.le_refl _) (Nat.le_refl _) h dX12_wait_230
  · replace h := h.2 c34_
    refine lv_aload_n hx hb dX12_wait_46 rfl (lv_at hl 0 rfl) ?_
    obtain ⟨k35_, h⟩ := h
    refine q_getP X Y kX12 67 rfl fl_X12_149 k35_ rfl dX12_wait_47 ?_
    refine lv_iload hx hb dX12_wait_50 (lv_at hl 6 rfl) ?_
    obtain ⟨a36_, e37_, h⟩ := h
    refine q_nn [.int x6] e37_ ?_
    obtain ⟨k38_, h⟩ := h
    obtain ⟨i39_, h⟩ := h
    refine q_ild X Y k38_ i39_ dX12_wait_52 ?_
    refine lv_iconst (v := 2) hx hb dX12_wait_53 (by decide) ?_
    refine lv_icmp_ne (tgt := 67) hx hb dX12_wait_54 (by decide) (fun c40_ => ?_) (fun c40_ => ?_)
    · replace h := h.1 c40_
      refine lv_iconst (v := 0) hx hb dX12_wait_67 (by decide) ?_
      exact cb_X12_wait_68 X hB36 Y (lv_sub hl [0, 1, 2, 3, 4, 5, 6] rfl) h
    · replace h := h.2 c40_
      refine lv_aload_n hx hb dX12_wait_57 rfl (lv_at hl 0 rfl) ?_
      refine q_getP X Y kX12 78 rfl fl_X12_182 k35_ rfl dX12_wait_58 ?_
      refine lv_iload hx hb dX12_wait_61 (lv_at hl 6 rfl) ?_
      obtain ⟨a41_, e42_, h⟩ := h
      refine q_nn [.int x6] e42_ ?_
      obtain ⟨k43_, h⟩ := h
      obtain ⟨i44_, h⟩ := h
      refine q_ild X Y k43_ i44_ dX12_wait_63 ?_
      refine lv_goto (tgt := 68) hx hb dX12_wait_64 (by decide) ?_
      exact cb_X12_wait_68 X hB36 Y (lv_sub hl [0, 1, 2, 3, 4, 5, 6] rfl) h
def wl_X12_wait_36  : Nat → q_S → Nat → Int32 → Int32 → Int32 → Int32 → Int32 → Int32 → (Option Value → q_S → Prop) → Prop
  | 0, _, _, _, _, _, _, _, _, _ => False
  | n + 1, S, a0, x1, x2, x3, x4, x5, x6, Q => wb_X12_wait_36 (fun S a0 x1 x2 x3 x4 x5 x6 => wl_X12_wait_36 n S a0 x1 x2 x3 x4 x5 x6 Q) S a0 x1 x2 x3 x4 x5 x6 Q
set_option maxHeartbeats 4000000 in
set_option maxRecDepth 100000 in
theorem cl_X12_wait_36 {p : Program} {l : Launch} {e : Env} {s : State} {m : MethodId} {args : Array Value} {below : List Frame} {meth : Method} {c : Code} {D : va_G} {cy : Nat → ClassId} {lo : Nat}  {Q : Option Value → q_S → Prop} (X : q_X p s m args meth c RX12 cX12_wait 9 (some .int) D cy lo)  : ∀ (n : Nat) (S : q_S) (a0 : Nat) (x1 : Int32) (x2 : Int32) (x3 : Int32) (x4 : Int32) (x5 : Int32) (x6 : Int32) (H : Heap) (locs : List Loc) (ls : Array Slot), wl_X12_wait_36 n S a0 x1 x2 x3 x4 x5 x6 Q → q_Y D cy lo s S H locs → lv_has ls 9 [(0, .ref a0), (1, .int x1), (2, .int x2), (3, .int x3), (4, .int x4), (5, .int x5), (6, .int x6)] → W p l e ({ frames := 1, cells := 0, slots := 0, locals := 21 } : Room) s m args below meth c H locs 0 0 (MQ below (q_Q D cy lo Q) args s 0 0 (fun q => lo ≤ q)) (F0 m 36 ls []) := by
  intro n
  induction n with
  | zero => intro S a0 x1 x2 x3 x4 x5 x6 H locs ls h; exact absurd h id
  | succ n ih => intro S a0 x1 x2 x3 x4 x5 x6 H locs ls h Y hl; exact cb_X12_wait_36 X ih Y hl h
def wb_X12_wait_25  (S : q_S) (a0 : Nat) (x1 : Int32) (x2 : Int32) (x3 : Int32) (xs0 : Int32) (Q : Option Value → q_S → Prop) : Prop := ∃ n45_ : Nat, wl_X12_wait_36 n45_ S a0 x1 x2 x3 xs0 (0 : Int32) ((16 : Int32) * x1) Q
set_option maxHeartbeats 4000000 in
set_option maxRecDepth 100000 in
theorem cb_X12_wait_25 {p : Program} {l : Launch} {e : Env} {s : State} {m : MethodId} {args : Array Value} {below : List Frame} {meth : Method} {c : Code} {D : va_G} {cy : Nat → ClassId} {lo : Nat}  {S : q_S} {a0 : Nat} {x1 : Int32} {x2 : Int32} {x3 : Int32} {xs0 : Int32} {Q : Option Value → q_S → Prop} {H : Heap} {locs : List Loc} {ls : Array Slot} (X : q_X p s m args meth c RX12 cX12_wait 9 (some .int) D cy lo)  (Y : q_Y D cy lo s S H locs) (hl : lv_has ls 9 [(0, .ref a0), (1, .int x1), (2, .int x2), (3, .int x3)]) (h : wb_X12_wait_25 S a0 x1 x2 x3 xs0 Q) : W p l e ({ frames := 1, cells := 0, slots := 0, locals := 21 } : Room) s m args below meth c H locs 0 0 (MQ below (q_Q D cy lo Q) args s 0 0 (fun q => lo ≤ q)) (F0 m 25 ls [.int xs0]) := by
  have hx := X.1
  have hb := X.2.1
  unfold wb_X12_wait_25 at h
  refine lv_istore (i := 4) (lv' := [(4, .int xs0), (0, .ref a0), (1, .int x1), (2, .int x2), (3, .int x3)]) hx hb dX12_wait_25 hl (by decide) (by first | rfl | simp [q_cat, q_catI, q_catJ, q_catR]) (fun ls hl => ?_)
  refine lv_iconst (v := 0) hx hb dX12_wait_27 (by decide) ?_
  refine lv_istore (i := 5) (lv' := [(5, .int (0 : Int32)), (4, .int xs0), (0, .ref a0), (1, .int x1), (2, .int x2), (3, .int x3)]) hx hb dX12_wait_28 hl (by decide) (by first | rfl | simp [q_cat, q_catI, q_catJ, q_catR]) (fun ls hl => ?_)
  refine lv_bipush (v := 16) hx hb dX12_wait_30 (by decide) ?_
  refine lv_iload_n hx hb dX12_wait_32 rfl (lv_at hl 3 rfl) ?_
  refine lv_imul hx hb dX12_wait_33 ?_
  refine lv_istore (i := 6) (lv' := [(6, .int ((16 : Int32) * x1)), (5, .int (0 : Int32)), (4, .int xs0), (0, .ref a0), (1, .int x1), (2, .int x2), (3, .int x3)]) hx hb dX12_wait_34 hl (by decide) (by first | rfl | simp [q_cat, q_catI, q_catJ, q_catR]) (fun ls hl => ?_)
  obtain ⟨n45_, h⟩ := h
  exact cl_X12_wait_36 X n45_ _ _ _ _ _ _ _ _ _ _ _ h Y (lv_sub hl [3, 4, 5, 6, 2, 1, 0] rfl)
def wm_X12_wait (S : q_S) (a0 : Nat) (x1 : Int32) (x2 : Int32) (x3 : Int32) (Q : Option Value → q_S → Prop) : Prop := ((¬ x2 = (4 : Int32) → (wb_X12_wait_25 S a0 x1 x2 x3 (((8 : Int32) * x1) + x3) Q)) ∧ (x2 = (4 : Int32) → (q_K S a0 = 13 ∧ (∃ a48_ : Nat, (q_P S 2450 a0) = some a48_ ∧ (q_K S a48_ = 21 ∧ (vp_in (((16 : Int32) * x1) + x3) (q_N S a48_) ∧ (wb_X12_wait_25 S a0 x1 x2 x3 (q_A S a48_ (((16 : Int32) * x1) + x3).toNatClampNeg) Q)))))))
set_option maxHeartbeats 4000000 in
set_option maxRecDepth 100000 in
theorem cm_X12_wait {l : Launch} {D : va_G} {cy : Nat → ClassId} {lo : Nat} {S : q_S} {a0 : Nat} {x1 : Int32} {x2 : Int32} {x3 : Int32} {Q : Option Value → q_S → Prop} (h : wm_X12_wait S a0 x1 x2 x3 Q) : q_Met l D cy lo yX12_wait cX12_wait 9 (some .int) 1 21 0 0 [.ref a0, .int x1, .int x2, .int x3] S Q := by
  refine q_body (by decide) (by first | exact Nat.le_of_ble_eq_true rfl | simp [lg_sl, q_cat, q_catI, q_catJ, q_catR]) ?_
  intro p e s m below meth c ls X hnm Y hl
  have hx := X.1
  have hb := X.2.1
  have hl : lv_has ls 9 [(0, .ref a0), (1, .int x1), (2, .int x2), (3, .int x3)] := by first | exact hl | simpa [lv_args, q_cat, q_catI, q_catJ, q_catR] using hl
  generalize hargs : ([.ref a0, .int x1, .int x2, .int x3] : List Value).toArray = args at X ⊢
  unfold wm_X12_wait at h
  refine lv_iload_n hx hb dX12_wait_0 rfl (lv_at hl 2 rfl) ?_
  refine lv_iconst (v := 4) hx hb dX12_wait_1 (by decide) ?_
  refine lv_icmp_ne (tgt := 19) hx hb dX12_wait_2 (by decide) (fun c46_ => ?_) (fun c46_ => ?_)
  · replace h := h.1 c46_
    refine lv_bipush (v := 8) hx hb dX12_wait_19 (by decide) ?_
    refine lv_iload_n hx hb dX12_wait_21 rfl (lv_at hl 1 rfl) ?_
    refine lv_imul hx hb dX12_wait_22 ?_
    refine lv_iload_n hx hb dX12_wait_23 rfl (lv_at hl 3 rfl) ?_
    refine lv_iadd hx hb dX12_wait_24 ?_
    exact cb_X12_wait_25 X Y (lv_sub hl [0, 1, 2, 3] rfl) h
  · replace h := h.2 c46_
    refine lv_aload_n hx hb dX12_wait_5 rfl (lv_at hl 0 rfl) ?_
    obtain ⟨k47_, h⟩ := h
    refine q_getP X Y kX12 50 rfl fl_X12_106 k47_ rfl dX12_wait_6 ?_
    refine lv_bipush (v := 16) hx hb dX12_wait_9 (by decide) ?_
    refine lv_iload_n hx hb dX12_wait_11 rfl (lv_at hl 1 rfl) ?_
    refine lv_imul hx hb dX12_wait_12 ?_
    refine lv_iload_n hx hb dX12_wait_13 rfl (lv_at hl 3 rfl) ?_
    refine lv_iadd hx hb dX12_wait_14 ?_
    obtain ⟨a48_, e49_, h⟩ := h
    refine q_nn [.int (((16 : Int32) * x1) + x3)] e49_ ?_
    obtain ⟨k50_, h⟩ := h
    obtain ⟨i51_, h⟩ := h
    refine q_ild X Y k50_ i51_ dX12_wait_15 ?_
    refine lv_goto (tgt := 25) hx hb dX12_wait_16 (by decide) ?_
    exact cb_X12_wait_25 X Y (lv_sub hl [0, 1, 2, 3] rfl) h
-- X12_frames
theorem ml_X12_515 : Cond.methodLink RX12 515 yX12_window ∈ q_G := q_tb (i := 2312) (by decide +kernel) (by decide +kernel)
theorem mt_X12_window : q_Mt yX12_window cX12_window 3 (some .int) 0 := ⟨q_tb (i := 2315) (by decide +kernel) (by decide +kernel), q_tb (i := 11) (by decide +kernel) (by decide +kernel), by decide +kernel, by decide +kernel, by decide +kernel⟩
theorem mi_X12_window : Cond.instanceMethod yX12_window ∈ q_G ∧ Cond.selects yX12_window.cls yX12_window yX12_window ∈ q_G := ⟨q_tb (i := 2314) (by decide +kernel) (by decide +kernel), q_tp (i := 134) (q := (yX12_window, 114)) (by decide +kernel) (by decide +kernel)⟩
theorem dX12_frames_0 : decode cX12_frames 0 = .ok (.aload_n 0, 1) := by decide +kernel
theorem dX12_frames_1 : decode cX12_frames 1 = .ok (.invokevirtual 515, 3) := by decide +kernel
theorem dX12_frames_4 : decode cX12_frames 4 = .ok (.istore_n 3, 1) := by decide +kernel
theorem dX12_frames_5 : decode cX12_frames 5 = .ok (.iconst 0, 1) := by decide +kernel
theorem dX12_frames_6 : decode cX12_frames 6 = .ok (.istore 4, 2) := by decide +kernel
theorem dX12_frames_8 : decode cX12_frames 8 = .ok (.iconst 0, 1) := by decide +kernel
theorem dX12_frames_9 : decode cX12_frames 9 = .ok (.istore 5, 2) := by decide +kernel
theorem dX12_frames_11 : decode cX12_frames 11 = .ok (.iload 5, 2) := by decide +kernel
theorem dX12_frames_13 : decode cX12_frames 13 = .ok (.iload_n 3, 1) := by decide +kernel
theorem dX12_frames_14 : decode cX12_frames 14 = .ok (.if_icmp .ge 21, 3) := by decide +kernel
theorem dX12_frames_17 : decode cX12_frames 17 = .ok (.iload 4, 2) := by decide +kernel
theorem dX12_frames_19 : decode cX12_frames 19 = .ok (.aload_n 0, 1) := by decide +kernel
theorem dX12_frames_20 : decode cX12_frames 20 = .ok (.getfield 139, 3) := by decide +kernel
theorem dX12_frames_23 : decode cX12_frames 23 = .ok (.iload 5, 2) := by decide +kernel
theorem dX12_frames_25 : decode cX12_frames 25 = .ok (.iaload, 1) := by decide +kernel
theorem dX12_frames_26 : decode cX12_frames 26 = .ok (.iadd, 1) := by decide +kernel
theorem dX12_frames_27 : decode cX12_frames 27 = .ok (.istore 4, 2) := by decide +kernel
theorem dX12_frames_29 : decode cX12_frames 29 = .ok (.iinc 5 1, 3) := by decide +kernel
theorem dX12_frames_32 : decode cX12_frames 32 = .ok (.goto (-21), 3) := by decide +kernel
theorem dX12_frames_35 : decode cX12_frames 35 = .ok (.aload_n 0, 1) := by decide +kernel
theorem dX12_frames_36 : decode cX12_frames 36 = .ok (.getfield 179, 3) := by decide +kernel
theorem dX12_frames_39 : decode cX12_frames 39 = .ok (.bipush 32, 2) := by decide +kernel
theorem dX12_frames_41 : decode cX12_frames 41 = .ok (.iload_n 2, 1) := by decide +kernel
theorem dX12_frames_42 : decode cX12_frames 42 = .ok (.imul, 1) := by decide +kernel
theorem dX12_frames_43 : decode cX12_frames 43 = .ok (.bipush 11, 2) := by decide +kernel
theorem dX12_frames_45 : decode cX12_frames 45 = .ok (.iadd, 1) := by decide +kernel
theorem dX12_frames_46 : decode cX12_frames 46 = .ok (.iload 4, 2) := by decide +kernel
theorem dX12_frames_48 : decode cX12_frames 48 = .ok (.aload_n 0, 1) := by decide +kernel
theorem dX12_frames_49 : decode cX12_frames 49 = .ok (.getfield 139, 3) := by decide +kernel
theorem dX12_frames_52 : decode cX12_frames 52 = .ok (.iload_n 3, 1) := by decide +kernel
theorem dX12_frames_53 : decode cX12_frames 53 = .ok (.iaload, 1) := by decide +kernel
theorem dX12_frames_54 : decode cX12_frames 54 = .ok (.iadd, 1) := by decide +kernel
theorem dX12_frames_55 : decode cX12_frames 55 = .ok (.aload_n 0, 1) := by decide +kernel
theorem dX12_frames_56 : decode cX12_frames 56 = .ok (.getfield 453, 3) := by decide +kernel
theorem dX12_frames_59 : decode cX12_frames 59 = .ok (.aload_n 0, 1) := by decide +kernel
theorem dX12_frames_60 : decode cX12_frames 60 = .ok (.getfield 425, 3) := by decide +kernel
theorem dX12_frames_63 : decode cX12_frames 63 = .ok (.irem, 1) := by decide +kernel
theorem dX12_frames_64 : decode cX12_frames 64 = .ok (.isub, 1) := by decide +kernel
theorem dX12_frames_65 : decode cX12_frames 65 = .ok (.iastore, 1) := by decide +kernel
theorem dX12_frames_66 : decode cX12_frames 66 = .ok (.iconst 0, 1) := by decide +kernel
theorem dX12_frames_67 : decode cX12_frames 67 = .ok (.istore 5, 2) := by decide +kernel
theorem dX12_frames_69 : decode cX12_frames 69 = .ok (.iload_n 3, 1) := by decide +kernel
theorem dX12_frames_70 : decode cX12_frames 70 = .ok (.iconst 1, 1) := by decide +kernel
theorem dX12_frames_71 : decode cX12_frames 71 = .ok (.iadd, 1) := by decide +kernel
theorem dX12_frames_72 : decode cX12_frames 72 = .ok (.aload_n 0, 1) := by decide +kernel
theorem dX12_frames_73 : decode cX12_frames 73 = .ok (.getfield 422, 3) := by decide +kernel
theorem dX12_frames_76 : decode cX12_frames 76 = .ok (.irem, 1) := by decide +kernel
theorem dX12_frames_77 : decode cX12_frames 77 = .ok (.istore 6, 2) := by decide +kernel
theorem dX12_frames_79 : decode cX12_frames 79 = .ok (.aload_n 0, 1) := by decide +kernel
theorem dX12_frames_80 : decode cX12_frames 80 = .ok (.getfield 136, 3) := by decide +kernel
theorem dX12_frames_83 : decode cX12_frames 83 = .ok (.iload 6, 2) := by decide +kernel
theorem dX12_frames_85 : decode cX12_frames 85 = .ok (.iaload, 1) := by decide +kernel
theorem dX12_frames_86 : decode cX12_frames 86 = .ok (.iload_n 1, 1) := by decide +kernel
theorem dX12_frames_87 : decode cX12_frames 87 = .ok (.if_icmp .eq 29, 3) := by decide +kernel
theorem dX12_frames_90 : decode cX12_frames 90 = .ok (.iload 5, 2) := by decide +kernel
theorem dX12_frames_92 : decode cX12_frames 92 = .ok (.aload_n 0, 1) := by decide +kernel
theorem dX12_frames_93 : decode cX12_frames 93 = .ok (.getfield 139, 3) := by decide +kernel
theorem dX12_frames_96 : decode cX12_frames 96 = .ok (.iload 6, 2) := by decide +kernel
theorem dX12_frames_98 : decode cX12_frames 98 = .ok (.iaload, 1) := by decide +kernel
theorem dX12_frames_99 : decode cX12_frames 99 = .ok (.iadd, 1) := by decide +kernel
theorem dX12_frames_100 : decode cX12_frames 100 = .ok (.istore 5, 2) := by decide +kernel
theorem dX12_frames_102 : decode cX12_frames 102 = .ok (.iload 6, 2) := by decide +kernel
theorem dX12_frames_104 : decode cX12_frames 104 = .ok (.iconst 1, 1) := by decide +kernel
theorem dX12_frames_105 : decode cX12_frames 105 = .ok (.iadd, 1) := by decide +kernel
theorem dX12_frames_106 : decode cX12_frames 106 = .ok (.aload_n 0, 1) := by decide +kernel
theorem dX12_frames_107 : decode cX12_frames 107 = .ok (.getfield 422, 3) := by decide +kernel
theorem dX12_frames_110 : decode cX12_frames 110 = .ok (.irem, 1) := by decide +kernel
theorem dX12_frames_111 : decode cX12_frames 111 = .ok (.istore 6, 2) := by decide +kernel
theorem dX12_frames_113 : decode cX12_frames 113 = .ok (.goto (-34), 3) := by decide +kernel
theorem dX12_frames_116 : decode cX12_frames 116 = .ok (.aload_n 0, 1) := by decide +kernel
theorem dX12_frames_117 : decode cX12_frames 117 = .ok (.getfield 179, 3) := by decide +kernel
theorem dX12_frames_120 : decode cX12_frames 120 = .ok (.bipush 32, 2) := by decide +kernel
theorem dX12_frames_122 : decode cX12_frames 122 = .ok (.iload_n 2, 1) := by decide +kernel
theorem dX12_frames_123 : decode cX12_frames 123 = .ok (.imul, 1) := by decide +kernel
theorem dX12_frames_124 : decode cX12_frames 124 = .ok (.bipush 12, 2) := by decide +kernel
theorem dX12_frames_126 : decode cX12_frames 126 = .ok (.iadd, 1) := by decide +kernel
theorem dX12_frames_127 : decode cX12_frames 127 = .ok (.iload 5, 2) := by decide +kernel
theorem dX12_frames_129 : decode cX12_frames 129 = .ok (.iastore, 1) := by decide +kernel
theorem dX12_frames_130 : decode cX12_frames 130 = .ok (.aload_n 0, 1) := by decide +kernel
theorem dX12_frames_131 : decode cX12_frames 131 = .ok (.getfield 179, 3) := by decide +kernel
theorem dX12_frames_134 : decode cX12_frames 134 = .ok (.bipush 32, 2) := by decide +kernel
theorem dX12_frames_136 : decode cX12_frames 136 = .ok (.iload_n 2, 1) := by decide +kernel
theorem dX12_frames_137 : decode cX12_frames 137 = .ok (.imul, 1) := by decide +kernel
theorem dX12_frames_138 : decode cX12_frames 138 = .ok (.bipush 13, 2) := by decide +kernel
theorem dX12_frames_140 : decode cX12_frames 140 = .ok (.iadd, 1) := by decide +kernel
theorem dX12_frames_141 : decode cX12_frames 141 = .ok (.aload_n 0, 1) := by decide +kernel
theorem dX12_frames_142 : decode cX12_frames 142 = .ok (.getfield 425, 3) := by decide +kernel
theorem dX12_frames_145 : decode cX12_frames 145 = .ok (.iastore, 1) := by decide +kernel
theorem dX12_frames_146 : decode cX12_frames 146 = .ok (.iconst 0, 1) := by decide +kernel
theorem dX12_frames_147 : decode cX12_frames 147 = .ok (.ireturn, 1) := by decide +kernel
def wb_X12_frames_79 (B79 : q_S → Nat → Int32 → Int32 → Int32 → Int32 → Prop) (S : q_S) (a0 : Nat) (x1 : Int32) (x2 : Int32) (x5 : Int32) (x6 : Int32) (Q : Option Value → q_S → Prop) : Prop := q_K S a0 = 13 ∧ (∃ a2_ : Nat, (q_P S 2461 a0) = some a2_ ∧ (q_K S a2_ = 21 ∧ (vp_in x6 (q_N S a2_) ∧ ((((q_A S a2_ x6.toNatClampNeg) = x1 → (∃ a7_ : Nat, (q_P S 2477 a0) = some a7_ ∧ (q_K S a7_ = 21 ∧ (vp_in (((32 : Int32) * x2) + (12 : Int32)) (q_N S a7_) ∧ (∃ a11_ : Nat, (q_P (qs_A S a7_ (((32 : Int32) * x2) + (12 : Int32)).toNatClampNeg x5) 2477 a0) = some a11_ ∧ (q_K (qs_A S a7_ (((32 : Int32) * x2) + (12 : Int32)).toNatClampNeg x5) a11_ = 21 ∧ (vp_in (((32 : Int32) * x2) + (13 : Int32)) (q_N (qs_A S a7_ (((32 : Int32) * x2) + (12 : Int32)).toNatClampNeg x5) a11_) ∧ (∀ S15_ : q_S, S15_ = (qs_A (qs_A S a7_ (((32 : Int32) * x2) + (12 : Int32)).toNatClampNeg x5) a11_ (((32 : Int32) * x2) + (13 : Int32)).toNatClampNeg (q_I (qs_A S a7_ (((32 : Int32) * x2) + (12 : Int32)).toNatClampNeg x5) 2420 a0)) → (Q (some (.int (0 : Int32))) S15_))))))))) ∧ (¬ (q_A S a2_ x6.toNatClampNeg) = x1 → (∃ a16_ : Nat, (q_P S 2462 a0) = some a16_ ∧ (q_K S a16_ = 21 ∧ (vp_in x6 (q_N S a16_) ∧ ((¬ (q_I S 2417 a0) = 0) ∧ (B79 S a0 x1 x2 (x5 + (q_A S a16_ x6.toNatClampNeg)) ((x6 + (1 : Int32)) - (x6 + (1 : Int32)) / (q_I S 2417 a0) * (q_I S 2417 a0)))))))))))))
set_option maxHeartbeats 4000000 in
set_option maxRecDepth 100000 in
theorem cb_X12_frames_79 {p : Program} {l : Launch} {e : Env} {s : State} {m : MethodId} {args : Array Value} {below : List Frame} {meth : Method} {c : Code} {D : va_G} {cy : Nat → ClassId} {lo : Nat} {B79 : q_S → Nat → Int32 → Int32 → Int32 → Int32 → Prop} {S : q_S} {a0 : Nat} {x1 : Int32} {x2 : Int32} {x5 : Int32} {x6 : Int32} {Q : Option Value → q_S → Prop} {H : Heap} {locs : List Loc} {ls : Array Slot} (X : q_X p s m args meth c RX12 cX12_frames 7 (some .int) D cy lo) (hB79 : ∀ (S : q_S) (a0 : Nat) (x1 : Int32) (x2 : Int32) (x5 : Int32) (x6 : Int32) (H : Heap) (locs : List Loc) (ls : Array Slot), B79 S a0 x1 x2 x5 x6 → q_Y D cy lo s S H locs → lv_has ls 7 [(0, .ref a0), (1, .int x1), (2, .int x2), (5, .int x5), (6, .int x6)] → W p l e ({ frames := 1, cells := 0, slots := 0, locals := 22 } : Room) s m args below meth c H locs 0 0 (MQ below (q_Q D cy lo Q) args s 0 0 (fun q => lo ≤ q)) (F0 m 79 ls [])) (Y : q_Y D cy lo s S H locs) (hl : lv_has ls 7 [(0, .ref a0), (1, .int x1), (2, .int x2), (5, .int x5), (6, .int x6)]) (h : wb_X12_frames_79 B79 S a0 x1 x2 x5 x6 Q) : W p l e ({ frames := 1, cells := 0, slots := 0, locals := 22 } : Room) s m args below meth c H locs 0 0 (MQ below (q_Q D cy lo Q) args s 0 0 (fun q => lo ≤ q)) (F0 m 79 ls []) := by
  have hx := X.1
  have hb := X.2.1
  unfold wb_X12_frames_79 at h
  refine lv_aload_n hx hb dX12_frames_79 rfl (lv_at hl 0 rfl) ?_
  obtain ⟨k1_, h⟩ := h
  refine q_getP X Y kX12 61 rfl fl_X12_136 k1_ rfl dX12_frames_80 ?_
  refine lv_iload hx hb dX12_frames_83 (lv_at hl 4 rfl) ?_
  obtain ⟨a2_, e3_, h⟩ := h
  refine q_nn [.int x6] e3_ ?_
  obtain ⟨k4_, h⟩ := h
  obtain ⟨i5_, h⟩ := h
  refine q_ild X Y k4_ i5_ dX12_frames_85 ?_
  refine lv_iload_n hx hb dX12_frames_86 rfl (lv_at hl 1 rfl) ?_
  refine lv_icmp_eq (tgt := 116) hx hb dX12_frames_87 (by decide) (fun c6_ => ?_) (fun c6_ => ?_)
  · replace h := h.1 c6_
    refine lv_aload_n hx hb dX12_frames_116 rfl (lv_at hl 0 rfl) ?_
    refine q_getP X Y kX12 77 rfl fl_X12_179 k1_ rfl dX12_frames_117 ?_
    refine lv_bipush (v := 32) hx hb dX12_frames_120 (by decide) ?_
    refine lv_iload_n hx hb dX12_frames_122 rfl (lv_at hl 2 rfl) ?_
    refine lv_imul hx hb dX12_frames_123 ?_
    refine lv_bipush (v := 12) hx hb dX12_frames_124 (by decide) ?_
    refine lv_iadd hx hb dX12_frames_126 ?_
    refine lv_iload hx hb dX12_frames_127 (lv_at hl 3 rfl) ?_
    obtain ⟨a7_, e8_, h⟩ := h
    refine q_nn [.int x5, .int (((32 : Int32) * x2) + (12 : Int32))] e8_ ?_
    obtain ⟨k9_, h⟩ := h
    obtain ⟨i10_, h⟩ := h
    refine q_ist X Y k9_ i10_ dX12_frames_129 (fun H locs Y => ?_)
    refine lv_aload_n hx hb dX12_frames_130 rfl (lv_at hl 0 rfl) ?_
    refine q_getP X Y kX12 77 rfl fl_X12_179 k1_ rfl dX12_frames_131 ?_
    refine lv_bipush (v := 32) hx hb dX12_frames_134 (by decide) ?_
    refine lv_iload_n hx hb dX12_frames_136 rfl (lv_at hl 2 rfl) ?_
    refine lv_imul hx hb dX12_frames_137 ?_
    refine lv_bipush (v := 13) hx hb dX12_frames_138 (by decide) ?_
    refine lv_iadd hx hb dX12_frames_140 ?_
    refine lv_aload_n hx hb dX12_frames_141 rfl (lv_at hl 0 rfl) ?_
    refine q_getI X Y kX12 20 rfl fl_X12_425 k1_ dX12_frames_142 ?_
    obtain ⟨a11_, e12_, h⟩ := h
    refine q_nn [.int (q_I (qs_A S a7_ (((32 : Int32) * x2) + (12 : Int32)).toNatClampNeg x5) 2420 a0), .int (((32 : Int32) * x2) + (13 : Int32))] e12_ ?_
    obtain ⟨k13_, h⟩ := h
    obtain ⟨i14_, h⟩ := h
    refine q_ist X Y k13_ i14_ dX12_frames_145 (fun H locs Y => ?_)
    obtain ⟨S15_, gS15_⟩ : ∃ z : q_S, z = (qs_A (qs_A S a7_ (((32 : Int32) * x2) + (12 : Int32)).toNatClampNeg x5) a11_ (((32 : Int32) * x2) + (13 : Int32)).toNatClampNeg (q_I (qs_A S a7_ (((32 : Int32) * x2) + (12 : Int32)).toNatClampNeg x5) 2420 a0)) := ⟨_, rfl⟩
    replace Y : q_Y D cy lo s S15_ H locs := by rw [gS15_]; exact Y
    replace h := h S15_ gS15_
    replace k1_ : q_K S15_ a0 = 13 := by rw [gS15_]; exact k1_
    replace k4_ : q_K S15_ a2_ = 21 := by rw [gS15_]; exact k4_
    replace k9_ : q_K S15_ a7_ = 21 := by rw [gS15_]; exact k9_
    replace k13_ : q_K S15_ a11_ = 21 := by rw [gS15_]; exact k13_
    refine lv_iconst (v := 0) hx hb dX12_frames_146 (by decide) ?_
    exact q_iret X Y rfl (Nat.le_refl _) (Nat.le_refl _) h dX12_frames_147
  · replace h := h.2 c6_
    refine lv_iload hx hb dX12_frames_90 (lv_at hl 3 rfl) ?_
    refine lv_aload_n hx hb dX12_frames_92 rfl (lv_at hl 0 rfl) ?_
    refine q_getP X Y kX12 62 rfl fl_X12_139 k1_ rfl dX12_frames_93 ?_
    refine lv_iload hx hb dX12_frames_96 (lv_at hl 4 rfl) ?_
    obtain ⟨a16_, e17_, h⟩ := h
    refine q_nn [.int x6] e17_ ?_
    obtain ⟨k18_, h⟩ := h
    obtain ⟨i19_, h⟩ := h
    refine q_ild X Y k18_ i19_ dX12_frames_98 ?_
    refine lv_iadd hx hb dX12_frames_99 ?_
    refine lv_istore (i := 5) (lv' := [(5, .int (x5 + (q_A S a16_ x6.toNatClampNeg))), (0, .ref a0), (1, .int x1), (2, .int x2), (6, .int x6)]) hx hb dX12_frames_100 hl (by decide) (by first | rfl | simp [q_cat, q_catI, q_catJ, q_catR]) (fun ls hl => ?_)
    refine lv_iload hx hb dX12_frames_102 (lv_at hl 4 rfl) ?_
    refine lv_iconst (v := 1) hx hb dX12_frames_104 (by decide) ?_
    refine lv_iadd hx hb dX12_frames_105 ?_
    refine lv_aload_n hx hb dX12_frames_106 rfl (lv_at hl 1 rfl) ?_
    refine q_getI X Y kX12 17 rfl fl_X12_422 k1_ dX12_frames_107 ?_
    obtain ⟨z20_, h⟩ := h
    refine lv_irem hx hb dX12_frames_110 z20_ ?_
    refine lv_istore (i := 6) (lv' := [(6, .int ((x6 + (1 : Int32)) - (x6 + (1 : Int32)) / (q_I S 2417 a0) * (q_I S 2417 a0))), (5, .int (x5 + (q_A S a16_ x6.toNatClampNeg))), (0, .ref a0), (1, .int x1), (2, .int x2)]) hx hb dX12_frames_111 hl (by decide) (by first | rfl | simp [q_cat, q_catI, q_catJ, q_catR]) (fun ls hl => ?_)
    refine lv_goto (tgt := 79) hx hb dX12_frames_113 (by decide) ?_
    exact hB79 _ _ _ _ _ _ _ _ _ h Y (lv_sub hl [2, 3, 4, 1, 0] rfl)
def wl_X12_frames_79  : Nat → q_S → Nat → Int32 → Int32 → Int32 → Int32 → (Option Value → q_S → Prop) → Prop
  | 0, _, _, _, _, _, _, _ => False
  | n + 1, S, a0, x1, x2, x5, x6, Q => wb_X12_frames_79 (fun S a0 x1 x2 x5 x6 => wl_X12_frames_79 n S a0 x1 x2 x5 x6 Q) S a0 x1 x2 x5 x6 Q
set_option maxHeartbeats 4000000 in
set_option maxRecDepth 100000 in
theorem cl_X12_frames_79 {p : Program} {l : Launch} {e : Env} {s : State} {m : MethodId} {args : Array Value} {below : List Frame} {meth : Method} {c : Code} {D : va_G} {cy : Nat → ClassId} {lo : Nat}  {Q : Option Value → q_S → Prop} (X : q_X p s m args meth c RX12 cX12_frames 7 (some .int) D cy lo)  : ∀ (n : Nat) (S : q_S) (a0 : Nat) (x1 : Int32) (x2 : Int32) (x5 : Int32) (x6 : Int32) (H : Heap) (locs : List Loc) (ls : Array Slot), wl_X12_frames_79 n S a0 x1 x2 x5 x6 Q → q_Y D cy lo s S H locs → lv_has ls 7 [(0, .ref a0), (1, .int x1), (2, .int x2), (5, .int x5), (6, .int x6)] → W p l e ({ frames := 1, cells := 0, slots := 0, locals := 22 } : Room) s m args below meth c H locs 0 0 (MQ below (q_Q D cy lo Q) args s 0 0 (fun q => lo ≤ q)) (F0 m 79 ls []) := by
  intro n
  induction n with
  | zero => intro S a0 x1 x2 x5 x6 H locs ls h; exact absurd h id
  | succ n ih => intro S a0 x1 x2 x5 x6 H locs ls h Y hl; exact cb_X12_frames_79 X ih Y hl h
def wb_X12_frames_11 (B11 : q_S → Nat → Int32 → Int32 → Int32 → Int32 → Int32 → Prop) (S : q_S) (a0 : Nat) (x1 : Int32) (x2 : Int32) (x3 : Int32) (x4 : Int32) (x5 : Int32) (Q : Option Value → q_S → Prop) : Prop := ((x3 ≤ x5 → (q_K S a0 = 13 ∧ (∃ a23_ : Nat, (q_P S 2462 a0) = some a23_ ∧ (q_K S a23_ = 21 ∧ (vp_in x3 (q_N S a23_) ∧ ((¬ (q_I S 2420 a0) = 0) ∧ (∃ a28_ : Nat, (q_P S 2477 a0) = some a28_ ∧ (q_K S a28_ = 21 ∧ (vp_in (((32 : Int32) * x2) + (11 : Int32)) (q_N S a28_) ∧ ((¬ (q_I (qs_A S a28_ (((32 : Int32) * x2) + (11 : Int32)).toNatClampNeg ((x4 + (q_A S a23_ x3.toNatClampNeg)) - ((q_I S 2463 a0) - (q_I S 2463 a0) / (q_I S 2420 a0) * (q_I S 2420 a0)))) 2417 a0) = 0) ∧ (∃ n33_ : Nat, wl_X12_frames_79 n33_ (qs_A S a28_ (((32 : Int32) * x2) + (11 : Int32)).toNatClampNeg ((x4 + (q_A S a23_ x3.toNatClampNeg)) - ((q_I S 2463 a0) - (q_I S 2463 a0) / (q_I S 2420 a0) * (q_I S 2420 a0)))) a0 x1 x2 (0 : Int32) ((x3 + (1 : Int32)) - (x3 + (1 : Int32)) / (q_I (qs_A S a28_ (((32 : Int32) * x2) + (11 : Int32)).toNatClampNeg ((x4 + (q_A S a23_ x3.toNatClampNeg)) - ((q_I S 2463 a0) - (q_I S 2463 a0) / (q_I S 2420 a0) * (q_I S 2420 a0)))) 2417 a0) * (q_I (qs_A S a28_ (((32 : Int32) * x2) + (11 : Int32)).toNatClampNeg ((x4 + (q_A S a23_ x3.toNatClampNeg)) - ((q_I S 2463 a0) - (q_I S 2463 a0) / (q_I S 2420 a0) * (q_I S 2420 a0)))) 2417 a0)) Q))))))))))) ∧ (¬ x3 ≤ x5 → (q_K S a0 = 13 ∧ (∃ a35_ : Nat, (q_P S 2462 a0) = some a35_ ∧ (q_K S a35_ = 21 ∧ (vp_in x5 (q_N S a35_) ∧ (B11 S a0 x1 x2 x3 (x4 + (q_A S a35_ x5.toNatClampNeg)) (x5 + 1))))))))
set_option maxHeartbeats 4000000 in
set_option maxRecDepth 100000 in
theorem cb_X12_frames_11 {p : Program} {l : Launch} {e : Env} {s : State} {m : MethodId} {args : Array Value} {below : List Frame} {meth : Method} {c : Code} {D : va_G} {cy : Nat → ClassId} {lo : Nat} {B11 : q_S → Nat → Int32 → Int32 → Int32 → Int32 → Int32 → Prop} {S : q_S} {a0 : Nat} {x1 : Int32} {x2 : Int32} {x3 : Int32} {x4 : Int32} {x5 : Int32} {Q : Option Value → q_S → Prop} {H : Heap} {locs : List Loc} {ls : Array Slot} (X : q_X p s m args meth c RX12 cX12_frames 7 (some .int) D cy lo) (hB11 : ∀ (S : q_S) (a0 : Nat) (x1 : Int32) (x2 : Int32) (x3 : Int32) (x4 : Int32) (x5 : Int32) (H : Heap) (locs : List Loc) (ls : Array Slot), B11 S a0 x1 x2 x3 x4 x5 → q_Y D cy lo s S H locs → lv_has ls 7 [(0, .ref a0), (1, .int x1), (2, .int x2), (3, .int x3), (4, .int x4), (5, .int x5)] → W p l e ({ frames := 1, cells := 0, slots := 0, locals := 22 } : Room) s m args below meth c H locs 0 0 (MQ below (q_Q D cy lo Q) args s 0 0 (fun q => lo ≤ q)) (F0 m 11 ls [])) (Y : q_Y D cy lo s S H locs) (hl : lv_has ls 7 [(0, .ref a0), (1, .int x1), (2, .int x2), (3, .int x3), (4, .int x4), (5, .int x5)]) (h : wb_X12_frames_11 B11 S a0 x1 x2 x3 x4 x5 Q) : W p l e ({ frames := 1, cells := 0, slots := 0, locals := 22 } : Room) s m args below meth c H locs 0 0 (MQ below (q_Q D cy lo Q) args s 0 0 (fun q => lo ≤ q)) (F0 m 11 ls []) := by
  have hx := X.1
  have hb := X.2.1
  unfold wb_X12_frames_11 at h
  refine lv_iload hx hb dX12_frames_11 (lv_at hl 5 rfl) ?_
  refine lv_iload_n hx hb dX12_frames_13 rfl (lv_at hl 3 rfl) ?_
  refine lv_icmp_ge (tgt := 35) hx hb dX12_frames_14 (by decide) (fun c21_ => ?_) (fun c21_ => ?_)
  · replace h := h.1 c21_
    refine lv_aload_n hx hb dX12_frames_35 rfl (lv_at hl 0 rfl) ?_
    obtain ⟨k22_, h⟩ := h
    refine q_getP X Y kX12 77 rfl fl_X12_179 k22_ rfl dX12_frames_36 ?_
    refine lv_bipush (v := 32) hx hb dX12_frames_39 (by decide) ?_
    refine lv_iload_n hx hb dX12_frames_41 rfl (lv_at hl 2 rfl) ?_
    refine lv_imul hx hb dX12_frames_42 ?_
    refine lv_bipush (v := 11) hx hb dX12_frames_43 (by decide) ?_
    refine lv_iadd hx hb dX12_frames_45 ?_
    refine lv_iload hx hb dX12_frames_46 (lv_at hl 4 rfl) ?_
    refine lv_aload_n hx hb dX12_frames_48 rfl (lv_at hl 0 rfl) ?_
    refine q_getP X Y kX12 62 rfl fl_X12_139 k22_ rfl dX12_frames_49 ?_
    refine lv_iload_n hx hb dX12_frames_52 rfl (lv_at hl 3 rfl) ?_
    obtain ⟨a23_, e24_, h⟩ := h
    refine q_nn [.int x3] e24_ ?_
    obtain ⟨k25_, h⟩ := h
    obtain ⟨i26_, h⟩ := h
    refine q_ild X Y k25_ i26_ dX12_frames_53 ?_
    refine lv_iadd hx hb dX12_frames_54 ?_
    refine lv_aload_n hx hb dX12_frames_55 rfl (lv_at hl 0 rfl) ?_
    refine q_getI X Y kX12 63 rfl fl_X12_453 k22_ dX12_frames_56 ?_
    refine lv_aload_n hx hb dX12_frames_59 rfl (lv_at hl 0 rfl) ?_
    refine q_getI X Y kX12 20 rfl fl_X12_425 k22_ dX12_frames_60 ?_
    obtain ⟨z27_, h⟩ := h
    refine lv_irem hx hb dX12_frames_63 z27_ ?_
    refine lv_isub hx hb dX12_frames_64 ?_
    obtain ⟨a28_, e29_, h⟩ := h
    refine q_nn [.int ((x4 + (q_A S a23_ x3.toNatClampNeg)) - ((q_I S 2463 a0) - (q_I S 2463 a0) / (q_I S 2420 a0) * (q_I S 2420 a0))), .int (((32 : Int32) * x2) + (11 : Int32))] e29_ ?_
    obtain ⟨k30_, h⟩ := h
    obtain ⟨i31_, h⟩ := h
    refine q_ist X Y k30_ i31_ dX12_frames_65 (fun H locs Y => ?_)
    refine lv_iconst (v := 0) hx hb dX12_frames_66 (by decide) ?_
    refine lv_istore (i := 5) (lv' := [(5, .int (0 : Int32)), (0, .ref a0), (1, .int x1), (2, .int x2), (3, .int x3), (4, .int x4)]) hx hb dX12_frames_67 hl (by decide) (by first | rfl | simp [q_cat, q_catI, q_catJ, q_catR]) (fun ls hl => ?_)
    refine lv_iload_n hx hb dX12_frames_69 rfl (lv_at hl 4 rfl) ?_
    refine lv_iconst (v := 1) hx hb dX12_frames_70 (by decide) ?_
    refine lv_iadd hx hb dX12_frames_71 ?_
    refine lv_aload_n hx hb dX12_frames_72 rfl (lv_at hl 1 rfl) ?_
    refine q_getI X Y kX12 17 rfl fl_X12_422 k22_ dX12_frames_73 ?_
    obtain ⟨z32_, h⟩ := h
    refine lv_irem hx hb dX12_frames_76 z32_ ?_
    refine lv_istore (i := 6) (lv' := [(6, .int ((x3 + (1 : Int32)) - (x3 + (1 : Int32)) / (q_I (qs_A S a28_ (((32 : Int32) * x2) + (11 : Int32)).toNatClampNeg ((x4 + (q_A S a23_ x3.toNatClampNeg)) - ((q_I S 2463 a0) - (q_I S 2463 a0) / (q_I S 2420 a0) * (q_I S 2420 a0)))) 2417 a0) * (q_I (qs_A S a28_ (((32 : Int32) * x2) + (11 : Int32)).toNatClampNeg ((x4 + (q_A S a23_ x3.toNatClampNeg)) - ((q_I S 2463 a0) - (q_I S 2463 a0) / (q_I S 2420 a0) * (q_I S 2420 a0)))) 2417 a0))), (5, .int (0 : Int32)), (0, .ref a0), (1, .int x1), (2, .int x2), (3, .int x3), (4, .int x4)]) hx hb dX12_frames_77 hl (by decide) (by first | rfl | simp [q_cat, q_catI, q_catJ, q_catR]) (fun ls hl => ?_)
    obtain ⟨n33_, h⟩ := h
    exact cl_X12_frames_79 X n33_ _ _ _ _ _ _ _ _ _ h Y (lv_sub hl [2, 3, 4, 1, 0] rfl)
  · replace h := h.2 c21_
    refine lv_iload hx hb dX12_frames_17 (lv_at hl 4 rfl) ?_
    refine lv_aload_n hx hb dX12_frames_19 rfl (lv_at hl 0 rfl) ?_
    obtain ⟨k34_, h⟩ := h
    refine q_getP X Y kX12 62 rfl fl_X12_139 k34_ rfl dX12_frames_20 ?_
    refine lv_iload hx hb dX12_frames_23 (lv_at hl 5 rfl) ?_
    obtain ⟨a35_, e36_, h⟩ := h
    refine q_nn [.int x5] e36_ ?_
    obtain ⟨k37_, h⟩ := h
    obtain ⟨i38_, h⟩ := h
    refine q_ild X Y k37_ i38_ dX12_frames_25 ?_
    refine lv_iadd hx hb dX12_frames_26 ?_
    refine lv_istore (i := 4) (lv' := [(4, .int (x4 + (q_A S a35_ x5.toNatClampNeg))), (0, .ref a0), (1, .int x1), (2, .int x2), (3, .int x3), (5, .int x5)]) hx hb dX12_frames_27 hl (by decide) (by first | rfl | simp [q_cat, q_catI, q_catJ, q_catR]) (fun ls hl => ?_)
    refine lv_iinc (v := (x5 + 1)) (lv' := [(5, .int (x5 + 1)), (4, .int (x4 + (q_A S a35_ x5.toNatClampNeg))), (0, .ref a0), (1, .int x1), (2, .int x2), (3, .int x3)]) hx hb dX12_frames_29 hl (k := 5) rfl (by first | rfl | decide) (by decide) (by first | rfl | simp [q_cat, q_catI, q_catJ, q_catR]) (fun ls hl => ?_)
    refine lv_goto (tgt := 11) hx hb dX12_frames_32 (by decide) ?_
    exact hB11 _ _ _ _ _ _ _ _ _ _ h Y (lv_sub hl [2, 3, 4, 5, 1, 0] rfl)
def wl_X12_frames_11  : Nat → q_S → Nat → Int32 → Int32 → Int32 → Int32 → Int32 → (Option Value → q_S → Prop) → Prop
  | 0, _, _, _, _, _, _, _, _ => False
  | n + 1, S, a0, x1, x2, x3, x4, x5, Q => wb_X12_frames_11 (fun S a0 x1 x2 x3 x4 x5 => wl_X12_frames_11 n S a0 x1 x2 x3 x4 x5 Q) S a0 x1 x2 x3 x4 x5 Q
set_option maxHeartbeats 4000000 in
set_option maxRecDepth 100000 in
theorem cl_X12_frames_11 {p : Program} {l : Launch} {e : Env} {s : State} {m : MethodId} {args : Array Value} {below : List Frame} {meth : Method} {c : Code} {D : va_G} {cy : Nat → ClassId} {lo : Nat}  {Q : Option Value → q_S → Prop} (X : q_X p s m args meth c RX12 cX12_frames 7 (some .int) D cy lo)  : ∀ (n : Nat) (S : q_S) (a0 : Nat) (x1 : Int32) (x2 : Int32) (x3 : Int32) (x4 : Int32) (x5 : Int32) (H : Heap) (locs : List Loc) (ls : Array Slot), wl_X12_frames_11 n S a0 x1 x2 x3 x4 x5 Q → q_Y D cy lo s S H locs → lv_has ls 7 [(0, .ref a0), (1, .int x1), (2, .int x2), (3, .int x3), (4, .int x4), (5, .int x5)] → W p l e ({ frames := 1, cells := 0, slots := 0, locals := 22 } : Room) s m args below meth c H locs 0 0 (MQ below (q_Q D cy lo Q) args s 0 0 (fun q => lo ≤ q)) (F0 m 11 ls []) := by
  intro n
  induction n with
  | zero => intro S a0 x1 x2 x3 x4 x5 H locs ls h; exact absurd h id
  | succ n ih => intro S a0 x1 x2 x3 x4 x5 H locs ls h Y hl; exact cb_X12_frames_11 X ih Y hl h
def wm_X12_frames (S : q_S) (a0 : Nat) (x1 : Int32) (x2 : Int32) (Q : Option Value → q_S → Prop) : Prop := q_K S a0 = 13 ∧ (wm_X12_window S a0 (fun r40_ S41_ => ∃ x42_ : Int32, r40_ = some (.int x42_) ∧ (∃ n43_ : Nat, wl_X12_frames_11 n43_ S41_ a0 x1 x2 x42_ (0 : Int32) (0 : Int32) Q)))
set_option maxHeartbeats 4000000 in
set_option maxRecDepth 100000 in
theorem cm_X12_frames {l : Launch} {D : va_G} {cy : Nat → ClassId} {lo : Nat} {S : q_S} {a0 : Nat} {x1 : Int32} {x2 : Int32} {Q : Option Value → q_S → Prop} (h : wm_X12_frames S a0 x1 x2 Q) : q_Met l D cy lo yX12_frames cX12_frames 7 (some .int) 1 22 0 0 [.ref a0, .int x1, .int x2] S Q := by
  refine q_body (by decide) (by first | exact Nat.le_of_ble_eq_true rfl | simp [lg_sl, q_cat, q_catI, q_catJ, q_catR]) ?_
  intro p e s m below meth c ls X hnm Y hl
  have hx := X.1
  have hb := X.2.1
  have hl : lv_has ls 7 [(0, .ref a0), (1, .int x1), (2, .int x2)] := by first | exact hl | simpa [lv_args, q_cat, q_catI, q_catJ, q_catR] using hl
  generalize hargs : ([.ref a0, .int x1, .int x2] : List Value).toArray = args at X ⊢
  unfold wm_X12_frames at h
  refine lv_aload_n hx hb dX12_frames_0 rfl (lv_at hl 0 rfl) ?_
  obtain ⟨k39_, h⟩ := h
  refine q_callV X Y hl (cm_X12_window h) mt_X12_window mi_X12_window ml_X12_515 (ci := 12) rfl k39_ (by decide) rfl rfl (by first | exact Nat.le_of_ble_eq_true rfl | simp [q_cat, q_catI, q_catJ, q_catR]) ⟨Nat.le_of_ble_eq_true rfl, Nat.le_of_ble_eq_true rfl⟩ ⟨Nat.le_of_ble_eq_true rfl, Nat.le_of_ble_eq_true rfl⟩ dX12_frames_1 (fun r40_ S41_ H locs hp Y => ?_)
  obtain ⟨x42_, rfl, h⟩ := hp
  refine W.eq (g2 := F0 m 4 ls [.int x42_]) rfl ?_
  refine lv_istore_n (i := 3) (lv' := [(3, .int x42_), (0, .ref a0), (1, .int x1), (2, .int x2)]) hx hb dX12_frames_4 rfl hl (by decide) (by first | rfl | simp [q_cat, q_catI, q_catJ, q_catR]) (fun ls hl => ?_)
  refine lv_iconst (v := 0) hx hb dX12_frames_5 (by decide) ?_
  refine lv_istore (i := 4) (lv' := [(4, .int (0 : Int32)), (3, .int x42_), (0, .ref a0), (1, .int x1), (2, .int x2)]) hx hb dX12_frames_6 hl (by decide) (by first | rfl | simp [q_cat, q_catI, q_catJ, q_catR]) (fun ls hl => ?_)
  refine lv_iconst (v := 0) hx hb dX12_frames_8 (by decide) ?_
  refine lv_istore (i := 5) (lv' := [(5, .int (0 : Int32)), (4, .int (0 : Int32)), (3, .int x42_), (0, .ref a0), (1, .int x1), (2, .int x2)]) hx hb dX12_frames_9 hl (by decide) (by first | rfl | simp [q_cat, q_catI, q_catJ, q_catR]) (fun ls hl => ?_)
  obtain ⟨n43_, h⟩ := h
  exact cl_X12_frames_11 X n43_ _ _ _ _ _ _ _ _ _ _ h Y (lv_sub hl [3, 4, 5, 2, 1, 0] rfl)
-- X12_named
theorem dX12_named_0 : decode cX12_named 0 = .ok (.iload_n 3, 1) := by decide +kernel
theorem dX12_named_1 : decode cX12_named 1 = .ok (.ifCond .lt 33, 3) := by decide +kernel
theorem dX12_named_4 : decode cX12_named 4 = .ok (.iload_n 3, 1) := by decide +kernel
theorem dX12_named_5 : decode cX12_named 5 = .ok (.iconst 5, 1) := by decide +kernel
theorem dX12_named_6 : decode cX12_named 6 = .ok (.if_icmp .gt 28, 3) := by decide +kernel
theorem dX12_named_9 : decode cX12_named 9 = .ok (.iload 5, 2) := by decide +kernel
theorem dX12_named_11 : decode cX12_named 11 = .ok (.iconst 1, 1) := by decide +kernel
theorem dX12_named_12 : decode cX12_named 12 = .ok (.if_icmp .lt 22, 3) := by decide +kernel
theorem dX12_named_15 : decode cX12_named 15 = .ok (.iload 5, 2) := by decide +kernel
theorem dX12_named_17 : decode cX12_named 17 = .ok (.bipush 12, 2) := by decide +kernel
theorem dX12_named_19 : decode cX12_named 19 = .ok (.if_icmp .gt 15, 3) := by decide +kernel
theorem dX12_named_22 : decode cX12_named 22 = .ok (.aload_n 0, 1) := by decide +kernel
theorem dX12_named_23 : decode cX12_named 23 = .ok (.iload_n 1, 1) := by decide +kernel
theorem dX12_named_24 : decode cX12_named 24 = .ok (.iload 4, 2) := by decide +kernel
theorem dX12_named_26 : decode cX12_named 26 = .ok (.iload 5, 2) := by decide +kernel
theorem dX12_named_28 : decode cX12_named 28 = .ok (.invokevirtual 553, 3) := by decide +kernel
theorem dX12_named_31 : decode cX12_named 31 = .ok (.ifCond .ne 5, 3) := by decide +kernel
theorem dX12_named_34 : decode cX12_named 34 = .ok (.iconst 1, 1) := by decide +kernel
theorem dX12_named_35 : decode cX12_named 35 = .ok (.ireturn, 1) := by decide +kernel
theorem dX12_named_36 : decode cX12_named 36 = .ok (.bipush 64, 2) := by decide +kernel
theorem dX12_named_38 : decode cX12_named 38 = .ok (.iload_n 1, 1) := by decide +kernel
theorem dX12_named_39 : decode cX12_named 39 = .ok (.imul, 1) := by decide +kernel
theorem dX12_named_40 : decode cX12_named 40 = .ok (.istore 6, 2) := by decide +kernel
theorem dX12_named_42 : decode cX12_named 42 = .ok (.iload 6, 2) := by decide +kernel
theorem dX12_named_44 : decode cX12_named 44 = .ok (.bipush 64, 2) := by decide +kernel
theorem dX12_named_46 : decode cX12_named 46 = .ok (.iload_n 1, 1) := by decide +kernel
theorem dX12_named_47 : decode cX12_named 47 = .ok (.imul, 1) := by decide +kernel
theorem dX12_named_48 : decode cX12_named 48 = .ok (.aload_n 0, 1) := by decide +kernel
theorem dX12_named_49 : decode cX12_named 49 = .ok (.getfield 45, 3) := by decide +kernel
theorem dX12_named_52 : decode cX12_named 52 = .ok (.iload_n 1, 1) := by decide +kernel
theorem dX12_named_53 : decode cX12_named 53 = .ok (.iaload, 1) := by decide +kernel
theorem dX12_named_54 : decode cX12_named 54 = .ok (.iadd, 1) := by decide +kernel
theorem dX12_named_55 : decode cX12_named 55 = .ok (.if_icmp .ge 130, 3) := by decide +kernel
theorem dX12_named_58 : decode cX12_named 58 = .ok (.aload_n 0, 1) := by decide +kernel
theorem dX12_named_59 : decode cX12_named 59 = .ok (.getfield 54, 3) := by decide +kernel
theorem dX12_named_62 : decode cX12_named 62 = .ok (.iload 6, 2) := by decide +kernel
theorem dX12_named_64 : decode cX12_named 64 = .ok (.iaload, 1) := by decide +kernel
theorem dX12_named_65 : decode cX12_named 65 = .ok (.iload_n 3, 1) := by decide +kernel
theorem dX12_named_66 : decode cX12_named 66 = .ok (.if_icmp .ne 19, 3) := by decide +kernel
theorem dX12_named_69 : decode cX12_named 69 = .ok (.aload_n 0, 1) := by decide +kernel
theorem dX12_named_70 : decode cX12_named 70 = .ok (.getfield 51, 3) := by decide +kernel
theorem dX12_named_73 : decode cX12_named 73 = .ok (.iload 6, 2) := by decide +kernel
theorem dX12_named_75 : decode cX12_named 75 = .ok (.iaload, 1) := by decide +kernel
theorem dX12_named_76 : decode cX12_named 76 = .ok (.iload 5, 2) := by decide +kernel
theorem dX12_named_78 : decode cX12_named 78 = .ok (.if_icmp .ne 7, 3) := by decide +kernel
theorem dX12_named_81 : decode cX12_named 81 = .ok (.iconst 1, 1) := by decide +kernel
theorem dX12_named_82 : decode cX12_named 82 = .ok (.goto 4, 3) := by decide +kernel
theorem dX12_named_85 : decode cX12_named 85 = .ok (.iconst 0, 1) := by decide +kernel
theorem dX12_named_86 : decode cX12_named 86 = .ok (.istore 7, 2) := by decide +kernel
theorem dX12_named_88 : decode cX12_named 88 = .ok (.iconst 0, 1) := by decide +kernel
theorem dX12_named_89 : decode cX12_named 89 = .ok (.istore 8, 2) := by decide +kernel
theorem dX12_named_91 : decode cX12_named 91 = .ok (.iload 8, 2) := by decide +kernel
theorem dX12_named_93 : decode cX12_named 93 = .ok (.iload 5, 2) := by decide +kernel
theorem dX12_named_95 : decode cX12_named 95 = .ok (.if_icmp .ge 55, 3) := by decide +kernel
theorem dX12_named_98 : decode cX12_named 98 = .ok (.iload 7, 2) := by decide +kernel
theorem dX12_named_100 : decode cX12_named 100 = .ok (.ifCond .eq 50, 3) := by decide +kernel
theorem dX12_named_103 : decode cX12_named 103 = .ok (.aload_n 0, 1) := by decide +kernel
theorem dX12_named_104 : decode cX12_named 104 = .ok (.getfield 20, 3) := by decide +kernel
theorem dX12_named_107 : decode cX12_named 107 = .ok (.aload_n 0, 1) := by decide +kernel
theorem dX12_named_108 : decode cX12_named 108 = .ok (.getfield 48, 3) := by decide +kernel
theorem dX12_named_111 : decode cX12_named 111 = .ok (.iload 6, 2) := by decide +kernel
theorem dX12_named_113 : decode cX12_named 113 = .ok (.iaload, 1) := by decide +kernel
theorem dX12_named_114 : decode cX12_named 114 = .ok (.iload 8, 2) := by decide +kernel
theorem dX12_named_116 : decode cX12_named 116 = .ok (.iadd, 1) := by decide +kernel
theorem dX12_named_117 : decode cX12_named 117 = .ok (.baload, 1) := by decide +kernel
theorem dX12_named_118 : decode cX12_named 118 = .ok (.aload_n 0, 1) := by decide +kernel
theorem dX12_named_119 : decode cX12_named 119 = .ok (.getfield 146, 3) := by decide +kernel
theorem dX12_named_122 : decode cX12_named 122 = .ok (.sipush 8192, 3) := by decide +kernel
theorem dX12_named_125 : decode cX12_named 125 = .ok (.iload_n 1, 1) := by decide +kernel
theorem dX12_named_126 : decode cX12_named 126 = .ok (.imul, 1) := by decide +kernel
theorem dX12_named_127 : decode cX12_named 127 = .ok (.iload 4, 2) := by decide +kernel
theorem dX12_named_129 : decode cX12_named 129 = .ok (.iadd, 1) := by decide +kernel
theorem dX12_named_130 : decode cX12_named 130 = .ok (.iload 8, 2) := by decide +kernel
theorem dX12_named_132 : decode cX12_named 132 = .ok (.iadd, 1) := by decide +kernel
theorem dX12_named_133 : decode cX12_named 133 = .ok (.baload, 1) := by decide +kernel
theorem dX12_named_134 : decode cX12_named 134 = .ok (.if_icmp .ne 7, 3) := by decide +kernel
theorem dX12_named_137 : decode cX12_named 137 = .ok (.iconst 1, 1) := by decide +kernel
theorem dX12_named_138 : decode cX12_named 138 = .ok (.goto 4, 3) := by decide +kernel
theorem dX12_named_141 : decode cX12_named 141 = .ok (.iconst 0, 1) := by decide +kernel
theorem dX12_named_142 : decode cX12_named 142 = .ok (.istore 7, 2) := by decide +kernel
theorem dX12_named_144 : decode cX12_named 144 = .ok (.iinc 8 1, 3) := by decide +kernel
theorem dX12_named_147 : decode cX12_named 147 = .ok (.goto (-56), 3) := by decide +kernel
theorem dX12_named_150 : decode cX12_named 150 = .ok (.iload 7, 2) := by decide +kernel
theorem dX12_named_152 : decode cX12_named 152 = .ok (.ifCond .ne 6, 3) := by decide +kernel
theorem dX12_named_155 : decode cX12_named 155 = .ok (.goto 24, 3) := by decide +kernel
theorem dX12_named_158 : decode cX12_named 158 = .ok (.aload_n 0, 1) := by decide +kernel
theorem dX12_named_159 : decode cX12_named 159 = .ok (.getfield 179, 3) := by decide +kernel
theorem dX12_named_162 : decode cX12_named 162 = .ok (.bipush 32, 2) := by decide +kernel
theorem dX12_named_164 : decode cX12_named 164 = .ok (.iload_n 2, 1) := by decide +kernel
theorem dX12_named_165 : decode cX12_named 165 = .ok (.imul, 1) := by decide +kernel
theorem dX12_named_166 : decode cX12_named 166 = .ok (.bipush 11, 2) := by decide +kernel
theorem dX12_named_168 : decode cX12_named 168 = .ok (.iadd, 1) := by decide +kernel
theorem dX12_named_169 : decode cX12_named 169 = .ok (.aload_n 0, 1) := by decide +kernel
theorem dX12_named_170 : decode cX12_named 170 = .ok (.getfield 57, 3) := by decide +kernel
theorem dX12_named_173 : decode cX12_named 173 = .ok (.iload 6, 2) := by decide +kernel
theorem dX12_named_175 : decode cX12_named 175 = .ok (.iaload, 1) := by decide +kernel
theorem dX12_named_176 : decode cX12_named 176 = .ok (.iastore, 1) := by decide +kernel
theorem dX12_named_177 : decode cX12_named 177 = .ok (.iconst 0, 1) := by decide +kernel
theorem dX12_named_178 : decode cX12_named 178 = .ok (.ireturn, 1) := by decide +kernel
theorem dX12_named_179 : decode cX12_named 179 = .ok (.iinc 6 1, 3) := by decide +kernel
theorem dX12_named_182 : decode cX12_named 182 = .ok (.goto (-140), 3) := by decide +kernel
theorem dX12_named_185 : decode cX12_named 185 = .ok (.iconst 2, 1) := by decide +kernel
theorem dX12_named_186 : decode cX12_named 186 = .ok (.ireturn, 1) := by decide +kernel
def wb_X12_named_34  (S : q_S) (Q : Option Value → q_S → Prop) : Prop := Q (some (.int (1 : Int32))) S
set_option maxHeartbeats 4000000 in
set_option maxRecDepth 100000 in
theorem cb_X12_named_34 {p : Program} {l : Launch} {e : Env} {s : State} {m : MethodId} {args : Array Value} {below : List Frame} {meth : Method} {c : Code} {D : va_G} {cy : Nat → ClassId} {lo : Nat}  {S : q_S} {Q : Option Value → q_S → Prop} {H : Heap} {locs : List Loc} {ls : Array Slot} (X : q_X p s m args meth c RX12 cX12_named 9 (some .int) D cy lo)  (Y : q_Y D cy lo s S H locs) (hl : lv_has ls 9 []) (h : wb_X12_named_34 S Q) : W p l e ({ frames := 1, cells := 0, slots := 0, locals := 23 } : Room) s m args below meth c H locs 0 0 (MQ below (q_Q D cy lo Q) args s 0 0 (fun q => lo ≤ q)) (F0 m 34 ls []) := by
  have hx := X.1
  have hb := X.2.1
  unfold wb_X12_named_34 at h
  refine lv_iconst (v := 1) hx hb dX12_named_34 (by decide) ?_
  exact q_iret X Y rfl (Nat.le_refl _) (Nat.le_refl _) h dX12_named_35
def wb_X12_named_142 (B42 : q_S → Nat → Int32 → Int32 → Int32 → Int32 → Int32 → Int32 → Prop) (B91 : q_S → Nat → Int32 → Int32 → Int32 → Int32 → Int32 → Int32 → Int32 → Int32 → Prop) (S : q_S) (a0 : Nat) (x1 : Int32) (x2 : Int32) (x3 : Int32) (x4 : Int32) (x5 : Int32) (x6 : Int32) (x8 : Int32) (xs0 : Int32) (Q : Option Value → q_S → Prop) : Prop := B91 S a0 x1 x2 x3 x4 x5 x6 xs0 (x8 + 1)
set_option maxHeartbeats 4000000 in
set_option maxRecDepth 100000 in
theorem cb_X12_named_142 {p : Program} {l : Launch} {e : Env} {s : State} {m : MethodId} {args : Array Value} {below : List Frame} {meth : Method} {c : Code} {D : va_G} {cy : Nat → ClassId} {lo : Nat} {B42 : q_S → Nat → Int32 → Int32 → Int32 → Int32 → Int32 → Int32 → Prop} {B91 : q_S → Nat → Int32 → Int32 → Int32 → Int32 → Int32 → Int32 → Int32 → Int32 → Prop} {S : q_S} {a0 : Nat} {x1 : Int32} {x2 : Int32} {x3 : Int32} {x4 : Int32} {x5 : Int32} {x6 : Int32} {x8 : Int32} {xs0 : Int32} {Q : Option Value → q_S → Prop} {H : Heap} {locs : List Loc} {ls : Array Slot} (X : q_X p s m args meth c RX12 cX12_named 9 (some .int) D cy lo) (hB42 : ∀ (S : q_S) (a0 : Nat) (x1 : Int32) (x2 : Int32) (x3 : Int32) (x4 : Int32) (x5 : Int32) (x6 : Int32) (H : Heap) (locs : List Loc) (ls : Array Slot), B42 S a0 x1 x2 x3 x4 x5 x6 → q_Y D cy lo s S H locs → lv_has ls 9 [(0, .ref a0), (1, .int x1), (2, .int x2), (3, .int x3), (4, .int x4), (5, .int x5), (6, .int x6)] → W p l e ({ frames := 1, cells := 0, slots := 0, locals := 23 } : Room) s m args below meth c H locs 0 0 (MQ below (q_Q D cy lo Q) args s 0 0 (fun q => lo ≤ q)) (F0 m 42 ls [])) (hB91 : ∀ (S : q_S) (a0 : Nat) (x1 : Int32) (x2 : Int32) (x3 : Int32) (x4 : Int32) (x5 : Int32) (x6 : Int32) (x7 : Int32) (x8 : Int32) (H : Heap) (locs : List Loc) (ls : Array Slot), B91 S a0 x1 x2 x3 x4 x5 x6 x7 x8 → q_Y D cy lo s S H locs → lv_has ls 9 [(0, .ref a0), (1, .int x1), (2, .int x2), (3, .int x3), (4, .int x4), (5, .int x5), (6, .int x6), (7, .int x7), (8, .int x8)] → W p l e ({ frames := 1, cells := 0, slots := 0, locals := 23 } : Room) s m args below meth c H locs 0 0 (MQ below (q_Q D cy lo Q) args s 0 0 (fun q => lo ≤ q)) (F0 m 91 ls [])) (Y : q_Y D cy lo s S H locs) (hl : lv_has ls 9 [(0, .ref a0), (1, .int x1), (2, .int x2), (3, .int x3), (4, .int x4), (5, .int x5), (6, .int x6), (8, .int x8)]) (h : wb_X12_named_142 B42 B91 S a0 x1 x2 x3 x4 x5 x6 x8 xs0 Q) : W p l e ({ frames := 1, cells := 0, slots := 0, locals := 23 } : Room) s m args below meth c H locs 0 0 (MQ below (q_Q D cy lo Q) args s 0 0 (fun q => lo ≤ q)) (F0 m 142 ls [.int xs0]) := by
  have hx := X.1
  have hb := X.2.1
  unfold wb_X12_named_142 at h
  refine lv_istore (i := 7) (lv' := [(7, .int xs0), (0, .ref a0), (1, .int x1), (2, .int x2), (3, .int x3), (4, .int x4), (5, .int x5), (6, .int x6), (8, .int x8)]) hx hb dX12_named_142 hl (by decide) (by first | rfl | simp [q_cat, q_catI, q_catJ, q_catR]) (fun ls hl => ?_)
  refine lv_iinc (v := (x8 + 1)) (lv' := [(8, .int (x8 + 1)), (7, .int xs0), (0, .ref a0), (1, .int x1), (2, .int x2), (3, .int x3), (4, .int x4), (5, .int x5), (6, .int x6)]) hx hb dX12_named_144 hl (k := 8) rfl (by first | rfl | decide) (by decide) (by first | rfl | simp [q_cat, q_catI, q_catJ, q_catR]) (fun ls hl => ?_)
  refine lv_goto (tgt := 91) hx hb dX12_named_147 (by decide) ?_
  exact hB91 _ _ _ _ _ _ _ _ _ _ _ _ _ h Y (lv_sub hl [2, 3, 4, 5, 6, 7, 8, 1, 0] rfl)
def wb_X12_named_150 (B42 : q_S → Nat → Int32 → Int32 → Int32 → Int32 → Int32 → Int32 → Prop) (S : q_S) (a0 : Nat) (x1 : Int32) (x2 : Int32) (x3 : Int32) (x4 : Int32) (x5 : Int32) (x6 : Int32) (x7 : Int32) (Q : Option Value → q_S → Prop) : Prop := ((¬ x7 = 0 → (q_K S a0 = 13 ∧ (∃ a3_ : Nat, (q_P S 2434 a0) = some a3_ ∧ (q_K S a3_ = 21 ∧ (vp_in x6 (q_N S a3_) ∧ (∃ a7_ : Nat, (q_P S 2477 a0) = some a7_ ∧ (q_K S a7_ = 21 ∧ (vp_in (((32 : Int32) * x2) + (11 : Int32)) (q_N S a7_) ∧ (Q (some (.int (0 : Int32))) (qs_A S a7_ (((32 : Int32) * x2) + (11 : Int32)).toNatClampNeg (q_A S a3_ x6.toNatClampNeg))))))))))) ∧ (x7 = 0 → (B42 S a0 x1 x2 x3 x4 x5 (x6 + 1))))
set_option maxHeartbeats 4000000 in
set_option maxRecDepth 100000 in
theorem cb_X12_named_150 {p : Program} {l : Launch} {e : Env} {s : State} {m : MethodId} {args : Array Value} {below : List Frame} {meth : Method} {c : Code} {D : va_G} {cy : Nat → ClassId} {lo : Nat} {B42 : q_S → Nat → Int32 → Int32 → Int32 → Int32 → Int32 → Int32 → Prop} {S : q_S} {a0 : Nat} {x1 : Int32} {x2 : Int32} {x3 : Int32} {x4 : Int32} {x5 : Int32} {x6 : Int32} {x7 : Int32} {Q : Option Value → q_S → Prop} {H : Heap} {locs : List Loc} {ls : Array Slot} (X : q_X p s m args meth c RX12 cX12_named 9 (some .int) D cy lo) (hB42 : ∀ (S : q_S) (a0 : Nat) (x1 : Int32) (x2 : Int32) (x3 : Int32) (x4 : Int32) (x5 : Int32) (x6 : Int32) (H : Heap) (locs : List Loc) (ls : Array Slot), B42 S a0 x1 x2 x3 x4 x5 x6 → q_Y D cy lo s S H locs → lv_has ls 9 [(0, .ref a0), (1, .int x1), (2, .int x2), (3, .int x3), (4, .int x4), (5, .int x5), (6, .int x6)] → W p l e ({ frames := 1, cells := 0, slots := 0, locals := 23 } : Room) s m args below meth c H locs 0 0 (MQ below (q_Q D cy lo Q) args s 0 0 (fun q => lo ≤ q)) (F0 m 42 ls [])) (Y : q_Y D cy lo s S H locs) (hl : lv_has ls 9 [(0, .ref a0), (1, .int x1), (2, .int x2), (3, .int x3), (4, .int x4), (5, .int x5), (6, .int x6), (7, .int x7)]) (h : wb_X12_named_150 B42 S a0 x1 x2 x3 x4 x5 x6 x7 Q) : W p l e ({ frames := 1, cells := 0, slots := 0, locals := 23 } : Room) s m args below meth c H locs 0 0 (MQ below (q_Q D cy lo Q) args s 0 0 (fun q => lo ≤ q)) (F0 m 150 ls []) := by
  have hx := X.1
  have hb := X.2.1
  unfold wb_X12_named_150 at h
  refine lv_iload hx hb dX12_named_150 (lv_at hl 7 rfl) ?_
  refine lv_if_ne (tgt := 158) hx hb dX12_named_152 (by decide) (fun c1_ => ?_) (fun c1_ => ?_)
  · replace h := h.1 c1_
    refine lv_aload_n hx hb dX12_named_158 rfl (lv_at hl 0 rfl) ?_
    obtain ⟨k2_, h⟩ := h
    refine q_getP X Y kX12 77 rfl fl_X12_179 k2_ rfl dX12_named_159 ?_
    refine lv_bipush (v := 32) hx hb dX12_named_162 (by decide) ?_
    refine lv_iload_n hx hb dX12_named_164 rfl (lv_at hl 2 rfl) ?_
    refine lv_imul hx hb dX12_named_165 ?_
    refine lv_bipush (v := 11) hx hb dX12_named_166 (by decide) ?_
    refine lv_iadd hx hb dX12_named_168 ?_
    refine lv_aload_n hx hb dX12_named_169 rfl (lv_at hl 0 rfl) ?_
    refine q_getP X Y kX12 34 rfl fl_X12_57 k2_ rfl dX12_named_170 ?_
    refine lv_iload hx hb dX12_named_173 (lv_at hl 6 rfl) ?_
    obtain ⟨a3_, e4_, h⟩ := h
    refine q_nn [.int x6] e4_ ?_
    obtain ⟨k5_, h⟩ := h
    obtain ⟨i6_, h⟩ := h
    refine q_ild X Y k5_ i6_ dX12_named_175 ?_
    obtain ⟨a7_, e8_, h⟩ := h
    refine q_nn [.int (q_A S a3_ x6.toNatClampNeg), .int (((32 : Int32) * x2) + (11 : Int32))] e8_ ?_
    obtain ⟨k9_, h⟩ := h
    obtain ⟨i10_, h⟩ := h
    refine q_ist X Y k9_ i10_ dX12_named_176 (fun H locs Y => ?_)
    refine lv_iconst (v := 0) hx hb dX12_named_177 (by decide) ?_
    exact q_iret X Y rfl (Nat.le_refl _) (Nat.le_refl _) h dX12_named_178
  · replace h := h.2 c1_
    refine lv_goto (tgt := 179) hx hb dX12_named_155 (by decide) ?_
    refine lv_iinc (v := (x6 + 1)) (lv' := [(6, .int (x6 + 1)), (0, .ref a0), (1, .int x1), (2, .int x2), (3, .int x3), (4, .int x4), (5, .int x5), (7, .int x7)]) hx hb dX12_named_179 hl (k := 6) rfl (by first | rfl | decide) (by decide) (by first | rfl | simp [q_cat, q_catI, q_catJ, q_catR]) (fun ls hl => ?_)
    refine lv_goto (tgt := 42) hx hb dX12_named_182 (by decide) ?_
    exact hB42 _ _ _ _ _ _ _ _ _ _ _ h Y (lv_sub hl [1, 2, 3, 4, 5, 6, 0] rfl)
def wb_X12_named_91 (B42 : q_S → Nat → Int32 → Int32 → Int32 → Int32 → Int32 → Int32 → Prop) (B91 : q_S → Nat → Int32 → Int32 → Int32 → Int32 → Int32 → Int32 → Int32 → Int32 → Prop) (S : q_S) (a0 : Nat) (x1 : Int32) (x2 : Int32) (x3 : Int32) (x4 : Int32) (x5 : Int32) (x6 : Int32) (x7 : Int32) (x8 : Int32) (Q : Option Value → q_S → Prop) : Prop := ((x5 ≤ x8 → (wb_X12_named_150 B42 S a0 x1 x2 x3 x4 x5 x6 x7 Q)) ∧ (¬ x5 ≤ x8 → (((x7 = 0 → (wb_X12_named_150 B42 S a0 x1 x2 x3 x4 x5 x6 x7 Q)) ∧ (¬ x7 = 0 → (q_K S a0 = 13 ∧ (∃ a14_ : Nat, (q_P S 2431 a0) = some a14_ ∧ (q_K S a14_ = 21 ∧ (vp_in x6 (q_N S a14_) ∧ (∃ a18_ : Nat, (q_P S 2421 a0) = some a18_ ∧ (q_K S a18_ = 20 ∧ (vp_in ((q_A S a14_ x6.toNatClampNeg) + x8) (q_N S a18_) ∧ (∃ a22_ : Nat, (q_P S 2466 a0) = some a22_ ∧ (q_K S a22_ = 20 ∧ (vp_in ((((8192 : Int32) * x1) + x4) + x8) (q_N S a22_) ∧ (((¬ (q_A S a18_ ((q_A S a14_ x6.toNatClampNeg) + x8).toNatClampNeg) = (q_A S a22_ ((((8192 : Int32) * x1) + x4) + x8).toNatClampNeg) → (wb_X12_named_142 B42 B91 S a0 x1 x2 x3 x4 x5 x6 x8 (0 : Int32) Q)) ∧ ((q_A S a18_ ((q_A S a14_ x6.toNatClampNeg) + x8).toNatClampNeg) = (q_A S a22_ ((((8192 : Int32) * x1) + x4) + x8).toNatClampNeg) → (wb_X12_named_142 B42 B91 S a0 x1 x2 x3 x4 x5 x6 x8 (1 : Int32) Q)))))))))))))))))))
set_option maxHeartbeats 4000000 in
set_option maxRecDepth 100000 in
theorem cb_X12_named_91 {p : Program} {l : Launch} {e : Env} {s : State} {m : MethodId} {args : Array Value} {below : List Frame} {meth : Method} {c : Code} {D : va_G} {cy : Nat → ClassId} {lo : Nat} {B42 : q_S → Nat → Int32 → Int32 → Int32 → Int32 → Int32 → Int32 → Prop} {B91 : q_S → Nat → Int32 → Int32 → Int32 → Int32 → Int32 → Int32 → Int32 → Int32 → Prop} {S : q_S} {a0 : Nat} {x1 : Int32} {x2 : Int32} {x3 : Int32} {x4 : Int32} {x5 : Int32} {x6 : Int32} {x7 : Int32} {x8 : Int32} {Q : Option Value → q_S → Prop} {H : Heap} {locs : List Loc} {ls : Array Slot} (X : q_X p s m args meth c RX12 cX12_named 9 (some .int) D cy lo) (hB42 : ∀ (S : q_S) (a0 : Nat) (x1 : Int32) (x2 : Int32) (x3 : Int32) (x4 : Int32) (x5 : Int32) (x6 : Int32) (H : Heap) (locs : List Loc) (ls : Array Slot), B42 S a0 x1 x2 x3 x4 x5 x6 → q_Y D cy lo s S H locs → lv_has ls 9 [(0, .ref a0), (1, .int x1), (2, .int x2), (3, .int x3), (4, .int x4), (5, .int x5), (6, .int x6)] → W p l e ({ frames := 1, cells := 0, slots := 0, locals := 23 } : Room) s m args below meth c H locs 0 0 (MQ below (q_Q D cy lo Q) args s 0 0 (fun q => lo ≤ q)) (F0 m 42 ls [])) (hB91 : ∀ (S : q_S) (a0 : Nat) (x1 : Int32) (x2 : Int32) (x3 : Int32) (x4 : Int32) (x5 : Int32) (x6 : Int32) (x7 : Int32) (x8 : Int32) (H : Heap) (locs : List Loc) (ls : Array Slot), B91 S a0 x1 x2 x3 x4 x5 x6 x7 x8 → q_Y D cy lo s S H locs → lv_has ls 9 [(0, .ref a0), (1, .int x1), (2, .int x2), (3, .int x3), (4, .int x4), (5, .int x5), (6, .int x6), (7, .int x7), (8, .int x8)] → W p l e ({ frames := 1, cells := 0, slots := 0, locals := 23 } : Room) s m args below meth c H locs 0 0 (MQ below (q_Q D cy lo Q) args s 0 0 (fun q => lo ≤ q)) (F0 m 91 ls [])) (Y : q_Y D cy lo s S H locs) (hl : lv_has ls 9 [(0, .ref a0), (1, .int x1), (2, .int x2), (3, .int x3), (4, .int x4), (5, .int x5), (6, .int x6), (7, .int x7), (8, .int x8)]) (h : wb_X12_named_91 B42 B91 S a0 x1 x2 x3 x4 x5 x6 x7 x8 Q) : W p l e ({ frames := 1, cells := 0, slots := 0, locals := 23 } : Room) s m args below meth c H locs 0 0 (MQ below (q_Q D cy lo Q) args s 0 0 (fun q => lo ≤ q)) (F0 m 91 ls []) := by
  have hx := X.1
  have hb := X.2.1
  unfold wb_X12_named_91 at h
  refine lv_iload hx hb dX12_named_91 (lv_at hl 8 rfl) ?_
  refine lv_iload hx hb dX12_named_93 (lv_at hl 5 rfl) ?_
  refine lv_icmp_ge (tgt := 150) hx hb dX12_named_95 (by decide) (fun c11_ => ?_) (fun c11_ => ?_)
  · replace h := h.1 c11_
    exact cb_X12_named_150 X hB42 Y (lv_sub hl [0, 1, 2, 3, 4, 5, 6, 7] rfl) h
  · replace h := h.2 c11_
    refine lv_iload hx hb dX12_named_98 (lv_at hl 7 rfl) ?_
    refine lv_if_eq (tgt := 150) hx hb dX12_named_100 (by decide) (fun c12_ => ?_) (fun c12_ => ?_)
    · replace h := h.1 c12_
      exact cb_X12_named_150 X hB42 Y (lv_sub hl [0, 1, 2, 3, 4, 5, 6, 7] rfl) h
    · replace h := h.2 c12_
      refine lv_aload_n hx hb dX12_named_103 rfl (lv_at hl 0 rfl) ?_
      obtain ⟨k13_, h⟩ := h
      refine q_getP X Y kX12 21 rfl fl_X12_20 k13_ rfl dX12_named_104 ?_
      refine lv_aload_n hx hb dX12_named_107 rfl (lv_at hl 0 rfl) ?_
      refine q_getP X Y kX12 31 rfl fl_X12_48 k13_ rfl dX12_named_108 ?_
      refine lv_iload hx hb dX12_named_111 (lv_at hl 6 rfl) ?_
      obtain ⟨a14_, e15_, h⟩ := h
      refine q_nn [.int x6] e15_ ?_
      obtain ⟨k16_, h⟩ := h
      obtain ⟨i17_, h⟩ := h
      refine q_ild X Y k16_ i17_ dX12_named_113 ?_
      refine lv_iload hx hb dX12_named_114 (lv_at hl 8 rfl) ?_
      refine lv_iadd hx hb dX12_named_116 ?_
      obtain ⟨a18_, e19_, h⟩ := h
      refine q_nn [.int ((q_A S a14_ x6.toNatClampNeg) + x8)] e19_ ?_
      obtain ⟨k20_, h⟩ := h
      obtain ⟨i21_, h⟩ := h
      refine q_bld X Y k20_ i21_ dX12_named_117 ?_
      refine lv_aload_n hx hb dX12_named_118 rfl (lv_at hl 0 rfl) ?_
      refine q_getP X Y kX12 66 rfl fl_X12_146 k13_ rfl dX12_named_119 ?_
      refine lv_sipush (v := 8192) hx hb dX12_named_122 (by decide) ?_
      refine lv_iload_n hx hb dX12_named_125 rfl (lv_at hl 1 rfl) ?_
      refine lv_imul hx hb dX12_named_126 ?_
      refine lv_iload hx hb dX12_named_127 (lv_at hl 4 rfl) ?_
      refine lv_iadd hx hb dX12_named_129 ?_
      refine lv_iload hx hb dX12_named_130 (lv_at hl 8 rfl) ?_
      refine lv_iadd hx hb dX12_named_132 ?_
      obtain ⟨a22_, e23_, h⟩ := h
      refine q_nn [.int ((((8192 : Int32) * x1) + x4) + x8)] e23_ ?_
      obtain ⟨k24_, h⟩ := h
      obtain ⟨i25_, h⟩ := h
      refine q_bld X Y k24_ i25_ dX12_named_133 ?_
      refine lv_icmp_ne (tgt := 141) hx hb dX12_named_134 (by decide) (fun c26_ => ?_) (fun c26_ => ?_)
      · replace h := h.1 c26_
        refine lv_iconst (v := 0) hx hb dX12_named_141 (by decide) ?_
        exact cb_X12_named_142 X hB42 hB91 Y (lv_sub hl [0, 1, 2, 3, 4, 5, 6, 8] rfl) h
      · replace h := h.2 c26_
        refine lv_iconst (v := 1) hx hb dX12_named_137 (by decide) ?_
        refine lv_goto (tgt := 142) hx hb dX12_named_138 (by decide) ?_
        exact cb_X12_named_142 X hB42 hB91 Y (lv_sub hl [0, 1, 2, 3, 4, 5, 6, 8] rfl) h
def wl_X12_named_91 (B42 : q_S → Nat → Int32 → Int32 → Int32 → Int32 → Int32 → Int32 → Prop) : Nat → q_S → Nat → Int32 → Int32 → Int32 → Int32 → Int32 → Int32 → Int32 → Int32 → (Option Value → q_S → Prop) → Prop
  | 0, _, _, _, _, _, _, _, _, _, _, _ => False
  | n + 1, S, a0, x1, x2, x3, x4, x5, x6, x7, x8, Q => wb_X12_named_91 B42 (fun S a0 x1 x2 x3 x4 x5 x6 x7 x8 => wl_X12_named_91 B42 n S a0 x1 x2 x3 x4 x5 x6 x7 x8 Q) S a0 x1 x2 x3 x4 x5 x6 x7 x8 Q
set_option maxHeartbeats 4000000 in
set_option maxRecDepth 100000 in
theorem cl_X12_named_91 {p : Program} {l : Launch} {e : Env} {s : State} {m : MethodId} {args : Array Value} {below : List Frame} {meth : Method} {c : Code} {D : va_G} {cy : Nat → ClassId} {lo : Nat} {B42 : q_S → Nat → Int32 → Int32 → Int32 → Int32 → Int32 → Int32 → Prop} {Q : Option Value → q_S → Prop} (X : q_X p s m args meth c RX12 cX12_named 9 (some .int) D cy lo) (hB42 : ∀ (S : q_S) (a0 : Nat) (x1 : Int32) (x2 : Int32) (x3 : Int32) (x4 : Int32) (x5 : Int32) (x6 : Int32) (H : Heap) (locs : List Loc) (ls : Array Slot), B42 S a0 x1 x2 x3 x4 x5 x6 → q_Y D cy lo s S H locs → lv_has ls 9 [(0, .ref a0), (1, .int x1), (2, .int x2), (3, .int x3), (4, .int x4), (5, .int x5), (6, .int x6)] → W p l e ({ frames := 1, cells := 0, slots := 0, locals := 23 } : Room) s m args below meth c H locs 0 0 (MQ below (q_Q D cy lo Q) args s 0 0 (fun q => lo ≤ q)) (F0 m 42 ls [])) : ∀ (n : Nat) (S : q_S) (a0 : Nat) (x1 : Int32) (x2 : Int32) (x3 : Int32) (x4 : Int32) (x5 : Int32) (x6 : Int32) (x7 : Int32) (x8 : Int32) (H : Heap) (locs : List Loc) (ls : Array Slot), wl_X12_named_91 B42 n S a0 x1 x2 x3 x4 x5 x6 x7 x8 Q → q_Y D cy lo s S H locs → lv_has ls 9 [(0, .ref a0), (1, .int x1), (2, .int x2), (3, .int x3), (4, .int x4), (5, .int x5), (6, .int x6), (7, .int x7), (8, .int x8)] → W p l e ({ frames := 1, cells := 0, slots := 0, locals := 23 } : Room) s m args below meth c H locs 0 0 (MQ below (q_Q D cy lo Q) args s 0 0 (fun q => lo ≤ q)) (F0 m 91 ls []) := by
  intro n
  induction n with
  | zero => intro S a0 x1 x2 x3 x4 x5 x6 x7 x8 H locs ls h; exact absurd h id
  | succ n ih => intro S a0 x1 x2 x3 x4 x5 x6 x7 x8 H locs ls h Y hl; exact cb_X12_named_91 X hB42 ih Y hl h
def wb_X12_named_86 (B42 : q_S → Nat → Int32 → Int32 → Int32 → Int32 → Int32 → Int32 → Prop) (S : q_S) (a0 : Nat) (x1 : Int32) (x2 : Int32) (x3 : Int32) (x4 : Int32) (x5 : Int32) (x6 : Int32) (xs0 : Int32) (Q : Option Value → q_S → Prop) : Prop := ∃ n27_ : Nat, wl_X12_named_91 B42 n27_ S a0 x1 x2 x3 x4 x5 x6 xs0 (0 : Int32) Q
set_option maxHeartbeats 4000000 in
set_option maxRecDepth 100000 in
theorem cb_X12_named_86 {p : Program} {l : Launch} {e : Env} {s : State} {m : MethodId} {args : Array Value} {below : List Frame} {meth : Method} {c : Code} {D : va_G} {cy : Nat → ClassId} {lo : Nat} {B42 : q_S → Nat → Int32 → Int32 → Int32 → Int32 → Int32 → Int32 → Prop} {S : q_S} {a0 : Nat} {x1 : Int32} {x2 : Int32} {x3 : Int32} {x4 : Int32} {x5 : Int32} {x6 : Int32} {xs0 : Int32} {Q : Option Value → q_S → Prop} {H : Heap} {locs : List Loc} {ls : Array Slot} (X : q_X p s m args meth c RX12 cX12_named 9 (some .int) D cy lo) (hB42 : ∀ (S : q_S) (a0 : Nat) (x1 : Int32) (x2 : Int32) (x3 : Int32) (x4 : Int32) (x5 : Int32) (x6 : Int32) (H : Heap) (locs : List Loc) (ls : Array Slot), B42 S a0 x1 x2 x3 x4 x5 x6 → q_Y D cy lo s S H locs → lv_has ls 9 [(0, .ref a0), (1, .int x1), (2, .int x2), (3, .int x3), (4, .int x4), (5, .int x5), (6, .int x6)] → W p l e ({ frames := 1, cells := 0, slots := 0, locals := 23 } : Room) s m args below meth c H locs 0 0 (MQ below (q_Q D cy lo Q) args s 0 0 (fun q => lo ≤ q)) (F0 m 42 ls [])) (Y : q_Y D cy lo s S H locs) (hl : lv_has ls 9 [(0, .ref a0), (1, .int x1), (2, .int x2), (3, .int x3), (4, .int x4), (5, .int x5), (6, .int x6)]) (h : wb_X12_named_86 B42 S a0 x1 x2 x3 x4 x5 x6 xs0 Q) : W p l e ({ frames := 1, cells := 0, slots := 0, locals := 23 } : Room) s m args below meth c H locs 0 0 (MQ below (q_Q D cy lo Q) args s 0 0 (fun q => lo ≤ q)) (F0 m 86 ls [.int xs0]) := by
  have hx := X.1
  have hb := X.2.1
  unfold wb_X12_named_86 at h
  refine lv_istore (i := 7) (lv' := [(7, .int xs0), (0, .ref a0), (1, .int x1), (2, .int x2), (3, .int x3), (4, .int x4), (5, .int x5), (6, .int x6)]) hx hb dX12_named_86 hl (by decide) (by first | rfl | simp [q_cat, q_catI, q_catJ, q_catR]) (fun ls hl => ?_)
  refine lv_iconst (v := 0) hx hb dX12_named_88 (by decide) ?_
  refine lv_istore (i := 8) (lv' := [(8, .int (0 : Int32)), (7, .int xs0), (0, .ref a0), (1, .int x1), (2, .int x2), (3, .int x3), (4, .int x4), (5, .int x5), (6, .int x6)]) hx hb dX12_named_89 hl (by decide) (by first | rfl | simp [q_cat, q_catI, q_catJ, q_catR]) (fun ls hl => ?_)
  obtain ⟨n27_, h⟩ := h
  exact cl_X12_named_91 X hB42 n27_ _ _ _ _ _ _ _ _ _ _ _ _ _ h Y (lv_sub hl [2, 3, 4, 5, 6, 7, 8, 1, 0] rfl)
def wb_X12_named_85 (B42 : q_S → Nat → Int32 → Int32 → Int32 → Int32 → Int32 → Int32 → Prop) (S : q_S) (a0 : Nat) (x1 : Int32) (x2 : Int32) (x3 : Int32) (x4 : Int32) (x5 : Int32) (x6 : Int32) (Q : Option Value → q_S → Prop) : Prop := wb_X12_named_86 B42 S a0 x1 x2 x3 x4 x5 x6 (0 : Int32) Q
set_option maxHeartbeats 4000000 in
set_option maxRecDepth 100000 in
theorem cb_X12_named_85 {p : Program} {l : Launch} {e : Env} {s : State} {m : MethodId} {args : Array Value} {below : List Frame} {meth : Method} {c : Code} {D : va_G} {cy : Nat → ClassId} {lo : Nat} {B42 : q_S → Nat → Int32 → Int32 → Int32 → Int32 → Int32 → Int32 → Prop} {S : q_S} {a0 : Nat} {x1 : Int32} {x2 : Int32} {x3 : Int32} {x4 : Int32} {x5 : Int32} {x6 : Int32} {Q : Option Value → q_S → Prop} {H : Heap} {locs : List Loc} {ls : Array Slot} (X : q_X p s m args meth c RX12 cX12_named 9 (some .int) D cy lo) (hB42 : ∀ (S : q_S) (a0 : Nat) (x1 : Int32) (x2 : Int32) (x3 : Int32) (x4 : Int32) (x5 : Int32) (x6 : Int32) (H : Heap) (locs : List Loc) (ls : Array Slot), B42 S a0 x1 x2 x3 x4 x5 x6 → q_Y D cy lo s S H locs → lv_has ls 9 [(0, .ref a0), (1, .int x1), (2, .int x2), (3, .int x3), (4, .int x4), (5, .int x5), (6, .int x6)] → W p l e ({ frames := 1, cells := 0, slots := 0, locals := 23 } : Room) s m args below meth c H locs 0 0 (MQ below (q_Q D cy lo Q) args s 0 0 (fun q => lo ≤ q)) (F0 m 42 ls [])) (Y : q_Y D cy lo s S H locs) (hl : lv_has ls 9 [(0, .ref a0), (1, .int x1), (2, .int x2), (3, .int x3), (4, .int x4), (5, .int x5), (6, .int x6)]) (h : wb_X12_named_85 B42 S a0 x1 x2 x3 x4 x5 x6 Q) : W p l e ({ frames := 1, cells := 0, slots := 0, locals := 23 } : Room) s m args below meth c H locs 0 0 (MQ below (q_Q D cy lo Q) args s 0 0 (fun q => lo ≤ q)) (F0 m 85 ls []) := by
  have hx := X.1
  have hb := X.2.1
  unfold wb_X12_named_85 at h
  refine lv_iconst (v := 0) hx hb dX12_named_85 (by decide) ?_
  exact cb_X12_named_86 X hB42 Y (lv_sub hl [0, 1, 2, 3, 4, 5, 6] rfl) h
def wb_X12_named_42 (B42 : q_S → Nat → Int32 → Int32 → Int32 → Int32 → Int32 → Int32 → Prop) (S : q_S) (a0 : Nat) (x1 : Int32) (x2 : Int32) (x3 : Int32) (x4 : Int32) (x5 : Int32) (x6 : Int32) (Q : Option Value → q_S → Prop) : Prop := q_K S a0 = 13 ∧ (∃ a29_ : Nat, (q_P S 2430 a0) = some a29_ ∧ (q_K S a29_ = 21 ∧ (vp_in x1 (q_N S a29_) ∧ ((((((64 : Int32) * x1) + (q_A S a29_ x1.toNatClampNeg)) ≤ x6 → (Q (some (.int (2 : Int32))) S)) ∧ (¬ (((64 : Int32) * x1) + (q_A S a29_ x1.toNatClampNeg)) ≤ x6 → (∃ a34_ : Nat, (q_P S 2433 a0) = some a34_ ∧ (q_K S a34_ = 21 ∧ (vp_in x6 (q_N S a34_) ∧ (((¬ (q_A S a34_ x6.toNatClampNeg) = x3 → (wb_X12_named_85 B42 S a0 x1 x2 x3 x4 x5 x6 Q)) ∧ ((q_A S a34_ x6.toNatClampNeg) = x3 → (∃ a39_ : Nat, (q_P S 2432 a0) = some a39_ ∧ (q_K S a39_ = 21 ∧ (vp_in x6 (q_N S a39_) ∧ (((¬ (q_A S a39_ x6.toNatClampNeg) = x5 → (wb_X12_named_85 B42 S a0 x1 x2 x3 x4 x5 x6 Q)) ∧ ((q_A S a39_ x6.toNatClampNeg) = x5 → (wb_X12_named_86 B42 S a0 x1 x2 x3 x4 x5 x6 (1 : Int32) Q)))))))))))))))))))
set_option maxHeartbeats 4000000 in
set_option maxRecDepth 100000 in
theorem cb_X12_named_42 {p : Program} {l : Launch} {e : Env} {s : State} {m : MethodId} {args : Array Value} {below : List Frame} {meth : Method} {c : Code} {D : va_G} {cy : Nat → ClassId} {lo : Nat} {B42 : q_S → Nat → Int32 → Int32 → Int32 → Int32 → Int32 → Int32 → Prop} {S : q_S} {a0 : Nat} {x1 : Int32} {x2 : Int32} {x3 : Int32} {x4 : Int32} {x5 : Int32} {x6 : Int32} {Q : Option Value → q_S → Prop} {H : Heap} {locs : List Loc} {ls : Array Slot} (X : q_X p s m args meth c RX12 cX12_named 9 (some .int) D cy lo) (hB42 : ∀ (S : q_S) (a0 : Nat) (x1 : Int32) (x2 : Int32) (x3 : Int32) (x4 : Int32) (x5 : Int32) (x6 : Int32) (H : Heap) (locs : List Loc) (ls : Array Slot), B42 S a0 x1 x2 x3 x4 x5 x6 → q_Y D cy lo s S H locs → lv_has ls 9 [(0, .ref a0), (1, .int x1), (2, .int x2), (3, .int x3), (4, .int x4), (5, .int x5), (6, .int x6)] → W p l e ({ frames := 1, cells := 0, slots := 0, locals := 23 } : Room) s m args below meth c H locs 0 0 (MQ below (q_Q D cy lo Q) args s 0 0 (fun q => lo ≤ q)) (F0 m 42 ls [])) (Y : q_Y D cy lo s S H locs) (hl : lv_has ls 9 [(0, .ref a0), (1, .int x1), (2, .int x2), (3, .int x3), (4, .int x4), (5, .int x5), (6, .int x6)]) (h : wb_X12_named_42 B42 S a0 x1 x2 x3 x4 x5 x6 Q) : W p l e ({ frames := 1, cells := 0, slots := 0, locals := 23 } : Room) s m args below meth c H locs 0 0 (MQ below (q_Q D cy lo Q) args s 0 0 (fun q => lo ≤ q)) (F0 m 42 ls []) := by
  have hx := X.1
  have hb := X.2.1
  unfold wb_X12_named_42 at h
  refine lv_iload hx hb dX12_named_42 (lv_at hl 6 rfl) ?_
  refine lv_bipush (v := 64) hx hb dX12_named_44 (by decide) ?_
  refine lv_iload_n hx hb dX12_named_46 rfl (lv_at hl 1 rfl) ?_
  refine lv_imul hx hb dX12_named_47 ?_
  refine lv_aload_n hx hb dX12_named_48 rfl (lv_at hl 0 rfl) ?_
  obtain ⟨k28_, h⟩ := h
  refine q_getP X Y kX12 30 rfl fl_X12_45 k28_ rfl dX12_named_49 ?_
  refine lv_iload_n hx hb dX12_named_52 rfl (lv_at hl 1 rfl) ?_
  obtain ⟨a29_, e30_, h⟩ := h
  refine q_nn [.int x1] e30_ ?_
  obtain ⟨k31_, h⟩ := h
  obtain ⟨i32_, h⟩ := h
  refine q_ild X Y k31_ i32_ dX12_named_53 ?_
  refine lv_iadd hx hb dX12_named_54 ?_
  refine lv_icmp_ge (tgt := 185) hx hb dX12_named_55 (by decide) (fun c33_ => ?_) (fun c33_ => ?_)
  · replace h := h.1 c33_
    refine lv_iconst (v := 2) hx hb dX12_named_185 (by decide) ?_
    exact q_iret X Y rfl (Nat.le_refl _) (Nat.le_refl _) h dX12_named_186
  · replace h := h.2 c33_
    refine lv_aload_n hx hb dX12_named_58 rfl (lv_at hl 0 rfl) ?_
    refine q_getP X Y kX12 33 rfl fl_X12_54 k28_ rfl dX12_named_59 ?_
    refine lv_iload hx hb dX12_named_62 (lv_at hl 6 rfl) ?_
    obtain ⟨a34_, e35_, h⟩ := h
    refine q_nn [.int x6] e35_ ?_
    obtain ⟨k36_, h⟩ := h
    obtain ⟨i37_, h⟩ := h
    refine q_ild X Y k36_ i37_ dX12_named_64 ?_
    refine lv_iload_n hx hb dX12_named_65 rfl (lv_at hl 3 rfl) ?_
    refine lv_icmp_ne (tgt := 85) hx hb dX12_named_66 (by decide) (fun c38_ => ?_) (fun c38_ => ?_)
    · replace h := h.1 c38_
      exact cb_X12_named_85 X hB42 Y (lv_sub hl [0, 1, 2, 3, 4, 5, 6] rfl) h
    · replace h := h.2 c38_
      refine lv_aload_n hx hb dX12_named_69 rfl (lv_at hl 0 rfl) ?_
      refine q_getP X Y kX12 32 rfl fl_X12_51 k28_ rfl dX12_named_70 ?_
      refine lv_iload hx hb dX12_named_73 (lv_at hl 6 rfl) ?_
      obtain ⟨a39_, e40_, h⟩ := h
      refine q_nn [.int x6] e40_ ?_
      obtain ⟨k41_, h⟩ := h
      obtain ⟨i42_, h⟩ := h
      refine q_ild X Y k41_ i42_ dX12_named_75 ?_
      refine lv_iload hx hb dX12_named_76 (lv_at hl 5 rfl) ?_
      refine lv_icmp_ne (tgt := 85) hx hb dX12_named_78 (by decide) (fun c43_ => ?_) (fun c43_ => ?_)
      · replace h := h.1 c43_
        exact cb_X12_named_85 X hB42 Y (lv_sub hl [0, 1, 2, 3, 4, 5, 6] rfl) h
      · replace h := h.2 c43_
        refine lv_iconst (v := 1) hx hb dX12_named_81 (by decide) ?_
        refine lv_goto (tgt := 86) hx hb dX12_named_82 (by decide) ?_
        exact cb_X12_named_86 X hB42 Y (lv_sub hl [0, 1, 2, 3, 4, 5, 6] rfl) h
def wl_X12_named_42  : Nat → q_S → Nat → Int32 → Int32 → Int32 → Int32 → Int32 → Int32 → (Option Value → q_S → Prop) → Prop
  | 0, _, _, _, _, _, _, _, _, _ => False
  | n + 1, S, a0, x1, x2, x3, x4, x5, x6, Q => wb_X12_named_42 (fun S a0 x1 x2 x3 x4 x5 x6 => wl_X12_named_42 n S a0 x1 x2 x3 x4 x5 x6 Q) S a0 x1 x2 x3 x4 x5 x6 Q
set_option maxHeartbeats 4000000 in
set_option maxRecDepth 100000 in
theorem cl_X12_named_42 {p : Program} {l : Launch} {e : Env} {s : State} {m : MethodId} {args : Array Value} {below : List Frame} {meth : Method} {c : Code} {D : va_G} {cy : Nat → ClassId} {lo : Nat}  {Q : Option Value → q_S → Prop} (X : q_X p s m args meth c RX12 cX12_named 9 (some .int) D cy lo)  : ∀ (n : Nat) (S : q_S) (a0 : Nat) (x1 : Int32) (x2 : Int32) (x3 : Int32) (x4 : Int32) (x5 : Int32) (x6 : Int32) (H : Heap) (locs : List Loc) (ls : Array Slot), wl_X12_named_42 n S a0 x1 x2 x3 x4 x5 x6 Q → q_Y D cy lo s S H locs → lv_has ls 9 [(0, .ref a0), (1, .int x1), (2, .int x2), (3, .int x3), (4, .int x4), (5, .int x5), (6, .int x6)] → W p l e ({ frames := 1, cells := 0, slots := 0, locals := 23 } : Room) s m args below meth c H locs 0 0 (MQ below (q_Q D cy lo Q) args s 0 0 (fun q => lo ≤ q)) (F0 m 42 ls []) := by
  intro n
  induction n with
  | zero => intro S a0 x1 x2 x3 x4 x5 x6 H locs ls h; exact absurd h id
  | succ n ih => intro S a0 x1 x2 x3 x4 x5 x6 H locs ls h Y hl; exact cb_X12_named_42 X ih Y hl h
def wm_X12_named (S : q_S) (a0 : Nat) (x1 : Int32) (x2 : Int32) (x3 : Int32) (x4 : Int32) (x5 : Int32) (Q : Option Value → q_S → Prop) : Prop := ((x3 < 0 → (wb_X12_named_34 S Q)) ∧ (¬ x3 < 0 → ((((5 : Int32) < x3 → (wb_X12_named_34 S Q)) ∧ (¬ (5 : Int32) < x3 → (((x5 < (1 : Int32) → (wb_X12_named_34 S Q)) ∧ (¬ x5 < (1 : Int32) → ((((12 : Int32) < x5 → (wb_X12_named_34 S Q)) ∧ (¬ (12 : Int32) < x5 → (q_K S a0 = 13 ∧ (wm_X12_isWithin S a0 x1 x4 x5 (fun r49_ S50_ => ∃ x51_ : Int32, r49_ = some (.int x51_) ∧ (((¬ x51_ = 0 → (∃ n53_ : Nat, wl_X12_named_42 n53_ S50_ a0 x1 x2 x3 x4 x5 ((64 : Int32) * x1) Q)) ∧ (x51_ = 0 → (wb_X12_named_34 S50_ Q))))))))))))))))))
set_option maxHeartbeats 4000000 in
set_option maxRecDepth 100000 in
theorem cm_X12_named {l : Launch} {D : va_G} {cy : Nat → ClassId} {lo : Nat} {S : q_S} {a0 : Nat} {x1 : Int32} {x2 : Int32} {x3 : Int32} {x4 : Int32} {x5 : Int32} {Q : Option Value → q_S → Prop} (h : wm_X12_named S a0 x1 x2 x3 x4 x5 Q) : q_Met l D cy lo yX12_named cX12_named 9 (some .int) 1 23 0 0 [.ref a0, .int x1, .int x2, .int x3, .int x4, .int x5] S Q := by
  refine q_body (by decide) (by first | exact Nat.le_of_ble_eq_true rfl | simp [lg_sl, q_cat, q_catI, q_catJ, q_catR]) ?_
  intro p e s m below meth c ls X hnm Y hl
  have hx := X.1
  have hb := X.2.1
  have hl : lv_has ls 9 [(0, .ref a0), (1, .int x1), (2, .int x2), (3, .int x3), (4, .int x4), (5, .int x5)] := by first | exact hl | simpa [lv_args, q_cat, q_catI, q_catJ, q_catR] using hl
  generalize hargs : ([.ref a0, .int x1, .int x2, .int x3, .int x4, .int x5] : List Value).toArray = args at X ⊢
  unfold wm_X12_named at h
  refine lv_iload_n hx hb dX12_named_0 rfl (lv_at hl 3 rfl) ?_
  refine lv_if_lt (tgt := 34) hx hb dX12_named_1 (by decide) (fun c44_ => ?_) (fun c44_ => ?_)
  · replace h := h.1 c44_
    exact cb_X12_named_34 X Y (lv_sub hl [] rfl) h
  · replace h := h.2 c44_
    refine lv_iload_n hx hb dX12_named_4 rfl (lv_at hl 3 rfl) ?_
    refine lv_iconst (v := 5) hx hb dX12_named_5 (by decide) ?_
    refine lv_icmp_gt (tgt := 34) hx hb dX12_named_6 (by decide) (fun c45_ => ?_) (fun c45_ => ?_)
    · replace h := h.1 c45_
      exact cb_X12_named_34 X Y (lv_sub hl [] rfl) h
    · replace h := h.2 c45_
      refine lv_iload hx hb dX12_named_9 (lv_at hl 5 rfl) ?_
      refine lv_iconst (v := 1) hx hb dX12_named_11 (by decide) ?_
      refine lv_icmp_lt (tgt := 34) hx hb dX12_named_12 (by decide) (fun c46_ => ?_) (fun c46_ => ?_)
      · replace h := h.1 c46_
        exact cb_X12_named_34 X Y (lv_sub hl [] rfl) h
      · replace h := h.2 c46_
        refine lv_iload hx hb dX12_named_15 (lv_at hl 5 rfl) ?_
        refine lv_bipush (v := 12) hx hb dX12_named_17 (by decide) ?_
        refine lv_icmp_gt (tgt := 34) hx hb dX12_named_19 (by decide) (fun c47_ => ?_) (fun c47_ => ?_)
        · replace h := h.1 c47_
          exact cb_X12_named_34 X Y (lv_sub hl [] rfl) h
        · replace h := h.2 c47_
          refine lv_aload_n hx hb dX12_named_22 rfl (lv_at hl 0 rfl) ?_
          refine lv_iload_n hx hb dX12_named_23 rfl (lv_at hl 1 rfl) ?_
          refine lv_iload hx hb dX12_named_24 (lv_at hl 4 rfl) ?_
          refine lv_iload hx hb dX12_named_26 (lv_at hl 5 rfl) ?_
          obtain ⟨k48_, h⟩ := h
          refine q_callV X Y hl (cm_X12_isWithin h) mt_X12_isWithin mi_X12_isWithin ml_X12_553 (ci := 12) rfl k48_ (by decide) rfl rfl (by first | exact Nat.le_of_ble_eq_true rfl | simp [q_cat, q_catI, q_catJ, q_catR]) ⟨Nat.le_of_ble_eq_true rfl, Nat.le_of_ble_eq_true rfl⟩ ⟨Nat.le_of_ble_eq_true rfl, Nat.le_of_ble_eq_true rfl⟩ dX12_named_28 (fun r49_ S50_ H locs hp Y => ?_)
          obtain ⟨x51_, rfl, h⟩ := hp
          refine W.eq (g2 := F0 m 31 ls [.int x51_]) rfl ?_
          refine lv_if_ne (tgt := 36) hx hb dX12_named_31 (by decide) (fun c52_ => ?_) (fun c52_ => ?_)
          · replace h := h.1 c52_
            refine lv_bipush (v := 64) hx hb dX12_named_36 (by decide) ?_
            refine lv_iload_n hx hb dX12_named_38 rfl (lv_at hl 1 rfl) ?_
            refine lv_imul hx hb dX12_named_39 ?_
            refine lv_istore (i := 6) (lv' := [(6, .int ((64 : Int32) * x1)), (0, .ref a0), (1, .int x1), (2, .int x2), (3, .int x3), (4, .int x4), (5, .int x5)]) hx hb dX12_named_40 hl (by decide) (by first | rfl | simp [q_cat, q_catI, q_catJ, q_catR]) (fun ls hl => ?_)
            obtain ⟨n53_, h⟩ := h
            exact cl_X12_named_42 X n53_ _ _ _ _ _ _ _ _ _ _ _ h Y (lv_sub hl [1, 2, 3, 4, 5, 6, 0] rfl)
          · replace h := h.2 c52_
            exact cb_X12_named_34 X Y (lv_sub hl [] rfl) h
-- X12_asks
theorem ml_X12_663 : Cond.methodLink RX12 663 yX12_named ∈ q_G := q_tb (i := 2481) (by decide +kernel) (by decide +kernel)
theorem mt_X12_named : q_Mt yX12_named cX12_named 9 (some .int) 5 := ⟨q_tb (i := 2484) (by decide +kernel) (by decide +kernel), q_tb (i := 11) (by decide +kernel) (by decide +kernel), by decide +kernel, by decide +kernel, by decide +kernel⟩
theorem mi_X12_named : Cond.instanceMethod yX12_named ∈ q_G ∧ Cond.selects yX12_named.cls yX12_named yX12_named ∈ q_G := ⟨q_tb (i := 2483) (by decide +kernel) (by decide +kernel), q_tp (i := 176) (q := (yX12_named, 114)) (by decide +kernel) (by decide +kernel)⟩
theorem ml_X12_660 : Cond.methodLink RX12 660 yX12_frames ∈ q_G := q_tb (i := 2477) (by decide +kernel) (by decide +kernel)
theorem mt_X12_frames : q_Mt yX12_frames cX12_frames 7 (some .int) 2 := ⟨q_tb (i := 2480) (by decide +kernel) (by decide +kernel), q_tb (i := 11) (by decide +kernel) (by decide +kernel), by decide +kernel, by decide +kernel, by decide +kernel⟩
theorem mi_X12_frames : Cond.instanceMethod yX12_frames ∈ q_G ∧ Cond.selects yX12_frames.cls yX12_frames yX12_frames ∈ q_G := ⟨q_tb (i := 2479) (by decide +kernel) (by decide +kernel), q_tp (i := 175) (q := (yX12_frames, 114)) (by decide +kernel) (by decide +kernel)⟩
theorem ml_X12_657 : Cond.methodLink RX12 657 yX12_wait ∈ q_G := q_tb (i := 2473) (by decide +kernel) (by decide +kernel)
theorem mt_X12_wait : q_Mt yX12_wait cX12_wait 9 (some .int) 3 := ⟨q_tb (i := 2476) (by decide +kernel) (by decide +kernel), q_tb (i := 11) (by decide +kernel) (by decide +kernel), by decide +kernel, by decide +kernel, by decide +kernel⟩
theorem mi_X12_wait : Cond.instanceMethod yX12_wait ∈ q_G ∧ Cond.selects yX12_wait.cls yX12_wait yX12_wait ∈ q_G := ⟨q_tb (i := 2475) (by decide +kernel) (by decide +kernel), q_tp (i := 174) (q := (yX12_wait, 114)) (by decide +kernel) (by decide +kernel)⟩
theorem ml_X12_654 : Cond.methodLink RX12 654 yX12_tells ∈ q_G := q_tb (i := 2469) (by decide +kernel) (by decide +kernel)
theorem mt_X12_tells : q_Mt yX12_tells cX12_tells 5 (some .int) 3 := ⟨q_tb (i := 2472) (by decide +kernel) (by decide +kernel), q_tb (i := 11) (by decide +kernel) (by decide +kernel), by decide +kernel, by decide +kernel, by decide +kernel⟩
theorem mi_X12_tells : Cond.instanceMethod yX12_tells ∈ q_G ∧ Cond.selects yX12_tells.cls yX12_tells yX12_tells ∈ q_G := ⟨q_tb (i := 2471) (by decide +kernel) (by decide +kernel), q_tp (i := 173) (q := (yX12_tells, 114)) (by decide +kernel) (by decide +kernel)⟩
theorem ml_X12_651 : Cond.methodLink RX12 651 yX12_wordsOf ∈ q_G := q_tb (i := 2465) (by decide +kernel) (by decide +kernel)
theorem mt_X12_wordsOf : q_Mt yX12_wordsOf cX12_wordsOf 2 (some .int) 1 := ⟨q_tb (i := 2468) (by decide +kernel) (by decide +kernel), q_tb (i := 11) (by decide +kernel) (by decide +kernel), by decide +kernel, by decide +kernel, by decide +kernel⟩
theorem mi_X12_wordsOf : Cond.instanceMethod yX12_wordsOf ∈ q_G ∧ Cond.selects yX12_wordsOf.cls yX12_wordsOf yX12_wordsOf ∈ q_G := ⟨q_tb (i := 2467) (by decide +kernel) (by decide +kernel), q_tp (i := 172) (q := (yX12_wordsOf, 114)) (by decide +kernel) (by decide +kernel)⟩
theorem dX12_asks_0 : decode cX12_asks 0 = .ok (.bipush 32, 2) := by decide +kernel
theorem dX12_asks_2 : decode cX12_asks 2 = .ok (.iload_n 3, 1) := by decide +kernel
theorem dX12_asks_3 : decode cX12_asks 3 = .ok (.imul, 1) := by decide +kernel
theorem dX12_asks_4 : decode cX12_asks 4 = .ok (.istore 7, 2) := by decide +kernel
theorem dX12_asks_6 : decode cX12_asks 6 = .ok (.iload_n 1, 1) := by decide +kernel
theorem dX12_asks_7 : decode cX12_asks 7 = .ok (.tableswitch 206 32 35 #[29, 74, 168, 199], 29) := by decide +kernel
theorem dX12_asks_36 : decode cX12_asks 36 = .ok (.aload_n 0, 1) := by decide +kernel
theorem dX12_asks_37 : decode cX12_asks 37 = .ok (.getfield 179, 3) := by decide +kernel
theorem dX12_asks_40 : decode cX12_asks 40 = .ok (.iload 7, 2) := by decide +kernel
theorem dX12_asks_42 : decode cX12_asks 42 = .ok (.bipush 11, 2) := by decide +kernel
theorem dX12_asks_44 : decode cX12_asks 44 = .ok (.iadd, 1) := by decide +kernel
theorem dX12_asks_45 : decode cX12_asks 45 = .ok (.iload_n 2, 1) := by decide +kernel
theorem dX12_asks_46 : decode cX12_asks 46 = .ok (.iastore, 1) := by decide +kernel
theorem dX12_asks_47 : decode cX12_asks 47 = .ok (.aload_n 0, 1) := by decide +kernel
theorem dX12_asks_48 : decode cX12_asks 48 = .ok (.getfield 179, 3) := by decide +kernel
theorem dX12_asks_51 : decode cX12_asks 51 = .ok (.iload 7, 2) := by decide +kernel
theorem dX12_asks_53 : decode cX12_asks 53 = .ok (.bipush 12, 2) := by decide +kernel
theorem dX12_asks_55 : decode cX12_asks 55 = .ok (.iadd, 1) := by decide +kernel
theorem dX12_asks_56 : decode cX12_asks 56 = .ok (.aload_n 0, 1) := by decide +kernel
theorem dX12_asks_57 : decode cX12_asks 57 = .ok (.getfield 200, 3) := by decide +kernel
theorem dX12_asks_60 : decode cX12_asks 60 = .ok (.iload_n 2, 1) := by decide +kernel
theorem dX12_asks_61 : decode cX12_asks 61 = .ok (.iaload, 1) := by decide +kernel
theorem dX12_asks_62 : decode cX12_asks 62 = .ok (.iastore, 1) := by decide +kernel
theorem dX12_asks_63 : decode cX12_asks 63 = .ok (.aload_n 0, 1) := by decide +kernel
theorem dX12_asks_64 : decode cX12_asks 64 = .ok (.getfield 179, 3) := by decide +kernel
theorem dX12_asks_67 : decode cX12_asks 67 = .ok (.iload 7, 2) := by decide +kernel
theorem dX12_asks_69 : decode cX12_asks 69 = .ok (.bipush 13, 2) := by decide +kernel
theorem dX12_asks_71 : decode cX12_asks 71 = .ok (.iadd, 1) := by decide +kernel
theorem dX12_asks_72 : decode cX12_asks 72 = .ok (.aload_n 0, 1) := by decide +kernel
theorem dX12_asks_73 : decode cX12_asks 73 = .ok (.getfield 206, 3) := by decide +kernel
theorem dX12_asks_76 : decode cX12_asks 76 = .ok (.iload_n 2, 1) := by decide +kernel
theorem dX12_asks_77 : decode cX12_asks 77 = .ok (.iaload, 1) := by decide +kernel
theorem dX12_asks_78 : decode cX12_asks 78 = .ok (.iastore, 1) := by decide +kernel
theorem dX12_asks_79 : decode cX12_asks 79 = .ok (.iconst 0, 1) := by decide +kernel
theorem dX12_asks_80 : decode cX12_asks 80 = .ok (.ireturn, 1) := by decide +kernel
theorem dX12_asks_81 : decode cX12_asks 81 = .ok (.iload 4, 2) := by decide +kernel
theorem dX12_asks_83 : decode cX12_asks 83 = .ok (.ifCond .lt 21, 3) := by decide +kernel
theorem dX12_asks_86 : decode cX12_asks 86 = .ok (.iload 4, 2) := by decide +kernel
theorem dX12_asks_88 : decode cX12_asks 88 = .ok (.iconst 4, 1) := by decide +kernel
theorem dX12_asks_89 : decode cX12_asks 89 = .ok (.if_icmp .gt 15, 3) := by decide +kernel
theorem dX12_asks_92 : decode cX12_asks 92 = .ok (.aload_n 0, 1) := by decide +kernel
theorem dX12_asks_93 : decode cX12_asks 93 = .ok (.iload_n 2, 1) := by decide +kernel
theorem dX12_asks_94 : decode cX12_asks 94 = .ok (.iload 4, 2) := by decide +kernel
theorem dX12_asks_96 : decode cX12_asks 96 = .ok (.iload 5, 2) := by decide +kernel
theorem dX12_asks_98 : decode cX12_asks 98 = .ok (.invokevirtual 616, 3) := by decide +kernel
theorem dX12_asks_101 : decode cX12_asks 101 = .ok (.ifCond .ne 5, 3) := by decide +kernel
theorem dX12_asks_104 : decode cX12_asks 104 = .ok (.iconst 1, 1) := by decide +kernel
theorem dX12_asks_105 : decode cX12_asks 105 = .ok (.ireturn, 1) := by decide +kernel
theorem dX12_asks_106 : decode cX12_asks 106 = .ok (.iload 4, 2) := by decide +kernel
theorem dX12_asks_108 : decode cX12_asks 108 = .ok (.iconst 4, 1) := by decide +kernel
theorem dX12_asks_109 : decode cX12_asks 109 = .ok (.if_icmp .ne 22, 3) := by decide +kernel
theorem dX12_asks_112 : decode cX12_asks 112 = .ok (.aload_n 0, 1) := by decide +kernel
theorem dX12_asks_113 : decode cX12_asks 113 = .ok (.aload_n 0, 1) := by decide +kernel
theorem dX12_asks_114 : decode cX12_asks 114 = .ok (.getfield 106, 3) := by decide +kernel
theorem dX12_asks_117 : decode cX12_asks 117 = .ok (.bipush 16, 2) := by decide +kernel
theorem dX12_asks_119 : decode cX12_asks 119 = .ok (.iload_n 2, 1) := by decide +kernel
theorem dX12_asks_120 : decode cX12_asks 120 = .ok (.imul, 1) := by decide +kernel
theorem dX12_asks_121 : decode cX12_asks 121 = .ok (.iload 5, 2) := by decide +kernel
theorem dX12_asks_123 : decode cX12_asks 123 = .ok (.iadd, 1) := by decide +kernel
theorem dX12_asks_124 : decode cX12_asks 124 = .ok (.iaload, 1) := by decide +kernel
theorem dX12_asks_125 : decode cX12_asks 125 = .ok (.invokevirtual 651, 3) := by decide +kernel
theorem dX12_asks_128 : decode cX12_asks 128 = .ok (.goto 12, 3) := by decide +kernel
theorem dX12_asks_131 : decode cX12_asks 131 = .ok (.aload_n 0, 1) := by decide +kernel
theorem dX12_asks_132 : decode cX12_asks 132 = .ok (.iload_n 2, 1) := by decide +kernel
theorem dX12_asks_133 : decode cX12_asks 133 = .ok (.iload 4, 2) := by decide +kernel
theorem dX12_asks_135 : decode cX12_asks 135 = .ok (.iload 5, 2) := by decide +kernel
theorem dX12_asks_137 : decode cX12_asks 137 = .ok (.invokevirtual 654, 3) := by decide +kernel
theorem dX12_asks_140 : decode cX12_asks 140 = .ok (.istore 8, 2) := by decide +kernel
theorem dX12_asks_142 : decode cX12_asks 142 = .ok (.aload_n 0, 1) := by decide +kernel
theorem dX12_asks_143 : decode cX12_asks 143 = .ok (.getfield 179, 3) := by decide +kernel
theorem dX12_asks_146 : decode cX12_asks 146 = .ok (.iload 7, 2) := by decide +kernel
theorem dX12_asks_148 : decode cX12_asks 148 = .ok (.bipush 11, 2) := by decide +kernel
theorem dX12_asks_150 : decode cX12_asks 150 = .ok (.iadd, 1) := by decide +kernel
theorem dX12_asks_151 : decode cX12_asks 151 = .ok (.iload 8, 2) := by decide +kernel
theorem dX12_asks_153 : decode cX12_asks 153 = .ok (.iastore, 1) := by decide +kernel
theorem dX12_asks_154 : decode cX12_asks 154 = .ok (.aload_n 0, 1) := by decide +kernel
theorem dX12_asks_155 : decode cX12_asks 155 = .ok (.getfield 179, 3) := by decide +kernel
theorem dX12_asks_158 : decode cX12_asks 158 = .ok (.iload 7, 2) := by decide +kernel
theorem dX12_asks_160 : decode cX12_asks 160 = .ok (.bipush 12, 2) := by decide +kernel
theorem dX12_asks_162 : decode cX12_asks 162 = .ok (.iadd, 1) := by decide +kernel
theorem dX12_asks_163 : decode cX12_asks 163 = .ok (.aload_n 0, 1) := by decide +kernel
theorem dX12_asks_164 : decode cX12_asks 164 = .ok (.iload_n 2, 1) := by decide +kernel
theorem dX12_asks_165 : decode cX12_asks 165 = .ok (.iload 4, 2) := by decide +kernel
theorem dX12_asks_167 : decode cX12_asks 167 = .ok (.iload 5, 2) := by decide +kernel
theorem dX12_asks_169 : decode cX12_asks 169 = .ok (.invokevirtual 657, 3) := by decide +kernel
theorem dX12_asks_172 : decode cX12_asks 172 = .ok (.iastore, 1) := by decide +kernel
theorem dX12_asks_173 : decode cX12_asks 173 = .ok (.iconst 0, 1) := by decide +kernel
theorem dX12_asks_174 : decode cX12_asks 174 = .ok (.ireturn, 1) := by decide +kernel
theorem dX12_asks_175 : decode cX12_asks 175 = .ok (.iload 5, 2) := by decide +kernel
theorem dX12_asks_177 : decode cX12_asks 177 = .ok (.iconst 1, 1) := by decide +kernel
theorem dX12_asks_178 : decode cX12_asks 178 = .ok (.if_icmp .lt 11, 3) := by decide +kernel
theorem dX12_asks_181 : decode cX12_asks 181 = .ok (.iload 5, 2) := by decide +kernel
theorem dX12_asks_183 : decode cX12_asks 183 = .ok (.ldc_w 401, 3) := by decide +kernel
theorem dX12_asks_186 : decode cX12_asks 186 = .ok (.if_icmp .le 5, 3) := by decide +kernel
theorem dX12_asks_189 : decode cX12_asks 189 = .ok (.iconst 1, 1) := by decide +kernel
theorem dX12_asks_190 : decode cX12_asks 190 = .ok (.ireturn, 1) := by decide +kernel
theorem dX12_asks_191 : decode cX12_asks 191 = .ok (.aload_n 0, 1) := by decide +kernel
theorem dX12_asks_192 : decode cX12_asks 192 = .ok (.iload_n 2, 1) := by decide +kernel
theorem dX12_asks_193 : decode cX12_asks 193 = .ok (.iload 4, 2) := by decide +kernel
theorem dX12_asks_195 : decode cX12_asks 195 = .ok (.aload_n 0, 1) := by decide +kernel
theorem dX12_asks_196 : decode cX12_asks 196 = .ok (.getfield 453, 3) := by decide +kernel
theorem dX12_asks_199 : decode cX12_asks 199 = .ok (.iload 5, 2) := by decide +kernel
theorem dX12_asks_201 : decode cX12_asks 201 = .ok (.iadd, 1) := by decide +kernel
theorem dX12_asks_202 : decode cX12_asks 202 = .ok (.invokevirtual 607, 3) := by decide +kernel
theorem dX12_asks_205 : decode cX12_asks 205 = .ok (.ireturn, 1) := by decide +kernel
theorem dX12_asks_206 : decode cX12_asks 206 = .ok (.aload_n 0, 1) := by decide +kernel
theorem dX12_asks_207 : decode cX12_asks 207 = .ok (.iload_n 2, 1) := by decide +kernel
theorem dX12_asks_208 : decode cX12_asks 208 = .ok (.iload_n 3, 1) := by decide +kernel
theorem dX12_asks_209 : decode cX12_asks 209 = .ok (.invokevirtual 660, 3) := by decide +kernel
theorem dX12_asks_212 : decode cX12_asks 212 = .ok (.ireturn, 1) := by decide +kernel
theorem dX12_asks_213 : decode cX12_asks 213 = .ok (.aload_n 0, 1) := by decide +kernel
theorem dX12_asks_214 : decode cX12_asks 214 = .ok (.iload_n 2, 1) := by decide +kernel
theorem dX12_asks_215 : decode cX12_asks 215 = .ok (.iload_n 3, 1) := by decide +kernel
theorem dX12_asks_216 : decode cX12_asks 216 = .ok (.iload 4, 2) := by decide +kernel
theorem dX12_asks_218 : decode cX12_asks 218 = .ok (.iload 5, 2) := by decide +kernel
theorem dX12_asks_220 : decode cX12_asks 220 = .ok (.iload 6, 2) := by decide +kernel
theorem dX12_asks_222 : decode cX12_asks 222 = .ok (.invokevirtual 663, 3) := by decide +kernel
theorem dX12_asks_225 : decode cX12_asks 225 = .ok (.ireturn, 1) := by decide +kernel
def wb_X12_asks_213  (S : q_S) (a0 : Nat) (x2 : Int32) (x3 : Int32) (x4 : Int32) (x5 : Int32) (x6 : Int32) (Q : Option Value → q_S → Prop) : Prop := q_K S a0 = 13 ∧ (wm_X12_named S a0 x2 x3 x4 x5 x6 (fun r2_ S3_ => ∃ x4_ : Int32, r2_ = some (.int x4_) ∧ (Q (some (.int x4_)) S3_)))
set_option maxHeartbeats 4000000 in
set_option maxRecDepth 100000 in
theorem cb_X12_asks_213 {p : Program} {l : Launch} {e : Env} {s : State} {m : MethodId} {args : Array Value} {below : List Frame} {meth : Method} {c : Code} {D : va_G} {cy : Nat → ClassId} {lo : Nat}  {S : q_S} {a0 : Nat} {x2 : Int32} {x3 : Int32} {x4 : Int32} {x5 : Int32} {x6 : Int32} {Q : Option Value → q_S → Prop} {H : Heap} {locs : List Loc} {ls : Array Slot} (X : q_X p s m args meth c RX12 cX12_asks 9 (some .int) D cy lo)  (Y : q_Y D cy lo s S H locs) (hl : lv_has ls 9 [(0, .ref a0), (2, .int x2), (3, .int x3), (4, .int x4), (5, .int x5), (6, .int x6)]) (h : wb_X12_asks_213 S a0 x2 x3 x4 x5 x6 Q) : W p l e ({ frames := 3, cells := 0, slots := 0, locals := 68 } : Room) s m args below meth c H locs 0 0 (MQ below (q_Q D cy lo Q) args s 0 0 (fun q => lo ≤ q)) (F0 m 213 ls []) := by
  have hx := X.1
  have hb := X.2.1
  unfold wb_X12_asks_213 at h
  refine lv_aload_n hx hb dX12_asks_213 rfl (lv_at hl 0 rfl) ?_
  refine lv_iload_n hx hb dX12_asks_214 rfl (lv_at hl 1 rfl) ?_
  refine lv_iload_n hx hb dX12_asks_215 rfl (lv_at hl 2 rfl) ?_
  refine lv_iload hx hb dX12_asks_216 (lv_at hl 3 rfl) ?_
  refine lv_iload hx hb dX12_asks_218 (lv_at hl 4 rfl) ?_
  refine lv_iload hx hb dX12_asks_220 (lv_at hl 5 rfl) ?_
  obtain ⟨k1_, h⟩ := h
  refine q_callV X Y hl (cm_X12_named h) mt_X12_named mi_X12_named ml_X12_663 (ci := 12) rfl k1_ (by decide) rfl rfl (by first | exact Nat.le_of_ble_eq_true rfl | simp [q_cat, q_catI, q_catJ, q_catR]) ⟨Nat.le_of_ble_eq_true rfl, Nat.le_of_ble_eq_true rfl⟩ ⟨Nat.le_of_ble_eq_true rfl, Nat.le_of_ble_eq_true rfl⟩ dX12_asks_222 (fun r2_ S3_ H locs hp Y => ?_)
  obtain ⟨x4_, rfl, h⟩ := hp
  refine W.eq (g2 := F0 m 225 ls [.int x4_]) rfl ?_
  exact q_iret X Y rfl (Nat.le_refl _) (Nat.le_refl _) h dX12_asks_225
def wb_X12_asks_206  (S : q_S) (a0 : Nat) (x2 : Int32) (x3 : Int32) (Q : Option Value → q_S → Prop) : Prop := q_K S a0 = 13 ∧ (wm_X12_frames S a0 x2 x3 (fun r6_ S7_ => ∃ x8_ : Int32, r6_ = some (.int x8_) ∧ (Q (some (.int x8_)) S7_)))
set_option maxHeartbeats 4000000 in
set_option maxRecDepth 100000 in
theorem cb_X12_asks_206 {p : Program} {l : Launch} {e : Env} {s : State} {m : MethodId} {args : Array Value} {below : List Frame} {meth : Method} {c : Code} {D : va_G} {cy : Nat → ClassId} {lo : Nat}  {S : q_S} {a0 : Nat} {x2 : Int32} {x3 : Int32} {Q : Option Value → q_S → Prop} {H : Heap} {locs : List Loc} {ls : Array Slot} (X : q_X p s m args meth c RX12 cX12_asks 9 (some .int) D cy lo)  (Y : q_Y D cy lo s S H locs) (hl : lv_has ls 9 [(0, .ref a0), (2, .int x2), (3, .int x3)]) (h : wb_X12_asks_206 S a0 x2 x3 Q) : W p l e ({ frames := 3, cells := 0, slots := 0, locals := 68 } : Room) s m args below meth c H locs 0 0 (MQ below (q_Q D cy lo Q) args s 0 0 (fun q => lo ≤ q)) (F0 m 206 ls []) := by
  have hx := X.1
  have hb := X.2.1
  unfold wb_X12_asks_206 at h
  refine lv_aload_n hx hb dX12_asks_206 rfl (lv_at hl 0 rfl) ?_
  refine lv_iload_n hx hb dX12_asks_207 rfl (lv_at hl 1 rfl) ?_
  refine lv_iload_n hx hb dX12_asks_208 rfl (lv_at hl 2 rfl) ?_
  obtain ⟨k5_, h⟩ := h
  refine q_callV X Y hl (cm_X12_frames h) mt_X12_frames mi_X12_frames ml_X12_660 (ci := 12) rfl k5_ (by decide) rfl rfl (by first | exact Nat.le_of_ble_eq_true rfl | simp [q_cat, q_catI, q_catJ, q_catR]) ⟨Nat.le_of_ble_eq_true rfl, Nat.le_of_ble_eq_true rfl⟩ ⟨Nat.le_of_ble_eq_true rfl, Nat.le_of_ble_eq_true rfl⟩ dX12_asks_209 (fun r6_ S7_ H locs hp Y => ?_)
  obtain ⟨x8_, rfl, h⟩ := hp
  refine W.eq (g2 := F0 m 212 ls [.int x8_]) rfl ?_
  exact q_iret X Y rfl (Nat.le_refl _) (Nat.le_refl _) h dX12_asks_212
def wb_X12_asks_189  (S : q_S) (Q : Option Value → q_S → Prop) : Prop := Q (some (.int (1 : Int32))) S
set_option maxHeartbeats 4000000 in
set_option maxRecDepth 100000 in
theorem cb_X12_asks_189 {p : Program} {l : Launch} {e : Env} {s : State} {m : MethodId} {args : Array Value} {below : List Frame} {meth : Method} {c : Code} {D : va_G} {cy : Nat → ClassId} {lo : Nat}  {S : q_S} {Q : Option Value → q_S → Prop} {H : Heap} {locs : List Loc} {ls : Array Slot} (X : q_X p s m args meth c RX12 cX12_asks 9 (some .int) D cy lo)  (Y : q_Y D cy lo s S H locs) (hl : lv_has ls 9 []) (h : wb_X12_asks_189 S Q) : W p l e ({ frames := 3, cells := 0, slots := 0, locals := 68 } : Room) s m args below meth c H locs 0 0 (MQ below (q_Q D cy lo Q) args s 0 0 (fun q => lo ≤ q)) (F0 m 189 ls []) := by
  have hx := X.1
  have hb := X.2.1
  unfold wb_X12_asks_189 at h
  refine lv_iconst (v := 1) hx hb dX12_asks_189 (by decide) ?_
  exact q_iret X Y rfl (Nat.le_refl _) (Nat.le_refl _) h dX12_asks_190
def wb_X12_asks_175  (S : q_S) (a0 : Nat) (x2 : Int32) (x4 : Int32) (x5 : Int32) (Q : Option Value → q_S → Prop) : Prop := ((x5 < (1 : Int32) → (wb_X12_asks_189 S Q)) ∧ (¬ x5 < (1 : Int32) → (((x5 ≤ (100000 : Int32) → (q_K S a0 = 13 ∧ (wm_X12_starts S a0 x2 x4 ((q_I S 2463 a0) + x5) (fun r12_ S13_ => ∃ x14_ : Int32, r12_ = some (.int x14_) ∧ (Q (some (.int x14_)) S13_))))) ∧ (¬ x5 ≤ (100000 : Int32) → (wb_X12_asks_189 S Q))))))
set_option maxHeartbeats 4000000 in
set_option maxRecDepth 100000 in
theorem cb_X12_asks_175 {p : Program} {l : Launch} {e : Env} {s : State} {m : MethodId} {args : Array Value} {below : List Frame} {meth : Method} {c : Code} {D : va_G} {cy : Nat → ClassId} {lo : Nat}  {S : q_S} {a0 : Nat} {x2 : Int32} {x4 : Int32} {x5 : Int32} {Q : Option Value → q_S → Prop} {H : Heap} {locs : List Loc} {ls : Array Slot} (X : q_X p s m args meth c RX12 cX12_asks 9 (some .int) D cy lo)  (Y : q_Y D cy lo s S H locs) (hl : lv_has ls 9 [(0, .ref a0), (2, .int x2), (4, .int x4), (5, .int x5)]) (h : wb_X12_asks_175 S a0 x2 x4 x5 Q) : W p l e ({ frames := 3, cells := 0, slots := 0, locals := 68 } : Room) s m args below meth c H locs 0 0 (MQ below (q_Q D cy lo Q) args s 0 0 (fun q => lo ≤ q)) (F0 m 175 ls []) := by
  have hx := X.1
  have hb := X.2.1
  unfold wb_X12_asks_175 at h
  refine lv_iload hx hb dX12_asks_175 (lv_at hl 3 rfl) ?_
  refine lv_iconst (v := 1) hx hb dX12_asks_177 (by decide) ?_
  refine lv_icmp_lt (tgt := 189) hx hb dX12_asks_178 (by decide) (fun c9_ => ?_) (fun c9_ => ?_)
  · replace h := h.1 c9_
    exact cb_X12_asks_189 X Y (lv_sub hl [] rfl) h
  · replace h := h.2 c9_
    refine lv_iload hx hb dX12_asks_181 (lv_at hl 3 rfl) ?_
    refine lv_ldcw (v := 100000) hx hb X.2.2.2.1 (X.2.2.2.2.1 _ co_X12_401) dX12_asks_183 ?_
    refine lv_icmp_le (tgt := 191) hx hb dX12_asks_186 (by decide) (fun c10_ => ?_) (fun c10_ => ?_)
    · replace h := h.1 c10_
      refine lv_aload_n hx hb dX12_asks_191 rfl (lv_at hl 0 rfl) ?_
      refine lv_iload_n hx hb dX12_asks_192 rfl (lv_at hl 1 rfl) ?_
      refine lv_iload hx hb dX12_asks_193 (lv_at hl 2 rfl) ?_
      refine lv_aload_n hx hb dX12_asks_195 rfl (lv_at hl 0 rfl) ?_
      obtain ⟨k11_, h⟩ := h
      refine q_getI X Y kX12 63 rfl fl_X12_453 k11_ dX12_asks_196 ?_
      refine lv_iload hx hb dX12_asks_199 (lv_at hl 3 rfl) ?_
      refine lv_iadd hx hb dX12_asks_201 ?_
      refine q_callV X Y hl (cm_X12_starts h) mt_X12_starts mi_X12_starts ml_X12_607 (ci := 12) rfl k11_ (by decide) rfl rfl (by first | exact Nat.le_of_ble_eq_true rfl | simp [q_cat, q_catI, q_catJ, q_catR]) ⟨Nat.le_of_ble_eq_true rfl, Nat.le_of_ble_eq_true rfl⟩ ⟨Nat.le_of_ble_eq_true rfl, Nat.le_of_ble_eq_true rfl⟩ dX12_asks_202 (fun r12_ S13_ H locs hp Y => ?_)
      obtain ⟨x14_, rfl, h⟩ := hp
      refine W.eq (g2 := F0 m 205 ls [.int x14_]) rfl ?_
      exact q_iret X Y rfl (Nat.le_refl _) (Nat.le_refl _) h dX12_asks_205
    · replace h := h.2 c10_
      exact cb_X12_asks_189 X Y (lv_sub hl [] rfl) h
def wb_X12_asks_104  (S : q_S) (Q : Option Value → q_S → Prop) : Prop := Q (some (.int (1 : Int32))) S
set_option maxHeartbeats 4000000 in
set_option maxRecDepth 100000 in
theorem cb_X12_asks_104 {p : Program} {l : Launch} {e : Env} {s : State} {m : MethodId} {args : Array Value} {below : List Frame} {meth : Method} {c : Code} {D : va_G} {cy : Nat → ClassId} {lo : Nat}  {S : q_S} {Q : Option Value → q_S → Prop} {H : Heap} {locs : List Loc} {ls : Array Slot} (X : q_X p s m args meth c RX12 cX12_asks 9 (some .int) D cy lo)  (Y : q_Y D cy lo s S H locs) (hl : lv_has ls 9 []) (h : wb_X12_asks_104 S Q) : W p l e ({ frames := 3, cells := 0, slots := 0, locals := 68 } : Room) s m args below meth c H locs 0 0 (MQ below (q_Q D cy lo Q) args s 0 0 (fun q => lo ≤ q)) (F0 m 104 ls []) := by
  have hx := X.1
  have hb := X.2.1
  unfold wb_X12_asks_104 at h
  refine lv_iconst (v := 1) hx hb dX12_asks_104 (by decide) ?_
  exact q_iret X Y rfl (Nat.le_refl _) (Nat.le_refl _) h dX12_asks_105
def wb_X12_asks_140  (S : q_S) (a0 : Nat) (x2 : Int32) (x4 : Int32) (x5 : Int32) (x7 : Int32) (xs0 : Int32) (Q : Option Value → q_S → Prop) : Prop := q_K S a0 = 13 ∧ (∃ a16_ : Nat, (q_P S 2477 a0) = some a16_ ∧ (q_K S a16_ = 21 ∧ (vp_in (x7 + (11 : Int32)) (q_N S a16_) ∧ (wm_X12_wait (qs_A S a16_ (x7 + (11 : Int32)).toNatClampNeg xs0) a0 x2 x4 x5 (fun r20_ S21_ => ∃ x22_ : Int32, r20_ = some (.int x22_) ∧ (∃ a23_ : Nat, (q_P (qs_A S a16_ (x7 + (11 : Int32)).toNatClampNeg xs0) 2477 a0) = some a23_ ∧ (q_K S21_ a23_ = 21 ∧ (vp_in (x7 + (12 : Int32)) (q_N S21_ a23_) ∧ (Q (some (.int (0 : Int32))) (qs_A S21_ a23_ (x7 + (12 : Int32)).toNatClampNeg x22_))))))))))
set_option maxHeartbeats 4000000 in
set_option maxRecDepth 100000 in
theorem cb_X12_asks_140 {p : Program} {l : Launch} {e : Env} {s : State} {m : MethodId} {args : Array Value} {below : List Frame} {meth : Method} {c : Code} {D : va_G} {cy : Nat → ClassId} {lo : Nat}  {S : q_S} {a0 : Nat} {x2 : Int32} {x4 : Int32} {x5 : Int32} {x7 : Int32} {xs0 : Int32} {Q : Option Value → q_S → Prop} {H : Heap} {locs : List Loc} {ls : Array Slot} (X : q_X p s m args meth c RX12 cX12_asks 9 (some .int) D cy lo)  (Y : q_Y D cy lo s S H locs) (hl : lv_has ls 9 [(0, .ref a0), (2, .int x2), (4, .int x4), (5, .int x5), (7, .int x7)]) (h : wb_X12_asks_140 S a0 x2 x4 x5 x7 xs0 Q) : W p l e ({ frames := 3, cells := 0, slots := 0, locals := 68 } : Room) s m args below meth c H locs 0 0 (MQ below (q_Q D cy lo Q) args s 0 0 (fun q => lo ≤ q)) (F0 m 140 ls [.int xs0]) := by
  have hx := X.1
  have hb := X.2.1
  unfold wb_X12_asks_140 at h
  refine lv_istore (i := 8) (lv' := [(8, .int xs0), (0, .ref a0), (2, .int x2), (4, .int x4), (5, .int x5), (7, .int x7)]) hx hb dX12_asks_140 hl (by decide) (by first | rfl | simp [q_cat, q_catI, q_catJ, q_catR]) (fun ls hl => ?_)
  refine lv_aload_n hx hb dX12_asks_142 rfl (lv_at hl 1 rfl) ?_
  obtain ⟨k15_, h⟩ := h
  refine q_getP X Y kX12 77 rfl fl_X12_179 k15_ rfl dX12_asks_143 ?_
  refine lv_iload hx hb dX12_asks_146 (lv_at hl 5 rfl) ?_
  refine lv_bipush (v := 11) hx hb dX12_asks_148 (by decide) ?_
  refine lv_iadd hx hb dX12_asks_150 ?_
  refine lv_iload hx hb dX12_asks_151 (lv_at hl 0 rfl) ?_
  obtain ⟨a16_, e17_, h⟩ := h
  refine q_nn [.int xs0, .int (x7 + (11 : Int32))] e17_ ?_
  obtain ⟨k18_, h⟩ := h
  obtain ⟨i19_, h⟩ := h
  refine q_ist X Y k18_ i19_ dX12_asks_153 (fun H locs Y => ?_)
  refine lv_aload_n hx hb dX12_asks_154 rfl (lv_at hl 1 rfl) ?_
  refine q_getP X Y kX12 77 rfl fl_X12_179 k15_ rfl dX12_asks_155 ?_
  refine lv_iload hx hb dX12_asks_158 (lv_at hl 5 rfl) ?_
  refine lv_bipush (v := 12) hx hb dX12_asks_160 (by decide) ?_
  refine lv_iadd hx hb dX12_asks_162 ?_
  refine lv_aload_n hx hb dX12_asks_163 rfl (lv_at hl 1 rfl) ?_
  refine lv_iload_n hx hb dX12_asks_164 rfl (lv_at hl 2 rfl) ?_
  refine lv_iload hx hb dX12_asks_165 (lv_at hl 3 rfl) ?_
  refine lv_iload hx hb dX12_asks_167 (lv_at hl 4 rfl) ?_
  refine q_callV X Y hl (cm_X12_wait h) mt_X12_wait mi_X12_wait ml_X12_657 (ci := 12) rfl k15_ (by decide) rfl rfl (by first | exact Nat.le_of_ble_eq_true rfl | simp [q_cat, q_catI, q_catJ, q_catR]) ⟨Nat.le_of_ble_eq_true rfl, Nat.le_of_ble_eq_true rfl⟩ ⟨Nat.le_of_ble_eq_true rfl, Nat.le_of_ble_eq_true rfl⟩ dX12_asks_169 (fun r20_ S21_ H locs hp Y => ?_)
  obtain ⟨x22_, rfl, h⟩ := hp
  refine W.eq (g2 := F0 m 172 ls [.int x22_, .int (x7 + (12 : Int32)), va_rf (q_P (qs_A S a16_ (x7 + (11 : Int32)).toNatClampNeg xs0) 2477 a0)]) rfl ?_
  obtain ⟨a23_, e24_, h⟩ := h
  refine q_nn [.int x22_, .int (x7 + (12 : Int32))] e24_ ?_
  obtain ⟨k25_, h⟩ := h
  obtain ⟨i26_, h⟩ := h
  refine q_ist X Y k25_ i26_ dX12_asks_172 (fun H locs Y => ?_)
  refine lv_iconst (v := 0) hx hb dX12_asks_173 (by decide) ?_
  exact q_iret X Y rfl (Nat.le_refl _) (Nat.le_refl _) h dX12_asks_174
def wb_X12_asks_81  (S : q_S) (a0 : Nat) (x2 : Int32) (x4 : Int32) (x5 : Int32) (x7 : Int32) (Q : Option Value → q_S → Prop) : Prop := ((x4 < 0 → (wb_X12_asks_104 S Q)) ∧ (¬ x4 < 0 → ((((4 : Int32) < x4 → (wb_X12_asks_104 S Q)) ∧ (¬ (4 : Int32) < x4 → (q_K S a0 = 13 ∧ (wm_X12_isThing S a0 x2 x4 x5 (fun r30_ S31_ => ∃ x32_ : Int32, r30_ = some (.int x32_) ∧ (((¬ x32_ = 0 → (((¬ x4 = (4 : Int32) → (q_K S31_ a0 = 13 ∧ (wm_X12_tells S31_ a0 x2 x4 x5 (fun r36_ S37_ => ∃ x38_ : Int32, r36_ = some (.int x38_) ∧ (wb_X12_asks_140 S37_ a0 x2 x4 x5 x7 x38_ Q))))) ∧ (x4 = (4 : Int32) → (q_K S31_ a0 = 13 ∧ (∃ a40_ : Nat, (q_P S31_ 2450 a0) = some a40_ ∧ (q_K S31_ a40_ = 21 ∧ (vp_in (((16 : Int32) * x2) + x5) (q_N S31_ a40_) ∧ (wm_X12_wordsOf S31_ a0 (q_A S31_ a40_ (((16 : Int32) * x2) + x5).toNatClampNeg) (fun r44_ S45_ => ∃ x46_ : Int32, r44_ = some (.int x46_) ∧ (wb_X12_asks_140 S45_ a0 x2 x4 x5 x7 x46_ Q))))))))))) ∧ (x32_ = 0 → (wb_X12_asks_104 S31_ Q))))))))))))
set_option maxHeartbeats 4000000 in
set_option maxRecDepth 100000 in
theorem cb_X12_asks_81 {p : Program} {l : Launch} {e : Env} {s : State} {m : MethodId} {args : Array Value} {below : List Frame} {meth : Method} {c : Code} {D : va_G} {cy : Nat → ClassId} {lo : Nat}  {S : q_S} {a0 : Nat} {x2 : Int32} {x4 : Int32} {x5 : Int32} {x7 : Int32} {Q : Option Value → q_S → Prop} {H : Heap} {locs : List Loc} {ls : Array Slot} (X : q_X p s m args meth c RX12 cX12_asks 9 (some .int) D cy lo)  (Y : q_Y D cy lo s S H locs) (hl : lv_has ls 9 [(0, .ref a0), (2, .int x2), (4, .int x4), (5, .int x5), (7, .int x7)]) (h : wb_X12_asks_81 S a0 x2 x4 x5 x7 Q) : W p l e ({ frames := 3, cells := 0, slots := 0, locals := 68 } : Room) s m args below meth c H locs 0 0 (MQ below (q_Q D cy lo Q) args s 0 0 (fun q => lo ≤ q)) (F0 m 81 ls []) := by
  have hx := X.1
  have hb := X.2.1
  unfold wb_X12_asks_81 at h
  refine lv_iload hx hb dX12_asks_81 (lv_at hl 2 rfl) ?_
  refine lv_if_lt (tgt := 104) hx hb dX12_asks_83 (by decide) (fun c27_ => ?_) (fun c27_ => ?_)
  · replace h := h.1 c27_
    exact cb_X12_asks_104 X Y (lv_sub hl [] rfl) h
  · replace h := h.2 c27_
    refine lv_iload hx hb dX12_asks_86 (lv_at hl 2 rfl) ?_
    refine lv_iconst (v := 4) hx hb dX12_asks_88 (by decide) ?_
    refine lv_icmp_gt (tgt := 104) hx hb dX12_asks_89 (by decide) (fun c28_ => ?_) (fun c28_ => ?_)
    · replace h := h.1 c28_
      exact cb_X12_asks_104 X Y (lv_sub hl [] rfl) h
    · replace h := h.2 c28_
      refine lv_aload_n hx hb dX12_asks_92 rfl (lv_at hl 0 rfl) ?_
      refine lv_iload_n hx hb dX12_asks_93 rfl (lv_at hl 1 rfl) ?_
      refine lv_iload hx hb dX12_asks_94 (lv_at hl 2 rfl) ?_
      refine lv_iload hx hb dX12_asks_96 (lv_at hl 3 rfl) ?_
      obtain ⟨k29_, h⟩ := h
      refine q_callV X Y hl (cm_X12_isThing h) mt_X12_isThing mi_X12_isThing ml_X12_616 (ci := 12) rfl k29_ (by decide) rfl rfl (by first | exact Nat.le_of_ble_eq_true rfl | simp [q_cat, q_catI, q_catJ, q_catR]) ⟨Nat.le_of_ble_eq_true rfl, Nat.le_of_ble_eq_true rfl⟩ ⟨Nat.le_of_ble_eq_true rfl, Nat.le_of_ble_eq_true rfl⟩ dX12_asks_98 (fun r30_ S31_ H locs hp Y => ?_)
      obtain ⟨x32_, rfl, h⟩ := hp
      refine W.eq (g2 := F0 m 101 ls [.int x32_]) rfl ?_
      refine lv_if_ne (tgt := 106) hx hb dX12_asks_101 (by decide) (fun c33_ => ?_) (fun c33_ => ?_)
      · replace h := h.1 c33_
        refine lv_iload hx hb dX12_asks_106 (lv_at hl 2 rfl) ?_
        refine lv_iconst (v := 4) hx hb dX12_asks_108 (by decide) ?_
        refine lv_icmp_ne (tgt := 131) hx hb dX12_asks_109 (by decide) (fun c34_ => ?_) (fun c34_ => ?_)
        · replace h := h.1 c34_
          refine lv_aload_n hx hb dX12_asks_131 rfl (lv_at hl 0 rfl) ?_
          refine lv_iload_n hx hb dX12_asks_132 rfl (lv_at hl 1 rfl) ?_
          refine lv_iload hx hb dX12_asks_133 (lv_at hl 2 rfl) ?_
          refine lv_iload hx hb dX12_asks_135 (lv_at hl 3 rfl) ?_
          obtain ⟨k35_, h⟩ := h
          refine q_callV X Y hl (cm_X12_tells h) mt_X12_tells mi_X12_tells ml_X12_654 (ci := 12) rfl k35_ (by decide) rfl rfl (by first | exact Nat.le_of_ble_eq_true rfl | simp [q_cat, q_catI, q_catJ, q_catR]) ⟨Nat.le_of_ble_eq_true rfl, Nat.le_of_ble_eq_true rfl⟩ ⟨Nat.le_of_ble_eq_true rfl, Nat.le_of_ble_eq_true rfl⟩ dX12_asks_137 (fun r36_ S37_ H locs hp Y => ?_)
          obtain ⟨x38_, rfl, h⟩ := hp
          refine W.eq (g2 := F0 m 140 ls [.int x38_]) rfl ?_
          exact cb_X12_asks_140 X Y (lv_sub hl [0, 1, 2, 3, 4] rfl) h
        · replace h := h.2 c34_
          refine lv_aload_n hx hb dX12_asks_112 rfl (lv_at hl 0 rfl) ?_
          refine lv_aload_n hx hb dX12_asks_113 rfl (lv_at hl 0 rfl) ?_
          obtain ⟨k39_, h⟩ := h
          refine q_getP X Y kX12 50 rfl fl_X12_106 k39_ rfl dX12_asks_114 ?_
          refine lv_bipush (v := 16) hx hb dX12_asks_117 (by decide) ?_
          refine lv_iload_n hx hb dX12_asks_119 rfl (lv_at hl 1 rfl) ?_
          refine lv_imul hx hb dX12_asks_120 ?_
          refine lv_iload hx hb dX12_asks_121 (lv_at hl 3 rfl) ?_
          refine lv_iadd hx hb dX12_asks_123 ?_
          obtain ⟨a40_, e41_, h⟩ := h
          refine q_nn [.int (((16 : Int32) * x2) + x5)] e41_ ?_
          obtain ⟨k42_, h⟩ := h
          obtain ⟨i43_, h⟩ := h
          refine q_ild X Y k42_ i43_ dX12_asks_124 ?_
          refine q_callV X Y hl (cm_X12_wordsOf h) mt_X12_wordsOf mi_X12_wordsOf ml_X12_651 (ci := 12) rfl k39_ (by decide) rfl rfl (by first | exact Nat.le_of_ble_eq_true rfl | simp [q_cat, q_catI, q_catJ, q_catR]) ⟨Nat.le_of_ble_eq_true rfl, Nat.le_of_ble_eq_true rfl⟩ ⟨Nat.le_of_ble_eq_true rfl, Nat.le_of_ble_eq_true rfl⟩ dX12_asks_125 (fun r44_ S45_ H locs hp Y => ?_)
          obtain ⟨x46_, rfl, h⟩ := hp
          refine W.eq (g2 := F0 m 128 ls [.int x46_]) rfl ?_
          refine lv_goto (tgt := 140) hx hb dX12_asks_128 (by decide) ?_
          exact cb_X12_asks_140 X Y (lv_sub hl [0, 1, 2, 3, 4] rfl) h
      · replace h := h.2 c33_
        exact cb_X12_asks_104 X Y (lv_sub hl [] rfl) h
def wb_X12_asks_36  (S : q_S) (a0 : Nat) (x2 : Int32) (x7 : Int32) (Q : Option Value → q_S → Prop) : Prop := q_K S a0 = 13 ∧ (∃ a48_ : Nat, (q_P S 2477 a0) = some a48_ ∧ (q_K S a48_ = 21 ∧ (vp_in (x7 + (11 : Int32)) (q_N S a48_) ∧ (∃ a52_ : Nat, (q_P (qs_A S a48_ (x7 + (11 : Int32)).toNatClampNeg x2) 2484 a0) = some a52_ ∧ (q_K (qs_A S a48_ (x7 + (11 : Int32)).toNatClampNeg x2) a52_ = 21 ∧ (vp_in x2 (q_N (qs_A S a48_ (x7 + (11 : Int32)).toNatClampNeg x2) a52_) ∧ (∃ a56_ : Nat, (q_P (qs_A S a48_ (x7 + (11 : Int32)).toNatClampNeg x2) 2477 a0) = some a56_ ∧ (q_K (qs_A S a48_ (x7 + (11 : Int32)).toNatClampNeg x2) a56_ = 21 ∧ (vp_in (x7 + (12 : Int32)) (q_N (qs_A S a48_ (x7 + (11 : Int32)).toNatClampNeg x2) a56_) ∧ (∀ S60_ : q_S, S60_ = (qs_A (qs_A S a48_ (x7 + (11 : Int32)).toNatClampNeg x2) a56_ (x7 + (12 : Int32)).toNatClampNeg (q_A (qs_A S a48_ (x7 + (11 : Int32)).toNatClampNeg x2) a52_ x2.toNatClampNeg)) → (∃ a61_ : Nat, (q_P S60_ 2486 a0) = some a61_ ∧ (q_K S60_ a61_ = 21 ∧ (vp_in x2 (q_N S60_ a61_) ∧ (∃ a65_ : Nat, (q_P S60_ 2477 a0) = some a65_ ∧ (q_K S60_ a65_ = 21 ∧ (vp_in (x7 + (13 : Int32)) (q_N S60_ a65_) ∧ (Q (some (.int (0 : Int32))) (qs_A S60_ a65_ (x7 + (13 : Int32)).toNatClampNeg (q_A S60_ a61_ x2.toNatClampNeg)))))))))))))))))))
set_option maxHeartbeats 4000000 in
set_option maxRecDepth 100000 in
theorem cb_X12_asks_36 {p : Program} {l : Launch} {e : Env} {s : State} {m : MethodId} {args : Array Value} {below : List Frame} {meth : Method} {c : Code} {D : va_G} {cy : Nat → ClassId} {lo : Nat}  {S : q_S} {a0 : Nat} {x2 : Int32} {x7 : Int32} {Q : Option Value → q_S → Prop} {H : Heap} {locs : List Loc} {ls : Array Slot} (X : q_X p s m args meth c RX12 cX12_asks 9 (some .int) D cy lo)  (Y : q_Y D cy lo s S H locs) (hl : lv_has ls 9 [(0, .ref a0), (2, .int x2), (7, .int x7)]) (h : wb_X12_asks_36 S a0 x2 x7 Q) : W p l e ({ frames := 3, cells := 0, slots := 0, locals := 68 } : Room) s m args below meth c H locs 0 0 (MQ below (q_Q D cy lo Q) args s 0 0 (fun q => lo ≤ q)) (F0 m 36 ls []) := by
  have hx := X.1
  have hb := X.2.1
  unfold wb_X12_asks_36 at h
  refine lv_aload_n hx hb dX12_asks_36 rfl (lv_at hl 0 rfl) ?_
  obtain ⟨k47_, h⟩ := h
  refine q_getP X Y kX12 77 rfl fl_X12_179 k47_ rfl dX12_asks_37 ?_
  refine lv_iload hx hb dX12_asks_40 (lv_at hl 2 rfl) ?_
  refine lv_bipush (v := 11) hx hb dX12_asks_42 (by decide) ?_
  refine lv_iadd hx hb dX12_asks_44 ?_
  refine lv_iload_n hx hb dX12_asks_45 rfl (lv_at hl 1 rfl) ?_
  obtain ⟨a48_, e49_, h⟩ := h
  refine q_nn [.int x2, .int (x7 + (11 : Int32))] e49_ ?_
  obtain ⟨k50_, h⟩ := h
  obtain ⟨i51_, h⟩ := h
  refine q_ist X Y k50_ i51_ dX12_asks_46 (fun H locs Y => ?_)
  refine lv_aload_n hx hb dX12_asks_47 rfl (lv_at hl 0 rfl) ?_
  refine q_getP X Y kX12 77 rfl fl_X12_179 k47_ rfl dX12_asks_48 ?_
  refine lv_iload hx hb dX12_asks_51 (lv_at hl 2 rfl) ?_
  refine lv_bipush (v := 12) hx hb dX12_asks_53 (by decide) ?_
  refine lv_iadd hx hb dX12_asks_55 ?_
  refine lv_aload_n hx hb dX12_asks_56 rfl (lv_at hl 0 rfl) ?_
  refine q_getP X Y kX12 84 rfl fl_X12_200 k47_ rfl dX12_asks_57 ?_
  refine lv_iload_n hx hb dX12_asks_60 rfl (lv_at hl 1 rfl) ?_
  obtain ⟨a52_, e53_, h⟩ := h
  refine q_nn [.int x2] e53_ ?_
  obtain ⟨k54_, h⟩ := h
  obtain ⟨i55_, h⟩ := h
  refine q_ild X Y k54_ i55_ dX12_asks_61 ?_
  obtain ⟨a56_, e57_, h⟩ := h
  refine q_nn [.int (q_A (qs_A S a48_ (x7 + (11 : Int32)).toNatClampNeg x2) a52_ x2.toNatClampNeg), .int (x7 + (12 : Int32))] e57_ ?_
  obtain ⟨k58_, h⟩ := h
  obtain ⟨i59_, h⟩ := h
  refine q_ist X Y k58_ i59_ dX12_asks_62 (fun H locs Y => ?_)
  obtain ⟨S60_, gS60_⟩ : ∃ z : q_S, z = (qs_A (qs_A S a48_ (x7 + (11 : Int32)).toNatClampNeg x2) a56_ (x7 + (12 : Int32)).toNatClampNeg (q_A (qs_A S a48_ (x7 + (11 : Int32)).toNatClampNeg x2) a52_ x2.toNatClampNeg)) := ⟨_, rfl⟩
  replace Y : q_Y D cy lo s S60_ H locs := by rw [gS60_]; exact Y
  replace h := h S60_ gS60_
  replace k47_ : q_K S60_ a0 = 13 := by rw [gS60_]; exact k47_
  replace k50_ : q_K S60_ a48_ = 21 := by rw [gS60_]; exact k50_
  replace k54_ : q_K S60_ a52_ = 21 := by rw [gS60_]; exact k54_
  replace k58_ : q_K S60_ a56_ = 21 := by rw [gS60_]; exact k58_
  refine lv_aload_n hx hb dX12_asks_63 rfl (lv_at hl 0 rfl) ?_
  refine q_getP X Y kX12 77 rfl fl_X12_179 k47_ rfl dX12_asks_64 ?_
  refine lv_iload hx hb dX12_asks_67 (lv_at hl 2 rfl) ?_
  refine lv_bipush (v := 13) hx hb dX12_asks_69 (by decide) ?_
  refine lv_iadd hx hb dX12_asks_71 ?_
  refine lv_aload_n hx hb dX12_asks_72 rfl (lv_at hl 0 rfl) ?_
  refine q_getP X Y kX12 86 rfl fl_X12_206 k47_ rfl dX12_asks_73 ?_
  refine lv_iload_n hx hb dX12_asks_76 rfl (lv_at hl 1 rfl) ?_
  obtain ⟨a61_, e62_, h⟩ := h
  refine q_nn [.int x2] e62_ ?_
  obtain ⟨k63_, h⟩ := h
  obtain ⟨i64_, h⟩ := h
  refine q_ild X Y k63_ i64_ dX12_asks_77 ?_
  obtain ⟨a65_, e66_, h⟩ := h
  refine q_nn [.int (q_A S60_ a61_ x2.toNatClampNeg), .int (x7 + (13 : Int32))] e66_ ?_
  obtain ⟨k67_, h⟩ := h
  obtain ⟨i68_, h⟩ := h
  refine q_ist X Y k67_ i68_ dX12_asks_78 (fun H locs Y => ?_)
  refine lv_iconst (v := 0) hx hb dX12_asks_79 (by decide) ?_
  exact q_iret X Y rfl (Nat.le_refl _) (Nat.le_refl _) h dX12_asks_80
def wm_X12_asks (S : q_S) (a0 : Nat) (x1 : Int32) (x2 : Int32) (x3 : Int32) (x4 : Int32) (x5 : Int32) (x6 : Int32) (Q : Option Value → q_S → Prop) : Prop := (((x1.toInt < 32 ∨ 35 < x1.toInt) → (wb_X12_asks_213 S a0 x2 x3 x4 x5 x6 Q)) ∧ ((x1 = (32 : Int32)) → (wb_X12_asks_36 S a0 x2 ((32 : Int32) * x3) Q)) ∧ ((x1 = (33 : Int32)) → (wb_X12_asks_81 S a0 x2 x4 x5 ((32 : Int32) * x3) Q)) ∧ ((x1 = (34 : Int32)) → (wb_X12_asks_175 S a0 x2 x4 x5 Q)) ∧ ((x1 = (35 : Int32)) → (wb_X12_asks_206 S a0 x2 x3 Q)))
set_option maxHeartbeats 4000000 in
set_option maxRecDepth 100000 in
theorem cm_X12_asks {l : Launch} {D : va_G} {cy : Nat → ClassId} {lo : Nat} {S : q_S} {a0 : Nat} {x1 : Int32} {x2 : Int32} {x3 : Int32} {x4 : Int32} {x5 : Int32} {x6 : Int32} {Q : Option Value → q_S → Prop} (h : wm_X12_asks S a0 x1 x2 x3 x4 x5 x6 Q) : q_Met l D cy lo yX12_asks cX12_asks 9 (some .int) 3 68 0 0 [.ref a0, .int x1, .int x2, .int x3, .int x4, .int x5, .int x6] S Q := by
  refine q_body (by decide) (by first | exact Nat.le_of_ble_eq_true rfl | simp [lg_sl, q_cat, q_catI, q_catJ, q_catR]) ?_
  intro p e s m below meth c ls X hnm Y hl
  have hx := X.1
  have hb := X.2.1
  have hl : lv_has ls 9 [(0, .ref a0), (1, .int x1), (2, .int x2), (3, .int x3), (4, .int x4), (5, .int x5), (6, .int x6)] := by first | exact hl | simpa [lv_args, q_cat, q_catI, q_catJ, q_catR] using hl
  generalize hargs : ([.ref a0, .int x1, .int x2, .int x3, .int x4, .int x5, .int x6] : List Value).toArray = args at X ⊢
  unfold wm_X12_asks at h
  refine lv_bipush (v := 32) hx hb dX12_asks_0 (by decide) ?_
  refine lv_iload_n hx hb dX12_asks_2 rfl (lv_at hl 3 rfl) ?_
  refine lv_imul hx hb dX12_asks_3 ?_
  refine lv_istore (i := 7) (lv' := [(7, .int ((32 : Int32) * x3)), (0, .ref a0), (1, .int x1), (2, .int x2), (3, .int x3), (4, .int x4), (5, .int x5), (6, .int x6)]) hx hb dX12_asks_4 hl (by decide) (by first | rfl | simp [q_cat, q_catI, q_catJ, q_catR]) (fun ls hl => ?_)
  refine lv_iload_n hx hb dX12_asks_6 rfl (lv_at hl 2 rfl) ?_
  refine q_tsw (tgt := 213) hx hb dX12_asks_7 (by decide) (by decide) (fun c69_ => ?_) (fun j70_ hj_ c69_ => ?_)
  · replace h := h.1 c69_
    exact cb_X12_asks_213 X Y (lv_sub hl [1, 3, 4, 5, 6, 7] rfl) h
  · match j70_, hj_, c69_ with
    | 0, _, c69_ =>
      refine ⟨29, 36, rfl, by decide, ?_⟩
      replace h := h.2.1 (q_eqI c69_ (by decide))
      exact cb_X12_asks_36 X Y (lv_sub hl [1, 3, 0] rfl) h
    | 1, _, c69_ =>
      refine ⟨74, 81, rfl, by decide, ?_⟩
      replace h := h.2.2.1 (q_eqI c69_ (by decide))
      exact cb_X12_asks_81 X Y (lv_sub hl [1, 3, 5, 6, 0] rfl) h
    | 2, _, c69_ =>
      refine ⟨168, 175, rfl, by decide, ?_⟩
      replace h := h.2.2.2.1 (q_eqI c69_ (by decide))
      exact cb_X12_asks_175 X Y (lv_sub hl [1, 3, 5, 6] rfl) h
    | 3, _, c69_ =>
      refine ⟨199, 206, rfl, by decide, ?_⟩
      replace h := h.2.2.2.2 (q_eqI c69_ (by decide))
      exact cb_X12_asks_206 X Y (lv_sub hl [1, 3, 4] rfl) h
    | z_ + 4, hj_, _ => exact absurd hj_ (by simp)
-- X12_calls
theorem ml_X12_597 : Cond.methodLink RX12 597 yX12_asks ∈ q_G := q_tb (i := 2461) (by decide +kernel) (by decide +kernel)
theorem mt_X12_asks : q_Mt yX12_asks cX12_asks 9 (some .int) 6 := ⟨q_tb (i := 2464) (by decide +kernel) (by decide +kernel), q_tb (i := 11) (by decide +kernel) (by decide +kernel), by decide +kernel, by decide +kernel, by decide +kernel⟩
theorem mi_X12_asks : Cond.instanceMethod yX12_asks ∈ q_G ∧ Cond.selects yX12_asks.cls yX12_asks yX12_asks ∈ q_G := ⟨q_tb (i := 2463) (by decide +kernel) (by decide +kernel), q_tp (i := 171) (q := (yX12_asks, 114)) (by decide +kernel) (by decide +kernel)⟩
theorem ml_X12_594 : Cond.methodLink RX12 594 yX12_ofOthers ∈ q_G := q_tb (i := 2449) (by decide +kernel) (by decide +kernel)
theorem mt_X12_ofOthers : q_Mt yX12_ofOthers cX12_ofOthers 7 (some .int) 5 := ⟨q_tb (i := 2452) (by decide +kernel) (by decide +kernel), q_tb (i := 11) (by decide +kernel) (by decide +kernel), by decide +kernel, by decide +kernel, by decide +kernel⟩
theorem mi_X12_ofOthers : Cond.instanceMethod yX12_ofOthers ∈ q_G ∧ Cond.selects yX12_ofOthers.cls yX12_ofOthers yX12_ofOthers ∈ q_G := ⟨q_tb (i := 2451) (by decide +kernel) (by decide +kernel), q_tp (i := 168) (q := (yX12_ofOthers, 114)) (by decide +kernel) (by decide +kernel)⟩
theorem ml_X12_591 : Cond.methodLink RX12 591 yX12_ofPorts ∈ q_G := q_tb (i := 2433) (by decide +kernel) (by decide +kernel)
theorem mt_X12_ofPorts : q_Mt yX12_ofPorts cX12_ofPorts 7 (some .int) 6 := ⟨q_tb (i := 2436) (by decide +kernel) (by decide +kernel), q_tb (i := 11) (by decide +kernel) (by decide +kernel), by decide +kernel, by decide +kernel, by decide +kernel⟩
theorem mi_X12_ofPorts : Cond.instanceMethod yX12_ofPorts ∈ q_G ∧ Cond.selects yX12_ofPorts.cls yX12_ofPorts yX12_ofPorts ∈ q_G := ⟨q_tb (i := 2435) (by decide +kernel) (by decide +kernel), q_tp (i := 164) (q := (yX12_ofPorts, 114)) (by decide +kernel) (by decide +kernel)⟩
theorem ml_X12_587 : Cond.methodLink RX12 587 yX12_ofThings ∈ q_G := q_tb (i := 2405) (by decide +kernel) (by decide +kernel)
theorem mt_X12_ofThings : q_Mt yX12_ofThings cX12_ofThings 12 (some .int) 6 := ⟨q_tb (i := 2408) (by decide +kernel) (by decide +kernel), q_tb (i := 11) (by decide +kernel) (by decide +kernel), by decide +kernel, by decide +kernel, by decide +kernel⟩
theorem mi_X12_ofThings : Cond.instanceMethod yX12_ofThings ∈ q_G ∧ Cond.selects yX12_ofThings.cls yX12_ofThings yX12_ofThings ∈ q_G := ⟨q_tb (i := 2407) (by decide +kernel) (by decide +kernel), q_tp (i := 157) (q := (yX12_ofThings, 114)) (by decide +kernel) (by decide +kernel)⟩
theorem ml_X12_583 : Cond.methodLink RX12 583 yX12_ofProcesses ∈ q_G := q_tb (i := 2381) (by decide +kernel) (by decide +kernel)
theorem mt_X12_ofProcesses : q_Mt yX12_ofProcesses cX12_ofProcesses 6 (some .int) 5 := ⟨q_tb (i := 2384) (by decide +kernel) (by decide +kernel), q_tb (i := 11) (by decide +kernel) (by decide +kernel), by decide +kernel, by decide +kernel, by decide +kernel⟩
theorem mi_X12_ofProcesses : Cond.instanceMethod yX12_ofProcesses ∈ q_G ∧ Cond.selects yX12_ofProcesses.cls yX12_ofProcesses yX12_ofProcesses ∈ q_G := ⟨q_tb (i := 2383) (by decide +kernel) (by decide +kernel), q_tp (i := 151) (q := (yX12_ofProcesses, 114)) (by decide +kernel) (by decide +kernel)⟩
theorem dX12_calls_0 : decode cX12_calls 0 = .ok (.bipush 32, 2) := by decide +kernel
theorem dX12_calls_2 : decode cX12_calls 2 = .ok (.iload_n 2, 1) := by decide +kernel
theorem dX12_calls_3 : decode cX12_calls 3 = .ok (.imul, 1) := by decide +kernel
theorem dX12_calls_4 : decode cX12_calls 4 = .ok (.istore 4, 2) := by decide +kernel
theorem dX12_calls_6 : decode cX12_calls 6 = .ok (.aload_n 0, 1) := by decide +kernel
theorem dX12_calls_7 : decode cX12_calls 7 = .ok (.getfield 179, 3) := by decide +kernel
theorem dX12_calls_10 : decode cX12_calls 10 = .ok (.iload 4, 2) := by decide +kernel
theorem dX12_calls_12 : decode cX12_calls 12 = .ok (.bipush 17, 2) := by decide +kernel
theorem dX12_calls_14 : decode cX12_calls 14 = .ok (.iadd, 1) := by decide +kernel
theorem dX12_calls_15 : decode cX12_calls 15 = .ok (.iaload, 1) := by decide +kernel
theorem dX12_calls_16 : decode cX12_calls 16 = .ok (.istore 5, 2) := by decide +kernel
theorem dX12_calls_18 : decode cX12_calls 18 = .ok (.aload_n 0, 1) := by decide +kernel
theorem dX12_calls_19 : decode cX12_calls 19 = .ok (.getfield 179, 3) := by decide +kernel
theorem dX12_calls_22 : decode cX12_calls 22 = .ok (.iload 4, 2) := by decide +kernel
theorem dX12_calls_24 : decode cX12_calls 24 = .ok (.bipush 10, 2) := by decide +kernel
theorem dX12_calls_26 : decode cX12_calls 26 = .ok (.iadd, 1) := by decide +kernel
theorem dX12_calls_27 : decode cX12_calls 27 = .ok (.iaload, 1) := by decide +kernel
theorem dX12_calls_28 : decode cX12_calls 28 = .ok (.istore 6, 2) := by decide +kernel
theorem dX12_calls_30 : decode cX12_calls 30 = .ok (.aload_n 0, 1) := by decide +kernel
theorem dX12_calls_31 : decode cX12_calls 31 = .ok (.getfield 179, 3) := by decide +kernel
theorem dX12_calls_34 : decode cX12_calls 34 = .ok (.iload 4, 2) := by decide +kernel
theorem dX12_calls_36 : decode cX12_calls 36 = .ok (.bipush 11, 2) := by decide +kernel
theorem dX12_calls_38 : decode cX12_calls 38 = .ok (.iadd, 1) := by decide +kernel
theorem dX12_calls_39 : decode cX12_calls 39 = .ok (.iaload, 1) := by decide +kernel
theorem dX12_calls_40 : decode cX12_calls 40 = .ok (.istore 7, 2) := by decide +kernel
theorem dX12_calls_42 : decode cX12_calls 42 = .ok (.aload_n 0, 1) := by decide +kernel
theorem dX12_calls_43 : decode cX12_calls 43 = .ok (.getfield 179, 3) := by decide +kernel
theorem dX12_calls_46 : decode cX12_calls 46 = .ok (.iload 4, 2) := by decide +kernel
theorem dX12_calls_48 : decode cX12_calls 48 = .ok (.bipush 12, 2) := by decide +kernel
theorem dX12_calls_50 : decode cX12_calls 50 = .ok (.iadd, 1) := by decide +kernel
theorem dX12_calls_51 : decode cX12_calls 51 = .ok (.iaload, 1) := by decide +kernel
theorem dX12_calls_52 : decode cX12_calls 52 = .ok (.istore 8, 2) := by decide +kernel
theorem dX12_calls_54 : decode cX12_calls 54 = .ok (.iload 5, 2) := by decide +kernel
theorem dX12_calls_56 : decode cX12_calls 56 = .ok (.ifCond .lt 17, 3) := by decide +kernel
theorem dX12_calls_59 : decode cX12_calls 59 = .ok (.iload 5, 2) := by decide +kernel
theorem dX12_calls_61 : decode cX12_calls 61 = .ok (.bipush 36, 2) := by decide +kernel
theorem dX12_calls_63 : decode cX12_calls 63 = .ok (.if_icmp .gt 10, 3) := by decide +kernel
theorem dX12_calls_66 : decode cX12_calls 66 = .ok (.iload 5, 2) := by decide +kernel
theorem dX12_calls_68 : decode cX12_calls 68 = .ok (.bipush 20, 2) := by decide +kernel
theorem dX12_calls_70 : decode cX12_calls 70 = .ok (.if_icmp .ne 35, 3) := by decide +kernel
theorem dX12_calls_73 : decode cX12_calls 73 = .ok (.aload_n 0, 1) := by decide +kernel
theorem dX12_calls_74 : decode cX12_calls 74 = .ok (.iload_n 2, 1) := by decide +kernel
theorem dX12_calls_75 : decode cX12_calls 75 = .ok (.iload 5, 2) := by decide +kernel
theorem dX12_calls_77 : decode cX12_calls 77 = .ok (.bipush 20, 2) := by decide +kernel
theorem dX12_calls_79 : decode cX12_calls 79 = .ok (.if_icmp .ne 7, 3) := by decide +kernel
theorem dX12_calls_82 : decode cX12_calls 82 = .ok (.iconst 3, 1) := by decide +kernel
theorem dX12_calls_83 : decode cX12_calls 83 = .ok (.goto 4, 3) := by decide +kernel
theorem dX12_calls_86 : decode cX12_calls 86 = .ok (.iconst 0, 1) := by decide +kernel
theorem dX12_calls_87 : decode cX12_calls 87 = .ok (.iload 5, 2) := by decide +kernel
theorem dX12_calls_89 : decode cX12_calls 89 = .ok (.bipush 20, 2) := by decide +kernel
theorem dX12_calls_91 : decode cX12_calls 91 = .ok (.if_icmp .ne 8, 3) := by decide +kernel
theorem dX12_calls_94 : decode cX12_calls 94 = .ok (.iload 6, 2) := by decide +kernel
theorem dX12_calls_96 : decode cX12_calls 96 = .ok (.goto 5, 3) := by decide +kernel
theorem dX12_calls_99 : decode cX12_calls 99 = .ok (.bipush 115, 2) := by decide +kernel
theorem dX12_calls_101 : decode cX12_calls 101 = .ok (.invokevirtual 521, 3) := by decide +kernel
theorem dX12_calls_104 : decode cX12_calls 104 = .ok (.return_, 1) := by decide +kernel
theorem dX12_calls_105 : decode cX12_calls 105 = .ok (.aload_n 0, 1) := by decide +kernel
theorem dX12_calls_106 : decode cX12_calls 106 = .ok (.getfield 152, 3) := by decide +kernel
theorem dX12_calls_109 : decode cX12_calls 109 = .ok (.iload_n 2, 1) := by decide +kernel
theorem dX12_calls_110 : decode cX12_calls 110 = .ok (.iload_n 3, 1) := by decide +kernel
theorem dX12_calls_111 : decode cX12_calls 111 = .ok (.iconst 4, 1) := by decide +kernel
theorem dX12_calls_112 : decode cX12_calls 112 = .ok (.iadd, 1) := by decide +kernel
theorem dX12_calls_113 : decode cX12_calls 113 = .ok (.iastore, 1) := by decide +kernel
theorem dX12_calls_114 : decode cX12_calls 114 = .ok (.iload 5, 2) := by decide +kernel
theorem dX12_calls_116 : decode cX12_calls 116 = .ok (.bipush 8, 2) := by decide +kernel
theorem dX12_calls_118 : decode cX12_calls 118 = .ok (.if_icmp .ge 18, 3) := by decide +kernel
theorem dX12_calls_121 : decode cX12_calls 121 = .ok (.aload_n 0, 1) := by decide +kernel
theorem dX12_calls_122 : decode cX12_calls 122 = .ok (.iload 5, 2) := by decide +kernel
theorem dX12_calls_124 : decode cX12_calls 124 = .ok (.iload_n 1, 1) := by decide +kernel
theorem dX12_calls_125 : decode cX12_calls 125 = .ok (.iload_n 2, 1) := by decide +kernel
theorem dX12_calls_126 : decode cX12_calls 126 = .ok (.iload 6, 2) := by decide +kernel
theorem dX12_calls_128 : decode cX12_calls 128 = .ok (.iload 7, 2) := by decide +kernel
theorem dX12_calls_130 : decode cX12_calls 130 = .ok (.invokevirtual 583, 3) := by decide +kernel
theorem dX12_calls_133 : decode cX12_calls 133 = .ok (.goto 87, 3) := by decide +kernel
theorem dX12_calls_136 : decode cX12_calls 136 = .ok (.iload 5, 2) := by decide +kernel
theorem dX12_calls_138 : decode cX12_calls 138 = .ok (.bipush 18, 2) := by decide +kernel
theorem dX12_calls_140 : decode cX12_calls 140 = .ok (.if_icmp .ge 20, 3) := by decide +kernel
theorem dX12_calls_143 : decode cX12_calls 143 = .ok (.aload_n 0, 1) := by decide +kernel
theorem dX12_calls_144 : decode cX12_calls 144 = .ok (.iload 5, 2) := by decide +kernel
theorem dX12_calls_146 : decode cX12_calls 146 = .ok (.iload_n 1, 1) := by decide +kernel
theorem dX12_calls_147 : decode cX12_calls 147 = .ok (.iload_n 2, 1) := by decide +kernel
theorem dX12_calls_148 : decode cX12_calls 148 = .ok (.iload 6, 2) := by decide +kernel
theorem dX12_calls_150 : decode cX12_calls 150 = .ok (.iload 7, 2) := by decide +kernel
theorem dX12_calls_152 : decode cX12_calls 152 = .ok (.iload 8, 2) := by decide +kernel
theorem dX12_calls_154 : decode cX12_calls 154 = .ok (.invokevirtual 587, 3) := by decide +kernel
theorem dX12_calls_157 : decode cX12_calls 157 = .ok (.goto 63, 3) := by decide +kernel
theorem dX12_calls_160 : decode cX12_calls 160 = .ok (.iload 5, 2) := by decide +kernel
theorem dX12_calls_162 : decode cX12_calls 162 = .ok (.bipush 26, 2) := by decide +kernel
theorem dX12_calls_164 : decode cX12_calls 164 = .ok (.if_icmp .ge 20, 3) := by decide +kernel
theorem dX12_calls_167 : decode cX12_calls 167 = .ok (.aload_n 0, 1) := by decide +kernel
theorem dX12_calls_168 : decode cX12_calls 168 = .ok (.iload 5, 2) := by decide +kernel
theorem dX12_calls_170 : decode cX12_calls 170 = .ok (.iload_n 1, 1) := by decide +kernel
theorem dX12_calls_171 : decode cX12_calls 171 = .ok (.iload_n 2, 1) := by decide +kernel
theorem dX12_calls_172 : decode cX12_calls 172 = .ok (.iload 6, 2) := by decide +kernel
theorem dX12_calls_174 : decode cX12_calls 174 = .ok (.iload 7, 2) := by decide +kernel
theorem dX12_calls_176 : decode cX12_calls 176 = .ok (.iload 8, 2) := by decide +kernel
theorem dX12_calls_178 : decode cX12_calls 178 = .ok (.invokevirtual 591, 3) := by decide +kernel
theorem dX12_calls_181 : decode cX12_calls 181 = .ok (.goto 39, 3) := by decide +kernel
theorem dX12_calls_184 : decode cX12_calls 184 = .ok (.iload 5, 2) := by decide +kernel
theorem dX12_calls_186 : decode cX12_calls 186 = .ok (.bipush 32, 2) := by decide +kernel
theorem dX12_calls_188 : decode cX12_calls 188 = .ok (.if_icmp .ge 18, 3) := by decide +kernel
theorem dX12_calls_191 : decode cX12_calls 191 = .ok (.aload_n 0, 1) := by decide +kernel
theorem dX12_calls_192 : decode cX12_calls 192 = .ok (.iload 5, 2) := by decide +kernel
theorem dX12_calls_194 : decode cX12_calls 194 = .ok (.iload_n 1, 1) := by decide +kernel
theorem dX12_calls_195 : decode cX12_calls 195 = .ok (.iload_n 2, 1) := by decide +kernel
theorem dX12_calls_196 : decode cX12_calls 196 = .ok (.iload 6, 2) := by decide +kernel
theorem dX12_calls_198 : decode cX12_calls 198 = .ok (.iload 7, 2) := by decide +kernel
theorem dX12_calls_200 : decode cX12_calls 200 = .ok (.invokevirtual 594, 3) := by decide +kernel
theorem dX12_calls_203 : decode cX12_calls 203 = .ok (.goto 17, 3) := by decide +kernel
theorem dX12_calls_206 : decode cX12_calls 206 = .ok (.aload_n 0, 1) := by decide +kernel
theorem dX12_calls_207 : decode cX12_calls 207 = .ok (.iload 5, 2) := by decide +kernel
theorem dX12_calls_209 : decode cX12_calls 209 = .ok (.iload_n 1, 1) := by decide +kernel
theorem dX12_calls_210 : decode cX12_calls 210 = .ok (.iload_n 2, 1) := by decide +kernel
theorem dX12_calls_211 : decode cX12_calls 211 = .ok (.iload 6, 2) := by decide +kernel
theorem dX12_calls_213 : decode cX12_calls 213 = .ok (.iload 7, 2) := by decide +kernel
theorem dX12_calls_215 : decode cX12_calls 215 = .ok (.iload 8, 2) := by decide +kernel
theorem dX12_calls_217 : decode cX12_calls 217 = .ok (.invokevirtual 597, 3) := by decide +kernel
theorem dX12_calls_220 : decode cX12_calls 220 = .ok (.istore 9, 2) := by decide +kernel
theorem dX12_calls_222 : decode cX12_calls 222 = .ok (.iload 9, 2) := by decide +kernel
theorem dX12_calls_224 : decode cX12_calls 224 = .ok (.iconst (-1), 1) := by decide +kernel
theorem dX12_calls_225 : decode cX12_calls 225 = .ok (.if_icmp .eq 10, 3) := by decide +kernel
theorem dX12_calls_228 : decode cX12_calls 228 = .ok (.aload_n 0, 1) := by decide +kernel
theorem dX12_calls_229 : decode cX12_calls 229 = .ok (.iload_n 2, 1) := by decide +kernel
theorem dX12_calls_230 : decode cX12_calls 230 = .ok (.iload 9, 2) := by decide +kernel
theorem dX12_calls_232 : decode cX12_calls 232 = .ok (.invokevirtual 506, 3) := by decide +kernel
theorem dX12_calls_235 : decode cX12_calls 235 = .ok (.return_, 1) := by decide +kernel
def wb_X12_calls_101  (S : q_S) (as0 : Nat) (xs1 : Int32) (xs2 : Int32) (xs3 : Int32) (Q : Option Value → q_S → Prop) : Prop := q_K S as0 = 13 ∧ (wm_X12_fails S as0 xs1 xs2 xs3 (fun r2_ S3_ => r2_ = none ∧ (Q none S3_)))
set_option maxHeartbeats 4000000 in
set_option maxRecDepth 100000 in
theorem cb_X12_calls_101 {p : Program} {l : Launch} {e : Env} {s : State} {m : MethodId} {args : Array Value} {below : List Frame} {meth : Method} {c : Code} {D : va_G} {cy : Nat → ClassId} {lo : Nat}  {S : q_S} {as0 : Nat} {xs1 : Int32} {xs2 : Int32} {xs3 : Int32} {Q : Option Value → q_S → Prop} {H : Heap} {locs : List Loc} {ls : Array Slot} (X : q_X p s m args meth c RX12 cX12_calls 10 none D cy lo)  (Y : q_Y D cy lo s S H locs) (hl : lv_has ls 10 []) (h : wb_X12_calls_101 S as0 xs1 xs2 xs3 Q) : W p l e ({ frames := 5, cells := 0, slots := 0, locals := 123 } : Room) s m args below meth c H locs 0 0 (MQ below (q_Q D cy lo Q) args s 0 0 (fun q => lo ≤ q)) (F0 m 101 ls [.int xs3, .int xs2, .int xs1, .ref as0]) := by
  have hx := X.1
  have hb := X.2.1
  unfold wb_X12_calls_101 at h
  obtain ⟨k1_, h⟩ := h
  refine q_callV X Y hl (cm_X12_fails h) mt_X12_fails mi_X12_fails ml_X12_521 (ci := 12) rfl k1_ (by decide) rfl rfl (by first | exact Nat.le_of_ble_eq_true rfl | simp [q_cat, q_catI, q_catJ, q_catR]) ⟨Nat.le_of_ble_eq_true rfl, Nat.le_of_ble_eq_true rfl⟩ ⟨Nat.le_of_ble_eq_true rfl, Nat.le_of_ble_eq_true rfl⟩ dX12_calls_101 (fun r2_ S3_ H locs hp Y => ?_)
  obtain ⟨rfl, h⟩ := hp
  refine W.eq (g2 := F0 m 104 ls []) rfl ?_
  exact q_vret X Y (Nat.le_refl _) (Nat.le_refl _) h dX12_calls_104
def wb_X12_calls_87  (S : q_S) (x5 : Int32) (x6 : Int32) (as0 : Nat) (xs1 : Int32) (xs2 : Int32) (Q : Option Value → q_S → Prop) : Prop := ((¬ x5 = (20 : Int32) → (wb_X12_calls_101 S as0 xs1 xs2 (115 : Int32) Q)) ∧ (x5 = (20 : Int32) → (wb_X12_calls_101 S as0 xs1 xs2 x6 Q)))
set_option maxHeartbeats 4000000 in
set_option maxRecDepth 100000 in
theorem cb_X12_calls_87 {p : Program} {l : Launch} {e : Env} {s : State} {m : MethodId} {args : Array Value} {below : List Frame} {meth : Method} {c : Code} {D : va_G} {cy : Nat → ClassId} {lo : Nat}  {S : q_S} {x5 : Int32} {x6 : Int32} {as0 : Nat} {xs1 : Int32} {xs2 : Int32} {Q : Option Value → q_S → Prop} {H : Heap} {locs : List Loc} {ls : Array Slot} (X : q_X p s m args meth c RX12 cX12_calls 10 none D cy lo)  (Y : q_Y D cy lo s S H locs) (hl : lv_has ls 10 [(5, .int x5), (6, .int x6)]) (h : wb_X12_calls_87 S x5 x6 as0 xs1 xs2 Q) : W p l e ({ frames := 5, cells := 0, slots := 0, locals := 123 } : Room) s m args below meth c H locs 0 0 (MQ below (q_Q D cy lo Q) args s 0 0 (fun q => lo ≤ q)) (F0 m 87 ls [.int xs2, .int xs1, .ref as0]) := by
  have hx := X.1
  have hb := X.2.1
  unfold wb_X12_calls_87 at h
  refine lv_iload hx hb dX12_calls_87 (lv_at hl 0 rfl) ?_
  refine lv_bipush (v := 20) hx hb dX12_calls_89 (by decide) ?_
  refine lv_icmp_ne (tgt := 99) hx hb dX12_calls_91 (by decide) (fun c4_ => ?_) (fun c4_ => ?_)
  · replace h := h.1 c4_
    refine lv_bipush (v := 115) hx hb dX12_calls_99 (by decide) ?_
    exact cb_X12_calls_101 X Y (lv_sub hl [] rfl) h
  · replace h := h.2 c4_
    refine lv_iload hx hb dX12_calls_94 (lv_at hl 1 rfl) ?_
    refine lv_goto (tgt := 101) hx hb dX12_calls_96 (by decide) ?_
    exact cb_X12_calls_101 X Y (lv_sub hl [] rfl) h
def wb_X12_calls_73  (S : q_S) (a0 : Nat) (x2 : Int32) (x5 : Int32) (x6 : Int32) (Q : Option Value → q_S → Prop) : Prop := ((¬ x5 = (20 : Int32) → (wb_X12_calls_87 S x5 x6 a0 x2 (0 : Int32) Q)) ∧ (x5 = (20 : Int32) → (wb_X12_calls_87 S x5 x6 a0 x2 (3 : Int32) Q)))
set_option maxHeartbeats 4000000 in
set_option maxRecDepth 100000 in
theorem cb_X12_calls_73 {p : Program} {l : Launch} {e : Env} {s : State} {m : MethodId} {args : Array Value} {below : List Frame} {meth : Method} {c : Code} {D : va_G} {cy : Nat → ClassId} {lo : Nat}  {S : q_S} {a0 : Nat} {x2 : Int32} {x5 : Int32} {x6 : Int32} {Q : Option Value → q_S → Prop} {H : Heap} {locs : List Loc} {ls : Array Slot} (X : q_X p s m args meth c RX12 cX12_calls 10 none D cy lo)  (Y : q_Y D cy lo s S H locs) (hl : lv_has ls 10 [(0, .ref a0), (2, .int x2), (5, .int x5), (6, .int x6)]) (h : wb_X12_calls_73 S a0 x2 x5 x6 Q) : W p l e ({ frames := 5, cells := 0, slots := 0, locals := 123 } : Room) s m args below meth c H locs 0 0 (MQ below (q_Q D cy lo Q) args s 0 0 (fun q => lo ≤ q)) (F0 m 73 ls []) := by
  have hx := X.1
  have hb := X.2.1
  unfold wb_X12_calls_73 at h
  refine lv_aload_n hx hb dX12_calls_73 rfl (lv_at hl 0 rfl) ?_
  refine lv_iload_n hx hb dX12_calls_74 rfl (lv_at hl 1 rfl) ?_
  refine lv_iload hx hb dX12_calls_75 (lv_at hl 2 rfl) ?_
  refine lv_bipush (v := 20) hx hb dX12_calls_77 (by decide) ?_
  refine lv_icmp_ne (tgt := 86) hx hb dX12_calls_79 (by decide) (fun c5_ => ?_) (fun c5_ => ?_)
  · replace h := h.1 c5_
    refine lv_iconst (v := 0) hx hb dX12_calls_86 (by decide) ?_
    exact cb_X12_calls_87 X Y (lv_sub hl [2, 3] rfl) h
  · replace h := h.2 c5_
    refine lv_iconst (v := 3) hx hb dX12_calls_82 (by decide) ?_
    refine lv_goto (tgt := 87) hx hb dX12_calls_83 (by decide) ?_
    exact cb_X12_calls_87 X Y (lv_sub hl [2, 3] rfl) h
def wb_X12_calls_235  (S : q_S) (Q : Option Value → q_S → Prop) : Prop := Q none S
set_option maxHeartbeats 4000000 in
set_option maxRecDepth 100000 in
theorem cb_X12_calls_235 {p : Program} {l : Launch} {e : Env} {s : State} {m : MethodId} {args : Array Value} {below : List Frame} {meth : Method} {c : Code} {D : va_G} {cy : Nat → ClassId} {lo : Nat}  {S : q_S} {Q : Option Value → q_S → Prop} {H : Heap} {locs : List Loc} {ls : Array Slot} (X : q_X p s m args meth c RX12 cX12_calls 10 none D cy lo)  (Y : q_Y D cy lo s S H locs) (hl : lv_has ls 10 []) (h : wb_X12_calls_235 S Q) : W p l e ({ frames := 5, cells := 0, slots := 0, locals := 123 } : Room) s m args below meth c H locs 0 0 (MQ below (q_Q D cy lo Q) args s 0 0 (fun q => lo ≤ q)) (F0 m 235 ls []) := by
  have hx := X.1
  have hb := X.2.1
  unfold wb_X12_calls_235 at h
  exact q_vret X Y (Nat.le_refl _) (Nat.le_refl _) h dX12_calls_235
def wb_X12_calls_220  (S : q_S) (a0 : Nat) (x2 : Int32) (xs0 : Int32) (Q : Option Value → q_S → Prop) : Prop := ((xs0 = (-1 : Int32) → (wb_X12_calls_235 S Q)) ∧ (¬ xs0 = (-1 : Int32) → (q_K S a0 = 13 ∧ (wm_X12_answer S a0 x2 xs0 (fun r8_ S9_ => r8_ = none ∧ (wb_X12_calls_235 S9_ Q))))))
set_option maxHeartbeats 4000000 in
set_option maxRecDepth 100000 in
theorem cb_X12_calls_220 {p : Program} {l : Launch} {e : Env} {s : State} {m : MethodId} {args : Array Value} {below : List Frame} {meth : Method} {c : Code} {D : va_G} {cy : Nat → ClassId} {lo : Nat}  {S : q_S} {a0 : Nat} {x2 : Int32} {xs0 : Int32} {Q : Option Value → q_S → Prop} {H : Heap} {locs : List Loc} {ls : Array Slot} (X : q_X p s m args meth c RX12 cX12_calls 10 none D cy lo)  (Y : q_Y D cy lo s S H locs) (hl : lv_has ls 10 [(0, .ref a0), (2, .int x2)]) (h : wb_X12_calls_220 S a0 x2 xs0 Q) : W p l e ({ frames := 5, cells := 0, slots := 0, locals := 123 } : Room) s m args below meth c H locs 0 0 (MQ below (q_Q D cy lo Q) args s 0 0 (fun q => lo ≤ q)) (F0 m 220 ls [.int xs0]) := by
  have hx := X.1
  have hb := X.2.1
  unfold wb_X12_calls_220 at h
  refine lv_istore (i := 9) (lv' := [(9, .int xs0), (0, .ref a0), (2, .int x2)]) hx hb dX12_calls_220 hl (by decide) (by first | rfl | simp [q_cat, q_catI, q_catJ, q_catR]) (fun ls hl => ?_)
  refine lv_iload hx hb dX12_calls_222 (lv_at hl 0 rfl) ?_
  refine lv_iconst (v := (-1)) hx hb dX12_calls_224 (by decide) ?_
  refine lv_icmp_eq (tgt := 235) hx hb dX12_calls_225 (by decide) (fun c6_ => ?_) (fun c6_ => ?_)
  · replace h := h.1 c6_
    exact cb_X12_calls_235 X Y (lv_sub hl [] rfl) h
  · replace h := h.2 c6_
    refine lv_aload_n hx hb dX12_calls_228 rfl (lv_at hl 1 rfl) ?_
    refine lv_iload_n hx hb dX12_calls_229 rfl (lv_at hl 2 rfl) ?_
    refine lv_iload hx hb dX12_calls_230 (lv_at hl 0 rfl) ?_
    obtain ⟨k7_, h⟩ := h
    refine q_callV X Y hl (cm_X12_answer h) mt_X12_answer mi_X12_answer ml_X12_506 (ci := 12) rfl k7_ (by decide) rfl rfl (by first | exact Nat.le_of_ble_eq_true rfl | simp [q_cat, q_catI, q_catJ, q_catR]) ⟨Nat.le_of_ble_eq_true rfl, Nat.le_of_ble_eq_true rfl⟩ ⟨Nat.le_of_ble_eq_true rfl, Nat.le_of_ble_eq_true rfl⟩ dX12_calls_232 (fun r8_ S9_ H locs hp Y => ?_)
    obtain ⟨rfl, h⟩ := hp
    refine W.eq (g2 := F0 m 235 ls []) rfl ?_
    exact cb_X12_calls_235 X Y (lv_sub hl [] rfl) h
def wm_X12_calls (S : q_S) (a0 : Nat) (x1 : Int32) (x2 : Int32) (x3 : Int32) (Q : Option Value → q_S → Prop) : Prop := q_K S a0 = 13 ∧ (∃ a11_ : Nat, (q_P S 2477 a0) = some a11_ ∧ (q_K S a11_ = 21 ∧ (vp_in (((32 : Int32) * x2) + (17 : Int32)) (q_N S a11_) ∧ (vp_in (((32 : Int32) * x2) + (10 : Int32)) (q_N S a11_) ∧ (vp_in (((32 : Int32) * x2) + (11 : Int32)) (q_N S a11_) ∧ (vp_in (((32 : Int32) * x2) + (12 : Int32)) (q_N S a11_) ∧ ((((q_A S a11_ (((32 : Int32) * x2) + (17 : Int32)).toNatClampNeg) < 0 → (wb_X12_calls_73 S a0 x2 (q_A S a11_ (((32 : Int32) * x2) + (17 : Int32)).toNatClampNeg) (q_A S a11_ (((32 : Int32) * x2) + (10 : Int32)).toNatClampNeg) Q)) ∧ (¬ (q_A S a11_ (((32 : Int32) * x2) + (17 : Int32)).toNatClampNeg) < 0 → ((((36 : Int32) < (q_A S a11_ (((32 : Int32) * x2) + (17 : Int32)).toNatClampNeg) → (wb_X12_calls_73 S a0 x2 (q_A S a11_ (((32 : Int32) * x2) + (17 : Int32)).toNatClampNeg) (q_A S a11_ (((32 : Int32) * x2) + (10 : Int32)).toNatClampNeg) Q)) ∧ (¬ (36 : Int32) < (q_A S a11_ (((32 : Int32) * x2) + (17 : Int32)).toNatClampNeg) → (((¬ (q_A S a11_ (((32 : Int32) * x2) + (17 : Int32)).toNatClampNeg) = (20 : Int32) → (∃ a21_ : Nat, (q_P S 2468 a0) = some a21_ ∧ (q_K S a21_ = 21 ∧ (vp_in x2 (q_N S a21_) ∧ ((((8 : Int32) ≤ (q_A S a11_ (((32 : Int32) * x2) + (17 : Int32)).toNatClampNeg) → ((((18 : Int32) ≤ (q_A S a11_ (((32 : Int32) * x2) + (17 : Int32)).toNatClampNeg) → ((((26 : Int32) ≤ (q_A S a11_ (((32 : Int32) * x2) + (17 : Int32)).toNatClampNeg) → ((((32 : Int32) ≤ (q_A S a11_ (((32 : Int32) * x2) + (17 : Int32)).toNatClampNeg) → (wm_X12_asks (qs_A S a21_ x2.toNatClampNeg (x3 + (4 : Int32))) a0 (q_A S a11_ (((32 : Int32) * x2) + (17 : Int32)).toNatClampNeg) x1 x2 (q_A S a11_ (((32 : Int32) * x2) + (10 : Int32)).toNatClampNeg) (q_A S a11_ (((32 : Int32) * x2) + (11 : Int32)).toNatClampNeg) (q_A S a11_ (((32 : Int32) * x2) + (12 : Int32)).toNatClampNeg) (fun r29_ S30_ => ∃ x31_ : Int32, r29_ = some (.int x31_) ∧ (wb_X12_calls_220 S30_ a0 x2 x31_ Q)))) ∧ (¬ (32 : Int32) ≤ (q_A S a11_ (((32 : Int32) * x2) + (17 : Int32)).toNatClampNeg) → (wm_X12_ofOthers (qs_A S a21_ x2.toNatClampNeg (x3 + (4 : Int32))) a0 (q_A S a11_ (((32 : Int32) * x2) + (17 : Int32)).toNatClampNeg) x1 x2 (q_A S a11_ (((32 : Int32) * x2) + (10 : Int32)).toNatClampNeg) (q_A S a11_ (((32 : Int32) * x2) + (11 : Int32)).toNatClampNeg) (fun r32_ S33_ => ∃ x34_ : Int32, r32_ = some (.int x34_) ∧ (wb_X12_calls_220 S33_ a0 x2 x34_ Q))))))) ∧ (¬ (26 : Int32) ≤ (q_A S a11_ (((32 : Int32) * x2) + (17 : Int32)).toNatClampNeg) → (wm_X12_ofPorts (qs_A S a21_ x2.toNatClampNeg (x3 + (4 : Int32))) a0 (q_A S a11_ (((32 : Int32) * x2) + (17 : Int32)).toNatClampNeg) x1 x2 (q_A S a11_ (((32 : Int32) * x2) + (10 : Int32)).toNatClampNeg) (q_A S a11_ (((32 : Int32) * x2) + (11 : Int32)).toNatClampNeg) (q_A S a11_ (((32 : Int32) * x2) + (12 : Int32)).toNatClampNeg) (fun r35_ S36_ => ∃ x37_ : Int32, r35_ = some (.int x37_) ∧ (wb_X12_calls_220 S36_ a0 x2 x37_ Q))))))) ∧ (¬ (18 : Int32) ≤ (q_A S a11_ (((32 : Int32) * x2) + (17 : Int32)).toNatClampNeg) → (wm_X12_ofThings (qs_A S a21_ x2.toNatClampNeg (x3 + (4 : Int32))) a0 (q_A S a11_ (((32 : Int32) * x2) + (17 : Int32)).toNatClampNeg) x1 x2 (q_A S a11_ (((32 : Int32) * x2) + (10 : Int32)).toNatClampNeg) (q_A S a11_ (((32 : Int32) * x2) + (11 : Int32)).toNatClampNeg) (q_A S a11_ (((32 : Int32) * x2) + (12 : Int32)).toNatClampNeg) (fun r38_ S39_ => ∃ x40_ : Int32, r38_ = some (.int x40_) ∧ (wb_X12_calls_220 S39_ a0 x2 x40_ Q))))))) ∧ (¬ (8 : Int32) ≤ (q_A S a11_ (((32 : Int32) * x2) + (17 : Int32)).toNatClampNeg) → (wm_X12_ofProcesses (qs_A S a21_ x2.toNatClampNeg (x3 + (4 : Int32))) a0 (q_A S a11_ (((32 : Int32) * x2) + (17 : Int32)).toNatClampNeg) x1 x2 (q_A S a11_ (((32 : Int32) * x2) + (10 : Int32)).toNatClampNeg) (q_A S a11_ (((32 : Int32) * x2) + (11 : Int32)).toNatClampNeg) (fun r41_ S42_ => ∃ x43_ : Int32, r41_ = some (.int x43_) ∧ (wb_X12_calls_220 S42_ a0 x2 x43_ Q)))))))))) ∧ ((q_A S a11_ (((32 : Int32) * x2) + (17 : Int32)).toNatClampNeg) = (20 : Int32) → (wb_X12_calls_73 S a0 x2 (q_A S a11_ (((32 : Int32) * x2) + (17 : Int32)).toNatClampNeg) (q_A S a11_ (((32 : Int32) * x2) + (10 : Int32)).toNatClampNeg) Q))))))))))))))))
set_option maxHeartbeats 4000000 in
set_option maxRecDepth 100000 in
theorem cm_X12_calls {l : Launch} {D : va_G} {cy : Nat → ClassId} {lo : Nat} {S : q_S} {a0 : Nat} {x1 : Int32} {x2 : Int32} {x3 : Int32} {Q : Option Value → q_S → Prop} (h : wm_X12_calls S a0 x1 x2 x3 Q) : q_Met l D cy lo yX12_calls cX12_calls 10 none 5 123 0 0 [.ref a0, .int x1, .int x2, .int x3] S Q := by
  refine q_body (by decide) (by first | exact Nat.le_of_ble_eq_true rfl | simp [lg_sl, q_cat, q_catI, q_catJ, q_catR]) ?_
  intro p e s m below meth c ls X hnm Y hl
  have hx := X.1
  have hb := X.2.1
  have hl : lv_has ls 10 [(0, .ref a0), (1, .int x1), (2, .int x2), (3, .int x3)] := by first | exact hl | simpa [lv_args, q_cat, q_catI, q_catJ, q_catR] using hl
  generalize hargs : ([.ref a0, .int x1, .int x2, .int x3] : List Value).toArray = args at X ⊢
  unfold wm_X12_calls at h
  refine lv_bipush (v := 32) hx hb dX12_calls_0 (by decide) ?_
  refine lv_iload_n hx hb dX12_calls_2 rfl (lv_at hl 2 rfl) ?_
  refine lv_imul hx hb dX12_calls_3 ?_
  refine lv_istore (i := 4) (lv' := [(4, .int ((32 : Int32) * x2)), (0, .ref a0), (1, .int x1), (2, .int x2), (3, .int x3)]) hx hb dX12_calls_4 hl (by decide) (by first | rfl | simp [q_cat, q_catI, q_catJ, q_catR]) (fun ls hl => ?_)
  refine lv_aload_n hx hb dX12_calls_6 rfl (lv_at hl 1 rfl) ?_
  obtain ⟨k10_, h⟩ := h
  refine q_getP X Y kX12 77 rfl fl_X12_179 k10_ rfl dX12_calls_7 ?_
  refine lv_iload hx hb dX12_calls_10 (lv_at hl 0 rfl) ?_
  refine lv_bipush (v := 17) hx hb dX12_calls_12 (by decide) ?_
  refine lv_iadd hx hb dX12_calls_14 ?_
  obtain ⟨a11_, e12_, h⟩ := h
  refine q_nn [.int (((32 : Int32) * x2) + (17 : Int32))] e12_ ?_
  obtain ⟨k13_, h⟩ := h
  obtain ⟨i14_, h⟩ := h
  refine q_ild X Y k13_ i14_ dX12_calls_15 ?_
  refine lv_istore (i := 5) (lv' := [(5, .int (q_A S a11_ (((32 : Int32) * x2) + (17 : Int32)).toNatClampNeg)), (4, .int ((32 : Int32) * x2)), (0, .ref a0), (1, .int x1), (2, .int x2), (3, .int x3)]) hx hb dX12_calls_16 hl (by decide) (by first | rfl | simp [q_cat, q_catI, q_catJ, q_catR]) (fun ls hl => ?_)
  refine lv_aload_n hx hb dX12_calls_18 rfl (lv_at hl 2 rfl) ?_
  refine q_getR X Y kX12 77 rfl fl_X12_179 k10_ e12_ dX12_calls_19 ?_
  refine lv_iload hx hb dX12_calls_22 (lv_at hl 1 rfl) ?_
  refine lv_bipush (v := 10) hx hb dX12_calls_24 (by decide) ?_
  refine lv_iadd hx hb dX12_calls_26 ?_
  obtain ⟨i15_, h⟩ := h
  refine q_ild X Y k13_ i15_ dX12_calls_27 ?_
  refine lv_istore (i := 6) (lv' := [(6, .int (q_A S a11_ (((32 : Int32) * x2) + (10 : Int32)).toNatClampNeg)), (5, .int (q_A S a11_ (((32 : Int32) * x2) + (17 : Int32)).toNatClampNeg)), (4, .int ((32 : Int32) * x2)), (0, .ref a0), (1, .int x1), (2, .int x2), (3, .int x3)]) hx hb dX12_calls_28 hl (by decide) (by first | rfl | simp [q_cat, q_catI, q_catJ, q_catR]) (fun ls hl => ?_)
  refine lv_aload_n hx hb dX12_calls_30 rfl (lv_at hl 3 rfl) ?_
  refine q_getR X Y kX12 77 rfl fl_X12_179 k10_ e12_ dX12_calls_31 ?_
  refine lv_iload hx hb dX12_calls_34 (lv_at hl 2 rfl) ?_
  refine lv_bipush (v := 11) hx hb dX12_calls_36 (by decide) ?_
  refine lv_iadd hx hb dX12_calls_38 ?_
  obtain ⟨i16_, h⟩ := h
  refine q_ild X Y k13_ i16_ dX12_calls_39 ?_
  refine lv_istore (i := 7) (lv' := [(7, .int (q_A S a11_ (((32 : Int32) * x2) + (11 : Int32)).toNatClampNeg)), (6, .int (q_A S a11_ (((32 : Int32) * x2) + (10 : Int32)).toNatClampNeg)), (5, .int (q_A S a11_ (((32 : Int32) * x2) + (17 : Int32)).toNatClampNeg)), (4, .int ((32 : Int32) * x2)), (0, .ref a0), (1, .int x1), (2, .int x2), (3, .int x3)]) hx hb dX12_calls_40 hl (by decide) (by first | rfl | simp [q_cat, q_catI, q_catJ, q_catR]) (fun ls hl => ?_)
  refine lv_aload_n hx hb dX12_calls_42 rfl (lv_at hl 4 rfl) ?_
  refine q_getR X Y kX12 77 rfl fl_X12_179 k10_ e12_ dX12_calls_43 ?_
  refine lv_iload hx hb dX12_calls_46 (lv_at hl 3 rfl) ?_
  refine lv_bipush (v := 12) hx hb dX12_calls_48 (by decide) ?_
  refine lv_iadd hx hb dX12_calls_50 ?_
  obtain ⟨i17_, h⟩ := h
  refine q_ild X Y k13_ i17_ dX12_calls_51 ?_
  refine lv_istore (i := 8) (lv' := [(8, .int (q_A S a11_ (((32 : Int32) * x2) + (12 : Int32)).toNatClampNeg)), (7, .int (q_A S a11_ (((32 : Int32) * x2) + (11 : Int32)).toNatClampNeg)), (6, .int (q_A S a11_ (((32 : Int32) * x2) + (10 : Int32)).toNatClampNeg)), (5, .int (q_A S a11_ (((32 : Int32) * x2) + (17 : Int32)).toNatClampNeg)), (4, .int ((32 : Int32) * x2)), (0, .ref a0), (1, .int x1), (2, .int x2), (3, .int x3)]) hx hb dX12_calls_52 hl (by decide) (by first | rfl | simp [q_cat, q_catI, q_catJ, q_catR]) (fun ls hl => ?_)
  refine lv_iload hx hb dX12_calls_54 (lv_at hl 3 rfl) ?_
  refine lv_if_lt (tgt := 73) hx hb dX12_calls_56 (by decide) (fun c18_ => ?_) (fun c18_ => ?_)
  · replace h := h.1 c18_
    exact cb_X12_calls_73 X Y (lv_sub hl [5, 7, 3, 2] rfl) h
  · replace h := h.2 c18_
    refine lv_iload hx hb dX12_calls_59 (lv_at hl 3 rfl) ?_
    refine lv_bipush (v := 36) hx hb dX12_calls_61 (by decide) ?_
    refine lv_icmp_gt (tgt := 73) hx hb dX12_calls_63 (by decide) (fun c19_ => ?_) (fun c19_ => ?_)
    · replace h := h.1 c19_
      exact cb_X12_calls_73 X Y (lv_sub hl [5, 7, 3, 2] rfl) h
    · replace h := h.2 c19_
      refine lv_iload hx hb dX12_calls_66 (lv_at hl 3 rfl) ?_
      refine lv_bipush (v := 20) hx hb dX12_calls_68 (by decide) ?_
      refine lv_icmp_ne (tgt := 105) hx hb dX12_calls_70 (by decide) (fun c20_ => ?_) (fun c20_ => ?_)
      · replace h := h.1 c20_
        refine lv_aload_n hx hb dX12_calls_105 rfl (lv_at hl 5 rfl) ?_
        refine q_getP X Y kX12 68 rfl fl_X12_152 k10_ rfl dX12_calls_106 ?_
        refine lv_iload_n hx hb dX12_calls_109 rfl (lv_at hl 7 rfl) ?_
        refine lv_iload_n hx hb dX12_calls_110 rfl (lv_at hl 8 rfl) ?_
        refine lv_iconst (v := 4) hx hb dX12_calls_111 (by decide) ?_
        refine lv_iadd hx hb dX12_calls_112 ?_
        obtain ⟨a21_, e22_, h⟩ := h
        refine q_nn [.int (x3 + (4 : Int32)), .int x2] e22_ ?_
        obtain ⟨k23_, h⟩ := h
        obtain ⟨i24_, h⟩ := h
        refine q_ist X Y k23_ i24_ dX12_calls_113 (fun H locs Y => ?_)
        refine lv_iload hx hb dX12_calls_114 (lv_at hl 3 rfl) ?_
        refine lv_bipush (v := 8) hx hb dX12_calls_116 (by decide) ?_
        refine lv_icmp_ge (tgt := 136) hx hb dX12_calls_118 (by decide) (fun c25_ => ?_) (fun c25_ => ?_)
        · replace h := h.1 c25_
          refine lv_iload hx hb dX12_calls_136 (lv_at hl 3 rfl) ?_
          refine lv_bipush (v := 18) hx hb dX12_calls_138 (by decide) ?_
          refine lv_icmp_ge (tgt := 160) hx hb dX12_calls_140 (by decide) (fun c26_ => ?_) (fun c26_ => ?_)
          · replace h := h.1 c26_
            refine lv_iload hx hb dX12_calls_160 (lv_at hl 3 rfl) ?_
            refine lv_bipush (v := 26) hx hb dX12_calls_162 (by decide) ?_
            refine lv_icmp_ge (tgt := 184) hx hb dX12_calls_164 (by decide) (fun c27_ => ?_) (fun c27_ => ?_)
            · replace h := h.1 c27_
              refine lv_iload hx hb dX12_calls_184 (lv_at hl 3 rfl) ?_
              refine lv_bipush (v := 32) hx hb dX12_calls_186 (by decide) ?_
              refine lv_icmp_ge (tgt := 206) hx hb dX12_calls_188 (by decide) (fun c28_ => ?_) (fun c28_ => ?_)
              · replace h := h.1 c28_
                refine lv_aload_n hx hb dX12_calls_206 rfl (lv_at hl 5 rfl) ?_
                refine lv_iload hx hb dX12_calls_207 (lv_at hl 3 rfl) ?_
                refine lv_iload_n hx hb dX12_calls_209 rfl (lv_at hl 6 rfl) ?_
                refine lv_iload_n hx hb dX12_calls_210 rfl (lv_at hl 7 rfl) ?_
                refine lv_iload hx hb dX12_calls_211 (lv_at hl 2 rfl) ?_
                refine lv_iload hx hb dX12_calls_213 (lv_at hl 1 rfl) ?_
                refine lv_iload hx hb dX12_calls_215 (lv_at hl 0 rfl) ?_
                refine q_callV X Y hl (cm_X12_asks h) mt_X12_asks mi_X12_asks ml_X12_597 (ci := 12) rfl k10_ (by decide) rfl rfl (by first | exact Nat.le_of_ble_eq_true rfl | simp [q_cat, q_catI, q_catJ, q_catR]) ⟨Nat.le_of_ble_eq_true rfl, Nat.le_of_ble_eq_true rfl⟩ ⟨Nat.le_of_ble_eq_true rfl, Nat.le_of_ble_eq_true rfl⟩ dX12_calls_217 (fun r29_ S30_ H locs hp Y => ?_)
                obtain ⟨x31_, rfl, h⟩ := hp
                refine W.eq (g2 := F0 m 220 ls [.int x31_]) rfl ?_
                exact cb_X12_calls_220 X Y (lv_sub hl [5, 7] rfl) h
              · replace h := h.2 c28_
                refine lv_aload_n hx hb dX12_calls_191 rfl (lv_at hl 5 rfl) ?_
                refine lv_iload hx hb dX12_calls_192 (lv_at hl 3 rfl) ?_
                refine lv_iload_n hx hb dX12_calls_194 rfl (lv_at hl 6 rfl) ?_
                refine lv_iload_n hx hb dX12_calls_195 rfl (lv_at hl 7 rfl) ?_
                refine lv_iload hx hb dX12_calls_196 (lv_at hl 2 rfl) ?_
                refine lv_iload hx hb dX12_calls_198 (lv_at hl 1 rfl) ?_
                refine q_callV X Y hl (cm_X12_ofOthers h) mt_X12_ofOthers mi_X12_ofOthers ml_X12_594 (ci := 12) rfl k10_ (by decide) rfl rfl (by first | exact Nat.le_of_ble_eq_true rfl | simp [q_cat, q_catI, q_catJ, q_catR]) ⟨Nat.le_of_ble_eq_true rfl, Nat.le_of_ble_eq_true rfl⟩ ⟨Nat.le_of_ble_eq_true rfl, Nat.le_of_ble_eq_true rfl⟩ dX12_calls_200 (fun r32_ S33_ H locs hp Y => ?_)
                obtain ⟨x34_, rfl, h⟩ := hp
                refine W.eq (g2 := F0 m 203 ls [.int x34_]) rfl ?_
                refine lv_goto (tgt := 220) hx hb dX12_calls_203 (by decide) ?_
                exact cb_X12_calls_220 X Y (lv_sub hl [5, 7] rfl) h
            · replace h := h.2 c27_
              refine lv_aload_n hx hb dX12_calls_167 rfl (lv_at hl 5 rfl) ?_
              refine lv_iload hx hb dX12_calls_168 (lv_at hl 3 rfl) ?_
              refine lv_iload_n hx hb dX12_calls_170 rfl (lv_at hl 6 rfl) ?_
              refine lv_iload_n hx hb dX12_calls_171 rfl (lv_at hl 7 rfl) ?_
              refine lv_iload hx hb dX12_calls_172 (lv_at hl 2 rfl) ?_
              refine lv_iload hx hb dX12_calls_174 (lv_at hl 1 rfl) ?_
              refine lv_iload hx hb dX12_calls_176 (lv_at hl 0 rfl) ?_
              refine q_callV X Y hl (cm_X12_ofPorts h) mt_X12_ofPorts mi_X12_ofPorts ml_X12_591 (ci := 12) rfl k10_ (by decide) rfl rfl (by first | exact Nat.le_of_ble_eq_true rfl | simp [q_cat, q_catI, q_catJ, q_catR]) ⟨Nat.le_of_ble_eq_true rfl, Nat.le_of_ble_eq_true rfl⟩ ⟨Nat.le_of_ble_eq_true rfl, Nat.le_of_ble_eq_true rfl⟩ dX12_calls_178 (fun r35_ S36_ H locs hp Y => ?_)
              obtain ⟨x37_, rfl, h⟩ := hp
              refine W.eq (g2 := F0 m 181 ls [.int x37_]) rfl ?_
              refine lv_goto (tgt := 220) hx hb dX12_calls_181 (by decide) ?_
              exact cb_X12_calls_220 X Y (lv_sub hl [5, 7] rfl) h
          · replace h := h.2 c26_
            refine lv_aload_n hx hb dX12_calls_143 rfl (lv_at hl 5 rfl) ?_
            refine lv_iload hx hb dX12_calls_144 (lv_at hl 3 rfl) ?_
            refine lv_iload_n hx hb dX12_calls_146 rfl (lv_at hl 6 rfl) ?_
            refine lv_iload_n hx hb dX12_calls_147 rfl (lv_at hl 7 rfl) ?_
            refine lv_iload hx hb dX12_calls_148 (lv_at hl 2 rfl) ?_
            refine lv_iload hx hb dX12_calls_150 (lv_at hl 1 rfl) ?_
            refine lv_iload hx hb dX12_calls_152 (lv_at hl 0 rfl) ?_
            refine q_callV X Y hl (cm_X12_ofThings h) mt_X12_ofThings mi_X12_ofThings ml_X12_587 (ci := 12) rfl k10_ (by decide) rfl rfl (by first | exact Nat.le_of_ble_eq_true rfl | simp [q_cat, q_catI, q_catJ, q_catR]) ⟨Nat.le_of_ble_eq_true rfl, Nat.le_of_ble_eq_true rfl⟩ ⟨Nat.le_of_ble_eq_true rfl, Nat.le_of_ble_eq_true rfl⟩ dX12_calls_154 (fun r38_ S39_ H locs hp Y => ?_)
            obtain ⟨x40_, rfl, h⟩ := hp
            refine W.eq (g2 := F0 m 157 ls [.int x40_]) rfl ?_
            refine lv_goto (tgt := 220) hx hb dX12_calls_157 (by decide) ?_
            exact cb_X12_calls_220 X Y (lv_sub hl [5, 7] rfl) h
        · replace h := h.2 c25_
          refine lv_aload_n hx hb dX12_calls_121 rfl (lv_at hl 5 rfl) ?_
          refine lv_iload hx hb dX12_calls_122 (lv_at hl 3 rfl) ?_
          refine lv_iload_n hx hb dX12_calls_124 rfl (lv_at hl 6 rfl) ?_
          refine lv_iload_n hx hb dX12_calls_125 rfl (lv_at hl 7 rfl) ?_
          refine lv_iload hx hb dX12_calls_126 (lv_at hl 2 rfl) ?_
          refine lv_iload hx hb dX12_calls_128 (lv_at hl 1 rfl) ?_
          refine q_callV X Y hl (cm_X12_ofProcesses h) mt_X12_ofProcesses mi_X12_ofProcesses ml_X12_583 (ci := 12) rfl k10_ (by decide) rfl rfl (by first | exact Nat.le_of_ble_eq_true rfl | simp [q_cat, q_catI, q_catJ, q_catR]) ⟨Nat.le_of_ble_eq_true rfl, Nat.le_of_ble_eq_true rfl⟩ ⟨Nat.le_of_ble_eq_true rfl, Nat.le_of_ble_eq_true rfl⟩ dX12_calls_130 (fun r41_ S42_ H locs hp Y => ?_)
          obtain ⟨x43_, rfl, h⟩ := hp
          refine W.eq (g2 := F0 m 133 ls [.int x43_]) rfl ?_
          refine lv_goto (tgt := 220) hx hb dX12_calls_133 (by decide) ?_
          exact cb_X12_calls_220 X Y (lv_sub hl [5, 7] rfl) h
      · replace h := h.2 c20_
        exact cb_X12_calls_73 X Y (lv_sub hl [5, 7, 3, 2] rfl) h
-- X12_execute
theorem ml_X12_580 : Cond.methodLink RX12 580 yX12_calls ∈ q_G := q_tb (i := 2377) (by decide +kernel) (by decide +kernel)
theorem mt_X12_calls : q_Mt yX12_calls cX12_calls 10 none 3 := ⟨q_tb (i := 2380) (by decide +kernel) (by decide +kernel), q_tb (i := 11) (by decide +kernel) (by decide +kernel), by decide +kernel, by decide +kernel, by decide +kernel⟩
theorem mi_X12_calls : Cond.instanceMethod yX12_calls ∈ q_G ∧ Cond.selects yX12_calls.cls yX12_calls yX12_calls ∈ q_G := ⟨q_tb (i := 2379) (by decide +kernel) (by decide +kernel), q_tp (i := 150) (q := (yX12_calls, 114)) (by decide +kernel) (by decide +kernel)⟩
theorem ml_X12_576 : Cond.methodLink RX12 576 yX12_reckoned ∈ q_G := q_tb (i := 2373) (by decide +kernel) (by decide +kernel)
theorem mt_X12_reckoned : q_Mt yX12_reckoned cX12_reckoned 5 (some .int) 4 := ⟨q_tb (i := 2376) (by decide +kernel) (by decide +kernel), q_tb (i := 11) (by decide +kernel) (by decide +kernel), by decide +kernel, by decide +kernel, by decide +kernel⟩
theorem mi_X12_reckoned : Cond.instanceMethod yX12_reckoned ∈ q_G ∧ Cond.selects yX12_reckoned.cls yX12_reckoned yX12_reckoned ∈ q_G := ⟨q_tb (i := 2375) (by decide +kernel) (by decide +kernel), q_tp (i := 149) (q := (yX12_reckoned, 114)) (by decide +kernel) (by decide +kernel)⟩
theorem ml_X12_573 : Cond.methodLink RX12 573 yX12_store ∈ q_G := q_tb (i := 2369) (by decide +kernel) (by decide +kernel)
theorem mt_X12_store : q_Mt yX12_store cX12_store 8 none 5 := ⟨q_tb (i := 2372) (by decide +kernel) (by decide +kernel), q_tb (i := 11) (by decide +kernel) (by decide +kernel), by decide +kernel, by decide +kernel, by decide +kernel⟩
theorem mi_X12_store : Cond.instanceMethod yX12_store ∈ q_G ∧ Cond.selects yX12_store.cls yX12_store yX12_store ∈ q_G := ⟨q_tb (i := 2371) (by decide +kernel) (by decide +kernel), q_tp (i := 148) (q := (yX12_store, 114)) (by decide +kernel) (by decide +kernel)⟩
theorem ml_X12_569 : Cond.methodLink RX12 569 yX12_load_ ∈ q_G := q_tb (i := 2365) (by decide +kernel) (by decide +kernel)
theorem mt_X12_load_ : q_Mt yX12_load_ cX12_load_ 8 none 5 := ⟨q_tb (i := 2368) (by decide +kernel) (by decide +kernel), q_tb (i := 11) (by decide +kernel) (by decide +kernel), by decide +kernel, by decide +kernel, by decide +kernel⟩
theorem mi_X12_load_ : Cond.instanceMethod yX12_load_ ∈ q_G ∧ Cond.selects yX12_load_.cls yX12_load_ yX12_load_ ∈ q_G := ⟨q_tb (i := 2367) (by decide +kernel) (by decide +kernel), q_tp (i := 147) (q := (yX12_load_, 114)) (by decide +kernel) (by decide +kernel)⟩
theorem dX12_execute_0 : decode cX12_execute 0 = .ok (.aload_n 0, 1) := by decide +kernel
theorem dX12_execute_1 : decode cX12_execute 1 = .ok (.getfield 152, 3) := by decide +kernel
theorem dX12_execute_4 : decode cX12_execute 4 = .ok (.iload_n 2, 1) := by decide +kernel
theorem dX12_execute_5 : decode cX12_execute 5 = .ok (.iaload, 1) := by decide +kernel
theorem dX12_execute_6 : decode cX12_execute 6 = .ok (.istore_n 3, 1) := by decide +kernel
theorem dX12_execute_7 : decode cX12_execute 7 = .ok (.iload_n 3, 1) := by decide +kernel
theorem dX12_execute_8 : decode cX12_execute 8 = .ok (.iconst 4, 1) := by decide +kernel
theorem dX12_execute_9 : decode cX12_execute 9 = .ok (.irem, 1) := by decide +kernel
theorem dX12_execute_10 : decode cX12_execute 10 = .ok (.ifCond .eq 11, 3) := by decide +kernel
theorem dX12_execute_13 : decode cX12_execute 13 = .ok (.aload_n 0, 1) := by decide +kernel
theorem dX12_execute_14 : decode cX12_execute 14 = .ok (.iload_n 2, 1) := by decide +kernel
theorem dX12_execute_15 : decode cX12_execute 15 = .ok (.iconst 4, 1) := by decide +kernel
theorem dX12_execute_16 : decode cX12_execute 16 = .ok (.iload_n 3, 1) := by decide +kernel
theorem dX12_execute_17 : decode cX12_execute 17 = .ok (.invokevirtual 521, 3) := by decide +kernel
theorem dX12_execute_20 : decode cX12_execute 20 = .ok (.return_, 1) := by decide +kernel
theorem dX12_execute_21 : decode cX12_execute 21 = .ok (.aload_n 0, 1) := by decide +kernel
theorem dX12_execute_22 : decode cX12_execute 22 = .ok (.iload_n 1, 1) := by decide +kernel
theorem dX12_execute_23 : decode cX12_execute 23 = .ok (.iload_n 3, 1) := by decide +kernel
theorem dX12_execute_24 : decode cX12_execute 24 = .ok (.iconst 4, 1) := by decide +kernel
theorem dX12_execute_25 : decode cX12_execute 25 = .ok (.invokevirtual 553, 3) := by decide +kernel
theorem dX12_execute_28 : decode cX12_execute 28 = .ok (.ifCond .eq 13, 3) := by decide +kernel
theorem dX12_execute_31 : decode cX12_execute 31 = .ok (.aload_n 0, 1) := by decide +kernel
theorem dX12_execute_32 : decode cX12_execute 32 = .ok (.iload_n 1, 1) := by decide +kernel
theorem dX12_execute_33 : decode cX12_execute 33 = .ok (.iload_n 3, 1) := by decide +kernel
theorem dX12_execute_34 : decode cX12_execute 34 = .ok (.iconst 0, 1) := by decide +kernel
theorem dX12_execute_35 : decode cX12_execute 35 = .ok (.invokevirtual 557, 3) := by decide +kernel
theorem dX12_execute_38 : decode cX12_execute 38 = .ok (.ifCond .ne 11, 3) := by decide +kernel
theorem dX12_execute_41 : decode cX12_execute 41 = .ok (.aload_n 0, 1) := by decide +kernel
theorem dX12_execute_42 : decode cX12_execute 42 = .ok (.iload_n 2, 1) := by decide +kernel
theorem dX12_execute_43 : decode cX12_execute 43 = .ok (.iconst 1, 1) := by decide +kernel
theorem dX12_execute_44 : decode cX12_execute 44 = .ok (.iload_n 3, 1) := by decide +kernel
theorem dX12_execute_45 : decode cX12_execute 45 = .ok (.invokevirtual 521, 3) := by decide +kernel
theorem dX12_execute_48 : decode cX12_execute 48 = .ok (.return_, 1) := by decide +kernel
theorem dX12_execute_49 : decode cX12_execute 49 = .ok (.aload_n 0, 1) := by decide +kernel
theorem dX12_execute_50 : decode cX12_execute 50 = .ok (.iload_n 1, 1) := by decide +kernel
theorem dX12_execute_51 : decode cX12_execute 51 = .ok (.iload_n 3, 1) := by decide +kernel
theorem dX12_execute_52 : decode cX12_execute 52 = .ok (.iconst 4, 1) := by decide +kernel
theorem dX12_execute_53 : decode cX12_execute 53 = .ok (.invokevirtual 560, 3) := by decide +kernel
theorem dX12_execute_56 : decode cX12_execute 56 = .ok (.istore 4, 2) := by decide +kernel
theorem dX12_execute_58 : decode cX12_execute 58 = .ok (.iload 4, 2) := by decide +kernel
theorem dX12_execute_60 : decode cX12_execute 60 = .ok (.bipush 7, 2) := by decide +kernel
theorem dX12_execute_62 : decode cX12_execute 62 = .ok (.ishr, 1) := by decide +kernel
theorem dX12_execute_63 : decode cX12_execute 63 = .ok (.bipush 31, 2) := by decide +kernel
theorem dX12_execute_65 : decode cX12_execute 65 = .ok (.iand, 1) := by decide +kernel
theorem dX12_execute_66 : decode cX12_execute 66 = .ok (.istore 5, 2) := by decide +kernel
theorem dX12_execute_68 : decode cX12_execute 68 = .ok (.iload 4, 2) := by decide +kernel
theorem dX12_execute_70 : decode cX12_execute 70 = .ok (.bipush 12, 2) := by decide +kernel
theorem dX12_execute_72 : decode cX12_execute 72 = .ok (.ishr, 1) := by decide +kernel
theorem dX12_execute_73 : decode cX12_execute 73 = .ok (.bipush 7, 2) := by decide +kernel
theorem dX12_execute_75 : decode cX12_execute 75 = .ok (.iand, 1) := by decide +kernel
theorem dX12_execute_76 : decode cX12_execute 76 = .ok (.istore 6, 2) := by decide +kernel
theorem dX12_execute_78 : decode cX12_execute 78 = .ok (.aload_n 0, 1) := by decide +kernel
theorem dX12_execute_79 : decode cX12_execute 79 = .ok (.getfield 179, 3) := by decide +kernel
theorem dX12_execute_82 : decode cX12_execute 82 = .ok (.bipush 32, 2) := by decide +kernel
theorem dX12_execute_84 : decode cX12_execute 84 = .ok (.iload_n 2, 1) := by decide +kernel
theorem dX12_execute_85 : decode cX12_execute 85 = .ok (.imul, 1) := by decide +kernel
theorem dX12_execute_86 : decode cX12_execute 86 = .ok (.iload 4, 2) := by decide +kernel
theorem dX12_execute_88 : decode cX12_execute 88 = .ok (.bipush 15, 2) := by decide +kernel
theorem dX12_execute_90 : decode cX12_execute 90 = .ok (.ishr, 1) := by decide +kernel
theorem dX12_execute_91 : decode cX12_execute 91 = .ok (.bipush 31, 2) := by decide +kernel
theorem dX12_execute_93 : decode cX12_execute 93 = .ok (.iand, 1) := by decide +kernel
theorem dX12_execute_94 : decode cX12_execute 94 = .ok (.iadd, 1) := by decide +kernel
theorem dX12_execute_95 : decode cX12_execute 95 = .ok (.iaload, 1) := by decide +kernel
theorem dX12_execute_96 : decode cX12_execute 96 = .ok (.istore 7, 2) := by decide +kernel
theorem dX12_execute_98 : decode cX12_execute 98 = .ok (.aload_n 0, 1) := by decide +kernel
theorem dX12_execute_99 : decode cX12_execute 99 = .ok (.getfield 179, 3) := by decide +kernel
theorem dX12_execute_102 : decode cX12_execute 102 = .ok (.bipush 32, 2) := by decide +kernel
theorem dX12_execute_104 : decode cX12_execute 104 = .ok (.iload_n 2, 1) := by decide +kernel
theorem dX12_execute_105 : decode cX12_execute 105 = .ok (.imul, 1) := by decide +kernel
theorem dX12_execute_106 : decode cX12_execute 106 = .ok (.iload 4, 2) := by decide +kernel
theorem dX12_execute_108 : decode cX12_execute 108 = .ok (.bipush 20, 2) := by decide +kernel
theorem dX12_execute_110 : decode cX12_execute 110 = .ok (.ishr, 1) := by decide +kernel
theorem dX12_execute_111 : decode cX12_execute 111 = .ok (.bipush 31, 2) := by decide +kernel
theorem dX12_execute_113 : decode cX12_execute 113 = .ok (.iand, 1) := by decide +kernel
theorem dX12_execute_114 : decode cX12_execute 114 = .ok (.iadd, 1) := by decide +kernel
theorem dX12_execute_115 : decode cX12_execute 115 = .ok (.iaload, 1) := by decide +kernel
theorem dX12_execute_116 : decode cX12_execute 116 = .ok (.istore 8, 2) := by decide +kernel
theorem dX12_execute_118 : decode cX12_execute 118 = .ok (.iload 4, 2) := by decide +kernel
theorem dX12_execute_120 : decode cX12_execute 120 = .ok (.bipush 25, 2) := by decide +kernel
theorem dX12_execute_122 : decode cX12_execute 122 = .ok (.iushr, 1) := by decide +kernel
theorem dX12_execute_123 : decode cX12_execute 123 = .ok (.istore 9, 2) := by decide +kernel
theorem dX12_execute_125 : decode cX12_execute 125 = .ok (.iload 4, 2) := by decide +kernel
theorem dX12_execute_127 : decode cX12_execute 127 = .ok (.bipush 20, 2) := by decide +kernel
theorem dX12_execute_129 : decode cX12_execute 129 = .ok (.ishr, 1) := by decide +kernel
theorem dX12_execute_130 : decode cX12_execute 130 = .ok (.istore 10, 2) := by decide +kernel
theorem dX12_execute_132 : decode cX12_execute 132 = .ok (.iload 4, 2) := by decide +kernel
theorem dX12_execute_134 : decode cX12_execute 134 = .ok (.bipush 127, 2) := by decide +kernel
theorem dX12_execute_136 : decode cX12_execute 136 = .ok (.iand, 1) := by decide +kernel
theorem dX12_execute_137 : decode cX12_execute 137 = .ok (.lookupswitch 674 #[(3, 428), (19, 514), (23, 99), (35, 467), (51, 590), (55, 83), (99, 223), (103, 184), (111, 117)], 83) := by decide +kernel
theorem dX12_execute_220 : decode cX12_execute 220 = .ok (.aload_n 0, 1) := by decide +kernel
theorem dX12_execute_221 : decode cX12_execute 221 = .ok (.iload_n 2, 1) := by decide +kernel
theorem dX12_execute_222 : decode cX12_execute 222 = .ok (.iload 5, 2) := by decide +kernel
theorem dX12_execute_224 : decode cX12_execute 224 = .ok (.iload 4, 2) := by decide +kernel
theorem dX12_execute_226 : decode cX12_execute 226 = .ok (.sipush (-4096), 3) := by decide +kernel
theorem dX12_execute_229 : decode cX12_execute 229 = .ok (.iand, 1) := by decide +kernel
theorem dX12_execute_230 : decode cX12_execute 230 = .ok (.invokevirtual 563, 3) := by decide +kernel
theorem dX12_execute_233 : decode cX12_execute 233 = .ok (.goto 604, 3) := by decide +kernel
theorem dX12_execute_236 : decode cX12_execute 236 = .ok (.aload_n 0, 1) := by decide +kernel
theorem dX12_execute_237 : decode cX12_execute 237 = .ok (.iload_n 2, 1) := by decide +kernel
theorem dX12_execute_238 : decode cX12_execute 238 = .ok (.iload 5, 2) := by decide +kernel
theorem dX12_execute_240 : decode cX12_execute 240 = .ok (.iload_n 3, 1) := by decide +kernel
theorem dX12_execute_241 : decode cX12_execute 241 = .ok (.iload 4, 2) := by decide +kernel
theorem dX12_execute_243 : decode cX12_execute 243 = .ok (.sipush (-4096), 3) := by decide +kernel
theorem dX12_execute_246 : decode cX12_execute 246 = .ok (.iand, 1) := by decide +kernel
theorem dX12_execute_247 : decode cX12_execute 247 = .ok (.iadd, 1) := by decide +kernel
theorem dX12_execute_248 : decode cX12_execute 248 = .ok (.invokevirtual 563, 3) := by decide +kernel
theorem dX12_execute_251 : decode cX12_execute 251 = .ok (.goto 586, 3) := by decide +kernel
theorem dX12_execute_254 : decode cX12_execute 254 = .ok (.iload 4, 2) := by decide +kernel
theorem dX12_execute_256 : decode cX12_execute 256 = .ok (.bipush 31, 2) := by decide +kernel
theorem dX12_execute_258 : decode cX12_execute 258 = .ok (.ishr, 1) := by decide +kernel
theorem dX12_execute_259 : decode cX12_execute 259 = .ok (.bipush 20, 2) := by decide +kernel
theorem dX12_execute_261 : decode cX12_execute 261 = .ok (.ishl, 1) := by decide +kernel
theorem dX12_execute_262 : decode cX12_execute 262 = .ok (.iload 4, 2) := by decide +kernel
theorem dX12_execute_264 : decode cX12_execute 264 = .ok (.bipush 12, 2) := by decide +kernel
theorem dX12_execute_266 : decode cX12_execute 266 = .ok (.ishr, 1) := by decide +kernel
theorem dX12_execute_267 : decode cX12_execute 267 = .ok (.sipush 255, 3) := by decide +kernel
theorem dX12_execute_270 : decode cX12_execute 270 = .ok (.iand, 1) := by decide +kernel
theorem dX12_execute_271 : decode cX12_execute 271 = .ok (.bipush 12, 2) := by decide +kernel
theorem dX12_execute_273 : decode cX12_execute 273 = .ok (.ishl, 1) := by decide +kernel
theorem dX12_execute_274 : decode cX12_execute 274 = .ok (.ior, 1) := by decide +kernel
theorem dX12_execute_275 : decode cX12_execute 275 = .ok (.iload 4, 2) := by decide +kernel
theorem dX12_execute_277 : decode cX12_execute 277 = .ok (.bipush 20, 2) := by decide +kernel
theorem dX12_execute_279 : decode cX12_execute 279 = .ok (.ishr, 1) := by decide +kernel
theorem dX12_execute_280 : decode cX12_execute 280 = .ok (.iconst 1, 1) := by decide +kernel
theorem dX12_execute_281 : decode cX12_execute 281 = .ok (.iand, 1) := by decide +kernel
theorem dX12_execute_282 : decode cX12_execute 282 = .ok (.bipush 11, 2) := by decide +kernel
theorem dX12_execute_284 : decode cX12_execute 284 = .ok (.ishl, 1) := by decide +kernel
theorem dX12_execute_285 : decode cX12_execute 285 = .ok (.ior, 1) := by decide +kernel
theorem dX12_execute_286 : decode cX12_execute 286 = .ok (.iload 4, 2) := by decide +kernel
theorem dX12_execute_288 : decode cX12_execute 288 = .ok (.bipush 21, 2) := by decide +kernel
theorem dX12_execute_290 : decode cX12_execute 290 = .ok (.ishr, 1) := by decide +kernel
theorem dX12_execute_291 : decode cX12_execute 291 = .ok (.sipush 1023, 3) := by decide +kernel
theorem dX12_execute_294 : decode cX12_execute 294 = .ok (.iand, 1) := by decide +kernel
theorem dX12_execute_295 : decode cX12_execute 295 = .ok (.iconst 1, 1) := by decide +kernel
theorem dX12_execute_296 : decode cX12_execute 296 = .ok (.ishl, 1) := by decide +kernel
theorem dX12_execute_297 : decode cX12_execute 297 = .ok (.ior, 1) := by decide +kernel
theorem dX12_execute_298 : decode cX12_execute 298 = .ok (.istore 11, 2) := by decide +kernel
theorem dX12_execute_300 : decode cX12_execute 300 = .ok (.aload_n 0, 1) := by decide +kernel
theorem dX12_execute_301 : decode cX12_execute 301 = .ok (.iload_n 2, 1) := by decide +kernel
theorem dX12_execute_302 : decode cX12_execute 302 = .ok (.iload 5, 2) := by decide +kernel
theorem dX12_execute_304 : decode cX12_execute 304 = .ok (.iload_n 3, 1) := by decide +kernel
theorem dX12_execute_305 : decode cX12_execute 305 = .ok (.iconst 4, 1) := by decide +kernel
theorem dX12_execute_306 : decode cX12_execute 306 = .ok (.iadd, 1) := by decide +kernel
theorem dX12_execute_307 : decode cX12_execute 307 = .ok (.invokevirtual 563, 3) := by decide +kernel
theorem dX12_execute_310 : decode cX12_execute 310 = .ok (.aload_n 0, 1) := by decide +kernel
theorem dX12_execute_311 : decode cX12_execute 311 = .ok (.getfield 152, 3) := by decide +kernel
theorem dX12_execute_314 : decode cX12_execute 314 = .ok (.iload_n 2, 1) := by decide +kernel
theorem dX12_execute_315 : decode cX12_execute 315 = .ok (.iload_n 3, 1) := by decide +kernel
theorem dX12_execute_316 : decode cX12_execute 316 = .ok (.iload 11, 2) := by decide +kernel
theorem dX12_execute_318 : decode cX12_execute 318 = .ok (.iadd, 1) := by decide +kernel
theorem dX12_execute_319 : decode cX12_execute 319 = .ok (.iastore, 1) := by decide +kernel
theorem dX12_execute_320 : decode cX12_execute 320 = .ok (.return_, 1) := by decide +kernel
theorem dX12_execute_321 : decode cX12_execute 321 = .ok (.iload 6, 2) := by decide +kernel
theorem dX12_execute_323 : decode cX12_execute 323 = .ok (.ifCond .eq 12, 3) := by decide +kernel
theorem dX12_execute_326 : decode cX12_execute 326 = .ok (.aload_n 0, 1) := by decide +kernel
theorem dX12_execute_327 : decode cX12_execute 327 = .ok (.iload_n 2, 1) := by decide +kernel
theorem dX12_execute_328 : decode cX12_execute 328 = .ok (.iconst 0, 1) := by decide +kernel
theorem dX12_execute_329 : decode cX12_execute 329 = .ok (.iload 4, 2) := by decide +kernel
theorem dX12_execute_331 : decode cX12_execute 331 = .ok (.invokevirtual 521, 3) := by decide +kernel
theorem dX12_execute_334 : decode cX12_execute 334 = .ok (.return_, 1) := by decide +kernel
theorem dX12_execute_335 : decode cX12_execute 335 = .ok (.aload_n 0, 1) := by decide +kernel
theorem dX12_execute_336 : decode cX12_execute 336 = .ok (.iload_n 2, 1) := by decide +kernel
theorem dX12_execute_337 : decode cX12_execute 337 = .ok (.iload 5, 2) := by decide +kernel
theorem dX12_execute_339 : decode cX12_execute 339 = .ok (.iload_n 3, 1) := by decide +kernel
theorem dX12_execute_340 : decode cX12_execute 340 = .ok (.iconst 4, 1) := by decide +kernel
theorem dX12_execute_341 : decode cX12_execute 341 = .ok (.iadd, 1) := by decide +kernel
theorem dX12_execute_342 : decode cX12_execute 342 = .ok (.invokevirtual 563, 3) := by decide +kernel
theorem dX12_execute_345 : decode cX12_execute 345 = .ok (.aload_n 0, 1) := by decide +kernel
theorem dX12_execute_346 : decode cX12_execute 346 = .ok (.getfield 152, 3) := by decide +kernel
theorem dX12_execute_349 : decode cX12_execute 349 = .ok (.iload_n 2, 1) := by decide +kernel
theorem dX12_execute_350 : decode cX12_execute 350 = .ok (.iload 7, 2) := by decide +kernel
theorem dX12_execute_352 : decode cX12_execute 352 = .ok (.iload 10, 2) := by decide +kernel
theorem dX12_execute_354 : decode cX12_execute 354 = .ok (.iadd, 1) := by decide +kernel
theorem dX12_execute_355 : decode cX12_execute 355 = .ok (.bipush (-2), 2) := by decide +kernel
theorem dX12_execute_357 : decode cX12_execute 357 = .ok (.iand, 1) := by decide +kernel
theorem dX12_execute_358 : decode cX12_execute 358 = .ok (.iastore, 1) := by decide +kernel
theorem dX12_execute_359 : decode cX12_execute 359 = .ok (.return_, 1) := by decide +kernel
theorem dX12_execute_360 : decode cX12_execute 360 = .ok (.iload 6, 2) := by decide +kernel
theorem dX12_execute_362 : decode cX12_execute 362 = .ok (.iconst 2, 1) := by decide +kernel
theorem dX12_execute_363 : decode cX12_execute 363 = .ok (.if_icmp .eq 9, 3) := by decide +kernel
theorem dX12_execute_366 : decode cX12_execute 366 = .ok (.iload 6, 2) := by decide +kernel
theorem dX12_execute_368 : decode cX12_execute 368 = .ok (.iconst 3, 1) := by decide +kernel
theorem dX12_execute_369 : decode cX12_execute 369 = .ok (.if_icmp .ne 12, 3) := by decide +kernel
theorem dX12_execute_372 : decode cX12_execute 372 = .ok (.aload_n 0, 1) := by decide +kernel
theorem dX12_execute_373 : decode cX12_execute 373 = .ok (.iload_n 2, 1) := by decide +kernel
theorem dX12_execute_374 : decode cX12_execute 374 = .ok (.iconst 0, 1) := by decide +kernel
theorem dX12_execute_375 : decode cX12_execute 375 = .ok (.iload 4, 2) := by decide +kernel
theorem dX12_execute_377 : decode cX12_execute 377 = .ok (.invokevirtual 521, 3) := by decide +kernel
theorem dX12_execute_380 : decode cX12_execute 380 = .ok (.return_, 1) := by decide +kernel
theorem dX12_execute_381 : decode cX12_execute 381 = .ok (.iload 6, 2) := by decide +kernel
theorem dX12_execute_383 : decode cX12_execute 383 = .ok (.ifCond .ne 18, 3) := by decide +kernel
theorem dX12_execute_386 : decode cX12_execute 386 = .ok (.iload 7, 2) := by decide +kernel
theorem dX12_execute_388 : decode cX12_execute 388 = .ok (.iload 8, 2) := by decide +kernel
theorem dX12_execute_390 : decode cX12_execute 390 = .ok (.if_icmp .ne 7, 3) := by decide +kernel
theorem dX12_execute_393 : decode cX12_execute 393 = .ok (.iconst 1, 1) := by decide +kernel
theorem dX12_execute_394 : decode cX12_execute 394 = .ok (.goto 104, 3) := by decide +kernel
theorem dX12_execute_397 : decode cX12_execute 397 = .ok (.iconst 0, 1) := by decide +kernel
theorem dX12_execute_398 : decode cX12_execute 398 = .ok (.goto 100, 3) := by decide +kernel
theorem dX12_execute_401 : decode cX12_execute 401 = .ok (.iload 6, 2) := by decide +kernel
theorem dX12_execute_403 : decode cX12_execute 403 = .ok (.iconst 1, 1) := by decide +kernel
theorem dX12_execute_404 : decode cX12_execute 404 = .ok (.if_icmp .ne 18, 3) := by decide +kernel
theorem dX12_execute_407 : decode cX12_execute 407 = .ok (.iload 7, 2) := by decide +kernel
theorem dX12_execute_409 : decode cX12_execute 409 = .ok (.iload 8, 2) := by decide +kernel
theorem dX12_execute_411 : decode cX12_execute 411 = .ok (.if_icmp .eq 7, 3) := by decide +kernel
theorem dX12_execute_414 : decode cX12_execute 414 = .ok (.iconst 1, 1) := by decide +kernel
theorem dX12_execute_415 : decode cX12_execute 415 = .ok (.goto 83, 3) := by decide +kernel
theorem dX12_execute_418 : decode cX12_execute 418 = .ok (.iconst 0, 1) := by decide +kernel
theorem dX12_execute_419 : decode cX12_execute 419 = .ok (.goto 79, 3) := by decide +kernel
theorem dX12_execute_422 : decode cX12_execute 422 = .ok (.iload 6, 2) := by decide +kernel
theorem dX12_execute_424 : decode cX12_execute 424 = .ok (.iconst 4, 1) := by decide +kernel
theorem dX12_execute_425 : decode cX12_execute 425 = .ok (.if_icmp .ne 18, 3) := by decide +kernel
theorem dX12_execute_428 : decode cX12_execute 428 = .ok (.iload 7, 2) := by decide +kernel
theorem dX12_execute_430 : decode cX12_execute 430 = .ok (.iload 8, 2) := by decide +kernel
theorem dX12_execute_432 : decode cX12_execute 432 = .ok (.if_icmp .ge 7, 3) := by decide +kernel
theorem dX12_execute_435 : decode cX12_execute 435 = .ok (.iconst 1, 1) := by decide +kernel
theorem dX12_execute_436 : decode cX12_execute 436 = .ok (.goto 62, 3) := by decide +kernel
theorem dX12_execute_439 : decode cX12_execute 439 = .ok (.iconst 0, 1) := by decide +kernel
theorem dX12_execute_440 : decode cX12_execute 440 = .ok (.goto 58, 3) := by decide +kernel
theorem dX12_execute_443 : decode cX12_execute 443 = .ok (.iload 6, 2) := by decide +kernel
theorem dX12_execute_445 : decode cX12_execute 445 = .ok (.iconst 5, 1) := by decide +kernel
theorem dX12_execute_446 : decode cX12_execute 446 = .ok (.if_icmp .ne 18, 3) := by decide +kernel
theorem dX12_execute_449 : decode cX12_execute 449 = .ok (.iload 7, 2) := by decide +kernel
theorem dX12_execute_451 : decode cX12_execute 451 = .ok (.iload 8, 2) := by decide +kernel
theorem dX12_execute_453 : decode cX12_execute 453 = .ok (.if_icmp .lt 7, 3) := by decide +kernel
theorem dX12_execute_456 : decode cX12_execute 456 = .ok (.iconst 1, 1) := by decide +kernel
theorem dX12_execute_457 : decode cX12_execute 457 = .ok (.goto 41, 3) := by decide +kernel
theorem dX12_execute_460 : decode cX12_execute 460 = .ok (.iconst 0, 1) := by decide +kernel
theorem dX12_execute_461 : decode cX12_execute 461 = .ok (.goto 37, 3) := by decide +kernel
theorem dX12_execute_464 : decode cX12_execute 464 = .ok (.iload 6, 2) := by decide +kernel
theorem dX12_execute_466 : decode cX12_execute 466 = .ok (.bipush 6, 2) := by decide +kernel
theorem dX12_execute_468 : decode cX12_execute 468 = .ok (.if_icmp .ne 14, 3) := by decide +kernel
theorem dX12_execute_471 : decode cX12_execute 471 = .ok (.aload_n 0, 1) := by decide +kernel
theorem dX12_execute_472 : decode cX12_execute 472 = .ok (.iload 7, 2) := by decide +kernel
theorem dX12_execute_474 : decode cX12_execute 474 = .ok (.iload 8, 2) := by decide +kernel
theorem dX12_execute_476 : decode cX12_execute 476 = .ok (.invokevirtual 566, 3) := by decide +kernel
theorem dX12_execute_479 : decode cX12_execute 479 = .ok (.goto 19, 3) := by decide +kernel
theorem dX12_execute_482 : decode cX12_execute 482 = .ok (.aload_n 0, 1) := by decide +kernel
theorem dX12_execute_483 : decode cX12_execute 483 = .ok (.iload 7, 2) := by decide +kernel
theorem dX12_execute_485 : decode cX12_execute 485 = .ok (.iload 8, 2) := by decide +kernel
theorem dX12_execute_487 : decode cX12_execute 487 = .ok (.invokevirtual 566, 3) := by decide +kernel
theorem dX12_execute_490 : decode cX12_execute 490 = .ok (.ifCond .ne 7, 3) := by decide +kernel
theorem dX12_execute_493 : decode cX12_execute 493 = .ok (.iconst 1, 1) := by decide +kernel
theorem dX12_execute_494 : decode cX12_execute 494 = .ok (.goto 4, 3) := by decide +kernel
theorem dX12_execute_497 : decode cX12_execute 497 = .ok (.iconst 0, 1) := by decide +kernel
theorem dX12_execute_498 : decode cX12_execute 498 = .ok (.istore 12, 2) := by decide +kernel
theorem dX12_execute_500 : decode cX12_execute 500 = .ok (.iload 4, 2) := by decide +kernel
theorem dX12_execute_502 : decode cX12_execute 502 = .ok (.bipush 31, 2) := by decide +kernel
theorem dX12_execute_504 : decode cX12_execute 504 = .ok (.ishr, 1) := by decide +kernel
theorem dX12_execute_505 : decode cX12_execute 505 = .ok (.bipush 12, 2) := by decide +kernel
theorem dX12_execute_507 : decode cX12_execute 507 = .ok (.ishl, 1) := by decide +kernel
theorem dX12_execute_508 : decode cX12_execute 508 = .ok (.iload 4, 2) := by decide +kernel
theorem dX12_execute_510 : decode cX12_execute 510 = .ok (.bipush 7, 2) := by decide +kernel
theorem dX12_execute_512 : decode cX12_execute 512 = .ok (.ishr, 1) := by decide +kernel
theorem dX12_execute_513 : decode cX12_execute 513 = .ok (.iconst 1, 1) := by decide +kernel
theorem dX12_execute_514 : decode cX12_execute 514 = .ok (.iand, 1) := by decide +kernel
theorem dX12_execute_515 : decode cX12_execute 515 = .ok (.bipush 11, 2) := by decide +kernel
theorem dX12_execute_517 : decode cX12_execute 517 = .ok (.ishl, 1) := by decide +kernel
theorem dX12_execute_518 : decode cX12_execute 518 = .ok (.ior, 1) := by decide +kernel
theorem dX12_execute_519 : decode cX12_execute 519 = .ok (.iload 4, 2) := by decide +kernel
theorem dX12_execute_521 : decode cX12_execute 521 = .ok (.bipush 25, 2) := by decide +kernel
theorem dX12_execute_523 : decode cX12_execute 523 = .ok (.ishr, 1) := by decide +kernel
theorem dX12_execute_524 : decode cX12_execute 524 = .ok (.bipush 63, 2) := by decide +kernel
theorem dX12_execute_526 : decode cX12_execute 526 = .ok (.iand, 1) := by decide +kernel
theorem dX12_execute_527 : decode cX12_execute 527 = .ok (.iconst 5, 1) := by decide +kernel
theorem dX12_execute_528 : decode cX12_execute 528 = .ok (.ishl, 1) := by decide +kernel
theorem dX12_execute_529 : decode cX12_execute 529 = .ok (.ior, 1) := by decide +kernel
theorem dX12_execute_530 : decode cX12_execute 530 = .ok (.iload 4, 2) := by decide +kernel
theorem dX12_execute_532 : decode cX12_execute 532 = .ok (.bipush 8, 2) := by decide +kernel
theorem dX12_execute_534 : decode cX12_execute 534 = .ok (.ishr, 1) := by decide +kernel
theorem dX12_execute_535 : decode cX12_execute 535 = .ok (.bipush 15, 2) := by decide +kernel
theorem dX12_execute_537 : decode cX12_execute 537 = .ok (.iand, 1) := by decide +kernel
theorem dX12_execute_538 : decode cX12_execute 538 = .ok (.iconst 1, 1) := by decide +kernel
theorem dX12_execute_539 : decode cX12_execute 539 = .ok (.ishl, 1) := by decide +kernel
theorem dX12_execute_540 : decode cX12_execute 540 = .ok (.ior, 1) := by decide +kernel
theorem dX12_execute_541 : decode cX12_execute 541 = .ok (.istore 13, 2) := by decide +kernel
theorem dX12_execute_543 : decode cX12_execute 543 = .ok (.aload_n 0, 1) := by decide +kernel
theorem dX12_execute_544 : decode cX12_execute 544 = .ok (.getfield 152, 3) := by decide +kernel
theorem dX12_execute_547 : decode cX12_execute 547 = .ok (.iload_n 2, 1) := by decide +kernel
theorem dX12_execute_548 : decode cX12_execute 548 = .ok (.iload 12, 2) := by decide +kernel
theorem dX12_execute_550 : decode cX12_execute 550 = .ok (.ifCond .eq 10, 3) := by decide +kernel
theorem dX12_execute_553 : decode cX12_execute 553 = .ok (.iload_n 3, 1) := by decide +kernel
theorem dX12_execute_554 : decode cX12_execute 554 = .ok (.iload 13, 2) := by decide +kernel
theorem dX12_execute_556 : decode cX12_execute 556 = .ok (.iadd, 1) := by decide +kernel
theorem dX12_execute_557 : decode cX12_execute 557 = .ok (.goto 6, 3) := by decide +kernel
theorem dX12_execute_560 : decode cX12_execute 560 = .ok (.iload_n 3, 1) := by decide +kernel
theorem dX12_execute_561 : decode cX12_execute 561 = .ok (.iconst 4, 1) := by decide +kernel
theorem dX12_execute_562 : decode cX12_execute 562 = .ok (.iadd, 1) := by decide +kernel
theorem dX12_execute_563 : decode cX12_execute 563 = .ok (.iastore, 1) := by decide +kernel
theorem dX12_execute_564 : decode cX12_execute 564 = .ok (.return_, 1) := by decide +kernel
theorem dX12_execute_565 : decode cX12_execute 565 = .ok (.iload 6, 2) := by decide +kernel
theorem dX12_execute_567 : decode cX12_execute 567 = .ok (.iconst 3, 1) := by decide +kernel
theorem dX12_execute_568 : decode cX12_execute 568 = .ok (.if_icmp .eq 9, 3) := by decide +kernel
theorem dX12_execute_571 : decode cX12_execute 571 = .ok (.iload 6, 2) := by decide +kernel
theorem dX12_execute_573 : decode cX12_execute 573 = .ok (.iconst 5, 1) := by decide +kernel
theorem dX12_execute_574 : decode cX12_execute 574 = .ok (.if_icmp .le 14, 3) := by decide +kernel
theorem dX12_execute_577 : decode cX12_execute 577 = .ok (.aload_n 0, 1) := by decide +kernel
theorem dX12_execute_578 : decode cX12_execute 578 = .ok (.iload_n 2, 1) := by decide +kernel
theorem dX12_execute_579 : decode cX12_execute 579 = .ok (.iconst 0, 1) := by decide +kernel
theorem dX12_execute_580 : decode cX12_execute 580 = .ok (.iload 4, 2) := by decide +kernel
theorem dX12_execute_582 : decode cX12_execute 582 = .ok (.invokevirtual 521, 3) := by decide +kernel
theorem dX12_execute_585 : decode cX12_execute 585 = .ok (.goto 18, 3) := by decide +kernel
theorem dX12_execute_588 : decode cX12_execute 588 = .ok (.aload_n 0, 1) := by decide +kernel
theorem dX12_execute_589 : decode cX12_execute 589 = .ok (.iload_n 1, 1) := by decide +kernel
theorem dX12_execute_590 : decode cX12_execute 590 = .ok (.iload_n 2, 1) := by decide +kernel
theorem dX12_execute_591 : decode cX12_execute 591 = .ok (.iload 5, 2) := by decide +kernel
theorem dX12_execute_593 : decode cX12_execute 593 = .ok (.iload 6, 2) := by decide +kernel
theorem dX12_execute_595 : decode cX12_execute 595 = .ok (.iload 7, 2) := by decide +kernel
theorem dX12_execute_597 : decode cX12_execute 597 = .ok (.iload 10, 2) := by decide +kernel
theorem dX12_execute_599 : decode cX12_execute 599 = .ok (.iadd, 1) := by decide +kernel
theorem dX12_execute_600 : decode cX12_execute 600 = .ok (.invokevirtual 569, 3) := by decide +kernel
theorem dX12_execute_603 : decode cX12_execute 603 = .ok (.return_, 1) := by decide +kernel
theorem dX12_execute_604 : decode cX12_execute 604 = .ok (.iload 6, 2) := by decide +kernel
theorem dX12_execute_606 : decode cX12_execute 606 = .ok (.iconst 2, 1) := by decide +kernel
theorem dX12_execute_607 : decode cX12_execute 607 = .ok (.if_icmp .le 14, 3) := by decide +kernel
theorem dX12_execute_610 : decode cX12_execute 610 = .ok (.aload_n 0, 1) := by decide +kernel
theorem dX12_execute_611 : decode cX12_execute 611 = .ok (.iload_n 2, 1) := by decide +kernel
theorem dX12_execute_612 : decode cX12_execute 612 = .ok (.iconst 0, 1) := by decide +kernel
theorem dX12_execute_613 : decode cX12_execute 613 = .ok (.iload 4, 2) := by decide +kernel
theorem dX12_execute_615 : decode cX12_execute 615 = .ok (.invokevirtual 521, 3) := by decide +kernel
theorem dX12_execute_618 : decode cX12_execute 618 = .ok (.goto 32, 3) := by decide +kernel
theorem dX12_execute_621 : decode cX12_execute 621 = .ok (.aload_n 0, 1) := by decide +kernel
theorem dX12_execute_622 : decode cX12_execute 622 = .ok (.iload_n 1, 1) := by decide +kernel
theorem dX12_execute_623 : decode cX12_execute 623 = .ok (.iload_n 2, 1) := by decide +kernel
theorem dX12_execute_624 : decode cX12_execute 624 = .ok (.iload 6, 2) := by decide +kernel
theorem dX12_execute_626 : decode cX12_execute 626 = .ok (.iload 7, 2) := by decide +kernel
theorem dX12_execute_628 : decode cX12_execute 628 = .ok (.iload 4, 2) := by decide +kernel
theorem dX12_execute_630 : decode cX12_execute 630 = .ok (.bipush 25, 2) := by decide +kernel
theorem dX12_execute_632 : decode cX12_execute 632 = .ok (.ishr, 1) := by decide +kernel
theorem dX12_execute_633 : decode cX12_execute 633 = .ok (.iconst 5, 1) := by decide +kernel
theorem dX12_execute_634 : decode cX12_execute 634 = .ok (.ishl, 1) := by decide +kernel
theorem dX12_execute_635 : decode cX12_execute 635 = .ok (.iload 4, 2) := by decide +kernel
theorem dX12_execute_637 : decode cX12_execute 637 = .ok (.bipush 7, 2) := by decide +kernel
theorem dX12_execute_639 : decode cX12_execute 639 = .ok (.ishr, 1) := by decide +kernel
theorem dX12_execute_640 : decode cX12_execute 640 = .ok (.bipush 31, 2) := by decide +kernel
theorem dX12_execute_642 : decode cX12_execute 642 = .ok (.iand, 1) := by decide +kernel
theorem dX12_execute_643 : decode cX12_execute 643 = .ok (.ior, 1) := by decide +kernel
theorem dX12_execute_644 : decode cX12_execute 644 = .ok (.iadd, 1) := by decide +kernel
theorem dX12_execute_645 : decode cX12_execute 645 = .ok (.iload 8, 2) := by decide +kernel
theorem dX12_execute_647 : decode cX12_execute 647 = .ok (.invokevirtual 573, 3) := by decide +kernel
theorem dX12_execute_650 : decode cX12_execute 650 = .ok (.return_, 1) := by decide +kernel
theorem dX12_execute_651 : decode cX12_execute 651 = .ok (.iload 6, 2) := by decide +kernel
theorem dX12_execute_653 : decode cX12_execute 653 = .ok (.iconst 1, 1) := by decide +kernel
theorem dX12_execute_654 : decode cX12_execute 654 = .ok (.if_icmp .ne 8, 3) := by decide +kernel
theorem dX12_execute_657 : decode cX12_execute 657 = .ok (.iload 9, 2) := by decide +kernel
theorem dX12_execute_659 : decode cX12_execute 659 = .ok (.ifCond .ne 21, 3) := by decide +kernel
theorem dX12_execute_662 : decode cX12_execute 662 = .ok (.iload 6, 2) := by decide +kernel
theorem dX12_execute_664 : decode cX12_execute 664 = .ok (.iconst 5, 1) := by decide +kernel
theorem dX12_execute_665 : decode cX12_execute 665 = .ok (.if_icmp .ne 24, 3) := by decide +kernel
theorem dX12_execute_668 : decode cX12_execute 668 = .ok (.iload 9, 2) := by decide +kernel
theorem dX12_execute_670 : decode cX12_execute 670 = .ok (.ifCond .eq 19, 3) := by decide +kernel
theorem dX12_execute_673 : decode cX12_execute 673 = .ok (.iload 9, 2) := by decide +kernel
theorem dX12_execute_675 : decode cX12_execute 675 = .ok (.bipush 32, 2) := by decide +kernel
theorem dX12_execute_677 : decode cX12_execute 677 = .ok (.if_icmp .eq 12, 3) := by decide +kernel
theorem dX12_execute_680 : decode cX12_execute 680 = .ok (.aload_n 0, 1) := by decide +kernel
theorem dX12_execute_681 : decode cX12_execute 681 = .ok (.iload_n 2, 1) := by decide +kernel
theorem dX12_execute_682 : decode cX12_execute 682 = .ok (.iconst 0, 1) := by decide +kernel
theorem dX12_execute_683 : decode cX12_execute 683 = .ok (.iload 4, 2) := by decide +kernel
theorem dX12_execute_685 : decode cX12_execute 685 = .ok (.invokevirtual 521, 3) := by decide +kernel
theorem dX12_execute_688 : decode cX12_execute 688 = .ok (.return_, 1) := by decide +kernel
theorem dX12_execute_689 : decode cX12_execute 689 = .ok (.aload_n 0, 1) := by decide +kernel
theorem dX12_execute_690 : decode cX12_execute 690 = .ok (.iload_n 2, 1) := by decide +kernel
theorem dX12_execute_691 : decode cX12_execute 691 = .ok (.iload 5, 2) := by decide +kernel
theorem dX12_execute_693 : decode cX12_execute 693 = .ok (.aload_n 0, 1) := by decide +kernel
theorem dX12_execute_694 : decode cX12_execute 694 = .ok (.iload 6, 2) := by decide +kernel
theorem dX12_execute_696 : decode cX12_execute 696 = .ok (.iload 7, 2) := by decide +kernel
theorem dX12_execute_698 : decode cX12_execute 698 = .ok (.iload 10, 2) := by decide +kernel
theorem dX12_execute_700 : decode cX12_execute 700 = .ok (.iload 6, 2) := by decide +kernel
theorem dX12_execute_702 : decode cX12_execute 702 = .ok (.iconst 5, 1) := by decide +kernel
theorem dX12_execute_703 : decode cX12_execute 703 = .ok (.if_icmp .ne 14, 3) := by decide +kernel
theorem dX12_execute_706 : decode cX12_execute 706 = .ok (.iload 9, 2) := by decide +kernel
theorem dX12_execute_708 : decode cX12_execute 708 = .ok (.bipush 32, 2) := by decide +kernel
theorem dX12_execute_710 : decode cX12_execute 710 = .ok (.if_icmp .ne 7, 3) := by decide +kernel
theorem dX12_execute_713 : decode cX12_execute 713 = .ok (.iconst 1, 1) := by decide +kernel
theorem dX12_execute_714 : decode cX12_execute 714 = .ok (.goto 4, 3) := by decide +kernel
theorem dX12_execute_717 : decode cX12_execute 717 = .ok (.iconst 0, 1) := by decide +kernel
theorem dX12_execute_718 : decode cX12_execute 718 = .ok (.invokevirtual 576, 3) := by decide +kernel
theorem dX12_execute_721 : decode cX12_execute 721 = .ok (.invokevirtual 563, 3) := by decide +kernel
theorem dX12_execute_724 : decode cX12_execute 724 = .ok (.goto 113, 3) := by decide +kernel
theorem dX12_execute_727 : decode cX12_execute 727 = .ok (.iload 9, 2) := by decide +kernel
theorem dX12_execute_729 : decode cX12_execute 729 = .ok (.ifCond .eq 30, 3) := by decide +kernel
theorem dX12_execute_732 : decode cX12_execute 732 = .ok (.iload 9, 2) := by decide +kernel
theorem dX12_execute_734 : decode cX12_execute 734 = .ok (.bipush 32, 2) := by decide +kernel
theorem dX12_execute_736 : decode cX12_execute 736 = .ok (.if_icmp .ne 14, 3) := by decide +kernel
theorem dX12_execute_739 : decode cX12_execute 739 = .ok (.iload 6, 2) := by decide +kernel
theorem dX12_execute_741 : decode cX12_execute 741 = .ok (.ifCond .eq 18, 3) := by decide +kernel
theorem dX12_execute_744 : decode cX12_execute 744 = .ok (.iload 6, 2) := by decide +kernel
theorem dX12_execute_746 : decode cX12_execute 746 = .ok (.iconst 5, 1) := by decide +kernel
theorem dX12_execute_747 : decode cX12_execute 747 = .ok (.if_icmp .eq 12, 3) := by decide +kernel
theorem dX12_execute_750 : decode cX12_execute 750 = .ok (.aload_n 0, 1) := by decide +kernel
theorem dX12_execute_751 : decode cX12_execute 751 = .ok (.iload_n 2, 1) := by decide +kernel
theorem dX12_execute_752 : decode cX12_execute 752 = .ok (.iconst 0, 1) := by decide +kernel
theorem dX12_execute_753 : decode cX12_execute 753 = .ok (.iload 4, 2) := by decide +kernel
theorem dX12_execute_755 : decode cX12_execute 755 = .ok (.invokevirtual 521, 3) := by decide +kernel
theorem dX12_execute_758 : decode cX12_execute 758 = .ok (.return_, 1) := by decide +kernel
theorem dX12_execute_759 : decode cX12_execute 759 = .ok (.aload_n 0, 1) := by decide +kernel
theorem dX12_execute_760 : decode cX12_execute 760 = .ok (.iload_n 2, 1) := by decide +kernel
theorem dX12_execute_761 : decode cX12_execute 761 = .ok (.iload 5, 2) := by decide +kernel
theorem dX12_execute_763 : decode cX12_execute 763 = .ok (.iload 6, 2) := by decide +kernel
theorem dX12_execute_765 : decode cX12_execute 765 = .ok (.ifCond .ne 18, 3) := by decide +kernel
theorem dX12_execute_768 : decode cX12_execute 768 = .ok (.iload 9, 2) := by decide +kernel
theorem dX12_execute_770 : decode cX12_execute 770 = .ok (.bipush 32, 2) := by decide +kernel
theorem dX12_execute_772 : decode cX12_execute 772 = .ok (.if_icmp .ne 11, 3) := by decide +kernel
theorem dX12_execute_775 : decode cX12_execute 775 = .ok (.iload 7, 2) := by decide +kernel
theorem dX12_execute_777 : decode cX12_execute 777 = .ok (.iload 8, 2) := by decide +kernel
theorem dX12_execute_779 : decode cX12_execute 779 = .ok (.isub, 1) := by decide +kernel
theorem dX12_execute_780 : decode cX12_execute 780 = .ok (.goto 25, 3) := by decide +kernel
theorem dX12_execute_783 : decode cX12_execute 783 = .ok (.aload_n 0, 1) := by decide +kernel
theorem dX12_execute_784 : decode cX12_execute 784 = .ok (.iload 6, 2) := by decide +kernel
theorem dX12_execute_786 : decode cX12_execute 786 = .ok (.iload 7, 2) := by decide +kernel
theorem dX12_execute_788 : decode cX12_execute 788 = .ok (.iload 8, 2) := by decide +kernel
theorem dX12_execute_790 : decode cX12_execute 790 = .ok (.iload 9, 2) := by decide +kernel
theorem dX12_execute_792 : decode cX12_execute 792 = .ok (.bipush 32, 2) := by decide +kernel
theorem dX12_execute_794 : decode cX12_execute 794 = .ok (.if_icmp .ne 7, 3) := by decide +kernel
theorem dX12_execute_797 : decode cX12_execute 797 = .ok (.iconst 1, 1) := by decide +kernel
theorem dX12_execute_798 : decode cX12_execute 798 = .ok (.goto 4, 3) := by decide +kernel
theorem dX12_execute_801 : decode cX12_execute 801 = .ok (.iconst 0, 1) := by decide +kernel
theorem dX12_execute_802 : decode cX12_execute 802 = .ok (.invokevirtual 576, 3) := by decide +kernel
theorem dX12_execute_805 : decode cX12_execute 805 = .ok (.invokevirtual 563, 3) := by decide +kernel
theorem dX12_execute_808 : decode cX12_execute 808 = .ok (.goto 29, 3) := by decide +kernel
theorem dX12_execute_811 : decode cX12_execute 811 = .ok (.iload 4, 2) := by decide +kernel
theorem dX12_execute_813 : decode cX12_execute 813 = .ok (.bipush 115, 2) := by decide +kernel
theorem dX12_execute_815 : decode cX12_execute 815 = .ok (.if_icmp .ne 13, 3) := by decide +kernel
theorem dX12_execute_818 : decode cX12_execute 818 = .ok (.aload_n 0, 1) := by decide +kernel
theorem dX12_execute_819 : decode cX12_execute 819 = .ok (.iload_n 1, 1) := by decide +kernel
theorem dX12_execute_820 : decode cX12_execute 820 = .ok (.iload_n 2, 1) := by decide +kernel
theorem dX12_execute_821 : decode cX12_execute 821 = .ok (.iload_n 3, 1) := by decide +kernel
theorem dX12_execute_822 : decode cX12_execute 822 = .ok (.invokevirtual 580, 3) := by decide +kernel
theorem dX12_execute_825 : decode cX12_execute 825 = .ok (.goto 11, 3) := by decide +kernel
theorem dX12_execute_828 : decode cX12_execute 828 = .ok (.aload_n 0, 1) := by decide +kernel
theorem dX12_execute_829 : decode cX12_execute 829 = .ok (.iload_n 2, 1) := by decide +kernel
theorem dX12_execute_830 : decode cX12_execute 830 = .ok (.iconst 0, 1) := by decide +kernel
theorem dX12_execute_831 : decode cX12_execute 831 = .ok (.iload 4, 2) := by decide +kernel
theorem dX12_execute_833 : decode cX12_execute 833 = .ok (.invokevirtual 521, 3) := by decide +kernel
theorem dX12_execute_836 : decode cX12_execute 836 = .ok (.return_, 1) := by decide +kernel
theorem dX12_execute_837 : decode cX12_execute 837 = .ok (.aload_n 0, 1) := by decide +kernel
theorem dX12_execute_838 : decode cX12_execute 838 = .ok (.getfield 152, 3) := by decide +kernel
theorem dX12_execute_841 : decode cX12_execute 841 = .ok (.iload_n 2, 1) := by decide +kernel
theorem dX12_execute_842 : decode cX12_execute 842 = .ok (.iload_n 3, 1) := by decide +kernel
theorem dX12_execute_843 : decode cX12_execute 843 = .ok (.iconst 4, 1) := by decide +kernel
theorem dX12_execute_844 : decode cX12_execute 844 = .ok (.iadd, 1) := by decide +kernel
theorem dX12_execute_845 : decode cX12_execute 845 = .ok (.iastore, 1) := by decide +kernel
theorem dX12_execute_846 : decode cX12_execute 846 = .ok (.return_, 1) := by decide +kernel
def wb_X12_execute_41  (S : q_S) (a0 : Nat) (x2 : Int32) (x3 : Int32) (Q : Option Value → q_S → Prop) : Prop := q_K S a0 = 13 ∧ (wm_X12_fails S a0 x2 (1 : Int32) x3 (fun r2_ S3_ => r2_ = none ∧ (Q none S3_)))
set_option maxHeartbeats 4000000 in
set_option maxRecDepth 100000 in
theorem cb_X12_execute_41 {p : Program} {l : Launch} {e : Env} {s : State} {m : MethodId} {args : Array Value} {below : List Frame} {meth : Method} {c : Code} {D : va_G} {cy : Nat → ClassId} {lo : Nat}  {S : q_S} {a0 : Nat} {x2 : Int32} {x3 : Int32} {Q : Option Value → q_S → Prop} {H : Heap} {locs : List Loc} {ls : Array Slot} (X : q_X p s m args meth c RX12 cX12_execute 14 none D cy lo)  (Y : q_Y D cy lo s S H locs) (hl : lv_has ls 14 [(0, .ref a0), (2, .int x2), (3, .int x3)]) (h : wb_X12_execute_41 S a0 x2 x3 Q) : W p l e ({ frames := 6, cells := 0, slots := 0, locals := 152 } : Room) s m args below meth c H locs 0 0 (MQ below (q_Q D cy lo Q) args s 0 0 (fun q => lo ≤ q)) (F0 m 41 ls []) := by
  have hx := X.1
  have hb := X.2.1
  unfold wb_X12_execute_41 at h
  refine lv_aload_n hx hb dX12_execute_41 rfl (lv_at hl 0 rfl) ?_
  refine lv_iload_n hx hb dX12_execute_42 rfl (lv_at hl 1 rfl) ?_
  refine lv_iconst (v := 1) hx hb dX12_execute_43 (by decide) ?_
  refine lv_iload_n hx hb dX12_execute_44 rfl (lv_at hl 2 rfl) ?_
  obtain ⟨k1_, h⟩ := h
  refine q_callV X Y hl (cm_X12_fails h) mt_X12_fails mi_X12_fails ml_X12_521 (ci := 12) rfl k1_ (by decide) rfl rfl (by first | exact Nat.le_of_ble_eq_true rfl | simp [q_cat, q_catI, q_catJ, q_catR]) ⟨Nat.le_of_ble_eq_true rfl, Nat.le_of_ble_eq_true rfl⟩ ⟨Nat.le_of_ble_eq_true rfl, Nat.le_of_ble_eq_true rfl⟩ dX12_execute_45 (fun r2_ S3_ H locs hp Y => ?_)
  obtain ⟨rfl, h⟩ := hp
  refine W.eq (g2 := F0 m 48 ls []) rfl ?_
  exact q_vret X Y (Nat.le_refl _) (Nat.le_refl _) h dX12_execute_48
def wb_X12_execute_836  (S : q_S) (Q : Option Value → q_S → Prop) : Prop := Q none S
set_option maxHeartbeats 4000000 in
set_option maxRecDepth 100000 in
theorem cb_X12_execute_836 {p : Program} {l : Launch} {e : Env} {s : State} {m : MethodId} {args : Array Value} {below : List Frame} {meth : Method} {c : Code} {D : va_G} {cy : Nat → ClassId} {lo : Nat}  {S : q_S} {Q : Option Value → q_S → Prop} {H : Heap} {locs : List Loc} {ls : Array Slot} (X : q_X p s m args meth c RX12 cX12_execute 14 none D cy lo)  (Y : q_Y D cy lo s S H locs) (hl : lv_has ls 14 []) (h : wb_X12_execute_836 S Q) : W p l e ({ frames := 6, cells := 0, slots := 0, locals := 152 } : Room) s m args below meth c H locs 0 0 (MQ below (q_Q D cy lo Q) args s 0 0 (fun q => lo ≤ q)) (F0 m 836 ls []) := by
  have hx := X.1
  have hb := X.2.1
  unfold wb_X12_execute_836 at h
  exact q_vret X Y (Nat.le_refl _) (Nat.le_refl _) h dX12_execute_836
def wb_X12_execute_811  (S : q_S) (a0 : Nat) (x1 : Int32) (x2 : Int32) (x3 : Int32) (x4 : Int32) (Q : Option Value → q_S → Prop) : Prop := ((¬ x4 = (115 : Int32) → (q_K S a0 = 13 ∧ (wm_X12_fails S a0 x2 (0 : Int32) x4 (fun r6_ S7_ => r6_ = none ∧ (wb_X12_execute_836 S7_ Q))))) ∧ (x4 = (115 : Int32) → (q_K S a0 = 13 ∧ (wm_X12_calls S a0 x1 x2 x3 (fun r9_ S10_ => r9_ = none ∧ (wb_X12_execute_836 S10_ Q))))))
set_option maxHeartbeats 4000000 in
set_option maxRecDepth 100000 in
theorem cb_X12_execute_811 {p : Program} {l : Launch} {e : Env} {s : State} {m : MethodId} {args : Array Value} {below : List Frame} {meth : Method} {c : Code} {D : va_G} {cy : Nat → ClassId} {lo : Nat}  {S : q_S} {a0 : Nat} {x1 : Int32} {x2 : Int32} {x3 : Int32} {x4 : Int32} {Q : Option Value → q_S → Prop} {H : Heap} {locs : List Loc} {ls : Array Slot} (X : q_X p s m args meth c RX12 cX12_execute 14 none D cy lo)  (Y : q_Y D cy lo s S H locs) (hl : lv_has ls 14 [(0, .ref a0), (1, .int x1), (2, .int x2), (3, .int x3), (4, .int x4)]) (h : wb_X12_execute_811 S a0 x1 x2 x3 x4 Q) : W p l e ({ frames := 6, cells := 0, slots := 0, locals := 152 } : Room) s m args below meth c H locs 0 0 (MQ below (q_Q D cy lo Q) args s 0 0 (fun q => lo ≤ q)) (F0 m 811 ls []) := by
  have hx := X.1
  have hb := X.2.1
  unfold wb_X12_execute_811 at h
  refine lv_iload hx hb dX12_execute_811 (lv_at hl 4 rfl) ?_
  refine lv_bipush (v := 115) hx hb dX12_execute_813 (by decide) ?_
  refine lv_icmp_ne (tgt := 828) hx hb dX12_execute_815 (by decide) (fun c4_ => ?_) (fun c4_ => ?_)
  · replace h := h.1 c4_
    refine lv_aload_n hx hb dX12_execute_828 rfl (lv_at hl 0 rfl) ?_
    refine lv_iload_n hx hb dX12_execute_829 rfl (lv_at hl 2 rfl) ?_
    refine lv_iconst (v := 0) hx hb dX12_execute_830 (by decide) ?_
    refine lv_iload hx hb dX12_execute_831 (lv_at hl 4 rfl) ?_
    obtain ⟨k5_, h⟩ := h
    refine q_callV X Y hl (cm_X12_fails h) mt_X12_fails mi_X12_fails ml_X12_521 (ci := 12) rfl k5_ (by decide) rfl rfl (by first | exact Nat.le_of_ble_eq_true rfl | simp [q_cat, q_catI, q_catJ, q_catR]) ⟨Nat.le_of_ble_eq_true rfl, Nat.le_of_ble_eq_true rfl⟩ ⟨Nat.le_of_ble_eq_true rfl, Nat.le_of_ble_eq_true rfl⟩ dX12_execute_833 (fun r6_ S7_ H locs hp Y => ?_)
    obtain ⟨rfl, h⟩ := hp
    refine W.eq (g2 := F0 m 836 ls []) rfl ?_
    exact cb_X12_execute_836 X Y (lv_sub hl [] rfl) h
  · replace h := h.2 c4_
    refine lv_aload_n hx hb dX12_execute_818 rfl (lv_at hl 0 rfl) ?_
    refine lv_iload_n hx hb dX12_execute_819 rfl (lv_at hl 1 rfl) ?_
    refine lv_iload_n hx hb dX12_execute_820 rfl (lv_at hl 2 rfl) ?_
    refine lv_iload_n hx hb dX12_execute_821 rfl (lv_at hl 3 rfl) ?_
    obtain ⟨k8_, h⟩ := h
    refine q_callV X Y hl (cm_X12_calls h) mt_X12_calls mi_X12_calls ml_X12_580 (ci := 12) rfl k8_ (by decide) rfl rfl (by first | exact Nat.le_of_ble_eq_true rfl | simp [q_cat, q_catI, q_catJ, q_catR]) ⟨Nat.le_of_ble_eq_true rfl, Nat.le_of_ble_eq_true rfl⟩ ⟨Nat.le_of_ble_eq_true rfl, Nat.le_of_ble_eq_true rfl⟩ dX12_execute_822 (fun r9_ S10_ H locs hp Y => ?_)
    obtain ⟨rfl, h⟩ := hp
    refine W.eq (g2 := F0 m 825 ls []) rfl ?_
    refine lv_goto (tgt := 836) hx hb dX12_execute_825 (by decide) ?_
    exact cb_X12_execute_836 X Y (lv_sub hl [] rfl) h
def wb_X12_execute_254  (S : q_S) (a0 : Nat) (x2 : Int32) (x3 : Int32) (x4 : Int32) (x5 : Int32) (Q : Option Value → q_S → Prop) : Prop := q_K S a0 = 13 ∧ (wm_X12_set S a0 x2 x5 (x3 + (4 : Int32)) (fun r12_ S13_ => r12_ = none ∧ (q_K S13_ a0 = 13 ∧ (∃ a15_ : Nat, (q_P S13_ 2468 a0) = some a15_ ∧ (q_K S13_ a15_ = 21 ∧ (vp_in x2 (q_N S13_ a15_) ∧ (Q none (qs_A S13_ a15_ x2.toNatClampNeg (x3 + (((((x4 >>> ((31 : Int32) &&& 31)) <<< ((20 : Int32) &&& 31)) ||| (((x4 >>> ((12 : Int32) &&& 31)) &&& (255 : Int32)) <<< ((12 : Int32) &&& 31))) ||| (((x4 >>> ((20 : Int32) &&& 31)) &&& (1 : Int32)) <<< ((11 : Int32) &&& 31))) ||| (((x4 >>> ((21 : Int32) &&& 31)) &&& (1023 : Int32)) <<< ((1 : Int32) &&& 31))))))))))))
set_option maxHeartbeats 4000000 in
set_option maxRecDepth 100000 in
theorem cb_X12_execute_254 {p : Program} {l : Launch} {e : Env} {s : State} {m : MethodId} {args : Array Value} {below : List Frame} {meth : Method} {c : Code} {D : va_G} {cy : Nat → ClassId} {lo : Nat}  {S : q_S} {a0 : Nat} {x2 : Int32} {x3 : Int32} {x4 : Int32} {x5 : Int32} {Q : Option Value → q_S → Prop} {H : Heap} {locs : List Loc} {ls : Array Slot} (X : q_X p s m args meth c RX12 cX12_execute 14 none D cy lo)  (Y : q_Y D cy lo s S H locs) (hl : lv_has ls 14 [(0, .ref a0), (2, .int x2), (3, .int x3), (4, .int x4), (5, .int x5)]) (h : wb_X12_execute_254 S a0 x2 x3 x4 x5 Q) : W p l e ({ frames := 6, cells := 0, slots := 0, locals := 152 } : Room) s m args below meth c H locs 0 0 (MQ below (q_Q D cy lo Q) args s 0 0 (fun q => lo ≤ q)) (F0 m 254 ls []) := by
  have hx := X.1
  have hb := X.2.1
  unfold wb_X12_execute_254 at h
  refine lv_iload hx hb dX12_execute_254 (lv_at hl 3 rfl) ?_
  refine lv_bipush (v := 31) hx hb dX12_execute_256 (by decide) ?_
  refine lv_ishr hx hb dX12_execute_258 ?_
  refine lv_bipush (v := 20) hx hb dX12_execute_259 (by decide) ?_
  refine lv_ishl hx hb dX12_execute_261 ?_
  refine lv_iload hx hb dX12_execute_262 (lv_at hl 3 rfl) ?_
  refine lv_bipush (v := 12) hx hb dX12_execute_264 (by decide) ?_
  refine lv_ishr hx hb dX12_execute_266 ?_
  refine lv_sipush (v := 255) hx hb dX12_execute_267 (by decide) ?_
  refine lv_iand hx hb dX12_execute_270 ?_
  refine lv_bipush (v := 12) hx hb dX12_execute_271 (by decide) ?_
  refine lv_ishl hx hb dX12_execute_273 ?_
  refine lv_ior hx hb dX12_execute_274 ?_
  refine lv_iload hx hb dX12_execute_275 (lv_at hl 3 rfl) ?_
  refine lv_bipush (v := 20) hx hb dX12_execute_277 (by decide) ?_
  refine lv_ishr hx hb dX12_execute_279 ?_
  refine lv_iconst (v := 1) hx hb dX12_execute_280 (by decide) ?_
  refine lv_iand hx hb dX12_execute_281 ?_
  refine lv_bipush (v := 11) hx hb dX12_execute_282 (by decide) ?_
  refine lv_ishl hx hb dX12_execute_284 ?_
  refine lv_ior hx hb dX12_execute_285 ?_
  refine lv_iload hx hb dX12_execute_286 (lv_at hl 3 rfl) ?_
  refine lv_bipush (v := 21) hx hb dX12_execute_288 (by decide) ?_
  refine lv_ishr hx hb dX12_execute_290 ?_
  refine lv_sipush (v := 1023) hx hb dX12_execute_291 (by decide) ?_
  refine lv_iand hx hb dX12_execute_294 ?_
  refine lv_iconst (v := 1) hx hb dX12_execute_295 (by decide) ?_
  refine lv_ishl hx hb dX12_execute_296 ?_
  refine lv_ior hx hb dX12_execute_297 ?_
  refine lv_istore (i := 11) (lv' := [(11, .int (((((x4 >>> ((31 : Int32) &&& 31)) <<< ((20 : Int32) &&& 31)) ||| (((x4 >>> ((12 : Int32) &&& 31)) &&& (255 : Int32)) <<< ((12 : Int32) &&& 31))) ||| (((x4 >>> ((20 : Int32) &&& 31)) &&& (1 : Int32)) <<< ((11 : Int32) &&& 31))) ||| (((x4 >>> ((21 : Int32) &&& 31)) &&& (1023 : Int32)) <<< ((1 : Int32) &&& 31)))), (0, .ref a0), (2, .int x2), (3, .int x3), (4, .int x4), (5, .int x5)]) hx hb dX12_execute_298 hl (by decide) (by first | rfl | simp [q_cat, q_catI, q_catJ, q_catR]) (fun ls hl => ?_)
  refine lv_aload_n hx hb dX12_execute_300 rfl (lv_at hl 1 rfl) ?_
  refine lv_iload_n hx hb dX12_execute_301 rfl (lv_at hl 2 rfl) ?_
  refine lv_iload hx hb dX12_execute_302 (lv_at hl 5 rfl) ?_
  refine lv_iload_n hx hb dX12_execute_304 rfl (lv_at hl 3 rfl) ?_
  refine lv_iconst (v := 4) hx hb dX12_execute_305 (by decide) ?_
  refine lv_iadd hx hb dX12_execute_306 ?_
  obtain ⟨k11_, h⟩ := h
  refine q_callV X Y hl (cm_X12_set h) mt_X12_set mi_X12_set ml_X12_563 (ci := 12) rfl k11_ (by decide) rfl rfl (by first | exact Nat.le_of_ble_eq_true rfl | simp [q_cat, q_catI, q_catJ, q_catR]) ⟨Nat.le_of_ble_eq_true rfl, Nat.le_of_ble_eq_true rfl⟩ ⟨Nat.le_of_ble_eq_true rfl, Nat.le_of_ble_eq_true rfl⟩ dX12_execute_307 (fun r12_ S13_ H locs hp Y => ?_)
  obtain ⟨rfl, h⟩ := hp
  refine W.eq (g2 := F0 m 310 ls []) rfl ?_
  refine lv_aload_n hx hb dX12_execute_310 rfl (lv_at hl 1 rfl) ?_
  obtain ⟨k14_, h⟩ := h
  refine q_getP X Y kX12 68 rfl fl_X12_152 k14_ rfl dX12_execute_311 ?_
  refine lv_iload_n hx hb dX12_execute_314 rfl (lv_at hl 2 rfl) ?_
  refine lv_iload_n hx hb dX12_execute_315 rfl (lv_at hl 3 rfl) ?_
  refine lv_iload hx hb dX12_execute_316 (lv_at hl 0 rfl) ?_
  refine lv_iadd hx hb dX12_execute_318 ?_
  obtain ⟨a15_, e16_, h⟩ := h
  refine q_nn [.int (x3 + (((((x4 >>> ((31 : Int32) &&& 31)) <<< ((20 : Int32) &&& 31)) ||| (((x4 >>> ((12 : Int32) &&& 31)) &&& (255 : Int32)) <<< ((12 : Int32) &&& 31))) ||| (((x4 >>> ((20 : Int32) &&& 31)) &&& (1 : Int32)) <<< ((11 : Int32) &&& 31))) ||| (((x4 >>> ((21 : Int32) &&& 31)) &&& (1023 : Int32)) <<< ((1 : Int32) &&& 31)))), .int x2] e16_ ?_
  obtain ⟨k17_, h⟩ := h
  obtain ⟨i18_, h⟩ := h
  refine q_ist X Y k17_ i18_ dX12_execute_319 (fun H locs Y => ?_)
  exact q_vret X Y (Nat.le_refl _) (Nat.le_refl _) h dX12_execute_320
def wb_X12_execute_321  (S : q_S) (a0 : Nat) (x2 : Int32) (x3 : Int32) (x4 : Int32) (x5 : Int32) (x6 : Int32) (x7 : Int32) (x10 : Int32) (Q : Option Value → q_S → Prop) : Prop := ((x6 = 0 → (q_K S a0 = 13 ∧ (wm_X12_set S a0 x2 x5 (x3 + (4 : Int32)) (fun r21_ S22_ => r21_ = none ∧ (q_K S22_ a0 = 13 ∧ (∃ a24_ : Nat, (q_P S22_ 2468 a0) = some a24_ ∧ (q_K S22_ a24_ = 21 ∧ (vp_in x2 (q_N S22_ a24_) ∧ (Q none (qs_A S22_ a24_ x2.toNatClampNeg ((x7 + x10) &&& (-2 : Int32)))))))))))) ∧ (¬ x6 = 0 → (q_K S a0 = 13 ∧ (wm_X12_fails S a0 x2 (0 : Int32) x4 (fun r29_ S30_ => r29_ = none ∧ (Q none S30_))))))
set_option maxHeartbeats 4000000 in
set_option maxRecDepth 100000 in
theorem cb_X12_execute_321 {p : Program} {l : Launch} {e : Env} {s : State} {m : MethodId} {args : Array Value} {below : List Frame} {meth : Method} {c : Code} {D : va_G} {cy : Nat → ClassId} {lo : Nat}  {S : q_S} {a0 : Nat} {x2 : Int32} {x3 : Int32} {x4 : Int32} {x5 : Int32} {x6 : Int32} {x7 : Int32} {x10 : Int32} {Q : Option Value → q_S → Prop} {H : Heap} {locs : List Loc} {ls : Array Slot} (X : q_X p s m args meth c RX12 cX12_execute 14 none D cy lo)  (Y : q_Y D cy lo s S H locs) (hl : lv_has ls 14 [(0, .ref a0), (2, .int x2), (3, .int x3), (4, .int x4), (5, .int x5), (6, .int x6), (7, .int x7), (10, .int x10)]) (h : wb_X12_execute_321 S a0 x2 x3 x4 x5 x6 x7 x10 Q) : W p l e ({ frames := 6, cells := 0, slots := 0, locals := 152 } : Room) s m args below meth c H locs 0 0 (MQ below (q_Q D cy lo Q) args s 0 0 (fun q => lo ≤ q)) (F0 m 321 ls []) := by
  have hx := X.1
  have hb := X.2.1
  unfold wb_X12_execute_321 at h
  refine lv_iload hx hb dX12_execute_321 (lv_at hl 5 rfl) ?_
  refine lv_if_eq (tgt := 335) hx hb dX12_execute_323 (by decide) (fun c19_ => ?_) (fun c19_ => ?_)
  · replace h := h.1 c19_
    refine lv_aload_n hx hb dX12_execute_335 rfl (lv_at hl 0 rfl) ?_
    refine lv_iload_n hx hb dX12_execute_336 rfl (lv_at hl 1 rfl) ?_
    refine lv_iload hx hb dX12_execute_337 (lv_at hl 4 rfl) ?_
    refine lv_iload_n hx hb dX12_execute_339 rfl (lv_at hl 2 rfl) ?_
    refine lv_iconst (v := 4) hx hb dX12_execute_340 (by decide) ?_
    refine lv_iadd hx hb dX12_execute_341 ?_
    obtain ⟨k20_, h⟩ := h
    refine q_callV X Y hl (cm_X12_set h) mt_X12_set mi_X12_set ml_X12_563 (ci := 12) rfl k20_ (by decide) rfl rfl (by first | exact Nat.le_of_ble_eq_true rfl | simp [q_cat, q_catI, q_catJ, q_catR]) ⟨Nat.le_of_ble_eq_true rfl, Nat.le_of_ble_eq_true rfl⟩ ⟨Nat.le_of_ble_eq_true rfl, Nat.le_of_ble_eq_true rfl⟩ dX12_execute_342 (fun r21_ S22_ H locs hp Y => ?_)
    obtain ⟨rfl, h⟩ := hp
    refine W.eq (g2 := F0 m 345 ls []) rfl ?_
    refine lv_aload_n hx hb dX12_execute_345 rfl (lv_at hl 0 rfl) ?_
    obtain ⟨k23_, h⟩ := h
    refine q_getP X Y kX12 68 rfl fl_X12_152 k23_ rfl dX12_execute_346 ?_
    refine lv_iload_n hx hb dX12_execute_349 rfl (lv_at hl 1 rfl) ?_
    refine lv_iload hx hb dX12_execute_350 (lv_at hl 6 rfl) ?_
    refine lv_iload hx hb dX12_execute_352 (lv_at hl 7 rfl) ?_
    refine lv_iadd hx hb dX12_execute_354 ?_
    refine lv_bipush (v := (-2)) hx hb dX12_execute_355 (by decide) ?_
    refine lv_iand hx hb dX12_execute_357 ?_
    obtain ⟨a24_, e25_, h⟩ := h
    refine q_nn [.int ((x7 + x10) &&& (-2 : Int32)), .int x2] e25_ ?_
    obtain ⟨k26_, h⟩ := h
    obtain ⟨i27_, h⟩ := h
    refine q_ist X Y k26_ i27_ dX12_execute_358 (fun H locs Y => ?_)
    exact q_vret X Y (Nat.le_refl _) (Nat.le_refl _) h dX12_execute_359
  · replace h := h.2 c19_
    refine lv_aload_n hx hb dX12_execute_326 rfl (lv_at hl 0 rfl) ?_
    refine lv_iload_n hx hb dX12_execute_327 rfl (lv_at hl 1 rfl) ?_
    refine lv_iconst (v := 0) hx hb dX12_execute_328 (by decide) ?_
    refine lv_iload hx hb dX12_execute_329 (lv_at hl 3 rfl) ?_
    obtain ⟨k28_, h⟩ := h
    refine q_callV X Y hl (cm_X12_fails h) mt_X12_fails mi_X12_fails ml_X12_521 (ci := 12) rfl k28_ (by decide) rfl rfl (by first | exact Nat.le_of_ble_eq_true rfl | simp [q_cat, q_catI, q_catJ, q_catR]) ⟨Nat.le_of_ble_eq_true rfl, Nat.le_of_ble_eq_true rfl⟩ ⟨Nat.le_of_ble_eq_true rfl, Nat.le_of_ble_eq_true rfl⟩ dX12_execute_331 (fun r29_ S30_ H locs hp Y => ?_)
    obtain ⟨rfl, h⟩ := hp
    refine W.eq (g2 := F0 m 334 ls []) rfl ?_
    exact q_vret X Y (Nat.le_refl _) (Nat.le_refl _) h dX12_execute_334
def wb_X12_execute_372  (S : q_S) (a0 : Nat) (x2 : Int32) (x4 : Int32) (Q : Option Value → q_S → Prop) : Prop := q_K S a0 = 13 ∧ (wm_X12_fails S a0 x2 (0 : Int32) x4 (fun r32_ S33_ => r32_ = none ∧ (Q none S33_)))
set_option maxHeartbeats 4000000 in
set_option maxRecDepth 100000 in
theorem cb_X12_execute_372 {p : Program} {l : Launch} {e : Env} {s : State} {m : MethodId} {args : Array Value} {below : List Frame} {meth : Method} {c : Code} {D : va_G} {cy : Nat → ClassId} {lo : Nat}  {S : q_S} {a0 : Nat} {x2 : Int32} {x4 : Int32} {Q : Option Value → q_S → Prop} {H : Heap} {locs : List Loc} {ls : Array Slot} (X : q_X p s m args meth c RX12 cX12_execute 14 none D cy lo)  (Y : q_Y D cy lo s S H locs) (hl : lv_has ls 14 [(0, .ref a0), (2, .int x2), (4, .int x4)]) (h : wb_X12_execute_372 S a0 x2 x4 Q) : W p l e ({ frames := 6, cells := 0, slots := 0, locals := 152 } : Room) s m args below meth c H locs 0 0 (MQ below (q_Q D cy lo Q) args s 0 0 (fun q => lo ≤ q)) (F0 m 372 ls []) := by
  have hx := X.1
  have hb := X.2.1
  unfold wb_X12_execute_372 at h
  refine lv_aload_n hx hb dX12_execute_372 rfl (lv_at hl 0 rfl) ?_
  refine lv_iload_n hx hb dX12_execute_373 rfl (lv_at hl 1 rfl) ?_
  refine lv_iconst (v := 0) hx hb dX12_execute_374 (by decide) ?_
  refine lv_iload hx hb dX12_execute_375 (lv_at hl 2 rfl) ?_
  obtain ⟨k31_, h⟩ := h
  refine q_callV X Y hl (cm_X12_fails h) mt_X12_fails mi_X12_fails ml_X12_521 (ci := 12) rfl k31_ (by decide) rfl rfl (by first | exact Nat.le_of_ble_eq_true rfl | simp [q_cat, q_catI, q_catJ, q_catR]) ⟨Nat.le_of_ble_eq_true rfl, Nat.le_of_ble_eq_true rfl⟩ ⟨Nat.le_of_ble_eq_true rfl, Nat.le_of_ble_eq_true rfl⟩ dX12_execute_377 (fun r32_ S33_ H locs hp Y => ?_)
  obtain ⟨rfl, h⟩ := hp
  refine W.eq (g2 := F0 m 380 ls []) rfl ?_
  exact q_vret X Y (Nat.le_refl _) (Nat.le_refl _) h dX12_execute_380
def wb_X12_execute_563  (S : q_S) (rs0 : Option Nat) (xs1 : Int32) (xs2 : Int32) (Q : Option Value → q_S → Prop) : Prop := ∃ a34_ : Nat, rs0 = some a34_ ∧ (q_K S a34_ = 21 ∧ (vp_in xs1 (q_N S a34_) ∧ (Q none (qs_A S a34_ xs1.toNatClampNeg xs2))))
set_option maxHeartbeats 4000000 in
set_option maxRecDepth 100000 in
theorem cb_X12_execute_563 {p : Program} {l : Launch} {e : Env} {s : State} {m : MethodId} {args : Array Value} {below : List Frame} {meth : Method} {c : Code} {D : va_G} {cy : Nat → ClassId} {lo : Nat}  {S : q_S} {rs0 : Option Nat} {xs1 : Int32} {xs2 : Int32} {Q : Option Value → q_S → Prop} {H : Heap} {locs : List Loc} {ls : Array Slot} (X : q_X p s m args meth c RX12 cX12_execute 14 none D cy lo)  (Y : q_Y D cy lo s S H locs) (hl : lv_has ls 14 []) (h : wb_X12_execute_563 S rs0 xs1 xs2 Q) : W p l e ({ frames := 6, cells := 0, slots := 0, locals := 152 } : Room) s m args below meth c H locs 0 0 (MQ below (q_Q D cy lo Q) args s 0 0 (fun q => lo ≤ q)) (F0 m 563 ls [.int xs2, .int xs1, va_rf rs0]) := by
  have hx := X.1
  have hb := X.2.1
  unfold wb_X12_execute_563 at h
  obtain ⟨a34_, e35_, h⟩ := h
  refine q_nn [.int xs2, .int xs1] e35_ ?_
  obtain ⟨k36_, h⟩ := h
  obtain ⟨i37_, h⟩ := h
  refine q_ist X Y k36_ i37_ dX12_execute_563 (fun H locs Y => ?_)
  exact q_vret X Y (Nat.le_refl _) (Nat.le_refl _) h dX12_execute_564
def wb_X12_execute_498  (S : q_S) (a0 : Nat) (x2 : Int32) (x3 : Int32) (x4 : Int32) (xs0 : Int32) (Q : Option Value → q_S → Prop) : Prop := q_K S a0 = 13 ∧ (((xs0 = 0 → (wb_X12_execute_563 S (q_P S 2468 a0) x2 (x3 + (4 : Int32)) Q)) ∧ (¬ xs0 = 0 → (wb_X12_execute_563 S (q_P S 2468 a0) x2 (x3 + (((((x4 >>> ((31 : Int32) &&& 31)) <<< ((12 : Int32) &&& 31)) ||| (((x4 >>> ((7 : Int32) &&& 31)) &&& (1 : Int32)) <<< ((11 : Int32) &&& 31))) ||| (((x4 >>> ((25 : Int32) &&& 31)) &&& (63 : Int32)) <<< ((5 : Int32) &&& 31))) ||| (((x4 >>> ((8 : Int32) &&& 31)) &&& (15 : Int32)) <<< ((1 : Int32) &&& 31)))) Q))))
set_option maxHeartbeats 4000000 in
set_option maxRecDepth 100000 in
theorem cb_X12_execute_498 {p : Program} {l : Launch} {e : Env} {s : State} {m : MethodId} {args : Array Value} {below : List Frame} {meth : Method} {c : Code} {D : va_G} {cy : Nat → ClassId} {lo : Nat}  {S : q_S} {a0 : Nat} {x2 : Int32} {x3 : Int32} {x4 : Int32} {xs0 : Int32} {Q : Option Value → q_S → Prop} {H : Heap} {locs : List Loc} {ls : Array Slot} (X : q_X p s m args meth c RX12 cX12_execute 14 none D cy lo)  (Y : q_Y D cy lo s S H locs) (hl : lv_has ls 14 [(0, .ref a0), (2, .int x2), (3, .int x3), (4, .int x4)]) (h : wb_X12_execute_498 S a0 x2 x3 x4 xs0 Q) : W p l e ({ frames := 6, cells := 0, slots := 0, locals := 152 } : Room) s m args below meth c H locs 0 0 (MQ below (q_Q D cy lo Q) args s 0 0 (fun q => lo ≤ q)) (F0 m 498 ls [.int xs0]) := by
  have hx := X.1
  have hb := X.2.1
  unfold wb_X12_execute_498 at h
  refine lv_istore (i := 12) (lv' := [(12, .int xs0), (0, .ref a0), (2, .int x2), (3, .int x3), (4, .int x4)]) hx hb dX12_execute_498 hl (by decide) (by first | rfl | simp [q_cat, q_catI, q_catJ, q_catR]) (fun ls hl => ?_)
  refine lv_iload hx hb dX12_execute_500 (lv_at hl 4 rfl) ?_
  refine lv_bipush (v := 31) hx hb dX12_execute_502 (by decide) ?_
  refine lv_ishr hx hb dX12_execute_504 ?_
  refine lv_bipush (v := 12) hx hb dX12_execute_505 (by decide) ?_
  refine lv_ishl hx hb dX12_execute_507 ?_
  refine lv_iload hx hb dX12_execute_508 (lv_at hl 4 rfl) ?_
  refine lv_bipush (v := 7) hx hb dX12_execute_510 (by decide) ?_
  refine lv_ishr hx hb dX12_execute_512 ?_
  refine lv_iconst (v := 1) hx hb dX12_execute_513 (by decide) ?_
  refine lv_iand hx hb dX12_execute_514 ?_
  refine lv_bipush (v := 11) hx hb dX12_execute_515 (by decide) ?_
  refine lv_ishl hx hb dX12_execute_517 ?_
  refine lv_ior hx hb dX12_execute_518 ?_
  refine lv_iload hx hb dX12_execute_519 (lv_at hl 4 rfl) ?_
  refine lv_bipush (v := 25) hx hb dX12_execute_521 (by decide) ?_
  refine lv_ishr hx hb dX12_execute_523 ?_
  refine lv_bipush (v := 63) hx hb dX12_execute_524 (by decide) ?_
  refine lv_iand hx hb dX12_execute_526 ?_
  refine lv_iconst (v := 5) hx hb dX12_execute_527 (by decide) ?_
  refine lv_ishl hx hb dX12_execute_528 ?_
  refine lv_ior hx hb dX12_execute_529 ?_
  refine lv_iload hx hb dX12_execute_530 (lv_at hl 4 rfl) ?_
  refine lv_bipush (v := 8) hx hb dX12_execute_532 (by decide) ?_
  refine lv_ishr hx hb dX12_execute_534 ?_
  refine lv_bipush (v := 15) hx hb dX12_execute_535 (by decide) ?_
  refine lv_iand hx hb dX12_execute_537 ?_
  refine lv_iconst (v := 1) hx hb dX12_execute_538 (by decide) ?_
  refine lv_ishl hx hb dX12_execute_539 ?_
  refine lv_ior hx hb dX12_execute_540 ?_
  refine lv_istore (i := 13) (lv' := [(13, .int (((((x4 >>> ((31 : Int32) &&& 31)) <<< ((12 : Int32) &&& 31)) ||| (((x4 >>> ((7 : Int32) &&& 31)) &&& (1 : Int32)) <<< ((11 : Int32) &&& 31))) ||| (((x4 >>> ((25 : Int32) &&& 31)) &&& (63 : Int32)) <<< ((5 : Int32) &&& 31))) ||| (((x4 >>> ((8 : Int32) &&& 31)) &&& (15 : Int32)) <<< ((1 : Int32) &&& 31)))), (12, .int xs0), (0, .ref a0), (2, .int x2), (3, .int x3), (4, .int x4)]) hx hb dX12_execute_541 hl (by decide) (by first | rfl | simp [q_cat, q_catI, q_catJ, q_catR]) (fun ls hl => ?_)
  refine lv_aload_n hx hb dX12_execute_543 rfl (lv_at hl 2 rfl) ?_
  obtain ⟨k38_, h⟩ := h
  refine q_getP X Y kX12 68 rfl fl_X12_152 k38_ rfl dX12_execute_544 ?_
  refine lv_iload_n hx hb dX12_execute_547 rfl (lv_at hl 3 rfl) ?_
  refine lv_iload hx hb dX12_execute_548 (lv_at hl 1 rfl) ?_
  refine lv_if_eq (tgt := 560) hx hb dX12_execute_550 (by decide) (fun c39_ => ?_) (fun c39_ => ?_)
  · replace h := h.1 c39_
    refine lv_iload_n hx hb dX12_execute_560 rfl (lv_at hl 4 rfl) ?_
    refine lv_iconst (v := 4) hx hb dX12_execute_561 (by decide) ?_
    refine lv_iadd hx hb dX12_execute_562 ?_
    exact cb_X12_execute_563 X Y (lv_sub hl [] rfl) h
  · replace h := h.2 c39_
    refine lv_iload_n hx hb dX12_execute_553 rfl (lv_at hl 4 rfl) ?_
    refine lv_iload hx hb dX12_execute_554 (lv_at hl 0 rfl) ?_
    refine lv_iadd hx hb dX12_execute_556 ?_
    refine lv_goto (tgt := 563) hx hb dX12_execute_557 (by decide) ?_
    exact cb_X12_execute_563 X Y (lv_sub hl [] rfl) h
def wb_X12_execute_360  (S : q_S) (a0 : Nat) (x2 : Int32) (x3 : Int32) (x4 : Int32) (x6 : Int32) (x7 : Int32) (x8 : Int32) (Q : Option Value → q_S → Prop) : Prop := ((x6 = (2 : Int32) → (wb_X12_execute_372 S a0 x2 x4 Q)) ∧ (¬ x6 = (2 : Int32) → (((¬ x6 = (3 : Int32) → (((¬ x6 = 0 → (((¬ x6 = (1 : Int32) → (((¬ x6 = (4 : Int32) → (((¬ x6 = (5 : Int32) → (((¬ x6 = (6 : Int32) → (q_K S a0 = 13 ∧ (wm_X12_isBelow S a0 x7 x8 (fun r48_ S49_ => ∃ x50_ : Int32, r48_ = some (.int x50_) ∧ (((¬ x50_ = 0 → (wb_X12_execute_498 S49_ a0 x2 x3 x4 (0 : Int32) Q)) ∧ (x50_ = 0 → (wb_X12_execute_498 S49_ a0 x2 x3 x4 (1 : Int32) Q)))))))) ∧ (x6 = (6 : Int32) → (q_K S a0 = 13 ∧ (wm_X12_isBelow S a0 x7 x8 (fun r53_ S54_ => ∃ x55_ : Int32, r53_ = some (.int x55_) ∧ (wb_X12_execute_498 S54_ a0 x2 x3 x4 x55_ Q)))))))) ∧ (x6 = (5 : Int32) → (((x7 < x8 → (wb_X12_execute_498 S a0 x2 x3 x4 (0 : Int32) Q)) ∧ (¬ x7 < x8 → (wb_X12_execute_498 S a0 x2 x3 x4 (1 : Int32) Q)))))))) ∧ (x6 = (4 : Int32) → (((x8 ≤ x7 → (wb_X12_execute_498 S a0 x2 x3 x4 (0 : Int32) Q)) ∧ (¬ x8 ≤ x7 → (wb_X12_execute_498 S a0 x2 x3 x4 (1 : Int32) Q)))))))) ∧ (x6 = (1 : Int32) → (((x7 = x8 → (wb_X12_execute_498 S a0 x2 x3 x4 (0 : Int32) Q)) ∧ (¬ x7 = x8 → (wb_X12_execute_498 S a0 x2 x3 x4 (1 : Int32) Q)))))))) ∧ (x6 = 0 → (((¬ x7 = x8 → (wb_X12_execute_498 S a0 x2 x3 x4 (0 : Int32) Q)) ∧ (x7 = x8 → (wb_X12_execute_498 S a0 x2 x3 x4 (1 : Int32) Q)))))))) ∧ (x6 = (3 : Int32) → (wb_X12_execute_372 S a0 x2 x4 Q))))))
set_option maxHeartbeats 4000000 in
set_option maxRecDepth 100000 in
theorem cb_X12_execute_360 {p : Program} {l : Launch} {e : Env} {s : State} {m : MethodId} {args : Array Value} {below : List Frame} {meth : Method} {c : Code} {D : va_G} {cy : Nat → ClassId} {lo : Nat}  {S : q_S} {a0 : Nat} {x2 : Int32} {x3 : Int32} {x4 : Int32} {x6 : Int32} {x7 : Int32} {x8 : Int32} {Q : Option Value → q_S → Prop} {H : Heap} {locs : List Loc} {ls : Array Slot} (X : q_X p s m args meth c RX12 cX12_execute 14 none D cy lo)  (Y : q_Y D cy lo s S H locs) (hl : lv_has ls 14 [(0, .ref a0), (2, .int x2), (3, .int x3), (4, .int x4), (6, .int x6), (7, .int x7), (8, .int x8)]) (h : wb_X12_execute_360 S a0 x2 x3 x4 x6 x7 x8 Q) : W p l e ({ frames := 6, cells := 0, slots := 0, locals := 152 } : Room) s m args below meth c H locs 0 0 (MQ below (q_Q D cy lo Q) args s 0 0 (fun q => lo ≤ q)) (F0 m 360 ls []) := by
  have hx := X.1
  have hb := X.2.1
  unfold wb_X12_execute_360 at h
  refine lv_iload hx hb dX12_execute_360 (lv_at hl 4 rfl) ?_
  refine lv_iconst (v := 2) hx hb dX12_execute_362 (by decide) ?_
  refine lv_icmp_eq (tgt := 372) hx hb dX12_execute_363 (by decide) (fun c40_ => ?_) (fun c40_ => ?_)
  · replace h := h.1 c40_
    exact cb_X12_execute_372 X Y (lv_sub hl [0, 1, 3] rfl) h
  · replace h := h.2 c40_
    refine lv_iload hx hb dX12_execute_366 (lv_at hl 4 rfl) ?_
    refine lv_iconst (v := 3) hx hb dX12_execute_368 (by decide) ?_
    refine lv_icmp_ne (tgt := 381) hx hb dX12_execute_369 (by decide) (fun c41_ => ?_) (fun c41_ => ?_)
    · replace h := h.1 c41_
      refine lv_iload hx hb dX12_execute_381 (lv_at hl 4 rfl) ?_
      refine lv_if_ne (tgt := 401) hx hb dX12_execute_383 (by decide) (fun c42_ => ?_) (fun c42_ => ?_)
      · replace h := h.1 c42_
        refine lv_iload hx hb dX12_execute_401 (lv_at hl 4 rfl) ?_
        refine lv_iconst (v := 1) hx hb dX12_execute_403 (by decide) ?_
        refine lv_icmp_ne (tgt := 422) hx hb dX12_execute_404 (by decide) (fun c43_ => ?_) (fun c43_ => ?_)
        · replace h := h.1 c43_
          refine lv_iload hx hb dX12_execute_422 (lv_at hl 4 rfl) ?_
          refine lv_iconst (v := 4) hx hb dX12_execute_424 (by decide) ?_
          refine lv_icmp_ne (tgt := 443) hx hb dX12_execute_425 (by decide) (fun c44_ => ?_) (fun c44_ => ?_)
          · replace h := h.1 c44_
            refine lv_iload hx hb dX12_execute_443 (lv_at hl 4 rfl) ?_
            refine lv_iconst (v := 5) hx hb dX12_execute_445 (by decide) ?_
            refine lv_icmp_ne (tgt := 464) hx hb dX12_execute_446 (by decide) (fun c45_ => ?_) (fun c45_ => ?_)
            · replace h := h.1 c45_
              refine lv_iload hx hb dX12_execute_464 (lv_at hl 4 rfl) ?_
              refine lv_bipush (v := 6) hx hb dX12_execute_466 (by decide) ?_
              refine lv_icmp_ne (tgt := 482) hx hb dX12_execute_468 (by decide) (fun c46_ => ?_) (fun c46_ => ?_)
              · replace h := h.1 c46_
                refine lv_aload_n hx hb dX12_execute_482 rfl (lv_at hl 0 rfl) ?_
                refine lv_iload hx hb dX12_execute_483 (lv_at hl 5 rfl) ?_
                refine lv_iload hx hb dX12_execute_485 (lv_at hl 6 rfl) ?_
                obtain ⟨k47_, h⟩ := h
                refine q_callV X Y hl (cm_X12_isBelow h) mt_X12_isBelow mi_X12_isBelow ml_X12_566 (ci := 12) rfl k47_ (by decide) rfl rfl (by first | exact Nat.le_of_ble_eq_true rfl | simp [q_cat, q_catI, q_catJ, q_catR]) ⟨Nat.le_of_ble_eq_true rfl, Nat.le_of_ble_eq_true rfl⟩ ⟨Nat.le_of_ble_eq_true rfl, Nat.le_of_ble_eq_true rfl⟩ dX12_execute_487 (fun r48_ S49_ H locs hp Y => ?_)
                obtain ⟨x50_, rfl, h⟩ := hp
                refine W.eq (g2 := F0 m 490 ls [.int x50_]) rfl ?_
                refine lv_if_ne (tgt := 497) hx hb dX12_execute_490 (by decide) (fun c51_ => ?_) (fun c51_ => ?_)
                · replace h := h.1 c51_
                  refine lv_iconst (v := 0) hx hb dX12_execute_497 (by decide) ?_
                  exact cb_X12_execute_498 X Y (lv_sub hl [0, 1, 2, 3] rfl) h
                · replace h := h.2 c51_
                  refine lv_iconst (v := 1) hx hb dX12_execute_493 (by decide) ?_
                  refine lv_goto (tgt := 498) hx hb dX12_execute_494 (by decide) ?_
                  exact cb_X12_execute_498 X Y (lv_sub hl [0, 1, 2, 3] rfl) h
              · replace h := h.2 c46_
                refine lv_aload_n hx hb dX12_execute_471 rfl (lv_at hl 0 rfl) ?_
                refine lv_iload hx hb dX12_execute_472 (lv_at hl 5 rfl) ?_
                refine lv_iload hx hb dX12_execute_474 (lv_at hl 6 rfl) ?_
                obtain ⟨k52_, h⟩ := h
                refine q_callV X Y hl (cm_X12_isBelow h) mt_X12_isBelow mi_X12_isBelow ml_X12_566 (ci := 12) rfl k52_ (by decide) rfl rfl (by first | exact Nat.le_of_ble_eq_true rfl | simp [q_cat, q_catI, q_catJ, q_catR]) ⟨Nat.le_of_ble_eq_true rfl, Nat.le_of_ble_eq_true rfl⟩ ⟨Nat.le_of_ble_eq_true rfl, Nat.le_of_ble_eq_true rfl⟩ dX12_execute_476 (fun r53_ S54_ H locs hp Y => ?_)
                obtain ⟨x55_, rfl, h⟩ := hp
                refine W.eq (g2 := F0 m 479 ls [.int x55_]) rfl ?_
                refine lv_goto (tgt := 498) hx hb dX12_execute_479 (by decide) ?_
                exact cb_X12_execute_498 X Y (lv_sub hl [0, 1, 2, 3] rfl) h
            · replace h := h.2 c45_
              refine lv_iload hx hb dX12_execute_449 (lv_at hl 5 rfl) ?_
              refine lv_iload hx hb dX12_execute_451 (lv_at hl 6 rfl) ?_
              refine lv_icmp_lt (tgt := 460) hx hb dX12_execute_453 (by decide) (fun c56_ => ?_) (fun c56_ => ?_)
              · replace h := h.1 c56_
                refine lv_iconst (v := 0) hx hb dX12_execute_460 (by decide) ?_
                refine lv_goto (tgt := 498) hx hb dX12_execute_461 (by decide) ?_
                exact cb_X12_execute_498 X Y (lv_sub hl [0, 1, 2, 3] rfl) h
              · replace h := h.2 c56_
                refine lv_iconst (v := 1) hx hb dX12_execute_456 (by decide) ?_
                refine lv_goto (tgt := 498) hx hb dX12_execute_457 (by decide) ?_
                exact cb_X12_execute_498 X Y (lv_sub hl [0, 1, 2, 3] rfl) h
          · replace h := h.2 c44_
            refine lv_iload hx hb dX12_execute_428 (lv_at hl 5 rfl) ?_
            refine lv_iload hx hb dX12_execute_430 (lv_at hl 6 rfl) ?_
            refine lv_icmp_ge (tgt := 439) hx hb dX12_execute_432 (by decide) (fun c57_ => ?_) (fun c57_ => ?_)
            · replace h := h.1 c57_
              refine lv_iconst (v := 0) hx hb dX12_execute_439 (by decide) ?_
              refine lv_goto (tgt := 498) hx hb dX12_execute_440 (by decide) ?_
              exact cb_X12_execute_498 X Y (lv_sub hl [0, 1, 2, 3] rfl) h
            · replace h := h.2 c57_
              refine lv_iconst (v := 1) hx hb dX12_execute_435 (by decide) ?_
              refine lv_goto (tgt := 498) hx hb dX12_execute_436 (by decide) ?_
              exact cb_X12_execute_498 X Y (lv_sub hl [0, 1, 2, 3] rfl) h
        · replace h := h.2 c43_
          refine lv_iload hx hb dX12_execute_407 (lv_at hl 5 rfl) ?_
          refine lv_iload hx hb dX12_execute_409 (lv_at hl 6 rfl) ?_
          refine lv_icmp_eq (tgt := 418) hx hb dX12_execute_411 (by decide) (fun c58_ => ?_) (fun c58_ => ?_)
          · replace h := h.1 c58_
            refine lv_iconst (v := 0) hx hb dX12_execute_418 (by decide) ?_
            refine lv_goto (tgt := 498) hx hb dX12_execute_419 (by decide) ?_
            exact cb_X12_execute_498 X Y (lv_sub hl [0, 1, 2, 3] rfl) h
          · replace h := h.2 c58_
            refine lv_iconst (v := 1) hx hb dX12_execute_414 (by decide) ?_
            refine lv_goto (tgt := 498) hx hb dX12_execute_415 (by decide) ?_
            exact cb_X12_execute_498 X Y (lv_sub hl [0, 1, 2, 3] rfl) h
      · replace h := h.2 c42_
        refine lv_iload hx hb dX12_execute_386 (lv_at hl 5 rfl) ?_
        refine lv_iload hx hb dX12_execute_388 (lv_at hl 6 rfl) ?_
        refine lv_icmp_ne (tgt := 397) hx hb dX12_execute_390 (by decide) (fun c59_ => ?_) (fun c59_ => ?_)
        · replace h := h.1 c59_
          refine lv_iconst (v := 0) hx hb dX12_execute_397 (by decide) ?_
          refine lv_goto (tgt := 498) hx hb dX12_execute_398 (by decide) ?_
          exact cb_X12_execute_498 X Y (lv_sub hl [0, 1, 2, 3] rfl) h
        · replace h := h.2 c59_
          refine lv_iconst (v := 1) hx hb dX12_execute_393 (by decide) ?_
          refine lv_goto (tgt := 498) hx hb dX12_execute_394 (by decide) ?_
          exact cb_X12_execute_498 X Y (lv_sub hl [0, 1, 2, 3] rfl) h
    · replace h := h.2 c41_
      exact cb_X12_execute_372 X Y (lv_sub hl [0, 1, 3] rfl) h
def wb_X12_execute_837  (S : q_S) (a0 : Nat) (x2 : Int32) (x3 : Int32) (Q : Option Value → q_S → Prop) : Prop := q_K S a0 = 13 ∧ (∃ a61_ : Nat, (q_P S 2468 a0) = some a61_ ∧ (q_K S a61_ = 21 ∧ (vp_in x2 (q_N S a61_) ∧ (Q none (qs_A S a61_ x2.toNatClampNeg (x3 + (4 : Int32)))))))
set_option maxHeartbeats 4000000 in
set_option maxRecDepth 100000 in
theorem cb_X12_execute_837 {p : Program} {l : Launch} {e : Env} {s : State} {m : MethodId} {args : Array Value} {below : List Frame} {meth : Method} {c : Code} {D : va_G} {cy : Nat → ClassId} {lo : Nat}  {S : q_S} {a0 : Nat} {x2 : Int32} {x3 : Int32} {Q : Option Value → q_S → Prop} {H : Heap} {locs : List Loc} {ls : Array Slot} (X : q_X p s m args meth c RX12 cX12_execute 14 none D cy lo)  (Y : q_Y D cy lo s S H locs) (hl : lv_has ls 14 [(0, .ref a0), (2, .int x2), (3, .int x3)]) (h : wb_X12_execute_837 S a0 x2 x3 Q) : W p l e ({ frames := 6, cells := 0, slots := 0, locals := 152 } : Room) s m args below meth c H locs 0 0 (MQ below (q_Q D cy lo Q) args s 0 0 (fun q => lo ≤ q)) (F0 m 837 ls []) := by
  have hx := X.1
  have hb := X.2.1
  unfold wb_X12_execute_837 at h
  refine lv_aload_n hx hb dX12_execute_837 rfl (lv_at hl 0 rfl) ?_
  obtain ⟨k60_, h⟩ := h
  refine q_getP X Y kX12 68 rfl fl_X12_152 k60_ rfl dX12_execute_838 ?_
  refine lv_iload_n hx hb dX12_execute_841 rfl (lv_at hl 1 rfl) ?_
  refine lv_iload_n hx hb dX12_execute_842 rfl (lv_at hl 2 rfl) ?_
  refine lv_iconst (v := 4) hx hb dX12_execute_843 (by decide) ?_
  refine lv_iadd hx hb dX12_execute_844 ?_
  obtain ⟨a61_, e62_, h⟩ := h
  refine q_nn [.int (x3 + (4 : Int32)), .int x2] e62_ ?_
  obtain ⟨k63_, h⟩ := h
  obtain ⟨i64_, h⟩ := h
  refine q_ist X Y k63_ i64_ dX12_execute_845 (fun H locs Y => ?_)
  exact q_vret X Y (Nat.le_refl _) (Nat.le_refl _) h dX12_execute_846
def wb_X12_execute_220  (S : q_S) (a0 : Nat) (x2 : Int32) (x3 : Int32) (x4 : Int32) (x5 : Int32) (Q : Option Value → q_S → Prop) : Prop := q_K S a0 = 13 ∧ (wm_X12_set S a0 x2 x5 (x4 &&& (-4096 : Int32)) (fun r66_ S67_ => r66_ = none ∧ (wb_X12_execute_837 S67_ a0 x2 x3 Q)))
set_option maxHeartbeats 4000000 in
set_option maxRecDepth 100000 in
theorem cb_X12_execute_220 {p : Program} {l : Launch} {e : Env} {s : State} {m : MethodId} {args : Array Value} {below : List Frame} {meth : Method} {c : Code} {D : va_G} {cy : Nat → ClassId} {lo : Nat}  {S : q_S} {a0 : Nat} {x2 : Int32} {x3 : Int32} {x4 : Int32} {x5 : Int32} {Q : Option Value → q_S → Prop} {H : Heap} {locs : List Loc} {ls : Array Slot} (X : q_X p s m args meth c RX12 cX12_execute 14 none D cy lo)  (Y : q_Y D cy lo s S H locs) (hl : lv_has ls 14 [(0, .ref a0), (2, .int x2), (3, .int x3), (4, .int x4), (5, .int x5)]) (h : wb_X12_execute_220 S a0 x2 x3 x4 x5 Q) : W p l e ({ frames := 6, cells := 0, slots := 0, locals := 152 } : Room) s m args below meth c H locs 0 0 (MQ below (q_Q D cy lo Q) args s 0 0 (fun q => lo ≤ q)) (F0 m 220 ls []) := by
  have hx := X.1
  have hb := X.2.1
  unfold wb_X12_execute_220 at h
  refine lv_aload_n hx hb dX12_execute_220 rfl (lv_at hl 0 rfl) ?_
  refine lv_iload_n hx hb dX12_execute_221 rfl (lv_at hl 1 rfl) ?_
  refine lv_iload hx hb dX12_execute_222 (lv_at hl 4 rfl) ?_
  refine lv_iload hx hb dX12_execute_224 (lv_at hl 3 rfl) ?_
  refine lv_sipush (v := (-4096)) hx hb dX12_execute_226 (by decide) ?_
  refine lv_iand hx hb dX12_execute_229 ?_
  obtain ⟨k65_, h⟩ := h
  refine q_callV X Y hl (cm_X12_set h) mt_X12_set mi_X12_set ml_X12_563 (ci := 12) rfl k65_ (by decide) rfl rfl (by first | exact Nat.le_of_ble_eq_true rfl | simp [q_cat, q_catI, q_catJ, q_catR]) ⟨Nat.le_of_ble_eq_true rfl, Nat.le_of_ble_eq_true rfl⟩ ⟨Nat.le_of_ble_eq_true rfl, Nat.le_of_ble_eq_true rfl⟩ dX12_execute_230 (fun r66_ S67_ H locs hp Y => ?_)
  obtain ⟨rfl, h⟩ := hp
  refine W.eq (g2 := F0 m 233 ls []) rfl ?_
  refine lv_goto (tgt := 837) hx hb dX12_execute_233 (by decide) ?_
  exact cb_X12_execute_837 X Y (lv_sub hl [0, 1, 2] rfl) h
def wb_X12_execute_750  (S : q_S) (a0 : Nat) (x2 : Int32) (x4 : Int32) (Q : Option Value → q_S → Prop) : Prop := q_K S a0 = 13 ∧ (wm_X12_fails S a0 x2 (0 : Int32) x4 (fun r69_ S70_ => r69_ = none ∧ (Q none S70_)))
set_option maxHeartbeats 4000000 in
set_option maxRecDepth 100000 in
theorem cb_X12_execute_750 {p : Program} {l : Launch} {e : Env} {s : State} {m : MethodId} {args : Array Value} {below : List Frame} {meth : Method} {c : Code} {D : va_G} {cy : Nat → ClassId} {lo : Nat}  {S : q_S} {a0 : Nat} {x2 : Int32} {x4 : Int32} {Q : Option Value → q_S → Prop} {H : Heap} {locs : List Loc} {ls : Array Slot} (X : q_X p s m args meth c RX12 cX12_execute 14 none D cy lo)  (Y : q_Y D cy lo s S H locs) (hl : lv_has ls 14 [(0, .ref a0), (2, .int x2), (4, .int x4)]) (h : wb_X12_execute_750 S a0 x2 x4 Q) : W p l e ({ frames := 6, cells := 0, slots := 0, locals := 152 } : Room) s m args below meth c H locs 0 0 (MQ below (q_Q D cy lo Q) args s 0 0 (fun q => lo ≤ q)) (F0 m 750 ls []) := by
  have hx := X.1
  have hb := X.2.1
  unfold wb_X12_execute_750 at h
  refine lv_aload_n hx hb dX12_execute_750 rfl (lv_at hl 0 rfl) ?_
  refine lv_iload_n hx hb dX12_execute_751 rfl (lv_at hl 1 rfl) ?_
  refine lv_iconst (v := 0) hx hb dX12_execute_752 (by decide) ?_
  refine lv_iload hx hb dX12_execute_753 (lv_at hl 2 rfl) ?_
  obtain ⟨k68_, h⟩ := h
  refine q_callV X Y hl (cm_X12_fails h) mt_X12_fails mi_X12_fails ml_X12_521 (ci := 12) rfl k68_ (by decide) rfl rfl (by first | exact Nat.le_of_ble_eq_true rfl | simp [q_cat, q_catI, q_catJ, q_catR]) ⟨Nat.le_of_ble_eq_true rfl, Nat.le_of_ble_eq_true rfl⟩ ⟨Nat.le_of_ble_eq_true rfl, Nat.le_of_ble_eq_true rfl⟩ dX12_execute_755 (fun r69_ S70_ H locs hp Y => ?_)
  obtain ⟨rfl, h⟩ := hp
  refine W.eq (g2 := F0 m 758 ls []) rfl ?_
  exact q_vret X Y (Nat.le_refl _) (Nat.le_refl _) h dX12_execute_758
def wb_X12_execute_805  (S : q_S) (a0 : Nat) (x2 : Int32) (x3 : Int32) (as0 : Nat) (xs1 : Int32) (xs2 : Int32) (xs3 : Int32) (Q : Option Value → q_S → Prop) : Prop := q_K S as0 = 13 ∧ (wm_X12_set S as0 xs1 xs2 xs3 (fun r72_ S73_ => r72_ = none ∧ (wb_X12_execute_837 S73_ a0 x2 x3 Q)))
set_option maxHeartbeats 4000000 in
set_option maxRecDepth 100000 in
theorem cb_X12_execute_805 {p : Program} {l : Launch} {e : Env} {s : State} {m : MethodId} {args : Array Value} {below : List Frame} {meth : Method} {c : Code} {D : va_G} {cy : Nat → ClassId} {lo : Nat}  {S : q_S} {a0 : Nat} {x2 : Int32} {x3 : Int32} {as0 : Nat} {xs1 : Int32} {xs2 : Int32} {xs3 : Int32} {Q : Option Value → q_S → Prop} {H : Heap} {locs : List Loc} {ls : Array Slot} (X : q_X p s m args meth c RX12 cX12_execute 14 none D cy lo)  (Y : q_Y D cy lo s S H locs) (hl : lv_has ls 14 [(0, .ref a0), (2, .int x2), (3, .int x3)]) (h : wb_X12_execute_805 S a0 x2 x3 as0 xs1 xs2 xs3 Q) : W p l e ({ frames := 6, cells := 0, slots := 0, locals := 152 } : Room) s m args below meth c H locs 0 0 (MQ below (q_Q D cy lo Q) args s 0 0 (fun q => lo ≤ q)) (F0 m 805 ls [.int xs3, .int xs2, .int xs1, .ref as0]) := by
  have hx := X.1
  have hb := X.2.1
  unfold wb_X12_execute_805 at h
  obtain ⟨k71_, h⟩ := h
  refine q_callV X Y hl (cm_X12_set h) mt_X12_set mi_X12_set ml_X12_563 (ci := 12) rfl k71_ (by decide) rfl rfl (by first | exact Nat.le_of_ble_eq_true rfl | simp [q_cat, q_catI, q_catJ, q_catR]) ⟨Nat.le_of_ble_eq_true rfl, Nat.le_of_ble_eq_true rfl⟩ ⟨Nat.le_of_ble_eq_true rfl, Nat.le_of_ble_eq_true rfl⟩ dX12_execute_805 (fun r72_ S73_ H locs hp Y => ?_)
  obtain ⟨rfl, h⟩ := hp
  refine W.eq (g2 := F0 m 808 ls []) rfl ?_
  refine lv_goto (tgt := 837) hx hb dX12_execute_808 (by decide) ?_
  exact cb_X12_execute_837 X Y (lv_sub hl [0, 1, 2] rfl) h
def wb_X12_execute_802  (S : q_S) (a0 : Nat) (x2 : Int32) (x3 : Int32) (as0 : Nat) (xs1 : Int32) (xs2 : Int32) (as3 : Nat) (xs4 : Int32) (xs5 : Int32) (xs6 : Int32) (xs7 : Int32) (Q : Option Value → q_S → Prop) : Prop := q_K S as3 = 13 ∧ (wm_X12_reckoned S as3 xs4 xs5 xs6 xs7 (fun r75_ S76_ => ∃ x77_ : Int32, r75_ = some (.int x77_) ∧ (wb_X12_execute_805 S76_ a0 x2 x3 as0 xs1 xs2 x77_ Q)))
set_option maxHeartbeats 4000000 in
set_option maxRecDepth 100000 in
theorem cb_X12_execute_802 {p : Program} {l : Launch} {e : Env} {s : State} {m : MethodId} {args : Array Value} {below : List Frame} {meth : Method} {c : Code} {D : va_G} {cy : Nat → ClassId} {lo : Nat}  {S : q_S} {a0 : Nat} {x2 : Int32} {x3 : Int32} {as0 : Nat} {xs1 : Int32} {xs2 : Int32} {as3 : Nat} {xs4 : Int32} {xs5 : Int32} {xs6 : Int32} {xs7 : Int32} {Q : Option Value → q_S → Prop} {H : Heap} {locs : List Loc} {ls : Array Slot} (X : q_X p s m args meth c RX12 cX12_execute 14 none D cy lo)  (Y : q_Y D cy lo s S H locs) (hl : lv_has ls 14 [(0, .ref a0), (2, .int x2), (3, .int x3)]) (h : wb_X12_execute_802 S a0 x2 x3 as0 xs1 xs2 as3 xs4 xs5 xs6 xs7 Q) : W p l e ({ frames := 6, cells := 0, slots := 0, locals := 152 } : Room) s m args below meth c H locs 0 0 (MQ below (q_Q D cy lo Q) args s 0 0 (fun q => lo ≤ q)) (F0 m 802 ls [.int xs7, .int xs6, .int xs5, .int xs4, .ref as3, .int xs2, .int xs1, .ref as0]) := by
  have hx := X.1
  have hb := X.2.1
  unfold wb_X12_execute_802 at h
  obtain ⟨k74_, h⟩ := h
  refine q_callV X Y hl (cm_X12_reckoned h) mt_X12_reckoned mi_X12_reckoned ml_X12_576 (ci := 12) rfl k74_ (by decide) rfl rfl (by first | exact Nat.le_of_ble_eq_true rfl | simp [q_cat, q_catI, q_catJ, q_catR]) ⟨Nat.le_of_ble_eq_true rfl, Nat.le_of_ble_eq_true rfl⟩ ⟨Nat.le_of_ble_eq_true rfl, Nat.le_of_ble_eq_true rfl⟩ dX12_execute_802 (fun r75_ S76_ H locs hp Y => ?_)
  obtain ⟨x77_, rfl, h⟩ := hp
  refine W.eq (g2 := F0 m 805 ls [.int x77_, .int xs2, .int xs1, .ref as0]) rfl ?_
  exact cb_X12_execute_805 X Y (lv_sub hl [0, 1, 2] rfl) h
def wb_X12_execute_783  (S : q_S) (a0 : Nat) (x2 : Int32) (x3 : Int32) (x6 : Int32) (x7 : Int32) (x8 : Int32) (x9 : Int32) (as0 : Nat) (xs1 : Int32) (xs2 : Int32) (Q : Option Value → q_S → Prop) : Prop := ((¬ x9 = (32 : Int32) → (wb_X12_execute_802 S a0 x2 x3 as0 xs1 xs2 a0 x6 x7 x8 (0 : Int32) Q)) ∧ (x9 = (32 : Int32) → (wb_X12_execute_802 S a0 x2 x3 as0 xs1 xs2 a0 x6 x7 x8 (1 : Int32) Q)))
set_option maxHeartbeats 4000000 in
set_option maxRecDepth 100000 in
theorem cb_X12_execute_783 {p : Program} {l : Launch} {e : Env} {s : State} {m : MethodId} {args : Array Value} {below : List Frame} {meth : Method} {c : Code} {D : va_G} {cy : Nat → ClassId} {lo : Nat}  {S : q_S} {a0 : Nat} {x2 : Int32} {x3 : Int32} {x6 : Int32} {x7 : Int32} {x8 : Int32} {x9 : Int32} {as0 : Nat} {xs1 : Int32} {xs2 : Int32} {Q : Option Value → q_S → Prop} {H : Heap} {locs : List Loc} {ls : Array Slot} (X : q_X p s m args meth c RX12 cX12_execute 14 none D cy lo)  (Y : q_Y D cy lo s S H locs) (hl : lv_has ls 14 [(0, .ref a0), (2, .int x2), (3, .int x3), (6, .int x6), (7, .int x7), (8, .int x8), (9, .int x9)]) (h : wb_X12_execute_783 S a0 x2 x3 x6 x7 x8 x9 as0 xs1 xs2 Q) : W p l e ({ frames := 6, cells := 0, slots := 0, locals := 152 } : Room) s m args below meth c H locs 0 0 (MQ below (q_Q D cy lo Q) args s 0 0 (fun q => lo ≤ q)) (F0 m 783 ls [.int xs2, .int xs1, .ref as0]) := by
  have hx := X.1
  have hb := X.2.1
  unfold wb_X12_execute_783 at h
  refine lv_aload_n hx hb dX12_execute_783 rfl (lv_at hl 0 rfl) ?_
  refine lv_iload hx hb dX12_execute_784 (lv_at hl 3 rfl) ?_
  refine lv_iload hx hb dX12_execute_786 (lv_at hl 4 rfl) ?_
  refine lv_iload hx hb dX12_execute_788 (lv_at hl 5 rfl) ?_
  refine lv_iload hx hb dX12_execute_790 (lv_at hl 6 rfl) ?_
  refine lv_bipush (v := 32) hx hb dX12_execute_792 (by decide) ?_
  refine lv_icmp_ne (tgt := 801) hx hb dX12_execute_794 (by decide) (fun c78_ => ?_) (fun c78_ => ?_)
  · replace h := h.1 c78_
    refine lv_iconst (v := 0) hx hb dX12_execute_801 (by decide) ?_
    exact cb_X12_execute_802 X Y (lv_sub hl [0, 1, 2] rfl) h
  · replace h := h.2 c78_
    refine lv_iconst (v := 1) hx hb dX12_execute_797 (by decide) ?_
    refine lv_goto (tgt := 802) hx hb dX12_execute_798 (by decide) ?_
    exact cb_X12_execute_802 X Y (lv_sub hl [0, 1, 2] rfl) h
def wb_X12_execute_759  (S : q_S) (a0 : Nat) (x2 : Int32) (x3 : Int32) (x5 : Int32) (x6 : Int32) (x7 : Int32) (x8 : Int32) (x9 : Int32) (Q : Option Value → q_S → Prop) : Prop := ((¬ x6 = 0 → (wb_X12_execute_783 S a0 x2 x3 x6 x7 x8 x9 a0 x2 x5 Q)) ∧ (x6 = 0 → (((¬ x9 = (32 : Int32) → (wb_X12_execute_783 S a0 x2 x3 x6 x7 x8 x9 a0 x2 x5 Q)) ∧ (x9 = (32 : Int32) → (wb_X12_execute_805 S a0 x2 x3 a0 x2 x5 (x7 - x8) Q))))))
set_option maxHeartbeats 4000000 in
set_option maxRecDepth 100000 in
theorem cb_X12_execute_759 {p : Program} {l : Launch} {e : Env} {s : State} {m : MethodId} {args : Array Value} {below : List Frame} {meth : Method} {c : Code} {D : va_G} {cy : Nat → ClassId} {lo : Nat}  {S : q_S} {a0 : Nat} {x2 : Int32} {x3 : Int32} {x5 : Int32} {x6 : Int32} {x7 : Int32} {x8 : Int32} {x9 : Int32} {Q : Option Value → q_S → Prop} {H : Heap} {locs : List Loc} {ls : Array Slot} (X : q_X p s m args meth c RX12 cX12_execute 14 none D cy lo)  (Y : q_Y D cy lo s S H locs) (hl : lv_has ls 14 [(0, .ref a0), (2, .int x2), (3, .int x3), (5, .int x5), (6, .int x6), (7, .int x7), (8, .int x8), (9, .int x9)]) (h : wb_X12_execute_759 S a0 x2 x3 x5 x6 x7 x8 x9 Q) : W p l e ({ frames := 6, cells := 0, slots := 0, locals := 152 } : Room) s m args below meth c H locs 0 0 (MQ below (q_Q D cy lo Q) args s 0 0 (fun q => lo ≤ q)) (F0 m 759 ls []) := by
  have hx := X.1
  have hb := X.2.1
  unfold wb_X12_execute_759 at h
  refine lv_aload_n hx hb dX12_execute_759 rfl (lv_at hl 0 rfl) ?_
  refine lv_iload_n hx hb dX12_execute_760 rfl (lv_at hl 1 rfl) ?_
  refine lv_iload hx hb dX12_execute_761 (lv_at hl 3 rfl) ?_
  refine lv_iload hx hb dX12_execute_763 (lv_at hl 4 rfl) ?_
  refine lv_if_ne (tgt := 783) hx hb dX12_execute_765 (by decide) (fun c79_ => ?_) (fun c79_ => ?_)
  · replace h := h.1 c79_
    exact cb_X12_execute_783 X Y (lv_sub hl [0, 1, 2, 4, 5, 6, 7] rfl) h
  · replace h := h.2 c79_
    refine lv_iload hx hb dX12_execute_768 (lv_at hl 7 rfl) ?_
    refine lv_bipush (v := 32) hx hb dX12_execute_770 (by decide) ?_
    refine lv_icmp_ne (tgt := 783) hx hb dX12_execute_772 (by decide) (fun c80_ => ?_) (fun c80_ => ?_)
    · replace h := h.1 c80_
      exact cb_X12_execute_783 X Y (lv_sub hl [0, 1, 2, 4, 5, 6, 7] rfl) h
    · replace h := h.2 c80_
      refine lv_iload hx hb dX12_execute_775 (lv_at hl 5 rfl) ?_
      refine lv_iload hx hb dX12_execute_777 (lv_at hl 6 rfl) ?_
      refine lv_isub hx hb dX12_execute_779 ?_
      refine lv_goto (tgt := 805) hx hb dX12_execute_780 (by decide) ?_
      exact cb_X12_execute_805 X Y (lv_sub hl [0, 1, 2] rfl) h
def wb_X12_execute_727  (S : q_S) (a0 : Nat) (x2 : Int32) (x3 : Int32) (x4 : Int32) (x5 : Int32) (x6 : Int32) (x7 : Int32) (x8 : Int32) (x9 : Int32) (Q : Option Value → q_S → Prop) : Prop := ((x9 = 0 → (wb_X12_execute_759 S a0 x2 x3 x5 x6 x7 x8 x9 Q)) ∧ (¬ x9 = 0 → (((¬ x9 = (32 : Int32) → (wb_X12_execute_750 S a0 x2 x4 Q)) ∧ (x9 = (32 : Int32) → (((x6 = 0 → (wb_X12_execute_759 S a0 x2 x3 x5 x6 x7 x8 x9 Q)) ∧ (¬ x6 = 0 → (((x6 = (5 : Int32) → (wb_X12_execute_759 S a0 x2 x3 x5 x6 x7 x8 x9 Q)) ∧ (¬ x6 = (5 : Int32) → (wb_X12_execute_750 S a0 x2 x4 Q))))))))))))
set_option maxHeartbeats 4000000 in
set_option maxRecDepth 100000 in
theorem cb_X12_execute_727 {p : Program} {l : Launch} {e : Env} {s : State} {m : MethodId} {args : Array Value} {below : List Frame} {meth : Method} {c : Code} {D : va_G} {cy : Nat → ClassId} {lo : Nat}  {S : q_S} {a0 : Nat} {x2 : Int32} {x3 : Int32} {x4 : Int32} {x5 : Int32} {x6 : Int32} {x7 : Int32} {x8 : Int32} {x9 : Int32} {Q : Option Value → q_S → Prop} {H : Heap} {locs : List Loc} {ls : Array Slot} (X : q_X p s m args meth c RX12 cX12_execute 14 none D cy lo)  (Y : q_Y D cy lo s S H locs) (hl : lv_has ls 14 [(0, .ref a0), (2, .int x2), (3, .int x3), (4, .int x4), (5, .int x5), (6, .int x6), (7, .int x7), (8, .int x8), (9, .int x9)]) (h : wb_X12_execute_727 S a0 x2 x3 x4 x5 x6 x7 x8 x9 Q) : W p l e ({ frames := 6, cells := 0, slots := 0, locals := 152 } : Room) s m args below meth c H locs 0 0 (MQ below (q_Q D cy lo Q) args s 0 0 (fun q => lo ≤ q)) (F0 m 727 ls []) := by
  have hx := X.1
  have hb := X.2.1
  unfold wb_X12_execute_727 at h
  refine lv_iload hx hb dX12_execute_727 (lv_at hl 8 rfl) ?_
  refine lv_if_eq (tgt := 759) hx hb dX12_execute_729 (by decide) (fun c81_ => ?_) (fun c81_ => ?_)
  · replace h := h.1 c81_
    exact cb_X12_execute_759 X Y (lv_sub hl [0, 1, 2, 4, 5, 6, 7, 8] rfl) h
  · replace h := h.2 c81_
    refine lv_iload hx hb dX12_execute_732 (lv_at hl 8 rfl) ?_
    refine lv_bipush (v := 32) hx hb dX12_execute_734 (by decide) ?_
    refine lv_icmp_ne (tgt := 750) hx hb dX12_execute_736 (by decide) (fun c82_ => ?_) (fun c82_ => ?_)
    · replace h := h.1 c82_
      exact cb_X12_execute_750 X Y (lv_sub hl [0, 1, 3] rfl) h
    · replace h := h.2 c82_
      refine lv_iload hx hb dX12_execute_739 (lv_at hl 5 rfl) ?_
      refine lv_if_eq (tgt := 759) hx hb dX12_execute_741 (by decide) (fun c83_ => ?_) (fun c83_ => ?_)
      · replace h := h.1 c83_
        exact cb_X12_execute_759 X Y (lv_sub hl [0, 1, 2, 4, 5, 6, 7, 8] rfl) h
      · replace h := h.2 c83_
        refine lv_iload hx hb dX12_execute_744 (lv_at hl 5 rfl) ?_
        refine lv_iconst (v := 5) hx hb dX12_execute_746 (by decide) ?_
        refine lv_icmp_eq (tgt := 759) hx hb dX12_execute_747 (by decide) (fun c84_ => ?_) (fun c84_ => ?_)
        · replace h := h.1 c84_
          exact cb_X12_execute_759 X Y (lv_sub hl [0, 1, 2, 4, 5, 6, 7, 8] rfl) h
        · replace h := h.2 c84_
          exact cb_X12_execute_750 X Y (lv_sub hl [0, 1, 3] rfl) h
def wb_X12_execute_650  (S : q_S) (Q : Option Value → q_S → Prop) : Prop := Q none S
set_option maxHeartbeats 4000000 in
set_option maxRecDepth 100000 in
theorem cb_X12_execute_650 {p : Program} {l : Launch} {e : Env} {s : State} {m : MethodId} {args : Array Value} {below : List Frame} {meth : Method} {c : Code} {D : va_G} {cy : Nat → ClassId} {lo : Nat}  {S : q_S} {Q : Option Value → q_S → Prop} {H : Heap} {locs : List Loc} {ls : Array Slot} (X : q_X p s m args meth c RX12 cX12_execute 14 none D cy lo)  (Y : q_Y D cy lo s S H locs) (hl : lv_has ls 14 []) (h : wb_X12_execute_650 S Q) : W p l e ({ frames := 6, cells := 0, slots := 0, locals := 152 } : Room) s m args below meth c H locs 0 0 (MQ below (q_Q D cy lo Q) args s 0 0 (fun q => lo ≤ q)) (F0 m 650 ls []) := by
  have hx := X.1
  have hb := X.2.1
  unfold wb_X12_execute_650 at h
  exact q_vret X Y (Nat.le_refl _) (Nat.le_refl _) h dX12_execute_650
def wb_X12_execute_604  (S : q_S) (a0 : Nat) (x1 : Int32) (x2 : Int32) (x4 : Int32) (x6 : Int32) (x7 : Int32) (x8 : Int32) (Q : Option Value → q_S → Prop) : Prop := ((x6 ≤ (2 : Int32) → (q_K S a0 = 13 ∧ (wm_X12_store S a0 x1 x2 x6 (x7 + (((x4 >>> ((25 : Int32) &&& 31)) <<< ((5 : Int32) &&& 31)) ||| ((x4 >>> ((7 : Int32) &&& 31)) &&& (31 : Int32)))) x8 (fun r87_ S88_ => r87_ = none ∧ (wb_X12_execute_650 S88_ Q))))) ∧ (¬ x6 ≤ (2 : Int32) → (q_K S a0 = 13 ∧ (wm_X12_fails S a0 x2 (0 : Int32) x4 (fun r90_ S91_ => r90_ = none ∧ (wb_X12_execute_650 S91_ Q))))))
set_option maxHeartbeats 4000000 in
set_option maxRecDepth 100000 in
theorem cb_X12_execute_604 {p : Program} {l : Launch} {e : Env} {s : State} {m : MethodId} {args : Array Value} {below : List Frame} {meth : Method} {c : Code} {D : va_G} {cy : Nat → ClassId} {lo : Nat}  {S : q_S} {a0 : Nat} {x1 : Int32} {x2 : Int32} {x4 : Int32} {x6 : Int32} {x7 : Int32} {x8 : Int32} {Q : Option Value → q_S → Prop} {H : Heap} {locs : List Loc} {ls : Array Slot} (X : q_X p s m args meth c RX12 cX12_execute 14 none D cy lo)  (Y : q_Y D cy lo s S H locs) (hl : lv_has ls 14 [(0, .ref a0), (1, .int x1), (2, .int x2), (4, .int x4), (6, .int x6), (7, .int x7), (8, .int x8)]) (h : wb_X12_execute_604 S a0 x1 x2 x4 x6 x7 x8 Q) : W p l e ({ frames := 6, cells := 0, slots := 0, locals := 152 } : Room) s m args below meth c H locs 0 0 (MQ below (q_Q D cy lo Q) args s 0 0 (fun q => lo ≤ q)) (F0 m 604 ls []) := by
  have hx := X.1
  have hb := X.2.1
  unfold wb_X12_execute_604 at h
  refine lv_iload hx hb dX12_execute_604 (lv_at hl 4 rfl) ?_
  refine lv_iconst (v := 2) hx hb dX12_execute_606 (by decide) ?_
  refine lv_icmp_le (tgt := 621) hx hb dX12_execute_607 (by decide) (fun c85_ => ?_) (fun c85_ => ?_)
  · replace h := h.1 c85_
    refine lv_aload_n hx hb dX12_execute_621 rfl (lv_at hl 0 rfl) ?_
    refine lv_iload_n hx hb dX12_execute_622 rfl (lv_at hl 1 rfl) ?_
    refine lv_iload_n hx hb dX12_execute_623 rfl (lv_at hl 2 rfl) ?_
    refine lv_iload hx hb dX12_execute_624 (lv_at hl 4 rfl) ?_
    refine lv_iload hx hb dX12_execute_626 (lv_at hl 5 rfl) ?_
    refine lv_iload hx hb dX12_execute_628 (lv_at hl 3 rfl) ?_
    refine lv_bipush (v := 25) hx hb dX12_execute_630 (by decide) ?_
    refine lv_ishr hx hb dX12_execute_632 ?_
    refine lv_iconst (v := 5) hx hb dX12_execute_633 (by decide) ?_
    refine lv_ishl hx hb dX12_execute_634 ?_
    refine lv_iload hx hb dX12_execute_635 (lv_at hl 3 rfl) ?_
    refine lv_bipush (v := 7) hx hb dX12_execute_637 (by decide) ?_
    refine lv_ishr hx hb dX12_execute_639 ?_
    refine lv_bipush (v := 31) hx hb dX12_execute_640 (by decide) ?_
    refine lv_iand hx hb dX12_execute_642 ?_
    refine lv_ior hx hb dX12_execute_643 ?_
    refine lv_iadd hx hb dX12_execute_644 ?_
    refine lv_iload hx hb dX12_execute_645 (lv_at hl 6 rfl) ?_
    obtain ⟨k86_, h⟩ := h
    refine q_callV X Y hl (cm_X12_store h) mt_X12_store mi_X12_store ml_X12_573 (ci := 12) rfl k86_ (by decide) rfl rfl (by first | exact Nat.le_of_ble_eq_true rfl | simp [q_cat, q_catI, q_catJ, q_catR]) ⟨Nat.le_of_ble_eq_true rfl, Nat.le_of_ble_eq_true rfl⟩ ⟨Nat.le_of_ble_eq_true rfl, Nat.le_of_ble_eq_true rfl⟩ dX12_execute_647 (fun r87_ S88_ H locs hp Y => ?_)
    obtain ⟨rfl, h⟩ := hp
    refine W.eq (g2 := F0 m 650 ls []) rfl ?_
    exact cb_X12_execute_650 X Y (lv_sub hl [] rfl) h
  · replace h := h.2 c85_
    refine lv_aload_n hx hb dX12_execute_610 rfl (lv_at hl 0 rfl) ?_
    refine lv_iload_n hx hb dX12_execute_611 rfl (lv_at hl 2 rfl) ?_
    refine lv_iconst (v := 0) hx hb dX12_execute_612 (by decide) ?_
    refine lv_iload hx hb dX12_execute_613 (lv_at hl 3 rfl) ?_
    obtain ⟨k89_, h⟩ := h
    refine q_callV X Y hl (cm_X12_fails h) mt_X12_fails mi_X12_fails ml_X12_521 (ci := 12) rfl k89_ (by decide) rfl rfl (by first | exact Nat.le_of_ble_eq_true rfl | simp [q_cat, q_catI, q_catJ, q_catR]) ⟨Nat.le_of_ble_eq_true rfl, Nat.le_of_ble_eq_true rfl⟩ ⟨Nat.le_of_ble_eq_true rfl, Nat.le_of_ble_eq_true rfl⟩ dX12_execute_615 (fun r90_ S91_ H locs hp Y => ?_)
    obtain ⟨rfl, h⟩ := hp
    refine W.eq (g2 := F0 m 618 ls []) rfl ?_
    refine lv_goto (tgt := 650) hx hb dX12_execute_618 (by decide) ?_
    exact cb_X12_execute_650 X Y (lv_sub hl [] rfl) h
def wb_X12_execute_236  (S : q_S) (a0 : Nat) (x2 : Int32) (x3 : Int32) (x4 : Int32) (x5 : Int32) (Q : Option Value → q_S → Prop) : Prop := q_K S a0 = 13 ∧ (wm_X12_set S a0 x2 x5 (x3 + (x4 &&& (-4096 : Int32))) (fun r93_ S94_ => r93_ = none ∧ (wb_X12_execute_837 S94_ a0 x2 x3 Q)))
set_option maxHeartbeats 4000000 in
set_option maxRecDepth 100000 in
theorem cb_X12_execute_236 {p : Program} {l : Launch} {e : Env} {s : State} {m : MethodId} {args : Array Value} {below : List Frame} {meth : Method} {c : Code} {D : va_G} {cy : Nat → ClassId} {lo : Nat}  {S : q_S} {a0 : Nat} {x2 : Int32} {x3 : Int32} {x4 : Int32} {x5 : Int32} {Q : Option Value → q_S → Prop} {H : Heap} {locs : List Loc} {ls : Array Slot} (X : q_X p s m args meth c RX12 cX12_execute 14 none D cy lo)  (Y : q_Y D cy lo s S H locs) (hl : lv_has ls 14 [(0, .ref a0), (2, .int x2), (3, .int x3), (4, .int x4), (5, .int x5)]) (h : wb_X12_execute_236 S a0 x2 x3 x4 x5 Q) : W p l e ({ frames := 6, cells := 0, slots := 0, locals := 152 } : Room) s m args below meth c H locs 0 0 (MQ below (q_Q D cy lo Q) args s 0 0 (fun q => lo ≤ q)) (F0 m 236 ls []) := by
  have hx := X.1
  have hb := X.2.1
  unfold wb_X12_execute_236 at h
  refine lv_aload_n hx hb dX12_execute_236 rfl (lv_at hl 0 rfl) ?_
  refine lv_iload_n hx hb dX12_execute_237 rfl (lv_at hl 1 rfl) ?_
  refine lv_iload hx hb dX12_execute_238 (lv_at hl 4 rfl) ?_
  refine lv_iload_n hx hb dX12_execute_240 rfl (lv_at hl 2 rfl) ?_
  refine lv_iload hx hb dX12_execute_241 (lv_at hl 3 rfl) ?_
  refine lv_sipush (v := (-4096)) hx hb dX12_execute_243 (by decide) ?_
  refine lv_iand hx hb dX12_execute_246 ?_
  refine lv_iadd hx hb dX12_execute_247 ?_
  obtain ⟨k92_, h⟩ := h
  refine q_callV X Y hl (cm_X12_set h) mt_X12_set mi_X12_set ml_X12_563 (ci := 12) rfl k92_ (by decide) rfl rfl (by first | exact Nat.le_of_ble_eq_true rfl | simp [q_cat, q_catI, q_catJ, q_catR]) ⟨Nat.le_of_ble_eq_true rfl, Nat.le_of_ble_eq_true rfl⟩ ⟨Nat.le_of_ble_eq_true rfl, Nat.le_of_ble_eq_true rfl⟩ dX12_execute_248 (fun r93_ S94_ H locs hp Y => ?_)
  obtain ⟨rfl, h⟩ := hp
  refine W.eq (g2 := F0 m 251 ls []) rfl ?_
  refine lv_goto (tgt := 837) hx hb dX12_execute_251 (by decide) ?_
  exact cb_X12_execute_837 X Y (lv_sub hl [0, 1, 2] rfl) h
def wb_X12_execute_680  (S : q_S) (a0 : Nat) (x2 : Int32) (x4 : Int32) (Q : Option Value → q_S → Prop) : Prop := q_K S a0 = 13 ∧ (wm_X12_fails S a0 x2 (0 : Int32) x4 (fun r96_ S97_ => r96_ = none ∧ (Q none S97_)))
set_option maxHeartbeats 4000000 in
set_option maxRecDepth 100000 in
theorem cb_X12_execute_680 {p : Program} {l : Launch} {e : Env} {s : State} {m : MethodId} {args : Array Value} {below : List Frame} {meth : Method} {c : Code} {D : va_G} {cy : Nat → ClassId} {lo : Nat}  {S : q_S} {a0 : Nat} {x2 : Int32} {x4 : Int32} {Q : Option Value → q_S → Prop} {H : Heap} {locs : List Loc} {ls : Array Slot} (X : q_X p s m args meth c RX12 cX12_execute 14 none D cy lo)  (Y : q_Y D cy lo s S H locs) (hl : lv_has ls 14 [(0, .ref a0), (2, .int x2), (4, .int x4)]) (h : wb_X12_execute_680 S a0 x2 x4 Q) : W p l e ({ frames := 6, cells := 0, slots := 0, locals := 152 } : Room) s m args below meth c H locs 0 0 (MQ below (q_Q D cy lo Q) args s 0 0 (fun q => lo ≤ q)) (F0 m 680 ls []) := by
  have hx := X.1
  have hb := X.2.1
  unfold wb_X12_execute_680 at h
  refine lv_aload_n hx hb dX12_execute_680 rfl (lv_at hl 0 rfl) ?_
  refine lv_iload_n hx hb dX12_execute_681 rfl (lv_at hl 1 rfl) ?_
  refine lv_iconst (v := 0) hx hb dX12_execute_682 (by decide) ?_
  refine lv_iload hx hb dX12_execute_683 (lv_at hl 2 rfl) ?_
  obtain ⟨k95_, h⟩ := h
  refine q_callV X Y hl (cm_X12_fails h) mt_X12_fails mi_X12_fails ml_X12_521 (ci := 12) rfl k95_ (by decide) rfl rfl (by first | exact Nat.le_of_ble_eq_true rfl | simp [q_cat, q_catI, q_catJ, q_catR]) ⟨Nat.le_of_ble_eq_true rfl, Nat.le_of_ble_eq_true rfl⟩ ⟨Nat.le_of_ble_eq_true rfl, Nat.le_of_ble_eq_true rfl⟩ dX12_execute_685 (fun r96_ S97_ H locs hp Y => ?_)
  obtain ⟨rfl, h⟩ := hp
  refine W.eq (g2 := F0 m 688 ls []) rfl ?_
  exact q_vret X Y (Nat.le_refl _) (Nat.le_refl _) h dX12_execute_688
def wb_X12_execute_718  (S : q_S) (a0 : Nat) (x2 : Int32) (x3 : Int32) (as0 : Nat) (xs1 : Int32) (xs2 : Int32) (as3 : Nat) (xs4 : Int32) (xs5 : Int32) (xs6 : Int32) (xs7 : Int32) (Q : Option Value → q_S → Prop) : Prop := q_K S as3 = 13 ∧ (wm_X12_reckoned S as3 xs4 xs5 xs6 xs7 (fun r99_ S100_ => ∃ x101_ : Int32, r99_ = some (.int x101_) ∧ (q_K S100_ as0 = 13 ∧ (wm_X12_set S100_ as0 xs1 xs2 x101_ (fun r103_ S104_ => r103_ = none ∧ (wb_X12_execute_837 S104_ a0 x2 x3 Q))))))
set_option maxHeartbeats 4000000 in
set_option maxRecDepth 100000 in
theorem cb_X12_execute_718 {p : Program} {l : Launch} {e : Env} {s : State} {m : MethodId} {args : Array Value} {below : List Frame} {meth : Method} {c : Code} {D : va_G} {cy : Nat → ClassId} {lo : Nat}  {S : q_S} {a0 : Nat} {x2 : Int32} {x3 : Int32} {as0 : Nat} {xs1 : Int32} {xs2 : Int32} {as3 : Nat} {xs4 : Int32} {xs5 : Int32} {xs6 : Int32} {xs7 : Int32} {Q : Option Value → q_S → Prop} {H : Heap} {locs : List Loc} {ls : Array Slot} (X : q_X p s m args meth c RX12 cX12_execute 14 none D cy lo)  (Y : q_Y D cy lo s S H locs) (hl : lv_has ls 14 [(0, .ref a0), (2, .int x2), (3, .int x3)]) (h : wb_X12_execute_718 S a0 x2 x3 as0 xs1 xs2 as3 xs4 xs5 xs6 xs7 Q) : W p l e ({ frames := 6, cells := 0, slots := 0, locals := 152 } : Room) s m args below meth c H locs 0 0 (MQ below (q_Q D cy lo Q) args s 0 0 (fun q => lo ≤ q)) (F0 m 718 ls [.int xs7, .int xs6, .int xs5, .int xs4, .ref as3, .int xs2, .int xs1, .ref as0]) := by
  have hx := X.1
  have hb := X.2.1
  unfold wb_X12_execute_718 at h
  obtain ⟨k98_, h⟩ := h
  refine q_callV X Y hl (cm_X12_reckoned h) mt_X12_reckoned mi_X12_reckoned ml_X12_576 (ci := 12) rfl k98_ (by decide) rfl rfl (by first | exact Nat.le_of_ble_eq_true rfl | simp [q_cat, q_catI, q_catJ, q_catR]) ⟨Nat.le_of_ble_eq_true rfl, Nat.le_of_ble_eq_true rfl⟩ ⟨Nat.le_of_ble_eq_true rfl, Nat.le_of_ble_eq_true rfl⟩ dX12_execute_718 (fun r99_ S100_ H locs hp Y => ?_)
  obtain ⟨x101_, rfl, h⟩ := hp
  refine W.eq (g2 := F0 m 721 ls [.int x101_, .int xs2, .int xs1, .ref as0]) rfl ?_
  obtain ⟨k102_, h⟩ := h
  refine q_callV X Y hl (cm_X12_set h) mt_X12_set mi_X12_set ml_X12_563 (ci := 12) rfl k102_ (by decide) rfl rfl (by first | exact Nat.le_of_ble_eq_true rfl | simp [q_cat, q_catI, q_catJ, q_catR]) ⟨Nat.le_of_ble_eq_true rfl, Nat.le_of_ble_eq_true rfl⟩ ⟨Nat.le_of_ble_eq_true rfl, Nat.le_of_ble_eq_true rfl⟩ dX12_execute_721 (fun r103_ S104_ H locs hp Y => ?_)
  obtain ⟨rfl, h⟩ := hp
  refine W.eq (g2 := F0 m 724 ls []) rfl ?_
  refine lv_goto (tgt := 837) hx hb dX12_execute_724 (by decide) ?_
  exact cb_X12_execute_837 X Y (lv_sub hl [0, 1, 2] rfl) h
def wb_X12_execute_717  (S : q_S) (a0 : Nat) (x2 : Int32) (x3 : Int32) (as0 : Nat) (xs1 : Int32) (xs2 : Int32) (as3 : Nat) (xs4 : Int32) (xs5 : Int32) (xs6 : Int32) (Q : Option Value → q_S → Prop) : Prop := wb_X12_execute_718 S a0 x2 x3 as0 xs1 xs2 as3 xs4 xs5 xs6 (0 : Int32) Q
set_option maxHeartbeats 4000000 in
set_option maxRecDepth 100000 in
theorem cb_X12_execute_717 {p : Program} {l : Launch} {e : Env} {s : State} {m : MethodId} {args : Array Value} {below : List Frame} {meth : Method} {c : Code} {D : va_G} {cy : Nat → ClassId} {lo : Nat}  {S : q_S} {a0 : Nat} {x2 : Int32} {x3 : Int32} {as0 : Nat} {xs1 : Int32} {xs2 : Int32} {as3 : Nat} {xs4 : Int32} {xs5 : Int32} {xs6 : Int32} {Q : Option Value → q_S → Prop} {H : Heap} {locs : List Loc} {ls : Array Slot} (X : q_X p s m args meth c RX12 cX12_execute 14 none D cy lo)  (Y : q_Y D cy lo s S H locs) (hl : lv_has ls 14 [(0, .ref a0), (2, .int x2), (3, .int x3)]) (h : wb_X12_execute_717 S a0 x2 x3 as0 xs1 xs2 as3 xs4 xs5 xs6 Q) : W p l e ({ frames := 6, cells := 0, slots := 0, locals := 152 } : Room) s m args below meth c H locs 0 0 (MQ below (q_Q D cy lo Q) args s 0 0 (fun q => lo ≤ q)) (F0 m 717 ls [.int xs6, .int xs5, .int xs4, .ref as3, .int xs2, .int xs1, .ref as0]) := by
  have hx := X.1
  have hb := X.2.1
  unfold wb_X12_execute_717 at h
  refine lv_iconst (v := 0) hx hb dX12_execute_717 (by decide) ?_
  exact cb_X12_execute_718 X Y (lv_sub hl [0, 1, 2] rfl) h
def wb_X12_execute_689  (S : q_S) (a0 : Nat) (x2 : Int32) (x3 : Int32) (x5 : Int32) (x6 : Int32) (x7 : Int32) (x9 : Int32) (x10 : Int32) (Q : Option Value → q_S → Prop) : Prop := ((¬ x6 = (5 : Int32) → (wb_X12_execute_717 S a0 x2 x3 a0 x2 x5 a0 x6 x7 x10 Q)) ∧ (x6 = (5 : Int32) → (((¬ x9 = (32 : Int32) → (wb_X12_execute_717 S a0 x2 x3 a0 x2 x5 a0 x6 x7 x10 Q)) ∧ (x9 = (32 : Int32) → (wb_X12_execute_718 S a0 x2 x3 a0 x2 x5 a0 x6 x7 x10 (1 : Int32) Q))))))
set_option maxHeartbeats 4000000 in
set_option maxRecDepth 100000 in
theorem cb_X12_execute_689 {p : Program} {l : Launch} {e : Env} {s : State} {m : MethodId} {args : Array Value} {below : List Frame} {meth : Method} {c : Code} {D : va_G} {cy : Nat → ClassId} {lo : Nat}  {S : q_S} {a0 : Nat} {x2 : Int32} {x3 : Int32} {x5 : Int32} {x6 : Int32} {x7 : Int32} {x9 : Int32} {x10 : Int32} {Q : Option Value → q_S → Prop} {H : Heap} {locs : List Loc} {ls : Array Slot} (X : q_X p s m args meth c RX12 cX12_execute 14 none D cy lo)  (Y : q_Y D cy lo s S H locs) (hl : lv_has ls 14 [(0, .ref a0), (2, .int x2), (3, .int x3), (5, .int x5), (6, .int x6), (7, .int x7), (9, .int x9), (10, .int x10)]) (h : wb_X12_execute_689 S a0 x2 x3 x5 x6 x7 x9 x10 Q) : W p l e ({ frames := 6, cells := 0, slots := 0, locals := 152 } : Room) s m args below meth c H locs 0 0 (MQ below (q_Q D cy lo Q) args s 0 0 (fun q => lo ≤ q)) (F0 m 689 ls []) := by
  have hx := X.1
  have hb := X.2.1
  unfold wb_X12_execute_689 at h
  refine lv_aload_n hx hb dX12_execute_689 rfl (lv_at hl 0 rfl) ?_
  refine lv_iload_n hx hb dX12_execute_690 rfl (lv_at hl 1 rfl) ?_
  refine lv_iload hx hb dX12_execute_691 (lv_at hl 3 rfl) ?_
  refine lv_aload_n hx hb dX12_execute_693 rfl (lv_at hl 0 rfl) ?_
  refine lv_iload hx hb dX12_execute_694 (lv_at hl 4 rfl) ?_
  refine lv_iload hx hb dX12_execute_696 (lv_at hl 5 rfl) ?_
  refine lv_iload hx hb dX12_execute_698 (lv_at hl 7 rfl) ?_
  refine lv_iload hx hb dX12_execute_700 (lv_at hl 4 rfl) ?_
  refine lv_iconst (v := 5) hx hb dX12_execute_702 (by decide) ?_
  refine lv_icmp_ne (tgt := 717) hx hb dX12_execute_703 (by decide) (fun c105_ => ?_) (fun c105_ => ?_)
  · replace h := h.1 c105_
    exact cb_X12_execute_717 X Y (lv_sub hl [0, 1, 2] rfl) h
  · replace h := h.2 c105_
    refine lv_iload hx hb dX12_execute_706 (lv_at hl 6 rfl) ?_
    refine lv_bipush (v := 32) hx hb dX12_execute_708 (by decide) ?_
    refine lv_icmp_ne (tgt := 717) hx hb dX12_execute_710 (by decide) (fun c106_ => ?_) (fun c106_ => ?_)
    · replace h := h.1 c106_
      exact cb_X12_execute_717 X Y (lv_sub hl [0, 1, 2] rfl) h
    · replace h := h.2 c106_
      refine lv_iconst (v := 1) hx hb dX12_execute_713 (by decide) ?_
      refine lv_goto (tgt := 718) hx hb dX12_execute_714 (by decide) ?_
      exact cb_X12_execute_718 X Y (lv_sub hl [0, 1, 2] rfl) h
def wb_X12_execute_662  (S : q_S) (a0 : Nat) (x2 : Int32) (x3 : Int32) (x4 : Int32) (x5 : Int32) (x6 : Int32) (x7 : Int32) (x9 : Int32) (x10 : Int32) (Q : Option Value → q_S → Prop) : Prop := ((¬ x6 = (5 : Int32) → (wb_X12_execute_689 S a0 x2 x3 x5 x6 x7 x9 x10 Q)) ∧ (x6 = (5 : Int32) → (((x9 = 0 → (wb_X12_execute_689 S a0 x2 x3 x5 x6 x7 x9 x10 Q)) ∧ (¬ x9 = 0 → (((x9 = (32 : Int32) → (wb_X12_execute_689 S a0 x2 x3 x5 x6 x7 x9 x10 Q)) ∧ (¬ x9 = (32 : Int32) → (wb_X12_execute_680 S a0 x2 x4 Q)))))))))
set_option maxHeartbeats 4000000 in
set_option maxRecDepth 100000 in
theorem cb_X12_execute_662 {p : Program} {l : Launch} {e : Env} {s : State} {m : MethodId} {args : Array Value} {below : List Frame} {meth : Method} {c : Code} {D : va_G} {cy : Nat → ClassId} {lo : Nat}  {S : q_S} {a0 : Nat} {x2 : Int32} {x3 : Int32} {x4 : Int32} {x5 : Int32} {x6 : Int32} {x7 : Int32} {x9 : Int32} {x10 : Int32} {Q : Option Value → q_S → Prop} {H : Heap} {locs : List Loc} {ls : Array Slot} (X : q_X p s m args meth c RX12 cX12_execute 14 none D cy lo)  (Y : q_Y D cy lo s S H locs) (hl : lv_has ls 14 [(0, .ref a0), (2, .int x2), (3, .int x3), (4, .int x4), (5, .int x5), (6, .int x6), (7, .int x7), (9, .int x9), (10, .int x10)]) (h : wb_X12_execute_662 S a0 x2 x3 x4 x5 x6 x7 x9 x10 Q) : W p l e ({ frames := 6, cells := 0, slots := 0, locals := 152 } : Room) s m args below meth c H locs 0 0 (MQ below (q_Q D cy lo Q) args s 0 0 (fun q => lo ≤ q)) (F0 m 662 ls []) := by
  have hx := X.1
  have hb := X.2.1
  unfold wb_X12_execute_662 at h
  refine lv_iload hx hb dX12_execute_662 (lv_at hl 5 rfl) ?_
  refine lv_iconst (v := 5) hx hb dX12_execute_664 (by decide) ?_
  refine lv_icmp_ne (tgt := 689) hx hb dX12_execute_665 (by decide) (fun c107_ => ?_) (fun c107_ => ?_)
  · replace h := h.1 c107_
    exact cb_X12_execute_689 X Y (lv_sub hl [0, 1, 2, 4, 5, 6, 7, 8] rfl) h
  · replace h := h.2 c107_
    refine lv_iload hx hb dX12_execute_668 (lv_at hl 7 rfl) ?_
    refine lv_if_eq (tgt := 689) hx hb dX12_execute_670 (by decide) (fun c108_ => ?_) (fun c108_ => ?_)
    · replace h := h.1 c108_
      exact cb_X12_execute_689 X Y (lv_sub hl [0, 1, 2, 4, 5, 6, 7, 8] rfl) h
    · replace h := h.2 c108_
      refine lv_iload hx hb dX12_execute_673 (lv_at hl 7 rfl) ?_
      refine lv_bipush (v := 32) hx hb dX12_execute_675 (by decide) ?_
      refine lv_icmp_eq (tgt := 689) hx hb dX12_execute_677 (by decide) (fun c109_ => ?_) (fun c109_ => ?_)
      · replace h := h.1 c109_
        exact cb_X12_execute_689 X Y (lv_sub hl [0, 1, 2, 4, 5, 6, 7, 8] rfl) h
      · replace h := h.2 c109_
        exact cb_X12_execute_680 X Y (lv_sub hl [0, 1, 3] rfl) h
def wb_X12_execute_651  (S : q_S) (a0 : Nat) (x2 : Int32) (x3 : Int32) (x4 : Int32) (x5 : Int32) (x6 : Int32) (x7 : Int32) (x9 : Int32) (x10 : Int32) (Q : Option Value → q_S → Prop) : Prop := ((¬ x6 = (1 : Int32) → (wb_X12_execute_662 S a0 x2 x3 x4 x5 x6 x7 x9 x10 Q)) ∧ (x6 = (1 : Int32) → (((¬ x9 = 0 → (wb_X12_execute_680 S a0 x2 x4 Q)) ∧ (x9 = 0 → (wb_X12_execute_662 S a0 x2 x3 x4 x5 x6 x7 x9 x10 Q))))))
set_option maxHeartbeats 4000000 in
set_option maxRecDepth 100000 in
theorem cb_X12_execute_651 {p : Program} {l : Launch} {e : Env} {s : State} {m : MethodId} {args : Array Value} {below : List Frame} {meth : Method} {c : Code} {D : va_G} {cy : Nat → ClassId} {lo : Nat}  {S : q_S} {a0 : Nat} {x2 : Int32} {x3 : Int32} {x4 : Int32} {x5 : Int32} {x6 : Int32} {x7 : Int32} {x9 : Int32} {x10 : Int32} {Q : Option Value → q_S → Prop} {H : Heap} {locs : List Loc} {ls : Array Slot} (X : q_X p s m args meth c RX12 cX12_execute 14 none D cy lo)  (Y : q_Y D cy lo s S H locs) (hl : lv_has ls 14 [(0, .ref a0), (2, .int x2), (3, .int x3), (4, .int x4), (5, .int x5), (6, .int x6), (7, .int x7), (9, .int x9), (10, .int x10)]) (h : wb_X12_execute_651 S a0 x2 x3 x4 x5 x6 x7 x9 x10 Q) : W p l e ({ frames := 6, cells := 0, slots := 0, locals := 152 } : Room) s m args below meth c H locs 0 0 (MQ below (q_Q D cy lo Q) args s 0 0 (fun q => lo ≤ q)) (F0 m 651 ls []) := by
  have hx := X.1
  have hb := X.2.1
  unfold wb_X12_execute_651 at h
  refine lv_iload hx hb dX12_execute_651 (lv_at hl 5 rfl) ?_
  refine lv_iconst (v := 1) hx hb dX12_execute_653 (by decide) ?_
  refine lv_icmp_ne (tgt := 662) hx hb dX12_execute_654 (by decide) (fun c110_ => ?_) (fun c110_ => ?_)
  · replace h := h.1 c110_
    exact cb_X12_execute_662 X Y (lv_sub hl [0, 1, 2, 3, 4, 5, 6, 7, 8] rfl) h
  · replace h := h.2 c110_
    refine lv_iload hx hb dX12_execute_657 (lv_at hl 7 rfl) ?_
    refine lv_if_ne (tgt := 680) hx hb dX12_execute_659 (by decide) (fun c111_ => ?_) (fun c111_ => ?_)
    · replace h := h.1 c111_
      exact cb_X12_execute_680 X Y (lv_sub hl [0, 1, 3] rfl) h
    · replace h := h.2 c111_
      exact cb_X12_execute_662 X Y (lv_sub hl [0, 1, 2, 3, 4, 5, 6, 7, 8] rfl) h
def wb_X12_execute_603  (S : q_S) (Q : Option Value → q_S → Prop) : Prop := Q none S
set_option maxHeartbeats 4000000 in
set_option maxRecDepth 100000 in
theorem cb_X12_execute_603 {p : Program} {l : Launch} {e : Env} {s : State} {m : MethodId} {args : Array Value} {below : List Frame} {meth : Method} {c : Code} {D : va_G} {cy : Nat → ClassId} {lo : Nat}  {S : q_S} {Q : Option Value → q_S → Prop} {H : Heap} {locs : List Loc} {ls : Array Slot} (X : q_X p s m args meth c RX12 cX12_execute 14 none D cy lo)  (Y : q_Y D cy lo s S H locs) (hl : lv_has ls 14 []) (h : wb_X12_execute_603 S Q) : W p l e ({ frames := 6, cells := 0, slots := 0, locals := 152 } : Room) s m args below meth c H locs 0 0 (MQ below (q_Q D cy lo Q) args s 0 0 (fun q => lo ≤ q)) (F0 m 603 ls []) := by
  have hx := X.1
  have hb := X.2.1
  unfold wb_X12_execute_603 at h
  exact q_vret X Y (Nat.le_refl _) (Nat.le_refl _) h dX12_execute_603
def wb_X12_execute_577  (S : q_S) (a0 : Nat) (x2 : Int32) (x4 : Int32) (Q : Option Value → q_S → Prop) : Prop := q_K S a0 = 13 ∧ (wm_X12_fails S a0 x2 (0 : Int32) x4 (fun r113_ S114_ => r113_ = none ∧ (wb_X12_execute_603 S114_ Q)))
set_option maxHeartbeats 4000000 in
set_option maxRecDepth 100000 in
theorem cb_X12_execute_577 {p : Program} {l : Launch} {e : Env} {s : State} {m : MethodId} {args : Array Value} {below : List Frame} {meth : Method} {c : Code} {D : va_G} {cy : Nat → ClassId} {lo : Nat}  {S : q_S} {a0 : Nat} {x2 : Int32} {x4 : Int32} {Q : Option Value → q_S → Prop} {H : Heap} {locs : List Loc} {ls : Array Slot} (X : q_X p s m args meth c RX12 cX12_execute 14 none D cy lo)  (Y : q_Y D cy lo s S H locs) (hl : lv_has ls 14 [(0, .ref a0), (2, .int x2), (4, .int x4)]) (h : wb_X12_execute_577 S a0 x2 x4 Q) : W p l e ({ frames := 6, cells := 0, slots := 0, locals := 152 } : Room) s m args below meth c H locs 0 0 (MQ below (q_Q D cy lo Q) args s 0 0 (fun q => lo ≤ q)) (F0 m 577 ls []) := by
  have hx := X.1
  have hb := X.2.1
  unfold wb_X12_execute_577 at h
  refine lv_aload_n hx hb dX12_execute_577 rfl (lv_at hl 0 rfl) ?_
  refine lv_iload_n hx hb dX12_execute_578 rfl (lv_at hl 1 rfl) ?_
  refine lv_iconst (v := 0) hx hb dX12_execute_579 (by decide) ?_
  refine lv_iload hx hb dX12_execute_580 (lv_at hl 2 rfl) ?_
  obtain ⟨k112_, h⟩ := h
  refine q_callV X Y hl (cm_X12_fails h) mt_X12_fails mi_X12_fails ml_X12_521 (ci := 12) rfl k112_ (by decide) rfl rfl (by first | exact Nat.le_of_ble_eq_true rfl | simp [q_cat, q_catI, q_catJ, q_catR]) ⟨Nat.le_of_ble_eq_true rfl, Nat.le_of_ble_eq_true rfl⟩ ⟨Nat.le_of_ble_eq_true rfl, Nat.le_of_ble_eq_true rfl⟩ dX12_execute_582 (fun r113_ S114_ H locs hp Y => ?_)
  obtain ⟨rfl, h⟩ := hp
  refine W.eq (g2 := F0 m 585 ls []) rfl ?_
  refine lv_goto (tgt := 603) hx hb dX12_execute_585 (by decide) ?_
  exact cb_X12_execute_603 X Y (lv_sub hl [] rfl) h
def wb_X12_execute_565  (S : q_S) (a0 : Nat) (x1 : Int32) (x2 : Int32) (x4 : Int32) (x5 : Int32) (x6 : Int32) (x7 : Int32) (x10 : Int32) (Q : Option Value → q_S → Prop) : Prop := ((x6 = (3 : Int32) → (wb_X12_execute_577 S a0 x2 x4 Q)) ∧ (¬ x6 = (3 : Int32) → (((x6 ≤ (5 : Int32) → (q_K S a0 = 13 ∧ (wm_X12_load_ S a0 x1 x2 x5 x6 (x7 + x10) (fun r118_ S119_ => r118_ = none ∧ (wb_X12_execute_603 S119_ Q))))) ∧ (¬ x6 ≤ (5 : Int32) → (wb_X12_execute_577 S a0 x2 x4 Q))))))
set_option maxHeartbeats 4000000 in
set_option maxRecDepth 100000 in
theorem cb_X12_execute_565 {p : Program} {l : Launch} {e : Env} {s : State} {m : MethodId} {args : Array Value} {below : List Frame} {meth : Method} {c : Code} {D : va_G} {cy : Nat → ClassId} {lo : Nat}  {S : q_S} {a0 : Nat} {x1 : Int32} {x2 : Int32} {x4 : Int32} {x5 : Int32} {x6 : Int32} {x7 : Int32} {x10 : Int32} {Q : Option Value → q_S → Prop} {H : Heap} {locs : List Loc} {ls : Array Slot} (X : q_X p s m args meth c RX12 cX12_execute 14 none D cy lo)  (Y : q_Y D cy lo s S H locs) (hl : lv_has ls 14 [(0, .ref a0), (1, .int x1), (2, .int x2), (4, .int x4), (5, .int x5), (6, .int x6), (7, .int x7), (10, .int x10)]) (h : wb_X12_execute_565 S a0 x1 x2 x4 x5 x6 x7 x10 Q) : W p l e ({ frames := 6, cells := 0, slots := 0, locals := 152 } : Room) s m args below meth c H locs 0 0 (MQ below (q_Q D cy lo Q) args s 0 0 (fun q => lo ≤ q)) (F0 m 565 ls []) := by
  have hx := X.1
  have hb := X.2.1
  unfold wb_X12_execute_565 at h
  refine lv_iload hx hb dX12_execute_565 (lv_at hl 5 rfl) ?_
  refine lv_iconst (v := 3) hx hb dX12_execute_567 (by decide) ?_
  refine lv_icmp_eq (tgt := 577) hx hb dX12_execute_568 (by decide) (fun c115_ => ?_) (fun c115_ => ?_)
  · replace h := h.1 c115_
    exact cb_X12_execute_577 X Y (lv_sub hl [0, 2, 3] rfl) h
  · replace h := h.2 c115_
    refine lv_iload hx hb dX12_execute_571 (lv_at hl 5 rfl) ?_
    refine lv_iconst (v := 5) hx hb dX12_execute_573 (by decide) ?_
    refine lv_icmp_le (tgt := 588) hx hb dX12_execute_574 (by decide) (fun c116_ => ?_) (fun c116_ => ?_)
    · replace h := h.1 c116_
      refine lv_aload_n hx hb dX12_execute_588 rfl (lv_at hl 0 rfl) ?_
      refine lv_iload_n hx hb dX12_execute_589 rfl (lv_at hl 1 rfl) ?_
      refine lv_iload_n hx hb dX12_execute_590 rfl (lv_at hl 2 rfl) ?_
      refine lv_iload hx hb dX12_execute_591 (lv_at hl 4 rfl) ?_
      refine lv_iload hx hb dX12_execute_593 (lv_at hl 5 rfl) ?_
      refine lv_iload hx hb dX12_execute_595 (lv_at hl 6 rfl) ?_
      refine lv_iload hx hb dX12_execute_597 (lv_at hl 7 rfl) ?_
      refine lv_iadd hx hb dX12_execute_599 ?_
      obtain ⟨k117_, h⟩ := h
      refine q_callV X Y hl (cm_X12_load_ h) mt_X12_load_ mi_X12_load_ ml_X12_569 (ci := 12) rfl k117_ (by decide) rfl rfl (by first | exact Nat.le_of_ble_eq_true rfl | simp [q_cat, q_catI, q_catJ, q_catR]) ⟨Nat.le_of_ble_eq_true rfl, Nat.le_of_ble_eq_true rfl⟩ ⟨Nat.le_of_ble_eq_true rfl, Nat.le_of_ble_eq_true rfl⟩ dX12_execute_600 (fun r118_ S119_ H locs hp Y => ?_)
      obtain ⟨rfl, h⟩ := hp
      refine W.eq (g2 := F0 m 603 ls []) rfl ?_
      exact cb_X12_execute_603 X Y (lv_sub hl [] rfl) h
    · replace h := h.2 c116_
      exact cb_X12_execute_577 X Y (lv_sub hl [0, 2, 3] rfl) h
def wm_X12_execute (S : q_S) (a0 : Nat) (x1 : Int32) (x2 : Int32) (Q : Option Value → q_S → Prop) : Prop := q_K S a0 = 13 ∧ (∃ a121_ : Nat, (q_P S 2468 a0) = some a121_ ∧ (q_K S a121_ = 21 ∧ (vp_in x2 (q_N S a121_) ∧ (((((q_A S a121_ x2.toNatClampNeg) - (q_A S a121_ x2.toNatClampNeg) / (4 : Int32) * (4 : Int32)) = 0 → (wm_X12_isWithin S a0 x1 (q_A S a121_ x2.toNatClampNeg) (4 : Int32) (fun r126_ S127_ => ∃ x128_ : Int32, r126_ = some (.int x128_) ∧ (((x128_ = 0 → (wb_X12_execute_41 S127_ a0 x2 (q_A S a121_ x2.toNatClampNeg) Q)) ∧ (¬ x128_ = 0 → (q_K S127_ a0 = 13 ∧ (wm_X12_isIn S127_ a0 x1 (q_A S a121_ x2.toNatClampNeg) (0 : Int32) (fun r131_ S132_ => ∃ x133_ : Int32, r131_ = some (.int x133_) ∧ (((¬ x133_ = 0 → (q_K S132_ a0 = 13 ∧ (wm_X12_read S132_ a0 x1 (q_A S a121_ x2.toNatClampNeg) (4 : Int32) (fun r136_ S137_ => ∃ x138_ : Int32, r136_ = some (.int x138_) ∧ (q_K S137_ a0 = 13 ∧ (∃ a140_ : Nat, (q_P S137_ 2477 a0) = some a140_ ∧ (q_K S137_ a140_ = 21 ∧ (vp_in (((32 : Int32) * x2) + ((x138_ >>> ((15 : Int32) &&& 31)) &&& (31 : Int32))) (q_N S137_ a140_) ∧ (vp_in (((32 : Int32) * x2) + ((x138_ >>> ((20 : Int32) &&& 31)) &&& (31 : Int32))) (q_N S137_ a140_) ∧ ((((x138_ &&& (127 : Int32)) = (3 : Int32) → (wb_X12_execute_565 S137_ a0 x1 x2 x138_ ((x138_ >>> ((7 : Int32) &&& 31)) &&& (31 : Int32)) ((x138_ >>> ((12 : Int32) &&& 31)) &&& (7 : Int32)) (q_A S137_ a140_ (((32 : Int32) * x2) + ((x138_ >>> ((15 : Int32) &&& 31)) &&& (31 : Int32))).toNatClampNeg) (x138_ >>> ((20 : Int32) &&& 31)) Q)) ∧ ((x138_ &&& (127 : Int32)) = (19 : Int32) → (wb_X12_execute_651 S137_ a0 x2 (q_A S a121_ x2.toNatClampNeg) x138_ ((x138_ >>> ((7 : Int32) &&& 31)) &&& (31 : Int32)) ((x138_ >>> ((12 : Int32) &&& 31)) &&& (7 : Int32)) (q_A S137_ a140_ (((32 : Int32) * x2) + ((x138_ >>> ((15 : Int32) &&& 31)) &&& (31 : Int32))).toNatClampNeg) ((x138_.toUInt32 >>> ((25 : Int32).toUInt32 &&& Int32.toUInt32 31)).toInt32) (x138_ >>> ((20 : Int32) &&& 31)) Q)) ∧ ((x138_ &&& (127 : Int32)) = (23 : Int32) → (wb_X12_execute_236 S137_ a0 x2 (q_A S a121_ x2.toNatClampNeg) x138_ ((x138_ >>> ((7 : Int32) &&& 31)) &&& (31 : Int32)) Q)) ∧ ((x138_ &&& (127 : Int32)) = (35 : Int32) → (wb_X12_execute_604 S137_ a0 x1 x2 x138_ ((x138_ >>> ((12 : Int32) &&& 31)) &&& (7 : Int32)) (q_A S137_ a140_ (((32 : Int32) * x2) + ((x138_ >>> ((15 : Int32) &&& 31)) &&& (31 : Int32))).toNatClampNeg) (q_A S137_ a140_ (((32 : Int32) * x2) + ((x138_ >>> ((20 : Int32) &&& 31)) &&& (31 : Int32))).toNatClampNeg) Q)) ∧ ((x138_ &&& (127 : Int32)) = (51 : Int32) → (wb_X12_execute_727 S137_ a0 x2 (q_A S a121_ x2.toNatClampNeg) x138_ ((x138_ >>> ((7 : Int32) &&& 31)) &&& (31 : Int32)) ((x138_ >>> ((12 : Int32) &&& 31)) &&& (7 : Int32)) (q_A S137_ a140_ (((32 : Int32) * x2) + ((x138_ >>> ((15 : Int32) &&& 31)) &&& (31 : Int32))).toNatClampNeg) (q_A S137_ a140_ (((32 : Int32) * x2) + ((x138_ >>> ((20 : Int32) &&& 31)) &&& (31 : Int32))).toNatClampNeg) ((x138_.toUInt32 >>> ((25 : Int32).toUInt32 &&& Int32.toUInt32 31)).toInt32) Q)) ∧ ((x138_ &&& (127 : Int32)) = (55 : Int32) → (wb_X12_execute_220 S137_ a0 x2 (q_A S a121_ x2.toNatClampNeg) x138_ ((x138_ >>> ((7 : Int32) &&& 31)) &&& (31 : Int32)) Q)) ∧ ((x138_ &&& (127 : Int32)) = (99 : Int32) → (wb_X12_execute_360 S137_ a0 x2 (q_A S a121_ x2.toNatClampNeg) x138_ ((x138_ >>> ((12 : Int32) &&& 31)) &&& (7 : Int32)) (q_A S137_ a140_ (((32 : Int32) * x2) + ((x138_ >>> ((15 : Int32) &&& 31)) &&& (31 : Int32))).toNatClampNeg) (q_A S137_ a140_ (((32 : Int32) * x2) + ((x138_ >>> ((20 : Int32) &&& 31)) &&& (31 : Int32))).toNatClampNeg) Q)) ∧ ((x138_ &&& (127 : Int32)) = (103 : Int32) → (wb_X12_execute_321 S137_ a0 x2 (q_A S a121_ x2.toNatClampNeg) x138_ ((x138_ >>> ((7 : Int32) &&& 31)) &&& (31 : Int32)) ((x138_ >>> ((12 : Int32) &&& 31)) &&& (7 : Int32)) (q_A S137_ a140_ (((32 : Int32) * x2) + ((x138_ >>> ((15 : Int32) &&& 31)) &&& (31 : Int32))).toNatClampNeg) (x138_ >>> ((20 : Int32) &&& 31)) Q)) ∧ ((x138_ &&& (127 : Int32)) = (111 : Int32) → (wb_X12_execute_254 S137_ a0 x2 (q_A S a121_ x2.toNatClampNeg) x138_ ((x138_ >>> ((7 : Int32) &&& 31)) &&& (31 : Int32)) Q)) ∧ ((¬ (x138_ &&& (127 : Int32)) = (3 : Int32) ∧ ¬ (x138_ &&& (127 : Int32)) = (19 : Int32) ∧ ¬ (x138_ &&& (127 : Int32)) = (23 : Int32) ∧ ¬ (x138_ &&& (127 : Int32)) = (35 : Int32) ∧ ¬ (x138_ &&& (127 : Int32)) = (51 : Int32) ∧ ¬ (x138_ &&& (127 : Int32)) = (55 : Int32) ∧ ¬ (x138_ &&& (127 : Int32)) = (99 : Int32) ∧ ¬ (x138_ &&& (127 : Int32)) = (103 : Int32) ∧ ¬ (x138_ &&& (127 : Int32)) = (111 : Int32)) → (wb_X12_execute_811 S137_ a0 x1 x2 (q_A S a121_ x2.toNatClampNeg) x138_ Q))))))))))))) ∧ (x133_ = 0 → (wb_X12_execute_41 S132_ a0 x2 (q_A S a121_ x2.toNatClampNeg) Q))))))))))))) ∧ (¬ ((q_A S a121_ x2.toNatClampNeg) - (q_A S a121_ x2.toNatClampNeg) / (4 : Int32) * (4 : Int32)) = 0 → (wm_X12_fails S a0 x2 (4 : Int32) (q_A S a121_ x2.toNatClampNeg) (fun r154_ S155_ => r154_ = none ∧ (Q none S155_)))))))))
set_option maxHeartbeats 4000000 in
set_option maxRecDepth 100000 in
theorem cm_X12_execute {l : Launch} {D : va_G} {cy : Nat → ClassId} {lo : Nat} {S : q_S} {a0 : Nat} {x1 : Int32} {x2 : Int32} {Q : Option Value → q_S → Prop} (h : wm_X12_execute S a0 x1 x2 Q) : q_Met l D cy lo yX12_execute cX12_execute 14 none 6 152 0 0 [.ref a0, .int x1, .int x2] S Q := by
  refine q_body (by decide) (by first | exact Nat.le_of_ble_eq_true rfl | simp [lg_sl, q_cat, q_catI, q_catJ, q_catR]) ?_
  intro p e s m below meth c ls X hnm Y hl
  have hx := X.1
  have hb := X.2.1
  have hl : lv_has ls 14 [(0, .ref a0), (1, .int x1), (2, .int x2)] := by first | exact hl | simpa [lv_args, q_cat, q_catI, q_catJ, q_catR] using hl
  generalize hargs : ([.ref a0, .int x1, .int x2] : List Value).toArray = args at X ⊢
  unfold wm_X12_execute at h
  refine lv_aload_n hx hb dX12_execute_0 rfl (lv_at hl 0 rfl) ?_
  obtain ⟨k120_, h⟩ := h
  refine q_getP X Y kX12 68 rfl fl_X12_152 k120_ rfl dX12_execute_1 ?_
  refine lv_iload_n hx hb dX12_execute_4 rfl (lv_at hl 2 rfl) ?_
  obtain ⟨a121_, e122_, h⟩ := h
  refine q_nn [.int x2] e122_ ?_
  obtain ⟨k123_, h⟩ := h
  obtain ⟨i124_, h⟩ := h
  refine q_ild X Y k123_ i124_ dX12_execute_5 ?_
  refine lv_istore_n (i := 3) (lv' := [(3, .int (q_A S a121_ x2.toNatClampNeg)), (0, .ref a0), (1, .int x1), (2, .int x2)]) hx hb dX12_execute_6 rfl hl (by decide) (by first | rfl | simp [q_cat, q_catI, q_catJ, q_catR]) (fun ls hl => ?_)
  refine lv_iload_n hx hb dX12_execute_7 rfl (lv_at hl 0 rfl) ?_
  refine lv_iconst (v := 4) hx hb dX12_execute_8 (by decide) ?_
  refine lv_irem hx hb dX12_execute_9 (by decide) ?_
  refine lv_if_eq (tgt := 21) hx hb dX12_execute_10 (by decide) (fun c125_ => ?_) (fun c125_ => ?_)
  · replace h := h.1 c125_
    refine lv_aload_n hx hb dX12_execute_21 rfl (lv_at hl 1 rfl) ?_
    refine lv_iload_n hx hb dX12_execute_22 rfl (lv_at hl 2 rfl) ?_
    refine lv_iload_n hx hb dX12_execute_23 rfl (lv_at hl 0 rfl) ?_
    refine lv_iconst (v := 4) hx hb dX12_execute_24 (by decide) ?_
    refine q_callV X Y hl (cm_X12_isWithin h) mt_X12_isWithin mi_X12_isWithin ml_X12_553 (ci := 12) rfl k120_ (by decide) rfl rfl (by first | exact Nat.le_of_ble_eq_true rfl | simp [q_cat, q_catI, q_catJ, q_catR]) ⟨Nat.le_of_ble_eq_true rfl, Nat.le_of_ble_eq_true rfl⟩ ⟨Nat.le_of_ble_eq_true rfl, Nat.le_of_ble_eq_true rfl⟩ dX12_execute_25 (fun r126_ S127_ H locs hp Y => ?_)
    obtain ⟨x128_, rfl, h⟩ := hp
    refine W.eq (g2 := F0 m 28 ls [.int x128_]) rfl ?_
    refine lv_if_eq (tgt := 41) hx hb dX12_execute_28 (by decide) (fun c129_ => ?_) (fun c129_ => ?_)
    · replace h := h.1 c129_
      exact cb_X12_execute_41 X Y (lv_sub hl [1, 3, 0] rfl) h
    · replace h := h.2 c129_
      refine lv_aload_n hx hb dX12_execute_31 rfl (lv_at hl 1 rfl) ?_
      refine lv_iload_n hx hb dX12_execute_32 rfl (lv_at hl 2 rfl) ?_
      refine lv_iload_n hx hb dX12_execute_33 rfl (lv_at hl 0 rfl) ?_
      refine lv_iconst (v := 0) hx hb dX12_execute_34 (by decide) ?_
      obtain ⟨k130_, h⟩ := h
      refine q_callV X Y hl (cm_X12_isIn h) mt_X12_isIn mi_X12_isIn ml_X12_557 (ci := 12) rfl k130_ (by decide) rfl rfl (by first | exact Nat.le_of_ble_eq_true rfl | simp [q_cat, q_catI, q_catJ, q_catR]) ⟨Nat.le_of_ble_eq_true rfl, Nat.le_of_ble_eq_true rfl⟩ ⟨Nat.le_of_ble_eq_true rfl, Nat.le_of_ble_eq_true rfl⟩ dX12_execute_35 (fun r131_ S132_ H locs hp Y => ?_)
      obtain ⟨x133_, rfl, h⟩ := hp
      refine W.eq (g2 := F0 m 38 ls [.int x133_]) rfl ?_
      refine lv_if_ne (tgt := 49) hx hb dX12_execute_38 (by decide) (fun c134_ => ?_) (fun c134_ => ?_)
      · replace h := h.1 c134_
        refine lv_aload_n hx hb dX12_execute_49 rfl (lv_at hl 1 rfl) ?_
        refine lv_iload_n hx hb dX12_execute_50 rfl (lv_at hl 2 rfl) ?_
        refine lv_iload_n hx hb dX12_execute_51 rfl (lv_at hl 0 rfl) ?_
        refine lv_iconst (v := 4) hx hb dX12_execute_52 (by decide) ?_
        obtain ⟨k135_, h⟩ := h
        refine q_callV X Y hl (cm_X12_read h) mt_X12_read mi_X12_read ml_X12_560 (ci := 12) rfl k135_ (by decide) rfl rfl (by first | exact Nat.le_of_ble_eq_true rfl | simp [q_cat, q_catI, q_catJ, q_catR]) ⟨Nat.le_of_ble_eq_true rfl, Nat.le_of_ble_eq_true rfl⟩ ⟨Nat.le_of_ble_eq_true rfl, Nat.le_of_ble_eq_true rfl⟩ dX12_execute_53 (fun r136_ S137_ H locs hp Y => ?_)
        obtain ⟨x138_, rfl, h⟩ := hp
        refine W.eq (g2 := F0 m 56 ls [.int x138_]) rfl ?_
        refine lv_istore (i := 4) (lv' := [(4, .int x138_), (3, .int (q_A S a121_ x2.toNatClampNeg)), (0, .ref a0), (1, .int x1), (2, .int x2)]) hx hb dX12_execute_56 hl (by decide) (by first | rfl | simp [q_cat, q_catI, q_catJ, q_catR]) (fun ls hl => ?_)
        refine lv_iload hx hb dX12_execute_58 (lv_at hl 0 rfl) ?_
        refine lv_bipush (v := 7) hx hb dX12_execute_60 (by decide) ?_
        refine lv_ishr hx hb dX12_execute_62 ?_
        refine lv_bipush (v := 31) hx hb dX12_execute_63 (by decide) ?_
        refine lv_iand hx hb dX12_execute_65 ?_
        refine lv_istore (i := 5) (lv' := [(5, .int ((x138_ >>> ((7 : Int32) &&& 31)) &&& (31 : Int32))), (4, .int x138_), (3, .int (q_A S a121_ x2.toNatClampNeg)), (0, .ref a0), (1, .int x1), (2, .int x2)]) hx hb dX12_execute_66 hl (by decide) (by first | rfl | simp [q_cat, q_catI, q_catJ, q_catR]) (fun ls hl => ?_)
        refine lv_iload hx hb dX12_execute_68 (lv_at hl 1 rfl) ?_
        refine lv_bipush (v := 12) hx hb dX12_execute_70 (by decide) ?_
        refine lv_ishr hx hb dX12_execute_72 ?_
        refine lv_bipush (v := 7) hx hb dX12_execute_73 (by decide) ?_
        refine lv_iand hx hb dX12_execute_75 ?_
        refine lv_istore (i := 6) (lv' := [(6, .int ((x138_ >>> ((12 : Int32) &&& 31)) &&& (7 : Int32))), (5, .int ((x138_ >>> ((7 : Int32) &&& 31)) &&& (31 : Int32))), (4, .int x138_), (3, .int (q_A S a121_ x2.toNatClampNeg)), (0, .ref a0), (1, .int x1), (2, .int x2)]) hx hb dX12_execute_76 hl (by decide) (by first | rfl | simp [q_cat, q_catI, q_catJ, q_catR]) (fun ls hl => ?_)
        refine lv_aload_n hx hb dX12_execute_78 rfl (lv_at hl 4 rfl) ?_
        obtain ⟨k139_, h⟩ := h
        refine q_getP X Y kX12 77 rfl fl_X12_179 k139_ rfl dX12_execute_79 ?_
        refine lv_bipush (v := 32) hx hb dX12_execute_82 (by decide) ?_
        refine lv_iload_n hx hb dX12_execute_84 rfl (lv_at hl 6 rfl) ?_
        refine lv_imul hx hb dX12_execute_85 ?_
        refine lv_iload hx hb dX12_execute_86 (lv_at hl 2 rfl) ?_
        refine lv_bipush (v := 15) hx hb dX12_execute_88 (by decide) ?_
        refine lv_ishr hx hb dX12_execute_90 ?_
        refine lv_bipush (v := 31) hx hb dX12_execute_91 (by decide) ?_
        refine lv_iand hx hb dX12_execute_93 ?_
        refine lv_iadd hx hb dX12_execute_94 ?_
        obtain ⟨a140_, e141_, h⟩ := h
        refine q_nn [.int (((32 : Int32) * x2) + ((x138_ >>> ((15 : Int32) &&& 31)) &&& (31 : Int32)))] e141_ ?_
        obtain ⟨k142_, h⟩ := h
        obtain ⟨i143_, h⟩ := h
        refine q_ild X Y k142_ i143_ dX12_execute_95 ?_
        refine lv_istore (i := 7) (lv' := [(7, .int (q_A S137_ a140_ (((32 : Int32) * x2) + ((x138_ >>> ((15 : Int32) &&& 31)) &&& (31 : Int32))).toNatClampNeg)), (6, .int ((x138_ >>> ((12 : Int32) &&& 31)) &&& (7 : Int32))), (5, .int ((x138_ >>> ((7 : Int32) &&& 31)) &&& (31 : Int32))), (4, .int x138_), (3, .int (q_A S a121_ x2.toNatClampNeg)), (0, .ref a0), (1, .int x1), (2, .int x2)]) hx hb dX12_execute_96 hl (by decide) (by first | rfl | simp [q_cat, q_catI, q_catJ, q_catR]) (fun ls hl => ?_)
        refine lv_aload_n hx hb dX12_execute_98 rfl (lv_at hl 5 rfl) ?_
        refine q_getR X Y kX12 77 rfl fl_X12_179 k139_ e141_ dX12_execute_99 ?_
        refine lv_bipush (v := 32) hx hb dX12_execute_102 (by decide) ?_
        refine lv_iload_n hx hb dX12_execute_104 rfl (lv_at hl 7 rfl) ?_
        refine lv_imul hx hb dX12_execute_105 ?_
        refine lv_iload hx hb dX12_execute_106 (lv_at hl 3 rfl) ?_
        refine lv_bipush (v := 20) hx hb dX12_execute_108 (by decide) ?_
        refine lv_ishr hx hb dX12_execute_110 ?_
        refine lv_bipush (v := 31) hx hb dX12_execute_111 (by decide) ?_
        refine lv_iand hx hb dX12_execute_113 ?_
        refine lv_iadd hx hb dX12_execute_114 ?_
        obtain ⟨i144_, h⟩ := h
        refine q_ild X Y k142_ i144_ dX12_execute_115 ?_
        refine lv_istore (i := 8) (lv' := [(8, .int (q_A S137_ a140_ (((32 : Int32) * x2) + ((x138_ >>> ((20 : Int32) &&& 31)) &&& (31 : Int32))).toNatClampNeg)), (7, .int (q_A S137_ a140_ (((32 : Int32) * x2) + ((x138_ >>> ((15 : Int32) &&& 31)) &&& (31 : Int32))).toNatClampNeg)), (6, .int ((x138_ >>> ((12 : Int32) &&& 31)) &&& (7 : Int32))), (5, .int ((x138_ >>> ((7 : Int32) &&& 31)) &&& (31 : Int32))), (4, .int x138_), (3, .int (q_A S a121_ x2.toNatClampNeg)), (0, .ref a0), (1, .int x1), (2, .int x2)]) hx hb dX12_execute_116 hl (by decide) (by first | rfl | simp [q_cat, q_catI, q_catJ, q_catR]) (fun ls hl => ?_)
        refine lv_iload hx hb dX12_execute_118 (lv_at hl 4 rfl) ?_
        refine lv_bipush (v := 25) hx hb dX12_execute_120 (by decide) ?_
        refine lv_iushr hx hb dX12_execute_122 rfl ?_
        refine lv_istore (i := 9) (lv' := [(9, .int ((x138_.toUInt32 >>> ((25 : Int32).toUInt32 &&& Int32.toUInt32 31)).toInt32)), (8, .int (q_A S137_ a140_ (((32 : Int32) * x2) + ((x138_ >>> ((20 : Int32) &&& 31)) &&& (31 : Int32))).toNatClampNeg)), (7, .int (q_A S137_ a140_ (((32 : Int32) * x2) + ((x138_ >>> ((15 : Int32) &&& 31)) &&& (31 : Int32))).toNatClampNeg)), (6, .int ((x138_ >>> ((12 : Int32) &&& 31)) &&& (7 : Int32))), (5, .int ((x138_ >>> ((7 : Int32) &&& 31)) &&& (31 : Int32))), (4, .int x138_), (3, .int (q_A S a121_ x2.toNatClampNeg)), (0, .ref a0), (1, .int x1), (2, .int x2)]) hx hb dX12_execute_123 hl (by decide) (by first | rfl | simp [q_cat, q_catI, q_catJ, q_catR]) (fun ls hl => ?_)
        refine lv_iload hx hb dX12_execute_125 (lv_at hl 5 rfl) ?_
        refine lv_bipush (v := 20) hx hb dX12_execute_127 (by decide) ?_
        refine lv_ishr hx hb dX12_execute_129 ?_
        refine lv_istore (i := 10) (lv' := [(10, .int (x138_ >>> ((20 : Int32) &&& 31))), (9, .int ((x138_.toUInt32 >>> ((25 : Int32).toUInt32 &&& Int32.toUInt32 31)).toInt32)), (8, .int (q_A S137_ a140_ (((32 : Int32) * x2) + ((x138_ >>> ((20 : Int32) &&& 31)) &&& (31 : Int32))).toNatClampNeg)), (7, .int (q_A S137_ a140_ (((32 : Int32) * x2) + ((x138_ >>> ((15 : Int32) &&& 31)) &&& (31 : Int32))).toNatClampNeg)), (6, .int ((x138_ >>> ((12 : Int32) &&& 31)) &&& (7 : Int32))), (5, .int ((x138_ >>> ((7 : Int32) &&& 31)) &&& (31 : Int32))), (4, .int x138_), (3, .int (q_A S a121_ x2.toNatClampNeg)), (0, .ref a0), (1, .int x1), (2, .int x2)]) hx hb dX12_execute_130 hl (by decide) (by first | rfl | simp [q_cat, q_catI, q_catJ, q_catR]) (fun ls hl => ?_)
        refine lv_iload hx hb dX12_execute_132 (lv_at hl 6 rfl) ?_
        refine lv_bipush (v := 127) hx hb dX12_execute_134 (by decide) ?_
        refine lv_iand hx hb dX12_execute_136 ?_
        by_cases c145_ : (x138_ &&& (127 : Int32)) = (3 : Int32)
        · refine lv_lookup (off := 428) (tgt := 565) hx hb dX12_execute_137 (by decide) (by rw [c145_]; rfl) (by decide) ?_
          replace h := h.1 c145_
          exact cb_X12_execute_565 X Y (lv_sub hl [8, 9, 10, 6, 5, 4, 3, 0] rfl) h
        · skip
          by_cases c146_ : (x138_ &&& (127 : Int32)) = (19 : Int32)
          · refine lv_lookup (off := 514) (tgt := 651) hx hb dX12_execute_137 (by decide) (by rw [c146_]; rfl) (by decide) ?_
            replace h := h.2.1 c146_
            exact cb_X12_execute_651 X Y (lv_sub hl [8, 10, 7, 6, 5, 4, 3, 1, 0] rfl) h
          · skip
            by_cases c147_ : (x138_ &&& (127 : Int32)) = (23 : Int32)
            · refine lv_lookup (off := 99) (tgt := 236) hx hb dX12_execute_137 (by decide) (by rw [c147_]; rfl) (by decide) ?_
              replace h := h.2.2.1 c147_
              exact cb_X12_execute_236 X Y (lv_sub hl [8, 10, 7, 6, 5] rfl) h
            · skip
              by_cases c148_ : (x138_ &&& (127 : Int32)) = (35 : Int32)
              · refine lv_lookup (off := 467) (tgt := 604) hx hb dX12_execute_137 (by decide) (by rw [c148_]; rfl) (by decide) ?_
                replace h := h.2.2.2.1 c148_
                exact cb_X12_execute_604 X Y (lv_sub hl [8, 9, 10, 6, 4, 3, 2] rfl) h
              · skip
                by_cases c149_ : (x138_ &&& (127 : Int32)) = (51 : Int32)
                · refine lv_lookup (off := 590) (tgt := 727) hx hb dX12_execute_137 (by decide) (by rw [c149_]; rfl) (by decide) ?_
                  replace h := h.2.2.2.2.1 c149_
                  exact cb_X12_execute_727 X Y (lv_sub hl [8, 10, 7, 6, 5, 4, 3, 2, 1] rfl) h
                · skip
                  by_cases c150_ : (x138_ &&& (127 : Int32)) = (55 : Int32)
                  · refine lv_lookup (off := 83) (tgt := 220) hx hb dX12_execute_137 (by decide) (by rw [c150_]; rfl) (by decide) ?_
                    replace h := h.2.2.2.2.2.1 c150_
                    exact cb_X12_execute_220 X Y (lv_sub hl [8, 10, 7, 6, 5] rfl) h
                  · skip
                    by_cases c151_ : (x138_ &&& (127 : Int32)) = (99 : Int32)
                    · refine lv_lookup (off := 223) (tgt := 360) hx hb dX12_execute_137 (by decide) (by rw [c151_]; rfl) (by decide) ?_
                      replace h := h.2.2.2.2.2.2.1 c151_
                      exact cb_X12_execute_360 X Y (lv_sub hl [8, 10, 7, 6, 4, 3, 2] rfl) h
                    · skip
                      by_cases c152_ : (x138_ &&& (127 : Int32)) = (103 : Int32)
                      · refine lv_lookup (off := 184) (tgt := 321) hx hb dX12_execute_137 (by decide) (by rw [c152_]; rfl) (by decide) ?_
                        replace h := h.2.2.2.2.2.2.2.1 c152_
                        exact cb_X12_execute_321 X Y (lv_sub hl [8, 10, 7, 6, 5, 4, 3, 0] rfl) h
                      · skip
                        by_cases c153_ : (x138_ &&& (127 : Int32)) = (111 : Int32)
                        · refine lv_lookup (off := 117) (tgt := 254) hx hb dX12_execute_137 (by decide) (by rw [c153_]; rfl) (by decide) ?_
                          replace h := h.2.2.2.2.2.2.2.2.1 c153_
                          exact cb_X12_execute_254 X Y (lv_sub hl [8, 10, 7, 6, 5] rfl) h
                        · skip
                          refine lv_lookup (off := 674) (tgt := 811) hx hb dX12_execute_137 (by decide) (by show Op.lookupswitch.offset [(3, 428), (19, 514), (23, 99), (35, 467), (51, 590), (55, 83), (99, 223), (103, 184), (111, 117)] _ _ = _; rw [lv_osw c145_ (by decide), lv_osw c146_ (by decide), lv_osw c147_ (by decide), lv_osw c148_ (by decide), lv_osw c149_ (by decide), lv_osw c150_ (by decide), lv_osw c151_ (by decide), lv_osw c152_ (by decide), lv_osw c153_ (by decide)]; rfl) (by decide) ?_
                          replace h := h.2.2.2.2.2.2.2.2.2 ⟨c145_, c146_, c147_, c148_, c149_, c150_, c151_, c152_, c153_⟩
                          exact cb_X12_execute_811 X Y (lv_sub hl [8, 9, 10, 7, 6] rfl) h
      · replace h := h.2 c134_
        exact cb_X12_execute_41 X Y (lv_sub hl [1, 3, 0] rfl) h
  · replace h := h.2 c125_
    refine lv_aload_n hx hb dX12_execute_13 rfl (lv_at hl 1 rfl) ?_
    refine lv_iload_n hx hb dX12_execute_14 rfl (lv_at hl 3 rfl) ?_
    refine lv_iconst (v := 4) hx hb dX12_execute_15 (by decide) ?_
    refine lv_iload_n hx hb dX12_execute_16 rfl (lv_at hl 0 rfl) ?_
    refine q_callV X Y hl (cm_X12_fails h) mt_X12_fails mi_X12_fails ml_X12_521 (ci := 12) rfl k120_ (by decide) rfl rfl (by first | exact Nat.le_of_ble_eq_true rfl | simp [q_cat, q_catI, q_catJ, q_catR]) ⟨Nat.le_of_ble_eq_true rfl, Nat.le_of_ble_eq_true rfl⟩ ⟨Nat.le_of_ble_eq_true rfl, Nat.le_of_ble_eq_true rfl⟩ dX12_execute_17 (fun r154_ S155_ H locs hp Y => ?_)
    obtain ⟨rfl, h⟩ := hp
    refine W.eq (g2 := F0 m 20 ls []) rfl ?_
    exact q_vret X Y (Nat.le_refl _) (Nat.le_refl _) h dX12_execute_20
