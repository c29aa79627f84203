-- X0_decide
theorem ml_X0_298 : Cond.methodLink RX0 298 yX5_makeReady ∈ q_G := q_tb (i := 1671) (by decide +kernel) (by decide +kernel)
theorem dX0_decide_0 : decode cX0_decide 0 = .ok (.aload_n 0, 1) := by decide +kernel
theorem dX0_decide_1 : decode cX0_decide 1 = .ok (.getfield 19, 3) := by decide +kernel
theorem dX0_decide_4 : decode cX0_decide 4 = .ok (.getfield 75, 3) := by decide +kernel
theorem dX0_decide_7 : decode cX0_decide 7 = .ok (.ifCond .ne 5, 3) := by decide +kernel
theorem dX0_decide_10 : decode cX0_decide 10 = .ok (.iconst 3, 1) := by decide +kernel
theorem dX0_decide_11 : decode cX0_decide 11 = .ok (.ireturn, 1) := by decide +kernel
theorem dX0_decide_12 : decode cX0_decide 12 = .ok (.aload_n 0, 1) := by decide +kernel
theorem dX0_decide_13 : decode cX0_decide 13 = .ok (.getfield 15, 3) := by decide +kernel
theorem dX0_decide_16 : decode cX0_decide 16 = .ok (.aload_n 0, 1) := by decide +kernel
theorem dX0_decide_17 : decode cX0_decide 17 = .ok (.getfield 15, 3) := by decide +kernel
theorem dX0_decide_20 : decode cX0_decide 20 = .ok (.getfield 286, 3) := by decide +kernel
theorem dX0_decide_23 : decode cX0_decide 23 = .ok (.invokevirtual 131, 3) := by decide +kernel
theorem dX0_decide_26 : decode cX0_decide 26 = .ok (.astore_n 2, 1) := by decide +kernel
theorem dX0_decide_27 : decode cX0_decide 27 = .ok (.aload_n 2, 1) := by decide +kernel
theorem dX0_decide_28 : decode cX0_decide 28 = .ok (.ifnonnull 5, 3) := by decide +kernel
theorem dX0_decide_31 : decode cX0_decide 31 = .ok (.iconst 2, 1) := by decide +kernel
theorem dX0_decide_32 : decode cX0_decide 32 = .ok (.ireturn, 1) := by decide +kernel
theorem dX0_decide_33 : decode cX0_decide 33 = .ok (.iload_n 1, 1) := by decide +kernel
theorem dX0_decide_34 : decode cX0_decide 34 = .ok (.ifCond .lt 8, 3) := by decide +kernel
theorem dX0_decide_37 : decode cX0_decide 37 = .ok (.iload_n 1, 1) := by decide +kernel
theorem dX0_decide_38 : decode cX0_decide 38 = .ok (.iconst 2, 1) := by decide +kernel
theorem dX0_decide_39 : decode cX0_decide 39 = .ok (.if_icmp .le 5, 3) := by decide +kernel
theorem dX0_decide_42 : decode cX0_decide 42 = .ok (.iconst 1, 1) := by decide +kernel
theorem dX0_decide_43 : decode cX0_decide 43 = .ok (.ireturn, 1) := by decide +kernel
theorem dX0_decide_44 : decode cX0_decide 44 = .ok (.iload_n 1, 1) := by decide +kernel
theorem dX0_decide_45 : decode cX0_decide 45 = .ok (.iconst 1, 1) := by decide +kernel
theorem dX0_decide_46 : decode cX0_decide 46 = .ok (.if_icmp .ne 14, 3) := by decide +kernel
theorem dX0_decide_49 : decode cX0_decide 49 = .ok (.aload_n 0, 1) := by decide +kernel
theorem dX0_decide_50 : decode cX0_decide 50 = .ok (.getfield 15, 3) := by decide +kernel
theorem dX0_decide_53 : decode cX0_decide 53 = .ok (.aload_n 2, 1) := by decide +kernel
theorem dX0_decide_54 : decode cX0_decide 54 = .ok (.invokevirtual 93, 3) := by decide +kernel
theorem dX0_decide_57 : decode cX0_decide 57 = .ok (.goto 68, 3) := by decide +kernel
theorem dX0_decide_60 : decode cX0_decide 60 = .ok (.iload_n 1, 1) := by decide +kernel
theorem dX0_decide_61 : decode cX0_decide 61 = .ok (.iconst 2, 1) := by decide +kernel
theorem dX0_decide_62 : decode cX0_decide 62 = .ok (.if_icmp .ne 22, 3) := by decide +kernel
theorem dX0_decide_65 : decode cX0_decide 65 = .ok (.aload_n 0, 1) := by decide +kernel
theorem dX0_decide_66 : decode cX0_decide 66 = .ok (.getfield 15, 3) := by decide +kernel
theorem dX0_decide_69 : decode cX0_decide 69 = .ok (.aload_n 2, 1) := by decide +kernel
theorem dX0_decide_70 : decode cX0_decide 70 = .ok (.aload_n 0, 1) := by decide +kernel
theorem dX0_decide_71 : decode cX0_decide 71 = .ok (.getfield 36, 3) := by decide +kernel
theorem dX0_decide_74 : decode cX0_decide 74 = .ok (.aload_n 0, 1) := by decide +kernel
theorem dX0_decide_75 : decode cX0_decide 75 = .ok (.getfield 36, 3) := by decide +kernel
theorem dX0_decide_78 : decode cX0_decide 78 = .ok (.invokevirtual 138, 3) := by decide +kernel
theorem dX0_decide_81 : decode cX0_decide 81 = .ok (.goto 44, 3) := by decide +kernel
theorem dX0_decide_84 : decode cX0_decide 84 = .ok (.aload_n 0, 1) := by decide +kernel
theorem dX0_decide_85 : decode cX0_decide 85 = .ok (.getfield 15, 3) := by decide +kernel
theorem dX0_decide_88 : decode cX0_decide 88 = .ok (.iconst (-1), 1) := by decide +kernel
theorem dX0_decide_89 : decode cX0_decide 89 = .ok (.putfield 286, 3) := by decide +kernel
theorem dX0_decide_92 : decode cX0_decide 92 = .ok (.aload_n 2, 1) := by decide +kernel
theorem dX0_decide_93 : decode cX0_decide 93 = .ok (.dup, 1) := by decide +kernel
theorem dX0_decide_94 : decode cX0_decide 94 = .ok (.getfield 39, 3) := by decide +kernel
theorem dX0_decide_97 : decode cX0_decide 97 = .ok (.aload_n 0, 1) := by decide +kernel
theorem dX0_decide_98 : decode cX0_decide 98 = .ok (.getfield 15, 3) := by decide +kernel
theorem dX0_decide_101 : decode cX0_decide 101 = .ok (.getfield 295, 3) := by decide +kernel
theorem dX0_decide_104 : decode cX0_decide 104 = .ok (.iconst 2, 1) := by decide +kernel
theorem dX0_decide_105 : decode cX0_decide 105 = .ok (.if_icmp .ne 7, 3) := by decide +kernel
theorem dX0_decide_108 : decode cX0_decide 108 = .ok (.iconst 0, 1) := by decide +kernel
theorem dX0_decide_109 : decode cX0_decide 109 = .ok (.goto 4, 3) := by decide +kernel
theorem dX0_decide_112 : decode cX0_decide 112 = .ok (.iconst 4, 1) := by decide +kernel
theorem dX0_decide_113 : decode cX0_decide 113 = .ok (.iadd, 1) := by decide +kernel
theorem dX0_decide_114 : decode cX0_decide 114 = .ok (.putfield 39, 3) := by decide +kernel
theorem dX0_decide_117 : decode cX0_decide 117 = .ok (.aload_n 0, 1) := by decide +kernel
theorem dX0_decide_118 : decode cX0_decide 118 = .ok (.getfield 15, 3) := by decide +kernel
theorem dX0_decide_121 : decode cX0_decide 121 = .ok (.aload_n 2, 1) := by decide +kernel
theorem dX0_decide_122 : decode cX0_decide 122 = .ok (.invokevirtual 298, 3) := by decide +kernel
theorem dX0_decide_125 : decode cX0_decide 125 = .ok (.iconst 0, 1) := by decide +kernel
theorem dX0_decide_126 : decode cX0_decide 126 = .ok (.ireturn, 1) := by decide +kernel
def wb_X0_decide_42  (S : q_S) (Q : Option Value → q_S → Prop) : Prop := Q (some (.int (1 : Int32))) S
set_option maxHeartbeats 4000000 in
set_option maxRecDepth 100000 in
theorem cb_X0_decide_42 {p : Program} {l : Launch} {e : Env} {s : State} {m : MethodId} {args : Array Value} {below : List Frame} {meth : Method} {c : Code} {D : va_G} {cy : Nat → ClassId} {lo : Nat}  {S : q_S} {Q : Option Value → q_S → Prop} {H : Heap} {locs : List Loc} {ls : Array Slot} (X : q_X p s m args meth c RX0 cX0_decide 3 (some .int) D cy lo)  (Y : q_Y D cy lo s S H locs) (hl : lv_has ls 3 []) (h : wb_X0_decide_42 S Q) : W p l e ({ frames := 3, cells := 0, slots := 0, locals := 66 } : Room) s m args below meth c H locs 0 0 (MQ below (q_Q D cy lo Q) args s 0 0 (fun q => lo ≤ q)) (F0 m 42 ls []) := by
  have hx := X.1
  have hb := X.2.1
  unfold wb_X0_decide_42 at h
  refine lv_iconst (v := 1) hx hb dX0_decide_42 (by decide) ?_
  exact q_iret X Y rfl (Nat.le_refl _) (Nat.le_refl _) h dX0_decide_43
def wb_X0_decide_125  (S : q_S) (Q : Option Value → q_S → Prop) : Prop := Q (some (.int (0 : Int32))) S
set_option maxHeartbeats 4000000 in
set_option maxRecDepth 100000 in
theorem cb_X0_decide_125 {p : Program} {l : Launch} {e : Env} {s : State} {m : MethodId} {args : Array Value} {below : List Frame} {meth : Method} {c : Code} {D : va_G} {cy : Nat → ClassId} {lo : Nat}  {S : q_S} {Q : Option Value → q_S → Prop} {H : Heap} {locs : List Loc} {ls : Array Slot} (X : q_X p s m args meth c RX0 cX0_decide 3 (some .int) D cy lo)  (Y : q_Y D cy lo s S H locs) (hl : lv_has ls 3 []) (h : wb_X0_decide_125 S Q) : W p l e ({ frames := 3, cells := 0, slots := 0, locals := 66 } : Room) s m args below meth c H locs 0 0 (MQ below (q_Q D cy lo Q) args s 0 0 (fun q => lo ≤ q)) (F0 m 125 ls []) := by
  have hx := X.1
  have hb := X.2.1
  unfold wb_X0_decide_125 at h
  refine lv_iconst (v := 0) hx hb dX0_decide_125 (by decide) ?_
  exact q_iret X Y rfl (Nat.le_refl _) (Nat.le_refl _) h dX0_decide_126
def wb_X0_decide_113  (S : q_S) (a0 : Nat) (r2 : Option Nat) (rs0 : Option Nat) (xs1 : Int32) (xs2 : Int32) (Q : Option Value → q_S → Prop) : Prop := ∃ a1_ : Nat, rs0 = some a1_ ∧ (q_K S a1_ = 8 ∧ (q_K (qs_I S 1410 a1_ (xs1 + xs2)) a0 = 1 ∧ (∃ a5_ : Nat, (q_P (qs_I S 1410 a1_ (xs1 + xs2)) 1 a0) = some a5_ ∧ (q_K (qs_I S 1410 a1_ (xs1 + xs2)) a5_ = 6 ∧ (wm_X5_makeReady (qs_I S 1410 a1_ (xs1 + xs2)) a5_ r2 (fun r8_ S9_ => r8_ = none ∧ (wb_X0_decide_125 S9_ Q)))))))
set_option maxHeartbeats 4000000 in
set_option maxRecDepth 100000 in
theorem cb_X0_decide_113 {p : Program} {l : Launch} {e : Env} {s : State} {m : MethodId} {args : Array Value} {below : List Frame} {meth : Method} {c : Code} {D : va_G} {cy : Nat → ClassId} {lo : Nat}  {S : q_S} {a0 : Nat} {r2 : Option Nat} {rs0 : Option Nat} {xs1 : Int32} {xs2 : Int32} {Q : Option Value → q_S → Prop} {H : Heap} {locs : List Loc} {ls : Array Slot} (X : q_X p s m args meth c RX0 cX0_decide 3 (some .int) D cy lo)  (Y : q_Y D cy lo s S H locs) (hl : lv_has ls 3 [(0, .ref a0), (2, va_rf r2)]) (h : wb_X0_decide_113 S a0 r2 rs0 xs1 xs2 Q) : W p l e ({ frames := 3, cells := 0, slots := 0, locals := 66 } : Room) s m args below meth c H locs 0 0 (MQ below (q_Q D cy lo Q) args s 0 0 (fun q => lo ≤ q)) (F0 m 113 ls [.int xs2, .int xs1, va_rf rs0]) := by
  have hx := X.1
  have hb := X.2.1
  unfold wb_X0_decide_113 at h
  refine lv_iadd hx hb dX0_decide_113 ?_
  obtain ⟨a1_, e2_, h⟩ := h
  refine q_nn [.int (xs1 + xs2)] e2_ ?_
  obtain ⟨k3_, h⟩ := h
  refine q_putI X Y kX7 10 rfl fl_X0_39 k3_ .int rfl ⟨rfl, rfl⟩ rfl dX0_decide_114 (fun H locs Y => ?_)
  refine lv_aload_n hx hb dX0_decide_117 rfl (lv_at hl 0 rfl) ?_
  obtain ⟨k4_, h⟩ := h
  refine q_getP X Y kX0 1 rfl fl_X0_15 k4_ rfl dX0_decide_118 ?_
  refine q_aload_n hx hb dX0_decide_121 rfl (lv_at hl 1 rfl) ?_
  obtain ⟨a5_, e6_, h⟩ := h
  refine q_nn [va_rf r2] e6_ ?_
  obtain ⟨k7_, h⟩ := h
  refine q_callV X Y hl (cm_X5_makeReady h) mt_X5_makeReady mi_X5_makeReady ml_X0_298 (ci := 5) rfl k7_ (by decide) rfl rfl (by first | exact Nat.le_of_ble_eq_true rfl | simp [q_cat, q_catI, q_catJ, q_catR]) ⟨Nat.le_of_ble_eq_true rfl, Nat.le_of_ble_eq_true rfl⟩ ⟨Nat.le_of_ble_eq_true rfl, Nat.le_of_ble_eq_true rfl⟩ dX0_decide_122 (fun r8_ S9_ H locs hp Y => ?_)
  obtain ⟨rfl, h⟩ := hp
  refine W.eq (g2 := F0 m 125 ls []) rfl ?_
  exact cb_X0_decide_125 X Y (lv_sub hl [] rfl) h
def wm_X0_decide (S : q_S) (a0 : Nat) (x1 : Int32) (Q : Option Value → q_S → Prop) : Prop := q_K S a0 = 1 ∧ (∃ a11_ : Nat, (q_P S 2 a0) = some a11_ ∧ (q_K S a11_ = 8 ∧ (((¬ (q_I S 1407 a11_) = 0 → (∃ a15_ : Nat, (q_P S 1 a0) = some a15_ ∧ (q_K S a15_ = 6 ∧ (wm_X5_processAt S a15_ (q_I S 1016 a15_) (fun r18_ S19_ => ∃ r20_ : Option Nat, r18_ = some (va_rf r20_) ∧ (((¬ r20_ = none → (((x1 < 0 → (wb_X0_decide_42 S19_ Q)) ∧ (¬ x1 < 0 → (((x1 ≤ (2 : Int32) → (((¬ x1 = (1 : Int32) → (((¬ x1 = (2 : Int32) → (q_K S19_ a0 = 1 ∧ (∃ a27_ : Nat, (q_P S19_ 1 a0) = some a27_ ∧ (q_K S19_ a27_ = 6 ∧ (∃ a30_ : Nat, r20_ = some a30_ ∧ (q_K (qs_I S19_ 1016 a27_ (-1 : Int32)) a30_ = 8 ∧ (∃ a33_ : Nat, (q_P (qs_I S19_ 1016 a27_ (-1 : Int32)) 1 a0) = some a33_ ∧ (q_K (qs_I S19_ 1016 a27_ (-1 : Int32)) a33_ = 6 ∧ (((¬ (q_I (qs_I S19_ 1016 a27_ (-1 : Int32)) 1017 a33_) = (2 : Int32) → (wb_X0_decide_113 (qs_I S19_ 1016 a27_ (-1 : Int32)) a0 r20_ r20_ (q_I (qs_I S19_ 1016 a27_ (-1 : Int32)) 1410 a30_) (4 : Int32) Q)) ∧ ((q_I (qs_I S19_ 1016 a27_ (-1 : Int32)) 1017 a33_) = (2 : Int32) → (wb_X0_decide_113 (qs_I S19_ 1016 a27_ (-1 : Int32)) a0 r20_ r20_ (q_I (qs_I S19_ 1016 a27_ (-1 : Int32)) 1410 a30_) (0 : Int32) Q)))))))))))) ∧ (x1 = (2 : Int32) → (q_K S19_ a0 = 1 ∧ (∃ a38_ : Nat, (q_P S19_ 1 a0) = some a38_ ∧ (q_K S19_ a38_ = 6 ∧ (wm_X5_start S19_ a38_ r20_ (q_I S19_ 4 a0) (q_I S19_ 4 a0) (fun r41_ S42_ => r41_ = none ∧ (wb_X0_decide_125 S42_ Q)))))))))) ∧ (x1 = (1 : Int32) → (q_K S19_ a0 = 1 ∧ (∃ a44_ : Nat, (q_P S19_ 1 a0) = some a44_ ∧ (q_K S19_ a44_ = 6 ∧ (wm_X5_rest S19_ a44_ r20_ (fun r47_ S48_ => r47_ = none ∧ (wb_X0_decide_125 S48_ Q)))))))))) ∧ (¬ x1 ≤ (2 : Int32) → (wb_X0_decide_42 S19_ Q)))))))) ∧ (r20_ = none → (Q (some (.int (2 : Int32))) S19_))))))))) ∧ ((q_I S 1407 a11_) = 0 → (Q (some (.int (3 : Int32))) S))))))
set_option maxHeartbeats 4000000 in
set_option maxRecDepth 100000 in
theorem cm_X0_decide {l : Launch} {D : va_G} {cy : Nat → ClassId} {lo : Nat} {S : q_S} {a0 : Nat} {x1 : Int32} {Q : Option Value → q_S → Prop} (h : wm_X0_decide S a0 x1 Q) : q_Met l D cy lo yX0_decide cX0_decide 3 (some .int) 3 66 0 0 [.ref a0, .int x1] S Q := by
  refine q_body (by decide) (by first | exact Nat.le_of_ble_eq_true rfl | simp [lg_sl, q_cat, q_catI, q_catJ, q_catR]) ?_
  intro p e s m below meth c ls X hnm Y hl
  have hx := X.1
  have hb := X.2.1
  have hl : lv_has ls 3 [(0, .ref a0), (1, .int x1)] := by first | exact hl | simpa [lv_args, q_cat, q_catI, q_catJ, q_catR] using hl
  generalize hargs : ([.ref a0, .int x1] : List Value).toArray = args at X ⊢
  unfold wm_X0_decide at h
  refine lv_aload_n hx hb dX0_decide_0 rfl (lv_at hl 0 rfl) ?_
  obtain ⟨k10_, h⟩ := h
  refine q_getP X Y kX0 2 rfl fl_X0_19 k10_ rfl dX0_decide_1 ?_
  obtain ⟨a11_, e12_, h⟩ := h
  refine q_nn [] e12_ ?_
  obtain ⟨k13_, h⟩ := h
  refine q_getI X Y kX7 7 rfl fl_X0_75 k13_ dX0_decide_4 ?_
  refine lv_if_ne (tgt := 12) hx hb dX0_decide_7 (by decide) (fun c14_ => ?_) (fun c14_ => ?_)
  · replace h := h.1 c14_
    refine lv_aload_n hx hb dX0_decide_12 rfl (lv_at hl 0 rfl) ?_
    refine q_getP X Y kX0 1 rfl fl_X0_15 k10_ rfl dX0_decide_13 ?_
    refine lv_aload_n hx hb dX0_decide_16 rfl (lv_at hl 0 rfl) ?_
    refine q_getP X Y kX0 1 rfl fl_X0_15 k10_ rfl dX0_decide_17 ?_
    obtain ⟨a15_, e16_, h⟩ := h
    refine q_nn [] e16_ ?_
    obtain ⟨k17_, h⟩ := h
    refine q_getI X Y kX5 16 rfl fl_X0_286 k17_ dX0_decide_20 ?_
    refine q_nn [.int (q_I S 1016 a15_)] e16_ ?_
    refine q_callV X Y hl (cm_X5_processAt h) mt_X5_processAt mi_X5_processAt ml_X0_131 (ci := 5) rfl k17_ (by decide) rfl rfl (by first | exact Nat.le_of_ble_eq_true rfl | simp [q_cat, q_catI, q_catJ, q_catR]) ⟨Nat.le_of_ble_eq_true rfl, Nat.le_of_ble_eq_true rfl⟩ ⟨Nat.le_of_ble_eq_true rfl, Nat.le_of_ble_eq_true rfl⟩ dX0_decide_23 (fun r18_ S19_ H locs hp Y => ?_)
    obtain ⟨r20_, rfl, h⟩ := hp
    refine W.eq (g2 := F0 m 26 ls [va_rf r20_]) rfl ?_
    refine q_astore_n (i := 2) (lv' := [(2, va_rf r20_), (0, .ref a0), (1, .int x1)]) hx hb dX0_decide_26 rfl hl (by decide) (by first | rfl | simp [q_cat, q_catI, q_catJ, q_catR]) (fun ls hl => ?_)
    refine q_aload_n hx hb dX0_decide_27 rfl (lv_at hl 0 rfl) ?_
    refine q_ifnonnull (r := r20_) (tgt := 33) hx hb dX0_decide_28 (by decide) (fun c21_ => ?_) (fun c21_ => ?_)
    · replace h := h.1 c21_
      refine lv_iload_n hx hb dX0_decide_33 rfl (lv_at hl 2 rfl) ?_
      refine lv_if_lt (tgt := 42) hx hb dX0_decide_34 (by decide) (fun c22_ => ?_) (fun c22_ => ?_)
      · replace h := h.1 c22_
        exact cb_X0_decide_42 X Y (lv_sub hl [] rfl) h
      · replace h := h.2 c22_
        refine lv_iload_n hx hb dX0_decide_37 rfl (lv_at hl 2 rfl) ?_
        refine lv_iconst (v := 2) hx hb dX0_decide_38 (by decide) ?_
        refine lv_icmp_le (tgt := 44) hx hb dX0_decide_39 (by decide) (fun c23_ => ?_) (fun c23_ => ?_)
        · replace h := h.1 c23_
          refine lv_iload_n hx hb dX0_decide_44 rfl (lv_at hl 2 rfl) ?_
          refine lv_iconst (v := 1) hx hb dX0_decide_45 (by decide) ?_
          refine lv_icmp_ne (tgt := 60) hx hb dX0_decide_46 (by decide) (fun c24_ => ?_) (fun c24_ => ?_)
          · replace h := h.1 c24_
            refine lv_iload_n hx hb dX0_decide_60 rfl (lv_at hl 2 rfl) ?_
            refine lv_iconst (v := 2) hx hb dX0_decide_61 (by decide) ?_
            refine lv_icmp_ne (tgt := 84) hx hb dX0_decide_62 (by decide) (fun c25_ => ?_) (fun c25_ => ?_)
            · replace h := h.1 c25_
              refine lv_aload_n hx hb dX0_decide_84 rfl (lv_at hl 1 rfl) ?_
              obtain ⟨k26_, h⟩ := h
              refine q_getP X Y kX0 1 rfl fl_X0_15 k26_ rfl dX0_decide_85 ?_
              refine lv_iconst (v := (-1)) hx hb dX0_decide_88 (by decide) ?_
              obtain ⟨a27_, e28_, h⟩ := h
              refine q_nn [.int (-1 : Int32)] e28_ ?_
              obtain ⟨k29_, h⟩ := h
              refine q_putI X Y kX5 16 rfl fl_X0_286 k29_ .int rfl ⟨rfl, rfl⟩ rfl dX0_decide_89 (fun H locs Y => ?_)
              refine q_aload_n hx hb dX0_decide_92 rfl (lv_at hl 0 rfl) ?_
              refine lv_dup hx hb dX0_decide_93 (q_cat _) ?_
              obtain ⟨a30_, e31_, h⟩ := h
              refine q_nn [] e31_ ?_
              obtain ⟨k32_, h⟩ := h
              refine q_getI X Y kX7 10 rfl fl_X0_39 k32_ dX0_decide_94 ?_
              refine lv_aload_n hx hb dX0_decide_97 rfl (lv_at hl 1 rfl) ?_
              refine q_getP X Y kX0 1 rfl fl_X0_15 k26_ rfl dX0_decide_98 ?_
              obtain ⟨a33_, e34_, h⟩ := h
              refine q_nn [] e34_ ?_
              obtain ⟨k35_, h⟩ := h
              refine q_getI X Y kX5 17 rfl fl_X0_295 k35_ dX0_decide_101 ?_
              refine lv_iconst (v := 2) hx hb dX0_decide_104 (by decide) ?_
              refine lv_icmp_ne (tgt := 112) hx hb dX0_decide_105 (by decide) (fun c36_ => ?_) (fun c36_ => ?_)
              · replace h := h.1 c36_
                refine lv_iconst (v := 4) hx hb dX0_decide_112 (by decide) ?_
                exact cb_X0_decide_113 X Y (lv_sub hl [1, 0] rfl) h
              · replace h := h.2 c36_
                refine lv_iconst (v := 0) hx hb dX0_decide_108 (by decide) ?_
                refine lv_goto (tgt := 113) hx hb dX0_decide_109 (by decide) ?_
                exact cb_X0_decide_113 X Y (lv_sub hl [1, 0] rfl) h
            · replace h := h.2 c25_
              refine lv_aload_n hx hb dX0_decide_65 rfl (lv_at hl 1 rfl) ?_
              obtain ⟨k37_, h⟩ := h
              refine q_getP X Y kX0 1 rfl fl_X0_15 k37_ rfl dX0_decide_66 ?_
              refine q_aload_n hx hb dX0_decide_69 rfl (lv_at hl 0 rfl) ?_
              refine lv_aload_n hx hb dX0_decide_70 rfl (lv_at hl 1 rfl) ?_
              refine q_getI X Y kX0 4 rfl fl_X0_36 k37_ dX0_decide_71 ?_
              refine lv_aload_n hx hb dX0_decide_74 rfl (lv_at hl 1 rfl) ?_
              refine q_getI X Y kX0 4 rfl fl_X0_36 k37_ dX0_decide_75 ?_
              obtain ⟨a38_, e39_, h⟩ := h
              refine q_nn [.int (q_I S19_ 4 a0), .int (q_I S19_ 4 a0), va_rf r20_] e39_ ?_
              obtain ⟨k40_, h⟩ := h
              refine q_callV X Y hl (cm_X5_start h) mt_X5_start mi_X5_start ml_X0_138 (ci := 5) rfl k40_ (by decide) rfl rfl (by first | exact Nat.le_of_ble_eq_true rfl | simp [q_cat, q_catI, q_catJ, q_catR]) ⟨Nat.le_of_ble_eq_true rfl, Nat.le_of_ble_eq_true rfl⟩ ⟨Nat.le_of_ble_eq_true rfl, Nat.le_of_ble_eq_true rfl⟩ dX0_decide_78 (fun r41_ S42_ H locs hp Y => ?_)
              obtain ⟨rfl, h⟩ := hp
              refine W.eq (g2 := F0 m 81 ls []) rfl ?_
              refine lv_goto (tgt := 125) hx hb dX0_decide_81 (by decide) ?_
              exact cb_X0_decide_125 X Y (lv_sub hl [] rfl) h
          · replace h := h.2 c24_
            refine lv_aload_n hx hb dX0_decide_49 rfl (lv_at hl 1 rfl) ?_
            obtain ⟨k43_, h⟩ := h
            refine q_getP X Y kX0 1 rfl fl_X0_15 k43_ rfl dX0_decide_50 ?_
            refine q_aload_n hx hb dX0_decide_53 rfl (lv_at hl 0 rfl) ?_
            obtain ⟨a44_, e45_, h⟩ := h
            refine q_nn [va_rf r20_] e45_ ?_
            obtain ⟨k46_, h⟩ := h
            refine q_callV X Y hl (cm_X5_rest h) mt_X5_rest mi_X5_rest ml_X0_93 (ci := 5) rfl k46_ (by decide) rfl rfl (by first | exact Nat.le_of_ble_eq_true rfl | simp [q_cat, q_catI, q_catJ, q_catR]) ⟨Nat.le_of_ble_eq_true rfl, Nat.le_of_ble_eq_true rfl⟩ ⟨Nat.le_of_ble_eq_true rfl, Nat.le_of_ble_eq_true rfl⟩ dX0_decide_54 (fun r47_ S48_ H locs hp Y => ?_)
            obtain ⟨rfl, h⟩ := hp
            refine W.eq (g2 := F0 m 57 ls []) rfl ?_
            refine lv_goto (tgt := 125) hx hb dX0_decide_57 (by decide) ?_
            exact cb_X0_decide_125 X Y (lv_sub hl [] rfl) h
        · replace h := h.2 c23_
          exact cb_X0_decide_42 X Y (lv_sub hl [] rfl) h
    · replace h := h.2 c21_
      refine lv_iconst (v := 2) hx hb dX0_decide_31 (by decide) ?_
      exact q_iret X Y rfl (Nat.le_refl _) (Nat.le_refl _) h dX0_decide_32
  · replace h := h.2 c14_
    refine lv_iconst (v := 3) hx hb dX0_decide_10 (by decide) ?_
    exact q_iret X Y rfl (Nat.le_refl _) (Nat.le_refl _) h dX0_decide_11
-- X0_ofPartition
theorem ml_X0_270 : Cond.methodLink RX0 270 yX0_decide ∈ q_G := q_tb (i := 1667) (by decide +kernel) (by decide +kernel)
theorem mt_X0_decide : q_Mt yX0_decide cX0_decide 3 (some .int) 1 := ⟨q_tb (i := 1670) (by decide +kernel) (by decide +kernel), q_tb (i := 10) (by decide +kernel) (by decide +kernel), by decide +kernel, by decide +kernel, by decide +kernel⟩
theorem mi_X0_decide : Cond.instanceMethod yX0_decide ∈ q_G ∧ Cond.selects yX0_decide.cls yX0_decide yX0_decide ∈ q_G := ⟨q_tb (i := 1669) (by decide +kernel) (by decide +kernel), q_tp (i := 76) (q := (yX0_decide, 5)) (by decide +kernel) (by decide +kernel)⟩
theorem ml_X0_258 : Cond.methodLink RX0 258 yX0_lock ∈ q_G := q_tb (i := 1641) (by decide +kernel) (by decide +kernel)
theorem mt_X0_lock : q_Mt yX0_lock cX0_lock 1 (some .int) 0 := ⟨q_tb (i := 1644) (by decide +kernel) (by decide +kernel), q_tb (i := 10) (by decide +kernel) (by decide +kernel), by decide +kernel, by decide +kernel, by decide +kernel⟩
theorem mi_X0_lock : Cond.instanceMethod yX0_lock ∈ q_G ∧ Cond.selects yX0_lock.cls yX0_lock yX0_lock ∈ q_G := ⟨q_tb (i := 1643) (by decide +kernel) (by decide +kernel), q_tp (i := 72) (q := (yX0_lock, 5)) (by decide +kernel) (by decide +kernel)⟩
theorem ml_X0_261 : Cond.methodLink RX0 261 yX0_unlock ∈ q_G := q_tb (i := 1649) (by decide +kernel) (by decide +kernel)
theorem mt_X0_unlock : q_Mt yX0_unlock cX0_unlock 1 (some .int) 0 := ⟨q_tb (i := 1652) (by decide +kernel) (by decide +kernel), q_tb (i := 10) (by decide +kernel) (by decide +kernel), by decide +kernel, by decide +kernel, by decide +kernel⟩
theorem mi_X0_unlock : Cond.instanceMethod yX0_unlock ∈ q_G ∧ Cond.selects yX0_unlock.cls yX0_unlock yX0_unlock ∈ q_G := ⟨q_tb (i := 1651) (by decide +kernel) (by decide +kernel), q_tp (i := 73) (q := (yX0_unlock, 5)) (by decide +kernel) (by decide +kernel)⟩
theorem ml_X0_264 : Cond.methodLink RX0 264 yX0_beginPartition ∈ q_G := q_tb (i := 1657) (by decide +kernel) (by decide +kernel)
theorem mt_X0_beginPartition : q_Mt yX0_beginPartition cX0_beginPartition 2 (some .int) 1 := ⟨q_tb (i := 1660) (by decide +kernel) (by decide +kernel), q_tb (i := 10) (by decide +kernel) (by decide +kernel), by decide +kernel, by decide +kernel, by decide +kernel⟩
theorem mi_X0_beginPartition : Cond.instanceMethod yX0_beginPartition ∈ q_G ∧ Cond.selects yX0_beginPartition.cls yX0_beginPartition yX0_beginPartition ∈ q_G := ⟨q_tb (i := 1659) (by decide +kernel) (by decide +kernel), q_tp (i := 74) (q := (yX0_beginPartition, 5)) (by decide +kernel) (by decide +kernel)⟩
theorem ml_X0_267 : Cond.methodLink RX0 267 yX0_tellFault ∈ q_G := q_tb (i := 1663) (by decide +kernel) (by decide +kernel)
theorem mt_X0_tellFault : q_Mt yX0_tellFault cX0_tellFault 2 (some .int) 0 := ⟨q_tb (i := 1666) (by decide +kernel) (by decide +kernel), q_tb (i := 10) (by decide +kernel) (by decide +kernel), by decide +kernel, by decide +kernel, by decide +kernel⟩
theorem mi_X0_tellFault : Cond.instanceMethod yX0_tellFault ∈ q_G ∧ Cond.selects yX0_tellFault.cls yX0_tellFault yX0_tellFault ∈ q_G := ⟨q_tb (i := 1665) (by decide +kernel) (by decide +kernel), q_tp (i := 75) (q := (yX0_tellFault, 5)) (by decide +kernel) (by decide +kernel)⟩
theorem dX0_ofPartition_0 : decode cX0_ofPartition 0 = .ok (.iload_n 1, 1) := by decide +kernel
theorem dX0_ofPartition_1 : decode cX0_ofPartition 1 = .ok (.tableswitch 52 21 24 #[31, 36, 41, 47], 31) := by decide +kernel
theorem dX0_ofPartition_32 : decode cX0_ofPartition 32 = .ok (.aload_n 0, 1) := by decide +kernel
theorem dX0_ofPartition_33 : decode cX0_ofPartition 33 = .ok (.invokevirtual 258, 3) := by decide +kernel
theorem dX0_ofPartition_36 : decode cX0_ofPartition 36 = .ok (.ireturn, 1) := by decide +kernel
theorem dX0_ofPartition_37 : decode cX0_ofPartition 37 = .ok (.aload_n 0, 1) := by decide +kernel
theorem dX0_ofPartition_38 : decode cX0_ofPartition 38 = .ok (.invokevirtual 261, 3) := by decide +kernel
theorem dX0_ofPartition_41 : decode cX0_ofPartition 41 = .ok (.ireturn, 1) := by decide +kernel
theorem dX0_ofPartition_42 : decode cX0_ofPartition 42 = .ok (.aload_n 0, 1) := by decide +kernel
theorem dX0_ofPartition_43 : decode cX0_ofPartition 43 = .ok (.iload_n 2, 1) := by decide +kernel
theorem dX0_ofPartition_44 : decode cX0_ofPartition 44 = .ok (.invokevirtual 264, 3) := by decide +kernel
theorem dX0_ofPartition_47 : decode cX0_ofPartition 47 = .ok (.ireturn, 1) := by decide +kernel
theorem dX0_ofPartition_48 : decode cX0_ofPartition 48 = .ok (.aload_n 0, 1) := by decide +kernel
theorem dX0_ofPartition_49 : decode cX0_ofPartition 49 = .ok (.invokevirtual 267, 3) := by decide +kernel
theorem dX0_ofPartition_52 : decode cX0_ofPartition 52 = .ok (.ireturn, 1) := by decide +kernel
theorem dX0_ofPartition_53 : decode cX0_ofPartition 53 = .ok (.aload_n 0, 1) := by decide +kernel
theorem dX0_ofPartition_54 : decode cX0_ofPartition 54 = .ok (.iload_n 2, 1) := by decide +kernel
theorem dX0_ofPartition_55 : decode cX0_ofPartition 55 = .ok (.invokevirtual 270, 3) := by decide +kernel
theorem dX0_ofPartition_58 : decode cX0_ofPartition 58 = .ok (.ireturn, 1) := by decide +kernel
def wm_X0_ofPartition (S : q_S) (a0 : Nat) (x1 : Int32) (x2 : Int32) (Q : Option Value → q_S → Prop) : Prop := (((x1.toInt < 21 ∨ 24 < x1.toInt) → (q_K S a0 = 1 ∧ (wm_X0_decide S a0 x2 (fun r2_ S3_ => ∃ x4_ : Int32, r2_ = some (.int x4_) ∧ (Q (some (.int x4_)) S3_))))) ∧ ((x1 = (21 : Int32)) → (q_K S a0 = 1 ∧ (wm_X0_lock S a0 (fun r6_ S7_ => ∃ x8_ : Int32, r6_ = some (.int x8_) ∧ (Q (some (.int x8_)) S7_))))) ∧ ((x1 = (22 : Int32)) → (q_K S a0 = 1 ∧ (wm_X0_unlock S a0 (fun r10_ S11_ => ∃ x12_ : Int32, r10_ = some (.int x12_) ∧ (Q (some (.int x12_)) S11_))))) ∧ ((x1 = (23 : Int32)) → (q_K S a0 = 1 ∧ (wm_X0_beginPartition S a0 x2 (fun r14_ S15_ => ∃ x16_ : Int32, r14_ = some (.int x16_) ∧ (Q (some (.int x16_)) S15_))))) ∧ ((x1 = (24 : Int32)) → (q_K S a0 = 1 ∧ (wm_X0_tellFault S a0 (fun r18_ S19_ => ∃ x20_ : Int32, r18_ = some (.int x20_) ∧ (Q (some (.int x20_)) S19_))))))
set_option maxHeartbeats 4000000 in
set_option maxRecDepth 100000 in
theorem cm_X0_ofPartition {l : Launch} {D : va_G} {cy : Nat → ClassId} {lo : Nat} {S : q_S} {a0 : Nat} {x1 : Int32} {x2 : Int32} {Q : Option Value → q_S → Prop} (h : wm_X0_ofPartition S a0 x1 x2 Q) : q_Met l D cy lo yX0_ofPartition cX0_ofPartition 3 (some .int) 5 126 0 0 [.ref a0, .int x1, .int x2] S Q := by
  refine q_body (by decide) (by first | exact Nat.le_of_ble_eq_true rfl | simp [lg_sl, q_cat, q_catI, q_catJ, q_catR]) ?_
  intro p e s m below meth c ls X hnm Y hl
  have hx := X.1
  have hb := X.2.1
  have hl : lv_has ls 3 [(0, .ref a0), (1, .int x1), (2, .int x2)] := by first | exact hl | simpa [lv_args, q_cat, q_catI, q_catJ, q_catR] using hl
  generalize hargs : ([.ref a0, .int x1, .int x2] : List Value).toArray = args at X ⊢
  unfold wm_X0_ofPartition at h
  refine lv_iload_n hx hb dX0_ofPartition_0 rfl (lv_at hl 1 rfl) ?_
  refine q_tsw (tgt := 53) hx hb dX0_ofPartition_1 (by decide) (by decide) (fun c21_ => ?_) (fun j22_ hj_ c21_ => ?_)
  · replace h := h.1 c21_
    refine lv_aload_n hx hb dX0_ofPartition_53 rfl (lv_at hl 0 rfl) ?_
    refine lv_iload_n hx hb dX0_ofPartition_54 rfl (lv_at hl 2 rfl) ?_
    obtain ⟨k1_, h⟩ := h
    refine q_callV X Y hl (cm_X0_decide h) mt_X0_decide mi_X0_decide ml_X0_270 (ci := 0) rfl k1_ (by decide) rfl rfl (by first | exact Nat.le_of_ble_eq_true rfl | simp [q_cat, q_catI, q_catJ, q_catR]) ⟨Nat.le_of_ble_eq_true rfl, Nat.le_of_ble_eq_true rfl⟩ ⟨Nat.le_of_ble_eq_true rfl, Nat.le_of_ble_eq_true rfl⟩ dX0_ofPartition_55 (fun r2_ S3_ H locs hp Y => ?_)
    obtain ⟨x4_, rfl, h⟩ := hp
    refine W.eq (g2 := F0 m 58 ls [.int x4_]) rfl ?_
    exact q_iret X Y rfl (Nat.le_refl _) (Nat.le_refl _) h dX0_ofPartition_58
  · match j22_, hj_, c21_ with
    | 0, _, c21_ =>
      refine ⟨31, 32, rfl, by decide, ?_⟩
      replace h := h.2.1 (q_eqI c21_ (by decide))
      refine lv_aload_n hx hb dX0_ofPartition_32 rfl (lv_at hl 0 rfl) ?_
      obtain ⟨k5_, h⟩ := h
      refine q_callV X Y hl (cm_X0_lock h) mt_X0_lock mi_X0_lock ml_X0_258 (ci := 0) rfl k5_ (by decide) rfl rfl (by first | exact Nat.le_of_ble_eq_true rfl | simp [q_cat, q_catI, q_catJ, q_catR]) ⟨Nat.le_of_ble_eq_true rfl, Nat.le_of_ble_eq_true rfl⟩ ⟨Nat.le_of_ble_eq_true rfl, Nat.le_of_ble_eq_true rfl⟩ dX0_ofPartition_33 (fun r6_ S7_ H locs hp Y => ?_)
      obtain ⟨x8_, rfl, h⟩ := hp
      refine W.eq (g2 := F0 m 36 ls [.int x8_]) rfl ?_
      exact q_iret X Y rfl (Nat.le_refl _) (Nat.le_refl _) h dX0_ofPartition_36
    | 1, _, c21_ =>
      refine ⟨36, 37, rfl, by decide, ?_⟩
      replace h := h.2.2.1 (q_eqI c21_ (by decide))
      refine lv_aload_n hx hb dX0_ofPartition_37 rfl (lv_at hl 0 rfl) ?_
      obtain ⟨k9_, h⟩ := h
      refine q_callV X Y hl (cm_X0_unlock h) mt_X0_unlock mi_X0_unlock ml_X0_261 (ci := 0) rfl k9_ (by decide) rfl rfl (by first | exact Nat.le_of_ble_eq_true rfl | simp [q_cat, q_catI, q_catJ, q_catR]) ⟨Nat.le_of_ble_eq_true rfl, Nat.le_of_ble_eq_true rfl⟩ ⟨Nat.le_of_ble_eq_true rfl, Nat.le_of_ble_eq_true rfl⟩ dX0_ofPartition_38 (fun r10_ S11_ H locs hp Y => ?_)
      obtain ⟨x12_, rfl, h⟩ := hp
      refine W.eq (g2 := F0 m 41 ls [.int x12_]) rfl ?_
      exact q_iret X Y rfl (Nat.le_refl _) (Nat.le_refl _) h dX0_ofPartition_41
    | 2, _, c21_ =>
      refine ⟨41, 42, rfl, by decide, ?_⟩
      replace h := h.2.2.2.1 (q_eqI c21_ (by decide))
      refine lv_aload_n hx hb dX0_ofPartition_42 rfl (lv_at hl 0 rfl) ?_
      refine lv_iload_n hx hb dX0_ofPartition_43 rfl (lv_at hl 2 rfl) ?_
      obtain ⟨k13_, h⟩ := h
      refine q_callV X Y hl (cm_X0_beginPartition h) mt_X0_beginPartition mi_X0_beginPartition ml_X0_264 (ci := 0) rfl k13_ (by decide) rfl rfl (by first | exact Nat.le_of_ble_eq_true rfl | simp [q_cat, q_catI, q_catJ, q_catR]) ⟨Nat.le_of_ble_eq_true rfl, Nat.le_of_ble_eq_true rfl⟩ ⟨Nat.le_of_ble_eq_true rfl, Nat.le_of_ble_eq_true rfl⟩ dX0_ofPartition_44 (fun r14_ S15_ H locs hp Y => ?_)
      obtain ⟨x16_, rfl, h⟩ := hp
      refine W.eq (g2 := F0 m 47 ls [.int x16_]) rfl ?_
      exact q_iret X Y rfl (Nat.le_refl _) (Nat.le_refl _) h dX0_ofPartition_47
    | 3, _, c21_ =>
      refine ⟨47, 48, rfl, by decide, ?_⟩
      replace h := h.2.2.2.2 (q_eqI c21_ (by decide))
      refine lv_aload_n hx hb dX0_ofPartition_48 rfl (lv_at hl 0 rfl) ?_
      obtain ⟨k17_, h⟩ := h
      refine q_callV X Y hl (cm_X0_tellFault h) mt_X0_tellFault mi_X0_tellFault ml_X0_267 (ci := 0) rfl k17_ (by decide) rfl rfl (by first | exact Nat.le_of_ble_eq_true rfl | simp [q_cat, q_catI, q_catJ, q_catR]) ⟨Nat.le_of_ble_eq_true rfl, Nat.le_of_ble_eq_true rfl⟩ ⟨Nat.le_of_ble_eq_true rfl, Nat.le_of_ble_eq_true rfl⟩ dX0_ofPartition_49 (fun r18_ S19_ H locs hp Y => ?_)
      obtain ⟨x20_, rfl, h⟩ := hp
      refine W.eq (g2 := F0 m 52 ls [.int x20_]) rfl ?_
      exact q_iret X Y rfl (Nat.le_refl _) (Nat.le_refl _) h dX0_ofPartition_52
    | z_ + 4, hj_, _ => exact absurd hj_ (by simp)
-- X0_waitToGoOn
theorem dX0_waitToGoOn_0 : decode cX0_waitToGoOn 0 = .ok (.aload_n 0, 1) := by decide +kernel
theorem dX0_waitToGoOn_1 : decode cX0_waitToGoOn 1 = .ok (.iload_n 1, 1) := by decide +kernel
theorem dX0_waitToGoOn_2 : decode cX0_waitToGoOn 2 = .ok (.invokevirtual 164, 3) := by decide +kernel
theorem dX0_waitToGoOn_5 : decode cX0_waitToGoOn 5 = .ok (.ifCond .eq 5, 3) := by decide +kernel
theorem dX0_waitToGoOn_8 : decode cX0_waitToGoOn 8 = .ok (.iconst 1, 1) := by decide +kernel
theorem dX0_waitToGoOn_9 : decode cX0_waitToGoOn 9 = .ok (.ireturn, 1) := by decide +kernel
theorem dX0_waitToGoOn_10 : decode cX0_waitToGoOn 10 = .ok (.aload_n 0, 1) := by decide +kernel
theorem dX0_waitToGoOn_11 : decode cX0_waitToGoOn 11 = .ok (.getfield 19, 3) := by decide +kernel
theorem dX0_waitToGoOn_14 : decode cX0_waitToGoOn 14 = .ok (.getfield 121, 3) := by decide +kernel
theorem dX0_waitToGoOn_17 : decode cX0_waitToGoOn 17 = .ok (.ifCond .le 7, 3) := by decide +kernel
theorem dX0_waitToGoOn_20 : decode cX0_waitToGoOn 20 = .ok (.iconst 3, 1) := by decide +kernel
theorem dX0_waitToGoOn_21 : decode cX0_waitToGoOn 21 = .ok (.goto 11, 3) := by decide +kernel
theorem dX0_waitToGoOn_24 : decode cX0_waitToGoOn 24 = .ok (.aload_n 0, 1) := by decide +kernel
theorem dX0_waitToGoOn_25 : decode cX0_waitToGoOn 25 = .ok (.sipush 129, 3) := by decide +kernel
theorem dX0_waitToGoOn_28 : decode cX0_waitToGoOn 28 = .ok (.iload_n 1, 1) := by decide +kernel
theorem dX0_waitToGoOn_29 : decode cX0_waitToGoOn 29 = .ok (.invokevirtual 87, 3) := by decide +kernel
theorem dX0_waitToGoOn_32 : decode cX0_waitToGoOn 32 = .ok (.ireturn, 1) := by decide +kernel
def wb_X0_waitToGoOn_32  (S : q_S) (xs0 : Int32) (Q : Option Value → q_S → Prop) : Prop := Q (some (.int xs0)) S
set_option maxHeartbeats 4000000 in
set_option maxRecDepth 100000 in
theorem cb_X0_waitToGoOn_32 {p : Program} {l : Launch} {e : Env} {s : State} {m : MethodId} {args : Array Value} {below : List Frame} {meth : Method} {c : Code} {D : va_G} {cy : Nat → ClassId} {lo : Nat}  {S : q_S} {xs0 : Int32} {Q : Option Value → q_S → Prop} {H : Heap} {locs : List Loc} {ls : Array Slot} (X : q_X p s m args meth c RX0 cX0_waitToGoOn 2 (some .int) D cy lo)  (Y : q_Y D cy lo s S H locs) (hl : lv_has ls 2 []) (h : wb_X0_waitToGoOn_32 S xs0 Q) : W p l e ({ frames := 2, cells := 0, slots := 0, locals := 45 } : Room) s m args below meth c H locs 0 0 (MQ below (q_Q D cy lo Q) args s 0 0 (fun q => lo ≤ q)) (F0 m 32 ls [.int xs0]) := by
  have hx := X.1
  have hb := X.2.1
  unfold wb_X0_waitToGoOn_32 at h
  exact q_iret X Y rfl (Nat.le_refl _) (Nat.le_refl _) h dX0_waitToGoOn_32
def wm_X0_waitToGoOn (S : q_S) (a0 : Nat) (x1 : Int32) (Q : Option Value → q_S → Prop) : Prop := q_K S a0 = 1 ∧ (wm_X0_isNoTime S a0 x1 (fun r2_ S3_ => ∃ x4_ : Int32, r2_ = some (.int x4_) ∧ (((x4_ = 0 → (q_K S3_ a0 = 1 ∧ (∃ a7_ : Nat, (q_P S3_ 2 a0) = some a7_ ∧ (q_K S3_ a7_ = 8 ∧ ((((q_I S3_ 1404 a7_) ≤ 0 → (wm_X0_waitFor S3_ a0 (129 : Int32) x1 (fun r11_ S12_ => ∃ x13_ : Int32, r11_ = some (.int x13_) ∧ (wb_X0_waitToGoOn_32 S12_ x13_ Q)))) ∧ (¬ (q_I S3_ 1404 a7_) ≤ 0 → (wb_X0_waitToGoOn_32 S3_ (3 : Int32) Q)))))))) ∧ (¬ x4_ = 0 → (Q (some (.int (1 : Int32))) S3_))))))
set_option maxHeartbeats 4000000 in
set_option maxRecDepth 100000 in
theorem cm_X0_waitToGoOn {l : Launch} {D : va_G} {cy : Nat → ClassId} {lo : Nat} {S : q_S} {a0 : Nat} {x1 : Int32} {Q : Option Value → q_S → Prop} (h : wm_X0_waitToGoOn S a0 x1 Q) : q_Met l D cy lo yX0_waitToGoOn cX0_waitToGoOn 2 (some .int) 2 45 0 0 [.ref a0, .int x1] S Q := by
  refine q_body (by decide) (by first | exact Nat.le_of_ble_eq_true rfl | simp [lg_sl, q_cat, q_catI, q_catJ, q_catR]) ?_
  intro p e s m below meth c ls X hnm Y hl
  have hx := X.1
  have hb := X.2.1
  have hl : lv_has ls 2 [(0, .ref a0), (1, .int x1)] := by first | exact hl | simpa [lv_args, q_cat, q_catI, q_catJ, q_catR] using hl
  generalize hargs : ([.ref a0, .int x1] : List Value).toArray = args at X ⊢
  unfold wm_X0_waitToGoOn at h
  refine lv_aload_n hx hb dX0_waitToGoOn_0 rfl (lv_at hl 0 rfl) ?_
  refine lv_iload_n hx hb dX0_waitToGoOn_1 rfl (lv_at hl 1 rfl) ?_
  obtain ⟨k1_, h⟩ := h
  refine q_callV X Y hl (cm_X0_isNoTime h) mt_X0_isNoTime mi_X0_isNoTime ml_X0_164 (ci := 0) rfl k1_ (by decide) rfl rfl (by first | exact Nat.le_of_ble_eq_true rfl | simp [q_cat, q_catI, q_catJ, q_catR]) ⟨Nat.le_of_ble_eq_true rfl, Nat.le_of_ble_eq_true rfl⟩ ⟨Nat.le_of_ble_eq_true rfl, Nat.le_of_ble_eq_true rfl⟩ dX0_waitToGoOn_2 (fun r2_ S3_ H locs hp Y => ?_)
  obtain ⟨x4_, rfl, h⟩ := hp
  refine W.eq (g2 := F0 m 5 ls [.int x4_]) rfl ?_
  refine lv_if_eq (tgt := 10) hx hb dX0_waitToGoOn_5 (by decide) (fun c5_ => ?_) (fun c5_ => ?_)
  · replace h := h.1 c5_
    refine lv_aload_n hx hb dX0_waitToGoOn_10 rfl (lv_at hl 0 rfl) ?_
    obtain ⟨k6_, h⟩ := h
    refine q_getP X Y kX0 2 rfl fl_X0_19 k6_ rfl dX0_waitToGoOn_11 ?_
    obtain ⟨a7_, e8_, h⟩ := h
    refine q_nn [] e8_ ?_
    obtain ⟨k9_, h⟩ := h
    refine q_getI X Y kX7 4 rfl fl_X0_121 k9_ dX0_waitToGoOn_14 ?_
    refine lv_if_le (tgt := 24) hx hb dX0_waitToGoOn_17 (by decide) (fun c10_ => ?_) (fun c10_ => ?_)
    · replace h := h.1 c10_
      refine lv_aload_n hx hb dX0_waitToGoOn_24 rfl (lv_at hl 0 rfl) ?_
      refine lv_sipush (v := 129) hx hb dX0_waitToGoOn_25 (by decide) ?_
      refine lv_iload_n hx hb dX0_waitToGoOn_28 rfl (lv_at hl 1 rfl) ?_
      refine q_callV X Y hl (cm_X0_waitFor h) mt_X0_waitFor mi_X0_waitFor ml_X0_87 (ci := 0) rfl k6_ (by decide) rfl rfl (by first | exact Nat.le_of_ble_eq_true rfl | simp [q_cat, q_catI, q_catJ, q_catR]) ⟨Nat.le_of_ble_eq_true rfl, Nat.le_of_ble_eq_true rfl⟩ ⟨Nat.le_of_ble_eq_true rfl, Nat.le_of_ble_eq_true rfl⟩ dX0_waitToGoOn_29 (fun r11_ S12_ H locs hp Y => ?_)
      obtain ⟨x13_, rfl, h⟩ := hp
      refine W.eq (g2 := F0 m 32 ls [.int x13_]) rfl ?_
      exact cb_X0_waitToGoOn_32 X Y (lv_sub hl [] rfl) h
    · replace h := h.2 c10_
      refine lv_iconst (v := 3) hx hb dX0_waitToGoOn_20 (by decide) ?_
      refine lv_goto (tgt := 32) hx hb dX0_waitToGoOn_21 (by decide) ?_
      exact cb_X0_waitToGoOn_32 X Y (lv_sub hl [] rfl) h
  · replace h := h.2 c5_
    refine lv_iconst (v := 1) hx hb dX0_waitToGoOn_8 (by decide) ?_
    exact q_iret X Y rfl (Nat.le_refl _) (Nat.le_refl _) h dX0_waitToGoOn_9
-- X0_hold
theorem fl_X0_319 : Cond.fieldLink RX0 319 "PartitionWorks$Process" "held" "Z" ∈ q_G := q_tb (i := 897) (by decide +kernel) (by decide +kernel)
theorem fl_X0_316 : Cond.fieldLink RX0 316 "PartitionWorks$Partition" "locker" "I" ∈ q_G := q_tb (i := 722) (by decide +kernel) (by decide +kernel)
theorem dX0_hold_0 : decode cX0_hold 0 = .ok (.aload_n 0, 1) := by decide +kernel
theorem dX0_hold_1 : decode cX0_hold 1 = .ok (.getfield 15, 3) := by decide +kernel
theorem dX0_hold_4 : decode cX0_hold 4 = .ok (.iload_n 1, 1) := by decide +kernel
theorem dX0_hold_5 : decode cX0_hold 5 = .ok (.invokevirtual 131, 3) := by decide +kernel
theorem dX0_hold_8 : decode cX0_hold 8 = .ok (.astore_n 2, 1) := by decide +kernel
theorem dX0_hold_9 : decode cX0_hold 9 = .ok (.aload_n 2, 1) := by decide +kernel
theorem dX0_hold_10 : decode cX0_hold 10 = .ok (.ifnull 18, 3) := by decide +kernel
theorem dX0_hold_13 : decode cX0_hold 13 = .ok (.aload_n 2, 1) := by decide +kernel
theorem dX0_hold_14 : decode cX0_hold 14 = .ok (.aload_n 0, 1) := by decide +kernel
theorem dX0_hold_15 : decode cX0_hold 15 = .ok (.getfield 19, 3) := by decide +kernel
theorem dX0_hold_18 : decode cX0_hold 18 = .ok (.if_acmp .eq 10, 3) := by decide +kernel
theorem dX0_hold_21 : decode cX0_hold 21 = .ok (.aload_n 2, 1) := by decide +kernel
theorem dX0_hold_22 : decode cX0_hold 22 = .ok (.getfield 75, 3) := by decide +kernel
theorem dX0_hold_25 : decode cX0_hold 25 = .ok (.ifCond .eq 5, 3) := by decide +kernel
theorem dX0_hold_28 : decode cX0_hold 28 = .ok (.iconst 1, 1) := by decide +kernel
theorem dX0_hold_29 : decode cX0_hold 29 = .ok (.ireturn, 1) := by decide +kernel
theorem dX0_hold_30 : decode cX0_hold 30 = .ok (.aload_n 2, 1) := by decide +kernel
theorem dX0_hold_31 : decode cX0_hold 31 = .ok (.getfield 121, 3) := by decide +kernel
theorem dX0_hold_34 : decode cX0_hold 34 = .ok (.ifCond .gt 24, 3) := by decide +kernel
theorem dX0_hold_37 : decode cX0_hold 37 = .ok (.aload_n 0, 1) := by decide +kernel
theorem dX0_hold_38 : decode cX0_hold 38 = .ok (.getfield 15, 3) := by decide +kernel
theorem dX0_hold_41 : decode cX0_hold 41 = .ok (.getfield 70, 3) := by decide +kernel
theorem dX0_hold_44 : decode cX0_hold 44 = .ok (.ifCond .le 16, 3) := by decide +kernel
theorem dX0_hold_47 : decode cX0_hold 47 = .ok (.aload_n 0, 1) := by decide +kernel
theorem dX0_hold_48 : decode cX0_hold 48 = .ok (.getfield 15, 3) := by decide +kernel
theorem dX0_hold_51 : decode cX0_hold 51 = .ok (.getfield 316, 3) := by decide +kernel
theorem dX0_hold_54 : decode cX0_hold 54 = .ok (.iload_n 1, 1) := by decide +kernel
theorem dX0_hold_55 : decode cX0_hold 55 = .ok (.if_icmp .ne 5, 3) := by decide +kernel
theorem dX0_hold_58 : decode cX0_hold 58 = .ok (.iconst 3, 1) := by decide +kernel
theorem dX0_hold_59 : decode cX0_hold 59 = .ok (.ireturn, 1) := by decide +kernel
theorem dX0_hold_60 : decode cX0_hold 60 = .ok (.aload_n 2, 1) := by decide +kernel
theorem dX0_hold_61 : decode cX0_hold 61 = .ok (.getfield 135, 3) := by decide +kernel
theorem dX0_hold_64 : decode cX0_hold 64 = .ok (.ifCond .eq 18, 3) := by decide +kernel
theorem dX0_hold_67 : decode cX0_hold 67 = .ok (.aload_n 2, 1) := by decide +kernel
theorem dX0_hold_68 : decode cX0_hold 68 = .ok (.getfield 135, 3) := by decide +kernel
theorem dX0_hold_71 : decode cX0_hold 71 = .ok (.iconst 3, 1) := by decide +kernel
theorem dX0_hold_72 : decode cX0_hold 72 = .ok (.if_icmp .eq 10, 3) := by decide +kernel
theorem dX0_hold_75 : decode cX0_hold 75 = .ok (.aload_n 2, 1) := by decide +kernel
theorem dX0_hold_76 : decode cX0_hold 76 = .ok (.getfield 319, 3) := by decide +kernel
theorem dX0_hold_79 : decode cX0_hold 79 = .ok (.ifCond .eq 5, 3) := by decide +kernel
theorem dX0_hold_82 : decode cX0_hold 82 = .ok (.iconst 2, 1) := by decide +kernel
theorem dX0_hold_83 : decode cX0_hold 83 = .ok (.ireturn, 1) := by decide +kernel
theorem dX0_hold_84 : decode cX0_hold 84 = .ok (.aload_n 2, 1) := by decide +kernel
theorem dX0_hold_85 : decode cX0_hold 85 = .ok (.iconst 1, 1) := by decide +kernel
theorem dX0_hold_86 : decode cX0_hold 86 = .ok (.putfield 319, 3) := by decide +kernel
theorem dX0_hold_89 : decode cX0_hold 89 = .ok (.iconst 0, 1) := by decide +kernel
theorem dX0_hold_90 : decode cX0_hold 90 = .ok (.ireturn, 1) := by decide +kernel
def wb_X0_hold_28  (S : q_S) (Q : Option Value → q_S → Prop) : Prop := Q (some (.int (1 : Int32))) S
set_option maxHeartbeats 4000000 in
set_option maxRecDepth 100000 in
theorem cb_X0_hold_28 {p : Program} {l : Launch} {e : Env} {s : State} {m : MethodId} {args : Array Value} {below : List Frame} {meth : Method} {c : Code} {D : va_G} {cy : Nat → ClassId} {lo : Nat}  {S : q_S} {Q : Option Value → q_S → Prop} {H : Heap} {locs : List Loc} {ls : Array Slot} (X : q_X p s m args meth c RX0 cX0_hold 3 (some .int) D cy lo)  (Y : q_Y D cy lo s S H locs) (hl : lv_has ls 3 []) (h : wb_X0_hold_28 S Q) : W p l e ({ frames := 1, cells := 0, slots := 0, locals := 21 } : Room) s m args below meth c H locs 0 0 (MQ below (q_Q D cy lo Q) args s 0 0 (fun q => lo ≤ q)) (F0 m 28 ls []) := by
  have hx := X.1
  have hb := X.2.1
  unfold wb_X0_hold_28 at h
  refine lv_iconst (v := 1) hx hb dX0_hold_28 (by decide) ?_
  exact q_iret X Y rfl (Nat.le_refl _) (Nat.le_refl _) h dX0_hold_29
def wb_X0_hold_58  (S : q_S) (Q : Option Value → q_S → Prop) : Prop := Q (some (.int (3 : Int32))) S
set_option maxHeartbeats 4000000 in
set_option maxRecDepth 100000 in
theorem cb_X0_hold_58 {p : Program} {l : Launch} {e : Env} {s : State} {m : MethodId} {args : Array Value} {below : List Frame} {meth : Method} {c : Code} {D : va_G} {cy : Nat → ClassId} {lo : Nat}  {S : q_S} {Q : Option Value → q_S → Prop} {H : Heap} {locs : List Loc} {ls : Array Slot} (X : q_X p s m args meth c RX0 cX0_hold 3 (some .int) D cy lo)  (Y : q_Y D cy lo s S H locs) (hl : lv_has ls 3 []) (h : wb_X0_hold_58 S Q) : W p l e ({ frames := 1, cells := 0, slots := 0, locals := 21 } : Room) s m args below meth c H locs 0 0 (MQ below (q_Q D cy lo Q) args s 0 0 (fun q => lo ≤ q)) (F0 m 58 ls []) := by
  have hx := X.1
  have hb := X.2.1
  unfold wb_X0_hold_58 at h
  refine lv_iconst (v := 3) hx hb dX0_hold_58 (by decide) ?_
  exact q_iret X Y rfl (Nat.le_refl _) (Nat.le_refl _) h dX0_hold_59
def wb_X0_hold_82  (S : q_S) (Q : Option Value → q_S → Prop) : Prop := Q (some (.int (2 : Int32))) S
set_option maxHeartbeats 4000000 in
set_option maxRecDepth 100000 in
theorem cb_X0_hold_82 {p : Program} {l : Launch} {e : Env} {s : State} {m : MethodId} {args : Array Value} {below : List Frame} {meth : Method} {c : Code} {D : va_G} {cy : Nat → ClassId} {lo : Nat}  {S : q_S} {Q : Option Value → q_S → Prop} {H : Heap} {locs : List Loc} {ls : Array Slot} (X : q_X p s m args meth c RX0 cX0_hold 3 (some .int) D cy lo)  (Y : q_Y D cy lo s S H locs) (hl : lv_has ls 3 []) (h : wb_X0_hold_82 S Q) : W p l e ({ frames := 1, cells := 0, slots := 0, locals := 21 } : Room) s m args below meth c H locs 0 0 (MQ below (q_Q D cy lo Q) args s 0 0 (fun q => lo ≤ q)) (F0 m 82 ls []) := by
  have hx := X.1
  have hb := X.2.1
  unfold wb_X0_hold_82 at h
  refine lv_iconst (v := 2) hx hb dX0_hold_82 (by decide) ?_
  exact q_iret X Y rfl (Nat.le_refl _) (Nat.le_refl _) h dX0_hold_83
def wb_X0_hold_60  (S : q_S) (r2 : Option Nat) (Q : Option Value → q_S → Prop) : Prop := ∃ a1_ : Nat, r2 = some a1_ ∧ (q_K S a1_ = 8 ∧ ((((q_I S 1409 a1_) = 0 → (wb_X0_hold_82 S Q)) ∧ (¬ (q_I S 1409 a1_) = 0 → ((((q_I S 1409 a1_) = (3 : Int32) → (wb_X0_hold_82 S Q)) ∧ (¬ (q_I S 1409 a1_) = (3 : Int32) → ((((q_I S 1416 a1_) = 0 → (Q (some (.int (0 : Int32))) (qs_I S 1416 a1_ (1 : Int32)))) ∧ (¬ (q_I S 1416 a1_) = 0 → (wb_X0_hold_82 S Q)))))))))))
set_option maxHeartbeats 4000000 in
set_option maxRecDepth 100000 in
theorem cb_X0_hold_60 {p : Program} {l : Launch} {e : Env} {s : State} {m : MethodId} {args : Array Value} {below : List Frame} {meth : Method} {c : Code} {D : va_G} {cy : Nat → ClassId} {lo : Nat}  {S : q_S} {r2 : Option Nat} {Q : Option Value → q_S → Prop} {H : Heap} {locs : List Loc} {ls : Array Slot} (X : q_X p s m args meth c RX0 cX0_hold 3 (some .int) D cy lo)  (Y : q_Y D cy lo s S H locs) (hl : lv_has ls 3 [(2, va_rf r2)]) (h : wb_X0_hold_60 S r2 Q) : W p l e ({ frames := 1, cells := 0, slots := 0, locals := 21 } : Room) s m args below meth c H locs 0 0 (MQ below (q_Q D cy lo Q) args s 0 0 (fun q => lo ≤ q)) (F0 m 60 ls []) := by
  have hx := X.1
  have hb := X.2.1
  unfold wb_X0_hold_60 at h
  refine q_aload_n hx hb dX0_hold_60 rfl (lv_at hl 0 rfl) ?_
  obtain ⟨a1_, e2_, h⟩ := h
  refine q_nn [] e2_ ?_
  obtain ⟨k3_, h⟩ := h
  refine q_getI X Y kX7 9 rfl fl_X0_135 k3_ dX0_hold_61 ?_
  refine lv_if_eq (tgt := 82) hx hb dX0_hold_64 (by decide) (fun c4_ => ?_) (fun c4_ => ?_)
  · replace h := h.1 c4_
    exact cb_X0_hold_82 X Y (lv_sub hl [] rfl) h
  · replace h := h.2 c4_
    refine q_aload_n hx hb dX0_hold_67 rfl (lv_at hl 0 rfl) ?_
    refine q_nn [] e2_ ?_
    refine q_getI X Y kX7 9 rfl fl_X0_135 k3_ dX0_hold_68 ?_
    refine lv_iconst (v := 3) hx hb dX0_hold_71 (by decide) ?_
    refine lv_icmp_eq (tgt := 82) hx hb dX0_hold_72 (by decide) (fun c5_ => ?_) (fun c5_ => ?_)
    · replace h := h.1 c5_
      exact cb_X0_hold_82 X Y (lv_sub hl [] rfl) h
    · replace h := h.2 c5_
      refine q_aload_n hx hb dX0_hold_75 rfl (lv_at hl 0 rfl) ?_
      refine q_nn [] e2_ ?_
      refine q_getI X Y kX7 16 rfl fl_X0_319 k3_ dX0_hold_76 ?_
      refine lv_if_eq (tgt := 84) hx hb dX0_hold_79 (by decide) (fun c6_ => ?_) (fun c6_ => ?_)
      · replace h := h.1 c6_
        refine q_aload_n hx hb dX0_hold_84 rfl (lv_at hl 0 rfl) ?_
        refine lv_iconst (v := 1) hx hb dX0_hold_85 (by decide) ?_
        refine q_nn [.int (1 : Int32)] e2_ ?_
        refine q_putI X Y kX7 16 rfl fl_X0_319 k3_ .boolean rfl ⟨rfl, rfl⟩ rfl dX0_hold_86 (fun H locs Y => ?_)
        refine lv_iconst (v := 0) hx hb dX0_hold_89 (by decide) ?_
        exact q_iret X Y rfl (Nat.le_refl _) (Nat.le_refl _) h dX0_hold_90
      · replace h := h.2 c6_
        exact cb_X0_hold_82 X Y (lv_sub hl [] rfl) h
def wm_X0_hold (S : q_S) (a0 : Nat) (x1 : Int32) (Q : Option Value → q_S → Prop) : Prop := q_K S a0 = 1 ∧ (∃ a8_ : Nat, (q_P S 1 a0) = some a8_ ∧ (q_K S a8_ = 6 ∧ (wm_X5_processAt S a8_ x1 (fun r11_ S12_ => ∃ r13_ : Option Nat, r11_ = some (va_rf r13_) ∧ (((r13_ = none → (wb_X0_hold_28 S12_ Q)) ∧ (¬ r13_ = none → (q_K S12_ a0 = 1 ∧ (((r13_ = (q_P S12_ 2 a0) → (wb_X0_hold_28 S12_ Q)) ∧ (¬ r13_ = (q_P S12_ 2 a0) → (∃ a17_ : Nat, r13_ = some a17_ ∧ (q_K S12_ a17_ = 8 ∧ ((((q_I S12_ 1407 a17_) = 0 → (((0 < (q_I S12_ 1404 a17_) → (wb_X0_hold_58 S12_ Q)) ∧ (¬ 0 < (q_I S12_ 1404 a17_) → (∃ a22_ : Nat, (q_P S12_ 1 a0) = some a22_ ∧ (q_K S12_ a22_ = 6 ∧ ((((q_I S12_ 1013 a22_) ≤ 0 → (wb_X0_hold_60 S12_ r13_ Q)) ∧ (¬ (q_I S12_ 1013 a22_) ≤ 0 → (((¬ (q_I S12_ 1014 a22_) = x1 → (wb_X0_hold_60 S12_ r13_ Q)) ∧ ((q_I S12_ 1014 a22_) = x1 → (wb_X0_hold_58 S12_ Q))))))))))))) ∧ (¬ (q_I S12_ 1407 a17_) = 0 → (wb_X0_hold_28 S12_ Q)))))))))))))))))
set_option maxHeartbeats 4000000 in
set_option maxRecDepth 100000 in
theorem cm_X0_hold {l : Launch} {D : va_G} {cy : Nat → ClassId} {lo : Nat} {S : q_S} {a0 : Nat} {x1 : Int32} {Q : Option Value → q_S → Prop} (h : wm_X0_hold S a0 x1 Q) : q_Met l D cy lo yX0_hold cX0_hold 3 (some .int) 1 21 0 0 [.ref a0, .int x1] S Q := by
  refine q_body (by decide) (by first | exact Nat.le_of_ble_eq_true rfl | simp [lg_sl, q_cat, q_catI, q_catJ, q_catR]) ?_
  intro p e s m below meth c ls X hnm Y hl
  have hx := X.1
  have hb := X.2.1
  have hl : lv_has ls 3 [(0, .ref a0), (1, .int x1)] := by first | exact hl | simpa [lv_args, q_cat, q_catI, q_catJ, q_catR] using hl
  generalize hargs : ([.ref a0, .int x1] : List Value).toArray = args at X ⊢
  unfold wm_X0_hold at h
  refine lv_aload_n hx hb dX0_hold_0 rfl (lv_at hl 0 rfl) ?_
  obtain ⟨k7_, h⟩ := h
  refine q_getP X Y kX0 1 rfl fl_X0_15 k7_ rfl dX0_hold_1 ?_
  refine lv_iload_n hx hb dX0_hold_4 rfl (lv_at hl 1 rfl) ?_
  obtain ⟨a8_, e9_, h⟩ := h
  refine q_nn [.int x1] e9_ ?_
  obtain ⟨k10_, h⟩ := h
  refine q_callV X Y hl (cm_X5_processAt h) mt_X5_processAt mi_X5_processAt ml_X0_131 (ci := 5) rfl k10_ (by decide) rfl rfl (by first | exact Nat.le_of_ble_eq_true rfl | simp [q_cat, q_catI, q_catJ, q_catR]) ⟨Nat.le_of_ble_eq_true rfl, Nat.le_of_ble_eq_true rfl⟩ ⟨Nat.le_of_ble_eq_true rfl, Nat.le_of_ble_eq_true rfl⟩ dX0_hold_5 (fun r11_ S12_ H locs hp Y => ?_)
  obtain ⟨r13_, rfl, h⟩ := hp
  refine W.eq (g2 := F0 m 8 ls [va_rf r13_]) rfl ?_
  refine q_astore_n (i := 2) (lv' := [(2, va_rf r13_), (0, .ref a0), (1, .int x1)]) hx hb dX0_hold_8 rfl hl (by decide) (by first | rfl | simp [q_cat, q_catI, q_catJ, q_catR]) (fun ls hl => ?_)
  refine q_aload_n hx hb dX0_hold_9 rfl (lv_at hl 0 rfl) ?_
  refine q_ifnull (r := r13_) (tgt := 28) hx hb dX0_hold_10 (by decide) (fun c14_ => ?_) (fun c14_ => ?_)
  · replace h := h.1 c14_
    exact cb_X0_hold_28 X Y (lv_sub hl [] rfl) h
  · replace h := h.2 c14_
    refine q_aload_n hx hb dX0_hold_13 rfl (lv_at hl 0 rfl) ?_
    refine lv_aload_n hx hb dX0_hold_14 rfl (lv_at hl 1 rfl) ?_
    obtain ⟨k15_, h⟩ := h
    refine q_getP X Y kX0 2 rfl fl_X0_19 k15_ rfl dX0_hold_15 ?_
    refine lv_acmp_eq (rx := r13_) (ry := (q_P S12_ 2 a0)) (tgt := 28) hx hb dX0_hold_18 (by decide) (fun c16_ => ?_) (fun c16_ => ?_)
    · replace h := h.1 c16_
      exact cb_X0_hold_28 X Y (lv_sub hl [] rfl) h
    · replace h := h.2 c16_
      refine q_aload_n hx hb dX0_hold_21 rfl (lv_at hl 0 rfl) ?_
      obtain ⟨a17_, e18_, h⟩ := h
      refine q_nn [] e18_ ?_
      obtain ⟨k19_, h⟩ := h
      refine q_getI X Y kX7 7 rfl fl_X0_75 k19_ dX0_hold_22 ?_
      refine lv_if_eq (tgt := 30) hx hb dX0_hold_25 (by decide) (fun c20_ => ?_) (fun c20_ => ?_)
      · replace h := h.1 c20_
        refine q_aload_n hx hb dX0_hold_30 rfl (lv_at hl 0 rfl) ?_
        refine q_nn [] e18_ ?_
        refine q_getI X Y kX7 4 rfl fl_X0_121 k19_ dX0_hold_31 ?_
        refine lv_if_gt (tgt := 58) hx hb dX0_hold_34 (by decide) (fun c21_ => ?_) (fun c21_ => ?_)
        · replace h := h.1 c21_
          exact cb_X0_hold_58 X Y (lv_sub hl [] rfl) h
        · replace h := h.2 c21_
          refine lv_aload_n hx hb dX0_hold_37 rfl (lv_at hl 1 rfl) ?_
          refine q_getP X Y kX0 1 rfl fl_X0_15 k15_ rfl dX0_hold_38 ?_
          obtain ⟨a22_, e23_, h⟩ := h
          refine q_nn [] e23_ ?_
          obtain ⟨k24_, h⟩ := h
          refine q_getI X Y kX5 13 rfl fl_X0_70 k24_ dX0_hold_41 ?_
          refine lv_if_le (tgt := 60) hx hb dX0_hold_44 (by decide) (fun c25_ => ?_) (fun c25_ => ?_)
          · replace h := h.1 c25_
            exact cb_X0_hold_60 X Y (lv_sub hl [0] rfl) h
          · replace h := h.2 c25_
            refine lv_aload_n hx hb dX0_hold_47 rfl (lv_at hl 1 rfl) ?_
            refine q_getR X Y kX0 1 rfl fl_X0_15 k15_ e23_ dX0_hold_48 ?_
            refine q_getI X Y kX5 14 rfl fl_X0_316 k24_ dX0_hold_51 ?_
            refine lv_iload_n hx hb dX0_hold_54 rfl (lv_at hl 2 rfl) ?_
            refine lv_icmp_ne (tgt := 60) hx hb dX0_hold_55 (by decide) (fun c26_ => ?_) (fun c26_ => ?_)
            · replace h := h.1 c26_
              exact cb_X0_hold_60 X Y (lv_sub hl [0] rfl) h
            · replace h := h.2 c26_
              exact cb_X0_hold_58 X Y (lv_sub hl [] rfl) h
      · replace h := h.2 c20_
        exact cb_X0_hold_28 X Y (lv_sub hl [] rfl) h
-- X0_letGoOn
theorem fl_X0_322 : Cond.fieldLink RX0 322 "PartitionWorks$Process" "waits" "I" ∈ q_G := q_tb (i := 902) (by decide +kernel) (by decide +kernel)
theorem dX0_letGoOn_0 : decode cX0_letGoOn 0 = .ok (.aload_n 0, 1) := by decide +kernel
theorem dX0_letGoOn_1 : decode cX0_letGoOn 1 = .ok (.getfield 15, 3) := by decide +kernel
theorem dX0_letGoOn_4 : decode cX0_letGoOn 4 = .ok (.iload_n 1, 1) := by decide +kernel
theorem dX0_letGoOn_5 : decode cX0_letGoOn 5 = .ok (.invokevirtual 131, 3) := by decide +kernel
theorem dX0_letGoOn_8 : decode cX0_letGoOn 8 = .ok (.astore_n 2, 1) := by decide +kernel
theorem dX0_letGoOn_9 : decode cX0_letGoOn 9 = .ok (.aload_n 2, 1) := by decide +kernel
theorem dX0_letGoOn_10 : decode cX0_letGoOn 10 = .ok (.ifnonnull 5, 3) := by decide +kernel
theorem dX0_letGoOn_13 : decode cX0_letGoOn 13 = .ok (.iconst 1, 1) := by decide +kernel
theorem dX0_letGoOn_14 : decode cX0_letGoOn 14 = .ok (.ireturn, 1) := by decide +kernel
theorem dX0_letGoOn_15 : decode cX0_letGoOn 15 = .ok (.aload_n 2, 1) := by decide +kernel
theorem dX0_letGoOn_16 : decode cX0_letGoOn 16 = .ok (.getfield 322, 3) := by decide +kernel
theorem dX0_letGoOn_19 : decode cX0_letGoOn 19 = .ok (.sipush 129, 3) := by decide +kernel
theorem dX0_letGoOn_22 : decode cX0_letGoOn 22 = .ok (.if_icmp .ne 7, 3) := by decide +kernel
theorem dX0_letGoOn_25 : decode cX0_letGoOn 25 = .ok (.iconst 1, 1) := by decide +kernel
theorem dX0_letGoOn_26 : decode cX0_letGoOn 26 = .ok (.goto 4, 3) := by decide +kernel
theorem dX0_letGoOn_29 : decode cX0_letGoOn 29 = .ok (.iconst 0, 1) := by decide +kernel
theorem dX0_letGoOn_30 : decode cX0_letGoOn 30 = .ok (.istore_n 3, 1) := by decide +kernel
theorem dX0_letGoOn_31 : decode cX0_letGoOn 31 = .ok (.iload_n 3, 1) := by decide +kernel
theorem dX0_letGoOn_32 : decode cX0_letGoOn 32 = .ok (.ifCond .ne 12, 3) := by decide +kernel
theorem dX0_letGoOn_35 : decode cX0_letGoOn 35 = .ok (.aload_n 2, 1) := by decide +kernel
theorem dX0_letGoOn_36 : decode cX0_letGoOn 36 = .ok (.getfield 319, 3) := by decide +kernel
theorem dX0_letGoOn_39 : decode cX0_letGoOn 39 = .ok (.ifCond .ne 5, 3) := by decide +kernel
theorem dX0_letGoOn_42 : decode cX0_letGoOn 42 = .ok (.iconst 2, 1) := by decide +kernel
theorem dX0_letGoOn_43 : decode cX0_letGoOn 43 = .ok (.ireturn, 1) := by decide +kernel
theorem dX0_letGoOn_44 : decode cX0_letGoOn 44 = .ok (.aload_n 2, 1) := by decide +kernel
theorem dX0_letGoOn_45 : decode cX0_letGoOn 45 = .ok (.iconst 0, 1) := by decide +kernel
theorem dX0_letGoOn_46 : decode cX0_letGoOn 46 = .ok (.putfield 319, 3) := by decide +kernel
theorem dX0_letGoOn_49 : decode cX0_letGoOn 49 = .ok (.iload_n 3, 1) := by decide +kernel
theorem dX0_letGoOn_50 : decode cX0_letGoOn 50 = .ok (.ifCond .eq 15, 3) := by decide +kernel
theorem dX0_letGoOn_53 : decode cX0_letGoOn 53 = .ok (.aload_n 0, 1) := by decide +kernel
theorem dX0_letGoOn_54 : decode cX0_letGoOn 54 = .ok (.getfield 15, 3) := by decide +kernel
theorem dX0_letGoOn_57 : decode cX0_letGoOn 57 = .ok (.aload_n 2, 1) := by decide +kernel
theorem dX0_letGoOn_58 : decode cX0_letGoOn 58 = .ok (.iconst 0, 1) := by decide +kernel
theorem dX0_letGoOn_59 : decode cX0_letGoOn 59 = .ok (.invokevirtual 174, 3) := by decide +kernel
theorem dX0_letGoOn_62 : decode cX0_letGoOn 62 = .ok (.goto 19, 3) := by decide +kernel
theorem dX0_letGoOn_65 : decode cX0_letGoOn 65 = .ok (.aload_n 2, 1) := by decide +kernel
theorem dX0_letGoOn_66 : decode cX0_letGoOn 66 = .ok (.getfield 135, 3) := by decide +kernel
theorem dX0_letGoOn_69 : decode cX0_letGoOn 69 = .ok (.iconst 1, 1) := by decide +kernel
theorem dX0_letGoOn_70 : decode cX0_letGoOn 70 = .ok (.if_icmp .ne 11, 3) := by decide +kernel
theorem dX0_letGoOn_73 : decode cX0_letGoOn 73 = .ok (.aload_n 0, 1) := by decide +kernel
theorem dX0_letGoOn_74 : decode cX0_letGoOn 74 = .ok (.getfield 15, 3) := by decide +kernel
theorem dX0_letGoOn_77 : decode cX0_letGoOn 77 = .ok (.aload_n 2, 1) := by decide +kernel
theorem dX0_letGoOn_78 : decode cX0_letGoOn 78 = .ok (.invokevirtual 118, 3) := by decide +kernel
theorem dX0_letGoOn_81 : decode cX0_letGoOn 81 = .ok (.iconst 0, 1) := by decide +kernel
theorem dX0_letGoOn_82 : decode cX0_letGoOn 82 = .ok (.ireturn, 1) := by decide +kernel
def wb_X0_letGoOn_81  (S : q_S) (Q : Option Value → q_S → Prop) : Prop := Q (some (.int (0 : Int32))) S
set_option maxHeartbeats 4000000 in
set_option maxRecDepth 100000 in
theorem cb_X0_letGoOn_81 {p : Program} {l : Launch} {e : Env} {s : State} {m : MethodId} {args : Array Value} {below : List Frame} {meth : Method} {c : Code} {D : va_G} {cy : Nat → ClassId} {lo : Nat}  {S : q_S} {Q : Option Value → q_S → Prop} {H : Heap} {locs : List Loc} {ls : Array Slot} (X : q_X p s m args meth c RX0 cX0_letGoOn 4 (some .int) D cy lo)  (Y : q_Y D cy lo s S H locs) (hl : lv_has ls 4 []) (h : wb_X0_letGoOn_81 S Q) : W p l e ({ frames := 2, cells := 0, slots := 0, locals := 43 } : Room) s m args below meth c H locs 0 0 (MQ below (q_Q D cy lo Q) args s 0 0 (fun q => lo ≤ q)) (F0 m 81 ls []) := by
  have hx := X.1
  have hb := X.2.1
  unfold wb_X0_letGoOn_81 at h
  refine lv_iconst (v := 0) hx hb dX0_letGoOn_81 (by decide) ?_
  exact q_iret X Y rfl (Nat.le_refl _) (Nat.le_refl _) h dX0_letGoOn_82
def wb_X0_letGoOn_44  (S : q_S) (a0 : Nat) (r2 : Option Nat) (x3 : Int32) (Q : Option Value → q_S → Prop) : Prop := ∃ a1_ : Nat, r2 = some a1_ ∧ (q_K S a1_ = 8 ∧ (((x3 = 0 → (((¬ (q_I (qs_I S 1416 a1_ (0 : Int32)) 1409 a1_) = (1 : Int32) → (wb_X0_letGoOn_81 (qs_I S 1416 a1_ (0 : Int32)) Q)) ∧ ((q_I (qs_I S 1416 a1_ (0 : Int32)) 1409 a1_) = (1 : Int32) → (q_K (qs_I S 1416 a1_ (0 : Int32)) a0 = 1 ∧ (∃ a7_ : Nat, (q_P (qs_I S 1416 a1_ (0 : Int32)) 1 a0) = some a7_ ∧ (q_K (qs_I S 1416 a1_ (0 : Int32)) a7_ = 6 ∧ (wm_X5_toTheBack (qs_I S 1416 a1_ (0 : Int32)) a7_ r2 (fun r10_ S11_ => r10_ = none ∧ (wb_X0_letGoOn_81 S11_ Q)))))))))) ∧ (¬ x3 = 0 → (q_K (qs_I S 1416 a1_ (0 : Int32)) a0 = 1 ∧ (∃ a13_ : Nat, (q_P (qs_I S 1416 a1_ (0 : Int32)) 1 a0) = some a13_ ∧ (q_K (qs_I S 1416 a1_ (0 : Int32)) a13_ = 6 ∧ (wm_X5_answerWaiter (qs_I S 1416 a1_ (0 : Int32)) a13_ r2 (0 : Int32) (fun r16_ S17_ => r16_ = none ∧ (wb_X0_letGoOn_81 S17_ Q))))))))))
set_option maxHeartbeats 4000000 in
set_option maxRecDepth 100000 in
theorem cb_X0_letGoOn_44 {p : Program} {l : Launch} {e : Env} {s : State} {m : MethodId} {args : Array Value} {below : List Frame} {meth : Method} {c : Code} {D : va_G} {cy : Nat → ClassId} {lo : Nat}  {S : q_S} {a0 : Nat} {r2 : Option Nat} {x3 : Int32} {Q : Option Value → q_S → Prop} {H : Heap} {locs : List Loc} {ls : Array Slot} (X : q_X p s m args meth c RX0 cX0_letGoOn 4 (some .int) D cy lo)  (Y : q_Y D cy lo s S H locs) (hl : lv_has ls 4 [(0, .ref a0), (2, va_rf r2), (3, .int x3)]) (h : wb_X0_letGoOn_44 S a0 r2 x3 Q) : W p l e ({ frames := 2, cells := 0, slots := 0, locals := 43 } : Room) s m args below meth c H locs 0 0 (MQ below (q_Q D cy lo Q) args s 0 0 (fun q => lo ≤ q)) (F0 m 44 ls []) := by
  have hx := X.1
  have hb := X.2.1
  unfold wb_X0_letGoOn_44 at h
  refine q_aload_n hx hb dX0_letGoOn_44 rfl (lv_at hl 1 rfl) ?_
  refine lv_iconst (v := 0) hx hb dX0_letGoOn_45 (by decide) ?_
  obtain ⟨a1_, e2_, h⟩ := h
  refine q_nn [.int (0 : Int32)] e2_ ?_
  obtain ⟨k3_, h⟩ := h
  refine q_putI X Y kX7 16 rfl fl_X0_319 k3_ .boolean rfl ⟨rfl, rfl⟩ rfl dX0_letGoOn_46 (fun H locs Y => ?_)
  refine lv_iload_n hx hb dX0_letGoOn_49 rfl (lv_at hl 2 rfl) ?_
  refine lv_if_eq (tgt := 65) hx hb dX0_letGoOn_50 (by decide) (fun c4_ => ?_) (fun c4_ => ?_)
  · replace h := h.1 c4_
    refine q_aload_n hx hb dX0_letGoOn_65 rfl (lv_at hl 1 rfl) ?_
    refine q_nn [] e2_ ?_
    refine q_getI X Y kX7 9 rfl fl_X0_135 k3_ dX0_letGoOn_66 ?_
    refine lv_iconst (v := 1) hx hb dX0_letGoOn_69 (by decide) ?_
    refine lv_icmp_ne (tgt := 81) hx hb dX0_letGoOn_70 (by decide) (fun c5_ => ?_) (fun c5_ => ?_)
    · replace h := h.1 c5_
      exact cb_X0_letGoOn_81 X Y (lv_sub hl [] rfl) h
    · replace h := h.2 c5_
      refine lv_aload_n hx hb dX0_letGoOn_73 rfl (lv_at hl 0 rfl) ?_
      obtain ⟨k6_, h⟩ := h
      refine q_getP X Y kX0 1 rfl fl_X0_15 k6_ rfl dX0_letGoOn_74 ?_
      refine q_aload_n hx hb dX0_letGoOn_77 rfl (lv_at hl 1 rfl) ?_
      obtain ⟨a7_, e8_, h⟩ := h
      refine q_nn [va_rf r2] e8_ ?_
      obtain ⟨k9_, h⟩ := h
      refine q_callV X Y hl (cm_X5_toTheBack h) mt_X5_toTheBack mi_X5_toTheBack ml_X0_118 (ci := 5) rfl k9_ (by decide) rfl rfl (by first | exact Nat.le_of_ble_eq_true rfl | simp [q_cat, q_catI, q_catJ, q_catR]) ⟨Nat.le_of_ble_eq_true rfl, Nat.le_of_ble_eq_true rfl⟩ ⟨Nat.le_of_ble_eq_true rfl, Nat.le_of_ble_eq_true rfl⟩ dX0_letGoOn_78 (fun r10_ S11_ H locs hp Y => ?_)
      obtain ⟨rfl, h⟩ := hp
      refine W.eq (g2 := F0 m 81 ls []) rfl ?_
      exact cb_X0_letGoOn_81 X Y (lv_sub hl [] rfl) h
  · replace h := h.2 c4_
    refine lv_aload_n hx hb dX0_letGoOn_53 rfl (lv_at hl 0 rfl) ?_
    obtain ⟨k12_, h⟩ := h
    refine q_getP X Y kX0 1 rfl fl_X0_15 k12_ rfl dX0_letGoOn_54 ?_
    refine q_aload_n hx hb dX0_letGoOn_57 rfl (lv_at hl 1 rfl) ?_
    refine lv_iconst (v := 0) hx hb dX0_letGoOn_58 (by decide) ?_
    obtain ⟨a13_, e14_, h⟩ := h
    refine q_nn [.int (0 : Int32), va_rf r2] e14_ ?_
    obtain ⟨k15_, h⟩ := h
    refine q_callV X Y hl (cm_X5_answerWaiter h) mt_X5_answerWaiter mi_X5_answerWaiter ml_X0_174 (ci := 5) rfl k15_ (by decide) rfl rfl (by first | exact Nat.le_of_ble_eq_true rfl | simp [q_cat, q_catI, q_catJ, q_catR]) ⟨Nat.le_of_ble_eq_true rfl, Nat.le_of_ble_eq_true rfl⟩ ⟨Nat.le_of_ble_eq_true rfl, Nat.le_of_ble_eq_true rfl⟩ dX0_letGoOn_59 (fun r16_ S17_ H locs hp Y => ?_)
    obtain ⟨rfl, h⟩ := hp
    refine W.eq (g2 := F0 m 62 ls []) rfl ?_
    refine lv_goto (tgt := 81) hx hb dX0_letGoOn_62 (by decide) ?_
    exact cb_X0_letGoOn_81 X Y (lv_sub hl [] rfl) h
def wb_X0_letGoOn_30  (S : q_S) (a0 : Nat) (r2 : Option Nat) (xs0 : Int32) (Q : Option Value → q_S → Prop) : Prop := ((¬ xs0 = 0 → (wb_X0_letGoOn_44 S a0 r2 xs0 Q)) ∧ (xs0 = 0 → (∃ a19_ : Nat, r2 = some a19_ ∧ (q_K S a19_ = 8 ∧ (((¬ (q_I S 1416 a19_) = 0 → (wb_X0_letGoOn_44 S a0 r2 xs0 Q)) ∧ ((q_I S 1416 a19_) = 0 → (Q (some (.int (2 : Int32))) S))))))))
set_option maxHeartbeats 4000000 in
set_option maxRecDepth 100000 in
theorem cb_X0_letGoOn_30 {p : Program} {l : Launch} {e : Env} {s : State} {m : MethodId} {args : Array Value} {below : List Frame} {meth : Method} {c : Code} {D : va_G} {cy : Nat → ClassId} {lo : Nat}  {S : q_S} {a0 : Nat} {r2 : Option Nat} {xs0 : Int32} {Q : Option Value → q_S → Prop} {H : Heap} {locs : List Loc} {ls : Array Slot} (X : q_X p s m args meth c RX0 cX0_letGoOn 4 (some .int) D cy lo)  (Y : q_Y D cy lo s S H locs) (hl : lv_has ls 4 [(0, .ref a0), (2, va_rf r2)]) (h : wb_X0_letGoOn_30 S a0 r2 xs0 Q) : W p l e ({ frames := 2, cells := 0, slots := 0, locals := 43 } : Room) s m args below meth c H locs 0 0 (MQ below (q_Q D cy lo Q) args s 0 0 (fun q => lo ≤ q)) (F0 m 30 ls [.int xs0]) := by
  have hx := X.1
  have hb := X.2.1
  unfold wb_X0_letGoOn_30 at h
  refine lv_istore_n (i := 3) (lv' := [(3, .int xs0), (0, .ref a0), (2, va_rf r2)]) hx hb dX0_letGoOn_30 rfl hl (by decide) (by first | rfl | simp [q_cat, q_catI, q_catJ, q_catR]) (fun ls hl => ?_)
  refine lv_iload_n hx hb dX0_letGoOn_31 rfl (lv_at hl 0 rfl) ?_
  refine lv_if_ne (tgt := 44) hx hb dX0_letGoOn_32 (by decide) (fun c18_ => ?_) (fun c18_ => ?_)
  · replace h := h.1 c18_
    exact cb_X0_letGoOn_44 X Y (lv_sub hl [1, 2, 0] rfl) h
  · replace h := h.2 c18_
    refine q_aload_n hx hb dX0_letGoOn_35 rfl (lv_at hl 2 rfl) ?_
    obtain ⟨a19_, e20_, h⟩ := h
    refine q_nn [] e20_ ?_
    obtain ⟨k21_, h⟩ := h
    refine q_getI X Y kX7 16 rfl fl_X0_319 k21_ dX0_letGoOn_36 ?_
    refine lv_if_ne (tgt := 44) hx hb dX0_letGoOn_39 (by decide) (fun c22_ => ?_) (fun c22_ => ?_)
    · replace h := h.1 c22_
      exact cb_X0_letGoOn_44 X Y (lv_sub hl [1, 2, 0] rfl) h
    · replace h := h.2 c22_
      refine lv_iconst (v := 2) hx hb dX0_letGoOn_42 (by decide) ?_
      exact q_iret X Y rfl (Nat.le_refl _) (Nat.le_refl _) h dX0_letGoOn_43
def wm_X0_letGoOn (S : q_S) (a0 : Nat) (x1 : Int32) (Q : Option Value → q_S → Prop) : Prop := q_K S a0 = 1 ∧ (∃ a24_ : Nat, (q_P S 1 a0) = some a24_ ∧ (q_K S a24_ = 6 ∧ (wm_X5_processAt S a24_ x1 (fun r27_ S28_ => ∃ r29_ : Option Nat, r27_ = some (va_rf r29_) ∧ (((¬ r29_ = none → (∃ a31_ : Nat, r29_ = some a31_ ∧ (q_K S28_ a31_ = 8 ∧ (((¬ (q_I S28_ 1418 a31_) = (129 : Int32) → (wb_X0_letGoOn_30 S28_ a0 r29_ (0 : Int32) Q)) ∧ ((q_I S28_ 1418 a31_) = (129 : Int32) → (wb_X0_letGoOn_30 S28_ a0 r29_ (1 : Int32) Q))))))) ∧ (r29_ = none → (Q (some (.int (1 : Int32))) S28_))))))))
set_option maxHeartbeats 4000000 in
set_option maxRecDepth 100000 in
theorem cm_X0_letGoOn {l : Launch} {D : va_G} {cy : Nat → ClassId} {lo : Nat} {S : q_S} {a0 : Nat} {x1 : Int32} {Q : Option Value → q_S → Prop} (h : wm_X0_letGoOn S a0 x1 Q) : q_Met l D cy lo yX0_letGoOn cX0_letGoOn 4 (some .int) 2 43 0 0 [.ref a0, .int x1] S Q := by
  refine q_body (by decide) (by first | exact Nat.le_of_ble_eq_true rfl | simp [lg_sl, q_cat, q_catI, q_catJ, q_catR]) ?_
  intro p e s m below meth c ls X hnm Y hl
  have hx := X.1
  have hb := X.2.1
  have hl : lv_has ls 4 [(0, .ref a0), (1, .int x1)] := by first | exact hl | simpa [lv_args, q_cat, q_catI, q_catJ, q_catR] using hl
  generalize hargs : ([.ref a0, .int x1] : List Value).toArray = args at X ⊢
  unfold wm_X0_letGoOn at h
  refine lv_aload_n hx hb dX0_letGoOn_0 rfl (lv_at hl 0 rfl) ?_
  obtain ⟨k23_, h⟩ := h
  refine q_getP X Y kX0 1 rfl fl_X0_15 k23_ rfl dX0_letGoOn_1 ?_
  refine lv_iload_n hx hb dX0_letGoOn_4 rfl (lv_at hl 1 rfl) ?_
  obtain ⟨a24_, e25_, h⟩ := h
  refine q_nn [.int x1] e25_ ?_
  obtain ⟨k26_, h⟩ := h
  refine q_callV X Y hl (cm_X5_processAt h) mt_X5_processAt mi_X5_processAt ml_X0_131 (ci := 5) rfl k26_ (by decide) rfl rfl (by first | exact Nat.le_of_ble_eq_true rfl | simp [q_cat, q_catI, q_catJ, q_catR]) ⟨Nat.le_of_ble_eq_true rfl, Nat.le_of_ble_eq_true rfl⟩ ⟨Nat.le_of_ble_eq_true rfl, Nat.le_of_ble_eq_true rfl⟩ dX0_letGoOn_5 (fun r27_ S28_ H locs hp Y => ?_)
  obtain ⟨r29_, rfl, h⟩ := hp
  refine W.eq (g2 := F0 m 8 ls [va_rf r29_]) rfl ?_
  refine q_astore_n (i := 2) (lv' := [(2, va_rf r29_), (0, .ref a0), (1, .int x1)]) hx hb dX0_letGoOn_8 rfl hl (by decide) (by first | rfl | simp [q_cat, q_catI, q_catJ, q_catR]) (fun ls hl => ?_)
  refine q_aload_n hx hb dX0_letGoOn_9 rfl (lv_at hl 0 rfl) ?_
  refine q_ifnonnull (r := r29_) (tgt := 15) hx hb dX0_letGoOn_10 (by decide) (fun c30_ => ?_) (fun c30_ => ?_)
  · replace h := h.1 c30_
    refine q_aload_n hx hb dX0_letGoOn_15 rfl (lv_at hl 0 rfl) ?_
    obtain ⟨a31_, e32_, h⟩ := h
    refine q_nn [] e32_ ?_
    obtain ⟨k33_, h⟩ := h
    refine q_getI X Y kX7 18 rfl fl_X0_322 k33_ dX0_letGoOn_16 ?_
    refine lv_sipush (v := 129) hx hb dX0_letGoOn_19 (by decide) ?_
    refine lv_icmp_ne (tgt := 29) hx hb dX0_letGoOn_22 (by decide) (fun c34_ => ?_) (fun c34_ => ?_)
    · replace h := h.1 c34_
      refine lv_iconst (v := 0) hx hb dX0_letGoOn_29 (by decide) ?_
      exact cb_X0_letGoOn_30 X Y (lv_sub hl [1, 0] rfl) h
    · replace h := h.2 c34_
      refine lv_iconst (v := 1) hx hb dX0_letGoOn_25 (by decide) ?_
      refine lv_goto (tgt := 30) hx hb dX0_letGoOn_26 (by decide) ?_
      exact cb_X0_letGoOn_30 X Y (lv_sub hl [1, 0] rfl) h
  · replace h := h.2 c30_
    refine lv_iconst (v := 1) hx hb dX0_letGoOn_13 (by decide) ?_
    exact q_iret X Y rfl (Nat.le_refl _) (Nat.le_refl _) h dX0_letGoOn_14
-- X0_setDue
theorem fl_X0_328 : Cond.fieldLink RX0 328 "PartitionWorks$Process" "due" "I" ∈ q_G := q_tb (i := 885) (by decide +kernel) (by decide +kernel)
theorem fl_X0_325 : Cond.fieldLink RX0 325 "PartitionWorks$Process" "deadline" "I" ∈ q_G := q_tb (i := 858) (by decide +kernel) (by decide +kernel)
theorem dX0_setDue_0 : decode cX0_setDue 0 = .ok (.aload_n 0, 1) := by decide +kernel
theorem dX0_setDue_1 : decode cX0_setDue 1 = .ok (.iload_n 1, 1) := by decide +kernel
theorem dX0_setDue_2 : decode cX0_setDue 2 = .ok (.invokevirtual 101, 3) := by decide +kernel
theorem dX0_setDue_5 : decode cX0_setDue 5 = .ok (.ifCond .eq 5, 3) := by decide +kernel
theorem dX0_setDue_8 : decode cX0_setDue 8 = .ok (.iconst 1, 1) := by decide +kernel
theorem dX0_setDue_9 : decode cX0_setDue 9 = .ok (.ireturn, 1) := by decide +kernel
theorem dX0_setDue_10 : decode cX0_setDue 10 = .ok (.aload_n 0, 1) := by decide +kernel
theorem dX0_setDue_11 : decode cX0_setDue 11 = .ok (.getfield 19, 3) := by decide +kernel
theorem dX0_setDue_14 : decode cX0_setDue 14 = .ok (.getfield 325, 3) := by decide +kernel
theorem dX0_setDue_17 : decode cX0_setDue 17 = .ok (.ifCond .eq 37, 3) := by decide +kernel
theorem dX0_setDue_20 : decode cX0_setDue 20 = .ok (.aload_n 0, 1) := by decide +kernel
theorem dX0_setDue_21 : decode cX0_setDue 21 = .ok (.getfield 19, 3) := by decide +kernel
theorem dX0_setDue_24 : decode cX0_setDue 24 = .ok (.getfield 121, 3) := by decide +kernel
theorem dX0_setDue_27 : decode cX0_setDue 27 = .ok (.ifCond .le 29, 3) := by decide +kernel
theorem dX0_setDue_30 : decode cX0_setDue 30 = .ok (.aload_n 0, 1) := by decide +kernel
theorem dX0_setDue_31 : decode cX0_setDue 31 = .ok (.getfield 36, 3) := by decide +kernel
theorem dX0_setDue_34 : decode cX0_setDue 34 = .ok (.iload_n 1, 1) := by decide +kernel
theorem dX0_setDue_35 : decode cX0_setDue 35 = .ok (.iadd, 1) := by decide +kernel
theorem dX0_setDue_36 : decode cX0_setDue 36 = .ok (.aload_n 0, 1) := by decide +kernel
theorem dX0_setDue_37 : decode cX0_setDue 37 = .ok (.getfield 19, 3) := by decide +kernel
theorem dX0_setDue_40 : decode cX0_setDue 40 = .ok (.getfield 124, 3) := by decide +kernel
theorem dX0_setDue_43 : decode cX0_setDue 43 = .ok (.aload_n 0, 1) := by decide +kernel
theorem dX0_setDue_44 : decode cX0_setDue 44 = .ok (.getfield 19, 3) := by decide +kernel
theorem dX0_setDue_47 : decode cX0_setDue 47 = .ok (.getfield 121, 3) := by decide +kernel
theorem dX0_setDue_50 : decode cX0_setDue 50 = .ok (.iadd, 1) := by decide +kernel
theorem dX0_setDue_51 : decode cX0_setDue 51 = .ok (.if_icmp .le 5, 3) := by decide +kernel
theorem dX0_setDue_54 : decode cX0_setDue 54 = .ok (.iconst 3, 1) := by decide +kernel
theorem dX0_setDue_55 : decode cX0_setDue 55 = .ok (.ireturn, 1) := by decide +kernel
theorem dX0_setDue_56 : decode cX0_setDue 56 = .ok (.aload_n 0, 1) := by decide +kernel
theorem dX0_setDue_57 : decode cX0_setDue 57 = .ok (.getfield 19, 3) := by decide +kernel
theorem dX0_setDue_60 : decode cX0_setDue 60 = .ok (.aload_n 0, 1) := by decide +kernel
theorem dX0_setDue_61 : decode cX0_setDue 61 = .ok (.getfield 36, 3) := by decide +kernel
theorem dX0_setDue_64 : decode cX0_setDue 64 = .ok (.iload_n 1, 1) := by decide +kernel
theorem dX0_setDue_65 : decode cX0_setDue 65 = .ok (.iadd, 1) := by decide +kernel
theorem dX0_setDue_66 : decode cX0_setDue 66 = .ok (.putfield 328, 3) := by decide +kernel
theorem dX0_setDue_69 : decode cX0_setDue 69 = .ok (.iconst 0, 1) := by decide +kernel
theorem dX0_setDue_70 : decode cX0_setDue 70 = .ok (.ireturn, 1) := by decide +kernel
def wb_X0_setDue_54  (S : q_S) (Q : Option Value → q_S → Prop) : Prop := Q (some (.int (3 : Int32))) S
set_option maxHeartbeats 4000000 in
set_option maxRecDepth 100000 in
theorem cb_X0_setDue_54 {p : Program} {l : Launch} {e : Env} {s : State} {m : MethodId} {args : Array Value} {below : List Frame} {meth : Method} {c : Code} {D : va_G} {cy : Nat → ClassId} {lo : Nat}  {S : q_S} {Q : Option Value → q_S → Prop} {H : Heap} {locs : List Loc} {ls : Array Slot} (X : q_X p s m args meth c RX0 cX0_setDue 2 (some .int) D cy lo)  (Y : q_Y D cy lo s S H locs) (hl : lv_has ls 2 []) (h : wb_X0_setDue_54 S Q) : W p l e ({ frames := 1, cells := 0, slots := 0, locals := 21 } : Room) s m args below meth c H locs 0 0 (MQ below (q_Q D cy lo Q) args s 0 0 (fun q => lo ≤ q)) (F0 m 54 ls []) := by
  have hx := X.1
  have hb := X.2.1
  unfold wb_X0_setDue_54 at h
  refine lv_iconst (v := 3) hx hb dX0_setDue_54 (by decide) ?_
  exact q_iret X Y rfl (Nat.le_refl _) (Nat.le_refl _) h dX0_setDue_55
def wb_X0_setDue_56  (S : q_S) (a0 : Nat) (x1 : Int32) (Q : Option Value → q_S → Prop) : Prop := q_K S a0 = 1 ∧ (∃ a2_ : Nat, (q_P S 2 a0) = some a2_ ∧ (q_K S a2_ = 8 ∧ (Q (some (.int (0 : Int32))) (qs_I S 1412 a2_ ((q_I S 4 a0) + x1)))))
set_option maxHeartbeats 4000000 in
set_option maxRecDepth 100000 in
theorem cb_X0_setDue_56 {p : Program} {l : Launch} {e : Env} {s : State} {m : MethodId} {args : Array Value} {below : List Frame} {meth : Method} {c : Code} {D : va_G} {cy : Nat → ClassId} {lo : Nat}  {S : q_S} {a0 : Nat} {x1 : Int32} {Q : Option Value → q_S → Prop} {H : Heap} {locs : List Loc} {ls : Array Slot} (X : q_X p s m args meth c RX0 cX0_setDue 2 (some .int) D cy lo)  (Y : q_Y D cy lo s S H locs) (hl : lv_has ls 2 [(0, .ref a0), (1, .int x1)]) (h : wb_X0_setDue_56 S a0 x1 Q) : W p l e ({ frames := 1, cells := 0, slots := 0, locals := 21 } : Room) s m args below meth c H locs 0 0 (MQ below (q_Q D cy lo Q) args s 0 0 (fun q => lo ≤ q)) (F0 m 56 ls []) := by
  have hx := X.1
  have hb := X.2.1
  unfold wb_X0_setDue_56 at h
  refine lv_aload_n hx hb dX0_setDue_56 rfl (lv_at hl 0 rfl) ?_
  obtain ⟨k1_, h⟩ := h
  refine q_getP X Y kX0 2 rfl fl_X0_19 k1_ rfl dX0_setDue_57 ?_
  refine lv_aload_n hx hb dX0_setDue_60 rfl (lv_at hl 0 rfl) ?_
  refine q_getI X Y kX0 4 rfl fl_X0_36 k1_ dX0_setDue_61 ?_
  refine lv_iload_n hx hb dX0_setDue_64 rfl (lv_at hl 1 rfl) ?_
  refine lv_iadd hx hb dX0_setDue_65 ?_
  obtain ⟨a2_, e3_, h⟩ := h
  refine q_nn [.int ((q_I S 4 a0) + x1)] e3_ ?_
  obtain ⟨k4_, h⟩ := h
  refine q_putI X Y kX7 12 rfl fl_X0_328 k4_ .int rfl ⟨rfl, rfl⟩ rfl dX0_setDue_66 (fun H locs Y => ?_)
  refine lv_iconst (v := 0) hx hb dX0_setDue_69 (by decide) ?_
  exact q_iret X Y rfl (Nat.le_refl _) (Nat.le_refl _) h dX0_setDue_70
def wm_X0_setDue (S : q_S) (a0 : Nat) (x1 : Int32) (Q : Option Value → q_S → Prop) : Prop := q_K S a0 = 1 ∧ (wm_X0_isNoDelay S a0 x1 (fun r6_ S7_ => ∃ x8_ : Int32, r6_ = some (.int x8_) ∧ (((x8_ = 0 → (q_K S7_ a0 = 1 ∧ (∃ a11_ : Nat, (q_P S7_ 2 a0) = some a11_ ∧ (q_K S7_ a11_ = 8 ∧ ((((q_I S7_ 1405 a11_) = 0 → (wb_X0_setDue_54 S7_ Q)) ∧ (¬ (q_I S7_ 1405 a11_) = 0 → ((((q_I S7_ 1404 a11_) ≤ 0 → (wb_X0_setDue_56 S7_ a0 x1 Q)) ∧ (¬ (q_I S7_ 1404 a11_) ≤ 0 → (((((q_I S7_ 4 a0) + x1) ≤ ((q_I S7_ 1415 a11_) + (q_I S7_ 1404 a11_)) → (wb_X0_setDue_56 S7_ a0 x1 Q)) ∧ (¬ ((q_I S7_ 4 a0) + x1) ≤ ((q_I S7_ 1415 a11_) + (q_I S7_ 1404 a11_)) → (wb_X0_setDue_54 S7_ Q)))))))))))))) ∧ (¬ x8_ = 0 → (Q (some (.int (1 : Int32))) S7_))))))
set_option maxHeartbeats 4000000 in
set_option maxRecDepth 100000 in
theorem cm_X0_setDue {l : Launch} {D : va_G} {cy : Nat → ClassId} {lo : Nat} {S : q_S} {a0 : Nat} {x1 : Int32} {Q : Option Value → q_S → Prop} (h : wm_X0_setDue S a0 x1 Q) : q_Met l D cy lo yX0_setDue cX0_setDue 2 (some .int) 1 21 0 0 [.ref a0, .int x1] S Q := by
  refine q_body (by decide) (by first | exact Nat.le_of_ble_eq_true rfl | simp [lg_sl, q_cat, q_catI, q_catJ, q_catR]) ?_
  intro p e s m below meth c ls X hnm Y hl
  have hx := X.1
  have hb := X.2.1
  have hl : lv_has ls 2 [(0, .ref a0), (1, .int x1)] := by first | exact hl | simpa [lv_args, q_cat, q_catI, q_catJ, q_catR] using hl
  generalize hargs : ([.ref a0, .int x1] : List Value).toArray = args at X ⊢
  unfold wm_X0_setDue at h
  refine lv_aload_n hx hb dX0_setDue_0 rfl (lv_at hl 0 rfl) ?_
  refine lv_iload_n hx hb dX0_setDue_1 rfl (lv_at hl 1 rfl) ?_
  obtain ⟨k5_, h⟩ := h
  refine q_callV X Y hl (cm_X0_isNoDelay h) mt_X0_isNoDelay mi_X0_isNoDelay ml_X0_101 (ci := 0) rfl k5_ (by decide) rfl rfl (by first | exact Nat.le_of_ble_eq_true rfl | simp [q_cat, q_catI, q_catJ, q_catR]) ⟨Nat.le_of_ble_eq_true rfl, Nat.le_of_ble_eq_true rfl⟩ ⟨Nat.le_of_ble_eq_true rfl, Nat.le_of_ble_eq_true rfl⟩ dX0_setDue_2 (fun r6_ S7_ H locs hp Y => ?_)
  obtain ⟨x8_, rfl, h⟩ := hp
  refine W.eq (g2 := F0 m 5 ls [.int x8_]) rfl ?_
  refine lv_if_eq (tgt := 10) hx hb dX0_setDue_5 (by decide) (fun c9_ => ?_) (fun c9_ => ?_)
  · replace h := h.1 c9_
    refine lv_aload_n hx hb dX0_setDue_10 rfl (lv_at hl 0 rfl) ?_
    obtain ⟨k10_, h⟩ := h
    refine q_getP X Y kX0 2 rfl fl_X0_19 k10_ rfl dX0_setDue_11 ?_
    obtain ⟨a11_, e12_, h⟩ := h
    refine q_nn [] e12_ ?_
    obtain ⟨k13_, h⟩ := h
    refine q_getI X Y kX7 5 rfl fl_X0_325 k13_ dX0_setDue_14 ?_
    refine lv_if_eq (tgt := 54) hx hb dX0_setDue_17 (by decide) (fun c14_ => ?_) (fun c14_ => ?_)
    · replace h := h.1 c14_
      exact cb_X0_setDue_54 X Y (lv_sub hl [] rfl) h
    · replace h := h.2 c14_
      refine lv_aload_n hx hb dX0_setDue_20 rfl (lv_at hl 0 rfl) ?_
      refine q_getR X Y kX0 2 rfl fl_X0_19 k10_ e12_ dX0_setDue_21 ?_
      refine q_getI X Y kX7 4 rfl fl_X0_121 k13_ dX0_setDue_24 ?_
      refine lv_if_le (tgt := 56) hx hb dX0_setDue_27 (by decide) (fun c15_ => ?_) (fun c15_ => ?_)
      · replace h := h.1 c15_
        exact cb_X0_setDue_56 X Y (lv_sub hl [0, 1] rfl) h
      · replace h := h.2 c15_
        refine lv_aload_n hx hb dX0_setDue_30 rfl (lv_at hl 0 rfl) ?_
        refine q_getI X Y kX0 4 rfl fl_X0_36 k10_ dX0_setDue_31 ?_
        refine lv_iload_n hx hb dX0_setDue_34 rfl (lv_at hl 1 rfl) ?_
        refine lv_iadd hx hb dX0_setDue_35 ?_
        refine lv_aload_n hx hb dX0_setDue_36 rfl (lv_at hl 0 rfl) ?_
        refine q_getR X Y kX0 2 rfl fl_X0_19 k10_ e12_ dX0_setDue_37 ?_
        refine q_getI X Y kX7 15 rfl fl_X0_124 k13_ dX0_setDue_40 ?_
        refine lv_aload_n hx hb dX0_setDue_43 rfl (lv_at hl 0 rfl) ?_
        refine q_getR X Y kX0 2 rfl fl_X0_19 k10_ e12_ dX0_setDue_44 ?_
        refine q_getI X Y kX7 4 rfl fl_X0_121 k13_ dX0_setDue_47 ?_
        refine lv_iadd hx hb dX0_setDue_50 ?_
        refine lv_icmp_le (tgt := 56) hx hb dX0_setDue_51 (by decide) (fun c16_ => ?_) (fun c16_ => ?_)
        · replace h := h.1 c16_
          exact cb_X0_setDue_56 X Y (lv_sub hl [0, 1] rfl) h
        · replace h := h.2 c16_
          exact cb_X0_setDue_54 X Y (lv_sub hl [] rfl) h
  · replace h := h.2 c9_
    refine lv_iconst (v := 1) hx hb dX0_setDue_8 (by decide) ?_
    exact q_iret X Y rfl (Nat.le_refl _) (Nat.le_refl _) h dX0_setDue_9
-- X0_tellProcess
theorem dX0_tellProcess_0 : decode cX0_tellProcess 0 = .ok (.aload_n 0, 1) := by decide +kernel
theorem dX0_tellProcess_1 : decode cX0_tellProcess 1 = .ok (.getfield 15, 3) := by decide +kernel
theorem dX0_tellProcess_4 : decode cX0_tellProcess 4 = .ok (.iload_n 1, 1) := by decide +kernel
theorem dX0_tellProcess_5 : decode cX0_tellProcess 5 = .ok (.invokevirtual 131, 3) := by decide +kernel
theorem dX0_tellProcess_8 : decode cX0_tellProcess 8 = .ok (.astore_n 2, 1) := by decide +kernel
theorem dX0_tellProcess_9 : decode cX0_tellProcess 9 = .ok (.aload_n 2, 1) := by decide +kernel
theorem dX0_tellProcess_10 : decode cX0_tellProcess 10 = .ok (.ifnonnull 5, 3) := by decide +kernel
theorem dX0_tellProcess_13 : decode cX0_tellProcess 13 = .ok (.iconst 1, 1) := by decide +kernel
theorem dX0_tellProcess_14 : decode cX0_tellProcess 14 = .ok (.ireturn, 1) := by decide +kernel
theorem dX0_tellProcess_15 : decode cX0_tellProcess 15 = .ok (.aload_n 0, 1) := by decide +kernel
theorem dX0_tellProcess_16 : decode cX0_tellProcess 16 = .ok (.getfield 29, 3) := by decide +kernel
theorem dX0_tellProcess_19 : decode cX0_tellProcess 19 = .ok (.bipush 11, 2) := by decide +kernel
theorem dX0_tellProcess_21 : decode cX0_tellProcess 21 = .ok (.aload_n 2, 1) := by decide +kernel
theorem dX0_tellProcess_22 : decode cX0_tellProcess 22 = .ok (.getfield 135, 3) := by decide +kernel
theorem dX0_tellProcess_25 : decode cX0_tellProcess 25 = .ok (.iastore, 1) := by decide +kernel
theorem dX0_tellProcess_26 : decode cX0_tellProcess 26 = .ok (.aload_n 0, 1) := by decide +kernel
theorem dX0_tellProcess_27 : decode cX0_tellProcess 27 = .ok (.getfield 29, 3) := by decide +kernel
theorem dX0_tellProcess_30 : decode cX0_tellProcess 30 = .ok (.bipush 12, 2) := by decide +kernel
theorem dX0_tellProcess_32 : decode cX0_tellProcess 32 = .ok (.aload_n 2, 1) := by decide +kernel
theorem dX0_tellProcess_33 : decode cX0_tellProcess 33 = .ok (.getfield 141, 3) := by decide +kernel
theorem dX0_tellProcess_36 : decode cX0_tellProcess 36 = .ok (.iastore, 1) := by decide +kernel
theorem dX0_tellProcess_37 : decode cX0_tellProcess 37 = .ok (.aload_n 0, 1) := by decide +kernel
theorem dX0_tellProcess_38 : decode cX0_tellProcess 38 = .ok (.getfield 29, 3) := by decide +kernel
theorem dX0_tellProcess_41 : decode cX0_tellProcess 41 = .ok (.bipush 13, 2) := by decide +kernel
theorem dX0_tellProcess_43 : decode cX0_tellProcess 43 = .ok (.aload_n 2, 1) := by decide +kernel
theorem dX0_tellProcess_44 : decode cX0_tellProcess 44 = .ok (.getfield 328, 3) := by decide +kernel
theorem dX0_tellProcess_47 : decode cX0_tellProcess 47 = .ok (.iastore, 1) := by decide +kernel
theorem dX0_tellProcess_48 : decode cX0_tellProcess 48 = .ok (.iconst 0, 1) := by decide +kernel
theorem dX0_tellProcess_49 : decode cX0_tellProcess 49 = .ok (.ireturn, 1) := by decide +kernel
def wm_X0_tellProcess (S : q_S) (a0 : Nat) (x1 : Int32) (Q : Option Value → q_S → Prop) : Prop := q_K S a0 = 1 ∧ (∃ a2_ : Nat, (q_P S 1 a0) = some a2_ ∧ (q_K S a2_ = 6 ∧ (wm_X5_processAt S a2_ x1 (fun r5_ S6_ => ∃ r7_ : Option Nat, r5_ = some (va_rf r7_) ∧ (((¬ r7_ = none → (q_K S6_ a0 = 1 ∧ (∃ a10_ : Nat, r7_ = some a10_ ∧ (q_K S6_ a10_ = 8 ∧ (∃ a13_ : Nat, (q_P S6_ 3 a0) = some a13_ ∧ (q_K S6_ a13_ = 21 ∧ (vp_in (11 : Int32) (q_N S6_ a13_) ∧ (∃ a17_ : Nat, (q_P (qs_A S6_ a13_ (11 : Int32).toNatClampNeg (q_I S6_ 1409 a10_)) 3 a0) = some a17_ ∧ (q_K (qs_A S6_ a13_ (11 : Int32).toNatClampNeg (q_I S6_ 1409 a10_)) a17_ = 21 ∧ (vp_in (12 : Int32) (q_N (qs_A S6_ a13_ (11 : Int32).toNatClampNeg (q_I S6_ 1409 a10_)) a17_) ∧ (∀ S21_ : q_S, S21_ = (qs_A (qs_A S6_ a13_ (11 : Int32).toNatClampNeg (q_I S6_ 1409 a10_)) a17_ (12 : Int32).toNatClampNeg (q_I (qs_A S6_ a13_ (11 : Int32).toNatClampNeg (q_I S6_ 1409 a10_)) 1403 a10_)) → (∃ a22_ : Nat, (q_P S21_ 3 a0) = some a22_ ∧ (q_K S21_ a22_ = 21 ∧ (vp_in (13 : Int32) (q_N S21_ a22_) ∧ (Q (some (.int (0 : Int32))) (qs_A S21_ a22_ (13 : Int32).toNatClampNeg (q_I S21_ 1412 a10_))))))))))))))))) ∧ (r7_ = none → (Q (some (.int (1 : Int32))) S6_))))))))
set_option maxHeartbeats 4000000 in
set_option maxRecDepth 100000 in
theorem cm_X0_tellProcess {l : Launch} {D : va_G} {cy : Nat → ClassId} {lo : Nat} {S : q_S} {a0 : Nat} {x1 : Int32} {Q : Option Value → q_S → Prop} (h : wm_X0_tellProcess S a0 x1 Q) : q_Met l D cy lo yX0_tellProcess cX0_tellProcess 3 (some .int) 1 21 0 0 [.ref a0, .int x1] S Q := by
  refine q_body (by decide) (by first | exact Nat.le_of_ble_eq_true rfl | simp [lg_sl, q_cat, q_catI, q_catJ, q_catR]) ?_
  intro p e s m below meth c ls X hnm Y hl
  have hx := X.1
  have hb := X.2.1
  have hl : lv_has ls 3 [(0, .ref a0), (1, .int x1)] := by first | exact hl | simpa [lv_args, q_cat, q_catI, q_catJ, q_catR] using hl
  generalize hargs : ([.ref a0, .int x1] : List Value).toArray = args at X ⊢
  unfold wm_X0_tellProcess at h
  refine lv_aload_n hx hb dX0_tellProcess_0 rfl (lv_at hl 0 rfl) ?_
  obtain ⟨k1_, h⟩ := h
  refine q_getP X Y kX0 1 rfl fl_X0_15 k1_ rfl dX0_tellProcess_1 ?_
  refine lv_iload_n hx hb dX0_tellProcess_4 rfl (lv_at hl 1 rfl) ?_
  obtain ⟨a2_, e3_, h⟩ := h
  refine q_nn [.int x1] e3_ ?_
  obtain ⟨k4_, h⟩ := h
  refine q_callV X Y hl (cm_X5_processAt h) mt_X5_processAt mi_X5_processAt ml_X0_131 (ci := 5) rfl k4_ (by decide) rfl rfl (by first | exact Nat.le_of_ble_eq_true rfl | simp [q_cat, q_catI, q_catJ, q_catR]) ⟨Nat.le_of_ble_eq_true rfl, Nat.le_of_ble_eq_true rfl⟩ ⟨Nat.le_of_ble_eq_true rfl, Nat.le_of_ble_eq_true rfl⟩ dX0_tellProcess_5 (fun r5_ S6_ H locs hp Y => ?_)
  obtain ⟨r7_, rfl, h⟩ := hp
  refine W.eq (g2 := F0 m 8 ls [va_rf r7_]) rfl ?_
  refine q_astore_n (i := 2) (lv' := [(2, va_rf r7_), (0, .ref a0), (1, .int x1)]) hx hb dX0_tellProcess_8 rfl hl (by decide) (by first | rfl | simp [q_cat, q_catI, q_catJ, q_catR]) (fun ls hl => ?_)
  refine q_aload_n hx hb dX0_tellProcess_9 rfl (lv_at hl 0 rfl) ?_
  refine q_ifnonnull (r := r7_) (tgt := 15) hx hb dX0_tellProcess_10 (by decide) (fun c8_ => ?_) (fun c8_ => ?_)
  · replace h := h.1 c8_
    refine lv_aload_n hx hb dX0_tellProcess_15 rfl (lv_at hl 1 rfl) ?_
    obtain ⟨k9_, h⟩ := h
    refine q_getP X Y kX0 3 rfl fl_X0_29 k9_ rfl dX0_tellProcess_16 ?_
    refine lv_bipush (v := 11) hx hb dX0_tellProcess_19 (by decide) ?_
    refine q_aload_n hx hb dX0_tellProcess_21 rfl (lv_at hl 0 rfl) ?_
    obtain ⟨a10_, e11_, h⟩ := h
    refine q_nn [] e11_ ?_
    obtain ⟨k12_, h⟩ := h
    refine q_getI X Y kX7 9 rfl fl_X0_135 k12_ dX0_tellProcess_22 ?_
    obtain ⟨a13_, e14_, h⟩ := h
    refine q_nn [.int (q_I S6_ 1409 a10_), .int (11 : Int32)] e14_ ?_
    obtain ⟨k15_, h⟩ := h
    obtain ⟨i16_, h⟩ := h
    refine q_ist X Y k15_ i16_ dX0_tellProcess_25 (fun H locs Y => ?_)
    refine lv_aload_n hx hb dX0_tellProcess_26 rfl (lv_at hl 1 rfl) ?_
    refine q_getP X Y kX0 3 rfl fl_X0_29 k9_ rfl dX0_tellProcess_27 ?_
    refine lv_bipush (v := 12) hx hb dX0_tellProcess_30 (by decide) ?_
    refine q_aload_n hx hb dX0_tellProcess_32 rfl (lv_at hl 0 rfl) ?_
    refine q_nn [] e11_ ?_
    refine q_getI X Y kX7 3 rfl fl_X0_141 k12_ dX0_tellProcess_33 ?_
    obtain ⟨a17_, e18_, h⟩ := h
    refine q_nn [.int (q_I (qs_A S6_ a13_ (11 : Int32).toNatClampNeg (q_I S6_ 1409 a10_)) 1403 a10_), .int (12 : Int32)] e18_ ?_
    obtain ⟨k19_, h⟩ := h
    obtain ⟨i20_, h⟩ := h
    refine q_ist X Y k19_ i20_ dX0_tellProcess_36 (fun H locs Y => ?_)
    obtain ⟨S21_, gS21_⟩ : ∃ z : q_S, z = (qs_A (qs_A S6_ a13_ (11 : Int32).toNatClampNeg (q_I S6_ 1409 a10_)) a17_ (12 : Int32).toNatClampNeg (q_I (qs_A S6_ a13_ (11 : Int32).toNatClampNeg (q_I S6_ 1409 a10_)) 1403 a10_)) := ⟨_, rfl⟩
    replace Y : q_Y D cy lo s S21_ H locs := by rw [gS21_]; exact Y
    replace h := h S21_ gS21_
    replace k9_ : q_K S21_ a0 = 1 := by rw [gS21_]; exact k9_
    replace k12_ : q_K S21_ a10_ = 8 := by rw [gS21_]; exact k12_
    replace k15_ : q_K S21_ a13_ = 21 := by rw [gS21_]; exact k15_
    replace k19_ : q_K S21_ a17_ = 21 := by rw [gS21_]; exact k19_
    refine lv_aload_n hx hb dX0_tellProcess_37 rfl (lv_at hl 1 rfl) ?_
    refine q_getP X Y kX0 3 rfl fl_X0_29 k9_ rfl dX0_tellProcess_38 ?_
    refine lv_bipush (v := 13) hx hb dX0_tellProcess_41 (by decide) ?_
    refine q_aload_n hx hb dX0_tellProcess_43 rfl (lv_at hl 0 rfl) ?_
    refine q_nn [] e11_ ?_
    refine q_getI X Y kX7 12 rfl fl_X0_328 k12_ dX0_tellProcess_44 ?_
    obtain ⟨a22_, e23_, h⟩ := h
    refine q_nn [.int (q_I S21_ 1412 a10_), .int (13 : Int32)] e23_ ?_
    obtain ⟨k24_, h⟩ := h
    obtain ⟨i25_, h⟩ := h
    refine q_ist X Y k24_ i25_ dX0_tellProcess_47 (fun H locs Y => ?_)
    refine lv_iconst (v := 0) hx hb dX0_tellProcess_48 (by decide) ?_
    exact q_iret X Y rfl (Nat.le_refl _) (Nat.le_refl _) h dX0_tellProcess_49
  · replace h := h.2 c8_
    refine lv_iconst (v := 1) hx hb dX0_tellProcess_13 (by decide) ?_
    exact q_iret X Y rfl (Nat.le_refl _) (Nat.le_refl _) h dX0_tellProcess_14
-- X0_ofOthers
theorem ml_X0_301 : Cond.methodLink RX0 301 yX0_waitToGoOn ∈ q_G := q_tb (i := 1676) (by decide +kernel) (by decide +kernel)
theorem mt_X0_waitToGoOn : q_Mt yX0_waitToGoOn cX0_waitToGoOn 2 (some .int) 1 := ⟨q_tb (i := 1679) (by decide +kernel) (by decide +kernel), q_tb (i := 10) (by decide +kernel) (by decide +kernel), by decide +kernel, by decide +kernel, by decide +kernel⟩
theorem mi_X0_waitToGoOn : Cond.instanceMethod yX0_waitToGoOn ∈ q_G ∧ Cond.selects yX0_waitToGoOn.cls yX0_waitToGoOn yX0_waitToGoOn ∈ q_G := ⟨q_tb (i := 1678) (by decide +kernel) (by decide +kernel), q_tp (i := 78) (q := (yX0_waitToGoOn, 5)) (by decide +kernel) (by decide +kernel)⟩
theorem ml_X0_304 : Cond.methodLink RX0 304 yX0_hold ∈ q_G := q_tb (i := 1680) (by decide +kernel) (by decide +kernel)
theorem mt_X0_hold : q_Mt yX0_hold cX0_hold 3 (some .int) 1 := ⟨q_tb (i := 1683) (by decide +kernel) (by decide +kernel), q_tb (i := 10) (by decide +kernel) (by decide +kernel), by decide +kernel, by decide +kernel, by decide +kernel⟩
theorem mi_X0_hold : Cond.instanceMethod yX0_hold ∈ q_G ∧ Cond.selects yX0_hold.cls yX0_hold yX0_hold ∈ q_G := ⟨q_tb (i := 1682) (by decide +kernel) (by decide +kernel), q_tp (i := 79) (q := (yX0_hold, 5)) (by decide +kernel) (by decide +kernel)⟩
theorem ml_X0_307 : Cond.methodLink RX0 307 yX0_letGoOn ∈ q_G := q_tb (i := 1684) (by decide +kernel) (by decide +kernel)
theorem mt_X0_letGoOn : q_Mt yX0_letGoOn cX0_letGoOn 4 (some .int) 1 := ⟨q_tb (i := 1687) (by decide +kernel) (by decide +kernel), q_tb (i := 10) (by decide +kernel) (by decide +kernel), by decide +kernel, by decide +kernel, by decide +kernel⟩
theorem mi_X0_letGoOn : Cond.instanceMethod yX0_letGoOn ∈ q_G ∧ Cond.selects yX0_letGoOn.cls yX0_letGoOn yX0_letGoOn ∈ q_G := ⟨q_tb (i := 1686) (by decide +kernel) (by decide +kernel), q_tp (i := 80) (q := (yX0_letGoOn, 5)) (by decide +kernel) (by decide +kernel)⟩
theorem ml_X0_310 : Cond.methodLink RX0 310 yX0_setDue ∈ q_G := q_tb (i := 1688) (by decide +kernel) (by decide +kernel)
theorem mt_X0_setDue : q_Mt yX0_setDue cX0_setDue 2 (some .int) 1 := ⟨q_tb (i := 1691) (by decide +kernel) (by decide +kernel), q_tb (i := 10) (by decide +kernel) (by decide +kernel), by decide +kernel, by decide +kernel, by decide +kernel⟩
theorem mi_X0_setDue : Cond.instanceMethod yX0_setDue ∈ q_G ∧ Cond.selects yX0_setDue.cls yX0_setDue yX0_setDue ∈ q_G := ⟨q_tb (i := 1690) (by decide +kernel) (by decide +kernel), q_tp (i := 81) (q := (yX0_setDue, 5)) (by decide +kernel) (by decide +kernel)⟩
theorem ml_X0_313 : Cond.methodLink RX0 313 yX0_tellProcess ∈ q_G := q_tb (i := 1692) (by decide +kernel) (by decide +kernel)
theorem mt_X0_tellProcess : q_Mt yX0_tellProcess cX0_tellProcess 3 (some .int) 1 := ⟨q_tb (i := 1695) (by decide +kernel) (by decide +kernel), q_tb (i := 10) (by decide +kernel) (by decide +kernel), by decide +kernel, by decide +kernel, by decide +kernel⟩
theorem mi_X0_tellProcess : Cond.instanceMethod yX0_tellProcess ∈ q_G ∧ Cond.selects yX0_tellProcess.cls yX0_tellProcess yX0_tellProcess ∈ q_G := ⟨q_tb (i := 1694) (by decide +kernel) (by decide +kernel), q_tp (i := 82) (q := (yX0_tellProcess, 5)) (by decide +kernel) (by decide +kernel)⟩
theorem dX0_ofOthers_0 : decode cX0_ofOthers 0 = .ok (.iload_n 1, 1) := by decide +kernel
theorem dX0_ofOthers_1 : decode cX0_ofOthers 1 = .ok (.tableswitch 65 26 30 #[35, 41, 47, 53, 59], 35) := by decide +kernel
theorem dX0_ofOthers_36 : decode cX0_ofOthers 36 = .ok (.aload_n 0, 1) := by decide +kernel
theorem dX0_ofOthers_37 : decode cX0_ofOthers 37 = .ok (.iload_n 2, 1) := by decide +kernel
theorem dX0_ofOthers_38 : decode cX0_ofOthers 38 = .ok (.invokevirtual 301, 3) := by decide +kernel
theorem dX0_ofOthers_41 : decode cX0_ofOthers 41 = .ok (.ireturn, 1) := by decide +kernel
theorem dX0_ofOthers_42 : decode cX0_ofOthers 42 = .ok (.aload_n 0, 1) := by decide +kernel
theorem dX0_ofOthers_43 : decode cX0_ofOthers 43 = .ok (.iload_n 2, 1) := by decide +kernel
theorem dX0_ofOthers_44 : decode cX0_ofOthers 44 = .ok (.invokevirtual 304, 3) := by decide +kernel
theorem dX0_ofOthers_47 : decode cX0_ofOthers 47 = .ok (.ireturn, 1) := by decide +kernel
theorem dX0_ofOthers_48 : decode cX0_ofOthers 48 = .ok (.aload_n 0, 1) := by decide +kernel
theorem dX0_ofOthers_49 : decode cX0_ofOthers 49 = .ok (.iload_n 2, 1) := by decide +kernel
theorem dX0_ofOthers_50 : decode cX0_ofOthers 50 = .ok (.invokevirtual 307, 3) := by decide +kernel
theorem dX0_ofOthers_53 : decode cX0_ofOthers 53 = .ok (.ireturn, 1) := by decide +kernel
theorem dX0_ofOthers_54 : decode cX0_ofOthers 54 = .ok (.aload_n 0, 1) := by decide +kernel
theorem dX0_ofOthers_55 : decode cX0_ofOthers 55 = .ok (.iload_n 2, 1) := by decide +kernel
theorem dX0_ofOthers_56 : decode cX0_ofOthers 56 = .ok (.invokevirtual 310, 3) := by decide +kernel
theorem dX0_ofOthers_59 : decode cX0_ofOthers 59 = .ok (.ireturn, 1) := by decide +kernel
theorem dX0_ofOthers_60 : decode cX0_ofOthers 60 = .ok (.aload_n 0, 1) := by decide +kernel
theorem dX0_ofOthers_61 : decode cX0_ofOthers 61 = .ok (.iload_n 2, 1) := by decide +kernel
theorem dX0_ofOthers_62 : decode cX0_ofOthers 62 = .ok (.invokevirtual 313, 3) := by decide +kernel
theorem dX0_ofOthers_65 : decode cX0_ofOthers 65 = .ok (.ireturn, 1) := by decide +kernel
theorem dX0_ofOthers_66 : decode cX0_ofOthers 66 = .ok (.aload_n 0, 1) := by decide +kernel
theorem dX0_ofOthers_67 : decode cX0_ofOthers 67 = .ok (.getfield 19, 3) := by decide +kernel
theorem dX0_ofOthers_70 : decode cX0_ofOthers 70 = .ok (.getfield 289, 3) := by decide +kernel
theorem dX0_ofOthers_73 : decode cX0_ofOthers 73 = .ok (.ireturn, 1) := by decide +kernel
def wm_X0_ofOthers (S : q_S) (a0 : Nat) (x1 : Int32) (x2 : Int32) (Q : Option Value → q_S → Prop) : Prop := (((x1.toInt < 26 ∨ 30 < x1.toInt) → (q_K S a0 = 1 ∧ (∃ a2_ : Nat, (q_P S 2 a0) = some a2_ ∧ (q_K S a2_ = 8 ∧ (Q (some (.int (q_I S 1400 a2_))) S))))) ∧ ((x1 = (26 : Int32)) → (q_K S a0 = 1 ∧ (wm_X0_waitToGoOn S a0 x2 (fun r6_ S7_ => ∃ x8_ : Int32, r6_ = some (.int x8_) ∧ (Q (some (.int x8_)) S7_))))) ∧ ((x1 = (27 : Int32)) → (q_K S a0 = 1 ∧ (wm_X0_hold S a0 x2 (fun r10_ S11_ => ∃ x12_ : Int32, r10_ = some (.int x12_) ∧ (Q (some (.int x12_)) S11_))))) ∧ ((x1 = (28 : Int32)) → (q_K S a0 = 1 ∧ (wm_X0_letGoOn S a0 x2 (fun r14_ S15_ => ∃ x16_ : Int32, r14_ = some (.int x16_) ∧ (Q (some (.int x16_)) S15_))))) ∧ ((x1 = (29 : Int32)) → (q_K S a0 = 1 ∧ (wm_X0_setDue S a0 x2 (fun r18_ S19_ => ∃ x20_ : Int32, r18_ = some (.int x20_) ∧ (Q (some (.int x20_)) S19_))))) ∧ ((x1 = (30 : Int32)) → (q_K S a0 = 1 ∧ (wm_X0_tellProcess S a0 x2 (fun r22_ S23_ => ∃ x24_ : Int32, r22_ = some (.int x24_) ∧ (Q (some (.int x24_)) S23_))))))
set_option maxHeartbeats 4000000 in
set_option maxRecDepth 100000 in
theorem cm_X0_ofOthers {l : Launch} {D : va_G} {cy : Nat → ClassId} {lo : Nat} {S : q_S} {a0 : Nat} {x1 : Int32} {x2 : Int32} {Q : Option Value → q_S → Prop} (h : wm_X0_ofOthers S a0 x1 x2 Q) : q_Met l D cy lo yX0_ofOthers cX0_ofOthers 3 (some .int) 3 66 0 0 [.ref a0, .int x1, .int x2] S Q := by
  refine q_body (by decide) (by first | exact Nat.le_of_ble_eq_true rfl | simp [lg_sl, q_cat, q_catI, q_catJ, q_catR]) ?_
  intro p e s m below meth c ls X hnm Y hl
  have hx := X.1
  have hb := X.2.1
  have hl : lv_has ls 3 [(0, .ref a0), (1, .int x1), (2, .int x2)] := by first | exact hl | simpa [lv_args, q_cat, q_catI, q_catJ, q_catR] using hl
  generalize hargs : ([.ref a0, .int x1, .int x2] : List Value).toArray = args at X ⊢
  unfold wm_X0_ofOthers at h
  refine lv_iload_n hx hb dX0_ofOthers_0 rfl (lv_at hl 1 rfl) ?_
  refine q_tsw (tgt := 66) hx hb dX0_ofOthers_1 (by decide) (by decide) (fun c25_ => ?_) (fun j26_ hj_ c25_ => ?_)
  · replace h := h.1 c25_
    refine lv_aload_n hx hb dX0_ofOthers_66 rfl (lv_at hl 0 rfl) ?_
    obtain ⟨k1_, h⟩ := h
    refine q_getP X Y kX0 2 rfl fl_X0_19 k1_ rfl dX0_ofOthers_67 ?_
    obtain ⟨a2_, e3_, h⟩ := h
    refine q_nn [] e3_ ?_
    obtain ⟨k4_, h⟩ := h
    refine q_getI X Y kX7 0 rfl fl_X0_289 k4_ dX0_ofOthers_70 ?_
    exact q_iret X Y rfl (Nat.le_refl _) (Nat.le_refl _) h dX0_ofOthers_73
  · match j26_, hj_, c25_ with
    | 0, _, c25_ =>
      refine ⟨35, 36, rfl, by decide, ?_⟩
      replace h := h.2.1 (q_eqI c25_ (by decide))
      refine lv_aload_n hx hb dX0_ofOthers_36 rfl (lv_at hl 0 rfl) ?_
      refine lv_iload_n hx hb dX0_ofOthers_37 rfl (lv_at hl 2 rfl) ?_
      obtain ⟨k5_, h⟩ := h
      refine q_callV X Y hl (cm_X0_waitToGoOn h) mt_X0_waitToGoOn mi_X0_waitToGoOn ml_X0_301 (ci := 0) rfl k5_ (by decide) rfl rfl (by first | exact Nat.le_of_ble_eq_true rfl | simp [q_cat, q_catI, q_catJ, q_catR]) ⟨Nat.le_of_ble_eq_true rfl, Nat.le_of_ble_eq_true rfl⟩ ⟨Nat.le_of_ble_eq_true rfl, Nat.le_of_ble_eq_true rfl⟩ dX0_ofOthers_38 (fun r6_ S7_ H locs hp Y => ?_)
      obtain ⟨x8_, rfl, h⟩ := hp
      refine W.eq (g2 := F0 m 41 ls [.int x8_]) rfl ?_
      exact q_iret X Y rfl (Nat.le_refl _) (Nat.le_refl _) h dX0_ofOthers_41
    | 1, _, c25_ =>
      refine ⟨41, 42, rfl, by decide, ?_⟩
      replace h := h.2.2.1 (q_eqI c25_ (by decide))
      refine lv_aload_n hx hb dX0_ofOthers_42 rfl (lv_at hl 0 rfl) ?_
      refine lv_iload_n hx hb dX0_ofOthers_43 rfl (lv_at hl 2 rfl) ?_
      obtain ⟨k9_, h⟩ := h
      refine q_callV X Y hl (cm_X0_hold h) mt_X0_hold mi_X0_hold ml_X0_304 (ci := 0) rfl k9_ (by decide) rfl rfl (by first | exact Nat.le_of_ble_eq_true rfl | simp [q_cat, q_catI, q_catJ, q_catR]) ⟨Nat.le_of_ble_eq_true rfl, Nat.le_of_ble_eq_true rfl⟩ ⟨Nat.le_of_ble_eq_true rfl, Nat.le_of_ble_eq_true rfl⟩ dX0_ofOthers_44 (fun r10_ S11_ H locs hp Y => ?_)
      obtain ⟨x12_, rfl, h⟩ := hp
      refine W.eq (g2 := F0 m 47 ls [.int x12_]) rfl ?_
      exact q_iret X Y rfl (Nat.le_refl _) (Nat.le_refl _) h dX0_ofOthers_47
    | 2, _, c25_ =>
      refine ⟨47, 48, rfl, by decide, ?_⟩
      replace h := h.2.2.2.1 (q_eqI c25_ (by decide))
      refine lv_aload_n hx hb dX0_ofOthers_48 rfl (lv_at hl 0 rfl) ?_
      refine lv_iload_n hx hb dX0_ofOthers_49 rfl (lv_at hl 2 rfl) ?_
      obtain ⟨k13_, h⟩ := h
      refine q_callV X Y hl (cm_X0_letGoOn h) mt_X0_letGoOn mi_X0_letGoOn ml_X0_307 (ci := 0) rfl k13_ (by decide) rfl rfl (by first | exact Nat.le_of_ble_eq_true rfl | simp [q_cat, q_catI, q_catJ, q_catR]) ⟨Nat.le_of_ble_eq_true rfl, Nat.le_of_ble_eq_true rfl⟩ ⟨Nat.le_of_ble_eq_true rfl, Nat.le_of_ble_eq_true rfl⟩ dX0_ofOthers_50 (fun r14_ S15_ H locs hp Y => ?_)
      obtain ⟨x16_, rfl, h⟩ := hp
      refine W.eq (g2 := F0 m 53 ls [.int x16_]) rfl ?_
      exact q_iret X Y rfl (Nat.le_refl _) (Nat.le_refl _) h dX0_ofOthers_53
    | 3, _, c25_ =>
      refine ⟨53, 54, rfl, by decide, ?_⟩
      replace h := h.2.2.2.2.1 (q_eqI c25_ (by decide))
      refine lv_aload_n hx hb dX0_ofOthers_54 rfl (lv_at hl 0 rfl) ?_
      refine lv_iload_n hx hb dX0_ofOthers_55 rfl (lv_at hl 2 rfl) ?_
      obtain ⟨k17_, h⟩ := h
      refine q_callV X Y hl (cm_X0_setDue h) mt_X0_setDue mi_X0_setDue ml_X0_310 (ci := 0) rfl k17_ (by decide) rfl rfl (by first | exact Nat.le_of_ble_eq_true rfl | simp [q_cat, q_catI, q_catJ, q_catR]) ⟨Nat.le_of_ble_eq_true rfl, Nat.le_of_ble_eq_true rfl⟩ ⟨Nat.le_of_ble_eq_true rfl, Nat.le_of_ble_eq_true rfl⟩ dX0_ofOthers_56 (fun r18_ S19_ H locs hp Y => ?_)
      obtain ⟨x20_, rfl, h⟩ := hp
      refine W.eq (g2 := F0 m 59 ls [.int x20_]) rfl ?_
      exact q_iret X Y rfl (Nat.le_refl _) (Nat.le_refl _) h dX0_ofOthers_59
    | 4, _, c25_ =>
      refine ⟨59, 60, rfl, by decide, ?_⟩
      replace h := h.2.2.2.2.2 (q_eqI c25_ (by decide))
      refine lv_aload_n hx hb dX0_ofOthers_60 rfl (lv_at hl 0 rfl) ?_
      refine lv_iload_n hx hb dX0_ofOthers_61 rfl (lv_at hl 2 rfl) ?_
      obtain ⟨k21_, h⟩ := h
      refine q_callV X Y hl (cm_X0_tellProcess h) mt_X0_tellProcess mi_X0_tellProcess ml_X0_313 (ci := 0) rfl k21_ (by decide) rfl rfl (by first | exact Nat.le_of_ble_eq_true rfl | simp [q_cat, q_catI, q_catJ, q_catR]) ⟨Nat.le_of_ble_eq_true rfl, Nat.le_of_ble_eq_true rfl⟩ ⟨Nat.le_of_ble_eq_true rfl, Nat.le_of_ble_eq_true rfl⟩ dX0_ofOthers_62 (fun r22_ S23_ H locs hp Y => ?_)
      obtain ⟨x24_, rfl, h⟩ := hp
      refine W.eq (g2 := F0 m 65 ls [.int x24_]) rfl ?_
      exact q_iret X Y rfl (Nat.le_refl _) (Nat.le_refl _) h dX0_ofOthers_65
    | z_ + 5, hj_, _ => exact absurd hj_ (by simp)
-- X10_value
theorem fl_X10_48 : Cond.fieldLink RX10 48 "PartitionWorks$Queue" "count" "I" ∈ q_G := q_tb (i := 986) (by decide +kernel) (by decide +kernel)
theorem dX10_value_0 : decode cX10_value 0 = .ok (.aload_n 0, 1) := by decide +kernel
theorem dX10_value_1 : decode cX10_value 1 = .ok (.getfield 12, 3) := by decide +kernel
theorem dX10_value_4 : decode cX10_value 4 = .ok (.ifnonnull 10, 3) := by decide +kernel
theorem dX10_value_7 : decode cX10_value 7 = .ok (.aload_n 0, 1) := by decide +kernel
theorem dX10_value_8 : decode cX10_value 8 = .ok (.getfield 42, 3) := by decide +kernel
theorem dX10_value_11 : decode cX10_value 11 = .ok (.goto 10, 3) := by decide +kernel
theorem dX10_value_14 : decode cX10_value 14 = .ok (.aload_n 0, 1) := by decide +kernel
theorem dX10_value_15 : decode cX10_value 15 = .ok (.getfield 12, 3) := by decide +kernel
theorem dX10_value_18 : decode cX10_value 18 = .ok (.getfield 48, 3) := by decide +kernel
theorem dX10_value_21 : decode cX10_value 21 = .ok (.ireturn, 1) := by decide +kernel
def wb_X10_value_21  (S : q_S) (xs0 : Int32) (Q : Option Value → q_S → Prop) : Prop := Q (some (.int xs0)) S
set_option maxHeartbeats 4000000 in
set_option maxRecDepth 100000 in
theorem cb_X10_value_21 {p : Program} {l : Launch} {e : Env} {s : State} {m : MethodId} {args : Array Value} {below : List Frame} {meth : Method} {c : Code} {D : va_G} {cy : Nat → ClassId} {lo : Nat}  {S : q_S} {xs0 : Int32} {Q : Option Value → q_S → Prop} {H : Heap} {locs : List Loc} {ls : Array Slot} (X : q_X p s m args meth c RX10 cX10_value 1 (some .int) D cy lo)  (Y : q_Y D cy lo s S H locs) (hl : lv_has ls 1 []) (h : wb_X10_value_21 S xs0 Q) : W p l e ({ frames := 0, cells := 0, slots := 0, locals := 0 } : Room) s m args below meth c H locs 0 0 (MQ below (q_Q D cy lo Q) args s 0 0 (fun q => lo ≤ q)) (F0 m 21 ls [.int xs0]) := by
  have hx := X.1
  have hb := X.2.1
  unfold wb_X10_value_21 at h
  exact q_iret X Y rfl (Nat.le_refl _) (Nat.le_refl _) h dX10_value_21
def wm_X10_value (S : q_S) (a0 : Nat) (Q : Option Value → q_S → Prop) : Prop := q_K S a0 = 11 ∧ (((¬ (q_P S 2009 a0) = none → (∃ a3_ : Nat, (q_P S 2009 a0) = some a3_ ∧ (q_K S a3_ = 9 ∧ (wb_X10_value_21 S (q_I S 1603 a3_) Q)))) ∧ ((q_P S 2009 a0) = none → (wb_X10_value_21 S (q_I S 2001 a0) Q))))
set_option maxHeartbeats 4000000 in
set_option maxRecDepth 100000 in
theorem cm_X10_value {l : Launch} {D : va_G} {cy : Nat → ClassId} {lo : Nat} {S : q_S} {a0 : Nat} {Q : Option Value → q_S → Prop} (h : wm_X10_value S a0 Q) : q_Met l D cy lo yX10_value cX10_value 1 (some .int) 0 0 0 0 [.ref a0] S Q := by
  refine q_body (by decide) (by first | exact Nat.le_of_ble_eq_true rfl | simp [lg_sl, q_cat, q_catI, q_catJ, q_catR]) ?_
  intro p e s m below meth c ls X hnm Y hl
  have hx := X.1
  have hb := X.2.1
  have hl : lv_has ls 1 [(0, .ref a0)] := by first | exact hl | simpa [lv_args, q_cat, q_catI, q_catJ, q_catR] using hl
  generalize hargs : ([.ref a0] : List Value).toArray = args at X ⊢
  unfold wm_X10_value at h
  refine lv_aload_n hx hb dX10_value_0 rfl (lv_at hl 0 rfl) ?_
  obtain ⟨k1_, h⟩ := h
  refine q_getP X Y kX10 9 rfl fl_X10_12 k1_ rfl dX10_value_1 ?_
  refine q_ifnonnull (r := (q_P S 2009 a0)) (tgt := 14) hx hb dX10_value_4 (by decide) (fun c2_ => ?_) (fun c2_ => ?_)
  · replace h := h.1 c2_
    refine lv_aload_n hx hb dX10_value_14 rfl (lv_at hl 0 rfl) ?_
    refine q_getP X Y kX10 9 rfl fl_X10_12 k1_ rfl dX10_value_15 ?_
    obtain ⟨a3_, e4_, h⟩ := h
    refine q_nn [] e4_ ?_
    obtain ⟨k5_, h⟩ := h
    refine q_getI X Y kX8 3 rfl fl_X10_48 k5_ dX10_value_18 ?_
    exact cb_X10_value_21 X Y (lv_sub hl [] rfl) h
  · replace h := h.2 c2_
    refine lv_aload_n hx hb dX10_value_7 rfl (lv_at hl 0 rfl) ?_
    refine q_getI X Y kX10 1 rfl fl_X10_42 k1_ dX10_value_8 ?_
    refine lv_goto (tgt := 21) hx hb dX10_value_11 (by decide) ?_
    exact cb_X10_value_21 X Y (lv_sub hl [] rfl) h
-- X5_countWaiting
theorem dX5_countWaiting_0 : decode cX5_countWaiting 0 = .ok (.iconst 0, 1) := by decide +kernel
theorem dX5_countWaiting_1 : decode cX5_countWaiting 1 = .ok (.istore_n 2, 1) := by decide +kernel
theorem dX5_countWaiting_2 : decode cX5_countWaiting 2 = .ok (.iconst 0, 1) := by decide +kernel
theorem dX5_countWaiting_3 : decode cX5_countWaiting 3 = .ok (.istore_n 3, 1) := by decide +kernel
theorem dX5_countWaiting_4 : decode cX5_countWaiting 4 = .ok (.iload_n 3, 1) := by decide +kernel
theorem dX5_countWaiting_5 : decode cX5_countWaiting 5 = .ok (.aload_n 0, 1) := by decide +kernel
theorem dX5_countWaiting_6 : decode cX5_countWaiting 6 = .ok (.getfield 45, 3) := by decide +kernel
theorem dX5_countWaiting_9 : decode cX5_countWaiting 9 = .ok (.if_icmp .ge 43, 3) := by decide +kernel
theorem dX5_countWaiting_12 : decode cX5_countWaiting 12 = .ok (.aload_n 0, 1) := by decide +kernel
theorem dX5_countWaiting_13 : decode cX5_countWaiting 13 = .ok (.getfield 20, 3) := by decide +kernel
theorem dX5_countWaiting_16 : decode cX5_countWaiting 16 = .ok (.iload_n 3, 1) := by decide +kernel
theorem dX5_countWaiting_17 : decode cX5_countWaiting 17 = .ok (.aaload, 1) := by decide +kernel
theorem dX5_countWaiting_18 : decode cX5_countWaiting 18 = .ok (.getfield 111, 3) := by decide +kernel
theorem dX5_countWaiting_21 : decode cX5_countWaiting 21 = .ok (.istore 4, 2) := by decide +kernel
theorem dX5_countWaiting_23 : decode cX5_countWaiting 23 = .ok (.iload_n 2, 1) := by decide +kernel
theorem dX5_countWaiting_24 : decode cX5_countWaiting 24 = .ok (.iload 4, 2) := by decide +kernel
theorem dX5_countWaiting_26 : decode cX5_countWaiting 26 = .ok (.iload_n 1, 1) := by decide +kernel
theorem dX5_countWaiting_27 : decode cX5_countWaiting 27 = .ok (.if_icmp .eq 12, 3) := by decide +kernel
theorem dX5_countWaiting_30 : decode cX5_countWaiting 30 = .ok (.iload 4, 2) := by decide +kernel
theorem dX5_countWaiting_32 : decode cX5_countWaiting 32 = .ok (.bipush 64, 2) := by decide +kernel
theorem dX5_countWaiting_34 : decode cX5_countWaiting 34 = .ok (.iload_n 1, 1) := by decide +kernel
theorem dX5_countWaiting_35 : decode cX5_countWaiting 35 = .ok (.iadd, 1) := by decide +kernel
theorem dX5_countWaiting_36 : decode cX5_countWaiting 36 = .ok (.if_icmp .ne 7, 3) := by decide +kernel
theorem dX5_countWaiting_39 : decode cX5_countWaiting 39 = .ok (.iconst 1, 1) := by decide +kernel
theorem dX5_countWaiting_40 : decode cX5_countWaiting 40 = .ok (.goto 4, 3) := by decide +kernel
theorem dX5_countWaiting_43 : decode cX5_countWaiting 43 = .ok (.iconst 0, 1) := by decide +kernel
theorem dX5_countWaiting_44 : decode cX5_countWaiting 44 = .ok (.iadd, 1) := by decide +kernel
theorem dX5_countWaiting_45 : decode cX5_countWaiting 45 = .ok (.istore_n 2, 1) := by decide +kernel
theorem dX5_countWaiting_46 : decode cX5_countWaiting 46 = .ok (.iinc 3 1, 3) := by decide +kernel
theorem dX5_countWaiting_49 : decode cX5_countWaiting 49 = .ok (.goto (-45), 3) := by decide +kernel
theorem dX5_countWaiting_52 : decode cX5_countWaiting 52 = .ok (.iload_n 2, 1) := by decide +kernel
theorem dX5_countWaiting_53 : decode cX5_countWaiting 53 = .ok (.ireturn, 1) := by decide +kernel
def wb_X5_countWaiting_44 (B4 : q_S → Nat → Int32 → Int32 → Int32 → Prop) (S : q_S) (a0 : Nat) (x1 : Int32) (x3 : Int32) (xs0 : Int32) (xs1 : Int32) (Q : Option Value → q_S → Prop) : Prop := B4 S a0 x1 (xs0 + xs1) (x3 + 1)
set_option maxHeartbeats 4000000 in
set_option maxRecDepth 100000 in
theorem cb_X5_countWaiting_44 {p : Program} {l : Launch} {e : Env} {s : State} {m : MethodId} {args : Array Value} {below : List Frame} {meth : Method} {c : Code} {D : va_G} {cy : Nat → ClassId} {lo : Nat} {B4 : q_S → Nat → Int32 → Int32 → Int32 → Prop} {S : q_S} {a0 : Nat} {x1 : Int32} {x3 : Int32} {xs0 : Int32} {xs1 : Int32} {Q : Option Value → q_S → Prop} {H : Heap} {locs : List Loc} {ls : Array Slot} (X : q_X p s m args meth c RX5 cX5_countWaiting 5 (some .int) D cy lo) (hB4 : ∀ (S : q_S) (a0 : Nat) (x1 : Int32) (x2 : Int32) (x3 : Int32) (H : Heap) (locs : List Loc) (ls : Array Slot), B4 S a0 x1 x2 x3 → q_Y D cy lo s S H locs → lv_has ls 5 [(0, .ref a0), (1, .int x1), (2, .int x2), (3, .int x3)] → W p l e ({ frames := 0, cells := 0, slots := 0, locals := 0 } : Room) s m args below meth c H locs 0 0 (MQ below (q_Q D cy lo Q) args s 0 0 (fun q => lo ≤ q)) (F0 m 4 ls [])) (Y : q_Y D cy lo s S H locs) (hl : lv_has ls 5 [(0, .ref a0), (1, .int x1), (3, .int x3)]) (h : wb_X5_countWaiting_44 B4 S a0 x1 x3 xs0 xs1 Q) : W p l e ({ frames := 0, cells := 0, slots := 0, locals := 0 } : Room) s m args below meth c H locs 0 0 (MQ below (q_Q D cy lo Q) args s 0 0 (fun q => lo ≤ q)) (F0 m 44 ls [.int xs1, .int xs0]) := by
  have hx := X.1
  have hb := X.2.1
  unfold wb_X5_countWaiting_44 at h
  refine lv_iadd hx hb dX5_countWaiting_44 ?_
  refine lv_istore_n (i := 2) (lv' := [(2, .int (xs0 + xs1)), (0, .ref a0), (1, .int x1), (3, .int x3)]) hx hb dX5_countWaiting_45 rfl hl (by decide) (by first | rfl | simp [q_cat, q_catI, q_catJ, q_catR]) (fun ls hl => ?_)
  refine lv_iinc (v := (x3 + 1)) (lv' := [(3, .int (x3 + 1)), (2, .int (xs0 + xs1)), (0, .ref a0), (1, .int x1)]) hx hb dX5_countWaiting_46 hl (k := 3) rfl (by first | rfl | decide) (by decide) (by first | rfl | simp [q_cat, q_catI, q_catJ, q_catR]) (fun ls hl => ?_)
  refine lv_goto (tgt := 4) hx hb dX5_countWaiting_49 (by decide) ?_
  exact hB4 _ _ _ _ _ _ _ _ h Y (lv_sub hl [2, 3, 1, 0] rfl)
def wb_X5_countWaiting_39 (B4 : q_S → Nat → Int32 → Int32 → Int32 → Prop) (S : q_S) (a0 : Nat) (x1 : Int32) (x3 : Int32) (xs0 : Int32) (Q : Option Value → q_S → Prop) : Prop := wb_X5_countWaiting_44 B4 S a0 x1 x3 xs0 (1 : Int32) Q
set_option maxHeartbeats 4000000 in
set_option maxRecDepth 100000 in
theorem cb_X5_countWaiting_39 {p : Program} {l : Launch} {e : Env} {s : State} {m : MethodId} {args : Array Value} {below : List Frame} {meth : Method} {c : Code} {D : va_G} {cy : Nat → ClassId} {lo : Nat} {B4 : q_S → Nat → Int32 → Int32 → Int32 → Prop} {S : q_S} {a0 : Nat} {x1 : Int32} {x3 : Int32} {xs0 : Int32} {Q : Option Value → q_S → Prop} {H : Heap} {locs : List Loc} {ls : Array Slot} (X : q_X p s m args meth c RX5 cX5_countWaiting 5 (some .int) D cy lo) (hB4 : ∀ (S : q_S) (a0 : Nat) (x1 : Int32) (x2 : Int32) (x3 : Int32) (H : Heap) (locs : List Loc) (ls : Array Slot), B4 S a0 x1 x2 x3 → q_Y D cy lo s S H locs → lv_has ls 5 [(0, .ref a0), (1, .int x1), (2, .int x2), (3, .int x3)] → W p l e ({ frames := 0, cells := 0, slots := 0, locals := 0 } : Room) s m args below meth c H locs 0 0 (MQ below (q_Q D cy lo Q) args s 0 0 (fun q => lo ≤ q)) (F0 m 4 ls [])) (Y : q_Y D cy lo s S H locs) (hl : lv_has ls 5 [(0, .ref a0), (1, .int x1), (3, .int x3)]) (h : wb_X5_countWaiting_39 B4 S a0 x1 x3 xs0 Q) : W p l e ({ frames := 0, cells := 0, slots := 0, locals := 0 } : Room) s m args below meth c H locs 0 0 (MQ below (q_Q D cy lo Q) args s 0 0 (fun q => lo ≤ q)) (F0 m 39 ls [.int xs0]) := by
  have hx := X.1
  have hb := X.2.1
  unfold wb_X5_countWaiting_39 at h
  refine lv_iconst (v := 1) hx hb dX5_countWaiting_39 (by decide) ?_
  refine lv_goto (tgt := 44) hx hb dX5_countWaiting_40 (by decide) ?_
  exact cb_X5_countWaiting_44 X hB4 Y (lv_sub hl [0, 1, 2] rfl) h
def wb_X5_countWaiting_4 (B4 : q_S → Nat → Int32 → Int32 → Int32 → Prop) (S : q_S) (a0 : Nat) (x1 : Int32) (x2 : Int32) (x3 : Int32) (Q : Option Value → q_S → Prop) : Prop := q_K S a0 = 6 ∧ ((((q_I S 1004 a0) ≤ x3 → (Q (some (.int x2)) S)) ∧ (¬ (q_I S 1004 a0) ≤ x3 → (∃ a3_ : Nat, (q_P S 1003 a0) = some a3_ ∧ (q_K S a3_ = 26 ∧ (vp_in x3 (q_N S a3_) ∧ (∃ a7_ : Nat, (q_C S a3_ x3.toNatClampNeg) = some a7_ ∧ (q_K S a7_ = 8 ∧ ((((q_I S 1418 a7_) = x1 → (wb_X5_countWaiting_39 B4 S a0 x1 x3 x2 Q)) ∧ (¬ (q_I S 1418 a7_) = x1 → (((¬ (q_I S 1418 a7_) = ((64 : Int32) + x1) → (wb_X5_countWaiting_44 B4 S a0 x1 x3 x2 (0 : Int32) Q)) ∧ ((q_I S 1418 a7_) = ((64 : Int32) + x1) → (wb_X5_countWaiting_39 B4 S a0 x1 x3 x2 Q)))))))))))))))
set_option maxHeartbeats 4000000 in
set_option maxRecDepth 100000 in
theorem cb_X5_countWaiting_4 {p : Program} {l : Launch} {e : Env} {s : State} {m : MethodId} {args : Array Value} {below : List Frame} {meth : Method} {c : Code} {D : va_G} {cy : Nat → ClassId} {lo : Nat} {B4 : q_S → Nat → Int32 → Int32 → Int32 → Prop} {S : q_S} {a0 : Nat} {x1 : Int32} {x2 : Int32} {x3 : Int32} {Q : Option Value → q_S → Prop} {H : Heap} {locs : List Loc} {ls : Array Slot} (X : q_X p s m args meth c RX5 cX5_countWaiting 5 (some .int) D cy lo) (hB4 : ∀ (S : q_S) (a0 : Nat) (x1 : Int32) (x2 : Int32) (x3 : Int32) (H : Heap) (locs : List Loc) (ls : Array Slot), B4 S a0 x1 x2 x3 → q_Y D cy lo s S H locs → lv_has ls 5 [(0, .ref a0), (1, .int x1), (2, .int x2), (3, .int x3)] → W p l e ({ frames := 0, cells := 0, slots := 0, locals := 0 } : Room) s m args below meth c H locs 0 0 (MQ below (q_Q D cy lo Q) args s 0 0 (fun q => lo ≤ q)) (F0 m 4 ls [])) (Y : q_Y D cy lo s S H locs) (hl : lv_has ls 5 [(0, .ref a0), (1, .int x1), (2, .int x2), (3, .int x3)]) (h : wb_X5_countWaiting_4 B4 S a0 x1 x2 x3 Q) : W p l e ({ frames := 0, cells := 0, slots := 0, locals := 0 } : Room) s m args below meth c H locs 0 0 (MQ below (q_Q D cy lo Q) args s 0 0 (fun q => lo ≤ q)) (F0 m 4 ls []) := by
  have hx := X.1
  have hb := X.2.1
  unfold wb_X5_countWaiting_4 at h
  refine lv_iload_n hx hb dX5_countWaiting_4 rfl (lv_at hl 3 rfl) ?_
  refine lv_aload_n hx hb dX5_countWaiting_5 rfl (lv_at hl 0 rfl) ?_
  obtain ⟨k1_, h⟩ := h
  refine q_getI X Y kX5 4 rfl fl_X5_45 k1_ dX5_countWaiting_6 ?_
  refine lv_icmp_ge (tgt := 52) hx hb dX5_countWaiting_9 (by decide) (fun c2_ => ?_) (fun c2_ => ?_)
  · replace h := h.1 c2_
    refine lv_iload_n hx hb dX5_countWaiting_52 rfl (lv_at hl 2 rfl) ?_
    exact q_iret X Y rfl (Nat.le_refl _) (Nat.le_refl _) h dX5_countWaiting_53
  · replace h := h.2 c2_
    refine lv_aload_n hx hb dX5_countWaiting_12 rfl (lv_at hl 0 rfl) ?_
    refine q_getP X Y kX5 3 rfl fl_X5_20 k1_ rfl dX5_countWaiting_13 ?_
    refine lv_iload_n hx hb dX5_countWaiting_16 rfl (lv_at hl 3 rfl) ?_
    obtain ⟨a3_, e4_, h⟩ := h
    refine q_nn [.int x3] e4_ ?_
    obtain ⟨k5_, h⟩ := h
    obtain ⟨i6_, h⟩ := h
    refine q_cld X Y k5_ (by decide) (t := 6) rfl i6_ rfl dX5_countWaiting_17 ?_
    obtain ⟨a7_, e8_, h⟩ := h
    refine q_nn [] e8_ ?_
    obtain ⟨k9_, h⟩ := h
    refine q_getI X Y kX7 18 rfl fl_X5_111 k9_ dX5_countWaiting_18 ?_
    refine lv_istore (i := 4) (lv' := [(4, .int (q_I S 1418 a7_)), (0, .ref a0), (1, .int x1), (2, .int x2), (3, .int x3)]) hx hb dX5_countWaiting_21 hl (by decide) (by first | rfl | simp [q_cat, q_catI, q_catJ, q_catR]) (fun ls hl => ?_)
    refine lv_iload_n hx hb dX5_countWaiting_23 rfl (lv_at hl 3 rfl) ?_
    refine lv_iload hx hb dX5_countWaiting_24 (lv_at hl 0 rfl) ?_
    refine lv_iload_n hx hb dX5_countWaiting_26 rfl (lv_at hl 2 rfl) ?_
    refine lv_icmp_eq (tgt := 39) hx hb dX5_countWaiting_27 (by decide) (fun c10_ => ?_) (fun c10_ => ?_)
    · replace h := h.1 c10_
      exact cb_X5_countWaiting_39 X hB4 Y (lv_sub hl [1, 2, 4] rfl) h
    · replace h := h.2 c10_
      refine lv_iload hx hb dX5_countWaiting_30 (lv_at hl 0 rfl) ?_
      refine lv_bipush (v := 64) hx hb dX5_countWaiting_32 (by decide) ?_
      refine lv_iload_n hx hb dX5_countWaiting_34 rfl (lv_at hl 2 rfl) ?_
      refine lv_iadd hx hb dX5_countWaiting_35 ?_
      refine lv_icmp_ne (tgt := 43) hx hb dX5_countWaiting_36 (by decide) (fun c11_ => ?_) (fun c11_ => ?_)
      · replace h := h.1 c11_
        refine lv_iconst (v := 0) hx hb dX5_countWaiting_43 (by decide) ?_
        exact cb_X5_countWaiting_44 X hB4 Y (lv_sub hl [1, 2, 4] rfl) h
      · replace h := h.2 c11_
        exact cb_X5_countWaiting_39 X hB4 Y (lv_sub hl [1, 2, 4] rfl) h
def wl_X5_countWaiting_4  : Nat → q_S → Nat → Int32 → Int32 → Int32 → (Option Value → q_S → Prop) → Prop
  | 0, _, _, _, _, _, _ => False
  | n + 1, S, a0, x1, x2, x3, Q => wb_X5_countWaiting_4 (fun S a0 x1 x2 x3 => wl_X5_countWaiting_4 n S a0 x1 x2 x3 Q) S a0 x1 x2 x3 Q
set_option maxHeartbeats 4000000 in
set_option maxRecDepth 100000 in
theorem cl_X5_countWaiting_4 {p : Program} {l : Launch} {e : Env} {s : State} {m : MethodId} {args : Array Value} {below : List Frame} {meth : Method} {c : Code} {D : va_G} {cy : Nat → ClassId} {lo : Nat}  {Q : Option Value → q_S → Prop} (X : q_X p s m args meth c RX5 cX5_countWaiting 5 (some .int) D cy lo)  : ∀ (n : Nat) (S : q_S) (a0 : Nat) (x1 : Int32) (x2 : Int32) (x3 : Int32) (H : Heap) (locs : List Loc) (ls : Array Slot), wl_X5_countWaiting_4 n S a0 x1 x2 x3 Q → q_Y D cy lo s S H locs → lv_has ls 5 [(0, .ref a0), (1, .int x1), (2, .int x2), (3, .int x3)] → W p l e ({ frames := 0, cells := 0, slots := 0, locals := 0 } : Room) s m args below meth c H locs 0 0 (MQ below (q_Q D cy lo Q) args s 0 0 (fun q => lo ≤ q)) (F0 m 4 ls []) := by
  intro n
  induction n with
  | zero => intro S a0 x1 x2 x3 H locs ls h; exact absurd h id
  | succ n ih => intro S a0 x1 x2 x3 H locs ls h Y hl; exact cb_X5_countWaiting_4 X ih Y hl h
def wm_X5_countWaiting (S : q_S) (a0 : Nat) (x1 : Int32) (Q : Option Value → q_S → Prop) : Prop := ∃ n12_ : Nat, wl_X5_countWaiting_4 n12_ S a0 x1 (0 : Int32) (0 : Int32) Q
set_option maxHeartbeats 4000000 in
set_option maxRecDepth 100000 in
theorem cm_X5_countWaiting {l : Launch} {D : va_G} {cy : Nat → ClassId} {lo : Nat} {S : q_S} {a0 : Nat} {x1 : Int32} {Q : Option Value → q_S → Prop} (h : wm_X5_countWaiting S a0 x1 Q) : q_Met l D cy lo yX5_countWaiting cX5_countWaiting 5 (some .int) 0 0 0 0 [.ref a0, .int x1] S Q := by
  refine q_body (by decide) (by first | exact Nat.le_of_ble_eq_true rfl | simp [lg_sl, q_cat, q_catI, q_catJ, q_catR]) ?_
  intro p e s m below meth c ls X hnm Y hl
  have hx := X.1
  have hb := X.2.1
  have hl : lv_has ls 5 [(0, .ref a0), (1, .int x1)] := by first | exact hl | simpa [lv_args, q_cat, q_catI, q_catJ, q_catR] using hl
  generalize hargs : ([.ref a0, .int x1] : List Value).toArray = args at X ⊢
  unfold wm_X5_countWaiting at h
  refine lv_iconst (v := 0) hx hb dX5_countWaiting_0 (by decide) ?_
  refine lv_istore_n (i := 2) (lv' := [(2, .int (0 : Int32)), (0, .ref a0), (1, .int x1)]) hx hb dX5_countWaiting_1 rfl hl (by decide) (by first | rfl | simp [q_cat, q_catI, q_catJ, q_catR]) (fun ls hl => ?_)
  refine lv_iconst (v := 0) hx hb dX5_countWaiting_2 (by decide) ?_
  refine lv_istore_n (i := 3) (lv' := [(3, .int (0 : Int32)), (2, .int (0 : Int32)), (0, .ref a0), (1, .int x1)]) hx hb dX5_countWaiting_3 rfl hl (by decide) (by first | rfl | simp [q_cat, q_catI, q_catJ, q_catR]) (fun ls hl => ?_)
  obtain ⟨n12_, h⟩ := h
  exact cl_X5_countWaiting_4 X n12_ _ _ _ _ _ _ _ _ h Y (lv_sub hl [2, 3, 1, 0] rfl)
-- X0_tellThing
theorem ml_X0_353 : Cond.methodLink RX0 353 yX5_countWaiting ∈ q_G := q_tb (i := 1705) (by decide +kernel) (by decide +kernel)
theorem mt_X5_countWaiting : q_Mt yX5_countWaiting cX5_countWaiting 5 (some .int) 1 := ⟨q_tb (i := 388) (by decide +kernel) (by decide +kernel), q_tb (i := 20) (by decide +kernel) (by decide +kernel), by decide +kernel, by decide +kernel, by decide +kernel⟩
theorem mi_X5_countWaiting : Cond.instanceMethod yX5_countWaiting ∈ q_G ∧ Cond.selects yX5_countWaiting.cls yX5_countWaiting yX5_countWaiting ∈ q_G := ⟨q_tb (i := 386) (by decide +kernel) (by decide +kernel), q_tb (i := 387) (by decide +kernel) (by decide +kernel)⟩
theorem ml_X0_350 : Cond.methodLink RX0 350 yX10_value ∈ q_G := q_tb (i := 1704) (by decide +kernel) (by decide +kernel)
theorem mt_X10_value : q_Mt yX10_value cX10_value 1 (some .int) 0 := ⟨q_tb (i := 379) (by decide +kernel) (by decide +kernel), q_tb (i := 23) (by decide +kernel) (by decide +kernel), by decide +kernel, by decide +kernel, by decide +kernel⟩
theorem mi_X10_value : Cond.instanceMethod yX10_value ∈ q_G ∧ Cond.selects yX10_value.cls yX10_value yX10_value ∈ q_G := ⟨q_tb (i := 377) (by decide +kernel) (by decide +kernel), q_tb (i := 378) (by decide +kernel) (by decide +kernel)⟩
theorem dX0_tellThing_0 : decode cX0_tellThing 0 = .ok (.aload_n 0, 1) := by decide +kernel
theorem dX0_tellThing_1 : decode cX0_tellThing 1 = .ok (.getfield 15, 3) := by decide +kernel
theorem dX0_tellThing_4 : decode cX0_tellThing 4 = .ok (.iload_n 1, 1) := by decide +kernel
theorem dX0_tellThing_5 : decode cX0_tellThing 5 = .ok (.iload_n 2, 1) := by decide +kernel
theorem dX0_tellThing_6 : decode cX0_tellThing 6 = .ok (.invokevirtual 144, 3) := by decide +kernel
theorem dX0_tellThing_9 : decode cX0_tellThing 9 = .ok (.astore_n 3, 1) := by decide +kernel
theorem dX0_tellThing_10 : decode cX0_tellThing 10 = .ok (.aload_n 3, 1) := by decide +kernel
theorem dX0_tellThing_11 : decode cX0_tellThing 11 = .ok (.ifnonnull 5, 3) := by decide +kernel
theorem dX0_tellThing_14 : decode cX0_tellThing 14 = .ok (.iconst 1, 1) := by decide +kernel
theorem dX0_tellThing_15 : decode cX0_tellThing 15 = .ok (.ireturn, 1) := by decide +kernel
theorem dX0_tellThing_16 : decode cX0_tellThing 16 = .ok (.iload_n 1, 1) := by decide +kernel
theorem dX0_tellThing_17 : decode cX0_tellThing 17 = .ok (.iconst 4, 1) := by decide +kernel
theorem dX0_tellThing_18 : decode cX0_tellThing 18 = .ok (.if_icmp .ne 17, 3) := by decide +kernel
theorem dX0_tellThing_21 : decode cX0_tellThing 21 = .ok (.aload_n 0, 1) := by decide +kernel
theorem dX0_tellThing_22 : decode cX0_tellThing 22 = .ok (.getfield 9, 3) := by decide +kernel
theorem dX0_tellThing_25 : decode cX0_tellThing 25 = .ok (.aload_n 3, 1) := by decide +kernel
theorem dX0_tellThing_26 : decode cX0_tellThing 26 = .ok (.getfield 227, 3) := by decide +kernel
theorem dX0_tellThing_29 : decode cX0_tellThing 29 = .ok (.invokevirtual 230, 3) := by decide +kernel
theorem dX0_tellThing_32 : decode cX0_tellThing 32 = .ok (.goto 4, 3) := by decide +kernel
theorem dX0_tellThing_35 : decode cX0_tellThing 35 = .ok (.aconst_null, 1) := by decide +kernel
theorem dX0_tellThing_36 : decode cX0_tellThing 36 = .ok (.astore 4, 2) := by decide +kernel
theorem dX0_tellThing_38 : decode cX0_tellThing 38 = .ok (.aload_n 0, 1) := by decide +kernel
theorem dX0_tellThing_39 : decode cX0_tellThing 39 = .ok (.getfield 29, 3) := by decide +kernel
theorem dX0_tellThing_42 : decode cX0_tellThing 42 = .ok (.bipush 11, 2) := by decide +kernel
theorem dX0_tellThing_44 : decode cX0_tellThing 44 = .ok (.aload 4, 2) := by decide +kernel
theorem dX0_tellThing_46 : decode cX0_tellThing 46 = .ok (.ifnonnull 10, 3) := by decide +kernel
theorem dX0_tellThing_49 : decode cX0_tellThing 49 = .ok (.aload_n 3, 1) := by decide +kernel
theorem dX0_tellThing_50 : decode cX0_tellThing 50 = .ok (.invokevirtual 350, 3) := by decide +kernel
theorem dX0_tellThing_53 : decode cX0_tellThing 53 = .ok (.goto 11, 3) := by decide +kernel
theorem dX0_tellThing_56 : decode cX0_tellThing 56 = .ok (.aload 4, 2) := by decide +kernel
theorem dX0_tellThing_58 : decode cX0_tellThing 58 = .ok (.getfield 241, 3) := by decide +kernel
theorem dX0_tellThing_61 : decode cX0_tellThing 61 = .ok (.getfield 213, 3) := by decide +kernel
theorem dX0_tellThing_64 : decode cX0_tellThing 64 = .ok (.iastore, 1) := by decide +kernel
theorem dX0_tellThing_65 : decode cX0_tellThing 65 = .ok (.aload_n 0, 1) := by decide +kernel
theorem dX0_tellThing_66 : decode cX0_tellThing 66 = .ok (.getfield 29, 3) := by decide +kernel
theorem dX0_tellThing_69 : decode cX0_tellThing 69 = .ok (.bipush 12, 2) := by decide +kernel
theorem dX0_tellThing_71 : decode cX0_tellThing 71 = .ok (.aload_n 0, 1) := by decide +kernel
theorem dX0_tellThing_72 : decode cX0_tellThing 72 = .ok (.getfield 15, 3) := by decide +kernel
theorem dX0_tellThing_75 : decode cX0_tellThing 75 = .ok (.iload_n 1, 1) := by decide +kernel
theorem dX0_tellThing_76 : decode cX0_tellThing 76 = .ok (.bipush 8, 2) := by decide +kernel
theorem dX0_tellThing_78 : decode cX0_tellThing 78 = .ok (.imul, 1) := by decide +kernel
theorem dX0_tellThing_79 : decode cX0_tellThing 79 = .ok (.iload_n 2, 1) := by decide +kernel
theorem dX0_tellThing_80 : decode cX0_tellThing 80 = .ok (.iadd, 1) := by decide +kernel
theorem dX0_tellThing_81 : decode cX0_tellThing 81 = .ok (.invokevirtual 353, 3) := by decide +kernel
theorem dX0_tellThing_84 : decode cX0_tellThing 84 = .ok (.iastore, 1) := by decide +kernel
theorem dX0_tellThing_85 : decode cX0_tellThing 85 = .ok (.iconst 0, 1) := by decide +kernel
theorem dX0_tellThing_86 : decode cX0_tellThing 86 = .ok (.ireturn, 1) := by decide +kernel
def wb_X0_tellThing_64  (S : q_S) (a0 : Nat) (x1 : Int32) (x2 : Int32) (rs0 : Option Nat) (xs1 : Int32) (xs2 : Int32) (Q : Option Value → q_S → Prop) : Prop := ∃ a1_ : Nat, rs0 = some a1_ ∧ (q_K S a1_ = 21 ∧ (vp_in xs1 (q_N S a1_) ∧ (q_K (qs_A S a1_ xs1.toNatClampNeg xs2) a0 = 1 ∧ (∃ a6_ : Nat, (q_P (qs_A S a1_ xs1.toNatClampNeg xs2) 1 a0) = some a6_ ∧ (q_K (qs_A S a1_ xs1.toNatClampNeg xs2) a6_ = 6 ∧ (wm_X5_countWaiting (qs_A S a1_ xs1.toNatClampNeg xs2) a6_ ((x1 * (8 : Int32)) + x2) (fun r9_ S10_ => ∃ x11_ : Int32, r9_ = some (.int x11_) ∧ (∃ a12_ : Nat, (q_P (qs_A S a1_ xs1.toNatClampNeg xs2) 3 a0) = some a12_ ∧ (q_K S10_ a12_ = 21 ∧ (vp_in (12 : Int32) (q_N S10_ a12_) ∧ (Q (some (.int (0 : Int32))) (qs_A S10_ a12_ (12 : Int32).toNatClampNeg x11_))))))))))))
set_option maxHeartbeats 4000000 in
set_option maxRecDepth 100000 in
theorem cb_X0_tellThing_64 {p : Program} {l : Launch} {e : Env} {s : State} {m : MethodId} {args : Array Value} {below : List Frame} {meth : Method} {c : Code} {D : va_G} {cy : Nat → ClassId} {lo : Nat}  {S : q_S} {a0 : Nat} {x1 : Int32} {x2 : Int32} {rs0 : Option Nat} {xs1 : Int32} {xs2 : Int32} {Q : Option Value → q_S → Prop} {H : Heap} {locs : List Loc} {ls : Array Slot} (X : q_X p s m args meth c RX0 cX0_tellThing 5 (some .int) D cy lo)  (Y : q_Y D cy lo s S H locs) (hl : lv_has ls 5 [(0, .ref a0), (1, .int x1), (2, .int x2)]) (h : wb_X0_tellThing_64 S a0 x1 x2 rs0 xs1 xs2 Q) : W p l e ({ frames := 1, cells := 0, slots := 0, locals := 24 } : Room) s m args below meth c H locs 0 0 (MQ below (q_Q D cy lo Q) args s 0 0 (fun q => lo ≤ q)) (F0 m 64 ls [.int xs2, .int xs1, va_rf rs0]) := by
  have hx := X.1
  have hb := X.2.1
  unfold wb_X0_tellThing_64 at h
  obtain ⟨a1_, e2_, h⟩ := h
  refine q_nn [.int xs2, .int xs1] e2_ ?_
  obtain ⟨k3_, h⟩ := h
  obtain ⟨i4_, h⟩ := h
  refine q_ist X Y k3_ i4_ dX0_tellThing_64 (fun H locs Y => ?_)
  refine lv_aload_n hx hb dX0_tellThing_65 rfl (lv_at hl 0 rfl) ?_
  obtain ⟨k5_, h⟩ := h
  refine q_getP X Y kX0 3 rfl fl_X0_29 k5_ rfl dX0_tellThing_66 ?_
  refine lv_bipush (v := 12) hx hb dX0_tellThing_69 (by decide) ?_
  refine lv_aload_n hx hb dX0_tellThing_71 rfl (lv_at hl 0 rfl) ?_
  refine q_getP X Y kX0 1 rfl fl_X0_15 k5_ rfl dX0_tellThing_72 ?_
  refine lv_iload_n hx hb dX0_tellThing_75 rfl (lv_at hl 1 rfl) ?_
  refine lv_bipush (v := 8) hx hb dX0_tellThing_76 (by decide) ?_
  refine lv_imul hx hb dX0_tellThing_78 ?_
  refine lv_iload_n hx hb dX0_tellThing_79 rfl (lv_at hl 2 rfl) ?_
  refine lv_iadd hx hb dX0_tellThing_80 ?_
  obtain ⟨a6_, e7_, h⟩ := h
  refine q_nn [.int ((x1 * (8 : Int32)) + x2)] e7_ ?_
  obtain ⟨k8_, h⟩ := h
  refine q_callV X Y hl (cm_X5_countWaiting h) mt_X5_countWaiting mi_X5_countWaiting ml_X0_353 (ci := 5) rfl k8_ (by decide) rfl rfl (by first | exact Nat.le_of_ble_eq_true rfl | simp [q_cat, q_catI, q_catJ, q_catR]) ⟨Nat.le_of_ble_eq_true rfl, Nat.le_of_ble_eq_true rfl⟩ ⟨Nat.le_of_ble_eq_true rfl, Nat.le_of_ble_eq_true rfl⟩ dX0_tellThing_81 (fun r9_ S10_ H locs hp Y => ?_)
  obtain ⟨x11_, rfl, h⟩ := hp
  refine W.eq (g2 := F0 m 84 ls [.int x11_, .int (12 : Int32), va_rf (q_P (qs_A S a1_ xs1.toNatClampNeg xs2) 3 a0)]) rfl ?_
  obtain ⟨a12_, e13_, h⟩ := h
  refine q_nn [.int x11_, .int (12 : Int32)] e13_ ?_
  obtain ⟨k14_, h⟩ := h
  obtain ⟨i15_, h⟩ := h
  refine q_ist X Y k14_ i15_ dX0_tellThing_84 (fun H locs Y => ?_)
  refine lv_iconst (v := 0) hx hb dX0_tellThing_85 (by decide) ?_
  exact q_iret X Y rfl (Nat.le_refl _) (Nat.le_refl _) h dX0_tellThing_86
def wb_X0_tellThing_36  (S : q_S) (a0 : Nat) (x1 : Int32) (x2 : Int32) (r3 : Option Nat) (rs0 : Option Nat) (Q : Option Value → q_S → Prop) : Prop := q_K S a0 = 1 ∧ (((¬ rs0 = none → (∃ a18_ : Nat, rs0 = some a18_ ∧ (q_K S a18_ = 2 ∧ (∃ a21_ : Nat, (q_P S 204 a18_) = some a21_ ∧ (q_K S a21_ = 9 ∧ (wb_X0_tellThing_64 S a0 x1 x2 (q_P S 3 a0) (11 : Int32) (q_I S 1603 a21_) Q)))))) ∧ (rs0 = none → (∃ a24_ : Nat, r3 = some a24_ ∧ (q_K S a24_ = 11 ∧ (wm_X10_value S a24_ (fun r27_ S28_ => ∃ x29_ : Int32, r27_ = some (.int x29_) ∧ (wb_X0_tellThing_64 S28_ a0 x1 x2 (q_P S 3 a0) (11 : Int32) x29_ Q))))))))
set_option maxHeartbeats 4000000 in
set_option maxRecDepth 100000 in
theorem cb_X0_tellThing_36 {p : Program} {l : Launch} {e : Env} {s : State} {m : MethodId} {args : Array Value} {below : List Frame} {meth : Method} {c : Code} {D : va_G} {cy : Nat → ClassId} {lo : Nat}  {S : q_S} {a0 : Nat} {x1 : Int32} {x2 : Int32} {r3 : Option Nat} {rs0 : Option Nat} {Q : Option Value → q_S → Prop} {H : Heap} {locs : List Loc} {ls : Array Slot} (X : q_X p s m args meth c RX0 cX0_tellThing 5 (some .int) D cy lo)  (Y : q_Y D cy lo s S H locs) (hl : lv_has ls 5 [(0, .ref a0), (1, .int x1), (2, .int x2), (3, va_rf r3)]) (h : wb_X0_tellThing_36 S a0 x1 x2 r3 rs0 Q) : W p l e ({ frames := 1, cells := 0, slots := 0, locals := 24 } : Room) s m args below meth c H locs 0 0 (MQ below (q_Q D cy lo Q) args s 0 0 (fun q => lo ≤ q)) (F0 m 36 ls [va_rf rs0]) := by
  have hx := X.1
  have hb := X.2.1
  unfold wb_X0_tellThing_36 at h
  refine q_astore (i := 4) (lv' := [(4, va_rf rs0), (0, .ref a0), (1, .int x1), (2, .int x2), (3, va_rf r3)]) hx hb dX0_tellThing_36 hl (by decide) (by first | rfl | simp [q_cat, q_catI, q_catJ, q_catR]) (fun ls hl => ?_)
  refine lv_aload_n hx hb dX0_tellThing_38 rfl (lv_at hl 1 rfl) ?_
  obtain ⟨k16_, h⟩ := h
  refine q_getP X Y kX0 3 rfl fl_X0_29 k16_ rfl dX0_tellThing_39 ?_
  refine lv_bipush (v := 11) hx hb dX0_tellThing_42 (by decide) ?_
  refine q_aload hx hb dX0_tellThing_44 (lv_at hl 0 rfl) ?_
  refine q_ifnonnull (r := rs0) (tgt := 56) hx hb dX0_tellThing_46 (by decide) (fun c17_ => ?_) (fun c17_ => ?_)
  · replace h := h.1 c17_
    refine q_aload hx hb dX0_tellThing_56 (lv_at hl 0 rfl) ?_
    obtain ⟨a18_, e19_, h⟩ := h
    refine q_nn [] e19_ ?_
    obtain ⟨k20_, h⟩ := h
    refine q_getP X Y kX1 4 rfl fl_X0_241 k20_ rfl dX0_tellThing_58 ?_
    obtain ⟨a21_, e22_, h⟩ := h
    refine q_nn [] e22_ ?_
    obtain ⟨k23_, h⟩ := h
    refine q_getI X Y kX8 3 rfl fl_X0_213 k23_ dX0_tellThing_61 ?_
    exact cb_X0_tellThing_64 X Y (lv_sub hl [1, 2, 3] rfl) h
  · replace h := h.2 c17_
    refine q_aload_n hx hb dX0_tellThing_49 rfl (lv_at hl 4 rfl) ?_
    obtain ⟨a24_, e25_, h⟩ := h
    refine q_nn [] e25_ ?_
    obtain ⟨k26_, h⟩ := h
    refine q_callV X Y hl (cm_X10_value h) mt_X10_value mi_X10_value ml_X0_350 (ci := 10) rfl k26_ (by decide) rfl rfl (by first | exact Nat.le_of_ble_eq_true rfl | simp [q_cat, q_catI, q_catJ, q_catR]) ⟨Nat.le_of_ble_eq_true rfl, Nat.le_of_ble_eq_true rfl⟩ ⟨Nat.le_of_ble_eq_true rfl, Nat.le_of_ble_eq_true rfl⟩ dX0_tellThing_50 (fun r27_ S28_ H locs hp Y => ?_)
    obtain ⟨x29_, rfl, h⟩ := hp
    refine W.eq (g2 := F0 m 53 ls [.int x29_, .int (11 : Int32), va_rf (q_P S 3 a0)]) rfl ?_
    refine lv_goto (tgt := 64) hx hb dX0_tellThing_53 (by decide) ?_
    exact cb_X0_tellThing_64 X Y (lv_sub hl [1, 2, 3] rfl) h
def wm_X0_tellThing (S : q_S) (a0 : Nat) (x1 : Int32) (x2 : Int32) (Q : Option Value → q_S → Prop) : Prop := q_K S a0 = 1 ∧ (∃ a31_ : Nat, (q_P S 1 a0) = some a31_ ∧ (q_K S a31_ = 6 ∧ (wm_X5_thingAt S a31_ x1 x2 (fun r34_ S35_ => ∃ r36_ : Option Nat, r34_ = some (va_rf r36_) ∧ (((¬ r36_ = none → (((¬ x1 = (4 : Int32) → (wb_X0_tellThing_36 S35_ a0 x1 x2 r36_ none Q)) ∧ (x1 = (4 : Int32) → (q_K S35_ a0 = 1 ∧ (∃ a40_ : Nat, r36_ = some a40_ ∧ (q_K S35_ a40_ = 11 ∧ (∃ a43_ : Nat, (q_P S35_ 0 a0) = some a43_ ∧ (q_K S35_ a43_ = 7 ∧ (wm_X6_channelAt S35_ a43_ (q_I S35_ 2008 a40_) (fun r46_ S47_ => ∃ r48_ : Option Nat, r46_ = some (va_rf r48_) ∧ (wb_X0_tellThing_36 S47_ a0 x1 x2 r36_ r48_ Q)))))))))))) ∧ (r36_ = none → (Q (some (.int (1 : Int32))) S35_))))))))
set_option maxHeartbeats 4000000 in
set_option maxRecDepth 100000 in
theorem cm_X0_tellThing {l : Launch} {D : va_G} {cy : Nat → ClassId} {lo : Nat} {S : q_S} {a0 : Nat} {x1 : Int32} {x2 : Int32} {Q : Option Value → q_S → Prop} (h : wm_X0_tellThing S a0 x1 x2 Q) : q_Met l D cy lo yX0_tellThing cX0_tellThing 5 (some .int) 1 24 0 0 [.ref a0, .int x1, .int x2] S Q := by
  refine q_body (by decide) (by first | exact Nat.le_of_ble_eq_true rfl | simp [lg_sl, q_cat, q_catI, q_catJ, q_catR]) ?_
  intro p e s m below meth c ls X hnm Y hl
  have hx := X.1
  have hb := X.2.1
  have hl : lv_has ls 5 [(0, .ref a0), (1, .int x1), (2, .int x2)] := by first | exact hl | simpa [lv_args, q_cat, q_catI, q_catJ, q_catR] using hl
  generalize hargs : ([.ref a0, .int x1, .int x2] : List Value).toArray = args at X ⊢
  unfold wm_X0_tellThing at h
  refine lv_aload_n hx hb dX0_tellThing_0 rfl (lv_at hl 0 rfl) ?_
  obtain ⟨k30_, h⟩ := h
  refine q_getP X Y kX0 1 rfl fl_X0_15 k30_ rfl dX0_tellThing_1 ?_
  refine lv_iload_n hx hb dX0_tellThing_4 rfl (lv_at hl 1 rfl) ?_
  refine lv_iload_n hx hb dX0_tellThing_5 rfl (lv_at hl 2 rfl) ?_
  obtain ⟨a31_, e32_, h⟩ := h
  refine q_nn [.int x2, .int x1] e32_ ?_
  obtain ⟨k33_, h⟩ := h
  refine q_callV X Y hl (cm_X5_thingAt h) mt_X5_thingAt mi_X5_thingAt ml_X0_144 (ci := 5) rfl k33_ (by decide) rfl rfl (by first | exact Nat.le_of_ble_eq_true rfl | simp [q_cat, q_catI, q_catJ, q_catR]) ⟨Nat.le_of_ble_eq_true rfl, Nat.le_of_ble_eq_true rfl⟩ ⟨Nat.le_of_ble_eq_true rfl, Nat.le_of_ble_eq_true rfl⟩ dX0_tellThing_6 (fun r34_ S35_ H locs hp Y => ?_)
  obtain ⟨r36_, rfl, h⟩ := hp
  refine W.eq (g2 := F0 m 9 ls [va_rf r36_]) rfl ?_
  refine q_astore_n (i := 3) (lv' := [(3, va_rf r36_), (0, .ref a0), (1, .int x1), (2, .int x2)]) hx hb dX0_tellThing_9 rfl hl (by decide) (by first | rfl | simp [q_cat, q_catI, q_catJ, q_catR]) (fun ls hl => ?_)
  refine q_aload_n hx hb dX0_tellThing_10 rfl (lv_at hl 0 rfl) ?_
  refine q_ifnonnull (r := r36_) (tgt := 16) hx hb dX0_tellThing_11 (by decide) (fun c37_ => ?_) (fun c37_ => ?_)
  · replace h := h.1 c37_
    refine lv_iload_n hx hb dX0_tellThing_16 rfl (lv_at hl 2 rfl) ?_
    refine lv_iconst (v := 4) hx hb dX0_tellThing_17 (by decide) ?_
    refine lv_icmp_ne (tgt := 35) hx hb dX0_tellThing_18 (by decide) (fun c38_ => ?_) (fun c38_ => ?_)
    · replace h := h.1 c38_
      refine lv_null hx hb dX0_tellThing_35 ?_
      refine W.eq (g2 := F0 m 36 ls [va_rf none]) rfl ?_
      exact cb_X0_tellThing_36 X Y (lv_sub hl [1, 2, 3, 0] rfl) h
    · replace h := h.2 c38_
      refine lv_aload_n hx hb dX0_tellThing_21 rfl (lv_at hl 1 rfl) ?_
      obtain ⟨k39_, h⟩ := h
      refine q_getP X Y kX0 0 rfl fl_X0_9 k39_ rfl dX0_tellThing_22 ?_
      refine q_aload_n hx hb dX0_tellThing_25 rfl (lv_at hl 0 rfl) ?_
      obtain ⟨a40_, e41_, h⟩ := h
      refine q_nn [] e41_ ?_
      obtain ⟨k42_, h⟩ := h
      refine q_getI X Y kX10 8 rfl fl_X0_227 k42_ dX0_tellThing_26 ?_
      obtain ⟨a43_, e44_, h⟩ := h
      refine q_nn [.int (q_I S35_ 2008 a40_)] e44_ ?_
      obtain ⟨k45_, h⟩ := h
      refine q_callV X Y hl (cm_X6_channelAt h) mt_X6_channelAt mi_X6_channelAt ml_X0_230 (ci := 6) rfl k45_ (by decide) rfl rfl (by first | exact Nat.le_of_ble_eq_true rfl | simp [q_cat, q_catI, q_catJ, q_catR]) ⟨Nat.le_of_ble_eq_true rfl, Nat.le_of_ble_eq_true rfl⟩ ⟨Nat.le_of_ble_eq_true rfl, Nat.le_of_ble_eq_true rfl⟩ dX0_tellThing_29 (fun r46_ S47_ H locs hp Y => ?_)
      obtain ⟨r48_, rfl, h⟩ := hp
      refine W.eq (g2 := F0 m 32 ls [va_rf r48_]) rfl ?_
      refine lv_goto (tgt := 36) hx hb dX0_tellThing_32 (by decide) ?_
      exact cb_X0_tellThing_36 X Y (lv_sub hl [1, 2, 3, 0] rfl) h
  · replace h := h.2 c37_
    refine lv_iconst (v := 1) hx hb dX0_tellThing_14 (by decide) ?_
    exact q_iret X Y rfl (Nat.le_refl _) (Nat.le_refl _) h dX0_tellThing_15
-- X6_frameTicks
theorem fl_X6_69 : Cond.fieldLink RX6 69 "PartitionWorks$Plan" "windowCount" "I" ∈ q_G := q_tb (i := 92) (by decide +kernel) (by decide +kernel)
theorem fl_X6_30 : Cond.fieldLink RX6 30 "PartitionWorks$Plan" "windowEnds" "[I" ∈ q_G := q_tb (i := 91) (by decide +kernel) (by decide +kernel)
theorem dX6_frameTicks_0 : decode cX6_frameTicks 0 = .ok (.aload_n 0, 1) := by decide +kernel
theorem dX6_frameTicks_1 : decode cX6_frameTicks 1 = .ok (.getfield 69, 3) := by decide +kernel
theorem dX6_frameTicks_4 : decode cX6_frameTicks 4 = .ok (.ifCond .ne 7, 3) := by decide +kernel
theorem dX6_frameTicks_7 : decode cX6_frameTicks 7 = .ok (.iconst 0, 1) := by decide +kernel
theorem dX6_frameTicks_8 : decode cX6_frameTicks 8 = .ok (.goto 14, 3) := by decide +kernel
theorem dX6_frameTicks_11 : decode cX6_frameTicks 11 = .ok (.aload_n 0, 1) := by decide +kernel
theorem dX6_frameTicks_12 : decode cX6_frameTicks 12 = .ok (.getfield 30, 3) := by decide +kernel
theorem dX6_frameTicks_15 : decode cX6_frameTicks 15 = .ok (.aload_n 0, 1) := by decide +kernel
theorem dX6_frameTicks_16 : decode cX6_frameTicks 16 = .ok (.getfield 69, 3) := by decide +kernel
theorem dX6_frameTicks_19 : decode cX6_frameTicks 19 = .ok (.iconst 1, 1) := by decide +kernel
theorem dX6_frameTicks_20 : decode cX6_frameTicks 20 = .ok (.isub, 1) := by decide +kernel
theorem dX6_frameTicks_21 : decode cX6_frameTicks 21 = .ok (.iaload, 1) := by decide +kernel
theorem dX6_frameTicks_22 : decode cX6_frameTicks 22 = .ok (.ireturn, 1) := by decide +kernel
def wb_X6_frameTicks_22  (S : q_S) (xs0 : Int32) (Q : Option Value → q_S → Prop) : Prop := Q (some (.int xs0)) S
set_option maxHeartbeats 4000000 in
set_option maxRecDepth 100000 in
theorem cb_X6_frameTicks_22 {p : Program} {l : Launch} {e : Env} {s : State} {m : MethodId} {args : Array Value} {below : List Frame} {meth : Method} {c : Code} {D : va_G} {cy : Nat → ClassId} {lo : Nat}  {S : q_S} {xs0 : Int32} {Q : Option Value → q_S → Prop} {H : Heap} {locs : List Loc} {ls : Array Slot} (X : q_X p s m args meth c RX6 cX6_frameTicks 1 (some .int) D cy lo)  (Y : q_Y D cy lo s S H locs) (hl : lv_has ls 1 []) (h : wb_X6_frameTicks_22 S xs0 Q) : W p l e ({ frames := 0, cells := 0, slots := 0, locals := 0 } : Room) s m args below meth c H locs 0 0 (MQ below (q_Q D cy lo Q) args s 0 0 (fun q => lo ≤ q)) (F0 m 22 ls [.int xs0]) := by
  have hx := X.1
  have hb := X.2.1
  unfold wb_X6_frameTicks_22 at h
  exact q_iret X Y rfl (Nat.le_refl _) (Nat.le_refl _) h dX6_frameTicks_22
def wm_X6_frameTicks (S : q_S) (a0 : Nat) (Q : Option Value → q_S → Prop) : Prop := q_K S a0 = 7 ∧ (((¬ (q_I S 1209 a0) = 0 → (∃ a3_ : Nat, (q_P S 1208 a0) = some a3_ ∧ (q_K S a3_ = 21 ∧ (vp_in ((q_I S 1209 a0) - (1 : Int32)) (q_N S a3_) ∧ (wb_X6_frameTicks_22 S (q_A S a3_ ((q_I S 1209 a0) - (1 : Int32)).toNatClampNeg) Q))))) ∧ ((q_I S 1209 a0) = 0 → (wb_X6_frameTicks_22 S (0 : Int32) Q))))
set_option maxHeartbeats 4000000 in
set_option maxRecDepth 100000 in
theorem cm_X6_frameTicks {l : Launch} {D : va_G} {cy : Nat → ClassId} {lo : Nat} {S : q_S} {a0 : Nat} {Q : Option Value → q_S → Prop} (h : wm_X6_frameTicks S a0 Q) : q_Met l D cy lo yX6_frameTicks cX6_frameTicks 1 (some .int) 0 0 0 0 [.ref a0] S Q := by
  refine q_body (by decide) (by first | exact Nat.le_of_ble_eq_true rfl | simp [lg_sl, q_cat, q_catI, q_catJ, q_catR]) ?_
  intro p e s m below meth c ls X hnm Y hl
  have hx := X.1
  have hb := X.2.1
  have hl : lv_has ls 1 [(0, .ref a0)] := by first | exact hl | simpa [lv_args, q_cat, q_catI, q_catJ, q_catR] using hl
  generalize hargs : ([.ref a0] : List Value).toArray = args at X ⊢
  unfold wm_X6_frameTicks at h
  refine lv_aload_n hx hb dX6_frameTicks_0 rfl (lv_at hl 0 rfl) ?_
  obtain ⟨k1_, h⟩ := h
  refine q_getI X Y kX6 9 rfl fl_X6_69 k1_ dX6_frameTicks_1 ?_
  refine lv_if_ne (tgt := 11) hx hb dX6_frameTicks_4 (by decide) (fun c2_ => ?_) (fun c2_ => ?_)
  · replace h := h.1 c2_
    refine lv_aload_n hx hb dX6_frameTicks_11 rfl (lv_at hl 0 rfl) ?_
    refine q_getP X Y kX6 8 rfl fl_X6_30 k1_ rfl dX6_frameTicks_12 ?_
    refine lv_aload_n hx hb dX6_frameTicks_15 rfl (lv_at hl 0 rfl) ?_
    refine q_getI X Y kX6 9 rfl fl_X6_69 k1_ dX6_frameTicks_16 ?_
    refine lv_iconst (v := 1) hx hb dX6_frameTicks_19 (by decide) ?_
    refine lv_isub hx hb dX6_frameTicks_20 ?_
    obtain ⟨a3_, e4_, h⟩ := h
    refine q_nn [.int ((q_I S 1209 a0) - (1 : Int32))] e4_ ?_
    obtain ⟨k5_, h⟩ := h
    obtain ⟨i6_, h⟩ := h
    refine q_ild X Y k5_ i6_ dX6_frameTicks_21 ?_
    exact cb_X6_frameTicks_22 X Y (lv_sub hl [] rfl) h
  · replace h := h.2 c2_
    refine lv_iconst (v := 0) hx hb dX6_frameTicks_7 (by decide) ?_
    refine lv_goto (tgt := 22) hx hb dX6_frameTicks_8 (by decide) ?_
    exact cb_X6_frameTicks_22 X Y (lv_sub hl [] rfl) h
-- X6_tickOfFrame
theorem ml_X6_90 : Cond.methodLink RX6 90 yX6_frameTicks ∈ q_G := q_tb (i := 454) (by decide +kernel) (by decide +kernel)
theorem mt_X6_frameTicks : q_Mt yX6_frameTicks cX6_frameTicks 1 (some .int) 0 := ⟨q_tb (i := 457) (by decide +kernel) (by decide +kernel), q_tb (i := 3) (by decide +kernel) (by decide +kernel), by decide +kernel, by decide +kernel, by decide +kernel⟩
theorem mi_X6_frameTicks : Cond.instanceMethod yX6_frameTicks ∈ q_G ∧ Cond.selects yX6_frameTicks.cls yX6_frameTicks yX6_frameTicks ∈ q_G := ⟨q_tb (i := 455) (by decide +kernel) (by decide +kernel), q_tb (i := 456) (by decide +kernel) (by decide +kernel)⟩
theorem dX6_tickOfFrame_0 : decode cX6_tickOfFrame 0 = .ok (.aload_n 0, 1) := by decide +kernel
theorem dX6_tickOfFrame_1 : decode cX6_tickOfFrame 1 = .ok (.invokevirtual 90, 3) := by decide +kernel
theorem dX6_tickOfFrame_4 : decode cX6_tickOfFrame 4 = .ok (.istore_n 1, 1) := by decide +kernel
theorem dX6_tickOfFrame_5 : decode cX6_tickOfFrame 5 = .ok (.iload_n 1, 1) := by decide +kernel
theorem dX6_tickOfFrame_6 : decode cX6_tickOfFrame 6 = .ok (.ifCond .gt 7, 3) := by decide +kernel
theorem dX6_tickOfFrame_9 : decode cX6_tickOfFrame 9 = .ok (.iconst 0, 1) := by decide +kernel
theorem dX6_tickOfFrame_10 : decode cX6_tickOfFrame 10 = .ok (.goto 9, 3) := by decide +kernel
theorem dX6_tickOfFrame_13 : decode cX6_tickOfFrame 13 = .ok (.aload_n 0, 1) := by decide +kernel
theorem dX6_tickOfFrame_14 : decode cX6_tickOfFrame 14 = .ok (.getfield 43, 3) := by decide +kernel
theorem dX6_tickOfFrame_17 : decode cX6_tickOfFrame 17 = .ok (.iload_n 1, 1) := by decide +kernel
theorem dX6_tickOfFrame_18 : decode cX6_tickOfFrame 18 = .ok (.irem, 1) := by decide +kernel
theorem dX6_tickOfFrame_19 : decode cX6_tickOfFrame 19 = .ok (.ireturn, 1) := by decide +kernel
def wb_X6_tickOfFrame_19  (S : q_S) (xs0 : Int32) (Q : Option Value → q_S → Prop) : Prop := Q (some (.int xs0)) S
set_option maxHeartbeats 4000000 in
set_option maxRecDepth 100000 in
theorem cb_X6_tickOfFrame_19 {p : Program} {l : Launch} {e : Env} {s : State} {m : MethodId} {args : Array Value} {below : List Frame} {meth : Method} {c : Code} {D : va_G} {cy : Nat → ClassId} {lo : Nat}  {S : q_S} {xs0 : Int32} {Q : Option Value → q_S → Prop} {H : Heap} {locs : List Loc} {ls : Array Slot} (X : q_X p s m args meth c RX6 cX6_tickOfFrame 2 (some .int) D cy lo)  (Y : q_Y D cy lo s S H locs) (hl : lv_has ls 2 []) (h : wb_X6_tickOfFrame_19 S xs0 Q) : W p l e ({ frames := 1, cells := 0, slots := 0, locals := 20 } : Room) s m args below meth c H locs 0 0 (MQ below (q_Q D cy lo Q) args s 0 0 (fun q => lo ≤ q)) (F0 m 19 ls [.int xs0]) := by
  have hx := X.1
  have hb := X.2.1
  unfold wb_X6_tickOfFrame_19 at h
  exact q_iret X Y rfl (Nat.le_refl _) (Nat.le_refl _) h dX6_tickOfFrame_19
def wm_X6_tickOfFrame (S : q_S) (a0 : Nat) (Q : Option Value → q_S → Prop) : Prop := q_K S a0 = 7 ∧ (wm_X6_frameTicks S a0 (fun r2_ S3_ => ∃ x4_ : Int32, r2_ = some (.int x4_) ∧ (((0 < x4_ → (q_K S3_ a0 = 7 ∧ ((¬ x4_ = 0) ∧ (wb_X6_tickOfFrame_19 S3_ ((q_I S3_ 1211 a0) - (q_I S3_ 1211 a0) / x4_ * x4_) Q)))) ∧ (¬ 0 < x4_ → (wb_X6_tickOfFrame_19 S3_ (0 : Int32) Q))))))
set_option maxHeartbeats 4000000 in
set_option maxRecDepth 100000 in
theorem cm_X6_tickOfFrame {l : Launch} {D : va_G} {cy : Nat → ClassId} {lo : Nat} {S : q_S} {a0 : Nat} {Q : Option Value → q_S → Prop} (h : wm_X6_tickOfFrame S a0 Q) : q_Met l D cy lo yX6_tickOfFrame cX6_tickOfFrame 2 (some .int) 1 20 0 0 [.ref a0] S Q := by
  refine q_body (by decide) (by first | exact Nat.le_of_ble_eq_true rfl | simp [lg_sl, q_cat, q_catI, q_catJ, q_catR]) ?_
  intro p e s m below meth c ls X hnm Y hl
  have hx := X.1
  have hb := X.2.1
  have hl : lv_has ls 2 [(0, .ref a0)] := by first | exact hl | simpa [lv_args, q_cat, q_catI, q_catJ, q_catR] using hl
  generalize hargs : ([.ref a0] : List Value).toArray = args at X ⊢
  unfold wm_X6_tickOfFrame at h
  refine lv_aload_n hx hb dX6_tickOfFrame_0 rfl (lv_at hl 0 rfl) ?_
  obtain ⟨k1_, h⟩ := h
  refine q_callV X Y hl (cm_X6_frameTicks h) mt_X6_frameTicks mi_X6_frameTicks ml_X6_90 (ci := 6) rfl k1_ (by decide) rfl rfl (by first | exact Nat.le_of_ble_eq_true rfl | simp [q_cat, q_catI, q_catJ, q_catR]) ⟨Nat.le_of_ble_eq_true rfl, Nat.le_of_ble_eq_true rfl⟩ ⟨Nat.le_of_ble_eq_true rfl, Nat.le_of_ble_eq_true rfl⟩ dX6_tickOfFrame_1 (fun r2_ S3_ H locs hp Y => ?_)
  obtain ⟨x4_, rfl, h⟩ := hp
  refine W.eq (g2 := F0 m 4 ls [.int x4_]) rfl ?_
  refine lv_istore_n (i := 1) (lv' := [(1, .int x4_), (0, .ref a0)]) hx hb dX6_tickOfFrame_4 rfl hl (by decide) (by first | rfl | simp [q_cat, q_catI, q_catJ, q_catR]) (fun ls hl => ?_)
  refine lv_iload_n hx hb dX6_tickOfFrame_5 rfl (lv_at hl 0 rfl) ?_
  refine lv_if_gt (tgt := 13) hx hb dX6_tickOfFrame_6 (by decide) (fun c5_ => ?_) (fun c5_ => ?_)
  · replace h := h.1 c5_
    refine lv_aload_n hx hb dX6_tickOfFrame_13 rfl (lv_at hl 1 rfl) ?_
    obtain ⟨k6_, h⟩ := h
    refine q_getI X Y kX6 11 rfl fl_X6_43 k6_ dX6_tickOfFrame_14 ?_
    refine lv_iload_n hx hb dX6_tickOfFrame_17 rfl (lv_at hl 0 rfl) ?_
    obtain ⟨z7_, h⟩ := h
    refine lv_irem hx hb dX6_tickOfFrame_18 z7_ ?_
    exact cb_X6_tickOfFrame_19 X Y (lv_sub hl [] rfl) h
  · replace h := h.2 c5_
    refine lv_iconst (v := 0) hx hb dX6_tickOfFrame_9 (by decide) ?_
    refine lv_goto (tgt := 19) hx hb dX6_tickOfFrame_10 (by decide) ?_
    exact cb_X6_tickOfFrame_19 X Y (lv_sub hl [] rfl) h
-- X6_windowNow
theorem ml_X6_114 : Cond.methodLink RX6 114 yX6_tickOfFrame ∈ q_G := q_tb (i := 450) (by decide +kernel) (by decide +kernel)
theorem mt_X6_tickOfFrame : q_Mt yX6_tickOfFrame cX6_tickOfFrame 2 (some .int) 0 := ⟨q_tb (i := 453) (by decide +kernel) (by decide +kernel), q_tb (i := 3) (by decide +kernel) (by decide +kernel), by decide +kernel, by decide +kernel, by decide +kernel⟩
theorem mi_X6_tickOfFrame : Cond.instanceMethod yX6_tickOfFrame ∈ q_G ∧ Cond.selects yX6_tickOfFrame.cls yX6_tickOfFrame yX6_tickOfFrame ∈ q_G := ⟨q_tb (i := 452) (by decide +kernel) (by decide +kernel), q_tp (i := 3) (q := (yX6_tickOfFrame, 15)) (by decide +kernel) (by decide +kernel)⟩
theorem dX6_windowNow_0 : decode cX6_windowNow 0 = .ok (.aload_n 0, 1) := by decide +kernel
theorem dX6_windowNow_1 : decode cX6_windowNow 1 = .ok (.invokevirtual 114, 3) := by decide +kernel
theorem dX6_windowNow_4 : decode cX6_windowNow 4 = .ok (.istore_n 1, 1) := by decide +kernel
theorem dX6_windowNow_5 : decode cX6_windowNow 5 = .ok (.iconst 0, 1) := by decide +kernel
theorem dX6_windowNow_6 : decode cX6_windowNow 6 = .ok (.istore_n 2, 1) := by decide +kernel
theorem dX6_windowNow_7 : decode cX6_windowNow 7 = .ok (.iload_n 2, 1) := by decide +kernel
theorem dX6_windowNow_8 : decode cX6_windowNow 8 = .ok (.aload_n 0, 1) := by decide +kernel
theorem dX6_windowNow_9 : decode cX6_windowNow 9 = .ok (.getfield 69, 3) := by decide +kernel
theorem dX6_windowNow_12 : decode cX6_windowNow 12 = .ok (.if_icmp .ge 21, 3) := by decide +kernel
theorem dX6_windowNow_15 : decode cX6_windowNow 15 = .ok (.iload_n 1, 1) := by decide +kernel
theorem dX6_windowNow_16 : decode cX6_windowNow 16 = .ok (.aload_n 0, 1) := by decide +kernel
theorem dX6_windowNow_17 : decode cX6_windowNow 17 = .ok (.getfield 30, 3) := by decide +kernel
theorem dX6_windowNow_20 : decode cX6_windowNow 20 = .ok (.iload_n 2, 1) := by decide +kernel
theorem dX6_windowNow_21 : decode cX6_windowNow 21 = .ok (.iaload, 1) := by decide +kernel
theorem dX6_windowNow_22 : decode cX6_windowNow 22 = .ok (.if_icmp .ge 5, 3) := by decide +kernel
theorem dX6_windowNow_25 : decode cX6_windowNow 25 = .ok (.iload_n 2, 1) := by decide +kernel
theorem dX6_windowNow_26 : decode cX6_windowNow 26 = .ok (.ireturn, 1) := by decide +kernel
theorem dX6_windowNow_27 : decode cX6_windowNow 27 = .ok (.iinc 2 1, 3) := by decide +kernel
theorem dX6_windowNow_30 : decode cX6_windowNow 30 = .ok (.goto (-23), 3) := by decide +kernel
theorem dX6_windowNow_33 : decode cX6_windowNow 33 = .ok (.iconst (-1), 1) := by decide +kernel
theorem dX6_windowNow_34 : decode cX6_windowNow 34 = .ok (.ireturn, 1) := by decide +kernel
def wb_X6_windowNow_7 (B7 : q_S → Nat → Int32 → Int32 → Prop) (S : q_S) (a0 : Nat) (x1 : Int32) (x2 : Int32) (Q : Option Value → q_S → Prop) : Prop := q_K S a0 = 7 ∧ ((((q_I S 1209 a0) ≤ x2 → (Q (some (.int (-1 : Int32))) S)) ∧ (¬ (q_I S 1209 a0) ≤ x2 → (∃ a3_ : Nat, (q_P S 1208 a0) = some a3_ ∧ (q_K S a3_ = 21 ∧ (vp_in x2 (q_N S a3_) ∧ ((((q_A S a3_ x2.toNatClampNeg) ≤ x1 → (B7 S a0 x1 (x2 + 1))) ∧ (¬ (q_A S a3_ x2.toNatClampNeg) ≤ x1 → (Q (some (.int x2)) S))))))))))
set_option maxHeartbeats 4000000 in
set_option maxRecDepth 100000 in
theorem cb_X6_windowNow_7 {p : Program} {l : Launch} {e : Env} {s : State} {m : MethodId} {args : Array Value} {below : List Frame} {meth : Method} {c : Code} {D : va_G} {cy : Nat → ClassId} {lo : Nat} {B7 : q_S → Nat → Int32 → Int32 → Prop} {S : q_S} {a0 : Nat} {x1 : Int32} {x2 : Int32} {Q : Option Value → q_S → Prop} {H : Heap} {locs : List Loc} {ls : Array Slot} (X : q_X p s m args meth c RX6 cX6_windowNow 3 (some .int) D cy lo) (hB7 : ∀ (S : q_S) (a0 : Nat) (x1 : Int32) (x2 : Int32) (H : Heap) (locs : List Loc) (ls : Array Slot), B7 S a0 x1 x2 → q_Y D cy lo s S H locs → lv_has ls 3 [(0, .ref a0), (1, .int x1), (2, .int x2)] → W p l e ({ frames := 2, cells := 0, slots := 0, locals := 41 } : Room) s m args below meth c H locs 0 0 (MQ below (q_Q D cy lo Q) args s 0 0 (fun q => lo ≤ q)) (F0 m 7 ls [])) (Y : q_Y D cy lo s S H locs) (hl : lv_has ls 3 [(0, .ref a0), (1, .int x1), (2, .int x2)]) (h : wb_X6_windowNow_7 B7 S a0 x1 x2 Q) : W p l e ({ frames := 2, cells := 0, slots := 0, locals := 41 } : Room) s m args below meth c H locs 0 0 (MQ below (q_Q D cy lo Q) args s 0 0 (fun q => lo ≤ q)) (F0 m 7 ls []) := by
  have hx := X.1
  have hb := X.2.1
  unfold wb_X6_windowNow_7 at h
  refine lv_iload_n hx hb dX6_windowNow_7 rfl (lv_at hl 2 rfl) ?_
  refine lv_aload_n hx hb dX6_windowNow_8 rfl (lv_at hl 0 rfl) ?_
  obtain ⟨k1_, h⟩ := h
  refine q_getI X Y kX6 9 rfl fl_X6_69 k1_ dX6_windowNow_9 ?_
  refine lv_icmp_ge (tgt := 33) hx hb dX6_windowNow_12 (by decide) (fun c2_ => ?_) (fun c2_ => ?_)
  · replace h := h.1 c2_
    refine lv_iconst (v := (-1)) hx hb dX6_windowNow_33 (by decide) ?_
    exact q_iret X Y rfl (Nat.le_refl _) (Nat.le_refl _) h dX6_windowNow_34
  · replace h := h.2 c2_
    refine lv_iload_n hx hb dX6_windowNow_15 rfl (lv_at hl 1 rfl) ?_
    refine lv_aload_n hx hb dX6_windowNow_16 rfl (lv_at hl 0 rfl) ?_
    refine q_getP X Y kX6 8 rfl fl_X6_30 k1_ rfl dX6_windowNow_17 ?_
    refine lv_iload_n hx hb dX6_windowNow_20 rfl (lv_at hl 2 rfl) ?_
    obtain ⟨a3_, e4_, h⟩ := h
    refine q_nn [.int x2] e4_ ?_
    obtain ⟨k5_, h⟩ := h
    obtain ⟨i6_, h⟩ := h
    refine q_ild X Y k5_ i6_ dX6_windowNow_21 ?_
    refine lv_icmp_ge (tgt := 27) hx hb dX6_windowNow_22 (by decide) (fun c7_ => ?_) (fun c7_ => ?_)
    · replace h := h.1 c7_
      refine lv_iinc (v := (x2 + 1)) (lv' := [(2, .int (x2 + 1)), (0, .ref a0), (1, .int x1)]) hx hb dX6_windowNow_27 hl (k := 2) rfl (by first | rfl | decide) (by decide) (by first | rfl | simp [q_cat, q_catI, q_catJ, q_catR]) (fun ls hl => ?_)
      refine lv_goto (tgt := 7) hx hb dX6_windowNow_30 (by decide) ?_
      exact hB7 _ _ _ _ _ _ _ h Y (lv_sub hl [1, 2, 0] rfl)
    · replace h := h.2 c7_
      refine lv_iload_n hx hb dX6_windowNow_25 rfl (lv_at hl 2 rfl) ?_
      exact q_iret X Y rfl (Nat.le_refl _) (Nat.le_refl _) h dX6_windowNow_26
def wl_X6_windowNow_7  : Nat → q_S → Nat → Int32 → Int32 → (Option Value → q_S → Prop) → Prop
  | 0, _, _, _, _, _ => False
  | n + 1, S, a0, x1, x2, Q => wb_X6_windowNow_7 (fun S a0 x1 x2 => wl_X6_windowNow_7 n S a0 x1 x2 Q) S a0 x1 x2 Q
set_option maxHeartbeats 4000000 in
set_option maxRecDepth 100000 in
theorem cl_X6_windowNow_7 {p : Program} {l : Launch} {e : Env} {s : State} {m : MethodId} {args : Array Value} {below : List Frame} {meth : Method} {c : Code} {D : va_G} {cy : Nat → ClassId} {lo : Nat}  {Q : Option Value → q_S → Prop} (X : q_X p s m args meth c RX6 cX6_windowNow 3 (some .int) D cy lo)  : ∀ (n : Nat) (S : q_S) (a0 : Nat) (x1 : Int32) (x2 : Int32) (H : Heap) (locs : List Loc) (ls : Array Slot), wl_X6_windowNow_7 n S a0 x1 x2 Q → q_Y D cy lo s S H locs → lv_has ls 3 [(0, .ref a0), (1, .int x1), (2, .int x2)] → W p l e ({ frames := 2, cells := 0, slots := 0, locals := 41 } : Room) s m args below meth c H locs 0 0 (MQ below (q_Q D cy lo Q) args s 0 0 (fun q => lo ≤ q)) (F0 m 7 ls []) := by
  intro n
  induction n with
  | zero => intro S a0 x1 x2 H locs ls h; exact absurd h id
  | succ n ih => intro S a0 x1 x2 H locs ls h Y hl; exact cb_X6_windowNow_7 X ih Y hl h
def wm_X6_windowNow (S : q_S) (a0 : Nat) (Q : Option Value → q_S → Prop) : Prop := q_K S a0 = 7 ∧ (wm_X6_tickOfFrame S a0 (fun r9_ S10_ => ∃ x11_ : Int32, r9_ = some (.int x11_) ∧ (∃ n12_ : Nat, wl_X6_windowNow_7 n12_ S10_ a0 x11_ (0 : Int32) Q)))
set_option maxHeartbeats 4000000 in
set_option maxRecDepth 100000 in
theorem cm_X6_windowNow {l : Launch} {D : va_G} {cy : Nat → ClassId} {lo : Nat} {S : q_S} {a0 : Nat} {Q : Option Value → q_S → Prop} (h : wm_X6_windowNow S a0 Q) : q_Met l D cy lo yX6_windowNow cX6_windowNow 3 (some .int) 2 41 0 0 [.ref a0] S Q := by
  refine q_body (by decide) (by first | exact Nat.le_of_ble_eq_true rfl | simp [lg_sl, q_cat, q_catI, q_catJ, q_catR]) ?_
  intro p e s m below meth c ls X hnm Y hl
  have hx := X.1
  have hb := X.2.1
  have hl : lv_has ls 3 [(0, .ref a0)] := by first | exact hl | simpa [lv_args, q_cat, q_catI, q_catJ, q_catR] using hl
  generalize hargs : ([.ref a0] : List Value).toArray = args at X ⊢
  unfold wm_X6_windowNow at h
  refine lv_aload_n hx hb dX6_windowNow_0 rfl (lv_at hl 0 rfl) ?_
  obtain ⟨k8_, h⟩ := h
  refine q_callV X Y hl (cm_X6_tickOfFrame h) mt_X6_tickOfFrame mi_X6_tickOfFrame ml_X6_114 (ci := 6) rfl k8_ (by decide) rfl rfl (by first | exact Nat.le_of_ble_eq_true rfl | simp [q_cat, q_catI, q_catJ, q_catR]) ⟨Nat.le_of_ble_eq_true rfl, Nat.le_of_ble_eq_true rfl⟩ ⟨Nat.le_of_ble_eq_true rfl, Nat.le_of_ble_eq_true rfl⟩ dX6_windowNow_1 (fun r9_ S10_ H locs hp Y => ?_)
  obtain ⟨x11_, rfl, h⟩ := hp
  refine W.eq (g2 := F0 m 4 ls [.int x11_]) rfl ?_
  refine lv_istore_n (i := 1) (lv' := [(1, .int x11_), (0, .ref a0)]) hx hb dX6_windowNow_4 rfl hl (by decide) (by first | rfl | simp [q_cat, q_catI, q_catJ, q_catR]) (fun ls hl => ?_)
  refine lv_iconst (v := 0) hx hb dX6_windowNow_5 (by decide) ?_
  refine lv_istore_n (i := 2) (lv' := [(2, .int (0 : Int32)), (1, .int x11_), (0, .ref a0)]) hx hb dX6_windowNow_6 rfl hl (by decide) (by first | rfl | simp [q_cat, q_catI, q_catJ, q_catR]) (fun ls hl => ?_)
  obtain ⟨n12_, h⟩ := h
  exact cl_X6_windowNow_7 X n12_ _ _ _ _ _ _ _ h Y (lv_sub hl [2, 1, 0] rfl)
-- X6_ticksLeft
theorem ml_X6_117 : Cond.methodLink RX6 117 yX6_windowNow ∈ q_G := q_tb (i := 446) (by decide +kernel) (by decide +kernel)
theorem mt_X6_windowNow : q_Mt yX6_windowNow cX6_windowNow 3 (some .int) 0 := ⟨q_tb (i := 449) (by decide +kernel) (by decide +kernel), q_tb (i := 3) (by decide +kernel) (by decide +kernel), by decide +kernel, by decide +kernel, by decide +kernel⟩
theorem mi_X6_windowNow : Cond.instanceMethod yX6_windowNow ∈ q_G ∧ Cond.selects yX6_windowNow.cls yX6_windowNow yX6_windowNow ∈ q_G := ⟨q_tb (i := 448) (by decide +kernel) (by decide +kernel), q_tp (i := 2) (q := (yX6_windowNow, 15)) (by decide +kernel) (by decide +kernel)⟩
theorem dX6_ticksLeft_0 : decode cX6_ticksLeft 0 = .ok (.aload_n 0, 1) := by decide +kernel
theorem dX6_ticksLeft_1 : decode cX6_ticksLeft 1 = .ok (.invokevirtual 117, 3) := by decide +kernel
theorem dX6_ticksLeft_4 : decode cX6_ticksLeft 4 = .ok (.istore_n 1, 1) := by decide +kernel
theorem dX6_ticksLeft_5 : decode cX6_ticksLeft 5 = .ok (.iload_n 1, 1) := by decide +kernel
theorem dX6_ticksLeft_6 : decode cX6_ticksLeft 6 = .ok (.iconst (-1), 1) := by decide +kernel
theorem dX6_ticksLeft_7 : decode cX6_ticksLeft 7 = .ok (.if_icmp .ne 7, 3) := by decide +kernel
theorem dX6_ticksLeft_10 : decode cX6_ticksLeft 10 = .ok (.iconst 0, 1) := by decide +kernel
theorem dX6_ticksLeft_11 : decode cX6_ticksLeft 11 = .ok (.goto 14, 3) := by decide +kernel
theorem dX6_ticksLeft_14 : decode cX6_ticksLeft 14 = .ok (.aload_n 0, 1) := by decide +kernel
theorem dX6_ticksLeft_15 : decode cX6_ticksLeft 15 = .ok (.getfield 30, 3) := by decide +kernel
theorem dX6_ticksLeft_18 : decode cX6_ticksLeft 18 = .ok (.iload_n 1, 1) := by decide +kernel
theorem dX6_ticksLeft_19 : decode cX6_ticksLeft 19 = .ok (.iaload, 1) := by decide +kernel
theorem dX6_ticksLeft_20 : decode cX6_ticksLeft 20 = .ok (.aload_n 0, 1) := by decide +kernel
theorem dX6_ticksLeft_21 : decode cX6_ticksLeft 21 = .ok (.invokevirtual 114, 3) := by decide +kernel
theorem dX6_ticksLeft_24 : decode cX6_ticksLeft 24 = .ok (.isub, 1) := by decide +kernel
theorem dX6_ticksLeft_25 : decode cX6_ticksLeft 25 = .ok (.ireturn, 1) := by decide +kernel
def wb_X6_ticksLeft_25  (S : q_S) (xs0 : Int32) (Q : Option Value → q_S → Prop) : Prop := Q (some (.int xs0)) S
set_option maxHeartbeats 4000000 in
set_option maxRecDepth 100000 in
theorem cb_X6_ticksLeft_25 {p : Program} {l : Launch} {e : Env} {s : State} {m : MethodId} {args : Array Value} {below : List Frame} {meth : Method} {c : Code} {D : va_G} {cy : Nat → ClassId} {lo : Nat}  {S : q_S} {xs0 : Int32} {Q : Option Value → q_S → Prop} {H : Heap} {locs : List Loc} {ls : Array Slot} (X : q_X p s m args meth c RX6 cX6_ticksLeft 2 (some .int) D cy lo)  (Y : q_Y D cy lo s S H locs) (hl : lv_has ls 2 []) (h : wb_X6_ticksLeft_25 S xs0 Q) : W p l e ({ frames := 3, cells := 0, slots := 0, locals := 63 } : Room) s m args below meth c H locs 0 0 (MQ below (q_Q D cy lo Q) args s 0 0 (fun q => lo ≤ q)) (F0 m 25 ls [.int xs0]) := by
  have hx := X.1
  have hb := X.2.1
  unfold wb_X6_ticksLeft_25 at h
  exact q_iret X Y rfl (Nat.le_refl _) (Nat.le_refl _) h dX6_ticksLeft_25
def wm_X6_ticksLeft (S : q_S) (a0 : Nat) (Q : Option Value → q_S → Prop) : Prop := q_K S a0 = 7 ∧ (wm_X6_windowNow S a0 (fun r2_ S3_ => ∃ x4_ : Int32, r2_ = some (.int x4_) ∧ (((¬ x4_ = (-1 : Int32) → (q_K S3_ a0 = 7 ∧ (∃ a7_ : Nat, (q_P S3_ 1208 a0) = some a7_ ∧ (q_K S3_ a7_ = 21 ∧ (vp_in x4_ (q_N S3_ a7_) ∧ (wm_X6_tickOfFrame S3_ a0 (fun r11_ S12_ => ∃ x13_ : Int32, r11_ = some (.int x13_) ∧ (wb_X6_ticksLeft_25 S12_ ((q_A S3_ a7_ x4_.toNatClampNeg) - x13_) Q)))))))) ∧ (x4_ = (-1 : Int32) → (wb_X6_ticksLeft_25 S3_ (0 : Int32) Q))))))
set_option maxHeartbeats 4000000 in
set_option maxRecDepth 100000 in
theorem cm_X6_ticksLeft {l : Launch} {D : va_G} {cy : Nat → ClassId} {lo : Nat} {S : q_S} {a0 : Nat} {Q : Option Value → q_S → Prop} (h : wm_X6_ticksLeft S a0 Q) : q_Met l D cy lo yX6_ticksLeft cX6_ticksLeft 2 (some .int) 3 63 0 0 [.ref a0] S Q := by
  refine q_body (by decide) (by first | exact Nat.le_of_ble_eq_true rfl | simp [lg_sl, q_cat, q_catI, q_catJ, q_catR]) ?_
  intro p e s m below meth c ls X hnm Y hl
  have hx := X.1
  have hb := X.2.1
  have hl : lv_has ls 2 [(0, .ref a0)] := by first | exact hl | simpa [lv_args, q_cat, q_catI, q_catJ, q_catR] using hl
  generalize hargs : ([.ref a0] : List Value).toArray = args at X ⊢
  unfold wm_X6_ticksLeft at h
  refine lv_aload_n hx hb dX6_ticksLeft_0 rfl (lv_at hl 0 rfl) ?_
  obtain ⟨k1_, h⟩ := h
  refine q_callV X Y hl (cm_X6_windowNow h) mt_X6_windowNow mi_X6_windowNow ml_X6_117 (ci := 6) rfl k1_ (by decide) rfl rfl (by first | exact Nat.le_of_ble_eq_true rfl | simp [q_cat, q_catI, q_catJ, q_catR]) ⟨Nat.le_of_ble_eq_true rfl, Nat.le_of_ble_eq_true rfl⟩ ⟨Nat.le_of_ble_eq_true rfl, Nat.le_of_ble_eq_true rfl⟩ dX6_ticksLeft_1 (fun r2_ S3_ H locs hp Y => ?_)
  obtain ⟨x4_, rfl, h⟩ := hp
  refine W.eq (g2 := F0 m 4 ls [.int x4_]) rfl ?_
  refine lv_istore_n (i := 1) (lv' := [(1, .int x4_), (0, .ref a0)]) hx hb dX6_ticksLeft_4 rfl hl (by decide) (by first | rfl | simp [q_cat, q_catI, q_catJ, q_catR]) (fun ls hl => ?_)
  refine lv_iload_n hx hb dX6_ticksLeft_5 rfl (lv_at hl 0 rfl) ?_
  refine lv_iconst (v := (-1)) hx hb dX6_ticksLeft_6 (by decide) ?_
  refine lv_icmp_ne (tgt := 14) hx hb dX6_ticksLeft_7 (by decide) (fun c5_ => ?_) (fun c5_ => ?_)
  · replace h := h.1 c5_
    refine lv_aload_n hx hb dX6_ticksLeft_14 rfl (lv_at hl 1 rfl) ?_
    obtain ⟨k6_, h⟩ := h
    refine q_getP X Y kX6 8 rfl fl_X6_30 k6_ rfl dX6_ticksLeft_15 ?_
    refine lv_iload_n hx hb dX6_ticksLeft_18 rfl (lv_at hl 0 rfl) ?_
    obtain ⟨a7_, e8_, h⟩ := h
    refine q_nn [.int x4_] e8_ ?_
    obtain ⟨k9_, h⟩ := h
    obtain ⟨i10_, h⟩ := h
    refine q_ild X Y k9_ i10_ dX6_ticksLeft_19 ?_
    refine lv_aload_n hx hb dX6_ticksLeft_20 rfl (lv_at hl 1 rfl) ?_
    refine q_callV X Y hl (cm_X6_tickOfFrame h) mt_X6_tickOfFrame mi_X6_tickOfFrame ml_X6_114 (ci := 6) rfl k6_ (by decide) rfl rfl (by first | exact Nat.le_of_ble_eq_true rfl | simp [q_cat, q_catI, q_catJ, q_catR]) ⟨Nat.le_of_ble_eq_true rfl, Nat.le_of_ble_eq_true rfl⟩ ⟨Nat.le_of_ble_eq_true rfl, Nat.le_of_ble_eq_true rfl⟩ dX6_ticksLeft_21 (fun r11_ S12_ H locs hp Y => ?_)
    obtain ⟨x13_, rfl, h⟩ := hp
    refine W.eq (g2 := F0 m 24 ls [.int x13_, .int (q_A S3_ a7_ x4_.toNatClampNeg)]) rfl ?_
    refine lv_isub hx hb dX6_ticksLeft_24 ?_
    exact cb_X6_ticksLeft_25 X Y (lv_sub hl [] rfl) h
  · replace h := h.2 c5_
    refine lv_iconst (v := 0) hx hb dX6_ticksLeft_10 (by decide) ?_
    refine lv_goto (tgt := 25) hx hb dX6_ticksLeft_11 (by decide) ?_
    exact cb_X6_ticksLeft_25 X Y (lv_sub hl [] rfl) h
-- X6_ticksBetween
theorem fl_X6_27 : Cond.fieldLink RX6 27 "PartitionWorks$Plan" "windows" "[I" ∈ q_G := q_tb (i := 90) (by decide +kernel) (by decide +kernel)
theorem dX6_ticksBetween_0 : decode cX6_ticksBetween 0 = .ok (.aload_n 0, 1) := by decide +kernel
theorem dX6_ticksBetween_1 : decode cX6_ticksBetween 1 = .ok (.invokevirtual 117, 3) := by decide +kernel
theorem dX6_ticksBetween_4 : decode cX6_ticksBetween 4 = .ok (.istore_n 1, 1) := by decide +kernel
theorem dX6_ticksBetween_5 : decode cX6_ticksBetween 5 = .ok (.iconst 0, 1) := by decide +kernel
theorem dX6_ticksBetween_6 : decode cX6_ticksBetween 6 = .ok (.istore_n 2, 1) := by decide +kernel
theorem dX6_ticksBetween_7 : decode cX6_ticksBetween 7 = .ok (.iconst 1, 1) := by decide +kernel
theorem dX6_ticksBetween_8 : decode cX6_ticksBetween 8 = .ok (.istore_n 3, 1) := by decide +kernel
theorem dX6_ticksBetween_9 : decode cX6_ticksBetween 9 = .ok (.iload_n 3, 1) := by decide +kernel
theorem dX6_ticksBetween_10 : decode cX6_ticksBetween 10 = .ok (.aload_n 0, 1) := by decide +kernel
theorem dX6_ticksBetween_11 : decode cX6_ticksBetween 11 = .ok (.getfield 69, 3) := by decide +kernel
theorem dX6_ticksBetween_14 : decode cX6_ticksBetween 14 = .ok (.if_icmp .ge 71, 3) := by decide +kernel
theorem dX6_ticksBetween_17 : decode cX6_ticksBetween 17 = .ok (.iload_n 1, 1) := by decide +kernel
theorem dX6_ticksBetween_18 : decode cX6_ticksBetween 18 = .ok (.iconst (-1), 1) := by decide +kernel
theorem dX6_ticksBetween_19 : decode cX6_ticksBetween 19 = .ok (.if_icmp .eq 66, 3) := by decide +kernel
theorem dX6_ticksBetween_22 : decode cX6_ticksBetween 22 = .ok (.iload_n 1, 1) := by decide +kernel
theorem dX6_ticksBetween_23 : decode cX6_ticksBetween 23 = .ok (.iload_n 3, 1) := by decide +kernel
theorem dX6_ticksBetween_24 : decode cX6_ticksBetween 24 = .ok (.iadd, 1) := by decide +kernel
theorem dX6_ticksBetween_25 : decode cX6_ticksBetween 25 = .ok (.aload_n 0, 1) := by decide +kernel
theorem dX6_ticksBetween_26 : decode cX6_ticksBetween 26 = .ok (.getfield 69, 3) := by decide +kernel
theorem dX6_ticksBetween_29 : decode cX6_ticksBetween 29 = .ok (.irem, 1) := by decide +kernel
theorem dX6_ticksBetween_30 : decode cX6_ticksBetween 30 = .ok (.istore 4, 2) := by decide +kernel
theorem dX6_ticksBetween_32 : decode cX6_ticksBetween 32 = .ok (.aload_n 0, 1) := by decide +kernel
theorem dX6_ticksBetween_33 : decode cX6_ticksBetween 33 = .ok (.getfield 27, 3) := by decide +kernel
theorem dX6_ticksBetween_36 : decode cX6_ticksBetween 36 = .ok (.iload 4, 2) := by decide +kernel
theorem dX6_ticksBetween_38 : decode cX6_ticksBetween 38 = .ok (.iaload, 1) := by decide +kernel
theorem dX6_ticksBetween_39 : decode cX6_ticksBetween 39 = .ok (.aload_n 0, 1) := by decide +kernel
theorem dX6_ticksBetween_40 : decode cX6_ticksBetween 40 = .ok (.getfield 27, 3) := by decide +kernel
theorem dX6_ticksBetween_43 : decode cX6_ticksBetween 43 = .ok (.iload_n 1, 1) := by decide +kernel
theorem dX6_ticksBetween_44 : decode cX6_ticksBetween 44 = .ok (.iaload, 1) := by decide +kernel
theorem dX6_ticksBetween_45 : decode cX6_ticksBetween 45 = .ok (.if_icmp .ne 5, 3) := by decide +kernel
theorem dX6_ticksBetween_48 : decode cX6_ticksBetween 48 = .ok (.iload_n 2, 1) := by decide +kernel
theorem dX6_ticksBetween_49 : decode cX6_ticksBetween 49 = .ok (.ireturn, 1) := by decide +kernel
theorem dX6_ticksBetween_50 : decode cX6_ticksBetween 50 = .ok (.iload_n 2, 1) := by decide +kernel
theorem dX6_ticksBetween_51 : decode cX6_ticksBetween 51 = .ok (.aload_n 0, 1) := by decide +kernel
theorem dX6_ticksBetween_52 : decode cX6_ticksBetween 52 = .ok (.getfield 30, 3) := by decide +kernel
theorem dX6_ticksBetween_55 : decode cX6_ticksBetween 55 = .ok (.iload 4, 2) := by decide +kernel
theorem dX6_ticksBetween_57 : decode cX6_ticksBetween 57 = .ok (.iaload, 1) := by decide +kernel
theorem dX6_ticksBetween_58 : decode cX6_ticksBetween 58 = .ok (.iload 4, 2) := by decide +kernel
theorem dX6_ticksBetween_60 : decode cX6_ticksBetween 60 = .ok (.ifCond .ne 7, 3) := by decide +kernel
theorem dX6_ticksBetween_63 : decode cX6_ticksBetween 63 = .ok (.iconst 0, 1) := by decide +kernel
theorem dX6_ticksBetween_64 : decode cX6_ticksBetween 64 = .ok (.goto 12, 3) := by decide +kernel
theorem dX6_ticksBetween_67 : decode cX6_ticksBetween 67 = .ok (.aload_n 0, 1) := by decide +kernel
theorem dX6_ticksBetween_68 : decode cX6_ticksBetween 68 = .ok (.getfield 30, 3) := by decide +kernel
theorem dX6_ticksBetween_71 : decode cX6_ticksBetween 71 = .ok (.iload 4, 2) := by decide +kernel
theorem dX6_ticksBetween_73 : decode cX6_ticksBetween 73 = .ok (.iconst 1, 1) := by decide +kernel
theorem dX6_ticksBetween_74 : decode cX6_ticksBetween 74 = .ok (.isub, 1) := by decide +kernel
theorem dX6_ticksBetween_75 : decode cX6_ticksBetween 75 = .ok (.iaload, 1) := by decide +kernel
theorem dX6_ticksBetween_76 : decode cX6_ticksBetween 76 = .ok (.isub, 1) := by decide +kernel
theorem dX6_ticksBetween_77 : decode cX6_ticksBetween 77 = .ok (.iadd, 1) := by decide +kernel
theorem dX6_ticksBetween_78 : decode cX6_ticksBetween 78 = .ok (.istore_n 2, 1) := by decide +kernel
theorem dX6_ticksBetween_79 : decode cX6_ticksBetween 79 = .ok (.iinc 3 1, 3) := by decide +kernel
theorem dX6_ticksBetween_82 : decode cX6_ticksBetween 82 = .ok (.goto (-73), 3) := by decide +kernel
theorem dX6_ticksBetween_85 : decode cX6_ticksBetween 85 = .ok (.iload_n 2, 1) := by decide +kernel
theorem dX6_ticksBetween_86 : decode cX6_ticksBetween 86 = .ok (.ireturn, 1) := by decide +kernel
def wb_X6_ticksBetween_76 (B9 : q_S → Nat → Int32 → Int32 → Int32 → Prop) (S : q_S) (a0 : Nat) (x1 : Int32) (x3 : Int32) (xs0 : Int32) (xs1 : Int32) (xs2 : Int32) (Q : Option Value → q_S → Prop) : Prop := B9 S a0 x1 (xs0 + (xs1 - xs2)) (x3 + 1)
set_option maxHeartbeats 4000000 in
set_option maxRecDepth 100000 in
theorem cb_X6_ticksBetween_76 {p : Program} {l : Launch} {e : Env} {s : State} {m : MethodId} {args : Array Value} {below : List Frame} {meth : Method} {c : Code} {D : va_G} {cy : Nat → ClassId} {lo : Nat} {B9 : q_S → Nat → Int32 → Int32 → Int32 → Prop} {S : q_S} {a0 : Nat} {x1 : Int32} {x3 : Int32} {xs0 : Int32} {xs1 : Int32} {xs2 : Int32} {Q : Option Value → q_S → Prop} {H : Heap} {locs : List Loc} {ls : Array Slot} (X : q_X p s m args meth c RX6 cX6_ticksBetween 5 (some .int) D cy lo) (hB9 : ∀ (S : q_S) (a0 : Nat) (x1 : Int32) (x2 : Int32) (x3 : Int32) (H : Heap) (locs : List Loc) (ls : Array Slot), B9 S a0 x1 x2 x3 → q_Y D cy lo s S H locs → lv_has ls 5 [(0, .ref a0), (1, .int x1), (2, .int x2), (3, .int x3)] → W p l e ({ frames := 3, cells := 0, slots := 0, locals := 63 } : Room) s m args below meth c H locs 0 0 (MQ below (q_Q D cy lo Q) args s 0 0 (fun q => lo ≤ q)) (F0 m 9 ls [])) (Y : q_Y D cy lo s S H locs) (hl : lv_has ls 5 [(0, .ref a0), (1, .int x1), (3, .int x3)]) (h : wb_X6_ticksBetween_76 B9 S a0 x1 x3 xs0 xs1 xs2 Q) : W p l e ({ frames := 3, cells := 0, slots := 0, locals := 63 } : Room) s m args below meth c H locs 0 0 (MQ below (q_Q D cy lo Q) args s 0 0 (fun q => lo ≤ q)) (F0 m 76 ls [.int xs2, .int xs1, .int xs0]) := by
  have hx := X.1
  have hb := X.2.1
  unfold wb_X6_ticksBetween_76 at h
  refine lv_isub hx hb dX6_ticksBetween_76 ?_
  refine lv_iadd hx hb dX6_ticksBetween_77 ?_
  refine lv_istore_n (i := 2) (lv' := [(2, .int (xs0 + (xs1 - xs2))), (0, .ref a0), (1, .int x1), (3, .int x3)]) hx hb dX6_ticksBetween_78 rfl hl (by decide) (by first | rfl | simp [q_cat, q_catI, q_catJ, q_catR]) (fun ls hl => ?_)
  refine lv_iinc (v := (x3 + 1)) (lv' := [(3, .int (x3 + 1)), (2, .int (xs0 + (xs1 - xs2))), (0, .ref a0), (1, .int x1)]) hx hb dX6_ticksBetween_79 hl (k := 3) rfl (by first | rfl | decide) (by decide) (by first | rfl | simp [q_cat, q_catI, q_catJ, q_catR]) (fun ls hl => ?_)
  refine lv_goto (tgt := 9) hx hb dX6_ticksBetween_82 (by decide) ?_
  exact hB9 _ _ _ _ _ _ _ _ h Y (lv_sub hl [2, 3, 1, 0] rfl)
def wb_X6_ticksBetween_85  (S : q_S) (x2 : Int32) (Q : Option Value → q_S → Prop) : Prop := Q (some (.int x2)) S
set_option maxHeartbeats 4000000 in
set_option maxRecDepth 100000 in
theorem cb_X6_ticksBetween_85 {p : Program} {l : Launch} {e : Env} {s : State} {m : MethodId} {args : Array Value} {below : List Frame} {meth : Method} {c : Code} {D : va_G} {cy : Nat → ClassId} {lo : Nat}  {S : q_S} {x2 : Int32} {Q : Option Value → q_S → Prop} {H : Heap} {locs : List Loc} {ls : Array Slot} (X : q_X p s m args meth c RX6 cX6_ticksBetween 5 (some .int) D cy lo)  (Y : q_Y D cy lo s S H locs) (hl : lv_has ls 5 [(2, .int x2)]) (h : wb_X6_ticksBetween_85 S x2 Q) : W p l e ({ frames := 3, cells := 0, slots := 0, locals := 63 } : Room) s m args below meth c H locs 0 0 (MQ below (q_Q D cy lo Q) args s 0 0 (fun q => lo ≤ q)) (F0 m 85 ls []) := by
  have hx := X.1
  have hb := X.2.1
  unfold wb_X6_ticksBetween_85 at h
  refine lv_iload_n hx hb dX6_ticksBetween_85 rfl (lv_at hl 0 rfl) ?_
  exact q_iret X Y rfl (Nat.le_refl _) (Nat.le_refl _) h dX6_ticksBetween_86
def wb_X6_ticksBetween_9 (B9 : q_S → Nat → Int32 → Int32 → Int32 → Prop) (S : q_S) (a0 : Nat) (x1 : Int32) (x2 : Int32) (x3 : Int32) (Q : Option Value → q_S → Prop) : Prop := q_K S a0 = 7 ∧ ((((q_I S 1209 a0) ≤ x3 → (wb_X6_ticksBetween_85 S x2 Q)) ∧ (¬ (q_I S 1209 a0) ≤ x3 → (((x1 = (-1 : Int32) → (wb_X6_ticksBetween_85 S x2 Q)) ∧ (¬ x1 = (-1 : Int32) → ((¬ (q_I S 1209 a0) = 0) ∧ (∃ a5_ : Nat, (q_P S 1207 a0) = some a5_ ∧ (q_K S a5_ = 21 ∧ (vp_in ((x1 + x3) - (x1 + x3) / (q_I S 1209 a0) * (q_I S 1209 a0)) (q_N S a5_) ∧ (vp_in x1 (q_N S a5_) ∧ (((¬ (q_A S a5_ ((x1 + x3) - (x1 + x3) / (q_I S 1209 a0) * (q_I S 1209 a0)).toNatClampNeg) = (q_A S a5_ x1.toNatClampNeg) → (∃ a11_ : Nat, (q_P S 1208 a0) = some a11_ ∧ (q_K S a11_ = 21 ∧ (vp_in ((x1 + x3) - (x1 + x3) / (q_I S 1209 a0) * (q_I S 1209 a0)) (q_N S a11_) ∧ (((¬ ((x1 + x3) - (x1 + x3) / (q_I S 1209 a0) * (q_I S 1209 a0)) = 0 → (vp_in (((x1 + x3) - (x1 + x3) / (q_I S 1209 a0) * (q_I S 1209 a0)) - (1 : Int32)) (q_N S a11_) ∧ (wb_X6_ticksBetween_76 B9 S a0 x1 x3 x2 (q_A S a11_ ((x1 + x3) - (x1 + x3) / (q_I S 1209 a0) * (q_I S 1209 a0)).toNatClampNeg) (q_A S a11_ (((x1 + x3) - (x1 + x3) / (q_I S 1209 a0) * (q_I S 1209 a0)) - (1 : Int32)).toNatClampNeg) Q))) ∧ (((x1 + x3) - (x1 + x3) / (q_I S 1209 a0) * (q_I S 1209 a0)) = 0 → (wb_X6_ticksBetween_76 B9 S a0 x1 x3 x2 (q_A S a11_ ((x1 + x3) - (x1 + x3) / (q_I S 1209 a0) * (q_I S 1209 a0)).toNatClampNeg) (0 : Int32) Q)))))))) ∧ ((q_A S a5_ ((x1 + x3) - (x1 + x3) / (q_I S 1209 a0) * (q_I S 1209 a0)).toNatClampNeg) = (q_A S a5_ x1.toNatClampNeg) → (Q (some (.int x2)) S)))))))))))))))
set_option maxHeartbeats 4000000 in
set_option maxRecDepth 100000 in
theorem cb_X6_ticksBetween_9 {p : Program} {l : Launch} {e : Env} {s : State} {m : MethodId} {args : Array Value} {below : List Frame} {meth : Method} {c : Code} {D : va_G} {cy : Nat → ClassId} {lo : Nat} {B9 : q_S → Nat → Int32 → Int32 → Int32 → Prop} {S : q_S} {a0 : Nat} {x1 : Int32} {x2 : Int32} {x3 : Int32} {Q : Option Value → q_S → Prop} {H : Heap} {locs : List Loc} {ls : Array Slot} (X : q_X p s m args meth c RX6 cX6_ticksBetween 5 (some .int) D cy lo) (hB9 : ∀ (S : q_S) (a0 : Nat) (x1 : Int32) (x2 : Int32) (x3 : Int32) (H : Heap) (locs : List Loc) (ls : Array Slot), B9 S a0 x1 x2 x3 → q_Y D cy lo s S H locs → lv_has ls 5 [(0, .ref a0), (1, .int x1), (2, .int x2), (3, .int x3)] → W p l e ({ frames := 3, cells := 0, slots := 0, locals := 63 } : Room) s m args below meth c H locs 0 0 (MQ below (q_Q D cy lo Q) args s 0 0 (fun q => lo ≤ q)) (F0 m 9 ls [])) (Y : q_Y D cy lo s S H locs) (hl : lv_has ls 5 [(0, .ref a0), (1, .int x1), (2, .int x2), (3, .int x3)]) (h : wb_X6_ticksBetween_9 B9 S a0 x1 x2 x3 Q) : W p l e ({ frames := 3, cells := 0, slots := 0, locals := 63 } : Room) s m args below meth c H locs 0 0 (MQ below (q_Q D cy lo Q) args s 0 0 (fun q => lo ≤ q)) (F0 m 9 ls []) := by
  have hx := X.1
  have hb := X.2.1
  unfold wb_X6_ticksBetween_9 at h
  refine lv_iload_n hx hb dX6_ticksBetween_9 rfl (lv_at hl 3 rfl) ?_
  refine lv_aload_n hx hb dX6_ticksBetween_10 rfl (lv_at hl 0 rfl) ?_
  obtain ⟨k1_, h⟩ := h
  refine q_getI X Y kX6 9 rfl fl_X6_69 k1_ dX6_ticksBetween_11 ?_
  refine lv_icmp_ge (tgt := 85) hx hb dX6_ticksBetween_14 (by decide) (fun c2_ => ?_) (fun c2_ => ?_)
  · replace h := h.1 c2_
    exact cb_X6_ticksBetween_85 X Y (lv_sub hl [2] rfl) h
  · replace h := h.2 c2_
    refine lv_iload_n hx hb dX6_ticksBetween_17 rfl (lv_at hl 1 rfl) ?_
    refine lv_iconst (v := (-1)) hx hb dX6_ticksBetween_18 (by decide) ?_
    refine lv_icmp_eq (tgt := 85) hx hb dX6_ticksBetween_19 (by decide) (fun c3_ => ?_) (fun c3_ => ?_)
    · replace h := h.1 c3_
      exact cb_X6_ticksBetween_85 X Y (lv_sub hl [2] rfl) h
    · replace h := h.2 c3_
      refine lv_iload_n hx hb dX6_ticksBetween_22 rfl (lv_at hl 1 rfl) ?_
      refine lv_iload_n hx hb dX6_ticksBetween_23 rfl (lv_at hl 3 rfl) ?_
      refine lv_iadd hx hb dX6_ticksBetween_24 ?_
      refine lv_aload_n hx hb dX6_ticksBetween_25 rfl (lv_at hl 0 rfl) ?_
      refine q_getI X Y kX6 9 rfl fl_X6_69 k1_ dX6_ticksBetween_26 ?_
      obtain ⟨z4_, h⟩ := h
      refine lv_irem hx hb dX6_ticksBetween_29 z4_ ?_
      refine lv_istore (i := 4) (lv' := [(4, .int ((x1 + x3) - (x1 + x3) / (q_I S 1209 a0) * (q_I S 1209 a0))), (0, .ref a0), (1, .int x1), (2, .int x2), (3, .int x3)]) hx hb dX6_ticksBetween_30 hl (by decide) (by first | rfl | simp [q_cat, q_catI, q_catJ, q_catR]) (fun ls hl => ?_)
      refine lv_aload_n hx hb dX6_ticksBetween_32 rfl (lv_at hl 1 rfl) ?_
      refine q_getP X Y kX6 7 rfl fl_X6_27 k1_ rfl dX6_ticksBetween_33 ?_
      refine lv_iload hx hb dX6_ticksBetween_36 (lv_at hl 0 rfl) ?_
      obtain ⟨a5_, e6_, h⟩ := h
      refine q_nn [.int ((x1 + x3) - (x1 + x3) / (q_I S 1209 a0) * (q_I S 1209 a0))] e6_ ?_
      obtain ⟨k7_, h⟩ := h
      obtain ⟨i8_, h⟩ := h
      refine q_ild X Y k7_ i8_ dX6_ticksBetween_38 ?_
      refine lv_aload_n hx hb dX6_ticksBetween_39 rfl (lv_at hl 1 rfl) ?_
      refine q_getR X Y kX6 7 rfl fl_X6_27 k1_ e6_ dX6_ticksBetween_40 ?_
      refine lv_iload_n hx hb dX6_ticksBetween_43 rfl (lv_at hl 2 rfl) ?_
      obtain ⟨i9_, h⟩ := h
      refine q_ild X Y k7_ i9_ dX6_ticksBetween_44 ?_
      refine lv_icmp_ne (tgt := 50) hx hb dX6_ticksBetween_45 (by decide) (fun c10_ => ?_) (fun c10_ => ?_)
      · replace h := h.1 c10_
        refine lv_iload_n hx hb dX6_ticksBetween_50 rfl (lv_at hl 3 rfl) ?_
        refine lv_aload_n hx hb dX6_ticksBetween_51 rfl (lv_at hl 1 rfl) ?_
        refine q_getP X Y kX6 8 rfl fl_X6_30 k1_ rfl dX6_ticksBetween_52 ?_
        refine lv_iload hx hb dX6_ticksBetween_55 (lv_at hl 0 rfl) ?_
        obtain ⟨a11_, e12_, h⟩ := h
        refine q_nn [.int ((x1 + x3) - (x1 + x3) / (q_I S 1209 a0) * (q_I S 1209 a0))] e12_ ?_
        obtain ⟨k13_, h⟩ := h
        obtain ⟨i14_, h⟩ := h
        refine q_ild X Y k13_ i14_ dX6_ticksBetween_57 ?_
        refine lv_iload hx hb dX6_ticksBetween_58 (lv_at hl 0 rfl) ?_
        refine lv_if_ne (tgt := 67) hx hb dX6_ticksBetween_60 (by decide) (fun c15_ => ?_) (fun c15_ => ?_)
        · replace h := h.1 c15_
          refine lv_aload_n hx hb dX6_ticksBetween_67 rfl (lv_at hl 1 rfl) ?_
          refine q_getR X Y kX6 8 rfl fl_X6_30 k1_ e12_ dX6_ticksBetween_68 ?_
          refine lv_iload hx hb dX6_ticksBetween_71 (lv_at hl 0 rfl) ?_
          refine lv_iconst (v := 1) hx hb dX6_ticksBetween_73 (by decide) ?_
          refine lv_isub hx hb dX6_ticksBetween_74 ?_
          obtain ⟨i16_, h⟩ := h
          refine q_ild X Y k13_ i16_ dX6_ticksBetween_75 ?_
          exact cb_X6_ticksBetween_76 X hB9 Y (lv_sub hl [1, 2, 4] rfl) h
        · replace h := h.2 c15_
          refine lv_iconst (v := 0) hx hb dX6_ticksBetween_63 (by decide) ?_
          refine lv_goto (tgt := 76) hx hb dX6_ticksBetween_64 (by decide) ?_
          exact cb_X6_ticksBetween_76 X hB9 Y (lv_sub hl [1, 2, 4] rfl) h
      · replace h := h.2 c10_
        refine lv_iload_n hx hb dX6_ticksBetween_48 rfl (lv_at hl 3 rfl) ?_
        exact q_iret X Y rfl (Nat.le_refl _) (Nat.le_refl _) h dX6_ticksBetween_49
def wl_X6_ticksBetween_9  : Nat → q_S → Nat → Int32 → Int32 → Int32 → (Option Value → q_S → Prop) → Prop
  | 0, _, _, _, _, _, _ => False
  | n + 1, S, a0, x1, x2, x3, Q => wb_X6_ticksBetween_9 (fun S a0 x1 x2 x3 => wl_X6_ticksBetween_9 n S a0 x1 x2 x3 Q) S a0 x1 x2 x3 Q
set_option maxHeartbeats 4000000 in
set_option maxRecDepth 100000 in
theorem cl_X6_ticksBetween_9 {p : Program} {l : Launch} {e : Env} {s : State} {m : MethodId} {args : Array Value} {below : List Frame} {meth : Method} {c : Code} {D : va_G} {cy : Nat → ClassId} {lo : Nat}  {Q : Option Value → q_S → Prop} (X : q_X p s m args meth c RX6 cX6_ticksBetween 5 (some .int) D cy lo)  : ∀ (n : Nat) (S : q_S) (a0 : Nat) (x1 : Int32) (x2 : Int32) (x3 : Int32) (H : Heap) (locs : List Loc) (ls : Array Slot), wl_X6_ticksBetween_9 n S a0 x1 x2 x3 Q → q_Y D cy lo s S H locs → lv_has ls 5 [(0, .ref a0), (1, .int x1), (2, .int x2), (3, .int x3)] → W p l e ({ frames := 3, cells := 0, slots := 0, locals := 63 } : Room) s m args below meth c H locs 0 0 (MQ below (q_Q D cy lo Q) args s 0 0 (fun q => lo ≤ q)) (F0 m 9 ls []) := by
  intro n
  induction n with
  | zero => intro S a0 x1 x2 x3 H locs ls h; exact absurd h id
  | succ n ih => intro S a0 x1 x2 x3 H locs ls h Y hl; exact cb_X6_ticksBetween_9 X ih Y hl h
def wm_X6_ticksBetween (S : q_S) (a0 : Nat) (Q : Option Value → q_S → Prop) : Prop := q_K S a0 = 7 ∧ (wm_X6_windowNow S a0 (fun r18_ S19_ => ∃ x20_ : Int32, r18_ = some (.int x20_) ∧ (∃ n21_ : Nat, wl_X6_ticksBetween_9 n21_ S19_ a0 x20_ (0 : Int32) (1 : Int32) Q)))
set_option maxHeartbeats 4000000 in
set_option maxRecDepth 100000 in
theorem cm_X6_ticksBetween {l : Launch} {D : va_G} {cy : Nat → ClassId} {lo : Nat} {S : q_S} {a0 : Nat} {Q : Option Value → q_S → Prop} (h : wm_X6_ticksBetween S a0 Q) : q_Met l D cy lo yX6_ticksBetween cX6_ticksBetween 5 (some .int) 3 63 0 0 [.ref a0] S Q := by
  refine q_body (by decide) (by first | exact Nat.le_of_ble_eq_true rfl | simp [lg_sl, q_cat, q_catI, q_catJ, q_catR]) ?_
  intro p e s m below meth c ls X hnm Y hl
  have hx := X.1
  have hb := X.2.1
  have hl : lv_has ls 5 [(0, .ref a0)] := by first | exact hl | simpa [lv_args, q_cat, q_catI, q_catJ, q_catR] using hl
  generalize hargs : ([.ref a0] : List Value).toArray = args at X ⊢
  unfold wm_X6_ticksBetween at h
  refine lv_aload_n hx hb dX6_ticksBetween_0 rfl (lv_at hl 0 rfl) ?_
  obtain ⟨k17_, h⟩ := h
  refine q_callV X Y hl (cm_X6_windowNow h) mt_X6_windowNow mi_X6_windowNow ml_X6_117 (ci := 6) rfl k17_ (by decide) rfl rfl (by first | exact Nat.le_of_ble_eq_true rfl | simp [q_cat, q_catI, q_catJ, q_catR]) ⟨Nat.le_of_ble_eq_true rfl, Nat.le_of_ble_eq_true rfl⟩ ⟨Nat.le_of_ble_eq_true rfl, Nat.le_of_ble_eq_true rfl⟩ dX6_ticksBetween_1 (fun r18_ S19_ H locs hp Y => ?_)
  obtain ⟨x20_, rfl, h⟩ := hp
  refine W.eq (g2 := F0 m 4 ls [.int x20_]) rfl ?_
  refine lv_istore_n (i := 1) (lv' := [(1, .int x20_), (0, .ref a0)]) hx hb dX6_ticksBetween_4 rfl hl (by decide) (by first | rfl | simp [q_cat, q_catI, q_catJ, q_catR]) (fun ls hl => ?_)
  refine lv_iconst (v := 0) hx hb dX6_ticksBetween_5 (by decide) ?_
  refine lv_istore_n (i := 2) (lv' := [(2, .int (0 : Int32)), (1, .int x20_), (0, .ref a0)]) hx hb dX6_ticksBetween_6 rfl hl (by decide) (by first | rfl | simp [q_cat, q_catI, q_catJ, q_catR]) (fun ls hl => ?_)
  refine lv_iconst (v := 1) hx hb dX6_ticksBetween_7 (by decide) ?_
  refine lv_istore_n (i := 3) (lv' := [(3, .int (1 : Int32)), (2, .int (0 : Int32)), (1, .int x20_), (0, .ref a0)]) hx hb dX6_ticksBetween_8 rfl hl (by decide) (by first | rfl | simp [q_cat, q_catI, q_catJ, q_catR]) (fun ls hl => ?_)
  obtain ⟨n21_, h⟩ := h
  exact cl_X6_ticksBetween_9 X n21_ _ _ _ _ _ _ _ _ h Y (lv_sub hl [3, 2, 1, 0] rfl)
-- X4_holds
theorem dX4_holds_0 : decode cX4_holds 0 = .ok (.iload_n 1, 1) := by decide +kernel
theorem dX4_holds_1 : decode cX4_holds 1 = .ok (.ifCond .lt 15, 3) := by decide +kernel
theorem dX4_holds_4 : decode cX4_holds 4 = .ok (.iload_n 1, 1) := by decide +kernel
theorem dX4_holds_5 : decode cX4_holds 5 = .ok (.aload_n 0, 1) := by decide +kernel
theorem dX4_holds_6 : decode cX4_holds 6 = .ok (.getfield 30, 3) := by decide +kernel
theorem dX4_holds_9 : decode cX4_holds 9 = .ok (.if_icmp .ge 7, 3) := by decide +kernel
theorem dX4_holds_12 : decode cX4_holds 12 = .ok (.iconst 1, 1) := by decide +kernel
theorem dX4_holds_13 : decode cX4_holds 13 = .ok (.goto 4, 3) := by decide +kernel
theorem dX4_holds_16 : decode cX4_holds 16 = .ok (.iconst 0, 1) := by decide +kernel
theorem dX4_holds_17 : decode cX4_holds 17 = .ok (.ireturn, 1) := by decide +kernel
def wb_X4_holds_17  (S : q_S) (xs0 : Int32) (Q : Option Value → q_S → Prop) : Prop := (narrow .boolean (.int xs0) = .int xs0 ∧ Q (some (.int xs0)) S)
set_option maxHeartbeats 4000000 in
set_option maxRecDepth 100000 in
theorem cb_X4_holds_17 {p : Program} {l : Launch} {e : Env} {s : State} {m : MethodId} {args : Array Value} {below : List Frame} {meth : Method} {c : Code} {D : va_G} {cy : Nat → ClassId} {lo : Nat}  {S : q_S} {xs0 : Int32} {Q : Option Value → q_S → Prop} {H : Heap} {locs : List Loc} {ls : Array Slot} (X : q_X p s m args meth c RX4 cX4_holds 2 (some .boolean) D cy lo)  (Y : q_Y D cy lo s S H locs) (hl : lv_has ls 2 []) (h : wb_X4_holds_17 S xs0 Q) : W p l e ({ frames := 0, cells := 0, slots := 0, locals := 0 } : Room) s m args below meth c H locs 0 0 (MQ below (q_Q D cy lo Q) args s 0 0 (fun q => lo ≤ q)) (F0 m 17 ls [.int xs0]) := by
  have hx := X.1
  have hb := X.2.1
  unfold wb_X4_holds_17 at h
  exact q_iret X Y h.1 (Nat.le_refl _) (Nat.le_refl _) h.2 dX4_holds_17
def wb_X4_holds_16  (S : q_S) (Q : Option Value → q_S → Prop) : Prop := wb_X4_holds_17 S (0 : Int32) Q
set_option maxHeartbeats 4000000 in
set_option maxRecDepth 100000 in
theorem cb_X4_holds_16 {p : Program} {l : Launch} {e : Env} {s : State} {m : MethodId} {args : Array Value} {below : List Frame} {meth : Method} {c : Code} {D : va_G} {cy : Nat → ClassId} {lo : Nat}  {S : q_S} {Q : Option Value → q_S → Prop} {H : Heap} {locs : List Loc} {ls : Array Slot} (X : q_X p s m args meth c RX4 cX4_holds 2 (some .boolean) D cy lo)  (Y : q_Y D cy lo s S H locs) (hl : lv_has ls 2 []) (h : wb_X4_holds_16 S Q) : W p l e ({ frames := 0, cells := 0, slots := 0, locals := 0 } : Room) s m args below meth c H locs 0 0 (MQ below (q_Q D cy lo Q) args s 0 0 (fun q => lo ≤ q)) (F0 m 16 ls []) := by
  have hx := X.1
  have hb := X.2.1
  unfold wb_X4_holds_16 at h
  refine lv_iconst (v := 0) hx hb dX4_holds_16 (by decide) ?_
  exact cb_X4_holds_17 X Y (lv_sub hl [] rfl) h
def wm_X4_holds (S : q_S) (a0 : Nat) (x1 : Int32) (Q : Option Value → q_S → Prop) : Prop := ((x1 < 0 → (wb_X4_holds_16 S Q)) ∧ (¬ x1 < 0 → (q_K S a0 = 5 ∧ ((((q_I S 800 a0) ≤ x1 → (wb_X4_holds_16 S Q)) ∧ (¬ (q_I S 800 a0) ≤ x1 → (wb_X4_holds_17 S (1 : Int32) Q)))))))
set_option maxHeartbeats 4000000 in
set_option maxRecDepth 100000 in
theorem cm_X4_holds {l : Launch} {D : va_G} {cy : Nat → ClassId} {lo : Nat} {S : q_S} {a0 : Nat} {x1 : Int32} {Q : Option Value → q_S → Prop} (h : wm_X4_holds S a0 x1 Q) : q_Met l D cy lo yX4_holds cX4_holds 2 (some .boolean) 0 0 0 0 [.ref a0, .int x1] S Q := by
  refine q_body (by decide) (by first | exact Nat.le_of_ble_eq_true rfl | simp [lg_sl, q_cat, q_catI, q_catJ, q_catR]) ?_
  intro p e s m below meth c ls X hnm Y hl
  have hx := X.1
  have hb := X.2.1
  have hl : lv_has ls 2 [(0, .ref a0), (1, .int x1)] := by first | exact hl | simpa [lv_args, q_cat, q_catI, q_catJ, q_catR] using hl
  generalize hargs : ([.ref a0, .int x1] : List Value).toArray = args at X ⊢
  unfold wm_X4_holds at h
  refine lv_iload_n hx hb dX4_holds_0 rfl (lv_at hl 1 rfl) ?_
  refine lv_if_lt (tgt := 16) hx hb dX4_holds_1 (by decide) (fun c1_ => ?_) (fun c1_ => ?_)
  · replace h := h.1 c1_
    exact cb_X4_holds_16 X Y (lv_sub hl [] rfl) h
  · replace h := h.2 c1_
    refine lv_iload_n hx hb dX4_holds_4 rfl (lv_at hl 1 rfl) ?_
    refine lv_aload_n hx hb dX4_holds_5 rfl (lv_at hl 0 rfl) ?_
    obtain ⟨k2_, h⟩ := h
    refine q_getI X Y kX4 0 rfl fl_X4_30 k2_ dX4_holds_6 ?_
    refine lv_icmp_ge (tgt := 16) hx hb dX4_holds_9 (by decide) (fun c3_ => ?_) (fun c3_ => ?_)
    · replace h := h.1 c3_
      exact cb_X4_holds_16 X Y (lv_sub hl [] rfl) h
    · replace h := h.2 c3_
      refine lv_iconst (v := 1) hx hb dX4_holds_12 (by decide) ?_
      refine lv_goto (tgt := 17) hx hb dX4_holds_13 (by decide) ?_
      exact cb_X4_holds_17 X Y (lv_sub hl [] rfl) h
-- X4_maskOf
theorem dX4_maskOf_0 : decode cX4_maskOf 0 = .ok (.iload_n 0, 1) := by decide +kernel
theorem dX4_maskOf_1 : decode cX4_maskOf 1 = .ok (.iconst 4, 1) := by decide +kernel
theorem dX4_maskOf_2 : decode cX4_maskOf 2 = .ok (.if_icmp .lt 7, 3) := by decide +kernel
theorem dX4_maskOf_5 : decode cX4_maskOf 5 = .ok (.iconst (-1), 1) := by decide +kernel
theorem dX4_maskOf_6 : decode cX4_maskOf 6 = .ok (.goto 11, 3) := by decide +kernel
theorem dX4_maskOf_9 : decode cX4_maskOf 9 = .ok (.iconst 1, 1) := by decide +kernel
theorem dX4_maskOf_10 : decode cX4_maskOf 10 = .ok (.bipush 8, 2) := by decide +kernel
theorem dX4_maskOf_12 : decode cX4_maskOf 12 = .ok (.iload_n 0, 1) := by decide +kernel
theorem dX4_maskOf_13 : decode cX4_maskOf 13 = .ok (.imul, 1) := by decide +kernel
theorem dX4_maskOf_14 : decode cX4_maskOf 14 = .ok (.ishl, 1) := by decide +kernel
theorem dX4_maskOf_15 : decode cX4_maskOf 15 = .ok (.iconst 1, 1) := by decide +kernel
theorem dX4_maskOf_16 : decode cX4_maskOf 16 = .ok (.isub, 1) := by decide +kernel
theorem dX4_maskOf_17 : decode cX4_maskOf 17 = .ok (.ireturn, 1) := by decide +kernel
def wb_X4_maskOf_17  (S : q_S) (xs0 : Int32) (Q : Option Value → q_S → Prop) : Prop := Q (some (.int xs0)) S
set_option maxHeartbeats 4000000 in
set_option maxRecDepth 100000 in
theorem cb_X4_maskOf_17 {p : Program} {l : Launch} {e : Env} {s : State} {m : MethodId} {args : Array Value} {below : List Frame} {meth : Method} {c : Code} {D : va_G} {cy : Nat → ClassId} {lo : Nat}  {S : q_S} {xs0 : Int32} {Q : Option Value → q_S → Prop} {H : Heap} {locs : List Loc} {ls : Array Slot} (X : q_X p s m args meth c RX4 cX4_maskOf 1 (some .int) D cy lo)  (Y : q_Y D cy lo s S H locs) (hl : lv_has ls 1 []) (h : wb_X4_maskOf_17 S xs0 Q) : W p l e ({ frames := 0, cells := 0, slots := 0, locals := 0 } : Room) s m args below meth c H locs 0 0 (MQ below (q_Q D cy lo Q) args s 0 0 (fun q => lo ≤ q)) (F0 m 17 ls [.int xs0]) := by
  have hx := X.1
  have hb := X.2.1
  unfold wb_X4_maskOf_17 at h
  exact q_iret X Y rfl (Nat.le_refl _) (Nat.le_refl _) h dX4_maskOf_17
def wm_X4_maskOf (S : q_S) (x0 : Int32) (Q : Option Value → q_S → Prop) : Prop := ((x0 < (4 : Int32) → (wb_X4_maskOf_17 S (((1 : Int32) <<< (((8 : Int32) * x0) &&& 31)) - (1 : Int32)) Q)) ∧ (¬ x0 < (4 : Int32) → (wb_X4_maskOf_17 S (-1 : Int32) Q)))
set_option maxHeartbeats 4000000 in
set_option maxRecDepth 100000 in
theorem cm_X4_maskOf {l : Launch} {D : va_G} {cy : Nat → ClassId} {lo : Nat} {S : q_S} {x0 : Int32} {Q : Option Value → q_S → Prop} (h : wm_X4_maskOf S x0 Q) : q_Met l D cy lo yX4_maskOf cX4_maskOf 1 (some .int) 0 0 0 0 [.int x0] S Q := by
  refine q_body (by decide) (by first | exact Nat.le_of_ble_eq_true rfl | simp [lg_sl, q_cat, q_catI, q_catJ, q_catR]) ?_
  intro p e s m below meth c ls X hnm Y hl
  have hx := X.1
  have hb := X.2.1
  have hl : lv_has ls 1 [(0, .int x0)] := by first | exact hl | simpa [lv_args, q_cat, q_catI, q_catJ, q_catR] using hl
  generalize hargs : ([.int x0] : List Value).toArray = args at X ⊢
  unfold wm_X4_maskOf at h
  refine lv_iload_n hx hb dX4_maskOf_0 rfl (lv_at hl 0 rfl) ?_
  refine lv_iconst (v := 4) hx hb dX4_maskOf_1 (by decide) ?_
  refine lv_icmp_lt (tgt := 9) hx hb dX4_maskOf_2 (by decide) (fun c1_ => ?_) (fun c1_ => ?_)
  · replace h := h.1 c1_
    refine lv_iconst (v := 1) hx hb dX4_maskOf_9 (by decide) ?_
    refine lv_bipush (v := 8) hx hb dX4_maskOf_10 (by decide) ?_
    refine lv_iload_n hx hb dX4_maskOf_12 rfl (lv_at hl 0 rfl) ?_
    refine lv_imul hx hb dX4_maskOf_13 ?_
    refine lv_ishl hx hb dX4_maskOf_14 ?_
    refine lv_iconst (v := 1) hx hb dX4_maskOf_15 (by decide) ?_
    refine lv_isub hx hb dX4_maskOf_16 ?_
    exact cb_X4_maskOf_17 X Y (lv_sub hl [] rfl) h
  · replace h := h.2 c1_
    refine lv_iconst (v := (-1)) hx hb dX4_maskOf_5 (by decide) ?_
    refine lv_goto (tgt := 17) hx hb dX4_maskOf_6 (by decide) ?_
    exact cb_X4_maskOf_17 X Y (lv_sub hl [] rfl) h
-- X4_partAt
theorem ml_X4_57 : Cond.methodLink RX4 57 yX4_holds ∈ q_G := q_tb (i := 1453) (by decide +kernel) (by decide +kernel)
theorem mt_X4_holds : q_Mt yX4_holds cX4_holds 2 (some .boolean) 1 := ⟨q_tb (i := 1456) (by decide +kernel) (by decide +kernel), q_tb (i := 21) (by decide +kernel) (by decide +kernel), by decide +kernel, by decide +kernel, by decide +kernel⟩
theorem mi_X4_holds : Cond.instanceMethod yX4_holds ∈ q_G ∧ Cond.selects yX4_holds.cls yX4_holds yX4_holds ∈ q_G := ⟨q_tb (i := 1454) (by decide +kernel) (by decide +kernel), q_tb (i := 1455) (by decide +kernel) (by decide +kernel)⟩
theorem ml_X4_61 : Cond.methodLink RX4 61 yX4_maskOf ∈ q_G := q_tb (i := 1457) (by decide +kernel) (by decide +kernel)
theorem mt_X4_maskOf : q_Mt yX4_maskOf cX4_maskOf 1 (some .int) 1 := ⟨q_tb (i := 1459) (by decide +kernel) (by decide +kernel), q_tb (i := 21) (by decide +kernel) (by decide +kernel), by decide +kernel, by decide +kernel, by decide +kernel⟩
theorem ms_X4_maskOf : Cond.static yX4_maskOf ∈ q_G := q_tb (i := 1458) (by decide +kernel) (by decide +kernel)
theorem dX4_partAt_0 : decode cX4_partAt 0 = .ok (.aload_n 0, 1) := by decide +kernel
theorem dX4_partAt_1 : decode cX4_partAt 1 = .ok (.iload_n 1, 1) := by decide +kernel
theorem dX4_partAt_2 : decode cX4_partAt 2 = .ok (.invokevirtual 57, 3) := by decide +kernel
theorem dX4_partAt_5 : decode cX4_partAt 5 = .ok (.ifCond .eq 26, 3) := by decide +kernel
theorem dX4_partAt_8 : decode cX4_partAt 8 = .ok (.aload_n 0, 1) := by decide +kernel
theorem dX4_partAt_9 : decode cX4_partAt 9 = .ok (.getfield 9, 3) := by decide +kernel
theorem dX4_partAt_12 : decode cX4_partAt 12 = .ok (.iload_n 1, 1) := by decide +kernel
theorem dX4_partAt_13 : decode cX4_partAt 13 = .ok (.iconst 2, 1) := by decide +kernel
theorem dX4_partAt_14 : decode cX4_partAt 14 = .ok (.ishr, 1) := by decide +kernel
theorem dX4_partAt_15 : decode cX4_partAt 15 = .ok (.iaload, 1) := by decide +kernel
theorem dX4_partAt_16 : decode cX4_partAt 16 = .ok (.bipush 8, 2) := by decide +kernel
theorem dX4_partAt_18 : decode cX4_partAt 18 = .ok (.iload_n 1, 1) := by decide +kernel
theorem dX4_partAt_19 : decode cX4_partAt 19 = .ok (.iconst 3, 1) := by decide +kernel
theorem dX4_partAt_20 : decode cX4_partAt 20 = .ok (.iand, 1) := by decide +kernel
theorem dX4_partAt_21 : decode cX4_partAt 21 = .ok (.imul, 1) := by decide +kernel
theorem dX4_partAt_22 : decode cX4_partAt 22 = .ok (.iushr, 1) := by decide +kernel
theorem dX4_partAt_23 : decode cX4_partAt 23 = .ok (.iload_n 2, 1) := by decide +kernel
theorem dX4_partAt_24 : decode cX4_partAt 24 = .ok (.invokestatic 61, 3) := by decide +kernel
theorem dX4_partAt_27 : decode cX4_partAt 27 = .ok (.iand, 1) := by decide +kernel
theorem dX4_partAt_28 : decode cX4_partAt 28 = .ok (.goto 4, 3) := by decide +kernel
theorem dX4_partAt_31 : decode cX4_partAt 31 = .ok (.iconst 0, 1) := by decide +kernel
theorem dX4_partAt_32 : decode cX4_partAt 32 = .ok (.ireturn, 1) := by decide +kernel
def wb_X4_partAt_32  (S : q_S) (xs0 : Int32) (Q : Option Value → q_S → Prop) : Prop := Q (some (.int xs0)) S
set_option maxHeartbeats 4000000 in
set_option maxRecDepth 100000 in
theorem cb_X4_partAt_32 {p : Program} {l : Launch} {e : Env} {s : State} {m : MethodId} {args : Array Value} {below : List Frame} {meth : Method} {c : Code} {D : va_G} {cy : Nat → ClassId} {lo : Nat}  {S : q_S} {xs0 : Int32} {Q : Option Value → q_S → Prop} {H : Heap} {locs : List Loc} {ls : Array Slot} (X : q_X p s m args meth c RX4 cX4_partAt 3 (some .int) D cy lo)  (Y : q_Y D cy lo s S H locs) (hl : lv_has ls 3 []) (h : wb_X4_partAt_32 S xs0 Q) : W p l e ({ frames := 1, cells := 0, slots := 0, locals := 21 } : Room) s m args below meth c H locs 0 0 (MQ below (q_Q D cy lo Q) args s 0 0 (fun q => lo ≤ q)) (F0 m 32 ls [.int xs0]) := by
  have hx := X.1
  have hb := X.2.1
  unfold wb_X4_partAt_32 at h
  exact q_iret X Y rfl (Nat.le_refl _) (Nat.le_refl _) h dX4_partAt_32
def wm_X4_partAt (S : q_S) (a0 : Nat) (x1 : Int32) (x2 : Int32) (Q : Option Value → q_S → Prop) : Prop := q_K S a0 = 5 ∧ (wm_X4_holds S a0 x1 (fun r2_ S3_ => ∃ x4_ : Int32, r2_ = some (.int x4_) ∧ (((x4_ = 0 → (wb_X4_partAt_32 S3_ (0 : Int32) Q)) ∧ (¬ x4_ = 0 → (q_K S3_ a0 = 5 ∧ (∃ a7_ : Nat, (q_P S3_ 801 a0) = some a7_ ∧ (q_K S3_ a7_ = 21 ∧ (vp_in (x1 >>> ((2 : Int32) &&& 31)) (q_N S3_ a7_) ∧ (wm_X4_maskOf S3_ x2 (fun r11_ S12_ => ∃ x13_ : Int32, r11_ = some (.int x13_) ∧ (wb_X4_partAt_32 S12_ ((((q_A S3_ a7_ (x1 >>> ((2 : Int32) &&& 31)).toNatClampNeg).toUInt32 >>> (((8 : Int32) * (x1 &&& (3 : Int32))).toUInt32 &&& Int32.toUInt32 31)).toInt32) &&& x13_) Q))))))))))))
set_option maxHeartbeats 4000000 in
set_option maxRecDepth 100000 in
theorem cm_X4_partAt {l : Launch} {D : va_G} {cy : Nat → ClassId} {lo : Nat} {S : q_S} {a0 : Nat} {x1 : Int32} {x2 : Int32} {Q : Option Value → q_S → Prop} (h : wm_X4_partAt S a0 x1 x2 Q) : q_Met l D cy lo yX4_partAt cX4_partAt 3 (some .int) 1 21 0 0 [.ref a0, .int x1, .int x2] S Q := by
  refine q_body (by decide) (by first | exact Nat.le_of_ble_eq_true rfl | simp [lg_sl, q_cat, q_catI, q_catJ, q_catR]) ?_
  intro p e s m below meth c ls X hnm Y hl
  have hx := X.1
  have hb := X.2.1
  have hl : lv_has ls 3 [(0, .ref a0), (1, .int x1), (2, .int x2)] := by first | exact hl | simpa [lv_args, q_cat, q_catI, q_catJ, q_catR] using hl
  generalize hargs : ([.ref a0, .int x1, .int x2] : List Value).toArray = args at X ⊢
  unfold wm_X4_partAt at h
  refine lv_aload_n hx hb dX4_partAt_0 rfl (lv_at hl 0 rfl) ?_
  refine lv_iload_n hx hb dX4_partAt_1 rfl (lv_at hl 1 rfl) ?_
  obtain ⟨k1_, h⟩ := h
  refine q_callV X Y hl (cm_X4_holds h) mt_X4_holds mi_X4_holds ml_X4_57 (ci := 4) rfl k1_ (by decide) rfl rfl (by first | exact Nat.le_of_ble_eq_true rfl | simp [q_cat, q_catI, q_catJ, q_catR]) ⟨Nat.le_of_ble_eq_true rfl, Nat.le_of_ble_eq_true rfl⟩ ⟨Nat.le_of_ble_eq_true rfl, Nat.le_of_ble_eq_true rfl⟩ dX4_partAt_2 (fun r2_ S3_ H locs hp Y => ?_)
  obtain ⟨x4_, rfl, h⟩ := hp
  refine W.eq (g2 := F0 m 5 ls [.int x4_]) rfl ?_
  refine lv_if_eq (tgt := 31) hx hb dX4_partAt_5 (by decide) (fun c5_ => ?_) (fun c5_ => ?_)
  · replace h := h.1 c5_
    refine lv_iconst (v := 0) hx hb dX4_partAt_31 (by decide) ?_
    exact cb_X4_partAt_32 X Y (lv_sub hl [] rfl) h
  · replace h := h.2 c5_
    refine lv_aload_n hx hb dX4_partAt_8 rfl (lv_at hl 0 rfl) ?_
    obtain ⟨k6_, h⟩ := h
    refine q_getP X Y kX4 1 rfl fl_X4_9 k6_ rfl dX4_partAt_9 ?_
    refine lv_iload_n hx hb dX4_partAt_12 rfl (lv_at hl 1 rfl) ?_
    refine lv_iconst (v := 2) hx hb dX4_partAt_13 (by decide) ?_
    refine lv_ishr hx hb dX4_partAt_14 ?_
    obtain ⟨a7_, e8_, h⟩ := h
    refine q_nn [.int (x1 >>> ((2 : Int32) &&& 31))] e8_ ?_
    obtain ⟨k9_, h⟩ := h
    obtain ⟨i10_, h⟩ := h
    refine q_ild X Y k9_ i10_ dX4_partAt_15 ?_
    refine lv_bipush (v := 8) hx hb dX4_partAt_16 (by decide) ?_
    refine lv_iload_n hx hb dX4_partAt_18 rfl (lv_at hl 1 rfl) ?_
    refine lv_iconst (v := 3) hx hb dX4_partAt_19 (by decide) ?_
    refine lv_iand hx hb dX4_partAt_20 ?_
    refine lv_imul hx hb dX4_partAt_21 ?_
    refine lv_iushr hx hb dX4_partAt_22 rfl ?_
    refine lv_iload_n hx hb dX4_partAt_23 rfl (lv_at hl 2 rfl) ?_
    refine q_callS X Y hl (cm_X4_maskOf h) mt_X4_maskOf ms_X4_maskOf ml_X4_61 rfl rfl (by first | exact Nat.le_of_ble_eq_true rfl | simp [q_cat, q_catI, q_catJ, q_catR]) ⟨Nat.le_of_ble_eq_true rfl, Nat.le_of_ble_eq_true rfl⟩ ⟨Nat.le_of_ble_eq_true rfl, Nat.le_of_ble_eq_true rfl⟩ dX4_partAt_24 (fun r11_ S12_ H locs hp Y => ?_)
    obtain ⟨x13_, rfl, h⟩ := hp
    refine W.eq (g2 := F0 m 27 ls [.int x13_, .int (((q_A S3_ a7_ (x1 >>> ((2 : Int32) &&& 31)).toNatClampNeg).toUInt32 >>> (((8 : Int32) * (x1 &&& (3 : Int32))).toUInt32 &&& Int32.toUInt32 31)).toInt32)]) rfl ?_
    refine lv_iand hx hb dX4_partAt_27 ?_
    refine lv_goto (tgt := 32) hx hb dX4_partAt_28 (by decide) ?_
    exact cb_X4_partAt_32 X Y (lv_sub hl [] rfl) h
-- X11_nameDigit
theorem dX11_nameDigit_0 : decode cX11_nameDigit 0 = .ok (.iload_n 0, 1) := by decide +kernel
theorem dX11_nameDigit_1 : decode cX11_nameDigit 1 = .ok (.bipush 97, 2) := by decide +kernel
theorem dX11_nameDigit_3 : decode cX11_nameDigit 3 = .ok (.if_icmp .lt 16, 3) := by decide +kernel
theorem dX11_nameDigit_6 : decode cX11_nameDigit 6 = .ok (.iload_n 0, 1) := by decide +kernel
theorem dX11_nameDigit_7 : decode cX11_nameDigit 7 = .ok (.bipush 122, 2) := by decide +kernel
theorem dX11_nameDigit_9 : decode cX11_nameDigit 9 = .ok (.if_icmp .gt 10, 3) := by decide +kernel
theorem dX11_nameDigit_12 : decode cX11_nameDigit 12 = .ok (.iload_n 0, 1) := by decide +kernel
theorem dX11_nameDigit_13 : decode cX11_nameDigit 13 = .ok (.bipush 97, 2) := by decide +kernel
theorem dX11_nameDigit_15 : decode cX11_nameDigit 15 = .ok (.isub, 1) := by decide +kernel
theorem dX11_nameDigit_16 : decode cX11_nameDigit 16 = .ok (.iconst 1, 1) := by decide +kernel
theorem dX11_nameDigit_17 : decode cX11_nameDigit 17 = .ok (.iadd, 1) := by decide +kernel
theorem dX11_nameDigit_18 : decode cX11_nameDigit 18 = .ok (.ireturn, 1) := by decide +kernel
theorem dX11_nameDigit_19 : decode cX11_nameDigit 19 = .ok (.iload_n 0, 1) := by decide +kernel
theorem dX11_nameDigit_20 : decode cX11_nameDigit 20 = .ok (.bipush 48, 2) := by decide +kernel
theorem dX11_nameDigit_22 : decode cX11_nameDigit 22 = .ok (.if_icmp .lt 19, 3) := by decide +kernel
theorem dX11_nameDigit_25 : decode cX11_nameDigit 25 = .ok (.iload_n 0, 1) := by decide +kernel
theorem dX11_nameDigit_26 : decode cX11_nameDigit 26 = .ok (.bipush 57, 2) := by decide +kernel
theorem dX11_nameDigit_28 : decode cX11_nameDigit 28 = .ok (.if_icmp .gt 13, 3) := by decide +kernel
theorem dX11_nameDigit_31 : decode cX11_nameDigit 31 = .ok (.iload_n 0, 1) := by decide +kernel
theorem dX11_nameDigit_32 : decode cX11_nameDigit 32 = .ok (.bipush 48, 2) := by decide +kernel
theorem dX11_nameDigit_34 : decode cX11_nameDigit 34 = .ok (.isub, 1) := by decide +kernel
theorem dX11_nameDigit_35 : decode cX11_nameDigit 35 = .ok (.bipush 27, 2) := by decide +kernel
theorem dX11_nameDigit_37 : decode cX11_nameDigit 37 = .ok (.iadd, 1) := by decide +kernel
theorem dX11_nameDigit_38 : decode cX11_nameDigit 38 = .ok (.goto 4, 3) := by decide +kernel
theorem dX11_nameDigit_41 : decode cX11_nameDigit 41 = .ok (.iconst 0, 1) := by decide +kernel
theorem dX11_nameDigit_42 : decode cX11_nameDigit 42 = .ok (.ireturn, 1) := by decide +kernel
def wb_X11_nameDigit_42  (S : q_S) (xs0 : Int32) (Q : Option Value → q_S → Prop) : Prop := Q (some (.int xs0)) S
set_option maxHeartbeats 4000000 in
set_option maxRecDepth 100000 in
theorem cb_X11_nameDigit_42 {p : Program} {l : Launch} {e : Env} {s : State} {m : MethodId} {args : Array Value} {below : List Frame} {meth : Method} {c : Code} {D : va_G} {cy : Nat → ClassId} {lo : Nat}  {S : q_S} {xs0 : Int32} {Q : Option Value → q_S → Prop} {H : Heap} {locs : List Loc} {ls : Array Slot} (X : q_X p s m args meth c RX11 cX11_nameDigit 1 (some .int) D cy lo)  (Y : q_Y D cy lo s S H locs) (hl : lv_has ls 1 []) (h : wb_X11_nameDigit_42 S xs0 Q) : W p l e ({ frames := 0, cells := 0, slots := 0, locals := 0 } : Room) s m args below meth c H locs 0 0 (MQ below (q_Q D cy lo Q) args s 0 0 (fun q => lo ≤ q)) (F0 m 42 ls [.int xs0]) := by
  have hx := X.1
  have hb := X.2.1
  unfold wb_X11_nameDigit_42 at h
  exact q_iret X Y rfl (Nat.le_refl _) (Nat.le_refl _) h dX11_nameDigit_42
def wb_X11_nameDigit_41  (S : q_S) (Q : Option Value → q_S → Prop) : Prop := wb_X11_nameDigit_42 S (0 : Int32) Q
set_option maxHeartbeats 4000000 in
set_option maxRecDepth 100000 in
theorem cb_X11_nameDigit_41 {p : Program} {l : Launch} {e : Env} {s : State} {m : MethodId} {args : Array Value} {below : List Frame} {meth : Method} {c : Code} {D : va_G} {cy : Nat → ClassId} {lo : Nat}  {S : q_S} {Q : Option Value → q_S → Prop} {H : Heap} {locs : List Loc} {ls : Array Slot} (X : q_X p s m args meth c RX11 cX11_nameDigit 1 (some .int) D cy lo)  (Y : q_Y D cy lo s S H locs) (hl : lv_has ls 1 []) (h : wb_X11_nameDigit_41 S Q) : W p l e ({ frames := 0, cells := 0, slots := 0, locals := 0 } : Room) s m args below meth c H locs 0 0 (MQ below (q_Q D cy lo Q) args s 0 0 (fun q => lo ≤ q)) (F0 m 41 ls []) := by
  have hx := X.1
  have hb := X.2.1
  unfold wb_X11_nameDigit_41 at h
  refine lv_iconst (v := 0) hx hb dX11_nameDigit_41 (by decide) ?_
  exact cb_X11_nameDigit_42 X Y (lv_sub hl [] rfl) h
def wb_X11_nameDigit_19  (S : q_S) (x0 : Int32) (Q : Option Value → q_S → Prop) : Prop := ((x0 < (48 : Int32) → (wb_X11_nameDigit_41 S Q)) ∧ (¬ x0 < (48 : Int32) → ((((57 : Int32) < x0 → (wb_X11_nameDigit_41 S Q)) ∧ (¬ (57 : Int32) < x0 → (wb_X11_nameDigit_42 S ((x0 - (48 : Int32)) + (27 : Int32)) Q))))))
set_option maxHeartbeats 4000000 in
set_option maxRecDepth 100000 in
theorem cb_X11_nameDigit_19 {p : Program} {l : Launch} {e : Env} {s : State} {m : MethodId} {args : Array Value} {below : List Frame} {meth : Method} {c : Code} {D : va_G} {cy : Nat → ClassId} {lo : Nat}  {S : q_S} {x0 : Int32} {Q : Option Value → q_S → Prop} {H : Heap} {locs : List Loc} {ls : Array Slot} (X : q_X p s m args meth c RX11 cX11_nameDigit 1 (some .int) D cy lo)  (Y : q_Y D cy lo s S H locs) (hl : lv_has ls 1 [(0, .int x0)]) (h : wb_X11_nameDigit_19 S x0 Q) : W p l e ({ frames := 0, cells := 0, slots := 0, locals := 0 } : Room) s m args below meth c H locs 0 0 (MQ below (q_Q D cy lo Q) args s 0 0 (fun q => lo ≤ q)) (F0 m 19 ls []) := by
  have hx := X.1
  have hb := X.2.1
  unfold wb_X11_nameDigit_19 at h
  refine lv_iload_n hx hb dX11_nameDigit_19 rfl (lv_at hl 0 rfl) ?_
  refine lv_bipush (v := 48) hx hb dX11_nameDigit_20 (by decide) ?_
  refine lv_icmp_lt (tgt := 41) hx hb dX11_nameDigit_22 (by decide) (fun c1_ => ?_) (fun c1_ => ?_)
  · replace h := h.1 c1_
    exact cb_X11_nameDigit_41 X Y (lv_sub hl [] rfl) h
  · replace h := h.2 c1_
    refine lv_iload_n hx hb dX11_nameDigit_25 rfl (lv_at hl 0 rfl) ?_
    refine lv_bipush (v := 57) hx hb dX11_nameDigit_26 (by decide) ?_
    refine lv_icmp_gt (tgt := 41) hx hb dX11_nameDigit_28 (by decide) (fun c2_ => ?_) (fun c2_ => ?_)
    · replace h := h.1 c2_
      exact cb_X11_nameDigit_41 X Y (lv_sub hl [] rfl) h
    · replace h := h.2 c2_
      refine lv_iload_n hx hb dX11_nameDigit_31 rfl (lv_at hl 0 rfl) ?_
      refine lv_bipush (v := 48) hx hb dX11_nameDigit_32 (by decide) ?_
      refine lv_isub hx hb dX11_nameDigit_34 ?_
      refine lv_bipush (v := 27) hx hb dX11_nameDigit_35 (by decide) ?_
      refine lv_iadd hx hb dX11_nameDigit_37 ?_
      refine lv_goto (tgt := 42) hx hb dX11_nameDigit_38 (by decide) ?_
      exact cb_X11_nameDigit_42 X Y (lv_sub hl [] rfl) h
def wm_X11_nameDigit (S : q_S) (x0 : Int32) (Q : Option Value → q_S → Prop) : Prop := ((x0 < (97 : Int32) → (wb_X11_nameDigit_19 S x0 Q)) ∧ (¬ x0 < (97 : Int32) → ((((122 : Int32) < x0 → (wb_X11_nameDigit_19 S x0 Q)) ∧ (¬ (122 : Int32) < x0 → (Q (some (.int ((x0 - (97 : Int32)) + (1 : Int32)))) S))))))
set_option maxHeartbeats 4000000 in
set_option maxRecDepth 100000 in
theorem cm_X11_nameDigit {l : Launch} {D : va_G} {cy : Nat → ClassId} {lo : Nat} {S : q_S} {x0 : Int32} {Q : Option Value → q_S → Prop} (h : wm_X11_nameDigit S x0 Q) : q_Met l D cy lo yX11_nameDigit cX11_nameDigit 1 (some .int) 0 0 0 0 [.int x0] S Q := by
  refine q_body (by decide) (by first | exact Nat.le_of_ble_eq_true rfl | simp [lg_sl, q_cat, q_catI, q_catJ, q_catR]) ?_
  intro p e s m below meth c ls X hnm Y hl
  have hx := X.1
  have hb := X.2.1
  have hl : lv_has ls 1 [(0, .int x0)] := by first | exact hl | simpa [lv_args, q_cat, q_catI, q_catJ, q_catR] using hl
  generalize hargs : ([.int x0] : List Value).toArray = args at X ⊢
  unfold wm_X11_nameDigit at h
  refine lv_iload_n hx hb dX11_nameDigit_0 rfl (lv_at hl 0 rfl) ?_
  refine lv_bipush (v := 97) hx hb dX11_nameDigit_1 (by decide) ?_
  refine lv_icmp_lt (tgt := 19) hx hb dX11_nameDigit_3 (by decide) (fun c3_ => ?_) (fun c3_ => ?_)
  · replace h := h.1 c3_
    exact cb_X11_nameDigit_19 X Y (lv_sub hl [0] rfl) h
  · replace h := h.2 c3_
    refine lv_iload_n hx hb dX11_nameDigit_6 rfl (lv_at hl 0 rfl) ?_
    refine lv_bipush (v := 122) hx hb dX11_nameDigit_7 (by decide) ?_
    refine lv_icmp_gt (tgt := 19) hx hb dX11_nameDigit_9 (by decide) (fun c4_ => ?_) (fun c4_ => ?_)
    · replace h := h.1 c4_
      exact cb_X11_nameDigit_19 X Y (lv_sub hl [0] rfl) h
    · replace h := h.2 c4_
      refine lv_iload_n hx hb dX11_nameDigit_12 rfl (lv_at hl 0 rfl) ?_
      refine lv_bipush (v := 97) hx hb dX11_nameDigit_13 (by decide) ?_
      refine lv_isub hx hb dX11_nameDigit_15 ?_
      refine lv_iconst (v := 1) hx hb dX11_nameDigit_16 (by decide) ?_
      refine lv_iadd hx hb dX11_nameDigit_17 ?_
      exact q_iret X Y rfl (Nat.le_refl _) (Nat.le_refl _) h dX11_nameDigit_18
-- X4_nameAt
theorem ml_X4_64 : Cond.methodLink RX4 64 yX4_partAt ∈ q_G := q_tb (i := 1723) (by decide +kernel) (by decide +kernel)
theorem mt_X4_partAt : q_Mt yX4_partAt cX4_partAt 3 (some .int) 2 := ⟨q_tb (i := 1452) (by decide +kernel) (by decide +kernel), q_tb (i := 21) (by decide +kernel) (by decide +kernel), by decide +kernel, by decide +kernel, by decide +kernel⟩
theorem mi_X4_partAt : Cond.instanceMethod yX4_partAt ∈ q_G ∧ Cond.selects yX4_partAt.cls yX4_partAt yX4_partAt ∈ q_G := ⟨q_tb (i := 1450) (by decide +kernel) (by decide +kernel), q_tb (i := 1451) (by decide +kernel) (by decide +kernel)⟩
theorem mn_X4_67 : Cond.methodLinkNest RX4 67 yX11_nameDigit "PartitionWorks" ∈ q_Nw := List.mem_filter.mpr ⟨List.mem_of_getElem? (i := 1724) (by decide +kernel), rfl⟩
theorem mt_X11_nameDigit : q_Mt yX11_nameDigit cX11_nameDigit 1 (some .int) 1 := ⟨q_tb (i := 195) (by decide +kernel) (by decide +kernel), q_tb (i := 1) (by decide +kernel) (by decide +kernel), by decide +kernel, by decide +kernel, by decide +kernel⟩
theorem ms_X11_nameDigit : Cond.static yX11_nameDigit ∈ q_G := q_tb (i := 194) (by decide +kernel) (by decide +kernel)
theorem cp_X4_70 : Cond.constantLong RX4 70 (37) ∈ q_G := q_tb (i := 1725) (by decide +kernel) (by decide +kernel)
theorem dX4_nameAt_0 : decode cX4_nameAt 0 = .ok (.lconst 0, 1) := by decide +kernel
theorem dX4_nameAt_1 : decode cX4_nameAt 1 = .ok (.lstore_n 3, 1) := by decide +kernel
theorem dX4_nameAt_2 : decode cX4_nameAt 2 = .ok (.iconst 0, 1) := by decide +kernel
theorem dX4_nameAt_3 : decode cX4_nameAt 3 = .ok (.istore 5, 2) := by decide +kernel
theorem dX4_nameAt_5 : decode cX4_nameAt 5 = .ok (.iload 5, 2) := by decide +kernel
theorem dX4_nameAt_7 : decode cX4_nameAt 7 = .ok (.iload_n 2, 1) := by decide +kernel
theorem dX4_nameAt_8 : decode cX4_nameAt 8 = .ok (.if_icmp .ge 40, 3) := by decide +kernel
theorem dX4_nameAt_11 : decode cX4_nameAt 11 = .ok (.aload_n 0, 1) := by decide +kernel
theorem dX4_nameAt_12 : decode cX4_nameAt 12 = .ok (.iload_n 1, 1) := by decide +kernel
theorem dX4_nameAt_13 : decode cX4_nameAt 13 = .ok (.iload 5, 2) := by decide +kernel
theorem dX4_nameAt_15 : decode cX4_nameAt 15 = .ok (.iadd, 1) := by decide +kernel
theorem dX4_nameAt_16 : decode cX4_nameAt 16 = .ok (.iconst 1, 1) := by decide +kernel
theorem dX4_nameAt_17 : decode cX4_nameAt 17 = .ok (.invokevirtual 64, 3) := by decide +kernel
theorem dX4_nameAt_20 : decode cX4_nameAt 20 = .ok (.invokestatic 67, 3) := by decide +kernel
theorem dX4_nameAt_23 : decode cX4_nameAt 23 = .ok (.istore 6, 2) := by decide +kernel
theorem dX4_nameAt_25 : decode cX4_nameAt 25 = .ok (.iload 6, 2) := by decide +kernel
theorem dX4_nameAt_27 : decode cX4_nameAt 27 = .ok (.ifCond .ne 5, 3) := by decide +kernel
theorem dX4_nameAt_30 : decode cX4_nameAt 30 = .ok (.lconst 0, 1) := by decide +kernel
theorem dX4_nameAt_31 : decode cX4_nameAt 31 = .ok (.lreturn, 1) := by decide +kernel
theorem dX4_nameAt_32 : decode cX4_nameAt 32 = .ok (.lload_n 3, 1) := by decide +kernel
theorem dX4_nameAt_33 : decode cX4_nameAt 33 = .ok (.ldc2_w 70, 3) := by decide +kernel
theorem dX4_nameAt_36 : decode cX4_nameAt 36 = .ok (.lmul, 1) := by decide +kernel
theorem dX4_nameAt_37 : decode cX4_nameAt 37 = .ok (.iload 6, 2) := by decide +kernel
theorem dX4_nameAt_39 : decode cX4_nameAt 39 = .ok (.i2l, 1) := by decide +kernel
theorem dX4_nameAt_40 : decode cX4_nameAt 40 = .ok (.ladd, 1) := by decide +kernel
theorem dX4_nameAt_41 : decode cX4_nameAt 41 = .ok (.lstore_n 3, 1) := by decide +kernel
theorem dX4_nameAt_42 : decode cX4_nameAt 42 = .ok (.iinc 5 1, 3) := by decide +kernel
theorem dX4_nameAt_45 : decode cX4_nameAt 45 = .ok (.goto (-40), 3) := by decide +kernel
theorem dX4_nameAt_48 : decode cX4_nameAt 48 = .ok (.lload_n 3, 1) := by decide +kernel
theorem dX4_nameAt_49 : decode cX4_nameAt 49 = .ok (.lreturn, 1) := by decide +kernel
def wb_X4_nameAt_5 (B5 : q_S → Nat → Int32 → Int32 → Int64 → Int32 → Prop) (S : q_S) (a0 : Nat) (x1 : Int32) (x2 : Int32) (z3 : Int64) (x5 : Int32) (Q : Option Value → q_S → Prop) : Prop := ((x2 ≤ x5 → (Q (some (.long z3)) S)) ∧ (¬ x2 ≤ x5 → (q_K S a0 = 5 ∧ (wm_X4_partAt S a0 (x1 + x5) (1 : Int32) (fun r3_ S4_ => ∃ x5_ : Int32, r3_ = some (.int x5_) ∧ (wm_X11_nameDigit S4_ x5_ (fun r6_ S7_ => ∃ x8_ : Int32, r6_ = some (.int x8_) ∧ (((¬ x8_ = 0 → (B5 S7_ a0 x1 x2 ((z3 * (37 : Int64)) + (x8_.toInt64)) (x5 + 1))) ∧ (x8_ = 0 → (Q (some (.long (0 : Int64))) S7_)))))))))))
set_option maxHeartbeats 4000000 in
set_option maxRecDepth 100000 in
theorem cb_X4_nameAt_5 {p : Program} {l : Launch} {e : Env} {s : State} {m : MethodId} {args : Array Value} {below : List Frame} {meth : Method} {c : Code} {D : va_G} {cy : Nat → ClassId} {lo : Nat} {B5 : q_S → Nat → Int32 → Int32 → Int64 → Int32 → Prop} {S : q_S} {a0 : Nat} {x1 : Int32} {x2 : Int32} {z3 : Int64} {x5 : Int32} {Q : Option Value → q_S → Prop} {H : Heap} {locs : List Loc} {ls : Array Slot} (X : q_X p s m args meth c RX4 cX4_nameAt 7 (some .long) D cy lo) (hB5 : ∀ (S : q_S) (a0 : Nat) (x1 : Int32) (x2 : Int32) (z3 : Int64) (x5 : Int32) (H : Heap) (locs : List Loc) (ls : Array Slot), B5 S a0 x1 x2 z3 x5 → q_Y D cy lo s S H locs → lv_has ls 7 [(0, .ref a0), (1, .int x1), (2, .int x2), (3, .long z3), (5, .int x5)] → W p l e ({ frames := 2, cells := 0, slots := 0, locals := 43 } : Room) s m args below meth c H locs 0 0 (MQ below (q_Q D cy lo Q) args s 0 0 (fun q => lo ≤ q)) (F0 m 5 ls [])) (Y : q_Y D cy lo s S H locs) (hl : lv_has ls 7 [(0, .ref a0), (1, .int x1), (2, .int x2), (3, .long z3), (5, .int x5)]) (h : wb_X4_nameAt_5 B5 S a0 x1 x2 z3 x5 Q) : W p l e ({ frames := 2, cells := 0, slots := 0, locals := 43 } : Room) s m args below meth c H locs 0 0 (MQ below (q_Q D cy lo Q) args s 0 0 (fun q => lo ≤ q)) (F0 m 5 ls []) := by
  have hx := X.1
  have hb := X.2.1
  unfold wb_X4_nameAt_5 at h
  refine lv_iload hx hb dX4_nameAt_5 (lv_at hl 4 rfl) ?_
  refine lv_iload_n hx hb dX4_nameAt_7 rfl (lv_at hl 2 rfl) ?_
  refine lv_icmp_ge (tgt := 48) hx hb dX4_nameAt_8 (by decide) (fun c1_ => ?_) (fun c1_ => ?_)
  · replace h := h.1 c1_
    refine lv_lload_n hx hb dX4_nameAt_48 rfl (lv_at hl 3 rfl) ?_
    exact q_lret X Y (Nat.le_refl _) (Nat.le_refl _) h dX4_nameAt_49
  · replace h := h.2 c1_
    refine lv_aload_n hx hb dX4_nameAt_11 rfl (lv_at hl 0 rfl) ?_
    refine lv_iload_n hx hb dX4_nameAt_12 rfl (lv_at hl 1 rfl) ?_
    refine lv_iload hx hb dX4_nameAt_13 (lv_at hl 4 rfl) ?_
    refine lv_iadd hx hb dX4_nameAt_15 ?_
    refine lv_iconst (v := 1) hx hb dX4_nameAt_16 (by decide) ?_
    obtain ⟨k2_, h⟩ := h
    refine q_callV X Y hl (cm_X4_partAt h) mt_X4_partAt mi_X4_partAt ml_X4_64 (ci := 4) rfl k2_ (by decide) rfl rfl (by first | exact Nat.le_of_ble_eq_true rfl | simp [q_cat, q_catI, q_catJ, q_catR]) ⟨Nat.le_of_ble_eq_true rfl, Nat.le_of_ble_eq_true rfl⟩ ⟨Nat.le_of_ble_eq_true rfl, Nat.le_of_ble_eq_true rfl⟩ dX4_nameAt_17 (fun r3_ S4_ H locs hp Y => ?_)
    obtain ⟨x5_, rfl, h⟩ := hp
    refine W.eq (g2 := F0 m 20 ls [.int x5_]) rfl ?_
    refine q_callSN X Y hl (cm_X11_nameDigit h) mt_X11_nameDigit ms_X11_nameDigit mn_X4_67 rfl rfl (by first | exact Nat.le_of_ble_eq_true rfl | simp [q_cat, q_catI, q_catJ, q_catR]) ⟨Nat.le_of_ble_eq_true rfl, Nat.le_of_ble_eq_true rfl⟩ ⟨Nat.le_of_ble_eq_true rfl, Nat.le_of_ble_eq_true rfl⟩ dX4_nameAt_20 (fun r6_ S7_ H locs hp Y => ?_)
    obtain ⟨x8_, rfl, h⟩ := hp
    refine W.eq (g2 := F0 m 23 ls [.int x8_]) rfl ?_
    refine lv_istore (i := 6) (lv' := [(6, .int x8_), (0, .ref a0), (1, .int x1), (2, .int x2), (3, .long z3), (5, .int x5)]) hx hb dX4_nameAt_23 hl (by decide) (by first | rfl | simp [q_cat, q_catI, q_catJ, q_catR]) (fun ls hl => ?_)
    refine lv_iload hx hb dX4_nameAt_25 (lv_at hl 0 rfl) ?_
    refine lv_if_ne (tgt := 32) hx hb dX4_nameAt_27 (by decide) (fun c9_ => ?_) (fun c9_ => ?_)
    · replace h := h.1 c9_
      refine lv_lload_n hx hb dX4_nameAt_32 rfl (lv_at hl 4 rfl) ?_
      refine lv_ldc2 (v := 37) hx hb X.2.2.2.1 (X.2.2.2.2.1 _ cp_X4_70) dX4_nameAt_33 ?_
      refine lv_lmul hx hb dX4_nameAt_36 ?_
      refine lv_iload hx hb dX4_nameAt_37 (lv_at hl 0 rfl) ?_
      refine lv_i2l hx hb dX4_nameAt_39 rfl ?_
      refine lv_ladd hx hb dX4_nameAt_40 ?_
      refine lv_lstore_n (i := 3) (lv' := [(3, .long ((z3 * (37 : Int64)) + (x8_.toInt64))), (6, .int x8_), (0, .ref a0), (1, .int x1), (2, .int x2), (5, .int x5)]) hx hb dX4_nameAt_41 rfl hl (by decide) (by first | rfl | simp [q_cat, q_catI, q_catJ, q_catR]) (fun ls hl => ?_)
      refine lv_iinc (v := (x5 + 1)) (lv' := [(5, .int (x5 + 1)), (3, .long ((z3 * (37 : Int64)) + (x8_.toInt64))), (6, .int x8_), (0, .ref a0), (1, .int x1), (2, .int x2)]) hx hb dX4_nameAt_42 hl (k := 5) rfl (by first | rfl | decide) (by decide) (by first | rfl | simp [q_cat, q_catI, q_catJ, q_catR]) (fun ls hl => ?_)
      refine lv_goto (tgt := 5) hx hb dX4_nameAt_45 (by decide) ?_
      exact hB5 _ _ _ _ _ _ _ _ _ h Y (lv_sub hl [3, 4, 5, 1, 0] rfl)
    · replace h := h.2 c9_
      refine lv_lconst (v := 0) hx hb dX4_nameAt_30 (by decide) ?_
      exact q_lret X Y (Nat.le_refl _) (Nat.le_refl _) h dX4_nameAt_31
def wl_X4_nameAt_5  : Nat → q_S → Nat → Int32 → Int32 → Int64 → Int32 → (Option Value → q_S → Prop) → Prop
  | 0, _, _, _, _, _, _, _ => False
  | n + 1, S, a0, x1, x2, z3, x5, Q => wb_X4_nameAt_5 (fun S a0 x1 x2 z3 x5 => wl_X4_nameAt_5 n S a0 x1 x2 z3 x5 Q) S a0 x1 x2 z3 x5 Q
set_option maxHeartbeats 4000000 in
set_option maxRecDepth 100000 in
theorem cl_X4_nameAt_5 {p : Program} {l : Launch} {e : Env} {s : State} {m : MethodId} {args : Array Value} {below : List Frame} {meth : Method} {c : Code} {D : va_G} {cy : Nat → ClassId} {lo : Nat}  {Q : Option Value → q_S → Prop} (X : q_X p s m args meth c RX4 cX4_nameAt 7 (some .long) D cy lo)  : ∀ (n : Nat) (S : q_S) (a0 : Nat) (x1 : Int32) (x2 : Int32) (z3 : Int64) (x5 : Int32) (H : Heap) (locs : List Loc) (ls : Array Slot), wl_X4_nameAt_5 n S a0 x1 x2 z3 x5 Q → q_Y D cy lo s S H locs → lv_has ls 7 [(0, .ref a0), (1, .int x1), (2, .int x2), (3, .long z3), (5, .int x5)] → W p l e ({ frames := 2, cells := 0, slots := 0, locals := 43 } : Room) s m args below meth c H locs 0 0 (MQ below (q_Q D cy lo Q) args s 0 0 (fun q => lo ≤ q)) (F0 m 5 ls []) := by
  intro n
  induction n with
  | zero => intro S a0 x1 x2 z3 x5 H locs ls h; exact absurd h id
  | succ n ih => intro S a0 x1 x2 z3 x5 H locs ls h Y hl; exact cb_X4_nameAt_5 X ih Y hl h
def wm_X4_nameAt (S : q_S) (a0 : Nat) (x1 : Int32) (x2 : Int32) (Q : Option Value → q_S → Prop) : Prop := ∃ n10_ : Nat, wl_X4_nameAt_5 n10_ S a0 x1 x2 (0 : Int64) (0 : Int32) Q
set_option maxHeartbeats 4000000 in
set_option maxRecDepth 100000 in
theorem cm_X4_nameAt {l : Launch} {D : va_G} {cy : Nat → ClassId} {lo : Nat} {S : q_S} {a0 : Nat} {x1 : Int32} {x2 : Int32} {Q : Option Value → q_S → Prop} (h : wm_X4_nameAt S a0 x1 x2 Q) : q_Met l D cy lo yX4_nameAt cX4_nameAt 7 (some .long) 2 43 0 0 [.ref a0, .int x1, .int x2] S Q := by
  refine q_body (by decide) (by first | exact Nat.le_of_ble_eq_true rfl | simp [lg_sl, q_cat, q_catI, q_catJ, q_catR]) ?_
  intro p e s m below meth c ls X hnm Y hl
  have hx := X.1
  have hb := X.2.1
  have hl : lv_has ls 7 [(0, .ref a0), (1, .int x1), (2, .int x2)] := by first | exact hl | simpa [lv_args, q_cat, q_catI, q_catJ, q_catR] using hl
  generalize hargs : ([.ref a0, .int x1, .int x2] : List Value).toArray = args at X ⊢
  unfold wm_X4_nameAt at h
  refine lv_lconst (v := 0) hx hb dX4_nameAt_0 (by decide) ?_
  refine lv_lstore_n (i := 3) (lv' := [(3, .long (0 : Int64)), (0, .ref a0), (1, .int x1), (2, .int x2)]) hx hb dX4_nameAt_1 rfl hl (by decide) (by first | rfl | simp [q_cat, q_catI, q_catJ, q_catR]) (fun ls hl => ?_)
  refine lv_iconst (v := 0) hx hb dX4_nameAt_2 (by decide) ?_
  refine lv_istore (i := 5) (lv' := [(5, .int (0 : Int32)), (3, .long (0 : Int64)), (0, .ref a0), (1, .int x1), (2, .int x2)]) hx hb dX4_nameAt_3 hl (by decide) (by first | rfl | simp [q_cat, q_catI, q_catJ, q_catR]) (fun ls hl => ?_)
  obtain ⟨n10_, h⟩ := h
  exact cl_X4_nameAt_5 X n10_ _ _ _ _ _ _ _ _ _ h Y (lv_sub hl [2, 3, 4, 1, 0] rfl)
-- X5_named
theorem fl_X5_97 : Cond.fieldLink RX5 97 "PartitionWorks$Thing" "name" "J" ∈ q_G := q_tb (i := 999) (by decide +kernel) (by decide +kernel)
theorem fl_X5_96 : Cond.fieldLink RX5 96 "PartitionWorks$Process" "name" "J" ∈ q_G := q_tb (i := 846) (by decide +kernel) (by decide +kernel)
theorem dX5_named_0 : decode cX5_named 0 = .ok (.iload_n 1, 1) := by decide +kernel
theorem dX5_named_1 : decode cX5_named 1 = .ok (.iconst 5, 1) := by decide +kernel
theorem dX5_named_2 : decode cX5_named 2 = .ok (.if_icmp .ne 10, 3) := by decide +kernel
theorem dX5_named_5 : decode cX5_named 5 = .ok (.aload_n 0, 1) := by decide +kernel
theorem dX5_named_6 : decode cX5_named 6 = .ok (.getfield 45, 3) := by decide +kernel
theorem dX5_named_9 : decode cX5_named 9 = .ok (.goto 9, 3) := by decide +kernel
theorem dX5_named_12 : decode cX5_named 12 = .ok (.aload_n 0, 1) := by decide +kernel
theorem dX5_named_13 : decode cX5_named 13 = .ok (.getfield 30, 3) := by decide +kernel
theorem dX5_named_16 : decode cX5_named 16 = .ok (.iload_n 1, 1) := by decide +kernel
theorem dX5_named_17 : decode cX5_named 17 = .ok (.iaload, 1) := by decide +kernel
theorem dX5_named_18 : decode cX5_named 18 = .ok (.istore 4, 2) := by decide +kernel
theorem dX5_named_20 : decode cX5_named 20 = .ok (.iconst 0, 1) := by decide +kernel
theorem dX5_named_21 : decode cX5_named 21 = .ok (.istore 5, 2) := by decide +kernel
theorem dX5_named_23 : decode cX5_named 23 = .ok (.iload 5, 2) := by decide +kernel
theorem dX5_named_25 : decode cX5_named 25 = .ok (.iload 4, 2) := by decide +kernel
theorem dX5_named_27 : decode cX5_named 27 = .ok (.if_icmp .ge 54, 3) := by decide +kernel
theorem dX5_named_30 : decode cX5_named 30 = .ok (.iload_n 1, 1) := by decide +kernel
theorem dX5_named_31 : decode cX5_named 31 = .ok (.iconst 5, 1) := by decide +kernel
theorem dX5_named_32 : decode cX5_named 32 = .ok (.if_icmp .ne 16, 3) := by decide +kernel
theorem dX5_named_35 : decode cX5_named 35 = .ok (.aload_n 0, 1) := by decide +kernel
theorem dX5_named_36 : decode cX5_named 36 = .ok (.getfield 20, 3) := by decide +kernel
theorem dX5_named_39 : decode cX5_named 39 = .ok (.iload 5, 2) := by decide +kernel
theorem dX5_named_41 : decode cX5_named 41 = .ok (.aaload, 1) := by decide +kernel
theorem dX5_named_42 : decode cX5_named 42 = .ok (.getfield 96, 3) := by decide +kernel
theorem dX5_named_45 : decode cX5_named 45 = .ok (.goto 18, 3) := by decide +kernel
theorem dX5_named_48 : decode cX5_named 48 = .ok (.aload_n 0, 1) := by decide +kernel
theorem dX5_named_49 : decode cX5_named 49 = .ok (.getfield 26, 3) := by decide +kernel
theorem dX5_named_52 : decode cX5_named 52 = .ok (.iload_n 1, 1) := by decide +kernel
theorem dX5_named_53 : decode cX5_named 53 = .ok (.bipush 8, 2) := by decide +kernel
theorem dX5_named_55 : decode cX5_named 55 = .ok (.imul, 1) := by decide +kernel
theorem dX5_named_56 : decode cX5_named 56 = .ok (.iload 5, 2) := by decide +kernel
theorem dX5_named_58 : decode cX5_named 58 = .ok (.iadd, 1) := by decide +kernel
theorem dX5_named_59 : decode cX5_named 59 = .ok (.aaload, 1) := by decide +kernel
theorem dX5_named_60 : decode cX5_named 60 = .ok (.getfield 97, 3) := by decide +kernel
theorem dX5_named_63 : decode cX5_named 63 = .ok (.lstore 6, 2) := by decide +kernel
theorem dX5_named_65 : decode cX5_named 65 = .ok (.lload 6, 2) := by decide +kernel
theorem dX5_named_67 : decode cX5_named 67 = .ok (.lload_n 2, 1) := by decide +kernel
theorem dX5_named_68 : decode cX5_named 68 = .ok (.lcmp, 1) := by decide +kernel
theorem dX5_named_69 : decode cX5_named 69 = .ok (.ifCond .ne 6, 3) := by decide +kernel
theorem dX5_named_72 : decode cX5_named 72 = .ok (.iload 5, 2) := by decide +kernel
theorem dX5_named_74 : decode cX5_named 74 = .ok (.ireturn, 1) := by decide +kernel
theorem dX5_named_75 : decode cX5_named 75 = .ok (.iinc 5 1, 3) := by decide +kernel
theorem dX5_named_78 : decode cX5_named 78 = .ok (.goto (-55), 3) := by decide +kernel
theorem dX5_named_81 : decode cX5_named 81 = .ok (.iconst (-1), 1) := by decide +kernel
theorem dX5_named_82 : decode cX5_named 82 = .ok (.ireturn, 1) := by decide +kernel
def wb_X5_named_63 (B23 : q_S → Nat → Int32 → Int64 → Int32 → Int32 → Prop) (S : q_S) (a0 : Nat) (x1 : Int32) (z2 : Int64) (x4 : Int32) (x5 : Int32) (zs0 : Int64) (Q : Option Value → q_S → Prop) : Prop := ((¬ (lg_cmp zs0 z2) = 0 → (B23 S a0 x1 z2 x4 (x5 + 1))) ∧ ((lg_cmp zs0 z2) = 0 → (Q (some (.int x5)) S)))
set_option maxHeartbeats 4000000 in
set_option maxRecDepth 100000 in
theorem cb_X5_named_63 {p : Program} {l : Launch} {e : Env} {s : State} {m : MethodId} {args : Array Value} {below : List Frame} {meth : Method} {c : Code} {D : va_G} {cy : Nat → ClassId} {lo : Nat} {B23 : q_S → Nat → Int32 → Int64 → Int32 → Int32 → Prop} {S : q_S} {a0 : Nat} {x1 : Int32} {z2 : Int64} {x4 : Int32} {x5 : Int32} {zs0 : Int64} {Q : Option Value → q_S → Prop} {H : Heap} {locs : List Loc} {ls : Array Slot} (X : q_X p s m args meth c RX5 cX5_named 8 (some .int) D cy lo) (hB23 : ∀ (S : q_S) (a0 : Nat) (x1 : Int32) (z2 : Int64) (x4 : Int32) (x5 : Int32) (H : Heap) (locs : List Loc) (ls : Array Slot), B23 S a0 x1 z2 x4 x5 → q_Y D cy lo s S H locs → lv_has ls 8 [(0, .ref a0), (1, .int x1), (2, .long z2), (4, .int x4), (5, .int x5)] → W p l e ({ frames := 0, cells := 0, slots := 0, locals := 0 } : Room) s m args below meth c H locs 0 0 (MQ below (q_Q D cy lo Q) args s 0 0 (fun q => lo ≤ q)) (F0 m 23 ls [])) (Y : q_Y D cy lo s S H locs) (hl : lv_has ls 8 [(0, .ref a0), (1, .int x1), (2, .long z2), (4, .int x4), (5, .int x5)]) (h : wb_X5_named_63 B23 S a0 x1 z2 x4 x5 zs0 Q) : W p l e ({ frames := 0, cells := 0, slots := 0, locals := 0 } : Room) s m args below meth c H locs 0 0 (MQ below (q_Q D cy lo Q) args s 0 0 (fun q => lo ≤ q)) (F0 m 63 ls [.long zs0]) := by
  have hx := X.1
  have hb := X.2.1
  unfold wb_X5_named_63 at h
  refine lv_lstore (i := 6) (lv' := [(6, .long zs0), (0, .ref a0), (1, .int x1), (2, .long z2), (4, .int x4), (5, .int x5)]) hx hb dX5_named_63 hl (by decide) (by first | rfl | simp [q_cat, q_catI, q_catJ, q_catR]) (fun ls hl => ?_)
  refine lv_lload hx hb dX5_named_65 (lv_at hl 0 rfl) ?_
  refine lv_lload_n hx hb dX5_named_67 rfl (lv_at hl 3 rfl) ?_
  refine W.lcmp hx hb dX5_named_68 ?_
  refine lv_if_ne (tgt := 75) hx hb dX5_named_69 (by decide) (fun c1_ => ?_) (fun c1_ => ?_)
  · replace h := h.1 c1_
    refine lv_iinc (v := (x5 + 1)) (lv' := [(5, .int (x5 + 1)), (6, .long zs0), (0, .ref a0), (1, .int x1), (2, .long z2), (4, .int x4)]) hx hb dX5_named_75 hl (k := 5) rfl (by first | rfl | decide) (by decide) (by first | rfl | simp [q_cat, q_catI, q_catJ, q_catR]) (fun ls hl => ?_)
    refine lv_goto (tgt := 23) hx hb dX5_named_78 (by decide) ?_
    exact hB23 _ _ _ _ _ _ _ _ _ h Y (lv_sub hl [2, 3, 4, 5, 0] rfl)
  · replace h := h.2 c1_
    refine lv_iload hx hb dX5_named_72 (lv_at hl 5 rfl) ?_
    exact q_iret X Y rfl (Nat.le_refl _) (Nat.le_refl _) h dX5_named_74
def wb_X5_named_23 (B23 : q_S → Nat → Int32 → Int64 → Int32 → Int32 → Prop) (S : q_S) (a0 : Nat) (x1 : Int32) (z2 : Int64) (x4 : Int32) (x5 : Int32) (Q : Option Value → q_S → Prop) : Prop := ((x4 ≤ x5 → (Q (some (.int (-1 : Int32))) S)) ∧ (¬ x4 ≤ x5 → (((¬ x1 = (5 : Int32) → (q_K S a0 = 6 ∧ (∃ a5_ : Nat, (q_P S 1005 a0) = some a5_ ∧ (q_K S a5_ = 27 ∧ (vp_in ((x1 * (8 : Int32)) + x5) (q_N S a5_) ∧ (∃ a9_ : Nat, (q_C S a5_ ((x1 * (8 : Int32)) + x5).toNatClampNeg) = some a9_ ∧ (q_K S a9_ = 11 ∧ (wb_X5_named_63 B23 S a0 x1 z2 x4 x5 (q_J S 2000 a9_) Q)))))))) ∧ (x1 = (5 : Int32) → (q_K S a0 = 6 ∧ (∃ a13_ : Nat, (q_P S 1003 a0) = some a13_ ∧ (q_K S a13_ = 26 ∧ (vp_in x5 (q_N S a13_) ∧ (∃ a17_ : Nat, (q_C S a13_ x5.toNatClampNeg) = some a17_ ∧ (q_K S a17_ = 8 ∧ (wb_X5_named_63 B23 S a0 x1 z2 x4 x5 (q_J S 1401 a17_) Q))))))))))))
set_option maxHeartbeats 4000000 in
set_option maxRecDepth 100000 in
theorem cb_X5_named_23 {p : Program} {l : Launch} {e : Env} {s : State} {m : MethodId} {args : Array Value} {below : List Frame} {meth : Method} {c : Code} {D : va_G} {cy : Nat → ClassId} {lo : Nat} {B23 : q_S → Nat → Int32 → Int64 → Int32 → Int32 → Prop} {S : q_S} {a0 : Nat} {x1 : Int32} {z2 : Int64} {x4 : Int32} {x5 : Int32} {Q : Option Value → q_S → Prop} {H : Heap} {locs : List Loc} {ls : Array Slot} (X : q_X p s m args meth c RX5 cX5_named 8 (some .int) D cy lo) (hB23 : ∀ (S : q_S) (a0 : Nat) (x1 : Int32) (z2 : Int64) (x4 : Int32) (x5 : Int32) (H : Heap) (locs : List Loc) (ls : Array Slot), B23 S a0 x1 z2 x4 x5 → q_Y D cy lo s S H locs → lv_has ls 8 [(0, .ref a0), (1, .int x1), (2, .long z2), (4, .int x4), (5, .int x5)] → W p l e ({ frames := 0, cells := 0, slots := 0, locals := 0 } : Room) s m args below meth c H locs 0 0 (MQ below (q_Q D cy lo Q) args s 0 0 (fun q => lo ≤ q)) (F0 m 23 ls [])) (Y : q_Y D cy lo s S H locs) (hl : lv_has ls 8 [(0, .ref a0), (1, .int x1), (2, .long z2), (4, .int x4), (5, .int x5)]) (h : wb_X5_named_23 B23 S a0 x1 z2 x4 x5 Q) : W p l e ({ frames := 0, cells := 0, slots := 0, locals := 0 } : Room) s m args below meth c H locs 0 0 (MQ below (q_Q D cy lo Q) args s 0 0 (fun q => lo ≤ q)) (F0 m 23 ls []) := by
  have hx := X.1
  have hb := X.2.1
  unfold wb_X5_named_23 at h
  refine lv_iload hx hb dX5_named_23 (lv_at hl 4 rfl) ?_
  refine lv_iload hx hb dX5_named_25 (lv_at hl 3 rfl) ?_
  refine lv_icmp_ge (tgt := 81) hx hb dX5_named_27 (by decide) (fun c2_ => ?_) (fun c2_ => ?_)
  · replace h := h.1 c2_
    refine lv_iconst (v := (-1)) hx hb dX5_named_81 (by decide) ?_
    exact q_iret X Y rfl (Nat.le_refl _) (Nat.le_refl _) h dX5_named_82
  · replace h := h.2 c2_
    refine lv_iload_n hx hb dX5_named_30 rfl (lv_at hl 1 rfl) ?_
    refine lv_iconst (v := 5) hx hb dX5_named_31 (by decide) ?_
    refine lv_icmp_ne (tgt := 48) hx hb dX5_named_32 (by decide) (fun c3_ => ?_) (fun c3_ => ?_)
    · replace h := h.1 c3_
      refine lv_aload_n hx hb dX5_named_48 rfl (lv_at hl 0 rfl) ?_
      obtain ⟨k4_, h⟩ := h
      refine q_getP X Y kX5 5 rfl fl_X5_26 k4_ rfl dX5_named_49 ?_
      refine lv_iload_n hx hb dX5_named_52 rfl (lv_at hl 1 rfl) ?_
      refine lv_bipush (v := 8) hx hb dX5_named_53 (by decide) ?_
      refine lv_imul hx hb dX5_named_55 ?_
      refine lv_iload hx hb dX5_named_56 (lv_at hl 4 rfl) ?_
      refine lv_iadd hx hb dX5_named_58 ?_
      obtain ⟨a5_, e6_, h⟩ := h
      refine q_nn [.int ((x1 * (8 : Int32)) + x5)] e6_ ?_
      obtain ⟨k7_, h⟩ := h
      obtain ⟨i8_, h⟩ := h
      refine q_cld X Y k7_ (by decide) (t := 7) rfl i8_ rfl dX5_named_59 ?_
      obtain ⟨a9_, e10_, h⟩ := h
      refine q_nn [] e10_ ?_
      obtain ⟨k11_, h⟩ := h
      refine q_getJ X Y kX10 0 rfl fl_X5_97 k11_ dX5_named_60 ?_
      exact cb_X5_named_63 X hB23 Y (lv_sub hl [0, 1, 2, 3, 4] rfl) h
    · replace h := h.2 c3_
      refine lv_aload_n hx hb dX5_named_35 rfl (lv_at hl 0 rfl) ?_
      obtain ⟨k12_, h⟩ := h
      refine q_getP X Y kX5 3 rfl fl_X5_20 k12_ rfl dX5_named_36 ?_
      refine lv_iload hx hb dX5_named_39 (lv_at hl 4 rfl) ?_
      obtain ⟨a13_, e14_, h⟩ := h
      refine q_nn [.int x5] e14_ ?_
      obtain ⟨k15_, h⟩ := h
      obtain ⟨i16_, h⟩ := h
      refine q_cld X Y k15_ (by decide) (t := 6) rfl i16_ rfl dX5_named_41 ?_
      obtain ⟨a17_, e18_, h⟩ := h
      refine q_nn [] e18_ ?_
      obtain ⟨k19_, h⟩ := h
      refine q_getJ X Y kX7 1 rfl fl_X5_96 k19_ dX5_named_42 ?_
      refine lv_goto (tgt := 63) hx hb dX5_named_45 (by decide) ?_
      exact cb_X5_named_63 X hB23 Y (lv_sub hl [0, 1, 2, 3, 4] rfl) h
def wl_X5_named_23  : Nat → q_S → Nat → Int32 → Int64 → Int32 → Int32 → (Option Value → q_S → Prop) → Prop
  | 0, _, _, _, _, _, _, _ => False
  | n + 1, S, a0, x1, z2, x4, x5, Q => wb_X5_named_23 (fun S a0 x1 z2 x4 x5 => wl_X5_named_23 n S a0 x1 z2 x4 x5 Q) S a0 x1 z2 x4 x5 Q
set_option maxHeartbeats 4000000 in
set_option maxRecDepth 100000 in
theorem cl_X5_named_23 {p : Program} {l : Launch} {e : Env} {s : State} {m : MethodId} {args : Array Value} {below : List Frame} {meth : Method} {c : Code} {D : va_G} {cy : Nat → ClassId} {lo : Nat}  {Q : Option Value → q_S → Prop} (X : q_X p s m args meth c RX5 cX5_named 8 (some .int) D cy lo)  : ∀ (n : Nat) (S : q_S) (a0 : Nat) (x1 : Int32) (z2 : Int64) (x4 : Int32) (x5 : Int32) (H : Heap) (locs : List Loc) (ls : Array Slot), wl_X5_named_23 n S a0 x1 z2 x4 x5 Q → q_Y D cy lo s S H locs → lv_has ls 8 [(0, .ref a0), (1, .int x1), (2, .long z2), (4, .int x4), (5, .int x5)] → W p l e ({ frames := 0, cells := 0, slots := 0, locals := 0 } : Room) s m args below meth c H locs 0 0 (MQ below (q_Q D cy lo Q) args s 0 0 (fun q => lo ≤ q)) (F0 m 23 ls []) := by
  intro n
  induction n with
  | zero => intro S a0 x1 z2 x4 x5 H locs ls h; exact absurd h id
  | succ n ih => intro S a0 x1 z2 x4 x5 H locs ls h Y hl; exact cb_X5_named_23 X ih Y hl h
def wb_X5_named_18  (S : q_S) (a0 : Nat) (x1 : Int32) (z2 : Int64) (xs0 : Int32) (Q : Option Value → q_S → Prop) : Prop := ∃ n20_ : Nat, wl_X5_named_23 n20_ S a0 x1 z2 xs0 (0 : Int32) Q
set_option maxHeartbeats 4000000 in
set_option maxRecDepth 100000 in
theorem cb_X5_named_18 {p : Program} {l : Launch} {e : Env} {s : State} {m : MethodId} {args : Array Value} {below : List Frame} {meth : Method} {c : Code} {D : va_G} {cy : Nat → ClassId} {lo : Nat}  {S : q_S} {a0 : Nat} {x1 : Int32} {z2 : Int64} {xs0 : Int32} {Q : Option Value → q_S → Prop} {H : Heap} {locs : List Loc} {ls : Array Slot} (X : q_X p s m args meth c RX5 cX5_named 8 (some .int) D cy lo)  (Y : q_Y D cy lo s S H locs) (hl : lv_has ls 8 [(0, .ref a0), (1, .int x1), (2, .long z2)]) (h : wb_X5_named_18 S a0 x1 z2 xs0 Q) : W p l e ({ frames := 0, cells := 0, slots := 0, locals := 0 } : Room) s m args below meth c H locs 0 0 (MQ below (q_Q D cy lo Q) args s 0 0 (fun q => lo ≤ q)) (F0 m 18 ls [.int xs0]) := by
  have hx := X.1
  have hb := X.2.1
  unfold wb_X5_named_18 at h
  refine lv_istore (i := 4) (lv' := [(4, .int xs0), (0, .ref a0), (1, .int x1), (2, .long z2)]) hx hb dX5_named_18 hl (by decide) (by first | rfl | simp [q_cat, q_catI, q_catJ, q_catR]) (fun ls hl => ?_)
  refine lv_iconst (v := 0) hx hb dX5_named_20 (by decide) ?_
  refine lv_istore (i := 5) (lv' := [(5, .int (0 : Int32)), (4, .int xs0), (0, .ref a0), (1, .int x1), (2, .long z2)]) hx hb dX5_named_21 hl (by decide) (by first | rfl | simp [q_cat, q_catI, q_catJ, q_catR]) (fun ls hl => ?_)
  obtain ⟨n20_, h⟩ := h
  exact cl_X5_named_23 X n20_ _ _ _ _ _ _ _ _ _ h Y (lv_sub hl [2, 3, 4, 1, 0] rfl)
def wm_X5_named (S : q_S) (a0 : Nat) (x1 : Int32) (z2 : Int64) (Q : Option Value → q_S → Prop) : Prop := ((¬ x1 = (5 : Int32) → (q_K S a0 = 6 ∧ (∃ a23_ : Nat, (q_P S 1006 a0) = some a23_ ∧ (q_K S a23_ = 21 ∧ (vp_in x1 (q_N S a23_) ∧ (wb_X5_named_18 S a0 x1 z2 (q_A S a23_ x1.toNatClampNeg) Q)))))) ∧ (x1 = (5 : Int32) → (q_K S a0 = 6 ∧ (wb_X5_named_18 S a0 x1 z2 (q_I S 1004 a0) Q))))
set_option maxHeartbeats 4000000 in
set_option maxRecDepth 100000 in
theorem cm_X5_named {l : Launch} {D : va_G} {cy : Nat → ClassId} {lo : Nat} {S : q_S} {a0 : Nat} {x1 : Int32} {z2 : Int64} {Q : Option Value → q_S → Prop} (h : wm_X5_named S a0 x1 z2 Q) : q_Met l D cy lo yX5_named cX5_named 8 (some .int) 0 0 0 0 [.ref a0, .int x1, .long z2] S Q := by
  refine q_body (by decide) (by first | exact Nat.le_of_ble_eq_true rfl | simp [lg_sl, q_cat, q_catI, q_catJ, q_catR]) ?_
  intro p e s m below meth c ls X hnm Y hl
  have hx := X.1
  have hb := X.2.1
  have hl : lv_has ls 8 [(0, .ref a0), (1, .int x1), (2, .long z2)] := by first | exact hl | simpa [lv_args, q_cat, q_catI, q_catJ, q_catR] using hl
  generalize hargs : ([.ref a0, .int x1, .long z2] : List Value).toArray = args at X ⊢
  unfold wm_X5_named at h
  refine lv_iload_n hx hb dX5_named_0 rfl (lv_at hl 1 rfl) ?_
  refine lv_iconst (v := 5) hx hb dX5_named_1 (by decide) ?_
  refine lv_icmp_ne (tgt := 12) hx hb dX5_named_2 (by decide) (fun c21_ => ?_) (fun c21_ => ?_)
  · replace h := h.1 c21_
    refine lv_aload_n hx hb dX5_named_12 rfl (lv_at hl 0 rfl) ?_
    obtain ⟨k22_, h⟩ := h
    refine q_getP X Y kX5 6 rfl fl_X5_30 k22_ rfl dX5_named_13 ?_
    refine lv_iload_n hx hb dX5_named_16 rfl (lv_at hl 1 rfl) ?_
    obtain ⟨a23_, e24_, h⟩ := h
    refine q_nn [.int x1] e24_ ?_
    obtain ⟨k25_, h⟩ := h
    obtain ⟨i26_, h⟩ := h
    refine q_ild X Y k25_ i26_ dX5_named_17 ?_
    exact cb_X5_named_18 X Y (lv_sub hl [0, 1, 2] rfl) h
  · replace h := h.2 c21_
    refine lv_aload_n hx hb dX5_named_5 rfl (lv_at hl 0 rfl) ?_
    obtain ⟨k27_, h⟩ := h
    refine q_getI X Y kX5 4 rfl fl_X5_45 k27_ dX5_named_6 ?_
    refine lv_goto (tgt := 18) hx hb dX5_named_9 (by decide) ?_
    exact cb_X5_named_18 X Y (lv_sub hl [0, 1, 2] rfl) h
-- X0_findNamed
theorem fl_X0_356 : Cond.fieldLink RX0 356 "PartitionWorks$Partition" "memory" "LPartitionWorks$Memory;" ∈ q_G := q_tb (i := 698) (by decide +kernel) (by decide +kernel)
theorem fl_X0_360 : Cond.fieldLink RX0 360 "PartitionWorks$Memory" "bytes" "I" ∈ q_G := q_tb (i := 660) (by decide +kernel) (by decide +kernel)
theorem ml_X0_365 : Cond.methodLink RX0 365 yX4_nameAt ∈ q_G := q_tb (i := 1719) (by decide +kernel) (by decide +kernel)
theorem mt_X4_nameAt : q_Mt yX4_nameAt cX4_nameAt 7 (some .long) 2 := ⟨q_tb (i := 1722) (by decide +kernel) (by decide +kernel), q_tb (i := 21) (by decide +kernel) (by decide +kernel), by decide +kernel, by decide +kernel, by decide +kernel⟩
theorem mi_X4_nameAt : Cond.instanceMethod yX4_nameAt ∈ q_G ∧ Cond.selects yX4_nameAt.cls yX4_nameAt yX4_nameAt ∈ q_G := ⟨q_tb (i := 1720) (by decide +kernel) (by decide +kernel), q_tb (i := 1721) (by decide +kernel) (by decide +kernel)⟩
theorem ml_X0_369 : Cond.methodLink RX0 369 yX5_named ∈ q_G := q_tb (i := 1726) (by decide +kernel) (by decide +kernel)
theorem mt_X5_named : q_Mt yX5_named cX5_named 8 (some .int) 2 := ⟨q_tb (i := 830) (by decide +kernel) (by decide +kernel), q_tb (i := 20) (by decide +kernel) (by decide +kernel), by decide +kernel, by decide +kernel, by decide +kernel⟩
theorem mi_X5_named : Cond.instanceMethod yX5_named ∈ q_G ∧ Cond.selects yX5_named.cls yX5_named yX5_named ∈ q_G := ⟨q_tb (i := 828) (by decide +kernel) (by decide +kernel), q_tb (i := 829) (by decide +kernel) (by decide +kernel)⟩
theorem dX0_findNamed_0 : decode cX0_findNamed 0 = .ok (.iload_n 1, 1) := by decide +kernel
theorem dX0_findNamed_1 : decode cX0_findNamed 1 = .ok (.ifCond .lt 19, 3) := by decide +kernel
theorem dX0_findNamed_4 : decode cX0_findNamed 4 = .ok (.iload_n 1, 1) := by decide +kernel
theorem dX0_findNamed_5 : decode cX0_findNamed 5 = .ok (.iconst 5, 1) := by decide +kernel
theorem dX0_findNamed_6 : decode cX0_findNamed 6 = .ok (.if_icmp .gt 14, 3) := by decide +kernel
theorem dX0_findNamed_9 : decode cX0_findNamed 9 = .ok (.iload_n 3, 1) := by decide +kernel
theorem dX0_findNamed_10 : decode cX0_findNamed 10 = .ok (.iconst 1, 1) := by decide +kernel
theorem dX0_findNamed_11 : decode cX0_findNamed 11 = .ok (.if_icmp .lt 9, 3) := by decide +kernel
theorem dX0_findNamed_14 : decode cX0_findNamed 14 = .ok (.iload_n 3, 1) := by decide +kernel
theorem dX0_findNamed_15 : decode cX0_findNamed 15 = .ok (.bipush 12, 2) := by decide +kernel
theorem dX0_findNamed_17 : decode cX0_findNamed 17 = .ok (.if_icmp .le 5, 3) := by decide +kernel
theorem dX0_findNamed_20 : decode cX0_findNamed 20 = .ok (.iconst 1, 1) := by decide +kernel
theorem dX0_findNamed_21 : decode cX0_findNamed 21 = .ok (.ireturn, 1) := by decide +kernel
theorem dX0_findNamed_22 : decode cX0_findNamed 22 = .ok (.iload_n 2, 1) := by decide +kernel
theorem dX0_findNamed_23 : decode cX0_findNamed 23 = .ok (.ifCond .lt 19, 3) := by decide +kernel
theorem dX0_findNamed_26 : decode cX0_findNamed 26 = .ok (.iload_n 2, 1) := by decide +kernel
theorem dX0_findNamed_27 : decode cX0_findNamed 27 = .ok (.aload_n 0, 1) := by decide +kernel
theorem dX0_findNamed_28 : decode cX0_findNamed 28 = .ok (.getfield 15, 3) := by decide +kernel
theorem dX0_findNamed_31 : decode cX0_findNamed 31 = .ok (.getfield 356, 3) := by decide +kernel
theorem dX0_findNamed_34 : decode cX0_findNamed 34 = .ok (.getfield 360, 3) := by decide +kernel
theorem dX0_findNamed_37 : decode cX0_findNamed 37 = .ok (.iload_n 3, 1) := by decide +kernel
theorem dX0_findNamed_38 : decode cX0_findNamed 38 = .ok (.isub, 1) := by decide +kernel
theorem dX0_findNamed_39 : decode cX0_findNamed 39 = .ok (.if_icmp .le 5, 3) := by decide +kernel
theorem dX0_findNamed_42 : decode cX0_findNamed 42 = .ok (.iconst 1, 1) := by decide +kernel
theorem dX0_findNamed_43 : decode cX0_findNamed 43 = .ok (.ireturn, 1) := by decide +kernel
theorem dX0_findNamed_44 : decode cX0_findNamed 44 = .ok (.aload_n 0, 1) := by decide +kernel
theorem dX0_findNamed_45 : decode cX0_findNamed 45 = .ok (.getfield 15, 3) := by decide +kernel
theorem dX0_findNamed_48 : decode cX0_findNamed 48 = .ok (.iload_n 1, 1) := by decide +kernel
theorem dX0_findNamed_49 : decode cX0_findNamed 49 = .ok (.aload_n 0, 1) := by decide +kernel
theorem dX0_findNamed_50 : decode cX0_findNamed 50 = .ok (.getfield 15, 3) := by decide +kernel
theorem dX0_findNamed_53 : decode cX0_findNamed 53 = .ok (.getfield 356, 3) := by decide +kernel
theorem dX0_findNamed_56 : decode cX0_findNamed 56 = .ok (.iload_n 2, 1) := by decide +kernel
theorem dX0_findNamed_57 : decode cX0_findNamed 57 = .ok (.iload_n 3, 1) := by decide +kernel
theorem dX0_findNamed_58 : decode cX0_findNamed 58 = .ok (.invokevirtual 365, 3) := by decide +kernel
theorem dX0_findNamed_61 : decode cX0_findNamed 61 = .ok (.invokevirtual 369, 3) := by decide +kernel
theorem dX0_findNamed_64 : decode cX0_findNamed 64 = .ok (.istore 4, 2) := by decide +kernel
theorem dX0_findNamed_66 : decode cX0_findNamed 66 = .ok (.iload 4, 2) := by decide +kernel
theorem dX0_findNamed_68 : decode cX0_findNamed 68 = .ok (.iconst (-1), 1) := by decide +kernel
theorem dX0_findNamed_69 : decode cX0_findNamed 69 = .ok (.if_icmp .ne 5, 3) := by decide +kernel
theorem dX0_findNamed_72 : decode cX0_findNamed 72 = .ok (.iconst 2, 1) := by decide +kernel
theorem dX0_findNamed_73 : decode cX0_findNamed 73 = .ok (.ireturn, 1) := by decide +kernel
theorem dX0_findNamed_74 : decode cX0_findNamed 74 = .ok (.aload_n 0, 1) := by decide +kernel
theorem dX0_findNamed_75 : decode cX0_findNamed 75 = .ok (.getfield 29, 3) := by decide +kernel
theorem dX0_findNamed_78 : decode cX0_findNamed 78 = .ok (.bipush 11, 2) := by decide +kernel
theorem dX0_findNamed_80 : decode cX0_findNamed 80 = .ok (.iload 4, 2) := by decide +kernel
theorem dX0_findNamed_82 : decode cX0_findNamed 82 = .ok (.iastore, 1) := by decide +kernel
theorem dX0_findNamed_83 : decode cX0_findNamed 83 = .ok (.iconst 0, 1) := by decide +kernel
theorem dX0_findNamed_84 : decode cX0_findNamed 84 = .ok (.ireturn, 1) := by decide +kernel
def wb_X0_findNamed_20  (S : q_S) (Q : Option Value → q_S → Prop) : Prop := Q (some (.int (1 : Int32))) S
set_option maxHeartbeats 4000000 in
set_option maxRecDepth 100000 in
theorem cb_X0_findNamed_20 {p : Program} {l : Launch} {e : Env} {s : State} {m : MethodId} {args : Array Value} {below : List Frame} {meth : Method} {c : Code} {D : va_G} {cy : Nat → ClassId} {lo : Nat}  {S : q_S} {Q : Option Value → q_S → Prop} {H : Heap} {locs : List Loc} {ls : Array Slot} (X : q_X p s m args meth c RX0 cX0_findNamed 5 (some .int) D cy lo)  (Y : q_Y D cy lo s S H locs) (hl : lv_has ls 5 []) (h : wb_X0_findNamed_20 S Q) : W p l e ({ frames := 3, cells := 0, slots := 0, locals := 69 } : Room) s m args below meth c H locs 0 0 (MQ below (q_Q D cy lo Q) args s 0 0 (fun q => lo ≤ q)) (F0 m 20 ls []) := by
  have hx := X.1
  have hb := X.2.1
  unfold wb_X0_findNamed_20 at h
  refine lv_iconst (v := 1) hx hb dX0_findNamed_20 (by decide) ?_
  exact q_iret X Y rfl (Nat.le_refl _) (Nat.le_refl _) h dX0_findNamed_21
def wb_X0_findNamed_42  (S : q_S) (Q : Option Value → q_S → Prop) : Prop := Q (some (.int (1 : Int32))) S
set_option maxHeartbeats 4000000 in
set_option maxRecDepth 100000 in
theorem cb_X0_findNamed_42 {p : Program} {l : Launch} {e : Env} {s : State} {m : MethodId} {args : Array Value} {below : List Frame} {meth : Method} {c : Code} {D : va_G} {cy : Nat → ClassId} {lo : Nat}  {S : q_S} {Q : Option Value → q_S → Prop} {H : Heap} {locs : List Loc} {ls : Array Slot} (X : q_X p s m args meth c RX0 cX0_findNamed 5 (some .int) D cy lo)  (Y : q_Y D cy lo s S H locs) (hl : lv_has ls 5 []) (h : wb_X0_findNamed_42 S Q) : W p l e ({ frames := 3, cells := 0, slots := 0, locals := 69 } : Room) s m args below meth c H locs 0 0 (MQ below (q_Q D cy lo Q) args s 0 0 (fun q => lo ≤ q)) (F0 m 42 ls []) := by
  have hx := X.1
  have hb := X.2.1
  unfold wb_X0_findNamed_42 at h
  refine lv_iconst (v := 1) hx hb dX0_findNamed_42 (by decide) ?_
  exact q_iret X Y rfl (Nat.le_refl _) (Nat.le_refl _) h dX0_findNamed_43
def wm_X0_findNamed (S : q_S) (a0 : Nat) (x1 : Int32) (x2 : Int32) (x3 : Int32) (Q : Option Value → q_S → Prop) : Prop := ((x1 < 0 → (wb_X0_findNamed_20 S Q)) ∧ (¬ x1 < 0 → ((((5 : Int32) < x1 → (wb_X0_findNamed_20 S Q)) ∧ (¬ (5 : Int32) < x1 → (((x3 < (1 : Int32) → (wb_X0_findNamed_20 S Q)) ∧ (¬ x3 < (1 : Int32) → (((x3 ≤ (12 : Int32) → (((x2 < 0 → (wb_X0_findNamed_42 S Q)) ∧ (¬ x2 < 0 → (q_K S a0 = 1 ∧ (∃ a7_ : Nat, (q_P S 1 a0) = some a7_ ∧ (q_K S a7_ = 6 ∧ (∃ a10_ : Nat, (q_P S 1002 a7_) = some a10_ ∧ (q_K S a10_ = 5 ∧ (((x2 ≤ ((q_I S 800 a10_) - x3) → (wm_X4_nameAt S a10_ x2 x3 (fun r14_ S15_ => ∃ z16_ : Int64, r14_ = some (.long z16_) ∧ (q_K S15_ a7_ = 6 ∧ (wm_X5_named S15_ a7_ x1 z16_ (fun r18_ S19_ => ∃ x20_ : Int32, r18_ = some (.int x20_) ∧ (((¬ x20_ = (-1 : Int32) → (q_K S19_ a0 = 1 ∧ (∃ a23_ : Nat, (q_P S19_ 3 a0) = some a23_ ∧ (q_K S19_ a23_ = 21 ∧ (vp_in (11 : Int32) (q_N S19_ a23_) ∧ (Q (some (.int (0 : Int32))) (qs_A S19_ a23_ (11 : Int32).toNatClampNeg x20_))))))) ∧ (x20_ = (-1 : Int32) → (Q (some (.int (2 : Int32))) S19_)))))))))) ∧ (¬ x2 ≤ ((q_I S 800 a10_) - x3) → (wb_X0_findNamed_42 S Q))))))))))))) ∧ (¬ x3 ≤ (12 : Int32) → (wb_X0_findNamed_20 S Q))))))))))))
set_option maxHeartbeats 4000000 in
set_option maxRecDepth 100000 in
theorem cm_X0_findNamed {l : Launch} {D : va_G} {cy : Nat → ClassId} {lo : Nat} {S : q_S} {a0 : Nat} {x1 : Int32} {x2 : Int32} {x3 : Int32} {Q : Option Value → q_S → Prop} (h : wm_X0_findNamed S a0 x1 x2 x3 Q) : q_Met l D cy lo yX0_findNamed cX0_findNamed 5 (some .int) 3 69 0 0 [.ref a0, .int x1, .int x2, .int x3] S Q := by
  refine q_body (by decide) (by first | exact Nat.le_of_ble_eq_true rfl | simp [lg_sl, q_cat, q_catI, q_catJ, q_catR]) ?_
  intro p e s m below meth c ls X hnm Y hl
  have hx := X.1
  have hb := X.2.1
  have hl : lv_has ls 5 [(0, .ref a0), (1, .int x1), (2, .int x2), (3, .int x3)] := by first | exact hl | simpa [lv_args, q_cat, q_catI, q_catJ, q_catR] using hl
  generalize hargs : ([.ref a0, .int x1, .int x2, .int x3] : List Value).toArray = args at X ⊢
  unfold wm_X0_findNamed at h
  refine lv_iload_n hx hb dX0_findNamed_0 rfl (lv_at hl 1 rfl) ?_
  refine lv_if_lt (tgt := 20) hx hb dX0_findNamed_1 (by decide) (fun c1_ => ?_) (fun c1_ => ?_)
  · replace h := h.1 c1_
    exact cb_X0_findNamed_20 X Y (lv_sub hl [] rfl) h
  · replace h := h.2 c1_
    refine lv_iload_n hx hb dX0_findNamed_4 rfl (lv_at hl 1 rfl) ?_
    refine lv_iconst (v := 5) hx hb dX0_findNamed_5 (by decide) ?_
    refine lv_icmp_gt (tgt := 20) hx hb dX0_findNamed_6 (by decide) (fun c2_ => ?_) (fun c2_ => ?_)
    · replace h := h.1 c2_
      exact cb_X0_findNamed_20 X Y (lv_sub hl [] rfl) h
    · replace h := h.2 c2_
      refine lv_iload_n hx hb dX0_findNamed_9 rfl (lv_at hl 3 rfl) ?_
      refine lv_iconst (v := 1) hx hb dX0_findNamed_10 (by decide) ?_
      refine lv_icmp_lt (tgt := 20) hx hb dX0_findNamed_11 (by decide) (fun c3_ => ?_) (fun c3_ => ?_)
      · replace h := h.1 c3_
        exact cb_X0_findNamed_20 X Y (lv_sub hl [] rfl) h
      · replace h := h.2 c3_
        refine lv_iload_n hx hb dX0_findNamed_14 rfl (lv_at hl 3 rfl) ?_
        refine lv_bipush (v := 12) hx hb dX0_findNamed_15 (by decide) ?_
        refine lv_icmp_le (tgt := 22) hx hb dX0_findNamed_17 (by decide) (fun c4_ => ?_) (fun c4_ => ?_)
        · replace h := h.1 c4_
          refine lv_iload_n hx hb dX0_findNamed_22 rfl (lv_at hl 2 rfl) ?_
          refine lv_if_lt (tgt := 42) hx hb dX0_findNamed_23 (by decide) (fun c5_ => ?_) (fun c5_ => ?_)
          · replace h := h.1 c5_
            exact cb_X0_findNamed_42 X Y (lv_sub hl [] rfl) h
          · replace h := h.2 c5_
            refine lv_iload_n hx hb dX0_findNamed_26 rfl (lv_at hl 2 rfl) ?_
            refine lv_aload_n hx hb dX0_findNamed_27 rfl (lv_at hl 0 rfl) ?_
            obtain ⟨k6_, h⟩ := h
            refine q_getP X Y kX0 1 rfl fl_X0_15 k6_ rfl dX0_findNamed_28 ?_
            obtain ⟨a7_, e8_, h⟩ := h
            refine q_nn [] e8_ ?_
            obtain ⟨k9_, h⟩ := h
            refine q_getP X Y kX5 2 rfl fl_X0_356 k9_ rfl dX0_findNamed_31 ?_
            obtain ⟨a10_, e11_, h⟩ := h
            refine q_nn [] e11_ ?_
            obtain ⟨k12_, h⟩ := h
            refine q_getI X Y kX4 0 rfl fl_X0_360 k12_ dX0_findNamed_34 ?_
            refine lv_iload_n hx hb dX0_findNamed_37 rfl (lv_at hl 3 rfl) ?_
            refine lv_isub hx hb dX0_findNamed_38 ?_
            refine lv_icmp_le (tgt := 44) hx hb dX0_findNamed_39 (by decide) (fun c13_ => ?_) (fun c13_ => ?_)
            · replace h := h.1 c13_
              refine lv_aload_n hx hb dX0_findNamed_44 rfl (lv_at hl 0 rfl) ?_
              refine q_getR X Y kX0 1 rfl fl_X0_15 k6_ e8_ dX0_findNamed_45 ?_
              refine lv_iload_n hx hb dX0_findNamed_48 rfl (lv_at hl 1 rfl) ?_
              refine lv_aload_n hx hb dX0_findNamed_49 rfl (lv_at hl 0 rfl) ?_
              refine q_getR X Y kX0 1 rfl fl_X0_15 k6_ e8_ dX0_findNamed_50 ?_
              refine q_getR X Y kX5 2 rfl fl_X0_356 k9_ e11_ dX0_findNamed_53 ?_
              refine lv_iload_n hx hb dX0_findNamed_56 rfl (lv_at hl 2 rfl) ?_
              refine lv_iload_n hx hb dX0_findNamed_57 rfl (lv_at hl 3 rfl) ?_
              refine q_callV X Y hl (cm_X4_nameAt h) mt_X4_nameAt mi_X4_nameAt ml_X0_365 (ci := 4) rfl k12_ (by decide) rfl rfl (by first | exact Nat.le_of_ble_eq_true rfl | simp [q_cat, q_catI, q_catJ, q_catR]) ⟨Nat.le_of_ble_eq_true rfl, Nat.le_of_ble_eq_true rfl⟩ ⟨Nat.le_of_ble_eq_true rfl, Nat.le_of_ble_eq_true rfl⟩ dX0_findNamed_58 (fun r14_ S15_ H locs hp Y => ?_)
              obtain ⟨z16_, rfl, h⟩ := hp
              refine W.eq (g2 := F0 m 61 ls [.long z16_, .int x1, .ref a7_]) rfl ?_
              obtain ⟨k17_, h⟩ := h
              refine q_callV X Y hl (cm_X5_named h) mt_X5_named mi_X5_named ml_X0_369 (ci := 5) rfl k17_ (by decide) rfl rfl (by first | exact Nat.le_of_ble_eq_true rfl | simp [q_cat, q_catI, q_catJ, q_catR]) ⟨Nat.le_of_ble_eq_true rfl, Nat.le_of_ble_eq_true rfl⟩ ⟨Nat.le_of_ble_eq_true rfl, Nat.le_of_ble_eq_true rfl⟩ dX0_findNamed_61 (fun r18_ S19_ H locs hp Y => ?_)
              obtain ⟨x20_, rfl, h⟩ := hp
              refine W.eq (g2 := F0 m 64 ls [.int x20_]) rfl ?_
              refine lv_istore (i := 4) (lv' := [(4, .int x20_), (0, .ref a0), (1, .int x1), (2, .int x2), (3, .int x3)]) hx hb dX0_findNamed_64 hl (by decide) (by first | rfl | simp [q_cat, q_catI, q_catJ, q_catR]) (fun ls hl => ?_)
              refine lv_iload hx hb dX0_findNamed_66 (lv_at hl 0 rfl) ?_
              refine lv_iconst (v := (-1)) hx hb dX0_findNamed_68 (by decide) ?_
              refine lv_icmp_ne (tgt := 74) hx hb dX0_findNamed_69 (by decide) (fun c21_ => ?_) (fun c21_ => ?_)
              · replace h := h.1 c21_
                refine lv_aload_n hx hb dX0_findNamed_74 rfl (lv_at hl 1 rfl) ?_
                obtain ⟨k22_, h⟩ := h
                refine q_getP X Y kX0 3 rfl fl_X0_29 k22_ rfl dX0_findNamed_75 ?_
                refine lv_bipush (v := 11) hx hb dX0_findNamed_78 (by decide) ?_
                refine lv_iload hx hb dX0_findNamed_80 (lv_at hl 0 rfl) ?_
                obtain ⟨a23_, e24_, h⟩ := h
                refine q_nn [.int x20_, .int (11 : Int32)] e24_ ?_
                obtain ⟨k25_, h⟩ := h
                obtain ⟨i26_, h⟩ := h
                refine q_ist X Y k25_ i26_ dX0_findNamed_82 (fun H locs Y => ?_)
                refine lv_iconst (v := 0) hx hb dX0_findNamed_83 (by decide) ?_
                exact q_iret X Y rfl (Nat.le_refl _) (Nat.le_refl _) h dX0_findNamed_84
              · replace h := h.2 c21_
                refine lv_iconst (v := 2) hx hb dX0_findNamed_72 (by decide) ?_
                exact q_iret X Y rfl (Nat.le_refl _) (Nat.le_refl _) h dX0_findNamed_73
            · replace h := h.2 c13_
              exact cb_X0_findNamed_42 X Y (lv_sub hl [] rfl) h
        · replace h := h.2 c4_
          exact cb_X0_findNamed_20 X Y (lv_sub hl [] rfl) h
-- X0_ofLooks
theorem ml_X0_347 : Cond.methodLink RX0 347 yX0_findNamed ∈ q_G := q_tb (i := 1715) (by decide +kernel) (by decide +kernel)
theorem mt_X0_findNamed : q_Mt yX0_findNamed cX0_findNamed 5 (some .int) 3 := ⟨q_tb (i := 1718) (by decide +kernel) (by decide +kernel), q_tb (i := 10) (by decide +kernel) (by decide +kernel), by decide +kernel, by decide +kernel, by decide +kernel⟩
theorem mi_X0_findNamed : Cond.instanceMethod yX0_findNamed ∈ q_G ∧ Cond.selects yX0_findNamed.cls yX0_findNamed yX0_findNamed ∈ q_G := ⟨q_tb (i := 1717) (by decide +kernel) (by decide +kernel), q_tp (i := 85) (q := (yX0_findNamed, 5)) (by decide +kernel) (by decide +kernel)⟩
theorem fl_X0_331 : Cond.fieldLink RX0 331 "PartitionWorks$Partition" "number" "I" ∈ q_G := q_tb (i := 692) (by decide +kernel) (by decide +kernel)
theorem fl_X0_332 : Cond.fieldLink RX0 332 "PartitionWorks$Partition" "how" "I" ∈ q_G := q_tb (i := 713) (by decide +kernel) (by decide +kernel)
theorem ml_X0_335 : Cond.methodLink RX0 335 yX0_tellThing ∈ q_G := q_tb (i := 1700) (by decide +kernel) (by decide +kernel)
theorem mt_X0_tellThing : q_Mt yX0_tellThing cX0_tellThing 5 (some .int) 2 := ⟨q_tb (i := 1703) (by decide +kernel) (by decide +kernel), q_tb (i := 10) (by decide +kernel) (by decide +kernel), by decide +kernel, by decide +kernel, by decide +kernel⟩
theorem mi_X0_tellThing : Cond.instanceMethod yX0_tellThing ∈ q_G ∧ Cond.selects yX0_tellThing.cls yX0_tellThing yX0_tellThing ∈ q_G := ⟨q_tb (i := 1702) (by decide +kernel) (by decide +kernel), q_tp (i := 84) (q := (yX0_tellThing, 5)) (by decide +kernel) (by decide +kernel)⟩
theorem ml_X0_338 : Cond.methodLink RX0 338 yX6_ticksLeft ∈ q_G := q_tb (i := 1706) (by decide +kernel) (by decide +kernel)
theorem mt_X6_ticksLeft : q_Mt yX6_ticksLeft cX6_ticksLeft 2 (some .int) 0 := ⟨q_tb (i := 1709) (by decide +kernel) (by decide +kernel), q_tb (i := 3) (by decide +kernel) (by decide +kernel), by decide +kernel, by decide +kernel, by decide +kernel⟩
theorem mi_X6_ticksLeft : Cond.instanceMethod yX6_ticksLeft ∈ q_G ∧ Cond.selects yX6_ticksLeft.cls yX6_ticksLeft yX6_ticksLeft ∈ q_G := ⟨q_tb (i := 1707) (by decide +kernel) (by decide +kernel), q_tb (i := 1708) (by decide +kernel) (by decide +kernel)⟩
theorem ml_X0_341 : Cond.methodLink RX0 341 yX6_ticksBetween ∈ q_G := q_tb (i := 1710) (by decide +kernel) (by decide +kernel)
theorem mt_X6_ticksBetween : q_Mt yX6_ticksBetween cX6_ticksBetween 5 (some .int) 0 := ⟨q_tb (i := 1713) (by decide +kernel) (by decide +kernel), q_tb (i := 3) (by decide +kernel) (by decide +kernel), by decide +kernel, by decide +kernel, by decide +kernel⟩
theorem mi_X6_ticksBetween : Cond.instanceMethod yX6_ticksBetween ∈ q_G ∧ Cond.selects yX6_ticksBetween.cls yX6_ticksBetween yX6_ticksBetween ∈ q_G := ⟨q_tb (i := 1711) (by decide +kernel) (by decide +kernel), q_tb (i := 1712) (by decide +kernel) (by decide +kernel)⟩
theorem ml_X0_344 : Cond.methodLink RX0 344 yX6_frameTicks ∈ q_G := q_tb (i := 1714) (by decide +kernel) (by decide +kernel)
theorem dX0_ofLooks_0 : decode cX0_ofLooks 0 = .ok (.iload_n 1, 1) := by decide +kernel
theorem dX0_ofLooks_1 : decode cX0_ofLooks 1 = .ok (.tableswitch 145 32 35 #[31, 75, 82, 101], 31) := by decide +kernel
theorem dX0_ofLooks_32 : decode cX0_ofLooks 32 = .ok (.aload_n 0, 1) := by decide +kernel
theorem dX0_ofLooks_33 : decode cX0_ofLooks 33 = .ok (.getfield 29, 3) := by decide +kernel
theorem dX0_ofLooks_36 : decode cX0_ofLooks 36 = .ok (.bipush 11, 2) := by decide +kernel
theorem dX0_ofLooks_38 : decode cX0_ofLooks 38 = .ok (.aload_n 0, 1) := by decide +kernel
theorem dX0_ofLooks_39 : decode cX0_ofLooks 39 = .ok (.getfield 15, 3) := by decide +kernel
theorem dX0_ofLooks_42 : decode cX0_ofLooks 42 = .ok (.getfield 331, 3) := by decide +kernel
theorem dX0_ofLooks_45 : decode cX0_ofLooks 45 = .ok (.iastore, 1) := by decide +kernel
theorem dX0_ofLooks_46 : decode cX0_ofLooks 46 = .ok (.aload_n 0, 1) := by decide +kernel
theorem dX0_ofLooks_47 : decode cX0_ofLooks 47 = .ok (.getfield 29, 3) := by decide +kernel
theorem dX0_ofLooks_50 : decode cX0_ofLooks 50 = .ok (.bipush 12, 2) := by decide +kernel
theorem dX0_ofLooks_52 : decode cX0_ofLooks 52 = .ok (.aload_n 0, 1) := by decide +kernel
theorem dX0_ofLooks_53 : decode cX0_ofLooks 53 = .ok (.getfield 15, 3) := by decide +kernel
theorem dX0_ofLooks_56 : decode cX0_ofLooks 56 = .ok (.getfield 332, 3) := by decide +kernel
theorem dX0_ofLooks_59 : decode cX0_ofLooks 59 = .ok (.iastore, 1) := by decide +kernel
theorem dX0_ofLooks_60 : decode cX0_ofLooks 60 = .ok (.aload_n 0, 1) := by decide +kernel
theorem dX0_ofLooks_61 : decode cX0_ofLooks 61 = .ok (.getfield 29, 3) := by decide +kernel
theorem dX0_ofLooks_64 : decode cX0_ofLooks 64 = .ok (.bipush 13, 2) := by decide +kernel
theorem dX0_ofLooks_66 : decode cX0_ofLooks 66 = .ok (.aload_n 0, 1) := by decide +kernel
theorem dX0_ofLooks_67 : decode cX0_ofLooks 67 = .ok (.getfield 15, 3) := by decide +kernel
theorem dX0_ofLooks_70 : decode cX0_ofLooks 70 = .ok (.getfield 70, 3) := by decide +kernel
theorem dX0_ofLooks_73 : decode cX0_ofLooks 73 = .ok (.iastore, 1) := by decide +kernel
theorem dX0_ofLooks_74 : decode cX0_ofLooks 74 = .ok (.iconst 0, 1) := by decide +kernel
theorem dX0_ofLooks_75 : decode cX0_ofLooks 75 = .ok (.ireturn, 1) := by decide +kernel
theorem dX0_ofLooks_76 : decode cX0_ofLooks 76 = .ok (.aload_n 0, 1) := by decide +kernel
theorem dX0_ofLooks_77 : decode cX0_ofLooks 77 = .ok (.iload_n 2, 1) := by decide +kernel
theorem dX0_ofLooks_78 : decode cX0_ofLooks 78 = .ok (.iload_n 3, 1) := by decide +kernel
theorem dX0_ofLooks_79 : decode cX0_ofLooks 79 = .ok (.invokevirtual 335, 3) := by decide +kernel
theorem dX0_ofLooks_82 : decode cX0_ofLooks 82 = .ok (.ireturn, 1) := by decide +kernel
theorem dX0_ofLooks_83 : decode cX0_ofLooks 83 = .ok (.aload_n 0, 1) := by decide +kernel
theorem dX0_ofLooks_84 : decode cX0_ofLooks 84 = .ok (.iload_n 3, 1) := by decide +kernel
theorem dX0_ofLooks_85 : decode cX0_ofLooks 85 = .ok (.invokevirtual 101, 3) := by decide +kernel
theorem dX0_ofLooks_88 : decode cX0_ofLooks 88 = .ok (.ifCond .eq 7, 3) := by decide +kernel
theorem dX0_ofLooks_91 : decode cX0_ofLooks 91 = .ok (.iconst 1, 1) := by decide +kernel
theorem dX0_ofLooks_92 : decode cX0_ofLooks 92 = .ok (.goto 9, 3) := by decide +kernel
theorem dX0_ofLooks_95 : decode cX0_ofLooks 95 = .ok (.aload_n 0, 1) := by decide +kernel
theorem dX0_ofLooks_96 : decode cX0_ofLooks 96 = .ok (.iload_n 2, 1) := by decide +kernel
theorem dX0_ofLooks_97 : decode cX0_ofLooks 97 = .ok (.iload_n 3, 1) := by decide +kernel
theorem dX0_ofLooks_98 : decode cX0_ofLooks 98 = .ok (.invokevirtual 109, 3) := by decide +kernel
theorem dX0_ofLooks_101 : decode cX0_ofLooks 101 = .ok (.ireturn, 1) := by decide +kernel
theorem dX0_ofLooks_102 : decode cX0_ofLooks 102 = .ok (.aload_n 0, 1) := by decide +kernel
theorem dX0_ofLooks_103 : decode cX0_ofLooks 103 = .ok (.getfield 29, 3) := by decide +kernel
theorem dX0_ofLooks_106 : decode cX0_ofLooks 106 = .ok (.bipush 11, 2) := by decide +kernel
theorem dX0_ofLooks_108 : decode cX0_ofLooks 108 = .ok (.aload_n 0, 1) := by decide +kernel
theorem dX0_ofLooks_109 : decode cX0_ofLooks 109 = .ok (.getfield 9, 3) := by decide +kernel
theorem dX0_ofLooks_112 : decode cX0_ofLooks 112 = .ok (.invokevirtual 338, 3) := by decide +kernel
theorem dX0_ofLooks_115 : decode cX0_ofLooks 115 = .ok (.iastore, 1) := by decide +kernel
theorem dX0_ofLooks_116 : decode cX0_ofLooks 116 = .ok (.aload_n 0, 1) := by decide +kernel
theorem dX0_ofLooks_117 : decode cX0_ofLooks 117 = .ok (.getfield 29, 3) := by decide +kernel
theorem dX0_ofLooks_120 : decode cX0_ofLooks 120 = .ok (.bipush 12, 2) := by decide +kernel
theorem dX0_ofLooks_122 : decode cX0_ofLooks 122 = .ok (.aload_n 0, 1) := by decide +kernel
theorem dX0_ofLooks_123 : decode cX0_ofLooks 123 = .ok (.getfield 9, 3) := by decide +kernel
theorem dX0_ofLooks_126 : decode cX0_ofLooks 126 = .ok (.invokevirtual 341, 3) := by decide +kernel
theorem dX0_ofLooks_129 : decode cX0_ofLooks 129 = .ok (.iastore, 1) := by decide +kernel
theorem dX0_ofLooks_130 : decode cX0_ofLooks 130 = .ok (.aload_n 0, 1) := by decide +kernel
theorem dX0_ofLooks_131 : decode cX0_ofLooks 131 = .ok (.getfield 29, 3) := by decide +kernel
theorem dX0_ofLooks_134 : decode cX0_ofLooks 134 = .ok (.bipush 13, 2) := by decide +kernel
theorem dX0_ofLooks_136 : decode cX0_ofLooks 136 = .ok (.aload_n 0, 1) := by decide +kernel
theorem dX0_ofLooks_137 : decode cX0_ofLooks 137 = .ok (.getfield 9, 3) := by decide +kernel
theorem dX0_ofLooks_140 : decode cX0_ofLooks 140 = .ok (.invokevirtual 344, 3) := by decide +kernel
theorem dX0_ofLooks_143 : decode cX0_ofLooks 143 = .ok (.iastore, 1) := by decide +kernel
theorem dX0_ofLooks_144 : decode cX0_ofLooks 144 = .ok (.iconst 0, 1) := by decide +kernel
theorem dX0_ofLooks_145 : decode cX0_ofLooks 145 = .ok (.ireturn, 1) := by decide +kernel
theorem dX0_ofLooks_146 : decode cX0_ofLooks 146 = .ok (.aload_n 0, 1) := by decide +kernel
theorem dX0_ofLooks_147 : decode cX0_ofLooks 147 = .ok (.iload_n 2, 1) := by decide +kernel
theorem dX0_ofLooks_148 : decode cX0_ofLooks 148 = .ok (.iload_n 3, 1) := by decide +kernel
theorem dX0_ofLooks_149 : decode cX0_ofLooks 149 = .ok (.iload 4, 2) := by decide +kernel
theorem dX0_ofLooks_151 : decode cX0_ofLooks 151 = .ok (.invokevirtual 347, 3) := by decide +kernel
theorem dX0_ofLooks_154 : decode cX0_ofLooks 154 = .ok (.ireturn, 1) := by decide +kernel
def wb_X0_ofLooks_101  (S : q_S) (xs0 : Int32) (Q : Option Value → q_S → Prop) : Prop := Q (some (.int xs0)) S
set_option maxHeartbeats 4000000 in
set_option maxRecDepth 100000 in
theorem cb_X0_ofLooks_101 {p : Program} {l : Launch} {e : Env} {s : State} {m : MethodId} {args : Array Value} {below : List Frame} {meth : Method} {c : Code} {D : va_G} {cy : Nat → ClassId} {lo : Nat}  {S : q_S} {xs0 : Int32} {Q : Option Value → q_S → Prop} {H : Heap} {locs : List Loc} {ls : Array Slot} (X : q_X p s m args meth c RX0 cX0_ofLooks 5 (some .int) D cy lo)  (Y : q_Y D cy lo s S H locs) (hl : lv_has ls 5 []) (h : wb_X0_ofLooks_101 S xs0 Q) : W p l e ({ frames := 4, cells := 0, slots := 0, locals := 93 } : Room) s m args below meth c H locs 0 0 (MQ below (q_Q D cy lo Q) args s 0 0 (fun q => lo ≤ q)) (F0 m 101 ls [.int xs0]) := by
  have hx := X.1
  have hb := X.2.1
  unfold wb_X0_ofLooks_101 at h
  exact q_iret X Y rfl (Nat.le_refl _) (Nat.le_refl _) h dX0_ofLooks_101
def wm_X0_ofLooks (S : q_S) (a0 : Nat) (x1 : Int32) (x2 : Int32) (x3 : Int32) (x4 : Int32) (Q : Option Value → q_S → Prop) : Prop := (((x1.toInt < 32 ∨ 35 < x1.toInt) → (q_K S a0 = 1 ∧ (wm_X0_findNamed S a0 x2 x3 x4 (fun r2_ S3_ => ∃ x4_ : Int32, r2_ = some (.int x4_) ∧ (Q (some (.int x4_)) S3_))))) ∧ ((x1 = (32 : Int32)) → (q_K S a0 = 1 ∧ (∃ a6_ : Nat, (q_P S 1 a0) = some a6_ ∧ (q_K S a6_ = 6 ∧ (∃ a9_ : Nat, (q_P S 3 a0) = some a9_ ∧ (q_K S a9_ = 21 ∧ (vp_in (11 : Int32) (q_N S a9_) ∧ (∃ a13_ : Nat, (q_P (qs_A S a9_ (11 : Int32).toNatClampNeg (q_I S 1000 a6_)) 1 a0) = some a13_ ∧ (q_K (qs_A S a9_ (11 : Int32).toNatClampNeg (q_I S 1000 a6_)) a13_ = 6 ∧ (∃ a16_ : Nat, (q_P (qs_A S a9_ (11 : Int32).toNatClampNeg (q_I S 1000 a6_)) 3 a0) = some a16_ ∧ (q_K (qs_A S a9_ (11 : Int32).toNatClampNeg (q_I S 1000 a6_)) a16_ = 21 ∧ (vp_in (12 : Int32) (q_N (qs_A S a9_ (11 : Int32).toNatClampNeg (q_I S 1000 a6_)) a16_) ∧ (∀ S20_ : q_S, S20_ = (qs_A (qs_A S a9_ (11 : Int32).toNatClampNeg (q_I S 1000 a6_)) a16_ (12 : Int32).toNatClampNeg (q_I (qs_A S a9_ (11 : Int32).toNatClampNeg (q_I S 1000 a6_)) 1010 a13_)) → (∃ a21_ : Nat, (q_P S20_ 1 a0) = some a21_ ∧ (q_K S20_ a21_ = 6 ∧ (∃ a24_ : Nat, (q_P S20_ 3 a0) = some a24_ ∧ (q_K S20_ a24_ = 21 ∧ (vp_in (13 : Int32) (q_N S20_ a24_) ∧ (Q (some (.int (0 : Int32))) (qs_A S20_ a24_ (13 : Int32).toNatClampNeg (q_I S20_ 1013 a21_))))))))))))))))))))) ∧ ((x1 = (33 : Int32)) → (q_K S a0 = 1 ∧ (wm_X0_tellThing S a0 x2 x3 (fun r29_ S30_ => ∃ x31_ : Int32, r29_ = some (.int x31_) ∧ (Q (some (.int x31_)) S30_))))) ∧ ((x1 = (34 : Int32)) → (q_K S a0 = 1 ∧ (wm_X0_isNoDelay S a0 x3 (fun r33_ S34_ => ∃ x35_ : Int32, r33_ = some (.int x35_) ∧ (((x35_ = 0 → (q_K S34_ a0 = 1 ∧ (wm_X0_startOther S34_ a0 x2 x3 (fun r38_ S39_ => ∃ x40_ : Int32, r38_ = some (.int x40_) ∧ (wb_X0_ofLooks_101 S39_ x40_ Q))))) ∧ (¬ x35_ = 0 → (wb_X0_ofLooks_101 S34_ (1 : Int32) Q)))))))) ∧ ((x1 = (35 : Int32)) → (q_K S a0 = 1 ∧ (∃ a42_ : Nat, (q_P S 0 a0) = some a42_ ∧ (q_K S a42_ = 7 ∧ (wm_X6_ticksLeft S a42_ (fun r45_ S46_ => ∃ x47_ : Int32, r45_ = some (.int x47_) ∧ (∃ a48_ : Nat, (q_P S 3 a0) = some a48_ ∧ (q_K S46_ a48_ = 21 ∧ (vp_in (11 : Int32) (q_N S46_ a48_) ∧ (q_K (qs_A S46_ a48_ (11 : Int32).toNatClampNeg x47_) a0 = 1 ∧ (∃ a53_ : Nat, (q_P (qs_A S46_ a48_ (11 : Int32).toNatClampNeg x47_) 0 a0) = some a53_ ∧ (q_K (qs_A S46_ a48_ (11 : Int32).toNatClampNeg x47_) a53_ = 7 ∧ (wm_X6_ticksBetween (qs_A S46_ a48_ (11 : Int32).toNatClampNeg x47_) a53_ (fun r56_ S57_ => ∃ x58_ : Int32, r56_ = some (.int x58_) ∧ (∃ a59_ : Nat, (q_P (qs_A S46_ a48_ (11 : Int32).toNatClampNeg x47_) 3 a0) = some a59_ ∧ (q_K S57_ a59_ = 21 ∧ (vp_in (12 : Int32) (q_N S57_ a59_) ∧ (q_K (qs_A S57_ a59_ (12 : Int32).toNatClampNeg x58_) a0 = 1 ∧ (∃ a64_ : Nat, (q_P (qs_A S57_ a59_ (12 : Int32).toNatClampNeg x58_) 0 a0) = some a64_ ∧ (q_K (qs_A S57_ a59_ (12 : Int32).toNatClampNeg x58_) a64_ = 7 ∧ (wm_X6_frameTicks (qs_A S57_ a59_ (12 : Int32).toNatClampNeg x58_) a64_ (fun r67_ S68_ => ∃ x69_ : Int32, r67_ = some (.int x69_) ∧ (∃ a70_ : Nat, (q_P (qs_A S57_ a59_ (12 : Int32).toNatClampNeg x58_) 3 a0) = some a70_ ∧ (q_K S68_ a70_ = 21 ∧ (vp_in (13 : Int32) (q_N S68_ a70_) ∧ (Q (some (.int (0 : Int32))) (qs_A S68_ a70_ (13 : Int32).toNatClampNeg x69_))))))))))))))))))))))))))))
set_option maxHeartbeats 4000000 in
set_option maxRecDepth 100000 in
theorem cm_X0_ofLooks {l : Launch} {D : va_G} {cy : Nat → ClassId} {lo : Nat} {S : q_S} {a0 : Nat} {x1 : Int32} {x2 : Int32} {x3 : Int32} {x4 : Int32} {Q : Option Value → q_S → Prop} (h : wm_X0_ofLooks S a0 x1 x2 x3 x4 Q) : q_Met l D cy lo yX0_ofLooks cX0_ofLooks 5 (some .int) 4 93 0 0 [.ref a0, .int x1, .int x2, .int x3, .int x4] S Q := by
  refine q_body (by decide) (by first | exact Nat.le_of_ble_eq_true rfl | simp [lg_sl, q_cat, q_catI, q_catJ, q_catR]) ?_
  intro p e s m below meth c ls X hnm Y hl
  have hx := X.1
  have hb := X.2.1
  have hl : lv_has ls 5 [(0, .ref a0), (1, .int x1), (2, .int x2), (3, .int x3), (4, .int x4)] := by first | exact hl | simpa [lv_args, q_cat, q_catI, q_catJ, q_catR] using hl
  generalize hargs : ([.ref a0, .int x1, .int x2, .int x3, .int x4] : List Value).toArray = args at X ⊢
  unfold wm_X0_ofLooks at h
  refine lv_iload_n hx hb dX0_ofLooks_0 rfl (lv_at hl 1 rfl) ?_
  refine q_tsw (tgt := 146) hx hb dX0_ofLooks_1 (by decide) (by decide) (fun c74_ => ?_) (fun j75_ hj_ c74_ => ?_)
  · replace h := h.1 c74_
    refine lv_aload_n hx hb dX0_ofLooks_146 rfl (lv_at hl 0 rfl) ?_
    refine lv_iload_n hx hb dX0_ofLooks_147 rfl (lv_at hl 2 rfl) ?_
    refine lv_iload_n hx hb dX0_ofLooks_148 rfl (lv_at hl 3 rfl) ?_
    refine lv_iload hx hb dX0_ofLooks_149 (lv_at hl 4 rfl) ?_
    obtain ⟨k1_, h⟩ := h
    refine q_callV X Y hl (cm_X0_findNamed h) mt_X0_findNamed mi_X0_findNamed ml_X0_347 (ci := 0) rfl k1_ (by decide) rfl rfl (by first | exact Nat.le_of_ble_eq_true rfl | simp [q_cat, q_catI, q_catJ, q_catR]) ⟨Nat.le_of_ble_eq_true rfl, Nat.le_of_ble_eq_true rfl⟩ ⟨Nat.le_of_ble_eq_true rfl, Nat.le_of_ble_eq_true rfl⟩ dX0_ofLooks_151 (fun r2_ S3_ H locs hp Y => ?_)
    obtain ⟨x4_, rfl, h⟩ := hp
    refine W.eq (g2 := F0 m 154 ls [.int x4_]) rfl ?_
    exact q_iret X Y rfl (Nat.le_refl _) (Nat.le_refl _) h dX0_ofLooks_154
  · match j75_, hj_, c74_ with
    | 0, _, c74_ =>
      refine ⟨31, 32, rfl, by decide, ?_⟩
      replace h := h.2.1 (q_eqI c74_ (by decide))
      refine lv_aload_n hx hb dX0_ofLooks_32 rfl (lv_at hl 0 rfl) ?_
      obtain ⟨k5_, h⟩ := h
      refine q_getP X Y kX0 3 rfl fl_X0_29 k5_ rfl dX0_ofLooks_33 ?_
      refine lv_bipush (v := 11) hx hb dX0_ofLooks_36 (by decide) ?_
      refine lv_aload_n hx hb dX0_ofLooks_38 rfl (lv_at hl 0 rfl) ?_
      refine q_getP X Y kX0 1 rfl fl_X0_15 k5_ rfl dX0_ofLooks_39 ?_
      obtain ⟨a6_, e7_, h⟩ := h
      refine q_nn [] e7_ ?_
      obtain ⟨k8_, h⟩ := h
      refine q_getI X Y kX5 0 rfl fl_X0_331 k8_ dX0_ofLooks_42 ?_
      obtain ⟨a9_, e10_, h⟩ := h
      refine q_nn [.int (q_I S 1000 a6_), .int (11 : Int32)] e10_ ?_
      obtain ⟨k11_, h⟩ := h
      obtain ⟨i12_, h⟩ := h
      refine q_ist X Y k11_ i12_ dX0_ofLooks_45 (fun H locs Y => ?_)
      refine lv_aload_n hx hb dX0_ofLooks_46 rfl (lv_at hl 0 rfl) ?_
      refine q_getP X Y kX0 3 rfl fl_X0_29 k5_ rfl dX0_ofLooks_47 ?_
      refine lv_bipush (v := 12) hx hb dX0_ofLooks_50 (by decide) ?_
      refine lv_aload_n hx hb dX0_ofLooks_52 rfl (lv_at hl 0 rfl) ?_
      refine q_getP X Y kX0 1 rfl fl_X0_15 k5_ rfl dX0_ofLooks_53 ?_
      obtain ⟨a13_, e14_, h⟩ := h
      refine q_nn [] e14_ ?_
      obtain ⟨k15_, h⟩ := h
      refine q_getI X Y kX5 10 rfl fl_X0_332 k15_ dX0_ofLooks_56 ?_
      obtain ⟨a16_, e17_, h⟩ := h
      refine q_nn [.int (q_I (qs_A S a9_ (11 : Int32).toNatClampNeg (q_I S 1000 a6_)) 1010 a13_), .int (12 : Int32)] e17_ ?_
      obtain ⟨k18_, h⟩ := h
      obtain ⟨i19_, h⟩ := h
      refine q_ist X Y k18_ i19_ dX0_ofLooks_59 (fun H locs Y => ?_)
      obtain ⟨S20_, gS20_⟩ : ∃ z : q_S, z = (qs_A (qs_A S a9_ (11 : Int32).toNatClampNeg (q_I S 1000 a6_)) a16_ (12 : Int32).toNatClampNeg (q_I (qs_A S a9_ (11 : Int32).toNatClampNeg (q_I S 1000 a6_)) 1010 a13_)) := ⟨_, rfl⟩
      replace Y : q_Y D cy lo s S20_ H locs := by rw [gS20_]; exact Y
      replace h := h S20_ gS20_
      replace k5_ : q_K S20_ a0 = 1 := by rw [gS20_]; exact k5_
      replace k8_ : q_K S20_ a6_ = 6 := by rw [gS20_]; exact k8_
      replace k11_ : q_K S20_ a9_ = 21 := by rw [gS20_]; exact k11_
      replace k15_ : q_K S20_ a13_ = 6 := by rw [gS20_]; exact k15_
      replace k18_ : q_K S20_ a16_ = 21 := by rw [gS20_]; exact k18_
      refine lv_aload_n hx hb dX0_ofLooks_60 rfl (lv_at hl 0 rfl) ?_
      refine q_getP X Y kX0 3 rfl fl_X0_29 k5_ rfl dX0_ofLooks_61 ?_
      refine lv_bipush (v := 13) hx hb dX0_ofLooks_64 (by decide) ?_
      refine lv_aload_n hx hb dX0_ofLooks_66 rfl (lv_at hl 0 rfl) ?_
      refine q_getP X Y kX0 1 rfl fl_X0_15 k5_ rfl dX0_ofLooks_67 ?_
      obtain ⟨a21_, e22_, h⟩ := h
      refine q_nn [] e22_ ?_
      obtain ⟨k23_, h⟩ := h
      refine q_getI X Y kX5 13 rfl fl_X0_70 k23_ dX0_ofLooks_70 ?_
      obtain ⟨a24_, e25_, h⟩ := h
      refine q_nn [.int (q_I S20_ 1013 a21_), .int (13 : Int32)] e25_ ?_
      obtain ⟨k26_, h⟩ := h
      obtain ⟨i27_, h⟩ := h
      refine q_ist X Y k26_ i27_ dX0_ofLooks_73 (fun H locs Y => ?_)
      refine lv_iconst (v := 0) hx hb dX0_ofLooks_74 (by decide) ?_
      exact q_iret X Y rfl (Nat.le_refl _) (Nat.le_refl _) h dX0_ofLooks_75
    | 1, _, c74_ =>
      refine ⟨75, 76, rfl, by decide, ?_⟩
      replace h := h.2.2.1 (q_eqI c74_ (by decide))
      refine lv_aload_n hx hb dX0_ofLooks_76 rfl (lv_at hl 0 rfl) ?_
      refine lv_iload_n hx hb dX0_ofLooks_77 rfl (lv_at hl 2 rfl) ?_
      refine lv_iload_n hx hb dX0_ofLooks_78 rfl (lv_at hl 3 rfl) ?_
      obtain ⟨k28_, h⟩ := h
      refine q_callV X Y hl (cm_X0_tellThing h) mt_X0_tellThing mi_X0_tellThing ml_X0_335 (ci := 0) rfl k28_ (by decide) rfl rfl (by first | exact Nat.le_of_ble_eq_true rfl | simp [q_cat, q_catI, q_catJ, q_catR]) ⟨Nat.le_of_ble_eq_true rfl, Nat.le_of_ble_eq_true rfl⟩ ⟨Nat.le_of_ble_eq_true rfl, Nat.le_of_ble_eq_true rfl⟩ dX0_ofLooks_79 (fun r29_ S30_ H locs hp Y => ?_)
      obtain ⟨x31_, rfl, h⟩ := hp
      refine W.eq (g2 := F0 m 82 ls [.int x31_]) rfl ?_
      exact q_iret X Y rfl (Nat.le_refl _) (Nat.le_refl _) h dX0_ofLooks_82
    | 2, _, c74_ =>
      refine ⟨82, 83, rfl, by decide, ?_⟩
      replace h := h.2.2.2.1 (q_eqI c74_ (by decide))
      refine lv_aload_n hx hb dX0_ofLooks_83 rfl (lv_at hl 0 rfl) ?_
      refine lv_iload_n hx hb dX0_ofLooks_84 rfl (lv_at hl 3 rfl) ?_
      obtain ⟨k32_, h⟩ := h
      refine q_callV X Y hl (cm_X0_isNoDelay h) mt_X0_isNoDelay mi_X0_isNoDelay ml_X0_101 (ci := 0) rfl k32_ (by decide) rfl rfl (by first | exact Nat.le_of_ble_eq_true rfl | simp [q_cat, q_catI, q_catJ, q_catR]) ⟨Nat.le_of_ble_eq_true rfl, Nat.le_of_ble_eq_true rfl⟩ ⟨Nat.le_of_ble_eq_true rfl, Nat.le_of_ble_eq_true rfl⟩ dX0_ofLooks_85 (fun r33_ S34_ H locs hp Y => ?_)
      obtain ⟨x35_, rfl, h⟩ := hp
      refine W.eq (g2 := F0 m 88 ls [.int x35_]) rfl ?_
      refine lv_if_eq (tgt := 95) hx hb dX0_ofLooks_88 (by decide) (fun c36_ => ?_) (fun c36_ => ?_)
      · replace h := h.1 c36_
        refine lv_aload_n hx hb dX0_ofLooks_95 rfl (lv_at hl 0 rfl) ?_
        refine lv_iload_n hx hb dX0_ofLooks_96 rfl (lv_at hl 2 rfl) ?_
        refine lv_iload_n hx hb dX0_ofLooks_97 rfl (lv_at hl 3 rfl) ?_
        obtain ⟨k37_, h⟩ := h
        refine q_callV X Y hl (cm_X0_startOther h) mt_X0_startOther mi_X0_startOther ml_X0_109 (ci := 0) rfl k37_ (by decide) rfl rfl (by first | exact Nat.le_of_ble_eq_true rfl | simp [q_cat, q_catI, q_catJ, q_catR]) ⟨Nat.le_of_ble_eq_true rfl, Nat.le_of_ble_eq_true rfl⟩ ⟨Nat.le_of_ble_eq_true rfl, Nat.le_of_ble_eq_true rfl⟩ dX0_ofLooks_98 (fun r38_ S39_ H locs hp Y => ?_)
        obtain ⟨x40_, rfl, h⟩ := hp
        refine W.eq (g2 := F0 m 101 ls [.int x40_]) rfl ?_
        exact cb_X0_ofLooks_101 X Y (lv_sub hl [] rfl) h
      · replace h := h.2 c36_
        refine lv_iconst (v := 1) hx hb dX0_ofLooks_91 (by decide) ?_
        refine lv_goto (tgt := 101) hx hb dX0_ofLooks_92 (by decide) ?_
        exact cb_X0_ofLooks_101 X Y (lv_sub hl [] rfl) h
    | 3, _, c74_ =>
      refine ⟨101, 102, rfl, by decide, ?_⟩
      replace h := h.2.2.2.2 (q_eqI c74_ (by decide))
      refine lv_aload_n hx hb dX0_ofLooks_102 rfl (lv_at hl 0 rfl) ?_
      obtain ⟨k41_, h⟩ := h
      refine q_getP X Y kX0 3 rfl fl_X0_29 k41_ rfl dX0_ofLooks_103 ?_
      refine lv_bipush (v := 11) hx hb dX0_ofLooks_106 (by decide) ?_
      refine lv_aload_n hx hb dX0_ofLooks_108 rfl (lv_at hl 0 rfl) ?_
      refine q_getP X Y kX0 0 rfl fl_X0_9 k41_ rfl dX0_ofLooks_109 ?_
      obtain ⟨a42_, e43_, h⟩ := h
      refine q_nn [] e43_ ?_
      obtain ⟨k44_, h⟩ := h
      refine q_callV X Y hl (cm_X6_ticksLeft h) mt_X6_ticksLeft mi_X6_ticksLeft ml_X0_338 (ci := 6) rfl k44_ (by decide) rfl rfl (by first | exact Nat.le_of_ble_eq_true rfl | simp [q_cat, q_catI, q_catJ, q_catR]) ⟨Nat.le_of_ble_eq_true rfl, Nat.le_of_ble_eq_true rfl⟩ ⟨Nat.le_of_ble_eq_true rfl, Nat.le_of_ble_eq_true rfl⟩ dX0_ofLooks_112 (fun r45_ S46_ H locs hp Y => ?_)
      obtain ⟨x47_, rfl, h⟩ := hp
      refine W.eq (g2 := F0 m 115 ls [.int x47_, .int (11 : Int32), va_rf (q_P S 3 a0)]) rfl ?_
      obtain ⟨a48_, e49_, h⟩ := h
      refine q_nn [.int x47_, .int (11 : Int32)] e49_ ?_
      obtain ⟨k50_, h⟩ := h
      obtain ⟨i51_, h⟩ := h
      refine q_ist X Y k50_ i51_ dX0_ofLooks_115 (fun H locs Y => ?_)
      refine lv_aload_n hx hb dX0_ofLooks_116 rfl (lv_at hl 0 rfl) ?_
      obtain ⟨k52_, h⟩ := h
      refine q_getP X Y kX0 3 rfl fl_X0_29 k52_ rfl dX0_ofLooks_117 ?_
      refine lv_bipush (v := 12) hx hb dX0_ofLooks_120 (by decide) ?_
      refine lv_aload_n hx hb dX0_ofLooks_122 rfl (lv_at hl 0 rfl) ?_
      refine q_getP X Y kX0 0 rfl fl_X0_9 k52_ rfl dX0_ofLooks_123 ?_
      obtain ⟨a53_, e54_, h⟩ := h
      refine q_nn [] e54_ ?_
      obtain ⟨k55_, h⟩ := h
      refine q_callV X Y hl (cm_X6_ticksBetween h) mt_X6_ticksBetween mi_X6_ticksBetween ml_X0_341 (ci := 6) rfl k55_ (by decide) rfl rfl (by first | exact Nat.le_of_ble_eq_true rfl | simp [q_cat, q_catI, q_catJ, q_catR]) ⟨Nat.le_of_ble_eq_true rfl, Nat.le_of_ble_eq_true rfl⟩ ⟨Nat.le_of_ble_eq_true rfl, Nat.le_of_ble_eq_true rfl⟩ dX0_ofLooks_126 (fun r56_ S57_ H locs hp Y => ?_)
      obtain ⟨x58_, rfl, h⟩ := hp
      refine W.eq (g2 := F0 m 129 ls [.int x58_, .int (12 : Int32), va_rf (q_P (qs_A S46_ a48_ (11 : Int32).toNatClampNeg x47_) 3 a0)]) rfl ?_
      obtain ⟨a59_, e60_, h⟩ := h
      refine q_nn [.int x58_, .int (12 : Int32)] e60_ ?_
      obtain ⟨k61_, h⟩ := h
      obtain ⟨i62_, h⟩ := h
      refine q_ist X Y k61_ i62_ dX0_ofLooks_129 (fun H locs Y => ?_)
      refine lv_aload_n hx hb dX0_ofLooks_130 rfl (lv_at hl 0 rfl) ?_
      obtain ⟨k63_, h⟩ := h
      refine q_getP X Y kX0 3 rfl fl_X0_29 k63_ rfl dX0_ofLooks_131 ?_
      refine lv_bipush (v := 13) hx hb dX0_ofLooks_134 (by decide) ?_
      refine lv_aload_n hx hb dX0_ofLooks_136 rfl (lv_at hl 0 rfl) ?_
      refine q_getP X Y kX0 0 rfl fl_X0_9 k63_ rfl dX0_ofLooks_137 ?_
      obtain ⟨a64_, e65_, h⟩ := h
      refine q_nn [] e65_ ?_
      obtain ⟨k66_, h⟩ := h
      refine q_callV X Y hl (cm_X6_frameTicks h) mt_X6_frameTicks mi_X6_frameTicks ml_X0_344 (ci := 6) rfl k66_ (by decide) rfl rfl (by first | exact Nat.le_of_ble_eq_true rfl | simp [q_cat, q_catI, q_catJ, q_catR]) ⟨Nat.le_of_ble_eq_true rfl, Nat.le_of_ble_eq_true rfl⟩ ⟨Nat.le_of_ble_eq_true rfl, Nat.le_of_ble_eq_true rfl⟩ dX0_ofLooks_140 (fun r67_ S68_ H locs hp Y => ?_)
      obtain ⟨x69_, rfl, h⟩ := hp
      refine W.eq (g2 := F0 m 143 ls [.int x69_, .int (13 : Int32), va_rf (q_P (qs_A S57_ a59_ (12 : Int32).toNatClampNeg x58_) 3 a0)]) rfl ?_
      obtain ⟨a70_, e71_, h⟩ := h
      refine q_nn [.int x69_, .int (13 : Int32)] e71_ ?_
      obtain ⟨k72_, h⟩ := h
      obtain ⟨i73_, h⟩ := h
      refine q_ist X Y k72_ i73_ dX0_ofLooks_143 (fun H locs Y => ?_)
      refine lv_iconst (v := 0) hx hb dX0_ofLooks_144 (by decide) ?_
      exact q_iret X Y rfl (Nat.le_refl _) (Nat.le_refl _) h dX0_ofLooks_145
    | z_ + 4, hj_, _ => exact absurd hj_ (by simp)
