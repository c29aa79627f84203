-- X12_sends
theorem dX12_sends_0 : decode cX12_sends 0 = .ok (.aload_n 0, 1) := by decide +kernel
theorem dX12_sends_1 : decode cX12_sends 1 = .ok (.iload_n 1, 1) := by decide +kernel
theorem dX12_sends_2 : decode cX12_sends 2 = .ok (.iconst 4, 1) := by decide +kernel
theorem dX12_sends_3 : decode cX12_sends 3 = .ok (.iload_n 3, 1) := by decide +kernel
theorem dX12_sends_4 : decode cX12_sends 4 = .ok (.invokevirtual 616, 3) := by decide +kernel
theorem dX12_sends_7 : decode cX12_sends 7 = .ok (.ifCond .eq 17, 3) := by decide +kernel
theorem dX12_sends_10 : decode cX12_sends 10 = .ok (.aload_n 0, 1) := by decide +kernel
theorem dX12_sends_11 : decode cX12_sends 11 = .ok (.getfield 100, 3) := by decide +kernel
theorem dX12_sends_14 : decode cX12_sends 14 = .ok (.bipush 16, 2) := by decide +kernel
theorem dX12_sends_16 : decode cX12_sends 16 = .ok (.iload_n 1, 1) := by decide +kernel
theorem dX12_sends_17 : decode cX12_sends 17 = .ok (.imul, 1) := by decide +kernel
theorem dX12_sends_18 : decode cX12_sends 18 = .ok (.iload_n 3, 1) := by decide +kernel
theorem dX12_sends_19 : decode cX12_sends 19 = .ok (.iadd, 1) := by decide +kernel
theorem dX12_sends_20 : decode cX12_sends 20 = .ok (.baload, 1) := by decide +kernel
theorem dX12_sends_21 : decode cX12_sends 21 = .ok (.ifCond .ne 5, 3) := by decide +kernel
theorem dX12_sends_24 : decode cX12_sends 24 = .ok (.iconst 1, 1) := by decide +kernel
theorem dX12_sends_25 : decode cX12_sends 25 = .ok (.ireturn, 1) := by decide +kernel
theorem dX12_sends_26 : decode cX12_sends 26 = .ok (.bipush 16, 2) := by decide +kernel
theorem dX12_sends_28 : decode cX12_sends 28 = .ok (.iload_n 1, 1) := by decide +kernel
theorem dX12_sends_29 : decode cX12_sends 29 = .ok (.imul, 1) := by decide +kernel
theorem dX12_sends_30 : decode cX12_sends 30 = .ok (.iload_n 3, 1) := by decide +kernel
theorem dX12_sends_31 : decode cX12_sends 31 = .ok (.iadd, 1) := by decide +kernel
theorem dX12_sends_32 : decode cX12_sends 32 = .ok (.istore 6, 2) := by decide +kernel
theorem dX12_sends_34 : decode cX12_sends 34 = .ok (.aload_n 0, 1) := by decide +kernel
theorem dX12_sends_35 : decode cX12_sends 35 = .ok (.getfield 103, 3) := by decide +kernel
theorem dX12_sends_38 : decode cX12_sends 38 = .ok (.iload 6, 2) := by decide +kernel
theorem dX12_sends_40 : decode cX12_sends 40 = .ok (.baload, 1) := by decide +kernel
theorem dX12_sends_41 : decode cX12_sends 41 = .ok (.ifCond .eq 14, 3) := by decide +kernel
theorem dX12_sends_44 : decode cX12_sends 44 = .ok (.aload_n 0, 1) := by decide +kernel
theorem dX12_sends_45 : decode cX12_sends 45 = .ok (.iload 5, 2) := by decide +kernel
theorem dX12_sends_47 : decode cX12_sends 47 = .ok (.invokevirtual 619, 3) := by decide +kernel
theorem dX12_sends_50 : decode cX12_sends 50 = .ok (.ifCond .ne 5, 3) := by decide +kernel
theorem dX12_sends_53 : decode cX12_sends 53 = .ok (.iconst 1, 1) := by decide +kernel
theorem dX12_sends_54 : decode cX12_sends 54 = .ok (.ireturn, 1) := by decide +kernel
theorem dX12_sends_55 : decode cX12_sends 55 = .ok (.aload_n 0, 1) := by decide +kernel
theorem dX12_sends_56 : decode cX12_sends 56 = .ok (.getfield 106, 3) := by decide +kernel
theorem dX12_sends_59 : decode cX12_sends 59 = .ok (.iload 6, 2) := by decide +kernel
theorem dX12_sends_61 : decode cX12_sends 61 = .ok (.iaload, 1) := by decide +kernel
theorem dX12_sends_62 : decode cX12_sends 62 = .ok (.istore 7, 2) := by decide +kernel
theorem dX12_sends_64 : decode cX12_sends 64 = .ok (.iload 7, 2) := by decide +kernel
theorem dX12_sends_66 : decode cX12_sends 66 = .ok (.iconst (-1), 1) := by decide +kernel
theorem dX12_sends_67 : decode cX12_sends 67 = .ok (.if_icmp .ne 5, 3) := by decide +kernel
theorem dX12_sends_70 : decode cX12_sends 70 = .ok (.iconst 3, 1) := by decide +kernel
theorem dX12_sends_71 : decode cX12_sends 71 = .ok (.ireturn, 1) := by decide +kernel
theorem dX12_sends_72 : decode cX12_sends 72 = .ok (.aload_n 0, 1) := by decide +kernel
theorem dX12_sends_73 : decode cX12_sends 73 = .ok (.iload 7, 2) := by decide +kernel
theorem dX12_sends_75 : decode cX12_sends 75 = .ok (.iload 4, 2) := by decide +kernel
theorem dX12_sends_77 : decode cX12_sends 77 = .ok (.invokevirtual 531, 3) := by decide +kernel
theorem dX12_sends_80 : decode cX12_sends 80 = .ok (.aload_n 0, 1) := by decide +kernel
theorem dX12_sends_81 : decode cX12_sends 81 = .ok (.getfield 115, 3) := by decide +kernel
theorem dX12_sends_84 : decode cX12_sends 84 = .ok (.iload 7, 2) := by decide +kernel
theorem dX12_sends_86 : decode cX12_sends 86 = .ok (.baload, 1) := by decide +kernel
theorem dX12_sends_87 : decode cX12_sends 87 = .ok (.ifCond .ne 13, 3) := by decide +kernel
theorem dX12_sends_90 : decode cX12_sends 90 = .ok (.aload_n 0, 1) := by decide +kernel
theorem dX12_sends_91 : decode cX12_sends 91 = .ok (.iload 7, 2) := by decide +kernel
theorem dX12_sends_93 : decode cX12_sends 93 = .ok (.iload 4, 2) := by decide +kernel
theorem dX12_sends_95 : decode cX12_sends 95 = .ok (.invokevirtual 534, 3) := by decide +kernel
theorem dX12_sends_98 : decode cX12_sends 98 = .ok (.iconst 0, 1) := by decide +kernel
theorem dX12_sends_99 : decode cX12_sends 99 = .ok (.ireturn, 1) := by decide +kernel
theorem dX12_sends_100 : decode cX12_sends 100 = .ok (.aload_n 0, 1) := by decide +kernel
theorem dX12_sends_101 : decode cX12_sends 101 = .ok (.getfield 130, 3) := by decide +kernel
theorem dX12_sends_104 : decode cX12_sends 104 = .ok (.iconst 4, 1) := by decide +kernel
theorem dX12_sends_105 : decode cX12_sends 105 = .ok (.iload 7, 2) := by decide +kernel
theorem dX12_sends_107 : decode cX12_sends 107 = .ok (.imul, 1) := by decide +kernel
theorem dX12_sends_108 : decode cX12_sends 108 = .ok (.iaload, 1) := by decide +kernel
theorem dX12_sends_109 : decode cX12_sends 109 = .ok (.bipush (-2), 2) := by decide +kernel
theorem dX12_sends_111 : decode cX12_sends 111 = .ok (.if_icmp .eq 14, 3) := by decide +kernel
theorem dX12_sends_114 : decode cX12_sends 114 = .ok (.aload_n 0, 1) := by decide +kernel
theorem dX12_sends_115 : decode cX12_sends 115 = .ok (.iload 7, 2) := by decide +kernel
theorem dX12_sends_117 : decode cX12_sends 117 = .ok (.iload 4, 2) := by decide +kernel
theorem dX12_sends_119 : decode cX12_sends 119 = .ok (.invokevirtual 537, 3) := by decide +kernel
theorem dX12_sends_122 : decode cX12_sends 122 = .ok (.ifCond .eq 5, 3) := by decide +kernel
theorem dX12_sends_125 : decode cX12_sends 125 = .ok (.iconst 0, 1) := by decide +kernel
theorem dX12_sends_126 : decode cX12_sends 126 = .ok (.ireturn, 1) := by decide +kernel
theorem dX12_sends_127 : decode cX12_sends 127 = .ok (.aload_n 0, 1) := by decide +kernel
theorem dX12_sends_128 : decode cX12_sends 128 = .ok (.iload_n 2, 1) := by decide +kernel
theorem dX12_sends_129 : decode cX12_sends 129 = .ok (.bipush 7, 2) := by decide +kernel
theorem dX12_sends_131 : decode cX12_sends 131 = .ok (.iload 7, 2) := by decide +kernel
theorem dX12_sends_133 : decode cX12_sends 133 = .ok (.iload 5, 2) := by decide +kernel
theorem dX12_sends_135 : decode cX12_sends 135 = .ok (.invokevirtual 622, 3) := by decide +kernel
theorem dX12_sends_138 : decode cX12_sends 138 = .ok (.istore 8, 2) := by decide +kernel
theorem dX12_sends_140 : decode cX12_sends 140 = .ok (.aload_n 0, 1) := by decide +kernel
theorem dX12_sends_141 : decode cX12_sends 141 = .ok (.getfield 194, 3) := by decide +kernel
theorem dX12_sends_144 : decode cX12_sends 144 = .ok (.iload_n 2, 1) := by decide +kernel
theorem dX12_sends_145 : decode cX12_sends 145 = .ok (.iload 4, 2) := by decide +kernel
theorem dX12_sends_147 : decode cX12_sends 147 = .ok (.iastore, 1) := by decide +kernel
theorem dX12_sends_148 : decode cX12_sends 148 = .ok (.aload_n 0, 1) := by decide +kernel
theorem dX12_sends_149 : decode cX12_sends 149 = .ok (.getfield 188, 3) := by decide +kernel
theorem dX12_sends_152 : decode cX12_sends 152 = .ok (.iload_n 2, 1) := by decide +kernel
theorem dX12_sends_153 : decode cX12_sends 153 = .ok (.iload_n 3, 1) := by decide +kernel
theorem dX12_sends_154 : decode cX12_sends 154 = .ok (.iastore, 1) := by decide +kernel
theorem dX12_sends_155 : decode cX12_sends 155 = .ok (.iload 8, 2) := by decide +kernel
theorem dX12_sends_157 : decode cX12_sends 157 = .ok (.ireturn, 1) := by decide +kernel
def wb_X12_sends_24  (S : q_S) (Q : Option Value → q_S → Prop) : Prop := Q (some (.int (1 : Int32))) S
set_option maxHeartbeats 4000000 in
set_option maxRecDepth 100000 in
theorem cb_X12_sends_24 {p : Program} {l : Launch} {e : Env} {s : State} {m : MethodId} {args : Array Value} {below : List Frame} {meth : Method} {c : Code} {D : va_G} {cy : Nat → ClassId} {lo : Nat}  {S : q_S} {Q : Option Value → q_S → Prop} {H : Heap} {locs : List Loc} {ls : Array Slot} (X : q_X p s m args meth c RX12 cX12_sends 9 (some .int) D cy lo)  (Y : q_Y D cy lo s S H locs) (hl : lv_has ls 9 []) (h : wb_X12_sends_24 S Q) : W p l e ({ frames := 3, cells := 0, slots := 0, locals := 66 } : Room) s m args below meth c H locs 0 0 (MQ below (q_Q D cy lo Q) args s 0 0 (fun q => lo ≤ q)) (F0 m 24 ls []) := by
  have hx := X.1
  have hb := X.2.1
  unfold wb_X12_sends_24 at h
  refine lv_iconst (v := 1) hx hb dX12_sends_24 (by decide) ?_
  exact q_iret X Y rfl (Nat.le_refl _) (Nat.le_refl _) h dX12_sends_25
def wb_X12_sends_125  (S : q_S) (Q : Option Value → q_S → Prop) : Prop := Q (some (.int (0 : Int32))) S
set_option maxHeartbeats 4000000 in
set_option maxRecDepth 100000 in
theorem cb_X12_sends_125 {p : Program} {l : Launch} {e : Env} {s : State} {m : MethodId} {args : Array Value} {below : List Frame} {meth : Method} {c : Code} {D : va_G} {cy : Nat → ClassId} {lo : Nat}  {S : q_S} {Q : Option Value → q_S → Prop} {H : Heap} {locs : List Loc} {ls : Array Slot} (X : q_X p s m args meth c RX12 cX12_sends 9 (some .int) D cy lo)  (Y : q_Y D cy lo s S H locs) (hl : lv_has ls 9 []) (h : wb_X12_sends_125 S Q) : W p l e ({ frames := 3, cells := 0, slots := 0, locals := 66 } : Room) s m args below meth c H locs 0 0 (MQ below (q_Q D cy lo Q) args s 0 0 (fun q => lo ≤ q)) (F0 m 125 ls []) := by
  have hx := X.1
  have hb := X.2.1
  unfold wb_X12_sends_125 at h
  refine lv_iconst (v := 0) hx hb dX12_sends_125 (by decide) ?_
  exact q_iret X Y rfl (Nat.le_refl _) (Nat.le_refl _) h dX12_sends_126
def wb_X12_sends_55  (S : q_S) (a0 : Nat) (x2 : Int32) (x3 : Int32) (x4 : Int32) (x5 : Int32) (x6 : Int32) (Q : Option Value → q_S → Prop) : Prop := q_K S a0 = 13 ∧ (∃ a2_ : Nat, (q_P S 2450 a0) = some a2_ ∧ (q_K S a2_ = 21 ∧ (vp_in x6 (q_N S a2_) ∧ (((¬ (q_A S a2_ x6.toNatClampNeg) = (-1 : Int32) → (wm_X12_traced S a0 (q_A S a2_ x6.toNatClampNeg) x4 (fun r7_ S8_ => r7_ = none ∧ (q_K S8_ a0 = 13 ∧ (∃ a10_ : Nat, (q_P S8_ 2454 a0) = some a10_ ∧ (q_K S8_ a10_ = 22 ∧ (vp_in (q_A S a2_ x6.toNatClampNeg) (q_N S8_ a10_) ∧ (((¬ (q_A S8_ a10_ (q_A S a2_ x6.toNatClampNeg).toNatClampNeg) = 0 → (∃ a15_ : Nat, (q_P S8_ 2459 a0) = some a15_ ∧ (q_K S8_ a15_ = 21 ∧ (vp_in ((4 : Int32) * (q_A S a2_ x6.toNatClampNeg)) (q_N S8_ a15_) ∧ ((((q_A S8_ a15_ ((4 : Int32) * (q_A S a2_ x6.toNatClampNeg)).toNatClampNeg) = (-2 : Int32) → (wb_X12_sends_125 S8_ Q)) ∧ (¬ (q_A S8_ a15_ ((4 : Int32) * (q_A S a2_ x6.toNatClampNeg)).toNatClampNeg) = (-2 : Int32) → (wm_X12_passes S8_ a0 (q_A S a2_ x6.toNatClampNeg) x4 (fun r20_ S21_ => ∃ x22_ : Int32, r20_ = some (.int x22_) ∧ (((x22_ = 0 → (q_K S21_ a0 = 13 ∧ (wm_X12_waits S21_ a0 x2 (7 : Int32) (q_A S a2_ x6.toNatClampNeg) x5 (fun r25_ S26_ => ∃ x27_ : Int32, r25_ = some (.int x27_) ∧ (q_K S26_ a0 = 13 ∧ (∃ a29_ : Nat, (q_P S26_ 2482 a0) = some a29_ ∧ (q_K S26_ a29_ = 21 ∧ (vp_in x2 (q_N S26_ a29_) ∧ (∃ a33_ : Nat, (q_P (qs_A S26_ a29_ x2.toNatClampNeg x4) 2480 a0) = some a33_ ∧ (q_K (qs_A S26_ a29_ x2.toNatClampNeg x4) a33_ = 21 ∧ (vp_in x2 (q_N (qs_A S26_ a29_ x2.toNatClampNeg x4) a33_) ∧ (Q (some (.int x27_)) (qs_A (qs_A S26_ a29_ x2.toNatClampNeg x4) a33_ x2.toNatClampNeg x3))))))))))))) ∧ (¬ x22_ = 0 → (wb_X12_sends_125 S21_ Q))))))))))))) ∧ ((q_A S8_ a10_ (q_A S a2_ x6.toNatClampNeg).toNatClampNeg) = 0 → (wm_X12_sample S8_ a0 (q_A S a2_ x6.toNatClampNeg) x4 (fun r37_ S38_ => r37_ = none ∧ (Q (some (.int (0 : Int32))) S38_))))))))))))) ∧ ((q_A S a2_ x6.toNatClampNeg) = (-1 : Int32) → (Q (some (.int (3 : Int32))) S)))))))
set_option maxHeartbeats 4000000 in
set_option maxRecDepth 100000 in
theorem cb_X12_sends_55 {p : Program} {l : Launch} {e : Env} {s : State} {m : MethodId} {args : Array Value} {below : List Frame} {meth : Method} {c : Code} {D : va_G} {cy : Nat → ClassId} {lo : Nat}  {S : q_S} {a0 : Nat} {x2 : Int32} {x3 : Int32} {x4 : Int32} {x5 : Int32} {x6 : Int32} {Q : Option Value → q_S → Prop} {H : Heap} {locs : List Loc} {ls : Array Slot} (X : q_X p s m args meth c RX12 cX12_sends 9 (some .int) D cy lo)  (Y : q_Y D cy lo s S H locs) (hl : lv_has ls 9 [(0, .ref a0), (2, .int x2), (3, .int x3), (4, .int x4), (5, .int x5), (6, .int x6)]) (h : wb_X12_sends_55 S a0 x2 x3 x4 x5 x6 Q) : W p l e ({ frames := 3, cells := 0, slots := 0, locals := 66 } : Room) s m args below meth c H locs 0 0 (MQ below (q_Q D cy lo Q) args s 0 0 (fun q => lo ≤ q)) (F0 m 55 ls []) := by
  have hx := X.1
  have hb := X.2.1
  unfold wb_X12_sends_55 at h
  refine lv_aload_n hx hb dX12_sends_55 rfl (lv_at hl 0 rfl) ?_
  obtain ⟨k1_, h⟩ := h
  refine q_getP X Y kX12 50 rfl fl_X12_106 k1_ rfl dX12_sends_56 ?_
  refine lv_iload hx hb dX12_sends_59 (lv_at hl 5 rfl) ?_
  obtain ⟨a2_, e3_, h⟩ := h
  refine q_nn [.int x6] e3_ ?_
  obtain ⟨k4_, h⟩ := h
  obtain ⟨i5_, h⟩ := h
  refine q_ild X Y k4_ i5_ dX12_sends_61 ?_
  refine lv_istore (i := 7) (lv' := [(7, .int (q_A S a2_ x6.toNatClampNeg)), (0, .ref a0), (2, .int x2), (3, .int x3), (4, .int x4), (5, .int x5), (6, .int x6)]) hx hb dX12_sends_62 hl (by decide) (by first | rfl | simp [q_cat, q_catI, q_catJ, q_catR]) (fun ls hl => ?_)
  refine lv_iload hx hb dX12_sends_64 (lv_at hl 0 rfl) ?_
  refine lv_iconst (v := (-1)) hx hb dX12_sends_66 (by decide) ?_
  refine lv_icmp_ne (tgt := 72) hx hb dX12_sends_67 (by decide) (fun c6_ => ?_) (fun c6_ => ?_)
  · replace h := h.1 c6_
    refine lv_aload_n hx hb dX12_sends_72 rfl (lv_at hl 1 rfl) ?_
    refine lv_iload hx hb dX12_sends_73 (lv_at hl 0 rfl) ?_
    refine lv_iload hx hb dX12_sends_75 (lv_at hl 4 rfl) ?_
    refine q_callV X Y hl (cm_X12_traced h) mt_X12_traced mi_X12_traced ml_X12_531 (ci := 12) rfl k1_ (by decide) rfl rfl (by first | exact Nat.le_of_ble_eq_true rfl | simp [q_cat, q_catI, q_catJ, q_catR]) ⟨Nat.le_of_ble_eq_true rfl, Nat.le_of_ble_eq_true rfl⟩ ⟨Nat.le_of_ble_eq_true rfl, Nat.le_of_ble_eq_true rfl⟩ dX12_sends_77 (fun r7_ S8_ H locs hp Y => ?_)
    obtain ⟨rfl, h⟩ := hp
    refine W.eq (g2 := F0 m 80 ls []) rfl ?_
    refine lv_aload_n hx hb dX12_sends_80 rfl (lv_at hl 1 rfl) ?_
    obtain ⟨k9_, h⟩ := h
    refine q_getP X Y kX12 54 rfl fl_X12_115 k9_ rfl dX12_sends_81 ?_
    refine lv_iload hx hb dX12_sends_84 (lv_at hl 0 rfl) ?_
    obtain ⟨a10_, e11_, h⟩ := h
    refine q_nn [.int (q_A S a2_ x6.toNatClampNeg)] e11_ ?_
    obtain ⟨k12_, h⟩ := h
    obtain ⟨i13_, h⟩ := h
    refine q_zld X Y k12_ i13_ dX12_sends_86 ?_
    refine lv_if_ne (tgt := 100) hx hb dX12_sends_87 (by decide) (fun c14_ => ?_) (fun c14_ => ?_)
    · replace h := h.1 c14_
      refine lv_aload_n hx hb dX12_sends_100 rfl (lv_at hl 1 rfl) ?_
      refine q_getP X Y kX12 59 rfl fl_X12_130 k9_ rfl dX12_sends_101 ?_
      refine lv_iconst (v := 4) hx hb dX12_sends_104 (by decide) ?_
      refine lv_iload hx hb dX12_sends_105 (lv_at hl 0 rfl) ?_
      refine lv_imul hx hb dX12_sends_107 ?_
      obtain ⟨a15_, e16_, h⟩ := h
      refine q_nn [.int ((4 : Int32) * (q_A S a2_ x6.toNatClampNeg))] e16_ ?_
      obtain ⟨k17_, h⟩ := h
      obtain ⟨i18_, h⟩ := h
      refine q_ild X Y k17_ i18_ dX12_sends_108 ?_
      refine lv_bipush (v := (-2)) hx hb dX12_sends_109 (by decide) ?_
      refine lv_icmp_eq (tgt := 125) hx hb dX12_sends_111 (by decide) (fun c19_ => ?_) (fun c19_ => ?_)
      · replace h := h.1 c19_
        exact cb_X12_sends_125 X Y (lv_sub hl [] rfl) h
      · replace h := h.2 c19_
        refine lv_aload_n hx hb dX12_sends_114 rfl (lv_at hl 1 rfl) ?_
        refine lv_iload hx hb dX12_sends_115 (lv_at hl 0 rfl) ?_
        refine lv_iload hx hb dX12_sends_117 (lv_at hl 4 rfl) ?_
        refine q_callV X Y hl (cm_X12_passes h) mt_X12_passes mi_X12_passes ml_X12_537 (ci := 12) rfl k9_ (by decide) rfl rfl (by first | exact Nat.le_of_ble_eq_true rfl | simp [q_cat, q_catI, q_catJ, q_catR]) ⟨Nat.le_of_ble_eq_true rfl, Nat.le_of_ble_eq_true rfl⟩ ⟨Nat.le_of_ble_eq_true rfl, Nat.le_of_ble_eq_true rfl⟩ dX12_sends_119 (fun r20_ S21_ H locs hp Y => ?_)
        obtain ⟨x22_, rfl, h⟩ := hp
        refine W.eq (g2 := F0 m 122 ls [.int x22_]) rfl ?_
        refine lv_if_eq (tgt := 127) hx hb dX12_sends_122 (by decide) (fun c23_ => ?_) (fun c23_ => ?_)
        · replace h := h.1 c23_
          refine lv_aload_n hx hb dX12_sends_127 rfl (lv_at hl 1 rfl) ?_
          refine lv_iload_n hx hb dX12_sends_128 rfl (lv_at hl 2 rfl) ?_
          refine lv_bipush (v := 7) hx hb dX12_sends_129 (by decide) ?_
          refine lv_iload hx hb dX12_sends_131 (lv_at hl 0 rfl) ?_
          refine lv_iload hx hb dX12_sends_133 (lv_at hl 5 rfl) ?_
          obtain ⟨k24_, h⟩ := h
          refine q_callV X Y hl (cm_X12_waits h) mt_X12_waits mi_X12_waits ml_X12_622 (ci := 12) rfl k24_ (by decide) rfl rfl (by first | exact Nat.le_of_ble_eq_true rfl | simp [q_cat, q_catI, q_catJ, q_catR]) ⟨Nat.le_of_ble_eq_true rfl, Nat.le_of_ble_eq_true rfl⟩ ⟨Nat.le_of_ble_eq_true rfl, Nat.le_of_ble_eq_true rfl⟩ dX12_sends_135 (fun r25_ S26_ H locs hp Y => ?_)
          obtain ⟨x27_, rfl, h⟩ := hp
          refine W.eq (g2 := F0 m 138 ls [.int x27_]) rfl ?_
          refine lv_istore (i := 8) (lv' := [(8, .int x27_), (7, .int (q_A S a2_ x6.toNatClampNeg)), (0, .ref a0), (2, .int x2), (3, .int x3), (4, .int x4), (5, .int x5), (6, .int x6)]) hx hb dX12_sends_138 hl (by decide) (by first | rfl | simp [q_cat, q_catI, q_catJ, q_catR]) (fun ls hl => ?_)
          refine lv_aload_n hx hb dX12_sends_140 rfl (lv_at hl 2 rfl) ?_
          obtain ⟨k28_, h⟩ := h
          refine q_getP X Y kX12 82 rfl fl_X12_194 k28_ rfl dX12_sends_141 ?_
          refine lv_iload_n hx hb dX12_sends_144 rfl (lv_at hl 3 rfl) ?_
          refine lv_iload hx hb dX12_sends_145 (lv_at hl 5 rfl) ?_
          obtain ⟨a29_, e30_, h⟩ := h
          refine q_nn [.int x4, .int x2] e30_ ?_
          obtain ⟨k31_, h⟩ := h
          obtain ⟨i32_, h⟩ := h
          refine q_ist X Y k31_ i32_ dX12_sends_147 (fun H locs Y => ?_)
          refine lv_aload_n hx hb dX12_sends_148 rfl (lv_at hl 2 rfl) ?_
          refine q_getP X Y kX12 80 rfl fl_X12_188 k28_ rfl dX12_sends_149 ?_
          refine lv_iload_n hx hb dX12_sends_152 rfl (lv_at hl 3 rfl) ?_
          refine lv_iload_n hx hb dX12_sends_153 rfl (lv_at hl 4 rfl) ?_
          obtain ⟨a33_, e34_, h⟩ := h
          refine q_nn [.int x3, .int x2] e34_ ?_
          obtain ⟨k35_, h⟩ := h
          obtain ⟨i36_, h⟩ := h
          refine q_ist X Y k35_ i36_ dX12_sends_154 (fun H locs Y => ?_)
          refine lv_iload hx hb dX12_sends_155 (lv_at hl 0 rfl) ?_
          exact q_iret X Y rfl (Nat.le_refl _) (Nat.le_refl _) h dX12_sends_157
        · replace h := h.2 c23_
          exact cb_X12_sends_125 X Y (lv_sub hl [] rfl) h
    · replace h := h.2 c14_
      refine lv_aload_n hx hb dX12_sends_90 rfl (lv_at hl 1 rfl) ?_
      refine lv_iload hx hb dX12_sends_91 (lv_at hl 0 rfl) ?_
      refine lv_iload hx hb dX12_sends_93 (lv_at hl 4 rfl) ?_
      refine q_callV X Y hl (cm_X12_sample h) mt_X12_sample mi_X12_sample ml_X12_534 (ci := 12) rfl k9_ (by decide) rfl rfl (by first | exact Nat.le_of_ble_eq_true rfl | simp [q_cat, q_catI, q_catJ, q_catR]) ⟨Nat.le_of_ble_eq_true rfl, Nat.le_of_ble_eq_true rfl⟩ ⟨Nat.le_of_ble_eq_true rfl, Nat.le_of_ble_eq_true rfl⟩ dX12_sends_95 (fun r37_ S38_ H locs hp Y => ?_)
      obtain ⟨rfl, h⟩ := hp
      refine W.eq (g2 := F0 m 98 ls []) rfl ?_
      refine lv_iconst (v := 0) hx hb dX12_sends_98 (by decide) ?_
      exact q_iret X Y rfl (Nat.le_refl _) (Nat.le_refl _) h dX12_sends_99
  · replace h := h.2 c6_
    refine lv_iconst (v := 3) hx hb dX12_sends_70 (by decide) ?_
    exact q_iret X Y rfl (Nat.le_refl _) (Nat.le_refl _) h dX12_sends_71
def wm_X12_sends (S : q_S) (a0 : Nat) (x1 : Int32) (x2 : Int32) (x3 : Int32) (x4 : Int32) (x5 : Int32) (Q : Option Value → q_S → Prop) : Prop := q_K S a0 = 13 ∧ (wm_X12_isThing S a0 x1 (4 : Int32) x3 (fun r40_ S41_ => ∃ x42_ : Int32, r40_ = some (.int x42_) ∧ (((x42_ = 0 → (wb_X12_sends_24 S41_ Q)) ∧ (¬ x42_ = 0 → (q_K S41_ a0 = 13 ∧ (∃ a45_ : Nat, (q_P S41_ 2448 a0) = some a45_ ∧ (q_K S41_ a45_ = 22 ∧ (vp_in (((16 : Int32) * x1) + x3) (q_N S41_ a45_) ∧ (((¬ (q_A S41_ a45_ (((16 : Int32) * x1) + x3).toNatClampNeg) = 0 → (∃ a50_ : Nat, (q_P S41_ 2449 a0) = some a50_ ∧ (q_K S41_ a50_ = 22 ∧ (vp_in (((16 : Int32) * x1) + x3) (q_N S41_ a50_) ∧ ((((q_A S41_ a50_ (((16 : Int32) * x1) + x3).toNatClampNeg) = 0 → (wb_X12_sends_55 S41_ a0 x2 x3 x4 x5 (((16 : Int32) * x1) + x3) Q)) ∧ (¬ (q_A S41_ a50_ (((16 : Int32) * x1) + x3).toNatClampNeg) = 0 → (wm_X12_isTime S41_ a0 x5 (fun r55_ S56_ => ∃ x57_ : Int32, r55_ = some (.int x57_) ∧ (((¬ x57_ = 0 → (wb_X12_sends_55 S56_ a0 x2 x3 x4 x5 (((16 : Int32) * x1) + x3) Q)) ∧ (x57_ = 0 → (Q (some (.int (1 : Int32))) S56_))))))))))))) ∧ ((q_A S41_ a45_ (((16 : Int32) * x1) + x3).toNatClampNeg) = 0 → (wb_X12_sends_24 S41_ Q)))))))))))))
set_option maxHeartbeats 4000000 in
set_option maxRecDepth 100000 in
theorem cm_X12_sends {l : Launch} {D : va_G} {cy : Nat → ClassId} {lo : Nat} {S : q_S} {a0 : Nat} {x1 : Int32} {x2 : Int32} {x3 : Int32} {x4 : Int32} {x5 : Int32} {Q : Option Value → q_S → Prop} (h : wm_X12_sends S a0 x1 x2 x3 x4 x5 Q) : q_Met l D cy lo yX12_sends cX12_sends 9 (some .int) 3 66 0 0 [.ref a0, .int x1, .int x2, .int x3, .int x4, .int x5] S Q := by
  refine q_body (by decide) (by first | exact Nat.le_of_ble_eq_true rfl | simp [lg_sl, q_cat, q_catI, q_catJ, q_catR]) ?_
  intro p e s m below meth c ls X hnm Y hl
  have hx := X.1
  have hb := X.2.1
  have hl : lv_has ls 9 [(0, .ref a0), (1, .int x1), (2, .int x2), (3, .int x3), (4, .int x4), (5, .int x5)] := by first | exact hl | simpa [lv_args, q_cat, q_catI, q_catJ, q_catR] using hl
  generalize hargs : ([.ref a0, .int x1, .int x2, .int x3, .int x4, .int x5] : List Value).toArray = args at X ⊢
  unfold wm_X12_sends at h
  refine lv_aload_n hx hb dX12_sends_0 rfl (lv_at hl 0 rfl) ?_
  refine lv_iload_n hx hb dX12_sends_1 rfl (lv_at hl 1 rfl) ?_
  refine lv_iconst (v := 4) hx hb dX12_sends_2 (by decide) ?_
  refine lv_iload_n hx hb dX12_sends_3 rfl (lv_at hl 3 rfl) ?_
  obtain ⟨k39_, h⟩ := h
  refine q_callV X Y hl (cm_X12_isThing h) mt_X12_isThing mi_X12_isThing ml_X12_616 (ci := 12) rfl k39_ (by decide) rfl rfl (by first | exact Nat.le_of_ble_eq_true rfl | simp [q_cat, q_catI, q_catJ, q_catR]) ⟨Nat.le_of_ble_eq_true rfl, Nat.le_of_ble_eq_true rfl⟩ ⟨Nat.le_of_ble_eq_true rfl, Nat.le_of_ble_eq_true rfl⟩ dX12_sends_4 (fun r40_ S41_ H locs hp Y => ?_)
  obtain ⟨x42_, rfl, h⟩ := hp
  refine W.eq (g2 := F0 m 7 ls [.int x42_]) rfl ?_
  refine lv_if_eq (tgt := 24) hx hb dX12_sends_7 (by decide) (fun c43_ => ?_) (fun c43_ => ?_)
  · replace h := h.1 c43_
    exact cb_X12_sends_24 X Y (lv_sub hl [] rfl) h
  · replace h := h.2 c43_
    refine lv_aload_n hx hb dX12_sends_10 rfl (lv_at hl 0 rfl) ?_
    obtain ⟨k44_, h⟩ := h
    refine q_getP X Y kX12 48 rfl fl_X12_100 k44_ rfl dX12_sends_11 ?_
    refine lv_bipush (v := 16) hx hb dX12_sends_14 (by decide) ?_
    refine lv_iload_n hx hb dX12_sends_16 rfl (lv_at hl 1 rfl) ?_
    refine lv_imul hx hb dX12_sends_17 ?_
    refine lv_iload_n hx hb dX12_sends_18 rfl (lv_at hl 3 rfl) ?_
    refine lv_iadd hx hb dX12_sends_19 ?_
    obtain ⟨a45_, e46_, h⟩ := h
    refine q_nn [.int (((16 : Int32) * x1) + x3)] e46_ ?_
    obtain ⟨k47_, h⟩ := h
    obtain ⟨i48_, h⟩ := h
    refine q_zld X Y k47_ i48_ dX12_sends_20 ?_
    refine lv_if_ne (tgt := 26) hx hb dX12_sends_21 (by decide) (fun c49_ => ?_) (fun c49_ => ?_)
    · replace h := h.1 c49_
      refine lv_bipush (v := 16) hx hb dX12_sends_26 (by decide) ?_
      refine lv_iload_n hx hb dX12_sends_28 rfl (lv_at hl 1 rfl) ?_
      refine lv_imul hx hb dX12_sends_29 ?_
      refine lv_iload_n hx hb dX12_sends_30 rfl (lv_at hl 3 rfl) ?_
      refine lv_iadd hx hb dX12_sends_31 ?_
      refine lv_istore (i := 6) (lv' := [(6, .int (((16 : Int32) * x1) + x3)), (0, .ref a0), (1, .int x1), (2, .int x2), (3, .int x3), (4, .int x4), (5, .int x5)]) hx hb dX12_sends_32 hl (by decide) (by first | rfl | simp [q_cat, q_catI, q_catJ, q_catR]) (fun ls hl => ?_)
      refine lv_aload_n hx hb dX12_sends_34 rfl (lv_at hl 1 rfl) ?_
      refine q_getP X Y kX12 49 rfl fl_X12_103 k44_ rfl dX12_sends_35 ?_
      refine lv_iload hx hb dX12_sends_38 (lv_at hl 0 rfl) ?_
      obtain ⟨a50_, e51_, h⟩ := h
      refine q_nn [.int (((16 : Int32) * x1) + x3)] e51_ ?_
      obtain ⟨k52_, h⟩ := h
      obtain ⟨i53_, h⟩ := h
      refine q_zld X Y k52_ i53_ dX12_sends_40 ?_
      refine lv_if_eq (tgt := 55) hx hb dX12_sends_41 (by decide) (fun c54_ => ?_) (fun c54_ => ?_)
      · replace h := h.1 c54_
        exact cb_X12_sends_55 X Y (lv_sub hl [1, 3, 4, 5, 6, 0] rfl) h
      · replace h := h.2 c54_
        refine lv_aload_n hx hb dX12_sends_44 rfl (lv_at hl 1 rfl) ?_
        refine lv_iload hx hb dX12_sends_45 (lv_at hl 6 rfl) ?_
        refine q_callV X Y hl (cm_X12_isTime h) mt_X12_isTime mi_X12_isTime ml_X12_619 (ci := 12) rfl k44_ (by decide) rfl rfl (by first | exact Nat.le_of_ble_eq_true rfl | simp [q_cat, q_catI, q_catJ, q_catR]) ⟨Nat.le_of_ble_eq_true rfl, Nat.le_of_ble_eq_true rfl⟩ ⟨Nat.le_of_ble_eq_true rfl, Nat.le_of_ble_eq_true rfl⟩ dX12_sends_47 (fun r55_ S56_ H locs hp Y => ?_)
        obtain ⟨x57_, rfl, h⟩ := hp
        refine W.eq (g2 := F0 m 50 ls [.int x57_]) rfl ?_
        refine lv_if_ne (tgt := 55) hx hb dX12_sends_50 (by decide) (fun c58_ => ?_) (fun c58_ => ?_)
        · replace h := h.1 c58_
          exact cb_X12_sends_55 X Y (lv_sub hl [1, 3, 4, 5, 6, 0] rfl) h
        · replace h := h.2 c58_
          refine lv_iconst (v := 1) hx hb dX12_sends_53 (by decide) ?_
          exact q_iret X Y rfl (Nat.le_refl _) (Nat.le_refl _) h dX12_sends_54
    · replace h := h.2 c49_
      exact cb_X12_sends_24 X Y (lv_sub hl [] rfl) h
-- X12_receives
theorem dX12_receives_0 : decode cX12_receives 0 = .ok (.aload_n 0, 1) := by decide +kernel
theorem dX12_receives_1 : decode cX12_receives 1 = .ok (.iload_n 1, 1) := by decide +kernel
theorem dX12_receives_2 : decode cX12_receives 2 = .ok (.iconst 4, 1) := by decide +kernel
theorem dX12_receives_3 : decode cX12_receives 3 = .ok (.iload_n 3, 1) := by decide +kernel
theorem dX12_receives_4 : decode cX12_receives 4 = .ok (.invokevirtual 616, 3) := by decide +kernel
theorem dX12_receives_7 : decode cX12_receives 7 = .ok (.ifCond .eq 17, 3) := by decide +kernel
theorem dX12_receives_10 : decode cX12_receives 10 = .ok (.aload_n 0, 1) := by decide +kernel
theorem dX12_receives_11 : decode cX12_receives 11 = .ok (.getfield 100, 3) := by decide +kernel
theorem dX12_receives_14 : decode cX12_receives 14 = .ok (.bipush 16, 2) := by decide +kernel
theorem dX12_receives_16 : decode cX12_receives 16 = .ok (.iload_n 1, 1) := by decide +kernel
theorem dX12_receives_17 : decode cX12_receives 17 = .ok (.imul, 1) := by decide +kernel
theorem dX12_receives_18 : decode cX12_receives 18 = .ok (.iload_n 3, 1) := by decide +kernel
theorem dX12_receives_19 : decode cX12_receives 19 = .ok (.iadd, 1) := by decide +kernel
theorem dX12_receives_20 : decode cX12_receives 20 = .ok (.baload, 1) := by decide +kernel
theorem dX12_receives_21 : decode cX12_receives 21 = .ok (.ifCond .eq 5, 3) := by decide +kernel
theorem dX12_receives_24 : decode cX12_receives 24 = .ok (.iconst 1, 1) := by decide +kernel
theorem dX12_receives_25 : decode cX12_receives 25 = .ok (.ireturn, 1) := by decide +kernel
theorem dX12_receives_26 : decode cX12_receives 26 = .ok (.bipush 16, 2) := by decide +kernel
theorem dX12_receives_28 : decode cX12_receives 28 = .ok (.iload_n 1, 1) := by decide +kernel
theorem dX12_receives_29 : decode cX12_receives 29 = .ok (.imul, 1) := by decide +kernel
theorem dX12_receives_30 : decode cX12_receives 30 = .ok (.iload_n 3, 1) := by decide +kernel
theorem dX12_receives_31 : decode cX12_receives 31 = .ok (.iadd, 1) := by decide +kernel
theorem dX12_receives_32 : decode cX12_receives 32 = .ok (.istore 5, 2) := by decide +kernel
theorem dX12_receives_34 : decode cX12_receives 34 = .ok (.aload_n 0, 1) := by decide +kernel
theorem dX12_receives_35 : decode cX12_receives 35 = .ok (.getfield 103, 3) := by decide +kernel
theorem dX12_receives_38 : decode cX12_receives 38 = .ok (.iload 5, 2) := by decide +kernel
theorem dX12_receives_40 : decode cX12_receives 40 = .ok (.baload, 1) := by decide +kernel
theorem dX12_receives_41 : decode cX12_receives 41 = .ok (.ifCond .eq 14, 3) := by decide +kernel
theorem dX12_receives_44 : decode cX12_receives 44 = .ok (.aload_n 0, 1) := by decide +kernel
theorem dX12_receives_45 : decode cX12_receives 45 = .ok (.iload 4, 2) := by decide +kernel
theorem dX12_receives_47 : decode cX12_receives 47 = .ok (.invokevirtual 619, 3) := by decide +kernel
theorem dX12_receives_50 : decode cX12_receives 50 = .ok (.ifCond .ne 5, 3) := by decide +kernel
theorem dX12_receives_53 : decode cX12_receives 53 = .ok (.iconst 1, 1) := by decide +kernel
theorem dX12_receives_54 : decode cX12_receives 54 = .ok (.ireturn, 1) := by decide +kernel
theorem dX12_receives_55 : decode cX12_receives 55 = .ok (.aload_n 0, 1) := by decide +kernel
theorem dX12_receives_56 : decode cX12_receives 56 = .ok (.getfield 106, 3) := by decide +kernel
theorem dX12_receives_59 : decode cX12_receives 59 = .ok (.iload 5, 2) := by decide +kernel
theorem dX12_receives_61 : decode cX12_receives 61 = .ok (.iaload, 1) := by decide +kernel
theorem dX12_receives_62 : decode cX12_receives 62 = .ok (.istore 6, 2) := by decide +kernel
theorem dX12_receives_64 : decode cX12_receives 64 = .ok (.iload 6, 2) := by decide +kernel
theorem dX12_receives_66 : decode cX12_receives 66 = .ok (.iconst (-1), 1) := by decide +kernel
theorem dX12_receives_67 : decode cX12_receives 67 = .ok (.if_icmp .ne 5, 3) := by decide +kernel
theorem dX12_receives_70 : decode cX12_receives 70 = .ok (.iconst 3, 1) := by decide +kernel
theorem dX12_receives_71 : decode cX12_receives 71 = .ok (.ireturn, 1) := by decide +kernel
theorem dX12_receives_72 : decode cX12_receives 72 = .ok (.aload_n 0, 1) := by decide +kernel
theorem dX12_receives_73 : decode cX12_receives 73 = .ok (.getfield 115, 3) := by decide +kernel
theorem dX12_receives_76 : decode cX12_receives 76 = .ok (.iload 6, 2) := by decide +kernel
theorem dX12_receives_78 : decode cX12_receives 78 = .ok (.baload, 1) := by decide +kernel
theorem dX12_receives_79 : decode cX12_receives 79 = .ok (.ifCond .ne 62, 3) := by decide +kernel
theorem dX12_receives_82 : decode cX12_receives 82 = .ok (.aload_n 0, 1) := by decide +kernel
theorem dX12_receives_83 : decode cX12_receives 83 = .ok (.getfield 242, 3) := by decide +kernel
theorem dX12_receives_86 : decode cX12_receives 86 = .ok (.iload 6, 2) := by decide +kernel
theorem dX12_receives_88 : decode cX12_receives 88 = .ok (.baload, 1) := by decide +kernel
theorem dX12_receives_89 : decode cX12_receives 89 = .ok (.ifCond .ne 5, 3) := by decide +kernel
theorem dX12_receives_92 : decode cX12_receives 92 = .ok (.iconst 2, 1) := by decide +kernel
theorem dX12_receives_93 : decode cX12_receives 93 = .ok (.ireturn, 1) := by decide +kernel
theorem dX12_receives_94 : decode cX12_receives 94 = .ok (.aload_n 0, 1) := by decide +kernel
theorem dX12_receives_95 : decode cX12_receives 95 = .ok (.getfield 179, 3) := by decide +kernel
theorem dX12_receives_98 : decode cX12_receives 98 = .ok (.bipush 32, 2) := by decide +kernel
theorem dX12_receives_100 : decode cX12_receives 100 = .ok (.iload_n 2, 1) := by decide +kernel
theorem dX12_receives_101 : decode cX12_receives 101 = .ok (.imul, 1) := by decide +kernel
theorem dX12_receives_102 : decode cX12_receives 102 = .ok (.bipush 11, 2) := by decide +kernel
theorem dX12_receives_104 : decode cX12_receives 104 = .ok (.iadd, 1) := by decide +kernel
theorem dX12_receives_105 : decode cX12_receives 105 = .ok (.aload_n 0, 1) := by decide +kernel
theorem dX12_receives_106 : decode cX12_receives 106 = .ok (.getfield 245, 3) := by decide +kernel
theorem dX12_receives_109 : decode cX12_receives 109 = .ok (.iload 6, 2) := by decide +kernel
theorem dX12_receives_111 : decode cX12_receives 111 = .ok (.iaload, 1) := by decide +kernel
theorem dX12_receives_112 : decode cX12_receives 112 = .ok (.iastore, 1) := by decide +kernel
theorem dX12_receives_113 : decode cX12_receives 113 = .ok (.aload_n 0, 1) := by decide +kernel
theorem dX12_receives_114 : decode cX12_receives 114 = .ok (.getfield 453, 3) := by decide +kernel
theorem dX12_receives_117 : decode cX12_receives 117 = .ok (.aload_n 0, 1) := by decide +kernel
theorem dX12_receives_118 : decode cX12_receives 118 = .ok (.getfield 248, 3) := by decide +kernel
theorem dX12_receives_121 : decode cX12_receives 121 = .ok (.iload 6, 2) := by decide +kernel
theorem dX12_receives_123 : decode cX12_receives 123 = .ok (.iaload, 1) := by decide +kernel
theorem dX12_receives_124 : decode cX12_receives 124 = .ok (.isub, 1) := by decide +kernel
theorem dX12_receives_125 : decode cX12_receives 125 = .ok (.aload_n 0, 1) := by decide +kernel
theorem dX12_receives_126 : decode cX12_receives 126 = .ok (.getfield 118, 3) := by decide +kernel
theorem dX12_receives_129 : decode cX12_receives 129 = .ok (.iload 6, 2) := by decide +kernel
theorem dX12_receives_131 : decode cX12_receives 131 = .ok (.iaload, 1) := by decide +kernel
theorem dX12_receives_132 : decode cX12_receives 132 = .ok (.if_icmp .gt 7, 3) := by decide +kernel
theorem dX12_receives_135 : decode cX12_receives 135 = .ok (.iconst 0, 1) := by decide +kernel
theorem dX12_receives_136 : decode cX12_receives 136 = .ok (.goto 4, 3) := by decide +kernel
theorem dX12_receives_139 : decode cX12_receives 139 = .ok (.iconst 5, 1) := by decide +kernel
theorem dX12_receives_140 : decode cX12_receives 140 = .ok (.ireturn, 1) := by decide +kernel
theorem dX12_receives_141 : decode cX12_receives 141 = .ok (.aload_n 0, 1) := by decide +kernel
theorem dX12_receives_142 : decode cX12_receives 142 = .ok (.getfield 251, 3) := by decide +kernel
theorem dX12_receives_145 : decode cX12_receives 145 = .ok (.iload 6, 2) := by decide +kernel
theorem dX12_receives_147 : decode cX12_receives 147 = .ok (.iaload, 1) := by decide +kernel
theorem dX12_receives_148 : decode cX12_receives 148 = .ok (.ifCond .ne 22, 3) := by decide +kernel
theorem dX12_receives_151 : decode cX12_receives 151 = .ok (.aload_n 0, 1) := by decide +kernel
theorem dX12_receives_152 : decode cX12_receives 152 = .ok (.getfield 188, 3) := by decide +kernel
theorem dX12_receives_155 : decode cX12_receives 155 = .ok (.iload_n 2, 1) := by decide +kernel
theorem dX12_receives_156 : decode cX12_receives 156 = .ok (.iload_n 3, 1) := by decide +kernel
theorem dX12_receives_157 : decode cX12_receives 157 = .ok (.iastore, 1) := by decide +kernel
theorem dX12_receives_158 : decode cX12_receives 158 = .ok (.aload_n 0, 1) := by decide +kernel
theorem dX12_receives_159 : decode cX12_receives 159 = .ok (.iload_n 2, 1) := by decide +kernel
theorem dX12_receives_160 : decode cX12_receives 160 = .ok (.bipush 6, 2) := by decide +kernel
theorem dX12_receives_162 : decode cX12_receives 162 = .ok (.iload 6, 2) := by decide +kernel
theorem dX12_receives_164 : decode cX12_receives 164 = .ok (.iload 4, 2) := by decide +kernel
theorem dX12_receives_166 : decode cX12_receives 166 = .ok (.invokevirtual 622, 3) := by decide +kernel
theorem dX12_receives_169 : decode cX12_receives 169 = .ok (.ireturn, 1) := by decide +kernel
theorem dX12_receives_170 : decode cX12_receives 170 = .ok (.aload_n 0, 1) := by decide +kernel
theorem dX12_receives_171 : decode cX12_receives 171 = .ok (.getfield 179, 3) := by decide +kernel
theorem dX12_receives_174 : decode cX12_receives 174 = .ok (.bipush 32, 2) := by decide +kernel
theorem dX12_receives_176 : decode cX12_receives 176 = .ok (.iload_n 2, 1) := by decide +kernel
theorem dX12_receives_177 : decode cX12_receives 177 = .ok (.imul, 1) := by decide +kernel
theorem dX12_receives_178 : decode cX12_receives 178 = .ok (.bipush 11, 2) := by decide +kernel
theorem dX12_receives_180 : decode cX12_receives 180 = .ok (.iadd, 1) := by decide +kernel
theorem dX12_receives_181 : decode cX12_receives 181 = .ok (.aload_n 0, 1) := by decide +kernel
theorem dX12_receives_182 : decode cX12_receives 182 = .ok (.getfield 254, 3) := by decide +kernel
theorem dX12_receives_185 : decode cX12_receives 185 = .ok (.bipush 32, 2) := by decide +kernel
theorem dX12_receives_187 : decode cX12_receives 187 = .ok (.iload 6, 2) := by decide +kernel
theorem dX12_receives_189 : decode cX12_receives 189 = .ok (.imul, 1) := by decide +kernel
theorem dX12_receives_190 : decode cX12_receives 190 = .ok (.iaload, 1) := by decide +kernel
theorem dX12_receives_191 : decode cX12_receives 191 = .ok (.iastore, 1) := by decide +kernel
theorem dX12_receives_192 : decode cX12_receives 192 = .ok (.aload_n 0, 1) := by decide +kernel
theorem dX12_receives_193 : decode cX12_receives 193 = .ok (.getfield 251, 3) := by decide +kernel
theorem dX12_receives_196 : decode cX12_receives 196 = .ok (.iload 6, 2) := by decide +kernel
theorem dX12_receives_198 : decode cX12_receives 198 = .ok (.dup2, 1) := by decide +kernel
theorem dX12_receives_199 : decode cX12_receives 199 = .ok (.iaload, 1) := by decide +kernel
theorem dX12_receives_200 : decode cX12_receives 200 = .ok (.iconst 1, 1) := by decide +kernel
theorem dX12_receives_201 : decode cX12_receives 201 = .ok (.isub, 1) := by decide +kernel
theorem dX12_receives_202 : decode cX12_receives 202 = .ok (.iastore, 1) := by decide +kernel
theorem dX12_receives_203 : decode cX12_receives 203 = .ok (.iconst 0, 1) := by decide +kernel
theorem dX12_receives_204 : decode cX12_receives 204 = .ok (.istore 7, 2) := by decide +kernel
theorem dX12_receives_206 : decode cX12_receives 206 = .ok (.iload 7, 2) := by decide +kernel
theorem dX12_receives_208 : decode cX12_receives 208 = .ok (.aload_n 0, 1) := by decide +kernel
theorem dX12_receives_209 : decode cX12_receives 209 = .ok (.getfield 251, 3) := by decide +kernel
theorem dX12_receives_212 : decode cX12_receives 212 = .ok (.iload 6, 2) := by decide +kernel
theorem dX12_receives_214 : decode cX12_receives 214 = .ok (.iaload, 1) := by decide +kernel
theorem dX12_receives_215 : decode cX12_receives 215 = .ok (.if_icmp .ge 37, 3) := by decide +kernel
theorem dX12_receives_218 : decode cX12_receives 218 = .ok (.aload_n 0, 1) := by decide +kernel
theorem dX12_receives_219 : decode cX12_receives 219 = .ok (.getfield 254, 3) := by decide +kernel
theorem dX12_receives_222 : decode cX12_receives 222 = .ok (.bipush 32, 2) := by decide +kernel
theorem dX12_receives_224 : decode cX12_receives 224 = .ok (.iload 6, 2) := by decide +kernel
theorem dX12_receives_226 : decode cX12_receives 226 = .ok (.imul, 1) := by decide +kernel
theorem dX12_receives_227 : decode cX12_receives 227 = .ok (.iload 7, 2) := by decide +kernel
theorem dX12_receives_229 : decode cX12_receives 229 = .ok (.iadd, 1) := by decide +kernel
theorem dX12_receives_230 : decode cX12_receives 230 = .ok (.aload_n 0, 1) := by decide +kernel
theorem dX12_receives_231 : decode cX12_receives 231 = .ok (.getfield 254, 3) := by decide +kernel
theorem dX12_receives_234 : decode cX12_receives 234 = .ok (.bipush 32, 2) := by decide +kernel
theorem dX12_receives_236 : decode cX12_receives 236 = .ok (.iload 6, 2) := by decide +kernel
theorem dX12_receives_238 : decode cX12_receives 238 = .ok (.imul, 1) := by decide +kernel
theorem dX12_receives_239 : decode cX12_receives 239 = .ok (.iload 7, 2) := by decide +kernel
theorem dX12_receives_241 : decode cX12_receives 241 = .ok (.iadd, 1) := by decide +kernel
theorem dX12_receives_242 : decode cX12_receives 242 = .ok (.iconst 1, 1) := by decide +kernel
theorem dX12_receives_243 : decode cX12_receives 243 = .ok (.iadd, 1) := by decide +kernel
theorem dX12_receives_244 : decode cX12_receives 244 = .ok (.iaload, 1) := by decide +kernel
theorem dX12_receives_245 : decode cX12_receives 245 = .ok (.iastore, 1) := by decide +kernel
theorem dX12_receives_246 : decode cX12_receives 246 = .ok (.iinc 7 1, 3) := by decide +kernel
theorem dX12_receives_249 : decode cX12_receives 249 = .ok (.goto (-43), 3) := by decide +kernel
theorem dX12_receives_252 : decode cX12_receives 252 = .ok (.aload_n 0, 1) := by decide +kernel
theorem dX12_receives_253 : decode cX12_receives 253 = .ok (.bipush 7, 2) := by decide +kernel
theorem dX12_receives_255 : decode cX12_receives 255 = .ok (.iload 6, 2) := by decide +kernel
theorem dX12_receives_257 : decode cX12_receives 257 = .ok (.aload_n 0, 1) := by decide +kernel
theorem dX12_receives_258 : decode cX12_receives 258 = .ok (.getfield 121, 3) := by decide +kernel
theorem dX12_receives_261 : decode cX12_receives 261 = .ok (.iload 6, 2) := by decide +kernel
theorem dX12_receives_263 : decode cX12_receives 263 = .ok (.baload, 1) := by decide +kernel
theorem dX12_receives_264 : decode cX12_receives 264 = .ok (.invokevirtual 540, 3) := by decide +kernel
theorem dX12_receives_267 : decode cX12_receives 267 = .ok (.istore 7, 2) := by decide +kernel
theorem dX12_receives_269 : decode cX12_receives 269 = .ok (.iload 7, 2) := by decide +kernel
theorem dX12_receives_271 : decode cX12_receives 271 = .ok (.iconst (-1), 1) := by decide +kernel
theorem dX12_receives_272 : decode cX12_receives 272 = .ok (.if_icmp .ne 5, 3) := by decide +kernel
theorem dX12_receives_275 : decode cX12_receives 275 = .ok (.iconst 0, 1) := by decide +kernel
theorem dX12_receives_276 : decode cX12_receives 276 = .ok (.ireturn, 1) := by decide +kernel
theorem dX12_receives_277 : decode cX12_receives 277 = .ok (.aload_n 0, 1) := by decide +kernel
theorem dX12_receives_278 : decode cX12_receives 278 = .ok (.getfield 254, 3) := by decide +kernel
theorem dX12_receives_281 : decode cX12_receives 281 = .ok (.bipush 32, 2) := by decide +kernel
theorem dX12_receives_283 : decode cX12_receives 283 = .ok (.iload 6, 2) := by decide +kernel
theorem dX12_receives_285 : decode cX12_receives 285 = .ok (.imul, 1) := by decide +kernel
theorem dX12_receives_286 : decode cX12_receives 286 = .ok (.aload_n 0, 1) := by decide +kernel
theorem dX12_receives_287 : decode cX12_receives 287 = .ok (.getfield 251, 3) := by decide +kernel
theorem dX12_receives_290 : decode cX12_receives 290 = .ok (.iload 6, 2) := by decide +kernel
theorem dX12_receives_292 : decode cX12_receives 292 = .ok (.iaload, 1) := by decide +kernel
theorem dX12_receives_293 : decode cX12_receives 293 = .ok (.iadd, 1) := by decide +kernel
theorem dX12_receives_294 : decode cX12_receives 294 = .ok (.aload_n 0, 1) := by decide +kernel
theorem dX12_receives_295 : decode cX12_receives 295 = .ok (.getfield 194, 3) := by decide +kernel
theorem dX12_receives_298 : decode cX12_receives 298 = .ok (.iload 7, 2) := by decide +kernel
theorem dX12_receives_300 : decode cX12_receives 300 = .ok (.iaload, 1) := by decide +kernel
theorem dX12_receives_301 : decode cX12_receives 301 = .ok (.iastore, 1) := by decide +kernel
theorem dX12_receives_302 : decode cX12_receives 302 = .ok (.aload_n 0, 1) := by decide +kernel
theorem dX12_receives_303 : decode cX12_receives 303 = .ok (.getfield 251, 3) := by decide +kernel
theorem dX12_receives_306 : decode cX12_receives 306 = .ok (.iload 6, 2) := by decide +kernel
theorem dX12_receives_308 : decode cX12_receives 308 = .ok (.dup2, 1) := by decide +kernel
theorem dX12_receives_309 : decode cX12_receives 309 = .ok (.iaload, 1) := by decide +kernel
theorem dX12_receives_310 : decode cX12_receives 310 = .ok (.iconst 1, 1) := by decide +kernel
theorem dX12_receives_311 : decode cX12_receives 311 = .ok (.iadd, 1) := by decide +kernel
theorem dX12_receives_312 : decode cX12_receives 312 = .ok (.iastore, 1) := by decide +kernel
theorem dX12_receives_313 : decode cX12_receives 313 = .ok (.aload_n 0, 1) := by decide +kernel
theorem dX12_receives_314 : decode cX12_receives 314 = .ok (.iload 7, 2) := by decide +kernel
theorem dX12_receives_316 : decode cX12_receives 316 = .ok (.invokevirtual 543, 3) := by decide +kernel
theorem dX12_receives_319 : decode cX12_receives 319 = .ok (.iconst 0, 1) := by decide +kernel
theorem dX12_receives_320 : decode cX12_receives 320 = .ok (.ireturn, 1) := by decide +kernel
def wb_X12_receives_24  (S : q_S) (Q : Option Value → q_S → Prop) : Prop := Q (some (.int (1 : Int32))) S
set_option maxHeartbeats 4000000 in
set_option maxRecDepth 100000 in
theorem cb_X12_receives_24 {p : Program} {l : Launch} {e : Env} {s : State} {m : MethodId} {args : Array Value} {below : List Frame} {meth : Method} {c : Code} {D : va_G} {cy : Nat → ClassId} {lo : Nat}  {S : q_S} {Q : Option Value → q_S → Prop} {H : Heap} {locs : List Loc} {ls : Array Slot} (X : q_X p s m args meth c RX12 cX12_receives 8 (some .int) D cy lo)  (Y : q_Y D cy lo s S H locs) (hl : lv_has ls 8 []) (h : wb_X12_receives_24 S Q) : W p l e ({ frames := 3, cells := 0, slots := 0, locals := 66 } : Room) s m args below meth c H locs 0 0 (MQ below (q_Q D cy lo Q) args s 0 0 (fun q => lo ≤ q)) (F0 m 24 ls []) := by
  have hx := X.1
  have hb := X.2.1
  unfold wb_X12_receives_24 at h
  refine lv_iconst (v := 1) hx hb dX12_receives_24 (by decide) ?_
  exact q_iret X Y rfl (Nat.le_refl _) (Nat.le_refl _) h dX12_receives_25
def wb_X12_receives_140  (S : q_S) (xs0 : Int32) (Q : Option Value → q_S → Prop) : Prop := Q (some (.int xs0)) S
set_option maxHeartbeats 4000000 in
set_option maxRecDepth 100000 in
theorem cb_X12_receives_140 {p : Program} {l : Launch} {e : Env} {s : State} {m : MethodId} {args : Array Value} {below : List Frame} {meth : Method} {c : Code} {D : va_G} {cy : Nat → ClassId} {lo : Nat}  {S : q_S} {xs0 : Int32} {Q : Option Value → q_S → Prop} {H : Heap} {locs : List Loc} {ls : Array Slot} (X : q_X p s m args meth c RX12 cX12_receives 8 (some .int) D cy lo)  (Y : q_Y D cy lo s S H locs) (hl : lv_has ls 8 []) (h : wb_X12_receives_140 S xs0 Q) : W p l e ({ frames := 3, cells := 0, slots := 0, locals := 66 } : Room) s m args below meth c H locs 0 0 (MQ below (q_Q D cy lo Q) args s 0 0 (fun q => lo ≤ q)) (F0 m 140 ls [.int xs0]) := by
  have hx := X.1
  have hb := X.2.1
  unfold wb_X12_receives_140 at h
  exact q_iret X Y rfl (Nat.le_refl _) (Nat.le_refl _) h dX12_receives_140
def wb_X12_receives_206 (B206 : q_S → Nat → Int32 → Int32 → Prop) (S : q_S) (a0 : Nat) (x6 : Int32) (x7 : Int32) (Q : Option Value → q_S → Prop) : Prop := q_K S a0 = 13 ∧ (∃ a2_ : Nat, (q_P S 2501 a0) = some a2_ ∧ (q_K S a2_ = 21 ∧ (vp_in x6 (q_N S a2_) ∧ ((((q_A S a2_ x6.toNatClampNeg) ≤ x7 → (∃ a7_ : Nat, (q_P S 2456 a0) = some a7_ ∧ (q_K S a7_ = 22 ∧ (vp_in x6 (q_N S a7_) ∧ (wm_X12_waiter S a0 (7 : Int32) x6 (q_A S a7_ x6.toNatClampNeg) (fun r11_ S12_ => ∃ x13_ : Int32, r11_ = some (.int x13_) ∧ (((¬ x13_ = (-1 : Int32) → (q_K S12_ a0 = 13 ∧ (∃ a16_ : Nat, (q_P S12_ 2501 a0) = some a16_ ∧ (q_K S12_ a16_ = 21 ∧ (vp_in x6 (q_N S12_ a16_) ∧ (∃ a20_ : Nat, (q_P S12_ 2482 a0) = some a20_ ∧ (q_K S12_ a20_ = 21 ∧ (vp_in x13_ (q_N S12_ a20_) ∧ (∃ a24_ : Nat, (q_P S12_ 2502 a0) = some a24_ ∧ (q_K S12_ a24_ = 21 ∧ (vp_in (((32 : Int32) * x6) + (q_A S12_ a16_ x6.toNatClampNeg)) (q_N S12_ a24_) ∧ (∃ a28_ : Nat, (q_P (qs_A S12_ a24_ (((32 : Int32) * x6) + (q_A S12_ a16_ x6.toNatClampNeg)).toNatClampNeg (q_A S12_ a20_ x13_.toNatClampNeg)) 2501 a0) = some a28_ ∧ (q_K (qs_A S12_ a24_ (((32 : Int32) * x6) + (q_A S12_ a16_ x6.toNatClampNeg)).toNatClampNeg (q_A S12_ a20_ x13_.toNatClampNeg)) a28_ = 21 ∧ (vp_in x6 (q_N (qs_A S12_ a24_ (((32 : Int32) * x6) + (q_A S12_ a16_ x6.toNatClampNeg)).toNatClampNeg (q_A S12_ a20_ x13_.toNatClampNeg)) a28_) ∧ (vp_in x6 (q_N (qs_A S12_ a24_ (((32 : Int32) * x6) + (q_A S12_ a16_ x6.toNatClampNeg)).toNatClampNeg (q_A S12_ a20_ x13_.toNatClampNeg)) a28_) ∧ (∀ S33_ : q_S, S33_ = (qs_A (qs_A S12_ a24_ (((32 : Int32) * x6) + (q_A S12_ a16_ x6.toNatClampNeg)).toNatClampNeg (q_A S12_ a20_ x13_.toNatClampNeg)) a28_ x6.toNatClampNeg ((q_A (qs_A S12_ a24_ (((32 : Int32) * x6) + (q_A S12_ a16_ x6.toNatClampNeg)).toNatClampNeg (q_A S12_ a20_ x13_.toNatClampNeg)) a28_ x6.toNatClampNeg) + (1 : Int32))) → (wm_X12_gets S33_ a0 x13_ (fun r34_ S35_ => r34_ = none ∧ (Q (some (.int (0 : Int32))) S35_))))))))))))))))))) ∧ (x13_ = (-1 : Int32) → (Q (some (.int (0 : Int32))) S12_)))))))))) ∧ (¬ (q_A S a2_ x6.toNatClampNeg) ≤ x7 → (∃ a36_ : Nat, (q_P S 2502 a0) = some a36_ ∧ (q_K S a36_ = 21 ∧ (vp_in ((((32 : Int32) * x6) + x7) + (1 : Int32)) (q_N S a36_) ∧ (vp_in (((32 : Int32) * x6) + x7) (q_N S a36_) ∧ (B206 (qs_A S a36_ (((32 : Int32) * x6) + x7).toNatClampNeg (q_A S a36_ ((((32 : Int32) * x6) + x7) + (1 : Int32)).toNatClampNeg)) a0 x6 (x7 + 1))))))))))))
set_option maxHeartbeats 4000000 in
set_option maxRecDepth 100000 in
theorem cb_X12_receives_206 {p : Program} {l : Launch} {e : Env} {s : State} {m : MethodId} {args : Array Value} {below : List Frame} {meth : Method} {c : Code} {D : va_G} {cy : Nat → ClassId} {lo : Nat} {B206 : q_S → Nat → Int32 → Int32 → Prop} {S : q_S} {a0 : Nat} {x6 : Int32} {x7 : Int32} {Q : Option Value → q_S → Prop} {H : Heap} {locs : List Loc} {ls : Array Slot} (X : q_X p s m args meth c RX12 cX12_receives 8 (some .int) D cy lo) (hB206 : ∀ (S : q_S) (a0 : Nat) (x6 : Int32) (x7 : Int32) (H : Heap) (locs : List Loc) (ls : Array Slot), B206 S a0 x6 x7 → q_Y D cy lo s S H locs → lv_has ls 8 [(0, .ref a0), (6, .int x6), (7, .int x7)] → W p l e ({ frames := 3, cells := 0, slots := 0, locals := 66 } : Room) s m args below meth c H locs 0 0 (MQ below (q_Q D cy lo Q) args s 0 0 (fun q => lo ≤ q)) (F0 m 206 ls [])) (Y : q_Y D cy lo s S H locs) (hl : lv_has ls 8 [(0, .ref a0), (6, .int x6), (7, .int x7)]) (h : wb_X12_receives_206 B206 S a0 x6 x7 Q) : W p l e ({ frames := 3, cells := 0, slots := 0, locals := 66 } : Room) s m args below meth c H locs 0 0 (MQ below (q_Q D cy lo Q) args s 0 0 (fun q => lo ≤ q)) (F0 m 206 ls []) := by
  have hx := X.1
  have hb := X.2.1
  unfold wb_X12_receives_206 at h
  refine lv_iload hx hb dX12_receives_206 (lv_at hl 2 rfl) ?_
  refine lv_aload_n hx hb dX12_receives_208 rfl (lv_at hl 0 rfl) ?_
  obtain ⟨k1_, h⟩ := h
  refine q_getP X Y kX12 101 rfl fl_X12_251 k1_ rfl dX12_receives_209 ?_
  refine lv_iload hx hb dX12_receives_212 (lv_at hl 1 rfl) ?_
  obtain ⟨a2_, e3_, h⟩ := h
  refine q_nn [.int x6] e3_ ?_
  obtain ⟨k4_, h⟩ := h
  obtain ⟨i5_, h⟩ := h
  refine q_ild X Y k4_ i5_ dX12_receives_214 ?_
  refine lv_icmp_ge (tgt := 252) hx hb dX12_receives_215 (by decide) (fun c6_ => ?_) (fun c6_ => ?_)
  · replace h := h.1 c6_
    refine lv_aload_n hx hb dX12_receives_252 rfl (lv_at hl 0 rfl) ?_
    refine lv_bipush (v := 7) hx hb dX12_receives_253 (by decide) ?_
    refine lv_iload hx hb dX12_receives_255 (lv_at hl 1 rfl) ?_
    refine lv_aload_n hx hb dX12_receives_257 rfl (lv_at hl 0 rfl) ?_
    refine q_getP X Y kX12 56 rfl fl_X12_121 k1_ rfl dX12_receives_258 ?_
    refine lv_iload hx hb dX12_receives_261 (lv_at hl 1 rfl) ?_
    obtain ⟨a7_, e8_, h⟩ := h
    refine q_nn [.int x6] e8_ ?_
    obtain ⟨k9_, h⟩ := h
    obtain ⟨i10_, h⟩ := h
    refine q_zld X Y k9_ i10_ dX12_receives_263 ?_
    refine q_callV X Y hl (cm_X12_waiter h) mt_X12_waiter mi_X12_waiter ml_X12_540 (ci := 12) rfl k1_ (by decide) rfl rfl (by first | exact Nat.le_of_ble_eq_true rfl | simp [q_cat, q_catI, q_catJ, q_catR]) ⟨Nat.le_of_ble_eq_true rfl, Nat.le_of_ble_eq_true rfl⟩ ⟨Nat.le_of_ble_eq_true rfl, Nat.le_of_ble_eq_true rfl⟩ dX12_receives_264 (fun r11_ S12_ H locs hp Y => ?_)
    obtain ⟨x13_, rfl, h⟩ := hp
    refine W.eq (g2 := F0 m 267 ls [.int x13_]) rfl ?_
    refine lv_istore (i := 7) (lv' := [(7, .int x13_), (0, .ref a0), (6, .int x6)]) hx hb dX12_receives_267 hl (by decide) (by first | rfl | simp [q_cat, q_catI, q_catJ, q_catR]) (fun ls hl => ?_)
    refine lv_iload hx hb dX12_receives_269 (lv_at hl 0 rfl) ?_
    refine lv_iconst (v := (-1)) hx hb dX12_receives_271 (by decide) ?_
    refine lv_icmp_ne (tgt := 277) hx hb dX12_receives_272 (by decide) (fun c14_ => ?_) (fun c14_ => ?_)
    · replace h := h.1 c14_
      refine lv_aload_n hx hb dX12_receives_277 rfl (lv_at hl 1 rfl) ?_
      obtain ⟨k15_, h⟩ := h
      refine q_getP X Y kX12 102 rfl fl_X12_254 k15_ rfl dX12_receives_278 ?_
      refine lv_bipush (v := 32) hx hb dX12_receives_281 (by decide) ?_
      refine lv_iload hx hb dX12_receives_283 (lv_at hl 2 rfl) ?_
      refine lv_imul hx hb dX12_receives_285 ?_
      refine lv_aload_n hx hb dX12_receives_286 rfl (lv_at hl 1 rfl) ?_
      refine q_getP X Y kX12 101 rfl fl_X12_251 k15_ rfl dX12_receives_287 ?_
      refine lv_iload hx hb dX12_receives_290 (lv_at hl 2 rfl) ?_
      obtain ⟨a16_, e17_, h⟩ := h
      refine q_nn [.int x6] e17_ ?_
      obtain ⟨k18_, h⟩ := h
      obtain ⟨i19_, h⟩ := h
      refine q_ild X Y k18_ i19_ dX12_receives_292 ?_
      refine lv_iadd hx hb dX12_receives_293 ?_
      refine lv_aload_n hx hb dX12_receives_294 rfl (lv_at hl 1 rfl) ?_
      refine q_getP X Y kX12 82 rfl fl_X12_194 k15_ rfl dX12_receives_295 ?_
      refine lv_iload hx hb dX12_receives_298 (lv_at hl 0 rfl) ?_
      obtain ⟨a20_, e21_, h⟩ := h
      refine q_nn [.int x13_] e21_ ?_
      obtain ⟨k22_, h⟩ := h
      obtain ⟨i23_, h⟩ := h
      refine q_ild X Y k22_ i23_ dX12_receives_300 ?_
      obtain ⟨a24_, e25_, h⟩ := h
      refine q_nn [.int (q_A S12_ a20_ x13_.toNatClampNeg), .int (((32 : Int32) * x6) + (q_A S12_ a16_ x6.toNatClampNeg))] e25_ ?_
      obtain ⟨k26_, h⟩ := h
      obtain ⟨i27_, h⟩ := h
      refine q_ist X Y k26_ i27_ dX12_receives_301 (fun H locs Y => ?_)
      refine lv_aload_n hx hb dX12_receives_302 rfl (lv_at hl 1 rfl) ?_
      refine q_getP X Y kX12 101 rfl fl_X12_251 k15_ rfl dX12_receives_303 ?_
      refine lv_iload hx hb dX12_receives_306 (lv_at hl 2 rfl) ?_
      refine lv_dup2_11 hx hb dX12_receives_308 rfl (q_cat _) ?_
      obtain ⟨a28_, e29_, h⟩ := h
      refine q_nn [.int x6] e29_ ?_
      obtain ⟨k30_, h⟩ := h
      obtain ⟨i31_, h⟩ := h
      refine q_ild X Y k30_ i31_ dX12_receives_309 ?_
      refine lv_iconst (v := 1) hx hb dX12_receives_310 (by decide) ?_
      refine lv_iadd hx hb dX12_receives_311 ?_
      refine q_nn [.int ((q_A (qs_A S12_ a24_ (((32 : Int32) * x6) + (q_A S12_ a16_ x6.toNatClampNeg)).toNatClampNeg (q_A S12_ a20_ x13_.toNatClampNeg)) a28_ x6.toNatClampNeg) + (1 : Int32)), .int x6] e29_ ?_
      obtain ⟨i32_, h⟩ := h
      refine q_ist X Y k30_ i32_ dX12_receives_312 (fun H locs Y => ?_)
      obtain ⟨S33_, gS33_⟩ : ∃ z : q_S, z = (qs_A (qs_A S12_ a24_ (((32 : Int32) * x6) + (q_A S12_ a16_ x6.toNatClampNeg)).toNatClampNeg (q_A S12_ a20_ x13_.toNatClampNeg)) a28_ x6.toNatClampNeg ((q_A (qs_A S12_ a24_ (((32 : Int32) * x6) + (q_A S12_ a16_ x6.toNatClampNeg)).toNatClampNeg (q_A S12_ a20_ x13_.toNatClampNeg)) a28_ x6.toNatClampNeg) + (1 : Int32))) := ⟨_, rfl⟩
      replace Y : q_Y D cy lo s S33_ H locs := by rw [gS33_]; exact Y
      replace h := h S33_ gS33_
      replace k15_ : q_K S33_ a0 = 13 := by rw [gS33_]; exact k15_
      replace k18_ : q_K S33_ a16_ = 21 := by rw [gS33_]; exact k18_
      replace k22_ : q_K S33_ a20_ = 21 := by rw [gS33_]; exact k22_
      replace k26_ : q_K S33_ a24_ = 21 := by rw [gS33_]; exact k26_
      replace k30_ : q_K S33_ a28_ = 21 := by rw [gS33_]; exact k30_
      refine lv_aload_n hx hb dX12_receives_313 rfl (lv_at hl 1 rfl) ?_
      refine lv_iload hx hb dX12_receives_314 (lv_at hl 0 rfl) ?_
      refine q_callV X Y hl (cm_X12_gets h) mt_X12_gets mi_X12_gets ml_X12_543 (ci := 12) rfl k15_ (by decide) rfl rfl (by first | exact Nat.le_of_ble_eq_true rfl | simp [q_cat, q_catI, q_catJ, q_catR]) ⟨Nat.le_of_ble_eq_true rfl, Nat.le_of_ble_eq_true rfl⟩ ⟨Nat.le_of_ble_eq_true rfl, Nat.le_of_ble_eq_true rfl⟩ dX12_receives_316 (fun r34_ S35_ H locs hp Y => ?_)
      obtain ⟨rfl, h⟩ := hp
      refine W.eq (g2 := F0 m 319 ls []) rfl ?_
      refine lv_iconst (v := 0) hx hb dX12_receives_319 (by decide) ?_
      exact q_iret X Y rfl (Nat.le_refl _) (Nat.le_refl _) h dX12_receives_320
    · replace h := h.2 c14_
      refine lv_iconst (v := 0) hx hb dX12_receives_275 (by decide) ?_
      exact q_iret X Y rfl (Nat.le_refl _) (Nat.le_refl _) h dX12_receives_276
  · replace h := h.2 c6_
    refine lv_aload_n hx hb dX12_receives_218 rfl (lv_at hl 0 rfl) ?_
    refine q_getP X Y kX12 102 rfl fl_X12_254 k1_ rfl dX12_receives_219 ?_
    refine lv_bipush (v := 32) hx hb dX12_receives_222 (by decide) ?_
    refine lv_iload hx hb dX12_receives_224 (lv_at hl 1 rfl) ?_
    refine lv_imul hx hb dX12_receives_226 ?_
    refine lv_iload hx hb dX12_receives_227 (lv_at hl 2 rfl) ?_
    refine lv_iadd hx hb dX12_receives_229 ?_
    refine lv_aload_n hx hb dX12_receives_230 rfl (lv_at hl 0 rfl) ?_
    refine q_getP X Y kX12 102 rfl fl_X12_254 k1_ rfl dX12_receives_231 ?_
    refine lv_bipush (v := 32) hx hb dX12_receives_234 (by decide) ?_
    refine lv_iload hx hb dX12_receives_236 (lv_at hl 1 rfl) ?_
    refine lv_imul hx hb dX12_receives_238 ?_
    refine lv_iload hx hb dX12_receives_239 (lv_at hl 2 rfl) ?_
    refine lv_iadd hx hb dX12_receives_241 ?_
    refine lv_iconst (v := 1) hx hb dX12_receives_242 (by decide) ?_
    refine lv_iadd hx hb dX12_receives_243 ?_
    obtain ⟨a36_, e37_, h⟩ := h
    refine q_nn [.int ((((32 : Int32) * x6) + x7) + (1 : Int32))] e37_ ?_
    obtain ⟨k38_, h⟩ := h
    obtain ⟨i39_, h⟩ := h
    refine q_ild X Y k38_ i39_ dX12_receives_244 ?_
    refine q_nn [.int (q_A S a36_ ((((32 : Int32) * x6) + x7) + (1 : Int32)).toNatClampNeg), .int (((32 : Int32) * x6) + x7)] e37_ ?_
    obtain ⟨i40_, h⟩ := h
    refine q_ist X Y k38_ i40_ dX12_receives_245 (fun H locs Y => ?_)
    refine lv_iinc (v := (x7 + 1)) (lv' := [(7, .int (x7 + 1)), (0, .ref a0), (6, .int x6)]) hx hb dX12_receives_246 hl (k := 2) rfl (by first | rfl | decide) (by decide) (by first | rfl | simp [q_cat, q_catI, q_catJ, q_catR]) (fun ls hl => ?_)
    refine lv_goto (tgt := 206) hx hb dX12_receives_249 (by decide) ?_
    exact hB206 _ _ _ _ _ _ _ h Y (lv_sub hl [1, 2, 0] rfl)
def wl_X12_receives_206  : Nat → q_S → Nat → Int32 → Int32 → (Option Value → q_S → Prop) → Prop
  | 0, _, _, _, _, _ => False
  | n + 1, S, a0, x6, x7, Q => wb_X12_receives_206 (fun S a0 x6 x7 => wl_X12_receives_206 n S a0 x6 x7 Q) S a0 x6 x7 Q
set_option maxHeartbeats 4000000 in
set_option maxRecDepth 100000 in
theorem cl_X12_receives_206 {p : Program} {l : Launch} {e : Env} {s : State} {m : MethodId} {args : Array Value} {below : List Frame} {meth : Method} {c : Code} {D : va_G} {cy : Nat → ClassId} {lo : Nat}  {Q : Option Value → q_S → Prop} (X : q_X p s m args meth c RX12 cX12_receives 8 (some .int) D cy lo)  : ∀ (n : Nat) (S : q_S) (a0 : Nat) (x6 : Int32) (x7 : Int32) (H : Heap) (locs : List Loc) (ls : Array Slot), wl_X12_receives_206 n S a0 x6 x7 Q → q_Y D cy lo s S H locs → lv_has ls 8 [(0, .ref a0), (6, .int x6), (7, .int x7)] → W p l e ({ frames := 3, cells := 0, slots := 0, locals := 66 } : Room) s m args below meth c H locs 0 0 (MQ below (q_Q D cy lo Q) args s 0 0 (fun q => lo ≤ q)) (F0 m 206 ls []) := by
  intro n
  induction n with
  | zero => intro S a0 x6 x7 H locs ls h; exact absurd h id
  | succ n ih => intro S a0 x6 x7 H locs ls h Y hl; exact cb_X12_receives_206 X ih Y hl h
def wb_X12_receives_55  (S : q_S) (a0 : Nat) (x2 : Int32) (x3 : Int32) (x4 : Int32) (x5 : Int32) (Q : Option Value → q_S → Prop) : Prop := q_K S a0 = 13 ∧ (∃ a42_ : Nat, (q_P S 2450 a0) = some a42_ ∧ (q_K S a42_ = 21 ∧ (vp_in x5 (q_N S a42_) ∧ (((¬ (q_A S a42_ x5.toNatClampNeg) = (-1 : Int32) → (∃ a47_ : Nat, (q_P S 2454 a0) = some a47_ ∧ (q_K S a47_ = 22 ∧ (vp_in (q_A S a42_ x5.toNatClampNeg) (q_N S a47_) ∧ (((¬ (q_A S a47_ (q_A S a42_ x5.toNatClampNeg).toNatClampNeg) = 0 → (∃ a52_ : Nat, (q_P S 2501 a0) = some a52_ ∧ (q_K S a52_ = 21 ∧ (vp_in (q_A S a42_ x5.toNatClampNeg) (q_N S a52_) ∧ (((¬ (q_A S a52_ (q_A S a42_ x5.toNatClampNeg).toNatClampNeg) = 0 → (∃ a57_ : Nat, (q_P S 2502 a0) = some a57_ ∧ (q_K S a57_ = 21 ∧ (vp_in ((32 : Int32) * (q_A S a42_ x5.toNatClampNeg)) (q_N S a57_) ∧ (∃ a61_ : Nat, (q_P S 2477 a0) = some a61_ ∧ (q_K S a61_ = 21 ∧ (vp_in (((32 : Int32) * x2) + (11 : Int32)) (q_N S a61_) ∧ (∃ a65_ : Nat, (q_P (qs_A S a61_ (((32 : Int32) * x2) + (11 : Int32)).toNatClampNeg (q_A S a57_ ((32 : Int32) * (q_A S a42_ x5.toNatClampNeg)).toNatClampNeg)) 2501 a0) = some a65_ ∧ (q_K (qs_A S a61_ (((32 : Int32) * x2) + (11 : Int32)).toNatClampNeg (q_A S a57_ ((32 : Int32) * (q_A S a42_ x5.toNatClampNeg)).toNatClampNeg)) a65_ = 21 ∧ (vp_in (q_A S a42_ x5.toNatClampNeg) (q_N (qs_A S a61_ (((32 : Int32) * x2) + (11 : Int32)).toNatClampNeg (q_A S a57_ ((32 : Int32) * (q_A S a42_ x5.toNatClampNeg)).toNatClampNeg)) a65_) ∧ (vp_in (q_A S a42_ x5.toNatClampNeg) (q_N (qs_A S a61_ (((32 : Int32) * x2) + (11 : Int32)).toNatClampNeg (q_A S a57_ ((32 : Int32) * (q_A S a42_ x5.toNatClampNeg)).toNatClampNeg)) a65_) ∧ (∀ S70_ : q_S, S70_ = (qs_A (qs_A S a61_ (((32 : Int32) * x2) + (11 : Int32)).toNatClampNeg (q_A S a57_ ((32 : Int32) * (q_A S a42_ x5.toNatClampNeg)).toNatClampNeg)) a65_ (q_A S a42_ x5.toNatClampNeg).toNatClampNeg ((q_A (qs_A S a61_ (((32 : Int32) * x2) + (11 : Int32)).toNatClampNeg (q_A S a57_ ((32 : Int32) * (q_A S a42_ x5.toNatClampNeg)).toNatClampNeg)) a65_ (q_A S a42_ x5.toNatClampNeg).toNatClampNeg) - (1 : Int32))) → (∃ n71_ : Nat, wl_X12_receives_206 n71_ S70_ a0 (q_A S a42_ x5.toNatClampNeg) (0 : Int32) Q))))))))))))) ∧ ((q_A S a52_ (q_A S a42_ x5.toNatClampNeg).toNatClampNeg) = 0 → (∃ a72_ : Nat, (q_P S 2480 a0) = some a72_ ∧ (q_K S a72_ = 21 ∧ (vp_in x2 (q_N S a72_) ∧ (wm_X12_waits (qs_A S a72_ x2.toNatClampNeg x3) a0 x2 (6 : Int32) (q_A S a42_ x5.toNatClampNeg) x4 (fun r76_ S77_ => ∃ x78_ : Int32, r76_ = some (.int x78_) ∧ (Q (some (.int x78_)) S77_))))))))))))) ∧ ((q_A S a47_ (q_A S a42_ x5.toNatClampNeg).toNatClampNeg) = 0 → (∃ a79_ : Nat, (q_P S 2498 a0) = some a79_ ∧ (q_K S a79_ = 22 ∧ (vp_in (q_A S a42_ x5.toNatClampNeg) (q_N S a79_) ∧ (((¬ (q_A S a79_ (q_A S a42_ x5.toNatClampNeg).toNatClampNeg) = 0 → (∃ a84_ : Nat, (q_P S 2499 a0) = some a84_ ∧ (q_K S a84_ = 21 ∧ (vp_in (q_A S a42_ x5.toNatClampNeg) (q_N S a84_) ∧ (∃ a88_ : Nat, (q_P S 2477 a0) = some a88_ ∧ (q_K S a88_ = 21 ∧ (vp_in (((32 : Int32) * x2) + (11 : Int32)) (q_N S a88_) ∧ (∃ a92_ : Nat, (q_P (qs_A S a88_ (((32 : Int32) * x2) + (11 : Int32)).toNatClampNeg (q_A S a84_ (q_A S a42_ x5.toNatClampNeg).toNatClampNeg)) 2500 a0) = some a92_ ∧ (q_K (qs_A S a88_ (((32 : Int32) * x2) + (11 : Int32)).toNatClampNeg (q_A S a84_ (q_A S a42_ x5.toNatClampNeg).toNatClampNeg)) a92_ = 21 ∧ (vp_in (q_A S a42_ x5.toNatClampNeg) (q_N (qs_A S a88_ (((32 : Int32) * x2) + (11 : Int32)).toNatClampNeg (q_A S a84_ (q_A S a42_ x5.toNatClampNeg).toNatClampNeg)) a92_) ∧ (∃ a96_ : Nat, (q_P (qs_A S a88_ (((32 : Int32) * x2) + (11 : Int32)).toNatClampNeg (q_A S a84_ (q_A S a42_ x5.toNatClampNeg).toNatClampNeg)) 2455 a0) = some a96_ ∧ (q_K (qs_A S a88_ (((32 : Int32) * x2) + (11 : Int32)).toNatClampNeg (q_A S a84_ (q_A S a42_ x5.toNatClampNeg).toNatClampNeg)) a96_ = 21 ∧ (vp_in (q_A S a42_ x5.toNatClampNeg) (q_N (qs_A S a88_ (((32 : Int32) * x2) + (11 : Int32)).toNatClampNeg (q_A S a84_ (q_A S a42_ x5.toNatClampNeg).toNatClampNeg)) a96_) ∧ ((((q_A (qs_A S a88_ (((32 : Int32) * x2) + (11 : Int32)).toNatClampNeg (q_A S a84_ (q_A S a42_ x5.toNatClampNeg).toNatClampNeg)) a96_ (q_A S a42_ x5.toNatClampNeg).toNatClampNeg) < ((q_I (qs_A S a88_ (((32 : Int32) * x2) + (11 : Int32)).toNatClampNeg (q_A S a84_ (q_A S a42_ x5.toNatClampNeg).toNatClampNeg)) 2463 a0) - (q_A (qs_A S a88_ (((32 : Int32) * x2) + (11 : Int32)).toNatClampNeg (q_A S a84_ (q_A S a42_ x5.toNatClampNeg).toNatClampNeg)) a92_ (q_A S a42_ x5.toNatClampNeg).toNatClampNeg)) → (wb_X12_receives_140 (qs_A S a88_ (((32 : Int32) * x2) + (11 : Int32)).toNatClampNeg (q_A S a84_ (q_A S a42_ x5.toNatClampNeg).toNatClampNeg)) (5 : Int32) Q)) ∧ (¬ (q_A (qs_A S a88_ (((32 : Int32) * x2) + (11 : Int32)).toNatClampNeg (q_A S a84_ (q_A S a42_ x5.toNatClampNeg).toNatClampNeg)) a96_ (q_A S a42_ x5.toNatClampNeg).toNatClampNeg) < ((q_I (qs_A S a88_ (((32 : Int32) * x2) + (11 : Int32)).toNatClampNeg (q_A S a84_ (q_A S a42_ x5.toNatClampNeg).toNatClampNeg)) 2463 a0) - (q_A (qs_A S a88_ (((32 : Int32) * x2) + (11 : Int32)).toNatClampNeg (q_A S a84_ (q_A S a42_ x5.toNatClampNeg).toNatClampNeg)) a92_ (q_A S a42_ x5.toNatClampNeg).toNatClampNeg)) → (wb_X12_receives_140 (qs_A S a88_ (((32 : Int32) * x2) + (11 : Int32)).toNatClampNeg (q_A S a84_ (q_A S a42_ x5.toNatClampNeg).toNatClampNeg)) (0 : Int32) Q))))))))))))))))) ∧ ((q_A S a79_ (q_A S a42_ x5.toNatClampNeg).toNatClampNeg) = 0 → (Q (some (.int (2 : Int32))) S)))))))))))))) ∧ ((q_A S a42_ x5.toNatClampNeg) = (-1 : Int32) → (Q (some (.int (3 : Int32))) S)))))))
set_option maxHeartbeats 4000000 in
set_option maxRecDepth 100000 in
theorem cb_X12_receives_55 {p : Program} {l : Launch} {e : Env} {s : State} {m : MethodId} {args : Array Value} {below : List Frame} {meth : Method} {c : Code} {D : va_G} {cy : Nat → ClassId} {lo : Nat}  {S : q_S} {a0 : Nat} {x2 : Int32} {x3 : Int32} {x4 : Int32} {x5 : Int32} {Q : Option Value → q_S → Prop} {H : Heap} {locs : List Loc} {ls : Array Slot} (X : q_X p s m args meth c RX12 cX12_receives 8 (some .int) D cy lo)  (Y : q_Y D cy lo s S H locs) (hl : lv_has ls 8 [(0, .ref a0), (2, .int x2), (3, .int x3), (4, .int x4), (5, .int x5)]) (h : wb_X12_receives_55 S a0 x2 x3 x4 x5 Q) : W p l e ({ frames := 3, cells := 0, slots := 0, locals := 66 } : Room) s m args below meth c H locs 0 0 (MQ below (q_Q D cy lo Q) args s 0 0 (fun q => lo ≤ q)) (F0 m 55 ls []) := by
  have hx := X.1
  have hb := X.2.1
  unfold wb_X12_receives_55 at h
  refine lv_aload_n hx hb dX12_receives_55 rfl (lv_at hl 0 rfl) ?_
  obtain ⟨k41_, h⟩ := h
  refine q_getP X Y kX12 50 rfl fl_X12_106 k41_ rfl dX12_receives_56 ?_
  refine lv_iload hx hb dX12_receives_59 (lv_at hl 4 rfl) ?_
  obtain ⟨a42_, e43_, h⟩ := h
  refine q_nn [.int x5] e43_ ?_
  obtain ⟨k44_, h⟩ := h
  obtain ⟨i45_, h⟩ := h
  refine q_ild X Y k44_ i45_ dX12_receives_61 ?_
  refine lv_istore (i := 6) (lv' := [(6, .int (q_A S a42_ x5.toNatClampNeg)), (0, .ref a0), (2, .int x2), (3, .int x3), (4, .int x4), (5, .int x5)]) hx hb dX12_receives_62 hl (by decide) (by first | rfl | simp [q_cat, q_catI, q_catJ, q_catR]) (fun ls hl => ?_)
  refine lv_iload hx hb dX12_receives_64 (lv_at hl 0 rfl) ?_
  refine lv_iconst (v := (-1)) hx hb dX12_receives_66 (by decide) ?_
  refine lv_icmp_ne (tgt := 72) hx hb dX12_receives_67 (by decide) (fun c46_ => ?_) (fun c46_ => ?_)
  · replace h := h.1 c46_
    refine lv_aload_n hx hb dX12_receives_72 rfl (lv_at hl 1 rfl) ?_
    refine q_getP X Y kX12 54 rfl fl_X12_115 k41_ rfl dX12_receives_73 ?_
    refine lv_iload hx hb dX12_receives_76 (lv_at hl 0 rfl) ?_
    obtain ⟨a47_, e48_, h⟩ := h
    refine q_nn [.int (q_A S a42_ x5.toNatClampNeg)] e48_ ?_
    obtain ⟨k49_, h⟩ := h
    obtain ⟨i50_, h⟩ := h
    refine q_zld X Y k49_ i50_ dX12_receives_78 ?_
    refine lv_if_ne (tgt := 141) hx hb dX12_receives_79 (by decide) (fun c51_ => ?_) (fun c51_ => ?_)
    · replace h := h.1 c51_
      refine lv_aload_n hx hb dX12_receives_141 rfl (lv_at hl 1 rfl) ?_
      refine q_getP X Y kX12 101 rfl fl_X12_251 k41_ rfl dX12_receives_142 ?_
      refine lv_iload hx hb dX12_receives_145 (lv_at hl 0 rfl) ?_
      obtain ⟨a52_, e53_, h⟩ := h
      refine q_nn [.int (q_A S a42_ x5.toNatClampNeg)] e53_ ?_
      obtain ⟨k54_, h⟩ := h
      obtain ⟨i55_, h⟩ := h
      refine q_ild X Y k54_ i55_ dX12_receives_147 ?_
      refine lv_if_ne (tgt := 170) hx hb dX12_receives_148 (by decide) (fun c56_ => ?_) (fun c56_ => ?_)
      · replace h := h.1 c56_
        refine lv_aload_n hx hb dX12_receives_170 rfl (lv_at hl 1 rfl) ?_
        refine q_getP X Y kX12 77 rfl fl_X12_179 k41_ rfl dX12_receives_171 ?_
        refine lv_bipush (v := 32) hx hb dX12_receives_174 (by decide) ?_
        refine lv_iload_n hx hb dX12_receives_176 rfl (lv_at hl 2 rfl) ?_
        refine lv_imul hx hb dX12_receives_177 ?_
        refine lv_bipush (v := 11) hx hb dX12_receives_178 (by decide) ?_
        refine lv_iadd hx hb dX12_receives_180 ?_
        refine lv_aload_n hx hb dX12_receives_181 rfl (lv_at hl 1 rfl) ?_
        refine q_getP X Y kX12 102 rfl fl_X12_254 k41_ rfl dX12_receives_182 ?_
        refine lv_bipush (v := 32) hx hb dX12_receives_185 (by decide) ?_
        refine lv_iload hx hb dX12_receives_187 (lv_at hl 0 rfl) ?_
        refine lv_imul hx hb dX12_receives_189 ?_
        obtain ⟨a57_, e58_, h⟩ := h
        refine q_nn [.int ((32 : Int32) * (q_A S a42_ x5.toNatClampNeg))] e58_ ?_
        obtain ⟨k59_, h⟩ := h
        obtain ⟨i60_, h⟩ := h
        refine q_ild X Y k59_ i60_ dX12_receives_190 ?_
        obtain ⟨a61_, e62_, h⟩ := h
        refine q_nn [.int (q_A S a57_ ((32 : Int32) * (q_A S a42_ x5.toNatClampNeg)).toNatClampNeg), .int (((32 : Int32) * x2) + (11 : Int32))] e62_ ?_
        obtain ⟨k63_, h⟩ := h
        obtain ⟨i64_, h⟩ := h
        refine q_ist X Y k63_ i64_ dX12_receives_191 (fun H locs Y => ?_)
        refine lv_aload_n hx hb dX12_receives_192 rfl (lv_at hl 1 rfl) ?_
        refine q_getP X Y kX12 101 rfl fl_X12_251 k41_ rfl dX12_receives_193 ?_
        refine lv_iload hx hb dX12_receives_196 (lv_at hl 0 rfl) ?_
        refine lv_dup2_11 hx hb dX12_receives_198 rfl (q_cat _) ?_
        obtain ⟨a65_, e66_, h⟩ := h
        refine q_nn [.int (q_A S a42_ x5.toNatClampNeg)] e66_ ?_
        obtain ⟨k67_, h⟩ := h
        obtain ⟨i68_, h⟩ := h
        refine q_ild X Y k67_ i68_ dX12_receives_199 ?_
        refine lv_iconst (v := 1) hx hb dX12_receives_200 (by decide) ?_
        refine lv_isub hx hb dX12_receives_201 ?_
        refine q_nn [.int ((q_A (qs_A S a61_ (((32 : Int32) * x2) + (11 : Int32)).toNatClampNeg (q_A S a57_ ((32 : Int32) * (q_A S a42_ x5.toNatClampNeg)).toNatClampNeg)) a65_ (q_A S a42_ x5.toNatClampNeg).toNatClampNeg) - (1 : Int32)), .int (q_A S a42_ x5.toNatClampNeg)] e66_ ?_
        obtain ⟨i69_, h⟩ := h
        refine q_ist X Y k67_ i69_ dX12_receives_202 (fun H locs Y => ?_)
        obtain ⟨S70_, gS70_⟩ : ∃ z : q_S, z = (qs_A (qs_A S a61_ (((32 : Int32) * x2) + (11 : Int32)).toNatClampNeg (q_A S a57_ ((32 : Int32) * (q_A S a42_ x5.toNatClampNeg)).toNatClampNeg)) a65_ (q_A S a42_ x5.toNatClampNeg).toNatClampNeg ((q_A (qs_A S a61_ (((32 : Int32) * x2) + (11 : Int32)).toNatClampNeg (q_A S a57_ ((32 : Int32) * (q_A S a42_ x5.toNatClampNeg)).toNatClampNeg)) a65_ (q_A S a42_ x5.toNatClampNeg).toNatClampNeg) - (1 : Int32))) := ⟨_, rfl⟩
        replace Y : q_Y D cy lo s S70_ H locs := by rw [gS70_]; exact Y
        replace h := h S70_ gS70_
        replace k41_ : q_K S70_ a0 = 13 := by rw [gS70_]; exact k41_
        replace k44_ : q_K S70_ a42_ = 21 := by rw [gS70_]; exact k44_
        replace k49_ : q_K S70_ a47_ = 22 := by rw [gS70_]; exact k49_
        replace k54_ : q_K S70_ a52_ = 21 := by rw [gS70_]; exact k54_
        replace k59_ : q_K S70_ a57_ = 21 := by rw [gS70_]; exact k59_
        replace k63_ : q_K S70_ a61_ = 21 := by rw [gS70_]; exact k63_
        replace k67_ : q_K S70_ a65_ = 21 := by rw [gS70_]; exact k67_
        refine lv_iconst (v := 0) hx hb dX12_receives_203 (by decide) ?_
        refine lv_istore (i := 7) (lv' := [(7, .int (0 : Int32)), (6, .int (q_A S a42_ x5.toNatClampNeg)), (0, .ref a0), (2, .int x2), (3, .int x3), (4, .int x4), (5, .int x5)]) hx hb dX12_receives_204 hl (by decide) (by first | rfl | simp [q_cat, q_catI, q_catJ, q_catR]) (fun ls hl => ?_)
        obtain ⟨n71_, h⟩ := h
        exact cl_X12_receives_206 X n71_ _ _ _ _ _ _ _ h Y (lv_sub hl [2, 1, 0] rfl)
      · replace h := h.2 c56_
        refine lv_aload_n hx hb dX12_receives_151 rfl (lv_at hl 1 rfl) ?_
        refine q_getP X Y kX12 80 rfl fl_X12_188 k41_ rfl dX12_receives_152 ?_
        refine lv_iload_n hx hb dX12_receives_155 rfl (lv_at hl 2 rfl) ?_
        refine lv_iload_n hx hb dX12_receives_156 rfl (lv_at hl 3 rfl) ?_
        obtain ⟨a72_, e73_, h⟩ := h
        refine q_nn [.int x3, .int x2] e73_ ?_
        obtain ⟨k74_, h⟩ := h
        obtain ⟨i75_, h⟩ := h
        refine q_ist X Y k74_ i75_ dX12_receives_157 (fun H locs Y => ?_)
        refine lv_aload_n hx hb dX12_receives_158 rfl (lv_at hl 1 rfl) ?_
        refine lv_iload_n hx hb dX12_receives_159 rfl (lv_at hl 2 rfl) ?_
        refine lv_bipush (v := 6) hx hb dX12_receives_160 (by decide) ?_
        refine lv_iload hx hb dX12_receives_162 (lv_at hl 0 rfl) ?_
        refine lv_iload hx hb dX12_receives_164 (lv_at hl 4 rfl) ?_
        refine q_callV X Y hl (cm_X12_waits h) mt_X12_waits mi_X12_waits ml_X12_622 (ci := 12) rfl k41_ (by decide) rfl rfl (by first | exact Nat.le_of_ble_eq_true rfl | simp [q_cat, q_catI, q_catJ, q_catR]) ⟨Nat.le_of_ble_eq_true rfl, Nat.le_of_ble_eq_true rfl⟩ ⟨Nat.le_of_ble_eq_true rfl, Nat.le_of_ble_eq_true rfl⟩ dX12_receives_166 (fun r76_ S77_ H locs hp Y => ?_)
        obtain ⟨x78_, rfl, h⟩ := hp
        refine W.eq (g2 := F0 m 169 ls [.int x78_]) rfl ?_
        exact q_iret X Y rfl (Nat.le_refl _) (Nat.le_refl _) h dX12_receives_169
    · replace h := h.2 c51_
      refine lv_aload_n hx hb dX12_receives_82 rfl (lv_at hl 1 rfl) ?_
      refine q_getP X Y kX12 98 rfl fl_X12_242 k41_ rfl dX12_receives_83 ?_
      refine lv_iload hx hb dX12_receives_86 (lv_at hl 0 rfl) ?_
      obtain ⟨a79_, e80_, h⟩ := h
      refine q_nn [.int (q_A S a42_ x5.toNatClampNeg)] e80_ ?_
      obtain ⟨k81_, h⟩ := h
      obtain ⟨i82_, h⟩ := h
      refine q_zld X Y k81_ i82_ dX12_receives_88 ?_
      refine lv_if_ne (tgt := 94) hx hb dX12_receives_89 (by decide) (fun c83_ => ?_) (fun c83_ => ?_)
      · replace h := h.1 c83_
        refine lv_aload_n hx hb dX12_receives_94 rfl (lv_at hl 1 rfl) ?_
        refine q_getP X Y kX12 77 rfl fl_X12_179 k41_ rfl dX12_receives_95 ?_
        refine lv_bipush (v := 32) hx hb dX12_receives_98 (by decide) ?_
        refine lv_iload_n hx hb dX12_receives_100 rfl (lv_at hl 2 rfl) ?_
        refine lv_imul hx hb dX12_receives_101 ?_
        refine lv_bipush (v := 11) hx hb dX12_receives_102 (by decide) ?_
        refine lv_iadd hx hb dX12_receives_104 ?_
        refine lv_aload_n hx hb dX12_receives_105 rfl (lv_at hl 1 rfl) ?_
        refine q_getP X Y kX12 99 rfl fl_X12_245 k41_ rfl dX12_receives_106 ?_
        refine lv_iload hx hb dX12_receives_109 (lv_at hl 0 rfl) ?_
        obtain ⟨a84_, e85_, h⟩ := h
        refine q_nn [.int (q_A S a42_ x5.toNatClampNeg)] e85_ ?_
        obtain ⟨k86_, h⟩ := h
        obtain ⟨i87_, h⟩ := h
        refine q_ild X Y k86_ i87_ dX12_receives_111 ?_
        obtain ⟨a88_, e89_, h⟩ := h
        refine q_nn [.int (q_A S a84_ (q_A S a42_ x5.toNatClampNeg).toNatClampNeg), .int (((32 : Int32) * x2) + (11 : Int32))] e89_ ?_
        obtain ⟨k90_, h⟩ := h
        obtain ⟨i91_, h⟩ := h
        refine q_ist X Y k90_ i91_ dX12_receives_112 (fun H locs Y => ?_)
        refine lv_aload_n hx hb dX12_receives_113 rfl (lv_at hl 1 rfl) ?_
        refine q_getI X Y kX12 63 rfl fl_X12_453 k41_ dX12_receives_114 ?_
        refine lv_aload_n hx hb dX12_receives_117 rfl (lv_at hl 1 rfl) ?_
        refine q_getP X Y kX12 100 rfl fl_X12_248 k41_ rfl dX12_receives_118 ?_
        refine lv_iload hx hb dX12_receives_121 (lv_at hl 0 rfl) ?_
        obtain ⟨a92_, e93_, h⟩ := h
        refine q_nn [.int (q_A S a42_ x5.toNatClampNeg)] e93_ ?_
        obtain ⟨k94_, h⟩ := h
        obtain ⟨i95_, h⟩ := h
        refine q_ild X Y k94_ i95_ dX12_receives_123 ?_
        refine lv_isub hx hb dX12_receives_124 ?_
        refine lv_aload_n hx hb dX12_receives_125 rfl (lv_at hl 1 rfl) ?_
        refine q_getP X Y kX12 55 rfl fl_X12_118 k41_ rfl dX12_receives_126 ?_
        refine lv_iload hx hb dX12_receives_129 (lv_at hl 0 rfl) ?_
        obtain ⟨a96_, e97_, h⟩ := h
        refine q_nn [.int (q_A S a42_ x5.toNatClampNeg)] e97_ ?_
        obtain ⟨k98_, h⟩ := h
        obtain ⟨i99_, h⟩ := h
        refine q_ild X Y k98_ i99_ dX12_receives_131 ?_
        refine lv_icmp_gt (tgt := 139) hx hb dX12_receives_132 (by decide) (fun c100_ => ?_) (fun c100_ => ?_)
        · replace h := h.1 c100_
          refine lv_iconst (v := 5) hx hb dX12_receives_139 (by decide) ?_
          exact cb_X12_receives_140 X Y (lv_sub hl [] rfl) h
        · replace h := h.2 c100_
          refine lv_iconst (v := 0) hx hb dX12_receives_135 (by decide) ?_
          refine lv_goto (tgt := 140) hx hb dX12_receives_136 (by decide) ?_
          exact cb_X12_receives_140 X Y (lv_sub hl [] rfl) h
      · replace h := h.2 c83_
        refine lv_iconst (v := 2) hx hb dX12_receives_92 (by decide) ?_
        exact q_iret X Y rfl (Nat.le_refl _) (Nat.le_refl _) h dX12_receives_93
  · replace h := h.2 c46_
    refine lv_iconst (v := 3) hx hb dX12_receives_70 (by decide) ?_
    exact q_iret X Y rfl (Nat.le_refl _) (Nat.le_refl _) h dX12_receives_71
def wm_X12_receives (S : q_S) (a0 : Nat) (x1 : Int32) (x2 : Int32) (x3 : Int32) (x4 : Int32) (Q : Option Value → q_S → Prop) : Prop := q_K S a0 = 13 ∧ (wm_X12_isThing S a0 x1 (4 : Int32) x3 (fun r102_ S103_ => ∃ x104_ : Int32, r102_ = some (.int x104_) ∧ (((x104_ = 0 → (wb_X12_receives_24 S103_ Q)) ∧ (¬ x104_ = 0 → (q_K S103_ a0 = 13 ∧ (∃ a107_ : Nat, (q_P S103_ 2448 a0) = some a107_ ∧ (q_K S103_ a107_ = 22 ∧ (vp_in (((16 : Int32) * x1) + x3) (q_N S103_ a107_) ∧ ((((q_A S103_ a107_ (((16 : Int32) * x1) + x3).toNatClampNeg) = 0 → (∃ a112_ : Nat, (q_P S103_ 2449 a0) = some a112_ ∧ (q_K S103_ a112_ = 22 ∧ (vp_in (((16 : Int32) * x1) + x3) (q_N S103_ a112_) ∧ ((((q_A S103_ a112_ (((16 : Int32) * x1) + x3).toNatClampNeg) = 0 → (wb_X12_receives_55 S103_ a0 x2 x3 x4 (((16 : Int32) * x1) + x3) Q)) ∧ (¬ (q_A S103_ a112_ (((16 : Int32) * x1) + x3).toNatClampNeg) = 0 → (wm_X12_isTime S103_ a0 x4 (fun r117_ S118_ => ∃ x119_ : Int32, r117_ = some (.int x119_) ∧ (((¬ x119_ = 0 → (wb_X12_receives_55 S118_ a0 x2 x3 x4 (((16 : Int32) * x1) + x3) Q)) ∧ (x119_ = 0 → (Q (some (.int (1 : Int32))) S118_))))))))))))) ∧ (¬ (q_A S103_ a107_ (((16 : Int32) * x1) + x3).toNatClampNeg) = 0 → (wb_X12_receives_24 S103_ Q)))))))))))))
set_option maxHeartbeats 4000000 in
set_option maxRecDepth 100000 in
theorem cm_X12_receives {l : Launch} {D : va_G} {cy : Nat → ClassId} {lo : Nat} {S : q_S} {a0 : Nat} {x1 : Int32} {x2 : Int32} {x3 : Int32} {x4 : Int32} {Q : Option Value → q_S → Prop} (h : wm_X12_receives S a0 x1 x2 x3 x4 Q) : q_Met l D cy lo yX12_receives cX12_receives 8 (some .int) 3 66 0 0 [.ref a0, .int x1, .int x2, .int x3, .int x4] S Q := by
  refine q_body (by decide) (by first | exact Nat.le_of_ble_eq_true rfl | simp [lg_sl, q_cat, q_catI, q_catJ, q_catR]) ?_
  intro p e s m below meth c ls X hnm Y hl
  have hx := X.1
  have hb := X.2.1
  have hl : lv_has ls 8 [(0, .ref a0), (1, .int x1), (2, .int x2), (3, .int x3), (4, .int x4)] := by first | exact hl | simpa [lv_args, q_cat, q_catI, q_catJ, q_catR] using hl
  generalize hargs : ([.ref a0, .int x1, .int x2, .int x3, .int x4] : List Value).toArray = args at X ⊢
  unfold wm_X12_receives at h
  refine lv_aload_n hx hb dX12_receives_0 rfl (lv_at hl 0 rfl) ?_
  refine lv_iload_n hx hb dX12_receives_1 rfl (lv_at hl 1 rfl) ?_
  refine lv_iconst (v := 4) hx hb dX12_receives_2 (by decide) ?_
  refine lv_iload_n hx hb dX12_receives_3 rfl (lv_at hl 3 rfl) ?_
  obtain ⟨k101_, h⟩ := h
  refine q_callV X Y hl (cm_X12_isThing h) mt_X12_isThing mi_X12_isThing ml_X12_616 (ci := 12) rfl k101_ (by decide) rfl rfl (by first | exact Nat.le_of_ble_eq_true rfl | simp [q_cat, q_catI, q_catJ, q_catR]) ⟨Nat.le_of_ble_eq_true rfl, Nat.le_of_ble_eq_true rfl⟩ ⟨Nat.le_of_ble_eq_true rfl, Nat.le_of_ble_eq_true rfl⟩ dX12_receives_4 (fun r102_ S103_ H locs hp Y => ?_)
  obtain ⟨x104_, rfl, h⟩ := hp
  refine W.eq (g2 := F0 m 7 ls [.int x104_]) rfl ?_
  refine lv_if_eq (tgt := 24) hx hb dX12_receives_7 (by decide) (fun c105_ => ?_) (fun c105_ => ?_)
  · replace h := h.1 c105_
    exact cb_X12_receives_24 X Y (lv_sub hl [] rfl) h
  · replace h := h.2 c105_
    refine lv_aload_n hx hb dX12_receives_10 rfl (lv_at hl 0 rfl) ?_
    obtain ⟨k106_, h⟩ := h
    refine q_getP X Y kX12 48 rfl fl_X12_100 k106_ rfl dX12_receives_11 ?_
    refine lv_bipush (v := 16) hx hb dX12_receives_14 (by decide) ?_
    refine lv_iload_n hx hb dX12_receives_16 rfl (lv_at hl 1 rfl) ?_
    refine lv_imul hx hb dX12_receives_17 ?_
    refine lv_iload_n hx hb dX12_receives_18 rfl (lv_at hl 3 rfl) ?_
    refine lv_iadd hx hb dX12_receives_19 ?_
    obtain ⟨a107_, e108_, h⟩ := h
    refine q_nn [.int (((16 : Int32) * x1) + x3)] e108_ ?_
    obtain ⟨k109_, h⟩ := h
    obtain ⟨i110_, h⟩ := h
    refine q_zld X Y k109_ i110_ dX12_receives_20 ?_
    refine lv_if_eq (tgt := 26) hx hb dX12_receives_21 (by decide) (fun c111_ => ?_) (fun c111_ => ?_)
    · replace h := h.1 c111_
      refine lv_bipush (v := 16) hx hb dX12_receives_26 (by decide) ?_
      refine lv_iload_n hx hb dX12_receives_28 rfl (lv_at hl 1 rfl) ?_
      refine lv_imul hx hb dX12_receives_29 ?_
      refine lv_iload_n hx hb dX12_receives_30 rfl (lv_at hl 3 rfl) ?_
      refine lv_iadd hx hb dX12_receives_31 ?_
      refine lv_istore (i := 5) (lv' := [(5, .int (((16 : Int32) * x1) + x3)), (0, .ref a0), (1, .int x1), (2, .int x2), (3, .int x3), (4, .int x4)]) hx hb dX12_receives_32 hl (by decide) (by first | rfl | simp [q_cat, q_catI, q_catJ, q_catR]) (fun ls hl => ?_)
      refine lv_aload_n hx hb dX12_receives_34 rfl (lv_at hl 1 rfl) ?_
      refine q_getP X Y kX12 49 rfl fl_X12_103 k106_ rfl dX12_receives_35 ?_
      refine lv_iload hx hb dX12_receives_38 (lv_at hl 0 rfl) ?_
      obtain ⟨a112_, e113_, h⟩ := h
      refine q_nn [.int (((16 : Int32) * x1) + x3)] e113_ ?_
      obtain ⟨k114_, h⟩ := h
      obtain ⟨i115_, h⟩ := h
      refine q_zld X Y k114_ i115_ dX12_receives_40 ?_
      refine lv_if_eq (tgt := 55) hx hb dX12_receives_41 (by decide) (fun c116_ => ?_) (fun c116_ => ?_)
      · replace h := h.1 c116_
        exact cb_X12_receives_55 X Y (lv_sub hl [1, 3, 4, 5, 0] rfl) h
      · replace h := h.2 c116_
        refine lv_aload_n hx hb dX12_receives_44 rfl (lv_at hl 1 rfl) ?_
        refine lv_iload hx hb dX12_receives_45 (lv_at hl 5 rfl) ?_
        refine q_callV X Y hl (cm_X12_isTime h) mt_X12_isTime mi_X12_isTime ml_X12_619 (ci := 12) rfl k106_ (by decide) rfl rfl (by first | exact Nat.le_of_ble_eq_true rfl | simp [q_cat, q_catI, q_catJ, q_catR]) ⟨Nat.le_of_ble_eq_true rfl, Nat.le_of_ble_eq_true rfl⟩ ⟨Nat.le_of_ble_eq_true rfl, Nat.le_of_ble_eq_true rfl⟩ dX12_receives_47 (fun r117_ S118_ H locs hp Y => ?_)
        obtain ⟨x119_, rfl, h⟩ := hp
        refine W.eq (g2 := F0 m 50 ls [.int x119_]) rfl ?_
        refine lv_if_ne (tgt := 55) hx hb dX12_receives_50 (by decide) (fun c120_ => ?_) (fun c120_ => ?_)
        · replace h := h.1 c120_
          exact cb_X12_receives_55 X Y (lv_sub hl [1, 3, 4, 5, 0] rfl) h
        · replace h := h.2 c120_
          refine lv_iconst (v := 1) hx hb dX12_receives_53 (by decide) ?_
          exact q_iret X Y rfl (Nat.le_refl _) (Nat.le_refl _) h dX12_receives_54
    · replace h := h.2 c111_
      exact cb_X12_receives_24 X Y (lv_sub hl [] rfl) h
-- X12_decides
theorem dX12_decides_0 : decode cX12_decides 0 = .ok (.aload_n 0, 1) := by decide +kernel
theorem dX12_decides_1 : decode cX12_decides 1 = .ok (.iload_n 2, 1) := by decide +kernel
theorem dX12_decides_2 : decode cX12_decides 2 = .ok (.invokevirtual 493, 3) := by decide +kernel
theorem dX12_decides_5 : decode cX12_decides 5 = .ok (.ifCond .ne 5, 3) := by decide +kernel
theorem dX12_decides_8 : decode cX12_decides 8 = .ok (.iconst 3, 1) := by decide +kernel
theorem dX12_decides_9 : decode cX12_decides 9 = .ok (.ireturn, 1) := by decide +kernel
theorem dX12_decides_10 : decode cX12_decides 10 = .ok (.aload_n 0, 1) := by decide +kernel
theorem dX12_decides_11 : decode cX12_decides 11 = .ok (.iload_n 1, 1) := by decide +kernel
theorem dX12_decides_12 : decode cX12_decides 12 = .ok (.invokevirtual 496, 3) := by decide +kernel
theorem dX12_decides_15 : decode cX12_decides 15 = .ok (.ifCond .ne 5, 3) := by decide +kernel
theorem dX12_decides_18 : decode cX12_decides 18 = .ok (.iconst 2, 1) := by decide +kernel
theorem dX12_decides_19 : decode cX12_decides 19 = .ok (.ireturn, 1) := by decide +kernel
theorem dX12_decides_20 : decode cX12_decides 20 = .ok (.iload_n 3, 1) := by decide +kernel
theorem dX12_decides_21 : decode cX12_decides 21 = .ok (.ifCond .lt 8, 3) := by decide +kernel
theorem dX12_decides_24 : decode cX12_decides 24 = .ok (.iload_n 3, 1) := by decide +kernel
theorem dX12_decides_25 : decode cX12_decides 25 = .ok (.iconst 2, 1) := by decide +kernel
theorem dX12_decides_26 : decode cX12_decides 26 = .ok (.if_icmp .le 5, 3) := by decide +kernel
theorem dX12_decides_29 : decode cX12_decides 29 = .ok (.iconst 1, 1) := by decide +kernel
theorem dX12_decides_30 : decode cX12_decides 30 = .ok (.ireturn, 1) := by decide +kernel
theorem dX12_decides_31 : decode cX12_decides 31 = .ok (.aload_n 0, 1) := by decide +kernel
theorem dX12_decides_32 : decode cX12_decides 32 = .ok (.getfield 212, 3) := by decide +kernel
theorem dX12_decides_35 : decode cX12_decides 35 = .ok (.iload_n 1, 1) := by decide +kernel
theorem dX12_decides_36 : decode cX12_decides 36 = .ok (.iaload, 1) := by decide +kernel
theorem dX12_decides_37 : decode cX12_decides 37 = .ok (.istore 4, 2) := by decide +kernel
theorem dX12_decides_39 : decode cX12_decides 39 = .ok (.iload_n 3, 1) := by decide +kernel
theorem dX12_decides_40 : decode cX12_decides 40 = .ok (.ifCond .ne 33, 3) := by decide +kernel
theorem dX12_decides_43 : decode cX12_decides 43 = .ok (.aload_n 0, 1) := by decide +kernel
theorem dX12_decides_44 : decode cX12_decides 44 = .ok (.getfield 215, 3) := by decide +kernel
theorem dX12_decides_47 : decode cX12_decides 47 = .ok (.iload_n 1, 1) := by decide +kernel
theorem dX12_decides_48 : decode cX12_decides 48 = .ok (.iaload, 1) := by decide +kernel
theorem dX12_decides_49 : decode cX12_decides 49 = .ok (.iconst 2, 1) := by decide +kernel
theorem dX12_decides_50 : decode cX12_decides 50 = .ok (.if_icmp .eq 14, 3) := by decide +kernel
theorem dX12_decides_53 : decode cX12_decides 53 = .ok (.aload_n 0, 1) := by decide +kernel
theorem dX12_decides_54 : decode cX12_decides 54 = .ok (.getfield 152, 3) := by decide +kernel
theorem dX12_decides_57 : decode cX12_decides 57 = .ok (.iload 4, 2) := by decide +kernel
theorem dX12_decides_59 : decode cX12_decides 59 = .ok (.dup2, 1) := by decide +kernel
theorem dX12_decides_60 : decode cX12_decides 60 = .ok (.iaload, 1) := by decide +kernel
theorem dX12_decides_61 : decode cX12_decides 61 = .ok (.iconst 4, 1) := by decide +kernel
theorem dX12_decides_62 : decode cX12_decides 62 = .ok (.iadd, 1) := by decide +kernel
theorem dX12_decides_63 : decode cX12_decides 63 = .ok (.iastore, 1) := by decide +kernel
theorem dX12_decides_64 : decode cX12_decides 64 = .ok (.aload_n 0, 1) := by decide +kernel
theorem dX12_decides_65 : decode cX12_decides 65 = .ok (.iload 4, 2) := by decide +kernel
theorem dX12_decides_67 : decode cX12_decides 67 = .ok (.invokevirtual 484, 3) := by decide +kernel
theorem dX12_decides_70 : decode cX12_decides 70 = .ok (.goto 27, 3) := by decide +kernel
theorem dX12_decides_73 : decode cX12_decides 73 = .ok (.iload_n 3, 1) := by decide +kernel
theorem dX12_decides_74 : decode cX12_decides 74 = .ok (.iconst 1, 1) := by decide +kernel
theorem dX12_decides_75 : decode cX12_decides 75 = .ok (.if_icmp .ne 12, 3) := by decide +kernel
theorem dX12_decides_78 : decode cX12_decides 78 = .ok (.aload_n 0, 1) := by decide +kernel
theorem dX12_decides_79 : decode cX12_decides 79 = .ok (.iload 4, 2) := by decide +kernel
theorem dX12_decides_81 : decode cX12_decides 81 = .ok (.invokevirtual 546, 3) := by decide +kernel
theorem dX12_decides_84 : decode cX12_decides 84 = .ok (.goto 13, 3) := by decide +kernel
theorem dX12_decides_87 : decode cX12_decides 87 = .ok (.aload_n 0, 1) := by decide +kernel
theorem dX12_decides_88 : decode cX12_decides 88 = .ok (.iload 4, 2) := by decide +kernel
theorem dX12_decides_90 : decode cX12_decides 90 = .ok (.aload_n 0, 1) := by decide +kernel
theorem dX12_decides_91 : decode cX12_decides 91 = .ok (.getfield 453, 3) := by decide +kernel
theorem dX12_decides_94 : decode cX12_decides 94 = .ok (.invokevirtual 502, 3) := by decide +kernel
theorem dX12_decides_97 : decode cX12_decides 97 = .ok (.aload_n 0, 1) := by decide +kernel
theorem dX12_decides_98 : decode cX12_decides 98 = .ok (.getfield 212, 3) := by decide +kernel
theorem dX12_decides_101 : decode cX12_decides 101 = .ok (.iload_n 1, 1) := by decide +kernel
theorem dX12_decides_102 : decode cX12_decides 102 = .ok (.iconst (-1), 1) := by decide +kernel
theorem dX12_decides_103 : decode cX12_decides 103 = .ok (.iastore, 1) := by decide +kernel
theorem dX12_decides_104 : decode cX12_decides 104 = .ok (.iconst 0, 1) := by decide +kernel
theorem dX12_decides_105 : decode cX12_decides 105 = .ok (.ireturn, 1) := by decide +kernel
def wb_X12_decides_29  (S : q_S) (Q : Option Value → q_S → Prop) : Prop := Q (some (.int (1 : Int32))) S
set_option maxHeartbeats 4000000 in
set_option maxRecDepth 100000 in
theorem cb_X12_decides_29 {p : Program} {l : Launch} {e : Env} {s : State} {m : MethodId} {args : Array Value} {below : List Frame} {meth : Method} {c : Code} {D : va_G} {cy : Nat → ClassId} {lo : Nat}  {S : q_S} {Q : Option Value → q_S → Prop} {H : Heap} {locs : List Loc} {ls : Array Slot} (X : q_X p s m args meth c RX12 cX12_decides 5 (some .int) D cy lo)  (Y : q_Y D cy lo s S H locs) (hl : lv_has ls 5 []) (h : wb_X12_decides_29 S Q) : W p l e ({ frames := 3, cells := 0, slots := 0, locals := 64 } : Room) s m args below meth c H locs 0 0 (MQ below (q_Q D cy lo Q) args s 0 0 (fun q => lo ≤ q)) (F0 m 29 ls []) := by
  have hx := X.1
  have hb := X.2.1
  unfold wb_X12_decides_29 at h
  refine lv_iconst (v := 1) hx hb dX12_decides_29 (by decide) ?_
  exact q_iret X Y rfl (Nat.le_refl _) (Nat.le_refl _) h dX12_decides_30
def wb_X12_decides_97  (S : q_S) (a0 : Nat) (x1 : Int32) (Q : Option Value → q_S → Prop) : Prop := q_K S a0 = 13 ∧ (∃ a2_ : Nat, (q_P S 2488 a0) = some a2_ ∧ (q_K S a2_ = 21 ∧ (vp_in x1 (q_N S a2_) ∧ (Q (some (.int (0 : Int32))) (qs_A S a2_ x1.toNatClampNeg (-1 : Int32))))))
set_option maxHeartbeats 4000000 in
set_option maxRecDepth 100000 in
theorem cb_X12_decides_97 {p : Program} {l : Launch} {e : Env} {s : State} {m : MethodId} {args : Array Value} {below : List Frame} {meth : Method} {c : Code} {D : va_G} {cy : Nat → ClassId} {lo : Nat}  {S : q_S} {a0 : Nat} {x1 : Int32} {Q : Option Value → q_S → Prop} {H : Heap} {locs : List Loc} {ls : Array Slot} (X : q_X p s m args meth c RX12 cX12_decides 5 (some .int) D cy lo)  (Y : q_Y D cy lo s S H locs) (hl : lv_has ls 5 [(0, .ref a0), (1, .int x1)]) (h : wb_X12_decides_97 S a0 x1 Q) : W p l e ({ frames := 3, cells := 0, slots := 0, locals := 64 } : Room) s m args below meth c H locs 0 0 (MQ below (q_Q D cy lo Q) args s 0 0 (fun q => lo ≤ q)) (F0 m 97 ls []) := by
  have hx := X.1
  have hb := X.2.1
  unfold wb_X12_decides_97 at h
  refine lv_aload_n hx hb dX12_decides_97 rfl (lv_at hl 0 rfl) ?_
  obtain ⟨k1_, h⟩ := h
  refine q_getP X Y kX12 88 rfl fl_X12_212 k1_ rfl dX12_decides_98 ?_
  refine lv_iload_n hx hb dX12_decides_101 rfl (lv_at hl 1 rfl) ?_
  refine lv_iconst (v := (-1)) hx hb dX12_decides_102 (by decide) ?_
  obtain ⟨a2_, e3_, h⟩ := h
  refine q_nn [.int (-1 : Int32), .int x1] e3_ ?_
  obtain ⟨k4_, h⟩ := h
  obtain ⟨i5_, h⟩ := h
  refine q_ist X Y k4_ i5_ dX12_decides_103 (fun H locs Y => ?_)
  refine lv_iconst (v := 0) hx hb dX12_decides_104 (by decide) ?_
  exact q_iret X Y rfl (Nat.le_refl _) (Nat.le_refl _) h dX12_decides_105
def wb_X12_decides_64  (S : q_S) (a0 : Nat) (x1 : Int32) (x4 : Int32) (Q : Option Value → q_S → Prop) : Prop := q_K S a0 = 13 ∧ (wm_X12_isReady S a0 x4 (fun r7_ S8_ => r7_ = none ∧ (wb_X12_decides_97 S8_ a0 x1 Q)))
set_option maxHeartbeats 4000000 in
set_option maxRecDepth 100000 in
theorem cb_X12_decides_64 {p : Program} {l : Launch} {e : Env} {s : State} {m : MethodId} {args : Array Value} {below : List Frame} {meth : Method} {c : Code} {D : va_G} {cy : Nat → ClassId} {lo : Nat}  {S : q_S} {a0 : Nat} {x1 : Int32} {x4 : Int32} {Q : Option Value → q_S → Prop} {H : Heap} {locs : List Loc} {ls : Array Slot} (X : q_X p s m args meth c RX12 cX12_decides 5 (some .int) D cy lo)  (Y : q_Y D cy lo s S H locs) (hl : lv_has ls 5 [(0, .ref a0), (1, .int x1), (4, .int x4)]) (h : wb_X12_decides_64 S a0 x1 x4 Q) : W p l e ({ frames := 3, cells := 0, slots := 0, locals := 64 } : Room) s m args below meth c H locs 0 0 (MQ below (q_Q D cy lo Q) args s 0 0 (fun q => lo ≤ q)) (F0 m 64 ls []) := by
  have hx := X.1
  have hb := X.2.1
  unfold wb_X12_decides_64 at h
  refine lv_aload_n hx hb dX12_decides_64 rfl (lv_at hl 0 rfl) ?_
  refine lv_iload hx hb dX12_decides_65 (lv_at hl 2 rfl) ?_
  obtain ⟨k6_, h⟩ := h
  refine q_callV X Y hl (cm_X12_isReady h) mt_X12_isReady mi_X12_isReady ml_X12_484 (ci := 12) rfl k6_ (by decide) rfl rfl (by first | exact Nat.le_of_ble_eq_true rfl | simp [q_cat, q_catI, q_catJ, q_catR]) ⟨Nat.le_of_ble_eq_true rfl, Nat.le_of_ble_eq_true rfl⟩ ⟨Nat.le_of_ble_eq_true rfl, Nat.le_of_ble_eq_true rfl⟩ dX12_decides_67 (fun r7_ S8_ H locs hp Y => ?_)
  obtain ⟨rfl, h⟩ := hp
  refine W.eq (g2 := F0 m 70 ls []) rfl ?_
  refine lv_goto (tgt := 97) hx hb dX12_decides_70 (by decide) ?_
  exact cb_X12_decides_97 X Y (lv_sub hl [0, 1] rfl) h
def wm_X12_decides (S : q_S) (a0 : Nat) (x1 : Int32) (x2 : Int32) (x3 : Int32) (Q : Option Value → q_S → Prop) : Prop := q_K S a0 = 13 ∧ (wm_X12_isHandler S a0 x2 (fun r10_ S11_ => ∃ x12_ : Int32, r10_ = some (.int x12_) ∧ (((¬ x12_ = 0 → (q_K S11_ a0 = 13 ∧ (wm_X12_isFaulted S11_ a0 x1 (fun r15_ S16_ => ∃ x17_ : Int32, r15_ = some (.int x17_) ∧ (((¬ x17_ = 0 → (((x3 < 0 → (wb_X12_decides_29 S16_ Q)) ∧ (¬ x3 < 0 → (((x3 ≤ (2 : Int32) → (q_K S16_ a0 = 13 ∧ (∃ a22_ : Nat, (q_P S16_ 2488 a0) = some a22_ ∧ (q_K S16_ a22_ = 21 ∧ (vp_in x1 (q_N S16_ a22_) ∧ (((¬ x3 = 0 → (((¬ x3 = (1 : Int32) → (wm_X12_startsAt S16_ a0 (q_A S16_ a22_ x1.toNatClampNeg) (q_I S16_ 2463 a0) (fun r28_ S29_ => r28_ = none ∧ (wb_X12_decides_97 S29_ a0 x1 Q)))) ∧ (x3 = (1 : Int32) → (wm_X12_dormant S16_ a0 (q_A S16_ a22_ x1.toNatClampNeg) (fun r30_ S31_ => r30_ = none ∧ (wb_X12_decides_97 S31_ a0 x1 Q))))))) ∧ (x3 = 0 → (∃ a32_ : Nat, (q_P S16_ 2489 a0) = some a32_ ∧ (q_K S16_ a32_ = 21 ∧ (vp_in x1 (q_N S16_ a32_) ∧ ((((q_A S16_ a32_ x1.toNatClampNeg) = (2 : Int32) → (wb_X12_decides_64 S16_ a0 x1 (q_A S16_ a22_ x1.toNatClampNeg) Q)) ∧ (¬ (q_A S16_ a32_ x1.toNatClampNeg) = (2 : Int32) → (∃ a37_ : Nat, (q_P S16_ 2468 a0) = some a37_ ∧ (q_K S16_ a37_ = 21 ∧ (vp_in (q_A S16_ a22_ x1.toNatClampNeg) (q_N S16_ a37_) ∧ (vp_in (q_A S16_ a22_ x1.toNatClampNeg) (q_N S16_ a37_) ∧ (wb_X12_decides_64 (qs_A S16_ a37_ (q_A S16_ a22_ x1.toNatClampNeg).toNatClampNeg ((q_A S16_ a37_ (q_A S16_ a22_ x1.toNatClampNeg).toNatClampNeg) + (4 : Int32))) a0 x1 (q_A S16_ a22_ x1.toNatClampNeg) Q))))))))))))))))))) ∧ (¬ x3 ≤ (2 : Int32) → (wb_X12_decides_29 S16_ Q)))))))) ∧ (x17_ = 0 → (Q (some (.int (2 : Int32))) S16_)))))))) ∧ (x12_ = 0 → (Q (some (.int (3 : Int32))) S11_))))))
set_option maxHeartbeats 4000000 in
set_option maxRecDepth 100000 in
theorem cm_X12_decides {l : Launch} {D : va_G} {cy : Nat → ClassId} {lo : Nat} {S : q_S} {a0 : Nat} {x1 : Int32} {x2 : Int32} {x3 : Int32} {Q : Option Value → q_S → Prop} (h : wm_X12_decides S a0 x1 x2 x3 Q) : q_Met l D cy lo yX12_decides cX12_decides 5 (some .int) 3 64 0 0 [.ref a0, .int x1, .int x2, .int x3] S Q := by
  refine q_body (by decide) (by first | exact Nat.le_of_ble_eq_true rfl | simp [lg_sl, q_cat, q_catI, q_catJ, q_catR]) ?_
  intro p e s m below meth c ls X hnm Y hl
  have hx := X.1
  have hb := X.2.1
  have hl : lv_has ls 5 [(0, .ref a0), (1, .int x1), (2, .int x2), (3, .int x3)] := by first | exact hl | simpa [lv_args, q_cat, q_catI, q_catJ, q_catR] using hl
  generalize hargs : ([.ref a0, .int x1, .int x2, .int x3] : List Value).toArray = args at X ⊢
  unfold wm_X12_decides at h
  refine lv_aload_n hx hb dX12_decides_0 rfl (lv_at hl 0 rfl) ?_
  refine lv_iload_n hx hb dX12_decides_1 rfl (lv_at hl 2 rfl) ?_
  obtain ⟨k9_, h⟩ := h
  refine q_callV X Y hl (cm_X12_isHandler h) mt_X12_isHandler mi_X12_isHandler ml_X12_493 (ci := 12) rfl k9_ (by decide) rfl rfl (by first | exact Nat.le_of_ble_eq_true rfl | simp [q_cat, q_catI, q_catJ, q_catR]) ⟨Nat.le_of_ble_eq_true rfl, Nat.le_of_ble_eq_true rfl⟩ ⟨Nat.le_of_ble_eq_true rfl, Nat.le_of_ble_eq_true rfl⟩ dX12_decides_2 (fun r10_ S11_ H locs hp Y => ?_)
  obtain ⟨x12_, rfl, h⟩ := hp
  refine W.eq (g2 := F0 m 5 ls [.int x12_]) rfl ?_
  refine lv_if_ne (tgt := 10) hx hb dX12_decides_5 (by decide) (fun c13_ => ?_) (fun c13_ => ?_)
  · replace h := h.1 c13_
    refine lv_aload_n hx hb dX12_decides_10 rfl (lv_at hl 0 rfl) ?_
    refine lv_iload_n hx hb dX12_decides_11 rfl (lv_at hl 1 rfl) ?_
    obtain ⟨k14_, h⟩ := h
    refine q_callV X Y hl (cm_X12_isFaulted h) mt_X12_isFaulted mi_X12_isFaulted ml_X12_496 (ci := 12) rfl k14_ (by decide) rfl rfl (by first | exact Nat.le_of_ble_eq_true rfl | simp [q_cat, q_catI, q_catJ, q_catR]) ⟨Nat.le_of_ble_eq_true rfl, Nat.le_of_ble_eq_true rfl⟩ ⟨Nat.le_of_ble_eq_true rfl, Nat.le_of_ble_eq_true rfl⟩ dX12_decides_12 (fun r15_ S16_ H locs hp Y => ?_)
    obtain ⟨x17_, rfl, h⟩ := hp
    refine W.eq (g2 := F0 m 15 ls [.int x17_]) rfl ?_
    refine lv_if_ne (tgt := 20) hx hb dX12_decides_15 (by decide) (fun c18_ => ?_) (fun c18_ => ?_)
    · replace h := h.1 c18_
      refine lv_iload_n hx hb dX12_decides_20 rfl (lv_at hl 3 rfl) ?_
      refine lv_if_lt (tgt := 29) hx hb dX12_decides_21 (by decide) (fun c19_ => ?_) (fun c19_ => ?_)
      · replace h := h.1 c19_
        exact cb_X12_decides_29 X Y (lv_sub hl [] rfl) h
      · replace h := h.2 c19_
        refine lv_iload_n hx hb dX12_decides_24 rfl (lv_at hl 3 rfl) ?_
        refine lv_iconst (v := 2) hx hb dX12_decides_25 (by decide) ?_
        refine lv_icmp_le (tgt := 31) hx hb dX12_decides_26 (by decide) (fun c20_ => ?_) (fun c20_ => ?_)
        · replace h := h.1 c20_
          refine lv_aload_n hx hb dX12_decides_31 rfl (lv_at hl 0 rfl) ?_
          obtain ⟨k21_, h⟩ := h
          refine q_getP X Y kX12 88 rfl fl_X12_212 k21_ rfl dX12_decides_32 ?_
          refine lv_iload_n hx hb dX12_decides_35 rfl (lv_at hl 1 rfl) ?_
          obtain ⟨a22_, e23_, h⟩ := h
          refine q_nn [.int x1] e23_ ?_
          obtain ⟨k24_, h⟩ := h
          obtain ⟨i25_, h⟩ := h
          refine q_ild X Y k24_ i25_ dX12_decides_36 ?_
          refine lv_istore (i := 4) (lv' := [(4, .int (q_A S16_ a22_ x1.toNatClampNeg)), (0, .ref a0), (1, .int x1), (2, .int x2), (3, .int x3)]) hx hb dX12_decides_37 hl (by decide) (by first | rfl | simp [q_cat, q_catI, q_catJ, q_catR]) (fun ls hl => ?_)
          refine lv_iload_n hx hb dX12_decides_39 rfl (lv_at hl 4 rfl) ?_
          refine lv_if_ne (tgt := 73) hx hb dX12_decides_40 (by decide) (fun c26_ => ?_) (fun c26_ => ?_)
          · replace h := h.1 c26_
            refine lv_iload_n hx hb dX12_decides_73 rfl (lv_at hl 4 rfl) ?_
            refine lv_iconst (v := 1) hx hb dX12_decides_74 (by decide) ?_
            refine lv_icmp_ne (tgt := 87) hx hb dX12_decides_75 (by decide) (fun c27_ => ?_) (fun c27_ => ?_)
            · replace h := h.1 c27_
              refine lv_aload_n hx hb dX12_decides_87 rfl (lv_at hl 1 rfl) ?_
              refine lv_iload hx hb dX12_decides_88 (lv_at hl 0 rfl) ?_
              refine lv_aload_n hx hb dX12_decides_90 rfl (lv_at hl 1 rfl) ?_
              refine q_getI X Y kX12 63 rfl fl_X12_453 k21_ dX12_decides_91 ?_
              refine q_callV X Y hl (cm_X12_startsAt h) mt_X12_startsAt mi_X12_startsAt ml_X12_502 (ci := 12) rfl k21_ (by decide) rfl rfl (by first | exact Nat.le_of_ble_eq_true rfl | simp [q_cat, q_catI, q_catJ, q_catR]) ⟨Nat.le_of_ble_eq_true rfl, Nat.le_of_ble_eq_true rfl⟩ ⟨Nat.le_of_ble_eq_true rfl, Nat.le_of_ble_eq_true rfl⟩ dX12_decides_94 (fun r28_ S29_ H locs hp Y => ?_)
              obtain ⟨rfl, h⟩ := hp
              refine W.eq (g2 := F0 m 97 ls []) rfl ?_
              exact cb_X12_decides_97 X Y (lv_sub hl [1, 2] rfl) h
            · replace h := h.2 c27_
              refine lv_aload_n hx hb dX12_decides_78 rfl (lv_at hl 1 rfl) ?_
              refine lv_iload hx hb dX12_decides_79 (lv_at hl 0 rfl) ?_
              refine q_callV X Y hl (cm_X12_dormant h) mt_X12_dormant mi_X12_dormant ml_X12_546 (ci := 12) rfl k21_ (by decide) rfl rfl (by first | exact Nat.le_of_ble_eq_true rfl | simp [q_cat, q_catI, q_catJ, q_catR]) ⟨Nat.le_of_ble_eq_true rfl, Nat.le_of_ble_eq_true rfl⟩ ⟨Nat.le_of_ble_eq_true rfl, Nat.le_of_ble_eq_true rfl⟩ dX12_decides_81 (fun r30_ S31_ H locs hp Y => ?_)
              obtain ⟨rfl, h⟩ := hp
              refine W.eq (g2 := F0 m 84 ls []) rfl ?_
              refine lv_goto (tgt := 97) hx hb dX12_decides_84 (by decide) ?_
              exact cb_X12_decides_97 X Y (lv_sub hl [1, 2] rfl) h
          · replace h := h.2 c26_
            refine lv_aload_n hx hb dX12_decides_43 rfl (lv_at hl 1 rfl) ?_
            refine q_getP X Y kX12 89 rfl fl_X12_215 k21_ rfl dX12_decides_44 ?_
            refine lv_iload_n hx hb dX12_decides_47 rfl (lv_at hl 2 rfl) ?_
            obtain ⟨a32_, e33_, h⟩ := h
            refine q_nn [.int x1] e33_ ?_
            obtain ⟨k34_, h⟩ := h
            obtain ⟨i35_, h⟩ := h
            refine q_ild X Y k34_ i35_ dX12_decides_48 ?_
            refine lv_iconst (v := 2) hx hb dX12_decides_49 (by decide) ?_
            refine lv_icmp_eq (tgt := 64) hx hb dX12_decides_50 (by decide) (fun c36_ => ?_) (fun c36_ => ?_)
            · replace h := h.1 c36_
              exact cb_X12_decides_64 X Y (lv_sub hl [1, 2, 0] rfl) h
            · replace h := h.2 c36_
              refine lv_aload_n hx hb dX12_decides_53 rfl (lv_at hl 1 rfl) ?_
              refine q_getP X Y kX12 68 rfl fl_X12_152 k21_ rfl dX12_decides_54 ?_
              refine lv_iload hx hb dX12_decides_57 (lv_at hl 0 rfl) ?_
              refine lv_dup2_11 hx hb dX12_decides_59 rfl (q_cat _) ?_
              obtain ⟨a37_, e38_, h⟩ := h
              refine q_nn [.int (q_A S16_ a22_ x1.toNatClampNeg)] e38_ ?_
              obtain ⟨k39_, h⟩ := h
              obtain ⟨i40_, h⟩ := h
              refine q_ild X Y k39_ i40_ dX12_decides_60 ?_
              refine lv_iconst (v := 4) hx hb dX12_decides_61 (by decide) ?_
              refine lv_iadd hx hb dX12_decides_62 ?_
              refine q_nn [.int ((q_A S16_ a37_ (q_A S16_ a22_ x1.toNatClampNeg).toNatClampNeg) + (4 : Int32)), .int (q_A S16_ a22_ x1.toNatClampNeg)] e38_ ?_
              obtain ⟨i41_, h⟩ := h
              refine q_ist X Y k39_ i41_ dX12_decides_63 (fun H locs Y => ?_)
              exact cb_X12_decides_64 X Y (lv_sub hl [1, 2, 0] rfl) h
        · replace h := h.2 c20_
          exact cb_X12_decides_29 X Y (lv_sub hl [] rfl) h
    · replace h := h.2 c18_
      refine lv_iconst (v := 2) hx hb dX12_decides_18 (by decide) ?_
      exact q_iret X Y rfl (Nat.le_refl _) (Nat.le_refl _) h dX12_decides_19
  · replace h := h.2 c13_
    refine lv_iconst (v := 3) hx hb dX12_decides_8 (by decide) ?_
    exact q_iret X Y rfl (Nat.le_refl _) (Nat.le_refl _) h dX12_decides_9
-- X12_ofPorts
theorem ml_X12_642 : Cond.methodLink RX12 642 yX12_decides ∈ q_G := q_tb (i := 2445) (by decide +kernel) (by decide +kernel)
theorem mt_X12_decides : q_Mt yX12_decides cX12_decides 5 (some .int) 3 := ⟨q_tb (i := 2448) (by decide +kernel) (by decide +kernel), q_tb (i := 11) (by decide +kernel) (by decide +kernel), by decide +kernel, by decide +kernel, by decide +kernel⟩
theorem mi_X12_decides : Cond.instanceMethod yX12_decides ∈ q_G ∧ Cond.selects yX12_decides.cls yX12_decides yX12_decides ∈ q_G := ⟨q_tb (i := 2447) (by decide +kernel) (by decide +kernel), q_tp (i := 167) (q := (yX12_decides, 114)) (by decide +kernel) (by decide +kernel)⟩
theorem ml_X12_639 : Cond.methodLink RX12 639 yX12_receives ∈ q_G := q_tb (i := 2441) (by decide +kernel) (by decide +kernel)
theorem mt_X12_receives : q_Mt yX12_receives cX12_receives 8 (some .int) 4 := ⟨q_tb (i := 2444) (by decide +kernel) (by decide +kernel), q_tb (i := 11) (by decide +kernel) (by decide +kernel), by decide +kernel, by decide +kernel, by decide +kernel⟩
theorem mi_X12_receives : Cond.instanceMethod yX12_receives ∈ q_G ∧ Cond.selects yX12_receives.cls yX12_receives yX12_receives ∈ q_G := ⟨q_tb (i := 2443) (by decide +kernel) (by decide +kernel), q_tp (i := 166) (q := (yX12_receives, 114)) (by decide +kernel) (by decide +kernel)⟩
theorem ml_X12_636 : Cond.methodLink RX12 636 yX12_sends ∈ q_G := q_tb (i := 2437) (by decide +kernel) (by decide +kernel)
theorem mt_X12_sends : q_Mt yX12_sends cX12_sends 9 (some .int) 5 := ⟨q_tb (i := 2440) (by decide +kernel) (by decide +kernel), q_tb (i := 11) (by decide +kernel) (by decide +kernel), by decide +kernel, by decide +kernel, by decide +kernel⟩
theorem mi_X12_sends : Cond.instanceMethod yX12_sends ∈ q_G ∧ Cond.selects yX12_sends.cls yX12_sends yX12_sends ∈ q_G := ⟨q_tb (i := 2439) (by decide +kernel) (by decide +kernel), q_tp (i := 165) (q := (yX12_sends, 114)) (by decide +kernel) (by decide +kernel)⟩
theorem dX12_ofPorts_0 : decode cX12_ofPorts 0 = .ok (.iload_n 1, 1) := by decide +kernel
theorem dX12_ofPorts_1 : decode cX12_ofPorts 1 = .ok (.tableswitch 298 18 24 #[43, 56, 298, 67, 109, 142, 196], 43) := by decide +kernel
theorem dX12_ofPorts_44 : decode cX12_ofPorts 44 = .ok (.aload_n 0, 1) := by decide +kernel
theorem dX12_ofPorts_45 : decode cX12_ofPorts 45 = .ok (.iload_n 2, 1) := by decide +kernel
theorem dX12_ofPorts_46 : decode cX12_ofPorts 46 = .ok (.iload_n 3, 1) := by decide +kernel
theorem dX12_ofPorts_47 : decode cX12_ofPorts 47 = .ok (.iload 4, 2) := by decide +kernel
theorem dX12_ofPorts_49 : decode cX12_ofPorts 49 = .ok (.iload 5, 2) := by decide +kernel
theorem dX12_ofPorts_51 : decode cX12_ofPorts 51 = .ok (.iload 6, 2) := by decide +kernel
theorem dX12_ofPorts_53 : decode cX12_ofPorts 53 = .ok (.invokevirtual 636, 3) := by decide +kernel
theorem dX12_ofPorts_56 : decode cX12_ofPorts 56 = .ok (.ireturn, 1) := by decide +kernel
theorem dX12_ofPorts_57 : decode cX12_ofPorts 57 = .ok (.aload_n 0, 1) := by decide +kernel
theorem dX12_ofPorts_58 : decode cX12_ofPorts 58 = .ok (.iload_n 2, 1) := by decide +kernel
theorem dX12_ofPorts_59 : decode cX12_ofPorts 59 = .ok (.iload_n 3, 1) := by decide +kernel
theorem dX12_ofPorts_60 : decode cX12_ofPorts 60 = .ok (.iload 4, 2) := by decide +kernel
theorem dX12_ofPorts_62 : decode cX12_ofPorts 62 = .ok (.iload 5, 2) := by decide +kernel
theorem dX12_ofPorts_64 : decode cX12_ofPorts 64 = .ok (.invokevirtual 639, 3) := by decide +kernel
theorem dX12_ofPorts_67 : decode cX12_ofPorts 67 = .ok (.ireturn, 1) := by decide +kernel
theorem dX12_ofPorts_68 : decode cX12_ofPorts 68 = .ok (.aload_n 0, 1) := by decide +kernel
theorem dX12_ofPorts_69 : decode cX12_ofPorts 69 = .ok (.iload_n 3, 1) := by decide +kernel
theorem dX12_ofPorts_70 : decode cX12_ofPorts 70 = .ok (.invokevirtual 493, 3) := by decide +kernel
theorem dX12_ofPorts_73 : decode cX12_ofPorts 73 = .ok (.ifCond .eq 5, 3) := by decide +kernel
theorem dX12_ofPorts_76 : decode cX12_ofPorts 76 = .ok (.iconst 3, 1) := by decide +kernel
theorem dX12_ofPorts_77 : decode cX12_ofPorts 77 = .ok (.ireturn, 1) := by decide +kernel
theorem dX12_ofPorts_78 : decode cX12_ofPorts 78 = .ok (.aload_n 0, 1) := by decide +kernel
theorem dX12_ofPorts_79 : decode cX12_ofPorts 79 = .ok (.getfield 206, 3) := by decide +kernel
theorem dX12_ofPorts_82 : decode cX12_ofPorts 82 = .ok (.iload_n 2, 1) := by decide +kernel
theorem dX12_ofPorts_83 : decode cX12_ofPorts 83 = .ok (.iaload, 1) := by decide +kernel
theorem dX12_ofPorts_84 : decode cX12_ofPorts 84 = .ok (.bipush 8, 2) := by decide +kernel
theorem dX12_ofPorts_86 : decode cX12_ofPorts 86 = .ok (.if_icmp .ne 5, 3) := by decide +kernel
theorem dX12_ofPorts_89 : decode cX12_ofPorts 89 = .ok (.iconst 2, 1) := by decide +kernel
theorem dX12_ofPorts_90 : decode cX12_ofPorts 90 = .ok (.ireturn, 1) := by decide +kernel
theorem dX12_ofPorts_91 : decode cX12_ofPorts 91 = .ok (.aload_n 0, 1) := by decide +kernel
theorem dX12_ofPorts_92 : decode cX12_ofPorts 92 = .ok (.getfield 206, 3) := by decide +kernel
theorem dX12_ofPorts_95 : decode cX12_ofPorts 95 = .ok (.iload_n 2, 1) := by decide +kernel
theorem dX12_ofPorts_96 : decode cX12_ofPorts 96 = .ok (.dup2, 1) := by decide +kernel
theorem dX12_ofPorts_97 : decode cX12_ofPorts 97 = .ok (.iaload, 1) := by decide +kernel
theorem dX12_ofPorts_98 : decode cX12_ofPorts 98 = .ok (.iconst 1, 1) := by decide +kernel
theorem dX12_ofPorts_99 : decode cX12_ofPorts 99 = .ok (.iadd, 1) := by decide +kernel
theorem dX12_ofPorts_100 : decode cX12_ofPorts 100 = .ok (.iastore, 1) := by decide +kernel
theorem dX12_ofPorts_101 : decode cX12_ofPorts 101 = .ok (.aload_n 0, 1) := by decide +kernel
theorem dX12_ofPorts_102 : decode cX12_ofPorts 102 = .ok (.getfield 209, 3) := by decide +kernel
theorem dX12_ofPorts_105 : decode cX12_ofPorts 105 = .ok (.iload_n 2, 1) := by decide +kernel
theorem dX12_ofPorts_106 : decode cX12_ofPorts 106 = .ok (.iload_n 3, 1) := by decide +kernel
theorem dX12_ofPorts_107 : decode cX12_ofPorts 107 = .ok (.iastore, 1) := by decide +kernel
theorem dX12_ofPorts_108 : decode cX12_ofPorts 108 = .ok (.iconst 0, 1) := by decide +kernel
theorem dX12_ofPorts_109 : decode cX12_ofPorts 109 = .ok (.ireturn, 1) := by decide +kernel
theorem dX12_ofPorts_110 : decode cX12_ofPorts 110 = .ok (.aload_n 0, 1) := by decide +kernel
theorem dX12_ofPorts_111 : decode cX12_ofPorts 111 = .ok (.iload_n 3, 1) := by decide +kernel
theorem dX12_ofPorts_112 : decode cX12_ofPorts 112 = .ok (.invokevirtual 493, 3) := by decide +kernel
theorem dX12_ofPorts_115 : decode cX12_ofPorts 115 = .ok (.ifCond .eq 5, 3) := by decide +kernel
theorem dX12_ofPorts_118 : decode cX12_ofPorts 118 = .ok (.iconst 3, 1) := by decide +kernel
theorem dX12_ofPorts_119 : decode cX12_ofPorts 119 = .ok (.ireturn, 1) := by decide +kernel
theorem dX12_ofPorts_120 : decode cX12_ofPorts 120 = .ok (.aload_n 0, 1) := by decide +kernel
theorem dX12_ofPorts_121 : decode cX12_ofPorts 121 = .ok (.getfield 206, 3) := by decide +kernel
theorem dX12_ofPorts_124 : decode cX12_ofPorts 124 = .ok (.iload_n 2, 1) := by decide +kernel
theorem dX12_ofPorts_125 : decode cX12_ofPorts 125 = .ok (.iaload, 1) := by decide +kernel
theorem dX12_ofPorts_126 : decode cX12_ofPorts 126 = .ok (.ifCond .ne 5, 3) := by decide +kernel
theorem dX12_ofPorts_129 : decode cX12_ofPorts 129 = .ok (.iconst 2, 1) := by decide +kernel
theorem dX12_ofPorts_130 : decode cX12_ofPorts 130 = .ok (.ireturn, 1) := by decide +kernel
theorem dX12_ofPorts_131 : decode cX12_ofPorts 131 = .ok (.aload_n 0, 1) := by decide +kernel
theorem dX12_ofPorts_132 : decode cX12_ofPorts 132 = .ok (.getfield 206, 3) := by decide +kernel
theorem dX12_ofPorts_135 : decode cX12_ofPorts 135 = .ok (.iload_n 2, 1) := by decide +kernel
theorem dX12_ofPorts_136 : decode cX12_ofPorts 136 = .ok (.dup2, 1) := by decide +kernel
theorem dX12_ofPorts_137 : decode cX12_ofPorts 137 = .ok (.iaload, 1) := by decide +kernel
theorem dX12_ofPorts_138 : decode cX12_ofPorts 138 = .ok (.iconst 1, 1) := by decide +kernel
theorem dX12_ofPorts_139 : decode cX12_ofPorts 139 = .ok (.isub, 1) := by decide +kernel
theorem dX12_ofPorts_140 : decode cX12_ofPorts 140 = .ok (.iastore, 1) := by decide +kernel
theorem dX12_ofPorts_141 : decode cX12_ofPorts 141 = .ok (.iconst 0, 1) := by decide +kernel
theorem dX12_ofPorts_142 : decode cX12_ofPorts 142 = .ok (.ireturn, 1) := by decide +kernel
theorem dX12_ofPorts_143 : decode cX12_ofPorts 143 = .ok (.iload 4, 2) := by decide +kernel
theorem dX12_ofPorts_145 : decode cX12_ofPorts 145 = .ok (.ifCond .lt 9, 3) := by decide +kernel
theorem dX12_ofPorts_148 : decode cX12_ofPorts 148 = .ok (.iload 4, 2) := by decide +kernel
theorem dX12_ofPorts_150 : decode cX12_ofPorts 150 = .ok (.iconst 2, 1) := by decide +kernel
theorem dX12_ofPorts_151 : decode cX12_ofPorts 151 = .ok (.if_icmp .le 5, 3) := by decide +kernel
theorem dX12_ofPorts_154 : decode cX12_ofPorts 154 = .ok (.iconst 1, 1) := by decide +kernel
theorem dX12_ofPorts_155 : decode cX12_ofPorts 155 = .ok (.ireturn, 1) := by decide +kernel
theorem dX12_ofPorts_156 : decode cX12_ofPorts 156 = .ok (.iload 4, 2) := by decide +kernel
theorem dX12_ofPorts_158 : decode cX12_ofPorts 158 = .ok (.iconst 2, 1) := by decide +kernel
theorem dX12_ofPorts_159 : decode cX12_ofPorts 159 = .ok (.if_icmp .ne 11, 3) := by decide +kernel
theorem dX12_ofPorts_162 : decode cX12_ofPorts 162 = .ok (.aload_n 0, 1) := by decide +kernel
theorem dX12_ofPorts_163 : decode cX12_ofPorts 163 = .ok (.iload_n 2, 1) := by decide +kernel
theorem dX12_ofPorts_164 : decode cX12_ofPorts 164 = .ok (.invokevirtual 549, 3) := by decide +kernel
theorem dX12_ofPorts_167 : decode cX12_ofPorts 167 = .ok (.goto 23, 3) := by decide +kernel
theorem dX12_ofPorts_170 : decode cX12_ofPorts 170 = .ok (.aload_n 0, 1) := by decide +kernel
theorem dX12_ofPorts_171 : decode cX12_ofPorts 171 = .ok (.iload_n 2, 1) := by decide +kernel
theorem dX12_ofPorts_172 : decode cX12_ofPorts 172 = .ok (.iload 4, 2) := by decide +kernel
theorem dX12_ofPorts_174 : decode cX12_ofPorts 174 = .ok (.iconst 1, 1) := by decide +kernel
theorem dX12_ofPorts_175 : decode cX12_ofPorts 175 = .ok (.iadd, 1) := by decide +kernel
theorem dX12_ofPorts_176 : decode cX12_ofPorts 176 = .ok (.iload 4, 2) := by decide +kernel
theorem dX12_ofPorts_178 : decode cX12_ofPorts 178 = .ok (.iconst 1, 1) := by decide +kernel
theorem dX12_ofPorts_179 : decode cX12_ofPorts 179 = .ok (.if_icmp .ne 7, 3) := by decide +kernel
theorem dX12_ofPorts_182 : decode cX12_ofPorts 182 = .ok (.iconst 1, 1) := by decide +kernel
theorem dX12_ofPorts_183 : decode cX12_ofPorts 183 = .ok (.goto 4, 3) := by decide +kernel
theorem dX12_ofPorts_186 : decode cX12_ofPorts 186 = .ok (.iconst 0, 1) := by decide +kernel
theorem dX12_ofPorts_187 : decode cX12_ofPorts 187 = .ok (.invokevirtual 474, 3) := by decide +kernel
theorem dX12_ofPorts_190 : decode cX12_ofPorts 190 = .ok (.aload_n 0, 1) := by decide +kernel
theorem dX12_ofPorts_191 : decode cX12_ofPorts 191 = .ok (.iconst 1, 1) := by decide +kernel
theorem dX12_ofPorts_192 : decode cX12_ofPorts 192 = .ok (.putfield 509, 3) := by decide +kernel
theorem dX12_ofPorts_195 : decode cX12_ofPorts 195 = .ok (.iconst (-1), 1) := by decide +kernel
theorem dX12_ofPorts_196 : decode cX12_ofPorts 196 = .ok (.ireturn, 1) := by decide +kernel
theorem dX12_ofPorts_197 : decode cX12_ofPorts 197 = .ok (.aload_n 0, 1) := by decide +kernel
theorem dX12_ofPorts_198 : decode cX12_ofPorts 198 = .ok (.iload_n 3, 1) := by decide +kernel
theorem dX12_ofPorts_199 : decode cX12_ofPorts 199 = .ok (.invokevirtual 493, 3) := by decide +kernel
theorem dX12_ofPorts_202 : decode cX12_ofPorts 202 = .ok (.ifCond .ne 5, 3) := by decide +kernel
theorem dX12_ofPorts_205 : decode cX12_ofPorts 205 = .ok (.iconst 3, 1) := by decide +kernel
theorem dX12_ofPorts_206 : decode cX12_ofPorts 206 = .ok (.ireturn, 1) := by decide +kernel
theorem dX12_ofPorts_207 : decode cX12_ofPorts 207 = .ok (.aload_n 0, 1) := by decide +kernel
theorem dX12_ofPorts_208 : decode cX12_ofPorts 208 = .ok (.iload_n 2, 1) := by decide +kernel
theorem dX12_ofPorts_209 : decode cX12_ofPorts 209 = .ok (.invokevirtual 496, 3) := by decide +kernel
theorem dX12_ofPorts_212 : decode cX12_ofPorts 212 = .ok (.ifCond .ne 5, 3) := by decide +kernel
theorem dX12_ofPorts_215 : decode cX12_ofPorts 215 = .ok (.iconst 2, 1) := by decide +kernel
theorem dX12_ofPorts_216 : decode cX12_ofPorts 216 = .ok (.ireturn, 1) := by decide +kernel
theorem dX12_ofPorts_217 : decode cX12_ofPorts 217 = .ok (.aload_n 0, 1) := by decide +kernel
theorem dX12_ofPorts_218 : decode cX12_ofPorts 218 = .ok (.getfield 179, 3) := by decide +kernel
theorem dX12_ofPorts_221 : decode cX12_ofPorts 221 = .ok (.bipush 32, 2) := by decide +kernel
theorem dX12_ofPorts_223 : decode cX12_ofPorts 223 = .ok (.iload_n 3, 1) := by decide +kernel
theorem dX12_ofPorts_224 : decode cX12_ofPorts 224 = .ok (.imul, 1) := by decide +kernel
theorem dX12_ofPorts_225 : decode cX12_ofPorts 225 = .ok (.bipush 10, 2) := by decide +kernel
theorem dX12_ofPorts_227 : decode cX12_ofPorts 227 = .ok (.iadd, 1) := by decide +kernel
theorem dX12_ofPorts_228 : decode cX12_ofPorts 228 = .ok (.aload_n 0, 1) := by decide +kernel
theorem dX12_ofPorts_229 : decode cX12_ofPorts 229 = .ok (.getfield 215, 3) := by decide +kernel
theorem dX12_ofPorts_232 : decode cX12_ofPorts 232 = .ok (.iload_n 2, 1) := by decide +kernel
theorem dX12_ofPorts_233 : decode cX12_ofPorts 233 = .ok (.iaload, 1) := by decide +kernel
theorem dX12_ofPorts_234 : decode cX12_ofPorts 234 = .ok (.iastore, 1) := by decide +kernel
theorem dX12_ofPorts_235 : decode cX12_ofPorts 235 = .ok (.aload_n 0, 1) := by decide +kernel
theorem dX12_ofPorts_236 : decode cX12_ofPorts 236 = .ok (.getfield 179, 3) := by decide +kernel
theorem dX12_ofPorts_239 : decode cX12_ofPorts 239 = .ok (.bipush 32, 2) := by decide +kernel
theorem dX12_ofPorts_241 : decode cX12_ofPorts 241 = .ok (.iload_n 3, 1) := by decide +kernel
theorem dX12_ofPorts_242 : decode cX12_ofPorts 242 = .ok (.imul, 1) := by decide +kernel
theorem dX12_ofPorts_243 : decode cX12_ofPorts 243 = .ok (.bipush 11, 2) := by decide +kernel
theorem dX12_ofPorts_245 : decode cX12_ofPorts 245 = .ok (.iadd, 1) := by decide +kernel
theorem dX12_ofPorts_246 : decode cX12_ofPorts 246 = .ok (.aload_n 0, 1) := by decide +kernel
theorem dX12_ofPorts_247 : decode cX12_ofPorts 247 = .ok (.getfield 212, 3) := by decide +kernel
theorem dX12_ofPorts_250 : decode cX12_ofPorts 250 = .ok (.iload_n 2, 1) := by decide +kernel
theorem dX12_ofPorts_251 : decode cX12_ofPorts 251 = .ok (.iaload, 1) := by decide +kernel
theorem dX12_ofPorts_252 : decode cX12_ofPorts 252 = .ok (.bipush 16, 2) := by decide +kernel
theorem dX12_ofPorts_254 : decode cX12_ofPorts 254 = .ok (.irem, 1) := by decide +kernel
theorem dX12_ofPorts_255 : decode cX12_ofPorts 255 = .ok (.iastore, 1) := by decide +kernel
theorem dX12_ofPorts_256 : decode cX12_ofPorts 256 = .ok (.aload_n 0, 1) := by decide +kernel
theorem dX12_ofPorts_257 : decode cX12_ofPorts 257 = .ok (.getfield 179, 3) := by decide +kernel
theorem dX12_ofPorts_260 : decode cX12_ofPorts 260 = .ok (.bipush 32, 2) := by decide +kernel
theorem dX12_ofPorts_262 : decode cX12_ofPorts 262 = .ok (.iload_n 3, 1) := by decide +kernel
theorem dX12_ofPorts_263 : decode cX12_ofPorts 263 = .ok (.imul, 1) := by decide +kernel
theorem dX12_ofPorts_264 : decode cX12_ofPorts 264 = .ok (.bipush 12, 2) := by decide +kernel
theorem dX12_ofPorts_266 : decode cX12_ofPorts 266 = .ok (.iadd, 1) := by decide +kernel
theorem dX12_ofPorts_267 : decode cX12_ofPorts 267 = .ok (.aload_n 0, 1) := by decide +kernel
theorem dX12_ofPorts_268 : decode cX12_ofPorts 268 = .ok (.getfield 152, 3) := by decide +kernel
theorem dX12_ofPorts_271 : decode cX12_ofPorts 271 = .ok (.aload_n 0, 1) := by decide +kernel
theorem dX12_ofPorts_272 : decode cX12_ofPorts 272 = .ok (.getfield 212, 3) := by decide +kernel
theorem dX12_ofPorts_275 : decode cX12_ofPorts 275 = .ok (.iload_n 2, 1) := by decide +kernel
theorem dX12_ofPorts_276 : decode cX12_ofPorts 276 = .ok (.iaload, 1) := by decide +kernel
theorem dX12_ofPorts_277 : decode cX12_ofPorts 277 = .ok (.iaload, 1) := by decide +kernel
theorem dX12_ofPorts_278 : decode cX12_ofPorts 278 = .ok (.iastore, 1) := by decide +kernel
theorem dX12_ofPorts_279 : decode cX12_ofPorts 279 = .ok (.aload_n 0, 1) := by decide +kernel
theorem dX12_ofPorts_280 : decode cX12_ofPorts 280 = .ok (.getfield 179, 3) := by decide +kernel
theorem dX12_ofPorts_283 : decode cX12_ofPorts 283 = .ok (.bipush 32, 2) := by decide +kernel
theorem dX12_ofPorts_285 : decode cX12_ofPorts 285 = .ok (.iload_n 3, 1) := by decide +kernel
theorem dX12_ofPorts_286 : decode cX12_ofPorts 286 = .ok (.imul, 1) := by decide +kernel
theorem dX12_ofPorts_287 : decode cX12_ofPorts 287 = .ok (.bipush 13, 2) := by decide +kernel
theorem dX12_ofPorts_289 : decode cX12_ofPorts 289 = .ok (.iadd, 1) := by decide +kernel
theorem dX12_ofPorts_290 : decode cX12_ofPorts 290 = .ok (.aload_n 0, 1) := by decide +kernel
theorem dX12_ofPorts_291 : decode cX12_ofPorts 291 = .ok (.getfield 218, 3) := by decide +kernel
theorem dX12_ofPorts_294 : decode cX12_ofPorts 294 = .ok (.iload_n 2, 1) := by decide +kernel
theorem dX12_ofPorts_295 : decode cX12_ofPorts 295 = .ok (.iaload, 1) := by decide +kernel
theorem dX12_ofPorts_296 : decode cX12_ofPorts 296 = .ok (.iastore, 1) := by decide +kernel
theorem dX12_ofPorts_297 : decode cX12_ofPorts 297 = .ok (.iconst (-1), 1) := by decide +kernel
theorem dX12_ofPorts_298 : decode cX12_ofPorts 298 = .ok (.ireturn, 1) := by decide +kernel
theorem dX12_ofPorts_299 : decode cX12_ofPorts 299 = .ok (.aload_n 0, 1) := by decide +kernel
theorem dX12_ofPorts_300 : decode cX12_ofPorts 300 = .ok (.iload_n 2, 1) := by decide +kernel
theorem dX12_ofPorts_301 : decode cX12_ofPorts 301 = .ok (.iload_n 3, 1) := by decide +kernel
theorem dX12_ofPorts_302 : decode cX12_ofPorts 302 = .ok (.iload 4, 2) := by decide +kernel
theorem dX12_ofPorts_304 : decode cX12_ofPorts 304 = .ok (.invokevirtual 642, 3) := by decide +kernel
theorem dX12_ofPorts_307 : decode cX12_ofPorts 307 = .ok (.ireturn, 1) := by decide +kernel
def wb_X12_ofPorts_279  (S : q_S) (a0 : Nat) (x2 : Int32) (x3 : Int32) (Q : Option Value → q_S → Prop) : Prop := q_K S a0 = 13 ∧ (∃ a2_ : Nat, (q_P S 2490 a0) = some a2_ ∧ (q_K S a2_ = 21 ∧ (vp_in x2 (q_N S a2_) ∧ (∃ a6_ : Nat, (q_P S 2477 a0) = some a6_ ∧ (q_K S a6_ = 21 ∧ (vp_in (((32 : Int32) * x3) + (13 : Int32)) (q_N S a6_) ∧ (Q (some (.int (-1 : Int32))) (qs_A S a6_ (((32 : Int32) * x3) + (13 : Int32)).toNatClampNeg (q_A S a2_ x2.toNatClampNeg)))))))))
set_option maxHeartbeats 4000000 in
set_option maxRecDepth 100000 in
theorem cb_X12_ofPorts_279 {p : Program} {l : Launch} {e : Env} {s : State} {m : MethodId} {args : Array Value} {below : List Frame} {meth : Method} {c : Code} {D : va_G} {cy : Nat → ClassId} {lo : Nat}  {S : q_S} {a0 : Nat} {x2 : Int32} {x3 : Int32} {Q : Option Value → q_S → Prop} {H : Heap} {locs : List Loc} {ls : Array Slot} (X : q_X p s m args meth c RX12 cX12_ofPorts 7 (some .int) D cy lo)  (Y : q_Y D cy lo s S H locs) (hl : lv_has ls 7 [(0, .ref a0), (2, .int x2), (3, .int x3)]) (h : wb_X12_ofPorts_279 S a0 x2 x3 Q) : W p l e ({ frames := 4, cells := 0, slots := 0, locals := 94 } : Room) s m args below meth c H locs 0 0 (MQ below (q_Q D cy lo Q) args s 0 0 (fun q => lo ≤ q)) (F0 m 279 ls []) := by
  have hx := X.1
  have hb := X.2.1
  unfold wb_X12_ofPorts_279 at h
  refine lv_aload_n hx hb dX12_ofPorts_279 rfl (lv_at hl 0 rfl) ?_
  obtain ⟨k1_, h⟩ := h
  refine q_getP X Y kX12 77 rfl fl_X12_179 k1_ rfl dX12_ofPorts_280 ?_
  refine lv_bipush (v := 32) hx hb dX12_ofPorts_283 (by decide) ?_
  refine lv_iload_n hx hb dX12_ofPorts_285 rfl (lv_at hl 2 rfl) ?_
  refine lv_imul hx hb dX12_ofPorts_286 ?_
  refine lv_bipush (v := 13) hx hb dX12_ofPorts_287 (by decide) ?_
  refine lv_iadd hx hb dX12_ofPorts_289 ?_
  refine lv_aload_n hx hb dX12_ofPorts_290 rfl (lv_at hl 0 rfl) ?_
  refine q_getP X Y kX12 90 rfl fl_X12_218 k1_ rfl dX12_ofPorts_291 ?_
  refine lv_iload_n hx hb dX12_ofPorts_294 rfl (lv_at hl 1 rfl) ?_
  obtain ⟨a2_, e3_, h⟩ := h
  refine q_nn [.int x2] e3_ ?_
  obtain ⟨k4_, h⟩ := h
  obtain ⟨i5_, h⟩ := h
  refine q_ild X Y k4_ i5_ dX12_ofPorts_295 ?_
  obtain ⟨a6_, e7_, h⟩ := h
  refine q_nn [.int (q_A S a2_ x2.toNatClampNeg), .int (((32 : Int32) * x3) + (13 : Int32))] e7_ ?_
  obtain ⟨k8_, h⟩ := h
  obtain ⟨i9_, h⟩ := h
  refine q_ist X Y k8_ i9_ dX12_ofPorts_296 (fun H locs Y => ?_)
  refine lv_iconst (v := (-1)) hx hb dX12_ofPorts_297 (by decide) ?_
  exact q_iret X Y rfl (Nat.le_refl _) (Nat.le_refl _) h dX12_ofPorts_298
def wb_X12_ofPorts_235  (S : q_S) (a0 : Nat) (x2 : Int32) (x3 : Int32) (Q : Option Value → q_S → Prop) : Prop := q_K S a0 = 13 ∧ (∃ a11_ : Nat, (q_P S 2488 a0) = some a11_ ∧ (q_K S a11_ = 21 ∧ (vp_in x2 (q_N S a11_) ∧ (∃ a15_ : Nat, (q_P S 2477 a0) = some a15_ ∧ (q_K S a15_ = 21 ∧ (vp_in (((32 : Int32) * x3) + (11 : Int32)) (q_N S a15_) ∧ (∃ a19_ : Nat, (q_P (qs_A S a15_ (((32 : Int32) * x3) + (11 : Int32)).toNatClampNeg ((q_A S a11_ x2.toNatClampNeg) - (q_A S a11_ x2.toNatClampNeg) / (16 : Int32) * (16 : Int32))) 2488 a0) = some a19_ ∧ (q_K (qs_A S a15_ (((32 : Int32) * x3) + (11 : Int32)).toNatClampNeg ((q_A S a11_ x2.toNatClampNeg) - (q_A S a11_ x2.toNatClampNeg) / (16 : Int32) * (16 : Int32))) a19_ = 21 ∧ (vp_in x2 (q_N (qs_A S a15_ (((32 : Int32) * x3) + (11 : Int32)).toNatClampNeg ((q_A S a11_ x2.toNatClampNeg) - (q_A S a11_ x2.toNatClampNeg) / (16 : Int32) * (16 : Int32))) a19_) ∧ (∃ a23_ : Nat, (q_P (qs_A S a15_ (((32 : Int32) * x3) + (11 : Int32)).toNatClampNeg ((q_A S a11_ x2.toNatClampNeg) - (q_A S a11_ x2.toNatClampNeg) / (16 : Int32) * (16 : Int32))) 2468 a0) = some a23_ ∧ (q_K (qs_A S a15_ (((32 : Int32) * x3) + (11 : Int32)).toNatClampNeg ((q_A S a11_ x2.toNatClampNeg) - (q_A S a11_ x2.toNatClampNeg) / (16 : Int32) * (16 : Int32))) a23_ = 21 ∧ (vp_in (q_A (qs_A S a15_ (((32 : Int32) * x3) + (11 : Int32)).toNatClampNeg ((q_A S a11_ x2.toNatClampNeg) - (q_A S a11_ x2.toNatClampNeg) / (16 : Int32) * (16 : Int32))) a19_ x2.toNatClampNeg) (q_N (qs_A S a15_ (((32 : Int32) * x3) + (11 : Int32)).toNatClampNeg ((q_A S a11_ x2.toNatClampNeg) - (q_A S a11_ x2.toNatClampNeg) / (16 : Int32) * (16 : Int32))) a23_) ∧ (∃ a27_ : Nat, (q_P (qs_A S a15_ (((32 : Int32) * x3) + (11 : Int32)).toNatClampNeg ((q_A S a11_ x2.toNatClampNeg) - (q_A S a11_ x2.toNatClampNeg) / (16 : Int32) * (16 : Int32))) 2477 a0) = some a27_ ∧ (q_K (qs_A S a15_ (((32 : Int32) * x3) + (11 : Int32)).toNatClampNeg ((q_A S a11_ x2.toNatClampNeg) - (q_A S a11_ x2.toNatClampNeg) / (16 : Int32) * (16 : Int32))) a27_ = 21 ∧ (vp_in (((32 : Int32) * x3) + (12 : Int32)) (q_N (qs_A S a15_ (((32 : Int32) * x3) + (11 : Int32)).toNatClampNeg ((q_A S a11_ x2.toNatClampNeg) - (q_A S a11_ x2.toNatClampNeg) / (16 : Int32) * (16 : Int32))) a27_) ∧ (∀ S31_ : q_S, S31_ = (qs_A (qs_A S a15_ (((32 : Int32) * x3) + (11 : Int32)).toNatClampNeg ((q_A S a11_ x2.toNatClampNeg) - (q_A S a11_ x2.toNatClampNeg) / (16 : Int32) * (16 : Int32))) a27_ (((32 : Int32) * x3) + (12 : Int32)).toNatClampNeg (q_A (qs_A S a15_ (((32 : Int32) * x3) + (11 : Int32)).toNatClampNeg ((q_A S a11_ x2.toNatClampNeg) - (q_A S a11_ x2.toNatClampNeg) / (16 : Int32) * (16 : Int32))) a23_ (q_A (qs_A S a15_ (((32 : Int32) * x3) + (11 : Int32)).toNatClampNeg ((q_A S a11_ x2.toNatClampNeg) - (q_A S a11_ x2.toNatClampNeg) / (16 : Int32) * (16 : Int32))) a19_ x2.toNatClampNeg).toNatClampNeg)) → (wb_X12_ofPorts_279 S31_ a0 x2 x3 Q)))))))))))))))))
set_option maxHeartbeats 4000000 in
set_option maxRecDepth 100000 in
theorem cb_X12_ofPorts_235 {p : Program} {l : Launch} {e : Env} {s : State} {m : MethodId} {args : Array Value} {below : List Frame} {meth : Method} {c : Code} {D : va_G} {cy : Nat → ClassId} {lo : Nat}  {S : q_S} {a0 : Nat} {x2 : Int32} {x3 : Int32} {Q : Option Value → q_S → Prop} {H : Heap} {locs : List Loc} {ls : Array Slot} (X : q_X p s m args meth c RX12 cX12_ofPorts 7 (some .int) D cy lo)  (Y : q_Y D cy lo s S H locs) (hl : lv_has ls 7 [(0, .ref a0), (2, .int x2), (3, .int x3)]) (h : wb_X12_ofPorts_235 S a0 x2 x3 Q) : W p l e ({ frames := 4, cells := 0, slots := 0, locals := 94 } : Room) s m args below meth c H locs 0 0 (MQ below (q_Q D cy lo Q) args s 0 0 (fun q => lo ≤ q)) (F0 m 235 ls []) := by
  have hx := X.1
  have hb := X.2.1
  unfold wb_X12_ofPorts_235 at h
  refine lv_aload_n hx hb dX12_ofPorts_235 rfl (lv_at hl 0 rfl) ?_
  obtain ⟨k10_, h⟩ := h
  refine q_getP X Y kX12 77 rfl fl_X12_179 k10_ rfl dX12_ofPorts_236 ?_
  refine lv_bipush (v := 32) hx hb dX12_ofPorts_239 (by decide) ?_
  refine lv_iload_n hx hb dX12_ofPorts_241 rfl (lv_at hl 2 rfl) ?_
  refine lv_imul hx hb dX12_ofPorts_242 ?_
  refine lv_bipush (v := 11) hx hb dX12_ofPorts_243 (by decide) ?_
  refine lv_iadd hx hb dX12_ofPorts_245 ?_
  refine lv_aload_n hx hb dX12_ofPorts_246 rfl (lv_at hl 0 rfl) ?_
  refine q_getP X Y kX12 88 rfl fl_X12_212 k10_ rfl dX12_ofPorts_247 ?_
  refine lv_iload_n hx hb dX12_ofPorts_250 rfl (lv_at hl 1 rfl) ?_
  obtain ⟨a11_, e12_, h⟩ := h
  refine q_nn [.int x2] e12_ ?_
  obtain ⟨k13_, h⟩ := h
  obtain ⟨i14_, h⟩ := h
  refine q_ild X Y k13_ i14_ dX12_ofPorts_251 ?_
  refine lv_bipush (v := 16) hx hb dX12_ofPorts_252 (by decide) ?_
  refine lv_irem hx hb dX12_ofPorts_254 (by decide) ?_
  obtain ⟨a15_, e16_, h⟩ := h
  refine q_nn [.int ((q_A S a11_ x2.toNatClampNeg) - (q_A S a11_ x2.toNatClampNeg) / (16 : Int32) * (16 : Int32)), .int (((32 : Int32) * x3) + (11 : Int32))] e16_ ?_
  obtain ⟨k17_, h⟩ := h
  obtain ⟨i18_, h⟩ := h
  refine q_ist X Y k17_ i18_ dX12_ofPorts_255 (fun H locs Y => ?_)
  refine lv_aload_n hx hb dX12_ofPorts_256 rfl (lv_at hl 0 rfl) ?_
  refine q_getP X Y kX12 77 rfl fl_X12_179 k10_ rfl dX12_ofPorts_257 ?_
  refine lv_bipush (v := 32) hx hb dX12_ofPorts_260 (by decide) ?_
  refine lv_iload_n hx hb dX12_ofPorts_262 rfl (lv_at hl 2 rfl) ?_
  refine lv_imul hx hb dX12_ofPorts_263 ?_
  refine lv_bipush (v := 12) hx hb dX12_ofPorts_264 (by decide) ?_
  refine lv_iadd hx hb dX12_ofPorts_266 ?_
  refine lv_aload_n hx hb dX12_ofPorts_267 rfl (lv_at hl 0 rfl) ?_
  refine q_getP X Y kX12 68 rfl fl_X12_152 k10_ rfl dX12_ofPorts_268 ?_
  refine lv_aload_n hx hb dX12_ofPorts_271 rfl (lv_at hl 0 rfl) ?_
  refine q_getP X Y kX12 88 rfl fl_X12_212 k10_ rfl dX12_ofPorts_272 ?_
  refine lv_iload_n hx hb dX12_ofPorts_275 rfl (lv_at hl 1 rfl) ?_
  obtain ⟨a19_, e20_, h⟩ := h
  refine q_nn [.int x2] e20_ ?_
  obtain ⟨k21_, h⟩ := h
  obtain ⟨i22_, h⟩ := h
  refine q_ild X Y k21_ i22_ dX12_ofPorts_276 ?_
  obtain ⟨a23_, e24_, h⟩ := h
  refine q_nn [.int (q_A (qs_A S a15_ (((32 : Int32) * x3) + (11 : Int32)).toNatClampNeg ((q_A S a11_ x2.toNatClampNeg) - (q_A S a11_ x2.toNatClampNeg) / (16 : Int32) * (16 : Int32))) a19_ x2.toNatClampNeg)] e24_ ?_
  obtain ⟨k25_, h⟩ := h
  obtain ⟨i26_, h⟩ := h
  refine q_ild X Y k25_ i26_ dX12_ofPorts_277 ?_
  obtain ⟨a27_, e28_, h⟩ := h
  refine q_nn [.int (q_A (qs_A S a15_ (((32 : Int32) * x3) + (11 : Int32)).toNatClampNeg ((q_A S a11_ x2.toNatClampNeg) - (q_A S a11_ x2.toNatClampNeg) / (16 : Int32) * (16 : Int32))) a23_ (q_A (qs_A S a15_ (((32 : Int32) * x3) + (11 : Int32)).toNatClampNeg ((q_A S a11_ x2.toNatClampNeg) - (q_A S a11_ x2.toNatClampNeg) / (16 : Int32) * (16 : Int32))) a19_ x2.toNatClampNeg).toNatClampNeg), .int (((32 : Int32) * x3) + (12 : Int32))] e28_ ?_
  obtain ⟨k29_, h⟩ := h
  obtain ⟨i30_, h⟩ := h
  refine q_ist X Y k29_ i30_ dX12_ofPorts_278 (fun H locs Y => ?_)
  obtain ⟨S31_, gS31_⟩ : ∃ z : q_S, z = (qs_A (qs_A S a15_ (((32 : Int32) * x3) + (11 : Int32)).toNatClampNeg ((q_A S a11_ x2.toNatClampNeg) - (q_A S a11_ x2.toNatClampNeg) / (16 : Int32) * (16 : Int32))) a27_ (((32 : Int32) * x3) + (12 : Int32)).toNatClampNeg (q_A (qs_A S a15_ (((32 : Int32) * x3) + (11 : Int32)).toNatClampNeg ((q_A S a11_ x2.toNatClampNeg) - (q_A S a11_ x2.toNatClampNeg) / (16 : Int32) * (16 : Int32))) a23_ (q_A (qs_A S a15_ (((32 : Int32) * x3) + (11 : Int32)).toNatClampNeg ((q_A S a11_ x2.toNatClampNeg) - (q_A S a11_ x2.toNatClampNeg) / (16 : Int32) * (16 : Int32))) a19_ x2.toNatClampNeg).toNatClampNeg)) := ⟨_, rfl⟩
  replace Y : q_Y D cy lo s S31_ H locs := by rw [gS31_]; exact Y
  replace h := h S31_ gS31_
  replace k10_ : q_K S31_ a0 = 13 := by rw [gS31_]; exact k10_
  replace k13_ : q_K S31_ a11_ = 21 := by rw [gS31_]; exact k13_
  replace k17_ : q_K S31_ a15_ = 21 := by rw [gS31_]; exact k17_
  replace k21_ : q_K S31_ a19_ = 21 := by rw [gS31_]; exact k21_
  replace k25_ : q_K S31_ a23_ = 21 := by rw [gS31_]; exact k25_
  replace k29_ : q_K S31_ a27_ = 21 := by rw [gS31_]; exact k29_
  exact cb_X12_ofPorts_279 X Y (lv_sub hl [0, 1, 2] rfl) h
def wb_X12_ofPorts_197  (S : q_S) (a0 : Nat) (x2 : Int32) (x3 : Int32) (Q : Option Value → q_S → Prop) : Prop := q_K S a0 = 13 ∧ (wm_X12_isHandler S a0 x3 (fun r33_ S34_ => ∃ x35_ : Int32, r33_ = some (.int x35_) ∧ (((¬ x35_ = 0 → (q_K S34_ a0 = 13 ∧ (wm_X12_isFaulted S34_ a0 x2 (fun r38_ S39_ => ∃ x40_ : Int32, r38_ = some (.int x40_) ∧ (((¬ x40_ = 0 → (q_K S39_ a0 = 13 ∧ (∃ a43_ : Nat, (q_P S39_ 2489 a0) = some a43_ ∧ (q_K S39_ a43_ = 21 ∧ (vp_in x2 (q_N S39_ a43_) ∧ (∃ a47_ : Nat, (q_P S39_ 2477 a0) = some a47_ ∧ (q_K S39_ a47_ = 21 ∧ (vp_in (((32 : Int32) * x3) + (10 : Int32)) (q_N S39_ a47_) ∧ (wb_X12_ofPorts_235 (qs_A S39_ a47_ (((32 : Int32) * x3) + (10 : Int32)).toNatClampNeg (q_A S39_ a43_ x2.toNatClampNeg)) a0 x2 x3 Q))))))))) ∧ (x40_ = 0 → (Q (some (.int (2 : Int32))) S39_)))))))) ∧ (x35_ = 0 → (Q (some (.int (3 : Int32))) S34_))))))
set_option maxHeartbeats 4000000 in
set_option maxRecDepth 100000 in
theorem cb_X12_ofPorts_197 {p : Program} {l : Launch} {e : Env} {s : State} {m : MethodId} {args : Array Value} {below : List Frame} {meth : Method} {c : Code} {D : va_G} {cy : Nat → ClassId} {lo : Nat}  {S : q_S} {a0 : Nat} {x2 : Int32} {x3 : Int32} {Q : Option Value → q_S → Prop} {H : Heap} {locs : List Loc} {ls : Array Slot} (X : q_X p s m args meth c RX12 cX12_ofPorts 7 (some .int) D cy lo)  (Y : q_Y D cy lo s S H locs) (hl : lv_has ls 7 [(0, .ref a0), (2, .int x2), (3, .int x3)]) (h : wb_X12_ofPorts_197 S a0 x2 x3 Q) : W p l e ({ frames := 4, cells := 0, slots := 0, locals := 94 } : Room) s m args below meth c H locs 0 0 (MQ below (q_Q D cy lo Q) args s 0 0 (fun q => lo ≤ q)) (F0 m 197 ls []) := by
  have hx := X.1
  have hb := X.2.1
  unfold wb_X12_ofPorts_197 at h
  refine lv_aload_n hx hb dX12_ofPorts_197 rfl (lv_at hl 0 rfl) ?_
  refine lv_iload_n hx hb dX12_ofPorts_198 rfl (lv_at hl 2 rfl) ?_
  obtain ⟨k32_, h⟩ := h
  refine q_callV X Y hl (cm_X12_isHandler h) mt_X12_isHandler mi_X12_isHandler ml_X12_493 (ci := 12) rfl k32_ (by decide) rfl rfl (by first | exact Nat.le_of_ble_eq_true rfl | simp [q_cat, q_catI, q_catJ, q_catR]) ⟨Nat.le_of_ble_eq_true rfl, Nat.le_of_ble_eq_true rfl⟩ ⟨Nat.le_of_ble_eq_true rfl, Nat.le_of_ble_eq_true rfl⟩ dX12_ofPorts_199 (fun r33_ S34_ H locs hp Y => ?_)
  obtain ⟨x35_, rfl, h⟩ := hp
  refine W.eq (g2 := F0 m 202 ls [.int x35_]) rfl ?_
  refine lv_if_ne (tgt := 207) hx hb dX12_ofPorts_202 (by decide) (fun c36_ => ?_) (fun c36_ => ?_)
  · replace h := h.1 c36_
    refine lv_aload_n hx hb dX12_ofPorts_207 rfl (lv_at hl 0 rfl) ?_
    refine lv_iload_n hx hb dX12_ofPorts_208 rfl (lv_at hl 1 rfl) ?_
    obtain ⟨k37_, h⟩ := h
    refine q_callV X Y hl (cm_X12_isFaulted h) mt_X12_isFaulted mi_X12_isFaulted ml_X12_496 (ci := 12) rfl k37_ (by decide) rfl rfl (by first | exact Nat.le_of_ble_eq_true rfl | simp [q_cat, q_catI, q_catJ, q_catR]) ⟨Nat.le_of_ble_eq_true rfl, Nat.le_of_ble_eq_true rfl⟩ ⟨Nat.le_of_ble_eq_true rfl, Nat.le_of_ble_eq_true rfl⟩ dX12_ofPorts_209 (fun r38_ S39_ H locs hp Y => ?_)
    obtain ⟨x40_, rfl, h⟩ := hp
    refine W.eq (g2 := F0 m 212 ls [.int x40_]) rfl ?_
    refine lv_if_ne (tgt := 217) hx hb dX12_ofPorts_212 (by decide) (fun c41_ => ?_) (fun c41_ => ?_)
    · replace h := h.1 c41_
      refine lv_aload_n hx hb dX12_ofPorts_217 rfl (lv_at hl 0 rfl) ?_
      obtain ⟨k42_, h⟩ := h
      refine q_getP X Y kX12 77 rfl fl_X12_179 k42_ rfl dX12_ofPorts_218 ?_
      refine lv_bipush (v := 32) hx hb dX12_ofPorts_221 (by decide) ?_
      refine lv_iload_n hx hb dX12_ofPorts_223 rfl (lv_at hl 2 rfl) ?_
      refine lv_imul hx hb dX12_ofPorts_224 ?_
      refine lv_bipush (v := 10) hx hb dX12_ofPorts_225 (by decide) ?_
      refine lv_iadd hx hb dX12_ofPorts_227 ?_
      refine lv_aload_n hx hb dX12_ofPorts_228 rfl (lv_at hl 0 rfl) ?_
      refine q_getP X Y kX12 89 rfl fl_X12_215 k42_ rfl dX12_ofPorts_229 ?_
      refine lv_iload_n hx hb dX12_ofPorts_232 rfl (lv_at hl 1 rfl) ?_
      obtain ⟨a43_, e44_, h⟩ := h
      refine q_nn [.int x2] e44_ ?_
      obtain ⟨k45_, h⟩ := h
      obtain ⟨i46_, h⟩ := h
      refine q_ild X Y k45_ i46_ dX12_ofPorts_233 ?_
      obtain ⟨a47_, e48_, h⟩ := h
      refine q_nn [.int (q_A S39_ a43_ x2.toNatClampNeg), .int (((32 : Int32) * x3) + (10 : Int32))] e48_ ?_
      obtain ⟨k49_, h⟩ := h
      obtain ⟨i50_, h⟩ := h
      refine q_ist X Y k49_ i50_ dX12_ofPorts_234 (fun H locs Y => ?_)
      exact cb_X12_ofPorts_235 X Y (lv_sub hl [0, 1, 2] rfl) h
    · replace h := h.2 c41_
      refine lv_iconst (v := 2) hx hb dX12_ofPorts_215 (by decide) ?_
      exact q_iret X Y rfl (Nat.le_refl _) (Nat.le_refl _) h dX12_ofPorts_216
  · replace h := h.2 c36_
    refine lv_iconst (v := 3) hx hb dX12_ofPorts_205 (by decide) ?_
    exact q_iret X Y rfl (Nat.le_refl _) (Nat.le_refl _) h dX12_ofPorts_206
def wb_X12_ofPorts_154  (S : q_S) (Q : Option Value → q_S → Prop) : Prop := Q (some (.int (1 : Int32))) S
set_option maxHeartbeats 4000000 in
set_option maxRecDepth 100000 in
theorem cb_X12_ofPorts_154 {p : Program} {l : Launch} {e : Env} {s : State} {m : MethodId} {args : Array Value} {below : List Frame} {meth : Method} {c : Code} {D : va_G} {cy : Nat → ClassId} {lo : Nat}  {S : q_S} {Q : Option Value → q_S → Prop} {H : Heap} {locs : List Loc} {ls : Array Slot} (X : q_X p s m args meth c RX12 cX12_ofPorts 7 (some .int) D cy lo)  (Y : q_Y D cy lo s S H locs) (hl : lv_has ls 7 []) (h : wb_X12_ofPorts_154 S Q) : W p l e ({ frames := 4, cells := 0, slots := 0, locals := 94 } : Room) s m args below meth c H locs 0 0 (MQ below (q_Q D cy lo Q) args s 0 0 (fun q => lo ≤ q)) (F0 m 154 ls []) := by
  have hx := X.1
  have hb := X.2.1
  unfold wb_X12_ofPorts_154 at h
  refine lv_iconst (v := 1) hx hb dX12_ofPorts_154 (by decide) ?_
  exact q_iret X Y rfl (Nat.le_refl _) (Nat.le_refl _) h dX12_ofPorts_155
def wb_X12_ofPorts_190  (S : q_S) (a0 : Nat) (Q : Option Value → q_S → Prop) : Prop := q_K S a0 = 13 ∧ (Q (some (.int (-1 : Int32))) (qs_I S 2513 a0 (1 : Int32)))
set_option maxHeartbeats 4000000 in
set_option maxRecDepth 100000 in
theorem cb_X12_ofPorts_190 {p : Program} {l : Launch} {e : Env} {s : State} {m : MethodId} {args : Array Value} {below : List Frame} {meth : Method} {c : Code} {D : va_G} {cy : Nat → ClassId} {lo : Nat}  {S : q_S} {a0 : Nat} {Q : Option Value → q_S → Prop} {H : Heap} {locs : List Loc} {ls : Array Slot} (X : q_X p s m args meth c RX12 cX12_ofPorts 7 (some .int) D cy lo)  (Y : q_Y D cy lo s S H locs) (hl : lv_has ls 7 [(0, .ref a0)]) (h : wb_X12_ofPorts_190 S a0 Q) : W p l e ({ frames := 4, cells := 0, slots := 0, locals := 94 } : Room) s m args below meth c H locs 0 0 (MQ below (q_Q D cy lo Q) args s 0 0 (fun q => lo ≤ q)) (F0 m 190 ls []) := by
  have hx := X.1
  have hb := X.2.1
  unfold wb_X12_ofPorts_190 at h
  refine lv_aload_n hx hb dX12_ofPorts_190 rfl (lv_at hl 0 rfl) ?_
  refine lv_iconst (v := 1) hx hb dX12_ofPorts_191 (by decide) ?_
  obtain ⟨k51_, h⟩ := h
  refine q_putI X Y kX12 113 rfl fl_X12_509 k51_ .boolean rfl ⟨rfl, rfl⟩ rfl dX12_ofPorts_192 (fun H locs Y => ?_)
  refine lv_iconst (v := (-1)) hx hb dX12_ofPorts_195 (by decide) ?_
  exact q_iret X Y rfl (Nat.le_refl _) (Nat.le_refl _) h dX12_ofPorts_196
def wb_X12_ofPorts_187  (S : q_S) (a0 : Nat) (as0 : Nat) (xs1 : Int32) (xs2 : Int32) (xs3 : Int32) (Q : Option Value → q_S → Prop) : Prop := q_K S as0 = 13 ∧ (wm_X12_begins S as0 xs1 xs2 xs3 (fun r53_ S54_ => r53_ = none ∧ (wb_X12_ofPorts_190 S54_ a0 Q)))
set_option maxHeartbeats 4000000 in
set_option maxRecDepth 100000 in
theorem cb_X12_ofPorts_187 {p : Program} {l : Launch} {e : Env} {s : State} {m : MethodId} {args : Array Value} {below : List Frame} {meth : Method} {c : Code} {D : va_G} {cy : Nat → ClassId} {lo : Nat}  {S : q_S} {a0 : Nat} {as0 : Nat} {xs1 : Int32} {xs2 : Int32} {xs3 : Int32} {Q : Option Value → q_S → Prop} {H : Heap} {locs : List Loc} {ls : Array Slot} (X : q_X p s m args meth c RX12 cX12_ofPorts 7 (some .int) D cy lo)  (Y : q_Y D cy lo s S H locs) (hl : lv_has ls 7 [(0, .ref a0)]) (h : wb_X12_ofPorts_187 S a0 as0 xs1 xs2 xs3 Q) : W p l e ({ frames := 4, cells := 0, slots := 0, locals := 94 } : Room) s m args below meth c H locs 0 0 (MQ below (q_Q D cy lo Q) args s 0 0 (fun q => lo ≤ q)) (F0 m 187 ls [.int xs3, .int xs2, .int xs1, .ref as0]) := by
  have hx := X.1
  have hb := X.2.1
  unfold wb_X12_ofPorts_187 at h
  obtain ⟨k52_, h⟩ := h
  refine q_callV X Y hl (cm_X12_begins h) mt_X12_begins mi_X12_begins ml_X12_474 (ci := 12) rfl k52_ (by decide) rfl rfl (by first | exact Nat.le_of_ble_eq_true rfl | simp [q_cat, q_catI, q_catJ, q_catR]) ⟨Nat.le_of_ble_eq_true rfl, Nat.le_of_ble_eq_true rfl⟩ ⟨Nat.le_of_ble_eq_true rfl, Nat.le_of_ble_eq_true rfl⟩ dX12_ofPorts_187 (fun r53_ S54_ H locs hp Y => ?_)
  obtain ⟨rfl, h⟩ := hp
  refine W.eq (g2 := F0 m 190 ls []) rfl ?_
  exact cb_X12_ofPorts_190 X Y (lv_sub hl [0] rfl) h
def wb_X12_ofPorts_143  (S : q_S) (a0 : Nat) (x2 : Int32) (x4 : Int32) (Q : Option Value → q_S → Prop) : Prop := ((x4 < 0 → (wb_X12_ofPorts_154 S Q)) ∧ (¬ x4 < 0 → (((x4 ≤ (2 : Int32) → (((¬ x4 = (2 : Int32) → (((¬ x4 = (1 : Int32) → (wb_X12_ofPorts_187 S a0 a0 x2 (x4 + (1 : Int32)) (0 : Int32) Q)) ∧ (x4 = (1 : Int32) → (wb_X12_ofPorts_187 S a0 a0 x2 (x4 + (1 : Int32)) (1 : Int32) Q))))) ∧ (x4 = (2 : Int32) → (q_K S a0 = 13 ∧ (wm_X12_idle S a0 x2 (fun r60_ S61_ => r60_ = none ∧ (wb_X12_ofPorts_190 S61_ a0 Q)))))))) ∧ (¬ x4 ≤ (2 : Int32) → (wb_X12_ofPorts_154 S Q))))))
set_option maxHeartbeats 4000000 in
set_option maxRecDepth 100000 in
theorem cb_X12_ofPorts_143 {p : Program} {l : Launch} {e : Env} {s : State} {m : MethodId} {args : Array Value} {below : List Frame} {meth : Method} {c : Code} {D : va_G} {cy : Nat → ClassId} {lo : Nat}  {S : q_S} {a0 : Nat} {x2 : Int32} {x4 : Int32} {Q : Option Value → q_S → Prop} {H : Heap} {locs : List Loc} {ls : Array Slot} (X : q_X p s m args meth c RX12 cX12_ofPorts 7 (some .int) D cy lo)  (Y : q_Y D cy lo s S H locs) (hl : lv_has ls 7 [(0, .ref a0), (2, .int x2), (4, .int x4)]) (h : wb_X12_ofPorts_143 S a0 x2 x4 Q) : W p l e ({ frames := 4, cells := 0, slots := 0, locals := 94 } : Room) s m args below meth c H locs 0 0 (MQ below (q_Q D cy lo Q) args s 0 0 (fun q => lo ≤ q)) (F0 m 143 ls []) := by
  have hx := X.1
  have hb := X.2.1
  unfold wb_X12_ofPorts_143 at h
  refine lv_iload hx hb dX12_ofPorts_143 (lv_at hl 2 rfl) ?_
  refine lv_if_lt (tgt := 154) hx hb dX12_ofPorts_145 (by decide) (fun c55_ => ?_) (fun c55_ => ?_)
  · replace h := h.1 c55_
    exact cb_X12_ofPorts_154 X Y (lv_sub hl [] rfl) h
  · replace h := h.2 c55_
    refine lv_iload hx hb dX12_ofPorts_148 (lv_at hl 2 rfl) ?_
    refine lv_iconst (v := 2) hx hb dX12_ofPorts_150 (by decide) ?_
    refine lv_icmp_le (tgt := 156) hx hb dX12_ofPorts_151 (by decide) (fun c56_ => ?_) (fun c56_ => ?_)
    · replace h := h.1 c56_
      refine lv_iload hx hb dX12_ofPorts_156 (lv_at hl 2 rfl) ?_
      refine lv_iconst (v := 2) hx hb dX12_ofPorts_158 (by decide) ?_
      refine lv_icmp_ne (tgt := 170) hx hb dX12_ofPorts_159 (by decide) (fun c57_ => ?_) (fun c57_ => ?_)
      · replace h := h.1 c57_
        refine lv_aload_n hx hb dX12_ofPorts_170 rfl (lv_at hl 0 rfl) ?_
        refine lv_iload_n hx hb dX12_ofPorts_171 rfl (lv_at hl 1 rfl) ?_
        refine lv_iload hx hb dX12_ofPorts_172 (lv_at hl 2 rfl) ?_
        refine lv_iconst (v := 1) hx hb dX12_ofPorts_174 (by decide) ?_
        refine lv_iadd hx hb dX12_ofPorts_175 ?_
        refine lv_iload hx hb dX12_ofPorts_176 (lv_at hl 2 rfl) ?_
        refine lv_iconst (v := 1) hx hb dX12_ofPorts_178 (by decide) ?_
        refine lv_icmp_ne (tgt := 186) hx hb dX12_ofPorts_179 (by decide) (fun c58_ => ?_) (fun c58_ => ?_)
        · replace h := h.1 c58_
          refine lv_iconst (v := 0) hx hb dX12_ofPorts_186 (by decide) ?_
          exact cb_X12_ofPorts_187 X Y (lv_sub hl [0] rfl) h
        · replace h := h.2 c58_
          refine lv_iconst (v := 1) hx hb dX12_ofPorts_182 (by decide) ?_
          refine lv_goto (tgt := 187) hx hb dX12_ofPorts_183 (by decide) ?_
          exact cb_X12_ofPorts_187 X Y (lv_sub hl [0] rfl) h
      · replace h := h.2 c57_
        refine lv_aload_n hx hb dX12_ofPorts_162 rfl (lv_at hl 0 rfl) ?_
        refine lv_iload_n hx hb dX12_ofPorts_163 rfl (lv_at hl 1 rfl) ?_
        obtain ⟨k59_, h⟩ := h
        refine q_callV X Y hl (cm_X12_idle h) mt_X12_idle mi_X12_idle ml_X12_549 (ci := 12) rfl k59_ (by decide) rfl rfl (by first | exact Nat.le_of_ble_eq_true rfl | simp [q_cat, q_catI, q_catJ, q_catR]) ⟨Nat.le_of_ble_eq_true rfl, Nat.le_of_ble_eq_true rfl⟩ ⟨Nat.le_of_ble_eq_true rfl, Nat.le_of_ble_eq_true rfl⟩ dX12_ofPorts_164 (fun r60_ S61_ H locs hp Y => ?_)
        obtain ⟨rfl, h⟩ := hp
        refine W.eq (g2 := F0 m 167 ls []) rfl ?_
        refine lv_goto (tgt := 190) hx hb dX12_ofPorts_167 (by decide) ?_
        exact cb_X12_ofPorts_190 X Y (lv_sub hl [0] rfl) h
    · replace h := h.2 c56_
      exact cb_X12_ofPorts_154 X Y (lv_sub hl [] rfl) h
def wb_X12_ofPorts_141  (S : q_S) (Q : Option Value → q_S → Prop) : Prop := Q (some (.int (0 : Int32))) S
set_option maxHeartbeats 4000000 in
set_option maxRecDepth 100000 in
theorem cb_X12_ofPorts_141 {p : Program} {l : Launch} {e : Env} {s : State} {m : MethodId} {args : Array Value} {below : List Frame} {meth : Method} {c : Code} {D : va_G} {cy : Nat → ClassId} {lo : Nat}  {S : q_S} {Q : Option Value → q_S → Prop} {H : Heap} {locs : List Loc} {ls : Array Slot} (X : q_X p s m args meth c RX12 cX12_ofPorts 7 (some .int) D cy lo)  (Y : q_Y D cy lo s S H locs) (hl : lv_has ls 7 []) (h : wb_X12_ofPorts_141 S Q) : W p l e ({ frames := 4, cells := 0, slots := 0, locals := 94 } : Room) s m args below meth c H locs 0 0 (MQ below (q_Q D cy lo Q) args s 0 0 (fun q => lo ≤ q)) (F0 m 141 ls []) := by
  have hx := X.1
  have hb := X.2.1
  unfold wb_X12_ofPorts_141 at h
  refine lv_iconst (v := 0) hx hb dX12_ofPorts_141 (by decide) ?_
  exact q_iret X Y rfl (Nat.le_refl _) (Nat.le_refl _) h dX12_ofPorts_142
def wb_X12_ofPorts_110  (S : q_S) (a0 : Nat) (x2 : Int32) (x3 : Int32) (Q : Option Value → q_S → Prop) : Prop := q_K S a0 = 13 ∧ (wm_X12_isHandler S a0 x3 (fun r63_ S64_ => ∃ x65_ : Int32, r63_ = some (.int x65_) ∧ (((x65_ = 0 → (q_K S64_ a0 = 13 ∧ (∃ a68_ : Nat, (q_P S64_ 2486 a0) = some a68_ ∧ (q_K S64_ a68_ = 21 ∧ (vp_in x2 (q_N S64_ a68_) ∧ (((¬ (q_A S64_ a68_ x2.toNatClampNeg) = 0 → (vp_in x2 (q_N S64_ a68_) ∧ (vp_in x2 (q_N S64_ a68_) ∧ (wb_X12_ofPorts_141 (qs_A S64_ a68_ x2.toNatClampNeg ((q_A S64_ a68_ x2.toNatClampNeg) - (1 : Int32))) Q)))) ∧ ((q_A S64_ a68_ x2.toNatClampNeg) = 0 → (Q (some (.int (2 : Int32))) S64_))))))))) ∧ (¬ x65_ = 0 → (Q (some (.int (3 : Int32))) S64_))))))
set_option maxHeartbeats 4000000 in
set_option maxRecDepth 100000 in
theorem cb_X12_ofPorts_110 {p : Program} {l : Launch} {e : Env} {s : State} {m : MethodId} {args : Array Value} {below : List Frame} {meth : Method} {c : Code} {D : va_G} {cy : Nat → ClassId} {lo : Nat}  {S : q_S} {a0 : Nat} {x2 : Int32} {x3 : Int32} {Q : Option Value → q_S → Prop} {H : Heap} {locs : List Loc} {ls : Array Slot} (X : q_X p s m args meth c RX12 cX12_ofPorts 7 (some .int) D cy lo)  (Y : q_Y D cy lo s S H locs) (hl : lv_has ls 7 [(0, .ref a0), (2, .int x2), (3, .int x3)]) (h : wb_X12_ofPorts_110 S a0 x2 x3 Q) : W p l e ({ frames := 4, cells := 0, slots := 0, locals := 94 } : Room) s m args below meth c H locs 0 0 (MQ below (q_Q D cy lo Q) args s 0 0 (fun q => lo ≤ q)) (F0 m 110 ls []) := by
  have hx := X.1
  have hb := X.2.1
  unfold wb_X12_ofPorts_110 at h
  refine lv_aload_n hx hb dX12_ofPorts_110 rfl (lv_at hl 0 rfl) ?_
  refine lv_iload_n hx hb dX12_ofPorts_111 rfl (lv_at hl 2 rfl) ?_
  obtain ⟨k62_, h⟩ := h
  refine q_callV X Y hl (cm_X12_isHandler h) mt_X12_isHandler mi_X12_isHandler ml_X12_493 (ci := 12) rfl k62_ (by decide) rfl rfl (by first | exact Nat.le_of_ble_eq_true rfl | simp [q_cat, q_catI, q_catJ, q_catR]) ⟨Nat.le_of_ble_eq_true rfl, Nat.le_of_ble_eq_true rfl⟩ ⟨Nat.le_of_ble_eq_true rfl, Nat.le_of_ble_eq_true rfl⟩ dX12_ofPorts_112 (fun r63_ S64_ H locs hp Y => ?_)
  obtain ⟨x65_, rfl, h⟩ := hp
  refine W.eq (g2 := F0 m 115 ls [.int x65_]) rfl ?_
  refine lv_if_eq (tgt := 120) hx hb dX12_ofPorts_115 (by decide) (fun c66_ => ?_) (fun c66_ => ?_)
  · replace h := h.1 c66_
    refine lv_aload_n hx hb dX12_ofPorts_120 rfl (lv_at hl 0 rfl) ?_
    obtain ⟨k67_, h⟩ := h
    refine q_getP X Y kX12 86 rfl fl_X12_206 k67_ rfl dX12_ofPorts_121 ?_
    refine lv_iload_n hx hb dX12_ofPorts_124 rfl (lv_at hl 1 rfl) ?_
    obtain ⟨a68_, e69_, h⟩ := h
    refine q_nn [.int x2] e69_ ?_
    obtain ⟨k70_, h⟩ := h
    obtain ⟨i71_, h⟩ := h
    refine q_ild X Y k70_ i71_ dX12_ofPorts_125 ?_
    refine lv_if_ne (tgt := 131) hx hb dX12_ofPorts_126 (by decide) (fun c72_ => ?_) (fun c72_ => ?_)
    · replace h := h.1 c72_
      refine lv_aload_n hx hb dX12_ofPorts_131 rfl (lv_at hl 0 rfl) ?_
      refine q_getR X Y kX12 86 rfl fl_X12_206 k67_ e69_ dX12_ofPorts_132 ?_
      refine lv_iload_n hx hb dX12_ofPorts_135 rfl (lv_at hl 1 rfl) ?_
      refine lv_dup2_11 hx hb dX12_ofPorts_136 rfl rfl ?_
      obtain ⟨i73_, h⟩ := h
      refine q_ild X Y k70_ i73_ dX12_ofPorts_137 ?_
      refine lv_iconst (v := 1) hx hb dX12_ofPorts_138 (by decide) ?_
      refine lv_isub hx hb dX12_ofPorts_139 ?_
      obtain ⟨i74_, h⟩ := h
      refine q_ist X Y k70_ i74_ dX12_ofPorts_140 (fun H locs Y => ?_)
      exact cb_X12_ofPorts_141 X Y (lv_sub hl [] rfl) h
    · replace h := h.2 c72_
      refine lv_iconst (v := 2) hx hb dX12_ofPorts_129 (by decide) ?_
      exact q_iret X Y rfl (Nat.le_refl _) (Nat.le_refl _) h dX12_ofPorts_130
  · replace h := h.2 c66_
    refine lv_iconst (v := 3) hx hb dX12_ofPorts_118 (by decide) ?_
    exact q_iret X Y rfl (Nat.le_refl _) (Nat.le_refl _) h dX12_ofPorts_119
def wb_X12_ofPorts_101  (S : q_S) (a0 : Nat) (x2 : Int32) (x3 : Int32) (Q : Option Value → q_S → Prop) : Prop := q_K S a0 = 13 ∧ (∃ a76_ : Nat, (q_P S 2487 a0) = some a76_ ∧ (q_K S a76_ = 21 ∧ (vp_in x2 (q_N S a76_) ∧ (Q (some (.int (0 : Int32))) (qs_A S a76_ x2.toNatClampNeg x3)))))
set_option maxHeartbeats 4000000 in
set_option maxRecDepth 100000 in
theorem cb_X12_ofPorts_101 {p : Program} {l : Launch} {e : Env} {s : State} {m : MethodId} {args : Array Value} {below : List Frame} {meth : Method} {c : Code} {D : va_G} {cy : Nat → ClassId} {lo : Nat}  {S : q_S} {a0 : Nat} {x2 : Int32} {x3 : Int32} {Q : Option Value → q_S → Prop} {H : Heap} {locs : List Loc} {ls : Array Slot} (X : q_X p s m args meth c RX12 cX12_ofPorts 7 (some .int) D cy lo)  (Y : q_Y D cy lo s S H locs) (hl : lv_has ls 7 [(0, .ref a0), (2, .int x2), (3, .int x3)]) (h : wb_X12_ofPorts_101 S a0 x2 x3 Q) : W p l e ({ frames := 4, cells := 0, slots := 0, locals := 94 } : Room) s m args below meth c H locs 0 0 (MQ below (q_Q D cy lo Q) args s 0 0 (fun q => lo ≤ q)) (F0 m 101 ls []) := by
  have hx := X.1
  have hb := X.2.1
  unfold wb_X12_ofPorts_101 at h
  refine lv_aload_n hx hb dX12_ofPorts_101 rfl (lv_at hl 0 rfl) ?_
  obtain ⟨k75_, h⟩ := h
  refine q_getP X Y kX12 87 rfl fl_X12_209 k75_ rfl dX12_ofPorts_102 ?_
  refine lv_iload_n hx hb dX12_ofPorts_105 rfl (lv_at hl 1 rfl) ?_
  refine lv_iload_n hx hb dX12_ofPorts_106 rfl (lv_at hl 2 rfl) ?_
  obtain ⟨a76_, e77_, h⟩ := h
  refine q_nn [.int x3, .int x2] e77_ ?_
  obtain ⟨k78_, h⟩ := h
  obtain ⟨i79_, h⟩ := h
  refine q_ist X Y k78_ i79_ dX12_ofPorts_107 (fun H locs Y => ?_)
  refine lv_iconst (v := 0) hx hb dX12_ofPorts_108 (by decide) ?_
  exact q_iret X Y rfl (Nat.le_refl _) (Nat.le_refl _) h dX12_ofPorts_109
def wb_X12_ofPorts_68  (S : q_S) (a0 : Nat) (x2 : Int32) (x3 : Int32) (Q : Option Value → q_S → Prop) : Prop := q_K S a0 = 13 ∧ (wm_X12_isHandler S a0 x3 (fun r81_ S82_ => ∃ x83_ : Int32, r81_ = some (.int x83_) ∧ (((x83_ = 0 → (q_K S82_ a0 = 13 ∧ (∃ a86_ : Nat, (q_P S82_ 2486 a0) = some a86_ ∧ (q_K S82_ a86_ = 21 ∧ (vp_in x2 (q_N S82_ a86_) ∧ (((¬ (q_A S82_ a86_ x2.toNatClampNeg) = (8 : Int32) → (vp_in x2 (q_N S82_ a86_) ∧ (vp_in x2 (q_N S82_ a86_) ∧ (wb_X12_ofPorts_101 (qs_A S82_ a86_ x2.toNatClampNeg ((q_A S82_ a86_ x2.toNatClampNeg) + (1 : Int32))) a0 x2 x3 Q)))) ∧ ((q_A S82_ a86_ x2.toNatClampNeg) = (8 : Int32) → (Q (some (.int (2 : Int32))) S82_))))))))) ∧ (¬ x83_ = 0 → (Q (some (.int (3 : Int32))) S82_))))))
set_option maxHeartbeats 4000000 in
set_option maxRecDepth 100000 in
theorem cb_X12_ofPorts_68 {p : Program} {l : Launch} {e : Env} {s : State} {m : MethodId} {args : Array Value} {below : List Frame} {meth : Method} {c : Code} {D : va_G} {cy : Nat → ClassId} {lo : Nat}  {S : q_S} {a0 : Nat} {x2 : Int32} {x3 : Int32} {Q : Option Value → q_S → Prop} {H : Heap} {locs : List Loc} {ls : Array Slot} (X : q_X p s m args meth c RX12 cX12_ofPorts 7 (some .int) D cy lo)  (Y : q_Y D cy lo s S H locs) (hl : lv_has ls 7 [(0, .ref a0), (2, .int x2), (3, .int x3)]) (h : wb_X12_ofPorts_68 S a0 x2 x3 Q) : W p l e ({ frames := 4, cells := 0, slots := 0, locals := 94 } : Room) s m args below meth c H locs 0 0 (MQ below (q_Q D cy lo Q) args s 0 0 (fun q => lo ≤ q)) (F0 m 68 ls []) := by
  have hx := X.1
  have hb := X.2.1
  unfold wb_X12_ofPorts_68 at h
  refine lv_aload_n hx hb dX12_ofPorts_68 rfl (lv_at hl 0 rfl) ?_
  refine lv_iload_n hx hb dX12_ofPorts_69 rfl (lv_at hl 2 rfl) ?_
  obtain ⟨k80_, h⟩ := h
  refine q_callV X Y hl (cm_X12_isHandler h) mt_X12_isHandler mi_X12_isHandler ml_X12_493 (ci := 12) rfl k80_ (by decide) rfl rfl (by first | exact Nat.le_of_ble_eq_true rfl | simp [q_cat, q_catI, q_catJ, q_catR]) ⟨Nat.le_of_ble_eq_true rfl, Nat.le_of_ble_eq_true rfl⟩ ⟨Nat.le_of_ble_eq_true rfl, Nat.le_of_ble_eq_true rfl⟩ dX12_ofPorts_70 (fun r81_ S82_ H locs hp Y => ?_)
  obtain ⟨x83_, rfl, h⟩ := hp
  refine W.eq (g2 := F0 m 73 ls [.int x83_]) rfl ?_
  refine lv_if_eq (tgt := 78) hx hb dX12_ofPorts_73 (by decide) (fun c84_ => ?_) (fun c84_ => ?_)
  · replace h := h.1 c84_
    refine lv_aload_n hx hb dX12_ofPorts_78 rfl (lv_at hl 0 rfl) ?_
    obtain ⟨k85_, h⟩ := h
    refine q_getP X Y kX12 86 rfl fl_X12_206 k85_ rfl dX12_ofPorts_79 ?_
    refine lv_iload_n hx hb dX12_ofPorts_82 rfl (lv_at hl 1 rfl) ?_
    obtain ⟨a86_, e87_, h⟩ := h
    refine q_nn [.int x2] e87_ ?_
    obtain ⟨k88_, h⟩ := h
    obtain ⟨i89_, h⟩ := h
    refine q_ild X Y k88_ i89_ dX12_ofPorts_83 ?_
    refine lv_bipush (v := 8) hx hb dX12_ofPorts_84 (by decide) ?_
    refine lv_icmp_ne (tgt := 91) hx hb dX12_ofPorts_86 (by decide) (fun c90_ => ?_) (fun c90_ => ?_)
    · replace h := h.1 c90_
      refine lv_aload_n hx hb dX12_ofPorts_91 rfl (lv_at hl 0 rfl) ?_
      refine q_getR X Y kX12 86 rfl fl_X12_206 k85_ e87_ dX12_ofPorts_92 ?_
      refine lv_iload_n hx hb dX12_ofPorts_95 rfl (lv_at hl 1 rfl) ?_
      refine lv_dup2_11 hx hb dX12_ofPorts_96 rfl rfl ?_
      obtain ⟨i91_, h⟩ := h
      refine q_ild X Y k88_ i91_ dX12_ofPorts_97 ?_
      refine lv_iconst (v := 1) hx hb dX12_ofPorts_98 (by decide) ?_
      refine lv_iadd hx hb dX12_ofPorts_99 ?_
      obtain ⟨i92_, h⟩ := h
      refine q_ist X Y k88_ i92_ dX12_ofPorts_100 (fun H locs Y => ?_)
      exact cb_X12_ofPorts_101 X Y (lv_sub hl [0, 1, 2] rfl) h
    · replace h := h.2 c90_
      refine lv_iconst (v := 2) hx hb dX12_ofPorts_89 (by decide) ?_
      exact q_iret X Y rfl (Nat.le_refl _) (Nat.le_refl _) h dX12_ofPorts_90
  · replace h := h.2 c84_
    refine lv_iconst (v := 3) hx hb dX12_ofPorts_76 (by decide) ?_
    exact q_iret X Y rfl (Nat.le_refl _) (Nat.le_refl _) h dX12_ofPorts_77
def wb_X12_ofPorts_299  (S : q_S) (a0 : Nat) (x2 : Int32) (x3 : Int32) (x4 : Int32) (Q : Option Value → q_S → Prop) : Prop := q_K S a0 = 13 ∧ (wm_X12_decides S a0 x2 x3 x4 (fun r94_ S95_ => ∃ x96_ : Int32, r94_ = some (.int x96_) ∧ (Q (some (.int x96_)) S95_)))
set_option maxHeartbeats 4000000 in
set_option maxRecDepth 100000 in
theorem cb_X12_ofPorts_299 {p : Program} {l : Launch} {e : Env} {s : State} {m : MethodId} {args : Array Value} {below : List Frame} {meth : Method} {c : Code} {D : va_G} {cy : Nat → ClassId} {lo : Nat}  {S : q_S} {a0 : Nat} {x2 : Int32} {x3 : Int32} {x4 : Int32} {Q : Option Value → q_S → Prop} {H : Heap} {locs : List Loc} {ls : Array Slot} (X : q_X p s m args meth c RX12 cX12_ofPorts 7 (some .int) D cy lo)  (Y : q_Y D cy lo s S H locs) (hl : lv_has ls 7 [(0, .ref a0), (2, .int x2), (3, .int x3), (4, .int x4)]) (h : wb_X12_ofPorts_299 S a0 x2 x3 x4 Q) : W p l e ({ frames := 4, cells := 0, slots := 0, locals := 94 } : Room) s m args below meth c H locs 0 0 (MQ below (q_Q D cy lo Q) args s 0 0 (fun q => lo ≤ q)) (F0 m 299 ls []) := by
  have hx := X.1
  have hb := X.2.1
  unfold wb_X12_ofPorts_299 at h
  refine lv_aload_n hx hb dX12_ofPorts_299 rfl (lv_at hl 0 rfl) ?_
  refine lv_iload_n hx hb dX12_ofPorts_300 rfl (lv_at hl 1 rfl) ?_
  refine lv_iload_n hx hb dX12_ofPorts_301 rfl (lv_at hl 2 rfl) ?_
  refine lv_iload hx hb dX12_ofPorts_302 (lv_at hl 3 rfl) ?_
  obtain ⟨k93_, h⟩ := h
  refine q_callV X Y hl (cm_X12_decides h) mt_X12_decides mi_X12_decides ml_X12_642 (ci := 12) rfl k93_ (by decide) rfl rfl (by first | exact Nat.le_of_ble_eq_true rfl | simp [q_cat, q_catI, q_catJ, q_catR]) ⟨Nat.le_of_ble_eq_true rfl, Nat.le_of_ble_eq_true rfl⟩ ⟨Nat.le_of_ble_eq_true rfl, Nat.le_of_ble_eq_true rfl⟩ dX12_ofPorts_304 (fun r94_ S95_ H locs hp Y => ?_)
  obtain ⟨x96_, rfl, h⟩ := hp
  refine W.eq (g2 := F0 m 307 ls [.int x96_]) rfl ?_
  exact q_iret X Y rfl (Nat.le_refl _) (Nat.le_refl _) h dX12_ofPorts_307
def wb_X12_ofPorts_57  (S : q_S) (a0 : Nat) (x2 : Int32) (x3 : Int32) (x4 : Int32) (x5 : Int32) (Q : Option Value → q_S → Prop) : Prop := q_K S a0 = 13 ∧ (wm_X12_receives S a0 x2 x3 x4 x5 (fun r98_ S99_ => ∃ x100_ : Int32, r98_ = some (.int x100_) ∧ (Q (some (.int x100_)) S99_)))
set_option maxHeartbeats 4000000 in
set_option maxRecDepth 100000 in
theorem cb_X12_ofPorts_57 {p : Program} {l : Launch} {e : Env} {s : State} {m : MethodId} {args : Array Value} {below : List Frame} {meth : Method} {c : Code} {D : va_G} {cy : Nat → ClassId} {lo : Nat}  {S : q_S} {a0 : Nat} {x2 : Int32} {x3 : Int32} {x4 : Int32} {x5 : Int32} {Q : Option Value → q_S → Prop} {H : Heap} {locs : List Loc} {ls : Array Slot} (X : q_X p s m args meth c RX12 cX12_ofPorts 7 (some .int) D cy lo)  (Y : q_Y D cy lo s S H locs) (hl : lv_has ls 7 [(0, .ref a0), (2, .int x2), (3, .int x3), (4, .int x4), (5, .int x5)]) (h : wb_X12_ofPorts_57 S a0 x2 x3 x4 x5 Q) : W p l e ({ frames := 4, cells := 0, slots := 0, locals := 94 } : Room) s m args below meth c H locs 0 0 (MQ below (q_Q D cy lo Q) args s 0 0 (fun q => lo ≤ q)) (F0 m 57 ls []) := by
  have hx := X.1
  have hb := X.2.1
  unfold wb_X12_ofPorts_57 at h
  refine lv_aload_n hx hb dX12_ofPorts_57 rfl (lv_at hl 0 rfl) ?_
  refine lv_iload_n hx hb dX12_ofPorts_58 rfl (lv_at hl 1 rfl) ?_
  refine lv_iload_n hx hb dX12_ofPorts_59 rfl (lv_at hl 2 rfl) ?_
  refine lv_iload hx hb dX12_ofPorts_60 (lv_at hl 3 rfl) ?_
  refine lv_iload hx hb dX12_ofPorts_62 (lv_at hl 4 rfl) ?_
  obtain ⟨k97_, h⟩ := h
  refine q_callV X Y hl (cm_X12_receives h) mt_X12_receives mi_X12_receives ml_X12_639 (ci := 12) rfl k97_ (by decide) rfl rfl (by first | exact Nat.le_of_ble_eq_true rfl | simp [q_cat, q_catI, q_catJ, q_catR]) ⟨Nat.le_of_ble_eq_true rfl, Nat.le_of_ble_eq_true rfl⟩ ⟨Nat.le_of_ble_eq_true rfl, Nat.le_of_ble_eq_true rfl⟩ dX12_ofPorts_64 (fun r98_ S99_ H locs hp Y => ?_)
  obtain ⟨x100_, rfl, h⟩ := hp
  refine W.eq (g2 := F0 m 67 ls [.int x100_]) rfl ?_
  exact q_iret X Y rfl (Nat.le_refl _) (Nat.le_refl _) h dX12_ofPorts_67
def wb_X12_ofPorts_44  (S : q_S) (a0 : Nat) (x2 : Int32) (x3 : Int32) (x4 : Int32) (x5 : Int32) (x6 : Int32) (Q : Option Value → q_S → Prop) : Prop := q_K S a0 = 13 ∧ (wm_X12_sends S a0 x2 x3 x4 x5 x6 (fun r102_ S103_ => ∃ x104_ : Int32, r102_ = some (.int x104_) ∧ (Q (some (.int x104_)) S103_)))
set_option maxHeartbeats 4000000 in
set_option maxRecDepth 100000 in
theorem cb_X12_ofPorts_44 {p : Program} {l : Launch} {e : Env} {s : State} {m : MethodId} {args : Array Value} {below : List Frame} {meth : Method} {c : Code} {D : va_G} {cy : Nat → ClassId} {lo : Nat}  {S : q_S} {a0 : Nat} {x2 : Int32} {x3 : Int32} {x4 : Int32} {x5 : Int32} {x6 : Int32} {Q : Option Value → q_S → Prop} {H : Heap} {locs : List Loc} {ls : Array Slot} (X : q_X p s m args meth c RX12 cX12_ofPorts 7 (some .int) D cy lo)  (Y : q_Y D cy lo s S H locs) (hl : lv_has ls 7 [(0, .ref a0), (2, .int x2), (3, .int x3), (4, .int x4), (5, .int x5), (6, .int x6)]) (h : wb_X12_ofPorts_44 S a0 x2 x3 x4 x5 x6 Q) : W p l e ({ frames := 4, cells := 0, slots := 0, locals := 94 } : Room) s m args below meth c H locs 0 0 (MQ below (q_Q D cy lo Q) args s 0 0 (fun q => lo ≤ q)) (F0 m 44 ls []) := by
  have hx := X.1
  have hb := X.2.1
  unfold wb_X12_ofPorts_44 at h
  refine lv_aload_n hx hb dX12_ofPorts_44 rfl (lv_at hl 0 rfl) ?_
  refine lv_iload_n hx hb dX12_ofPorts_45 rfl (lv_at hl 1 rfl) ?_
  refine lv_iload_n hx hb dX12_ofPorts_46 rfl (lv_at hl 2 rfl) ?_
  refine lv_iload hx hb dX12_ofPorts_47 (lv_at hl 3 rfl) ?_
  refine lv_iload hx hb dX12_ofPorts_49 (lv_at hl 4 rfl) ?_
  refine lv_iload hx hb dX12_ofPorts_51 (lv_at hl 5 rfl) ?_
  obtain ⟨k101_, h⟩ := h
  refine q_callV X Y hl (cm_X12_sends h) mt_X12_sends mi_X12_sends ml_X12_636 (ci := 12) rfl k101_ (by decide) rfl rfl (by first | exact Nat.le_of_ble_eq_true rfl | simp [q_cat, q_catI, q_catJ, q_catR]) ⟨Nat.le_of_ble_eq_true rfl, Nat.le_of_ble_eq_true rfl⟩ ⟨Nat.le_of_ble_eq_true rfl, Nat.le_of_ble_eq_true rfl⟩ dX12_ofPorts_53 (fun r102_ S103_ H locs hp Y => ?_)
  obtain ⟨x104_, rfl, h⟩ := hp
  refine W.eq (g2 := F0 m 56 ls [.int x104_]) rfl ?_
  exact q_iret X Y rfl (Nat.le_refl _) (Nat.le_refl _) h dX12_ofPorts_56
def wm_X12_ofPorts (S : q_S) (a0 : Nat) (x1 : Int32) (x2 : Int32) (x3 : Int32) (x4 : Int32) (x5 : Int32) (x6 : Int32) (Q : Option Value → q_S → Prop) : Prop := (((x1.toInt < 18 ∨ 24 < x1.toInt) → (wb_X12_ofPorts_299 S a0 x2 x3 x4 Q)) ∧ ((x1 = (18 : Int32)) → (wb_X12_ofPorts_44 S a0 x2 x3 x4 x5 x6 Q)) ∧ ((x1 = (19 : Int32)) → (wb_X12_ofPorts_57 S a0 x2 x3 x4 x5 Q)) ∧ ((x1 = (20 : Int32)) → (wb_X12_ofPorts_299 S a0 x2 x3 x4 Q)) ∧ ((x1 = (21 : Int32)) → (wb_X12_ofPorts_68 S a0 x2 x3 Q)) ∧ ((x1 = (22 : Int32)) → (wb_X12_ofPorts_110 S a0 x2 x3 Q)) ∧ ((x1 = (23 : Int32)) → (wb_X12_ofPorts_143 S a0 x2 x4 Q)) ∧ ((x1 = (24 : Int32)) → (wb_X12_ofPorts_197 S a0 x2 x3 Q)))
set_option maxHeartbeats 4000000 in
set_option maxRecDepth 100000 in
theorem cm_X12_ofPorts {l : Launch} {D : va_G} {cy : Nat → ClassId} {lo : Nat} {S : q_S} {a0 : Nat} {x1 : Int32} {x2 : Int32} {x3 : Int32} {x4 : Int32} {x5 : Int32} {x6 : Int32} {Q : Option Value → q_S → Prop} (h : wm_X12_ofPorts S a0 x1 x2 x3 x4 x5 x6 Q) : q_Met l D cy lo yX12_ofPorts cX12_ofPorts 7 (some .int) 4 94 0 0 [.ref a0, .int x1, .int x2, .int x3, .int x4, .int x5, .int x6] S Q := by
  refine q_body (by decide) (by first | exact Nat.le_of_ble_eq_true rfl | simp [lg_sl, q_cat, q_catI, q_catJ, q_catR]) ?_
  intro p e s m below meth c ls X hnm Y hl
  have hx := X.1
  have hb := X.2.1
  have hl : lv_has ls 7 [(0, .ref a0), (1, .int x1), (2, .int x2), (3, .int x3), (4, .int x4), (5, .int x5), (6, .int x6)] := by first | exact hl | simpa [lv_args, q_cat, q_catI, q_catJ, q_catR] using hl
  generalize hargs : ([.ref a0, .int x1, .int x2, .int x3, .int x4, .int x5, .int x6] : List Value).toArray = args at X ⊢
  unfold wm_X12_ofPorts at h
  refine lv_iload_n hx hb dX12_ofPorts_0 rfl (lv_at hl 1 rfl) ?_
  refine q_tsw (tgt := 299) hx hb dX12_ofPorts_1 (by decide) (by decide) (fun c105_ => ?_) (fun j106_ hj_ c105_ => ?_)
  · replace h := h.1 c105_
    exact cb_X12_ofPorts_299 X Y (lv_sub hl [0, 2, 3, 4] rfl) h
  · match j106_, hj_, c105_ with
    | 0, _, c105_ =>
      refine ⟨43, 44, rfl, by decide, ?_⟩
      replace h := h.2.1 (q_eqI c105_ (by decide))
      exact cb_X12_ofPorts_44 X Y (lv_sub hl [0, 2, 3, 4, 5, 6] rfl) h
    | 1, _, c105_ =>
      refine ⟨56, 57, rfl, by decide, ?_⟩
      replace h := h.2.2.1 (q_eqI c105_ (by decide))
      exact cb_X12_ofPorts_57 X Y (lv_sub hl [0, 2, 3, 4, 5] rfl) h
    | 2, _, c105_ =>
      refine ⟨298, 299, rfl, by decide, ?_⟩
      replace h := h.2.2.2.1 (q_eqI c105_ (by decide))
      exact cb_X12_ofPorts_299 X Y (lv_sub hl [0, 2, 3, 4] rfl) h
    | 3, _, c105_ =>
      refine ⟨67, 68, rfl, by decide, ?_⟩
      replace h := h.2.2.2.2.1 (q_eqI c105_ (by decide))
      exact cb_X12_ofPorts_68 X Y (lv_sub hl [0, 2, 3] rfl) h
    | 4, _, c105_ =>
      refine ⟨109, 110, rfl, by decide, ?_⟩
      replace h := h.2.2.2.2.2.1 (q_eqI c105_ (by decide))
      exact cb_X12_ofPorts_110 X Y (lv_sub hl [0, 2, 3] rfl) h
    | 5, _, c105_ =>
      refine ⟨142, 143, rfl, by decide, ?_⟩
      replace h := h.2.2.2.2.2.2.1 (q_eqI c105_ (by decide))
      exact cb_X12_ofPorts_143 X Y (lv_sub hl [0, 2, 4] rfl) h
    | 6, _, c105_ =>
      refine ⟨196, 197, rfl, by decide, ?_⟩
      replace h := h.2.2.2.2.2.2.2 (q_eqI c105_ (by decide))
      exact cb_X12_ofPorts_197 X Y (lv_sub hl [0, 2, 3] rfl) h
    | z_ + 7, hj_, _ => exact absurd hj_ (by simp)
-- X12_holds
theorem dX12_holds_0 : decode cX12_holds 0 = .ok (.bipush 16, 2) := by decide +kernel
theorem dX12_holds_2 : decode cX12_holds 2 = .ok (.iload_n 1, 1) := by decide +kernel
theorem dX12_holds_3 : decode cX12_holds 3 = .ok (.imul, 1) := by decide +kernel
theorem dX12_holds_4 : decode cX12_holds 4 = .ok (.iload_n 3, 1) := by decide +kernel
theorem dX12_holds_5 : decode cX12_holds 5 = .ok (.iadd, 1) := by decide +kernel
theorem dX12_holds_6 : decode cX12_holds 6 = .ok (.istore 4, 2) := by decide +kernel
theorem dX12_holds_8 : decode cX12_holds 8 = .ok (.aload_n 0, 1) := by decide +kernel
theorem dX12_holds_9 : decode cX12_holds 9 = .ok (.iload_n 1, 1) := by decide +kernel
theorem dX12_holds_10 : decode cX12_holds 10 = .ok (.iload_n 3, 1) := by decide +kernel
theorem dX12_holds_11 : decode cX12_holds 11 = .ok (.invokevirtual 613, 3) := by decide +kernel
theorem dX12_holds_14 : decode cX12_holds 14 = .ok (.ifCond .eq 18, 3) := by decide +kernel
theorem dX12_holds_17 : decode cX12_holds 17 = .ok (.iload 4, 2) := by decide +kernel
theorem dX12_holds_19 : decode cX12_holds 19 = .ok (.iload_n 2, 1) := by decide +kernel
theorem dX12_holds_20 : decode cX12_holds 20 = .ok (.if_icmp .eq 12, 3) := by decide +kernel
theorem dX12_holds_23 : decode cX12_holds 23 = .ok (.aload_n 0, 1) := by decide +kernel
theorem dX12_holds_24 : decode cX12_holds 24 = .ok (.iload 4, 2) := by decide +kernel
theorem dX12_holds_26 : decode cX12_holds 26 = .ok (.invokevirtual 493, 3) := by decide +kernel
theorem dX12_holds_29 : decode cX12_holds 29 = .ok (.ifCond .eq 5, 3) := by decide +kernel
theorem dX12_holds_32 : decode cX12_holds 32 = .ok (.iconst 1, 1) := by decide +kernel
theorem dX12_holds_33 : decode cX12_holds 33 = .ok (.ireturn, 1) := by decide +kernel
theorem dX12_holds_34 : decode cX12_holds 34 = .ok (.aload_n 0, 1) := by decide +kernel
theorem dX12_holds_35 : decode cX12_holds 35 = .ok (.getfield 69, 3) := by decide +kernel
theorem dX12_holds_38 : decode cX12_holds 38 = .ok (.iload 4, 2) := by decide +kernel
theorem dX12_holds_40 : decode cX12_holds 40 = .ok (.iaload, 1) := by decide +kernel
theorem dX12_holds_41 : decode cX12_holds 41 = .ok (.ifCond .gt 23, 3) := by decide +kernel
theorem dX12_holds_44 : decode cX12_holds 44 = .ok (.aload_n 0, 1) := by decide +kernel
theorem dX12_holds_45 : decode cX12_holds 45 = .ok (.getfield 206, 3) := by decide +kernel
theorem dX12_holds_48 : decode cX12_holds 48 = .ok (.iload_n 1, 1) := by decide +kernel
theorem dX12_holds_49 : decode cX12_holds 49 = .ok (.iaload, 1) := by decide +kernel
theorem dX12_holds_50 : decode cX12_holds 50 = .ok (.ifCond .le 16, 3) := by decide +kernel
theorem dX12_holds_53 : decode cX12_holds 53 = .ok (.aload_n 0, 1) := by decide +kernel
theorem dX12_holds_54 : decode cX12_holds 54 = .ok (.getfield 209, 3) := by decide +kernel
theorem dX12_holds_57 : decode cX12_holds 57 = .ok (.iload_n 1, 1) := by decide +kernel
theorem dX12_holds_58 : decode cX12_holds 58 = .ok (.iaload, 1) := by decide +kernel
theorem dX12_holds_59 : decode cX12_holds 59 = .ok (.iload 4, 2) := by decide +kernel
theorem dX12_holds_61 : decode cX12_holds 61 = .ok (.if_icmp .ne 5, 3) := by decide +kernel
theorem dX12_holds_64 : decode cX12_holds 64 = .ok (.iconst 3, 1) := by decide +kernel
theorem dX12_holds_65 : decode cX12_holds 65 = .ok (.ireturn, 1) := by decide +kernel
theorem dX12_holds_66 : decode cX12_holds 66 = .ok (.aload_n 0, 1) := by decide +kernel
theorem dX12_holds_67 : decode cX12_holds 67 = .ok (.getfield 149, 3) := by decide +kernel
theorem dX12_holds_70 : decode cX12_holds 70 = .ok (.iload 4, 2) := by decide +kernel
theorem dX12_holds_72 : decode cX12_holds 72 = .ok (.iaload, 1) := by decide +kernel
theorem dX12_holds_73 : decode cX12_holds 73 = .ok (.ifCond .eq 24, 3) := by decide +kernel
theorem dX12_holds_76 : decode cX12_holds 76 = .ok (.aload_n 0, 1) := by decide +kernel
theorem dX12_holds_77 : decode cX12_holds 77 = .ok (.getfield 149, 3) := by decide +kernel
theorem dX12_holds_80 : decode cX12_holds 80 = .ok (.iload 4, 2) := by decide +kernel
theorem dX12_holds_82 : decode cX12_holds 82 = .ok (.iaload, 1) := by decide +kernel
theorem dX12_holds_83 : decode cX12_holds 83 = .ok (.iconst 3, 1) := by decide +kernel
theorem dX12_holds_84 : decode cX12_holds 84 = .ok (.if_icmp .eq 13, 3) := by decide +kernel
theorem dX12_holds_87 : decode cX12_holds 87 = .ok (.aload_n 0, 1) := by decide +kernel
theorem dX12_holds_88 : decode cX12_holds 88 = .ok (.getfield 173, 3) := by decide +kernel
theorem dX12_holds_91 : decode cX12_holds 91 = .ok (.iload 4, 2) := by decide +kernel
theorem dX12_holds_93 : decode cX12_holds 93 = .ok (.baload, 1) := by decide +kernel
theorem dX12_holds_94 : decode cX12_holds 94 = .ok (.ifCond .eq 5, 3) := by decide +kernel
theorem dX12_holds_97 : decode cX12_holds 97 = .ok (.iconst 2, 1) := by decide +kernel
theorem dX12_holds_98 : decode cX12_holds 98 = .ok (.ireturn, 1) := by decide +kernel
theorem dX12_holds_99 : decode cX12_holds 99 = .ok (.aload_n 0, 1) := by decide +kernel
theorem dX12_holds_100 : decode cX12_holds 100 = .ok (.getfield 173, 3) := by decide +kernel
theorem dX12_holds_103 : decode cX12_holds 103 = .ok (.iload 4, 2) := by decide +kernel
theorem dX12_holds_105 : decode cX12_holds 105 = .ok (.iconst 1, 1) := by decide +kernel
theorem dX12_holds_106 : decode cX12_holds 106 = .ok (.bastore, 1) := by decide +kernel
theorem dX12_holds_107 : decode cX12_holds 107 = .ok (.iconst 0, 1) := by decide +kernel
theorem dX12_holds_108 : decode cX12_holds 108 = .ok (.ireturn, 1) := by decide +kernel
def wb_X12_holds_32  (S : q_S) (Q : Option Value → q_S → Prop) : Prop := Q (some (.int (1 : Int32))) S
set_option maxHeartbeats 4000000 in
set_option maxRecDepth 100000 in
theorem cb_X12_holds_32 {p : Program} {l : Launch} {e : Env} {s : State} {m : MethodId} {args : Array Value} {below : List Frame} {meth : Method} {c : Code} {D : va_G} {cy : Nat → ClassId} {lo : Nat}  {S : q_S} {Q : Option Value → q_S → Prop} {H : Heap} {locs : List Loc} {ls : Array Slot} (X : q_X p s m args meth c RX12 cX12_holds 5 (some .int) D cy lo)  (Y : q_Y D cy lo s S H locs) (hl : lv_has ls 5 []) (h : wb_X12_holds_32 S Q) : W p l e ({ frames := 2, cells := 0, slots := 0, locals := 42 } : Room) s m args below meth c H locs 0 0 (MQ below (q_Q D cy lo Q) args s 0 0 (fun q => lo ≤ q)) (F0 m 32 ls []) := by
  have hx := X.1
  have hb := X.2.1
  unfold wb_X12_holds_32 at h
  refine lv_iconst (v := 1) hx hb dX12_holds_32 (by decide) ?_
  exact q_iret X Y rfl (Nat.le_refl _) (Nat.le_refl _) h dX12_holds_33
def wb_X12_holds_64  (S : q_S) (Q : Option Value → q_S → Prop) : Prop := Q (some (.int (3 : Int32))) S
set_option maxHeartbeats 4000000 in
set_option maxRecDepth 100000 in
theorem cb_X12_holds_64 {p : Program} {l : Launch} {e : Env} {s : State} {m : MethodId} {args : Array Value} {below : List Frame} {meth : Method} {c : Code} {D : va_G} {cy : Nat → ClassId} {lo : Nat}  {S : q_S} {Q : Option Value → q_S → Prop} {H : Heap} {locs : List Loc} {ls : Array Slot} (X : q_X p s m args meth c RX12 cX12_holds 5 (some .int) D cy lo)  (Y : q_Y D cy lo s S H locs) (hl : lv_has ls 5 []) (h : wb_X12_holds_64 S Q) : W p l e ({ frames := 2, cells := 0, slots := 0, locals := 42 } : Room) s m args below meth c H locs 0 0 (MQ below (q_Q D cy lo Q) args s 0 0 (fun q => lo ≤ q)) (F0 m 64 ls []) := by
  have hx := X.1
  have hb := X.2.1
  unfold wb_X12_holds_64 at h
  refine lv_iconst (v := 3) hx hb dX12_holds_64 (by decide) ?_
  exact q_iret X Y rfl (Nat.le_refl _) (Nat.le_refl _) h dX12_holds_65
def wb_X12_holds_97  (S : q_S) (Q : Option Value → q_S → Prop) : Prop := Q (some (.int (2 : Int32))) S
set_option maxHeartbeats 4000000 in
set_option maxRecDepth 100000 in
theorem cb_X12_holds_97 {p : Program} {l : Launch} {e : Env} {s : State} {m : MethodId} {args : Array Value} {below : List Frame} {meth : Method} {c : Code} {D : va_G} {cy : Nat → ClassId} {lo : Nat}  {S : q_S} {Q : Option Value → q_S → Prop} {H : Heap} {locs : List Loc} {ls : Array Slot} (X : q_X p s m args meth c RX12 cX12_holds 5 (some .int) D cy lo)  (Y : q_Y D cy lo s S H locs) (hl : lv_has ls 5 []) (h : wb_X12_holds_97 S Q) : W p l e ({ frames := 2, cells := 0, slots := 0, locals := 42 } : Room) s m args below meth c H locs 0 0 (MQ below (q_Q D cy lo Q) args s 0 0 (fun q => lo ≤ q)) (F0 m 97 ls []) := by
  have hx := X.1
  have hb := X.2.1
  unfold wb_X12_holds_97 at h
  refine lv_iconst (v := 2) hx hb dX12_holds_97 (by decide) ?_
  exact q_iret X Y rfl (Nat.le_refl _) (Nat.le_refl _) h dX12_holds_98
def wb_X12_holds_66  (S : q_S) (a0 : Nat) (x4 : Int32) (Q : Option Value → q_S → Prop) : Prop := q_K S a0 = 13 ∧ (∃ a2_ : Nat, (q_P S 2467 a0) = some a2_ ∧ (q_K S a2_ = 21 ∧ (vp_in x4 (q_N S a2_) ∧ ((((q_A S a2_ x4.toNatClampNeg) = 0 → (wb_X12_holds_97 S Q)) ∧ (¬ (q_A S a2_ x4.toNatClampNeg) = 0 → (vp_in x4 (q_N S a2_) ∧ ((((q_A S a2_ x4.toNatClampNeg) = (3 : Int32) → (wb_X12_holds_97 S Q)) ∧ (¬ (q_A S a2_ x4.toNatClampNeg) = (3 : Int32) → (∃ a9_ : Nat, (q_P S 2475 a0) = some a9_ ∧ (q_K S a9_ = 22 ∧ (vp_in x4 (q_N S a9_) ∧ ((((q_A S a9_ x4.toNatClampNeg) = 0 → (vp_in x4 (q_N S a9_) ∧ (Q (some (.int (0 : Int32))) (qs_A S a9_ x4.toNatClampNeg (vp_nar .boolean (1 : Int32)))))) ∧ (¬ (q_A S a9_ x4.toNatClampNeg) = 0 → (wb_X12_holds_97 S Q)))))))))))))))))
set_option maxHeartbeats 4000000 in
set_option maxRecDepth 100000 in
theorem cb_X12_holds_66 {p : Program} {l : Launch} {e : Env} {s : State} {m : MethodId} {args : Array Value} {below : List Frame} {meth : Method} {c : Code} {D : va_G} {cy : Nat → ClassId} {lo : Nat}  {S : q_S} {a0 : Nat} {x4 : Int32} {Q : Option Value → q_S → Prop} {H : Heap} {locs : List Loc} {ls : Array Slot} (X : q_X p s m args meth c RX12 cX12_holds 5 (some .int) D cy lo)  (Y : q_Y D cy lo s S H locs) (hl : lv_has ls 5 [(0, .ref a0), (4, .int x4)]) (h : wb_X12_holds_66 S a0 x4 Q) : W p l e ({ frames := 2, cells := 0, slots := 0, locals := 42 } : Room) s m args below meth c H locs 0 0 (MQ below (q_Q D cy lo Q) args s 0 0 (fun q => lo ≤ q)) (F0 m 66 ls []) := by
  have hx := X.1
  have hb := X.2.1
  unfold wb_X12_holds_66 at h
  refine lv_aload_n hx hb dX12_holds_66 rfl (lv_at hl 0 rfl) ?_
  obtain ⟨k1_, h⟩ := h
  refine q_getP X Y kX12 67 rfl fl_X12_149 k1_ rfl dX12_holds_67 ?_
  refine lv_iload hx hb dX12_holds_70 (lv_at hl 1 rfl) ?_
  obtain ⟨a2_, e3_, h⟩ := h
  refine q_nn [.int x4] e3_ ?_
  obtain ⟨k4_, h⟩ := h
  obtain ⟨i5_, h⟩ := h
  refine q_ild X Y k4_ i5_ dX12_holds_72 ?_
  refine lv_if_eq (tgt := 97) hx hb dX12_holds_73 (by decide) (fun c6_ => ?_) (fun c6_ => ?_)
  · replace h := h.1 c6_
    exact cb_X12_holds_97 X Y (lv_sub hl [] rfl) h
  · replace h := h.2 c6_
    refine lv_aload_n hx hb dX12_holds_76 rfl (lv_at hl 0 rfl) ?_
    refine q_getR X Y kX12 67 rfl fl_X12_149 k1_ e3_ dX12_holds_77 ?_
    refine lv_iload hx hb dX12_holds_80 (lv_at hl 1 rfl) ?_
    obtain ⟨i7_, h⟩ := h
    refine q_ild X Y k4_ i7_ dX12_holds_82 ?_
    refine lv_iconst (v := 3) hx hb dX12_holds_83 (by decide) ?_
    refine lv_icmp_eq (tgt := 97) hx hb dX12_holds_84 (by decide) (fun c8_ => ?_) (fun c8_ => ?_)
    · replace h := h.1 c8_
      exact cb_X12_holds_97 X Y (lv_sub hl [] rfl) h
    · replace h := h.2 c8_
      refine lv_aload_n hx hb dX12_holds_87 rfl (lv_at hl 0 rfl) ?_
      refine q_getP X Y kX12 75 rfl fl_X12_173 k1_ rfl dX12_holds_88 ?_
      refine lv_iload hx hb dX12_holds_91 (lv_at hl 1 rfl) ?_
      obtain ⟨a9_, e10_, h⟩ := h
      refine q_nn [.int x4] e10_ ?_
      obtain ⟨k11_, h⟩ := h
      obtain ⟨i12_, h⟩ := h
      refine q_zld X Y k11_ i12_ dX12_holds_93 ?_
      refine lv_if_eq (tgt := 99) hx hb dX12_holds_94 (by decide) (fun c13_ => ?_) (fun c13_ => ?_)
      · replace h := h.1 c13_
        refine lv_aload_n hx hb dX12_holds_99 rfl (lv_at hl 0 rfl) ?_
        refine q_getR X Y kX12 75 rfl fl_X12_173 k1_ e10_ dX12_holds_100 ?_
        refine lv_iload hx hb dX12_holds_103 (lv_at hl 1 rfl) ?_
        refine lv_iconst (v := 1) hx hb dX12_holds_105 (by decide) ?_
        obtain ⟨i14_, h⟩ := h
        refine q_zst X Y k11_ i14_ dX12_holds_106 (fun H locs Y => ?_)
        refine lv_iconst (v := 0) hx hb dX12_holds_107 (by decide) ?_
        exact q_iret X Y rfl (Nat.le_refl _) (Nat.le_refl _) h dX12_holds_108
      · replace h := h.2 c13_
        exact cb_X12_holds_97 X Y (lv_sub hl [] rfl) h
def wm_X12_holds (S : q_S) (a0 : Nat) (x1 : Int32) (x2 : Int32) (x3 : Int32) (Q : Option Value → q_S → Prop) : Prop := q_K S a0 = 13 ∧ (wm_X12_isProcess S a0 x1 x3 (fun r16_ S17_ => ∃ x18_ : Int32, r16_ = some (.int x18_) ∧ (((x18_ = 0 → (wb_X12_holds_32 S17_ Q)) ∧ (¬ x18_ = 0 → ((((((16 : Int32) * x1) + x3) = x2 → (wb_X12_holds_32 S17_ Q)) ∧ (¬ (((16 : Int32) * x1) + x3) = x2 → (q_K S17_ a0 = 13 ∧ (wm_X12_isHandler S17_ a0 (((16 : Int32) * x1) + x3) (fun r22_ S23_ => ∃ x24_ : Int32, r22_ = some (.int x24_) ∧ (((x24_ = 0 → (q_K S23_ a0 = 13 ∧ (∃ a27_ : Nat, (q_P S23_ 2438 a0) = some a27_ ∧ (q_K S23_ a27_ = 21 ∧ (vp_in (((16 : Int32) * x1) + x3) (q_N S23_ a27_) ∧ (((0 < (q_A S23_ a27_ (((16 : Int32) * x1) + x3).toNatClampNeg) → (wb_X12_holds_64 S23_ Q)) ∧ (¬ 0 < (q_A S23_ a27_ (((16 : Int32) * x1) + x3).toNatClampNeg) → (∃ a32_ : Nat, (q_P S23_ 2486 a0) = some a32_ ∧ (q_K S23_ a32_ = 21 ∧ (vp_in x1 (q_N S23_ a32_) ∧ ((((q_A S23_ a32_ x1.toNatClampNeg) ≤ 0 → (wb_X12_holds_66 S23_ a0 (((16 : Int32) * x1) + x3) Q)) ∧ (¬ (q_A S23_ a32_ x1.toNatClampNeg) ≤ 0 → (∃ a37_ : Nat, (q_P S23_ 2487 a0) = some a37_ ∧ (q_K S23_ a37_ = 21 ∧ (vp_in x1 (q_N S23_ a37_) ∧ (((¬ (q_A S23_ a37_ x1.toNatClampNeg) = (((16 : Int32) * x1) + x3) → (wb_X12_holds_66 S23_ a0 (((16 : Int32) * x1) + x3) Q)) ∧ ((q_A S23_ a37_ x1.toNatClampNeg) = (((16 : Int32) * x1) + x3) → (wb_X12_holds_64 S23_ Q))))))))))))))))))))) ∧ (¬ x24_ = 0 → (wb_X12_holds_32 S23_ Q)))))))))))))))
set_option maxHeartbeats 4000000 in
set_option maxRecDepth 100000 in
theorem cm_X12_holds {l : Launch} {D : va_G} {cy : Nat → ClassId} {lo : Nat} {S : q_S} {a0 : Nat} {x1 : Int32} {x2 : Int32} {x3 : Int32} {Q : Option Value → q_S → Prop} (h : wm_X12_holds S a0 x1 x2 x3 Q) : q_Met l D cy lo yX12_holds cX12_holds 5 (some .int) 2 42 0 0 [.ref a0, .int x1, .int x2, .int x3] S Q := by
  refine q_body (by decide) (by first | exact Nat.le_of_ble_eq_true rfl | simp [lg_sl, q_cat, q_catI, q_catJ, q_catR]) ?_
  intro p e s m below meth c ls X hnm Y hl
  have hx := X.1
  have hb := X.2.1
  have hl : lv_has ls 5 [(0, .ref a0), (1, .int x1), (2, .int x2), (3, .int x3)] := by first | exact hl | simpa [lv_args, q_cat, q_catI, q_catJ, q_catR] using hl
  generalize hargs : ([.ref a0, .int x1, .int x2, .int x3] : List Value).toArray = args at X ⊢
  unfold wm_X12_holds at h
  refine lv_bipush (v := 16) hx hb dX12_holds_0 (by decide) ?_
  refine lv_iload_n hx hb dX12_holds_2 rfl (lv_at hl 1 rfl) ?_
  refine lv_imul hx hb dX12_holds_3 ?_
  refine lv_iload_n hx hb dX12_holds_4 rfl (lv_at hl 3 rfl) ?_
  refine lv_iadd hx hb dX12_holds_5 ?_
  refine lv_istore (i := 4) (lv' := [(4, .int (((16 : Int32) * x1) + x3)), (0, .ref a0), (1, .int x1), (2, .int x2), (3, .int x3)]) hx hb dX12_holds_6 hl (by decide) (by first | rfl | simp [q_cat, q_catI, q_catJ, q_catR]) (fun ls hl => ?_)
  refine lv_aload_n hx hb dX12_holds_8 rfl (lv_at hl 1 rfl) ?_
  refine lv_iload_n hx hb dX12_holds_9 rfl (lv_at hl 2 rfl) ?_
  refine lv_iload_n hx hb dX12_holds_10 rfl (lv_at hl 4 rfl) ?_
  obtain ⟨k15_, h⟩ := h
  refine q_callV X Y hl (cm_X12_isProcess h) mt_X12_isProcess mi_X12_isProcess ml_X12_613 (ci := 12) rfl k15_ (by decide) rfl rfl (by first | exact Nat.le_of_ble_eq_true rfl | simp [q_cat, q_catI, q_catJ, q_catR]) ⟨Nat.le_of_ble_eq_true rfl, Nat.le_of_ble_eq_true rfl⟩ ⟨Nat.le_of_ble_eq_true rfl, Nat.le_of_ble_eq_true rfl⟩ dX12_holds_11 (fun r16_ S17_ H locs hp Y => ?_)
  obtain ⟨x18_, rfl, h⟩ := hp
  refine W.eq (g2 := F0 m 14 ls [.int x18_]) rfl ?_
  refine lv_if_eq (tgt := 32) hx hb dX12_holds_14 (by decide) (fun c19_ => ?_) (fun c19_ => ?_)
  · replace h := h.1 c19_
    exact cb_X12_holds_32 X Y (lv_sub hl [] rfl) h
  · replace h := h.2 c19_
    refine lv_iload hx hb dX12_holds_17 (lv_at hl 0 rfl) ?_
    refine lv_iload_n hx hb dX12_holds_19 rfl (lv_at hl 3 rfl) ?_
    refine lv_icmp_eq (tgt := 32) hx hb dX12_holds_20 (by decide) (fun c20_ => ?_) (fun c20_ => ?_)
    · replace h := h.1 c20_
      exact cb_X12_holds_32 X Y (lv_sub hl [] rfl) h
    · replace h := h.2 c20_
      refine lv_aload_n hx hb dX12_holds_23 rfl (lv_at hl 1 rfl) ?_
      refine lv_iload hx hb dX12_holds_24 (lv_at hl 0 rfl) ?_
      obtain ⟨k21_, h⟩ := h
      refine q_callV X Y hl (cm_X12_isHandler h) mt_X12_isHandler mi_X12_isHandler ml_X12_493 (ci := 12) rfl k21_ (by decide) rfl rfl (by first | exact Nat.le_of_ble_eq_true rfl | simp [q_cat, q_catI, q_catJ, q_catR]) ⟨Nat.le_of_ble_eq_true rfl, Nat.le_of_ble_eq_true rfl⟩ ⟨Nat.le_of_ble_eq_true rfl, Nat.le_of_ble_eq_true rfl⟩ dX12_holds_26 (fun r22_ S23_ H locs hp Y => ?_)
      obtain ⟨x24_, rfl, h⟩ := hp
      refine W.eq (g2 := F0 m 29 ls [.int x24_]) rfl ?_
      refine lv_if_eq (tgt := 34) hx hb dX12_holds_29 (by decide) (fun c25_ => ?_) (fun c25_ => ?_)
      · replace h := h.1 c25_
        refine lv_aload_n hx hb dX12_holds_34 rfl (lv_at hl 1 rfl) ?_
        obtain ⟨k26_, h⟩ := h
        refine q_getP X Y kX12 38 rfl fl_X12_69 k26_ rfl dX12_holds_35 ?_
        refine lv_iload hx hb dX12_holds_38 (lv_at hl 0 rfl) ?_
        obtain ⟨a27_, e28_, h⟩ := h
        refine q_nn [.int (((16 : Int32) * x1) + x3)] e28_ ?_
        obtain ⟨k29_, h⟩ := h
        obtain ⟨i30_, h⟩ := h
        refine q_ild X Y k29_ i30_ dX12_holds_40 ?_
        refine lv_if_gt (tgt := 64) hx hb dX12_holds_41 (by decide) (fun c31_ => ?_) (fun c31_ => ?_)
        · replace h := h.1 c31_
          exact cb_X12_holds_64 X Y (lv_sub hl [] rfl) h
        · replace h := h.2 c31_
          refine lv_aload_n hx hb dX12_holds_44 rfl (lv_at hl 1 rfl) ?_
          refine q_getP X Y kX12 86 rfl fl_X12_206 k26_ rfl dX12_holds_45 ?_
          refine lv_iload_n hx hb dX12_holds_48 rfl (lv_at hl 2 rfl) ?_
          obtain ⟨a32_, e33_, h⟩ := h
          refine q_nn [.int x1] e33_ ?_
          obtain ⟨k34_, h⟩ := h
          obtain ⟨i35_, h⟩ := h
          refine q_ild X Y k34_ i35_ dX12_holds_49 ?_
          refine lv_if_le (tgt := 66) hx hb dX12_holds_50 (by decide) (fun c36_ => ?_) (fun c36_ => ?_)
          · replace h := h.1 c36_
            exact cb_X12_holds_66 X Y (lv_sub hl [1, 0] rfl) h
          · replace h := h.2 c36_
            refine lv_aload_n hx hb dX12_holds_53 rfl (lv_at hl 1 rfl) ?_
            refine q_getP X Y kX12 87 rfl fl_X12_209 k26_ rfl dX12_holds_54 ?_
            refine lv_iload_n hx hb dX12_holds_57 rfl (lv_at hl 2 rfl) ?_
            obtain ⟨a37_, e38_, h⟩ := h
            refine q_nn [.int x1] e38_ ?_
            obtain ⟨k39_, h⟩ := h
            obtain ⟨i40_, h⟩ := h
            refine q_ild X Y k39_ i40_ dX12_holds_58 ?_
            refine lv_iload hx hb dX12_holds_59 (lv_at hl 0 rfl) ?_
            refine lv_icmp_ne (tgt := 66) hx hb dX12_holds_61 (by decide) (fun c41_ => ?_) (fun c41_ => ?_)
            · replace h := h.1 c41_
              exact cb_X12_holds_66 X Y (lv_sub hl [1, 0] rfl) h
            · replace h := h.2 c41_
              exact cb_X12_holds_64 X Y (lv_sub hl [] rfl) h
      · replace h := h.2 c25_
        exact cb_X12_holds_32 X Y (lv_sub hl [] rfl) h
-- X12_letsGo
theorem dX12_letsGo_0 : decode cX12_letsGo 0 = .ok (.aload_n 0, 1) := by decide +kernel
theorem dX12_letsGo_1 : decode cX12_letsGo 1 = .ok (.iload_n 1, 1) := by decide +kernel
theorem dX12_letsGo_2 : decode cX12_letsGo 2 = .ok (.iload_n 2, 1) := by decide +kernel
theorem dX12_letsGo_3 : decode cX12_letsGo 3 = .ok (.invokevirtual 613, 3) := by decide +kernel
theorem dX12_letsGo_6 : decode cX12_letsGo 6 = .ok (.ifCond .ne 5, 3) := by decide +kernel
theorem dX12_letsGo_9 : decode cX12_letsGo 9 = .ok (.iconst 1, 1) := by decide +kernel
theorem dX12_letsGo_10 : decode cX12_letsGo 10 = .ok (.ireturn, 1) := by decide +kernel
theorem dX12_letsGo_11 : decode cX12_letsGo 11 = .ok (.bipush 16, 2) := by decide +kernel
theorem dX12_letsGo_13 : decode cX12_letsGo 13 = .ok (.iload_n 1, 1) := by decide +kernel
theorem dX12_letsGo_14 : decode cX12_letsGo 14 = .ok (.imul, 1) := by decide +kernel
theorem dX12_letsGo_15 : decode cX12_letsGo 15 = .ok (.iload_n 2, 1) := by decide +kernel
theorem dX12_letsGo_16 : decode cX12_letsGo 16 = .ok (.iadd, 1) := by decide +kernel
theorem dX12_letsGo_17 : decode cX12_letsGo 17 = .ok (.istore_n 3, 1) := by decide +kernel
theorem dX12_letsGo_18 : decode cX12_letsGo 18 = .ok (.aload_n 0, 1) := by decide +kernel
theorem dX12_letsGo_19 : decode cX12_letsGo 19 = .ok (.getfield 149, 3) := by decide +kernel
theorem dX12_letsGo_22 : decode cX12_letsGo 22 = .ok (.iload_n 3, 1) := by decide +kernel
theorem dX12_letsGo_23 : decode cX12_letsGo 23 = .ok (.iaload, 1) := by decide +kernel
theorem dX12_letsGo_24 : decode cX12_letsGo 24 = .ok (.iconst 2, 1) := by decide +kernel
theorem dX12_letsGo_25 : decode cX12_letsGo 25 = .ok (.if_icmp .ne 18, 3) := by decide +kernel
theorem dX12_letsGo_28 : decode cX12_letsGo 28 = .ok (.aload_n 0, 1) := by decide +kernel
theorem dX12_letsGo_29 : decode cX12_letsGo 29 = .ok (.getfield 182, 3) := by decide +kernel
theorem dX12_letsGo_32 : decode cX12_letsGo 32 = .ok (.iload_n 3, 1) := by decide +kernel
theorem dX12_letsGo_33 : decode cX12_letsGo 33 = .ok (.iaload, 1) := by decide +kernel
theorem dX12_letsGo_34 : decode cX12_letsGo 34 = .ok (.bipush 8, 2) := by decide +kernel
theorem dX12_letsGo_36 : decode cX12_letsGo 36 = .ok (.if_icmp .ne 7, 3) := by decide +kernel
theorem dX12_letsGo_39 : decode cX12_letsGo 39 = .ok (.iconst 1, 1) := by decide +kernel
theorem dX12_letsGo_40 : decode cX12_letsGo 40 = .ok (.goto 4, 3) := by decide +kernel
theorem dX12_letsGo_43 : decode cX12_letsGo 43 = .ok (.iconst 0, 1) := by decide +kernel
theorem dX12_letsGo_44 : decode cX12_letsGo 44 = .ok (.istore 4, 2) := by decide +kernel
theorem dX12_letsGo_46 : decode cX12_letsGo 46 = .ok (.aload_n 0, 1) := by decide +kernel
theorem dX12_letsGo_47 : decode cX12_letsGo 47 = .ok (.getfield 173, 3) := by decide +kernel
theorem dX12_letsGo_50 : decode cX12_letsGo 50 = .ok (.iload_n 3, 1) := by decide +kernel
theorem dX12_letsGo_51 : decode cX12_letsGo 51 = .ok (.baload, 1) := by decide +kernel
theorem dX12_letsGo_52 : decode cX12_letsGo 52 = .ok (.istore 5, 2) := by decide +kernel
theorem dX12_letsGo_54 : decode cX12_letsGo 54 = .ok (.iload 4, 2) := by decide +kernel
theorem dX12_letsGo_56 : decode cX12_letsGo 56 = .ok (.ifCond .ne 10, 3) := by decide +kernel
theorem dX12_letsGo_59 : decode cX12_letsGo 59 = .ok (.iload 5, 2) := by decide +kernel
theorem dX12_letsGo_61 : decode cX12_letsGo 61 = .ok (.ifCond .ne 5, 3) := by decide +kernel
theorem dX12_letsGo_64 : decode cX12_letsGo 64 = .ok (.iconst 2, 1) := by decide +kernel
theorem dX12_letsGo_65 : decode cX12_letsGo 65 = .ok (.ireturn, 1) := by decide +kernel
theorem dX12_letsGo_66 : decode cX12_letsGo 66 = .ok (.aload_n 0, 1) := by decide +kernel
theorem dX12_letsGo_67 : decode cX12_letsGo 67 = .ok (.getfield 173, 3) := by decide +kernel
theorem dX12_letsGo_70 : decode cX12_letsGo 70 = .ok (.iload_n 3, 1) := by decide +kernel
theorem dX12_letsGo_71 : decode cX12_letsGo 71 = .ok (.iconst 0, 1) := by decide +kernel
theorem dX12_letsGo_72 : decode cX12_letsGo 72 = .ok (.bastore, 1) := by decide +kernel
theorem dX12_letsGo_73 : decode cX12_letsGo 73 = .ok (.iload 4, 2) := by decide +kernel
theorem dX12_letsGo_75 : decode cX12_letsGo 75 = .ok (.ifCond .eq 11, 3) := by decide +kernel
theorem dX12_letsGo_78 : decode cX12_letsGo 78 = .ok (.aload_n 0, 1) := by decide +kernel
theorem dX12_letsGo_79 : decode cX12_letsGo 79 = .ok (.iload_n 3, 1) := by decide +kernel
theorem dX12_letsGo_80 : decode cX12_letsGo 80 = .ok (.invokevirtual 543, 3) := by decide +kernel
theorem dX12_letsGo_83 : decode cX12_letsGo 83 = .ok (.goto 33, 3) := by decide +kernel
theorem dX12_letsGo_86 : decode cX12_letsGo 86 = .ok (.aload_n 0, 1) := by decide +kernel
theorem dX12_letsGo_87 : decode cX12_letsGo 87 = .ok (.getfield 149, 3) := by decide +kernel
theorem dX12_letsGo_90 : decode cX12_letsGo 90 = .ok (.iload_n 3, 1) := by decide +kernel
theorem dX12_letsGo_91 : decode cX12_letsGo 91 = .ok (.iaload, 1) := by decide +kernel
theorem dX12_letsGo_92 : decode cX12_letsGo 92 = .ok (.iconst 1, 1) := by decide +kernel
theorem dX12_letsGo_93 : decode cX12_letsGo 93 = .ok (.if_icmp .ne 23, 3) := by decide +kernel
theorem dX12_letsGo_96 : decode cX12_letsGo 96 = .ok (.aload_n 0, 1) := by decide +kernel
theorem dX12_letsGo_97 : decode cX12_letsGo 97 = .ok (.dup, 1) := by decide +kernel
theorem dX12_letsGo_98 : decode cX12_letsGo 98 = .ok (.getfield 456, 3) := by decide +kernel
theorem dX12_letsGo_101 : decode cX12_letsGo 101 = .ok (.iconst 1, 1) := by decide +kernel
theorem dX12_letsGo_102 : decode cX12_letsGo 102 = .ok (.iadd, 1) := by decide +kernel
theorem dX12_letsGo_103 : decode cX12_letsGo 103 = .ok (.putfield 456, 3) := by decide +kernel
theorem dX12_letsGo_106 : decode cX12_letsGo 106 = .ok (.aload_n 0, 1) := by decide +kernel
theorem dX12_letsGo_107 : decode cX12_letsGo 107 = .ok (.getfield 176, 3) := by decide +kernel
theorem dX12_letsGo_110 : decode cX12_letsGo 110 = .ok (.iload_n 3, 1) := by decide +kernel
theorem dX12_letsGo_111 : decode cX12_letsGo 111 = .ok (.aload_n 0, 1) := by decide +kernel
theorem dX12_letsGo_112 : decode cX12_letsGo 112 = .ok (.getfield 456, 3) := by decide +kernel
theorem dX12_letsGo_115 : decode cX12_letsGo 115 = .ok (.iastore, 1) := by decide +kernel
theorem dX12_letsGo_116 : decode cX12_letsGo 116 = .ok (.iconst 0, 1) := by decide +kernel
theorem dX12_letsGo_117 : decode cX12_letsGo 117 = .ok (.ireturn, 1) := by decide +kernel
def wb_X12_letsGo_116  (S : q_S) (Q : Option Value → q_S → Prop) : Prop := Q (some (.int (0 : Int32))) S
set_option maxHeartbeats 4000000 in
set_option maxRecDepth 100000 in
theorem cb_X12_letsGo_116 {p : Program} {l : Launch} {e : Env} {s : State} {m : MethodId} {args : Array Value} {below : List Frame} {meth : Method} {c : Code} {D : va_G} {cy : Nat → ClassId} {lo : Nat}  {S : q_S} {Q : Option Value → q_S → Prop} {H : Heap} {locs : List Loc} {ls : Array Slot} (X : q_X p s m args meth c RX12 cX12_letsGo 6 (some .int) D cy lo)  (Y : q_Y D cy lo s S H locs) (hl : lv_has ls 6 []) (h : wb_X12_letsGo_116 S Q) : W p l e ({ frames := 2, cells := 0, slots := 0, locals := 43 } : Room) s m args below meth c H locs 0 0 (MQ below (q_Q D cy lo Q) args s 0 0 (fun q => lo ≤ q)) (F0 m 116 ls []) := by
  have hx := X.1
  have hb := X.2.1
  unfold wb_X12_letsGo_116 at h
  refine lv_iconst (v := 0) hx hb dX12_letsGo_116 (by decide) ?_
  exact q_iret X Y rfl (Nat.le_refl _) (Nat.le_refl _) h dX12_letsGo_117
def wb_X12_letsGo_66  (S : q_S) (a0 : Nat) (x3 : Int32) (x4 : Int32) (Q : Option Value → q_S → Prop) : Prop := q_K S a0 = 13 ∧ (∃ a2_ : Nat, (q_P S 2475 a0) = some a2_ ∧ (q_K S a2_ = 22 ∧ (vp_in x3 (q_N S a2_) ∧ (((x4 = 0 → (∃ a7_ : Nat, (q_P (qs_A S a2_ x3.toNatClampNeg (vp_nar .boolean (0 : Int32))) 2467 a0) = some a7_ ∧ (q_K (qs_A S a2_ x3.toNatClampNeg (vp_nar .boolean (0 : Int32))) a7_ = 21 ∧ (vp_in x3 (q_N (qs_A S a2_ x3.toNatClampNeg (vp_nar .boolean (0 : Int32))) a7_) ∧ (((¬ (q_A (qs_A S a2_ x3.toNatClampNeg (vp_nar .boolean (0 : Int32))) a7_ x3.toNatClampNeg) = (1 : Int32) → (wb_X12_letsGo_116 (qs_A S a2_ x3.toNatClampNeg (vp_nar .boolean (0 : Int32))) Q)) ∧ ((q_A (qs_A S a2_ x3.toNatClampNeg (vp_nar .boolean (0 : Int32))) a7_ x3.toNatClampNeg) = (1 : Int32) → (∀ S12_ : q_S, S12_ = (qs_I (qs_A S a2_ x3.toNatClampNeg (vp_nar .boolean (0 : Int32))) 2464 a0 ((q_I (qs_A S a2_ x3.toNatClampNeg (vp_nar .boolean (0 : Int32))) 2464 a0) + (1 : Int32))) → (∃ a13_ : Nat, (q_P S12_ 2476 a0) = some a13_ ∧ (q_K S12_ a13_ = 21 ∧ (vp_in x3 (q_N S12_ a13_) ∧ (wb_X12_letsGo_116 (qs_A S12_ a13_ x3.toNatClampNeg (q_I S12_ 2464 a0)) Q)))))))))))) ∧ (¬ x4 = 0 → (wm_X12_gets (qs_A S a2_ x3.toNatClampNeg (vp_nar .boolean (0 : Int32))) a0 x3 (fun r17_ S18_ => r17_ = none ∧ (wb_X12_letsGo_116 S18_ Q)))))))))
set_option maxHeartbeats 4000000 in
set_option maxRecDepth 100000 in
theorem cb_X12_letsGo_66 {p : Program} {l : Launch} {e : Env} {s : State} {m : MethodId} {args : Array Value} {below : List Frame} {meth : Method} {c : Code} {D : va_G} {cy : Nat → ClassId} {lo : Nat}  {S : q_S} {a0 : Nat} {x3 : Int32} {x4 : Int32} {Q : Option Value → q_S → Prop} {H : Heap} {locs : List Loc} {ls : Array Slot} (X : q_X p s m args meth c RX12 cX12_letsGo 6 (some .int) D cy lo)  (Y : q_Y D cy lo s S H locs) (hl : lv_has ls 6 [(0, .ref a0), (3, .int x3), (4, .int x4)]) (h : wb_X12_letsGo_66 S a0 x3 x4 Q) : W p l e ({ frames := 2, cells := 0, slots := 0, locals := 43 } : Room) s m args below meth c H locs 0 0 (MQ below (q_Q D cy lo Q) args s 0 0 (fun q => lo ≤ q)) (F0 m 66 ls []) := by
  have hx := X.1
  have hb := X.2.1
  unfold wb_X12_letsGo_66 at h
  refine lv_aload_n hx hb dX12_letsGo_66 rfl (lv_at hl 0 rfl) ?_
  obtain ⟨k1_, h⟩ := h
  refine q_getP X Y kX12 75 rfl fl_X12_173 k1_ rfl dX12_letsGo_67 ?_
  refine lv_iload_n hx hb dX12_letsGo_70 rfl (lv_at hl 1 rfl) ?_
  refine lv_iconst (v := 0) hx hb dX12_letsGo_71 (by decide) ?_
  obtain ⟨a2_, e3_, h⟩ := h
  refine q_nn [.int (0 : Int32), .int x3] e3_ ?_
  obtain ⟨k4_, h⟩ := h
  obtain ⟨i5_, h⟩ := h
  refine q_zst X Y k4_ i5_ dX12_letsGo_72 (fun H locs Y => ?_)
  refine lv_iload hx hb dX12_letsGo_73 (lv_at hl 2 rfl) ?_
  refine lv_if_eq (tgt := 86) hx hb dX12_letsGo_75 (by decide) (fun c6_ => ?_) (fun c6_ => ?_)
  · replace h := h.1 c6_
    refine lv_aload_n hx hb dX12_letsGo_86 rfl (lv_at hl 0 rfl) ?_
    refine q_getP X Y kX12 67 rfl fl_X12_149 k1_ rfl dX12_letsGo_87 ?_
    refine lv_iload_n hx hb dX12_letsGo_90 rfl (lv_at hl 1 rfl) ?_
    obtain ⟨a7_, e8_, h⟩ := h
    refine q_nn [.int x3] e8_ ?_
    obtain ⟨k9_, h⟩ := h
    obtain ⟨i10_, h⟩ := h
    refine q_ild X Y k9_ i10_ dX12_letsGo_91 ?_
    refine lv_iconst (v := 1) hx hb dX12_letsGo_92 (by decide) ?_
    refine lv_icmp_ne (tgt := 116) hx hb dX12_letsGo_93 (by decide) (fun c11_ => ?_) (fun c11_ => ?_)
    · replace h := h.1 c11_
      exact cb_X12_letsGo_116 X Y (lv_sub hl [] rfl) h
    · replace h := h.2 c11_
      refine lv_aload_n hx hb dX12_letsGo_96 rfl (lv_at hl 0 rfl) ?_
      refine lv_dup hx hb dX12_letsGo_97 rfl ?_
      refine q_getI X Y kX12 64 rfl fl_X12_456 k1_ dX12_letsGo_98 ?_
      refine lv_iconst (v := 1) hx hb dX12_letsGo_101 (by decide) ?_
      refine lv_iadd hx hb dX12_letsGo_102 ?_
      refine q_putI X Y kX12 64 rfl fl_X12_456 k1_ .int rfl ⟨rfl, rfl⟩ rfl dX12_letsGo_103 (fun H locs Y => ?_)
      obtain ⟨S12_, gS12_⟩ : ∃ z : q_S, z = (qs_I (qs_A S a2_ x3.toNatClampNeg (vp_nar .boolean (0 : Int32))) 2464 a0 ((q_I (qs_A S a2_ x3.toNatClampNeg (vp_nar .boolean (0 : Int32))) 2464 a0) + (1 : Int32))) := ⟨_, rfl⟩
      replace Y : q_Y D cy lo s S12_ H locs := by rw [gS12_]; exact Y
      replace h := h S12_ gS12_
      replace k1_ : q_K S12_ a0 = 13 := by rw [gS12_]; exact k1_
      replace k4_ : q_K S12_ a2_ = 22 := by rw [gS12_]; exact k4_
      replace k9_ : q_K S12_ a7_ = 21 := by rw [gS12_]; exact k9_
      refine lv_aload_n hx hb dX12_letsGo_106 rfl (lv_at hl 0 rfl) ?_
      refine q_getP X Y kX12 76 rfl fl_X12_176 k1_ rfl dX12_letsGo_107 ?_
      refine lv_iload_n hx hb dX12_letsGo_110 rfl (lv_at hl 1 rfl) ?_
      refine lv_aload_n hx hb dX12_letsGo_111 rfl (lv_at hl 0 rfl) ?_
      refine q_getI X Y kX12 64 rfl fl_X12_456 k1_ dX12_letsGo_112 ?_
      obtain ⟨a13_, e14_, h⟩ := h
      refine q_nn [.int (q_I S12_ 2464 a0), .int x3] e14_ ?_
      obtain ⟨k15_, h⟩ := h
      obtain ⟨i16_, h⟩ := h
      refine q_ist X Y k15_ i16_ dX12_letsGo_115 (fun H locs Y => ?_)
      exact cb_X12_letsGo_116 X Y (lv_sub hl [] rfl) h
  · replace h := h.2 c6_
    refine lv_aload_n hx hb dX12_letsGo_78 rfl (lv_at hl 0 rfl) ?_
    refine lv_iload_n hx hb dX12_letsGo_79 rfl (lv_at hl 1 rfl) ?_
    refine q_callV X Y hl (cm_X12_gets h) mt_X12_gets mi_X12_gets ml_X12_543 (ci := 12) rfl k1_ (by decide) rfl rfl (by first | exact Nat.le_of_ble_eq_true rfl | simp [q_cat, q_catI, q_catJ, q_catR]) ⟨Nat.le_of_ble_eq_true rfl, Nat.le_of_ble_eq_true rfl⟩ ⟨Nat.le_of_ble_eq_true rfl, Nat.le_of_ble_eq_true rfl⟩ dX12_letsGo_80 (fun r17_ S18_ H locs hp Y => ?_)
    obtain ⟨rfl, h⟩ := hp
    refine W.eq (g2 := F0 m 83 ls []) rfl ?_
    refine lv_goto (tgt := 116) hx hb dX12_letsGo_83 (by decide) ?_
    exact cb_X12_letsGo_116 X Y (lv_sub hl [] rfl) h
def wb_X12_letsGo_44  (S : q_S) (a0 : Nat) (x3 : Int32) (xs0 : Int32) (Q : Option Value → q_S → Prop) : Prop := q_K S a0 = 13 ∧ (∃ a20_ : Nat, (q_P S 2475 a0) = some a20_ ∧ (q_K S a20_ = 22 ∧ (vp_in x3 (q_N S a20_) ∧ (((¬ xs0 = 0 → (wb_X12_letsGo_66 S a0 x3 xs0 Q)) ∧ (xs0 = 0 → (((¬ (q_A S a20_ x3.toNatClampNeg) = 0 → (wb_X12_letsGo_66 S a0 x3 xs0 Q)) ∧ ((q_A S a20_ x3.toNatClampNeg) = 0 → (Q (some (.int (2 : Int32))) S))))))))))
set_option maxHeartbeats 4000000 in
set_option maxRecDepth 100000 in
theorem cb_X12_letsGo_44 {p : Program} {l : Launch} {e : Env} {s : State} {m : MethodId} {args : Array Value} {below : List Frame} {meth : Method} {c : Code} {D : va_G} {cy : Nat → ClassId} {lo : Nat}  {S : q_S} {a0 : Nat} {x3 : Int32} {xs0 : Int32} {Q : Option Value → q_S → Prop} {H : Heap} {locs : List Loc} {ls : Array Slot} (X : q_X p s m args meth c RX12 cX12_letsGo 6 (some .int) D cy lo)  (Y : q_Y D cy lo s S H locs) (hl : lv_has ls 6 [(0, .ref a0), (3, .int x3)]) (h : wb_X12_letsGo_44 S a0 x3 xs0 Q) : W p l e ({ frames := 2, cells := 0, slots := 0, locals := 43 } : Room) s m args below meth c H locs 0 0 (MQ below (q_Q D cy lo Q) args s 0 0 (fun q => lo ≤ q)) (F0 m 44 ls [.int xs0]) := by
  have hx := X.1
  have hb := X.2.1
  unfold wb_X12_letsGo_44 at h
  refine lv_istore (i := 4) (lv' := [(4, .int xs0), (0, .ref a0), (3, .int x3)]) hx hb dX12_letsGo_44 hl (by decide) (by first | rfl | simp [q_cat, q_catI, q_catJ, q_catR]) (fun ls hl => ?_)
  refine lv_aload_n hx hb dX12_letsGo_46 rfl (lv_at hl 1 rfl) ?_
  obtain ⟨k19_, h⟩ := h
  refine q_getP X Y kX12 75 rfl fl_X12_173 k19_ rfl dX12_letsGo_47 ?_
  refine lv_iload_n hx hb dX12_letsGo_50 rfl (lv_at hl 2 rfl) ?_
  obtain ⟨a20_, e21_, h⟩ := h
  refine q_nn [.int x3] e21_ ?_
  obtain ⟨k22_, h⟩ := h
  obtain ⟨i23_, h⟩ := h
  refine q_zld X Y k22_ i23_ dX12_letsGo_51 ?_
  refine lv_istore (i := 5) (lv' := [(5, .int (q_A S a20_ x3.toNatClampNeg)), (4, .int xs0), (0, .ref a0), (3, .int x3)]) hx hb dX12_letsGo_52 hl (by decide) (by first | rfl | simp [q_cat, q_catI, q_catJ, q_catR]) (fun ls hl => ?_)
  refine lv_iload hx hb dX12_letsGo_54 (lv_at hl 1 rfl) ?_
  refine lv_if_ne (tgt := 66) hx hb dX12_letsGo_56 (by decide) (fun c24_ => ?_) (fun c24_ => ?_)
  · replace h := h.1 c24_
    exact cb_X12_letsGo_66 X Y (lv_sub hl [2, 3, 1] rfl) h
  · replace h := h.2 c24_
    refine lv_iload hx hb dX12_letsGo_59 (lv_at hl 0 rfl) ?_
    refine lv_if_ne (tgt := 66) hx hb dX12_letsGo_61 (by decide) (fun c25_ => ?_) (fun c25_ => ?_)
    · replace h := h.1 c25_
      exact cb_X12_letsGo_66 X Y (lv_sub hl [2, 3, 1] rfl) h
    · replace h := h.2 c25_
      refine lv_iconst (v := 2) hx hb dX12_letsGo_64 (by decide) ?_
      exact q_iret X Y rfl (Nat.le_refl _) (Nat.le_refl _) h dX12_letsGo_65
def wb_X12_letsGo_43  (S : q_S) (a0 : Nat) (x3 : Int32) (Q : Option Value → q_S → Prop) : Prop := wb_X12_letsGo_44 S a0 x3 (0 : Int32) Q
set_option maxHeartbeats 4000000 in
set_option maxRecDepth 100000 in
theorem cb_X12_letsGo_43 {p : Program} {l : Launch} {e : Env} {s : State} {m : MethodId} {args : Array Value} {below : List Frame} {meth : Method} {c : Code} {D : va_G} {cy : Nat → ClassId} {lo : Nat}  {S : q_S} {a0 : Nat} {x3 : Int32} {Q : Option Value → q_S → Prop} {H : Heap} {locs : List Loc} {ls : Array Slot} (X : q_X p s m args meth c RX12 cX12_letsGo 6 (some .int) D cy lo)  (Y : q_Y D cy lo s S H locs) (hl : lv_has ls 6 [(0, .ref a0), (3, .int x3)]) (h : wb_X12_letsGo_43 S a0 x3 Q) : W p l e ({ frames := 2, cells := 0, slots := 0, locals := 43 } : Room) s m args below meth c H locs 0 0 (MQ below (q_Q D cy lo Q) args s 0 0 (fun q => lo ≤ q)) (F0 m 43 ls []) := by
  have hx := X.1
  have hb := X.2.1
  unfold wb_X12_letsGo_43 at h
  refine lv_iconst (v := 0) hx hb dX12_letsGo_43 (by decide) ?_
  exact cb_X12_letsGo_44 X Y (lv_sub hl [0, 1] rfl) h
def wm_X12_letsGo (S : q_S) (a0 : Nat) (x1 : Int32) (x2 : Int32) (Q : Option Value → q_S → Prop) : Prop := q_K S a0 = 13 ∧ (wm_X12_isProcess S a0 x1 x2 (fun r27_ S28_ => ∃ x29_ : Int32, r27_ = some (.int x29_) ∧ (((¬ x29_ = 0 → (q_K S28_ a0 = 13 ∧ (∃ a32_ : Nat, (q_P S28_ 2467 a0) = some a32_ ∧ (q_K S28_ a32_ = 21 ∧ (vp_in (((16 : Int32) * x1) + x2) (q_N S28_ a32_) ∧ (((¬ (q_A S28_ a32_ (((16 : Int32) * x1) + x2).toNatClampNeg) = (2 : Int32) → (wb_X12_letsGo_43 S28_ a0 (((16 : Int32) * x1) + x2) Q)) ∧ ((q_A S28_ a32_ (((16 : Int32) * x1) + x2).toNatClampNeg) = (2 : Int32) → (∃ a37_ : Nat, (q_P S28_ 2478 a0) = some a37_ ∧ (q_K S28_ a37_ = 21 ∧ (vp_in (((16 : Int32) * x1) + x2) (q_N S28_ a37_) ∧ (((¬ (q_A S28_ a37_ (((16 : Int32) * x1) + x2).toNatClampNeg) = (8 : Int32) → (wb_X12_letsGo_43 S28_ a0 (((16 : Int32) * x1) + x2) Q)) ∧ ((q_A S28_ a37_ (((16 : Int32) * x1) + x2).toNatClampNeg) = (8 : Int32) → (wb_X12_letsGo_44 S28_ a0 (((16 : Int32) * x1) + x2) (1 : Int32) Q))))))))))))))) ∧ (x29_ = 0 → (Q (some (.int (1 : Int32))) S28_))))))
set_option maxHeartbeats 4000000 in
set_option maxRecDepth 100000 in
theorem cm_X12_letsGo {l : Launch} {D : va_G} {cy : Nat → ClassId} {lo : Nat} {S : q_S} {a0 : Nat} {x1 : Int32} {x2 : Int32} {Q : Option Value → q_S → Prop} (h : wm_X12_letsGo S a0 x1 x2 Q) : q_Met l D cy lo yX12_letsGo cX12_letsGo 6 (some .int) 2 43 0 0 [.ref a0, .int x1, .int x2] S Q := by
  refine q_body (by decide) (by first | exact Nat.le_of_ble_eq_true rfl | simp [lg_sl, q_cat, q_catI, q_catJ, q_catR]) ?_
  intro p e s m below meth c ls X hnm Y hl
  have hx := X.1
  have hb := X.2.1
  have hl : lv_has ls 6 [(0, .ref a0), (1, .int x1), (2, .int x2)] := by first | exact hl | simpa [lv_args, q_cat, q_catI, q_catJ, q_catR] using hl
  generalize hargs : ([.ref a0, .int x1, .int x2] : List Value).toArray = args at X ⊢
  unfold wm_X12_letsGo at h
  refine lv_aload_n hx hb dX12_letsGo_0 rfl (lv_at hl 0 rfl) ?_
  refine lv_iload_n hx hb dX12_letsGo_1 rfl (lv_at hl 1 rfl) ?_
  refine lv_iload_n hx hb dX12_letsGo_2 rfl (lv_at hl 2 rfl) ?_
  obtain ⟨k26_, h⟩ := h
  refine q_callV X Y hl (cm_X12_isProcess h) mt_X12_isProcess mi_X12_isProcess ml_X12_613 (ci := 12) rfl k26_ (by decide) rfl rfl (by first | exact Nat.le_of_ble_eq_true rfl | simp [q_cat, q_catI, q_catJ, q_catR]) ⟨Nat.le_of_ble_eq_true rfl, Nat.le_of_ble_eq_true rfl⟩ ⟨Nat.le_of_ble_eq_true rfl, Nat.le_of_ble_eq_true rfl⟩ dX12_letsGo_3 (fun r27_ S28_ H locs hp Y => ?_)
  obtain ⟨x29_, rfl, h⟩ := hp
  refine W.eq (g2 := F0 m 6 ls [.int x29_]) rfl ?_
  refine lv_if_ne (tgt := 11) hx hb dX12_letsGo_6 (by decide) (fun c30_ => ?_) (fun c30_ => ?_)
  · replace h := h.1 c30_
    refine lv_bipush (v := 16) hx hb dX12_letsGo_11 (by decide) ?_
    refine lv_iload_n hx hb dX12_letsGo_13 rfl (lv_at hl 1 rfl) ?_
    refine lv_imul hx hb dX12_letsGo_14 ?_
    refine lv_iload_n hx hb dX12_letsGo_15 rfl (lv_at hl 2 rfl) ?_
    refine lv_iadd hx hb dX12_letsGo_16 ?_
    refine lv_istore_n (i := 3) (lv' := [(3, .int (((16 : Int32) * x1) + x2)), (0, .ref a0), (1, .int x1), (2, .int x2)]) hx hb dX12_letsGo_17 rfl hl (by decide) (by first | rfl | simp [q_cat, q_catI, q_catJ, q_catR]) (fun ls hl => ?_)
    refine lv_aload_n hx hb dX12_letsGo_18 rfl (lv_at hl 1 rfl) ?_
    obtain ⟨k31_, h⟩ := h
    refine q_getP X Y kX12 67 rfl fl_X12_149 k31_ rfl dX12_letsGo_19 ?_
    refine lv_iload_n hx hb dX12_letsGo_22 rfl (lv_at hl 0 rfl) ?_
    obtain ⟨a32_, e33_, h⟩ := h
    refine q_nn [.int (((16 : Int32) * x1) + x2)] e33_ ?_
    obtain ⟨k34_, h⟩ := h
    obtain ⟨i35_, h⟩ := h
    refine q_ild X Y k34_ i35_ dX12_letsGo_23 ?_
    refine lv_iconst (v := 2) hx hb dX12_letsGo_24 (by decide) ?_
    refine lv_icmp_ne (tgt := 43) hx hb dX12_letsGo_25 (by decide) (fun c36_ => ?_) (fun c36_ => ?_)
    · replace h := h.1 c36_
      exact cb_X12_letsGo_43 X Y (lv_sub hl [1, 0] rfl) h
    · replace h := h.2 c36_
      refine lv_aload_n hx hb dX12_letsGo_28 rfl (lv_at hl 1 rfl) ?_
      refine q_getP X Y kX12 78 rfl fl_X12_182 k31_ rfl dX12_letsGo_29 ?_
      refine lv_iload_n hx hb dX12_letsGo_32 rfl (lv_at hl 0 rfl) ?_
      obtain ⟨a37_, e38_, h⟩ := h
      refine q_nn [.int (((16 : Int32) * x1) + x2)] e38_ ?_
      obtain ⟨k39_, h⟩ := h
      obtain ⟨i40_, h⟩ := h
      refine q_ild X Y k39_ i40_ dX12_letsGo_33 ?_
      refine lv_bipush (v := 8) hx hb dX12_letsGo_34 (by decide) ?_
      refine lv_icmp_ne (tgt := 43) hx hb dX12_letsGo_36 (by decide) (fun c41_ => ?_) (fun c41_ => ?_)
      · replace h := h.1 c41_
        exact cb_X12_letsGo_43 X Y (lv_sub hl [1, 0] rfl) h
      · replace h := h.2 c41_
        refine lv_iconst (v := 1) hx hb dX12_letsGo_39 (by decide) ?_
        refine lv_goto (tgt := 44) hx hb dX12_letsGo_40 (by decide) ?_
        exact cb_X12_letsGo_44 X Y (lv_sub hl [1, 0] rfl) h
  · replace h := h.2 c30_
    refine lv_iconst (v := 1) hx hb dX12_letsGo_9 (by decide) ?_
    exact q_iret X Y rfl (Nat.le_refl _) (Nat.le_refl _) h dX12_letsGo_10
-- X12_ofOthers
theorem ml_X12_648 : Cond.methodLink RX12 648 yX12_letsGo ∈ q_G := q_tb (i := 2457) (by decide +kernel) (by decide +kernel)
theorem mt_X12_letsGo : q_Mt yX12_letsGo cX12_letsGo 6 (some .int) 2 := ⟨q_tb (i := 2460) (by decide +kernel) (by decide +kernel), q_tb (i := 11) (by decide +kernel) (by decide +kernel), by decide +kernel, by decide +kernel, by decide +kernel⟩
theorem mi_X12_letsGo : Cond.instanceMethod yX12_letsGo ∈ q_G ∧ Cond.selects yX12_letsGo.cls yX12_letsGo yX12_letsGo ∈ q_G := ⟨q_tb (i := 2459) (by decide +kernel) (by decide +kernel), q_tp (i := 170) (q := (yX12_letsGo, 114)) (by decide +kernel) (by decide +kernel)⟩
theorem ml_X12_645 : Cond.methodLink RX12 645 yX12_holds ∈ q_G := q_tb (i := 2453) (by decide +kernel) (by decide +kernel)
theorem mt_X12_holds : q_Mt yX12_holds cX12_holds 5 (some .int) 3 := ⟨q_tb (i := 2456) (by decide +kernel) (by decide +kernel), q_tb (i := 11) (by decide +kernel) (by decide +kernel), by decide +kernel, by decide +kernel, by decide +kernel⟩
theorem mi_X12_holds : Cond.instanceMethod yX12_holds ∈ q_G ∧ Cond.selects yX12_holds.cls yX12_holds yX12_holds ∈ q_G := ⟨q_tb (i := 2455) (by decide +kernel) (by decide +kernel), q_tp (i := 169) (q := (yX12_holds, 114)) (by decide +kernel) (by decide +kernel)⟩
theorem dX12_ofOthers_0 : decode cX12_ofOthers 0 = .ok (.iload_n 1, 1) := by decide +kernel
theorem dX12_ofOthers_1 : decode cX12_ofOthers 1 = .ok (.tableswitch 260 26 30 #[35, 68, 77, 85, 166], 35) := by decide +kernel
theorem dX12_ofOthers_36 : decode cX12_ofOthers 36 = .ok (.aload_n 0, 1) := by decide +kernel
theorem dX12_ofOthers_37 : decode cX12_ofOthers 37 = .ok (.iload 4, 2) := by decide +kernel
theorem dX12_ofOthers_39 : decode cX12_ofOthers 39 = .ok (.invokevirtual 619, 3) := by decide +kernel
theorem dX12_ofOthers_42 : decode cX12_ofOthers 42 = .ok (.ifCond .ne 5, 3) := by decide +kernel
theorem dX12_ofOthers_45 : decode cX12_ofOthers 45 = .ok (.iconst 1, 1) := by decide +kernel
theorem dX12_ofOthers_46 : decode cX12_ofOthers 46 = .ok (.ireturn, 1) := by decide +kernel
theorem dX12_ofOthers_47 : decode cX12_ofOthers 47 = .ok (.aload_n 0, 1) := by decide +kernel
theorem dX12_ofOthers_48 : decode cX12_ofOthers 48 = .ok (.getfield 69, 3) := by decide +kernel
theorem dX12_ofOthers_51 : decode cX12_ofOthers 51 = .ok (.iload_n 3, 1) := by decide +kernel
theorem dX12_ofOthers_52 : decode cX12_ofOthers 52 = .ok (.iaload, 1) := by decide +kernel
theorem dX12_ofOthers_53 : decode cX12_ofOthers 53 = .ok (.ifCond .le 5, 3) := by decide +kernel
theorem dX12_ofOthers_56 : decode cX12_ofOthers 56 = .ok (.iconst 3, 1) := by decide +kernel
theorem dX12_ofOthers_57 : decode cX12_ofOthers 57 = .ok (.ireturn, 1) := by decide +kernel
theorem dX12_ofOthers_58 : decode cX12_ofOthers 58 = .ok (.aload_n 0, 1) := by decide +kernel
theorem dX12_ofOthers_59 : decode cX12_ofOthers 59 = .ok (.iload_n 3, 1) := by decide +kernel
theorem dX12_ofOthers_60 : decode cX12_ofOthers 60 = .ok (.bipush 8, 2) := by decide +kernel
theorem dX12_ofOthers_62 : decode cX12_ofOthers 62 = .ok (.iload_n 3, 1) := by decide +kernel
theorem dX12_ofOthers_63 : decode cX12_ofOthers 63 = .ok (.iload 4, 2) := by decide +kernel
theorem dX12_ofOthers_65 : decode cX12_ofOthers 65 = .ok (.invokevirtual 622, 3) := by decide +kernel
theorem dX12_ofOthers_68 : decode cX12_ofOthers 68 = .ok (.ireturn, 1) := by decide +kernel
theorem dX12_ofOthers_69 : decode cX12_ofOthers 69 = .ok (.aload_n 0, 1) := by decide +kernel
theorem dX12_ofOthers_70 : decode cX12_ofOthers 70 = .ok (.iload_n 2, 1) := by decide +kernel
theorem dX12_ofOthers_71 : decode cX12_ofOthers 71 = .ok (.iload_n 3, 1) := by decide +kernel
theorem dX12_ofOthers_72 : decode cX12_ofOthers 72 = .ok (.iload 4, 2) := by decide +kernel
theorem dX12_ofOthers_74 : decode cX12_ofOthers 74 = .ok (.invokevirtual 645, 3) := by decide +kernel
theorem dX12_ofOthers_77 : decode cX12_ofOthers 77 = .ok (.ireturn, 1) := by decide +kernel
theorem dX12_ofOthers_78 : decode cX12_ofOthers 78 = .ok (.aload_n 0, 1) := by decide +kernel
theorem dX12_ofOthers_79 : decode cX12_ofOthers 79 = .ok (.iload_n 2, 1) := by decide +kernel
theorem dX12_ofOthers_80 : decode cX12_ofOthers 80 = .ok (.iload 4, 2) := by decide +kernel
theorem dX12_ofOthers_82 : decode cX12_ofOthers 82 = .ok (.invokevirtual 648, 3) := by decide +kernel
theorem dX12_ofOthers_85 : decode cX12_ofOthers 85 = .ok (.ireturn, 1) := by decide +kernel
theorem dX12_ofOthers_86 : decode cX12_ofOthers 86 = .ok (.iload 4, 2) := by decide +kernel
theorem dX12_ofOthers_88 : decode cX12_ofOthers 88 = .ok (.iconst 1, 1) := by decide +kernel
theorem dX12_ofOthers_89 : decode cX12_ofOthers 89 = .ok (.if_icmp .lt 11, 3) := by decide +kernel
theorem dX12_ofOthers_92 : decode cX12_ofOthers 92 = .ok (.iload 4, 2) := by decide +kernel
theorem dX12_ofOthers_94 : decode cX12_ofOthers 94 = .ok (.ldc_w 401, 3) := by decide +kernel
theorem dX12_ofOthers_97 : decode cX12_ofOthers 97 = .ok (.if_icmp .le 5, 3) := by decide +kernel
theorem dX12_ofOthers_100 : decode cX12_ofOthers 100 = .ok (.iconst 1, 1) := by decide +kernel
theorem dX12_ofOthers_101 : decode cX12_ofOthers 101 = .ok (.ireturn, 1) := by decide +kernel
theorem dX12_ofOthers_102 : decode cX12_ofOthers 102 = .ok (.aload_n 0, 1) := by decide +kernel
theorem dX12_ofOthers_103 : decode cX12_ofOthers 103 = .ok (.getfield 72, 3) := by decide +kernel
theorem dX12_ofOthers_106 : decode cX12_ofOthers 106 = .ok (.iload_n 3, 1) := by decide +kernel
theorem dX12_ofOthers_107 : decode cX12_ofOthers 107 = .ok (.iaload, 1) := by decide +kernel
theorem dX12_ofOthers_108 : decode cX12_ofOthers 108 = .ok (.ifCond .eq 35, 3) := by decide +kernel
theorem dX12_ofOthers_111 : decode cX12_ofOthers 111 = .ok (.aload_n 0, 1) := by decide +kernel
theorem dX12_ofOthers_112 : decode cX12_ofOthers 112 = .ok (.getfield 69, 3) := by decide +kernel
theorem dX12_ofOthers_115 : decode cX12_ofOthers 115 = .ok (.iload_n 3, 1) := by decide +kernel
theorem dX12_ofOthers_116 : decode cX12_ofOthers 116 = .ok (.iaload, 1) := by decide +kernel
theorem dX12_ofOthers_117 : decode cX12_ofOthers 117 = .ok (.ifCond .le 28, 3) := by decide +kernel
theorem dX12_ofOthers_120 : decode cX12_ofOthers 120 = .ok (.aload_n 0, 1) := by decide +kernel
theorem dX12_ofOthers_121 : decode cX12_ofOthers 121 = .ok (.getfield 453, 3) := by decide +kernel
theorem dX12_ofOthers_124 : decode cX12_ofOthers 124 = .ok (.iload 4, 2) := by decide +kernel
theorem dX12_ofOthers_126 : decode cX12_ofOthers 126 = .ok (.iadd, 1) := by decide +kernel
theorem dX12_ofOthers_127 : decode cX12_ofOthers 127 = .ok (.aload_n 0, 1) := by decide +kernel
theorem dX12_ofOthers_128 : decode cX12_ofOthers 128 = .ok (.getfield 167, 3) := by decide +kernel
theorem dX12_ofOthers_131 : decode cX12_ofOthers 131 = .ok (.iload_n 3, 1) := by decide +kernel
theorem dX12_ofOthers_132 : decode cX12_ofOthers 132 = .ok (.iaload, 1) := by decide +kernel
theorem dX12_ofOthers_133 : decode cX12_ofOthers 133 = .ok (.aload_n 0, 1) := by decide +kernel
theorem dX12_ofOthers_134 : decode cX12_ofOthers 134 = .ok (.getfield 69, 3) := by decide +kernel
theorem dX12_ofOthers_137 : decode cX12_ofOthers 137 = .ok (.iload_n 3, 1) := by decide +kernel
theorem dX12_ofOthers_138 : decode cX12_ofOthers 138 = .ok (.iaload, 1) := by decide +kernel
theorem dX12_ofOthers_139 : decode cX12_ofOthers 139 = .ok (.iadd, 1) := by decide +kernel
theorem dX12_ofOthers_140 : decode cX12_ofOthers 140 = .ok (.if_icmp .le 5, 3) := by decide +kernel
theorem dX12_ofOthers_143 : decode cX12_ofOthers 143 = .ok (.iconst 3, 1) := by decide +kernel
theorem dX12_ofOthers_144 : decode cX12_ofOthers 144 = .ok (.ireturn, 1) := by decide +kernel
theorem dX12_ofOthers_145 : decode cX12_ofOthers 145 = .ok (.aload_n 0, 1) := by decide +kernel
theorem dX12_ofOthers_146 : decode cX12_ofOthers 146 = .ok (.getfield 158, 3) := by decide +kernel
theorem dX12_ofOthers_149 : decode cX12_ofOthers 149 = .ok (.iload_n 3, 1) := by decide +kernel
theorem dX12_ofOthers_150 : decode cX12_ofOthers 150 = .ok (.iconst 1, 1) := by decide +kernel
theorem dX12_ofOthers_151 : decode cX12_ofOthers 151 = .ok (.bastore, 1) := by decide +kernel
theorem dX12_ofOthers_152 : decode cX12_ofOthers 152 = .ok (.aload_n 0, 1) := by decide +kernel
theorem dX12_ofOthers_153 : decode cX12_ofOthers 153 = .ok (.getfield 161, 3) := by decide +kernel
theorem dX12_ofOthers_156 : decode cX12_ofOthers 156 = .ok (.iload_n 3, 1) := by decide +kernel
theorem dX12_ofOthers_157 : decode cX12_ofOthers 157 = .ok (.aload_n 0, 1) := by decide +kernel
theorem dX12_ofOthers_158 : decode cX12_ofOthers 158 = .ok (.getfield 453, 3) := by decide +kernel
theorem dX12_ofOthers_161 : decode cX12_ofOthers 161 = .ok (.iload 4, 2) := by decide +kernel
theorem dX12_ofOthers_163 : decode cX12_ofOthers 163 = .ok (.iadd, 1) := by decide +kernel
theorem dX12_ofOthers_164 : decode cX12_ofOthers 164 = .ok (.iastore, 1) := by decide +kernel
theorem dX12_ofOthers_165 : decode cX12_ofOthers 165 = .ok (.iconst 0, 1) := by decide +kernel
theorem dX12_ofOthers_166 : decode cX12_ofOthers 166 = .ok (.ireturn, 1) := by decide +kernel
theorem dX12_ofOthers_167 : decode cX12_ofOthers 167 = .ok (.aload_n 0, 1) := by decide +kernel
theorem dX12_ofOthers_168 : decode cX12_ofOthers 168 = .ok (.iload_n 2, 1) := by decide +kernel
theorem dX12_ofOthers_169 : decode cX12_ofOthers 169 = .ok (.iload 4, 2) := by decide +kernel
theorem dX12_ofOthers_171 : decode cX12_ofOthers 171 = .ok (.invokevirtual 613, 3) := by decide +kernel
theorem dX12_ofOthers_174 : decode cX12_ofOthers 174 = .ok (.ifCond .ne 5, 3) := by decide +kernel
theorem dX12_ofOthers_177 : decode cX12_ofOthers 177 = .ok (.iconst 1, 1) := by decide +kernel
theorem dX12_ofOthers_178 : decode cX12_ofOthers 178 = .ok (.ireturn, 1) := by decide +kernel
theorem dX12_ofOthers_179 : decode cX12_ofOthers 179 = .ok (.bipush 16, 2) := by decide +kernel
theorem dX12_ofOthers_181 : decode cX12_ofOthers 181 = .ok (.iload_n 2, 1) := by decide +kernel
theorem dX12_ofOthers_182 : decode cX12_ofOthers 182 = .ok (.imul, 1) := by decide +kernel
theorem dX12_ofOthers_183 : decode cX12_ofOthers 183 = .ok (.iload 4, 2) := by decide +kernel
theorem dX12_ofOthers_185 : decode cX12_ofOthers 185 = .ok (.iadd, 1) := by decide +kernel
theorem dX12_ofOthers_186 : decode cX12_ofOthers 186 = .ok (.istore 6, 2) := by decide +kernel
theorem dX12_ofOthers_188 : decode cX12_ofOthers 188 = .ok (.aload_n 0, 1) := by decide +kernel
theorem dX12_ofOthers_189 : decode cX12_ofOthers 189 = .ok (.getfield 179, 3) := by decide +kernel
theorem dX12_ofOthers_192 : decode cX12_ofOthers 192 = .ok (.bipush 32, 2) := by decide +kernel
theorem dX12_ofOthers_194 : decode cX12_ofOthers 194 = .ok (.iload_n 3, 1) := by decide +kernel
theorem dX12_ofOthers_195 : decode cX12_ofOthers 195 = .ok (.imul, 1) := by decide +kernel
theorem dX12_ofOthers_196 : decode cX12_ofOthers 196 = .ok (.bipush 11, 2) := by decide +kernel
theorem dX12_ofOthers_198 : decode cX12_ofOthers 198 = .ok (.iadd, 1) := by decide +kernel
theorem dX12_ofOthers_199 : decode cX12_ofOthers 199 = .ok (.aload_n 0, 1) := by decide +kernel
theorem dX12_ofOthers_200 : decode cX12_ofOthers 200 = .ok (.getfield 149, 3) := by decide +kernel
theorem dX12_ofOthers_203 : decode cX12_ofOthers 203 = .ok (.iload 6, 2) := by decide +kernel
theorem dX12_ofOthers_205 : decode cX12_ofOthers 205 = .ok (.iaload, 1) := by decide +kernel
theorem dX12_ofOthers_206 : decode cX12_ofOthers 206 = .ok (.iastore, 1) := by decide +kernel
theorem dX12_ofOthers_207 : decode cX12_ofOthers 207 = .ok (.aload_n 0, 1) := by decide +kernel
theorem dX12_ofOthers_208 : decode cX12_ofOthers 208 = .ok (.getfield 179, 3) := by decide +kernel
theorem dX12_ofOthers_211 : decode cX12_ofOthers 211 = .ok (.bipush 32, 2) := by decide +kernel
theorem dX12_ofOthers_213 : decode cX12_ofOthers 213 = .ok (.iload_n 3, 1) := by decide +kernel
theorem dX12_ofOthers_214 : decode cX12_ofOthers 214 = .ok (.imul, 1) := by decide +kernel
theorem dX12_ofOthers_215 : decode cX12_ofOthers 215 = .ok (.bipush 12, 2) := by decide +kernel
theorem dX12_ofOthers_217 : decode cX12_ofOthers 217 = .ok (.iadd, 1) := by decide +kernel
theorem dX12_ofOthers_218 : decode cX12_ofOthers 218 = .ok (.aload_n 0, 1) := by decide +kernel
theorem dX12_ofOthers_219 : decode cX12_ofOthers 219 = .ok (.getfield 155, 3) := by decide +kernel
theorem dX12_ofOthers_222 : decode cX12_ofOthers 222 = .ok (.iload 6, 2) := by decide +kernel
theorem dX12_ofOthers_224 : decode cX12_ofOthers 224 = .ok (.iaload, 1) := by decide +kernel
theorem dX12_ofOthers_225 : decode cX12_ofOthers 225 = .ok (.iastore, 1) := by decide +kernel
theorem dX12_ofOthers_226 : decode cX12_ofOthers 226 = .ok (.aload_n 0, 1) := by decide +kernel
theorem dX12_ofOthers_227 : decode cX12_ofOthers 227 = .ok (.getfield 179, 3) := by decide +kernel
theorem dX12_ofOthers_230 : decode cX12_ofOthers 230 = .ok (.bipush 32, 2) := by decide +kernel
theorem dX12_ofOthers_232 : decode cX12_ofOthers 232 = .ok (.iload_n 3, 1) := by decide +kernel
theorem dX12_ofOthers_233 : decode cX12_ofOthers 233 = .ok (.imul, 1) := by decide +kernel
theorem dX12_ofOthers_234 : decode cX12_ofOthers 234 = .ok (.bipush 13, 2) := by decide +kernel
theorem dX12_ofOthers_236 : decode cX12_ofOthers 236 = .ok (.iadd, 1) := by decide +kernel
theorem dX12_ofOthers_237 : decode cX12_ofOthers 237 = .ok (.aload_n 0, 1) := by decide +kernel
theorem dX12_ofOthers_238 : decode cX12_ofOthers 238 = .ok (.getfield 158, 3) := by decide +kernel
theorem dX12_ofOthers_241 : decode cX12_ofOthers 241 = .ok (.iload 6, 2) := by decide +kernel
theorem dX12_ofOthers_243 : decode cX12_ofOthers 243 = .ok (.baload, 1) := by decide +kernel
theorem dX12_ofOthers_244 : decode cX12_ofOthers 244 = .ok (.ifCond .eq 13, 3) := by decide +kernel
theorem dX12_ofOthers_247 : decode cX12_ofOthers 247 = .ok (.aload_n 0, 1) := by decide +kernel
theorem dX12_ofOthers_248 : decode cX12_ofOthers 248 = .ok (.getfield 161, 3) := by decide +kernel
theorem dX12_ofOthers_251 : decode cX12_ofOthers 251 = .ok (.iload 6, 2) := by decide +kernel
theorem dX12_ofOthers_253 : decode cX12_ofOthers 253 = .ok (.iaload, 1) := by decide +kernel
theorem dX12_ofOthers_254 : decode cX12_ofOthers 254 = .ok (.goto 4, 3) := by decide +kernel
theorem dX12_ofOthers_257 : decode cX12_ofOthers 257 = .ok (.iconst (-1), 1) := by decide +kernel
theorem dX12_ofOthers_258 : decode cX12_ofOthers 258 = .ok (.iastore, 1) := by decide +kernel
theorem dX12_ofOthers_259 : decode cX12_ofOthers 259 = .ok (.iconst 0, 1) := by decide +kernel
theorem dX12_ofOthers_260 : decode cX12_ofOthers 260 = .ok (.ireturn, 1) := by decide +kernel
theorem dX12_ofOthers_261 : decode cX12_ofOthers 261 = .ok (.iload_n 3, 1) := by decide +kernel
theorem dX12_ofOthers_262 : decode cX12_ofOthers 262 = .ok (.bipush 16, 2) := by decide +kernel
theorem dX12_ofOthers_264 : decode cX12_ofOthers 264 = .ok (.irem, 1) := by decide +kernel
theorem dX12_ofOthers_265 : decode cX12_ofOthers 265 = .ok (.ireturn, 1) := by decide +kernel
def wb_X12_ofOthers_261  (S : q_S) (x3 : Int32) (Q : Option Value → q_S → Prop) : Prop := Q (some (.int (x3 - x3 / (16 : Int32) * (16 : Int32)))) S
set_option maxHeartbeats 4000000 in
set_option maxRecDepth 100000 in
theorem cb_X12_ofOthers_261 {p : Program} {l : Launch} {e : Env} {s : State} {m : MethodId} {args : Array Value} {below : List Frame} {meth : Method} {c : Code} {D : va_G} {cy : Nat → ClassId} {lo : Nat}  {S : q_S} {x3 : Int32} {Q : Option Value → q_S → Prop} {H : Heap} {locs : List Loc} {ls : Array Slot} (X : q_X p s m args meth c RX12 cX12_ofOthers 7 (some .int) D cy lo)  (Y : q_Y D cy lo s S H locs) (hl : lv_has ls 7 [(3, .int x3)]) (h : wb_X12_ofOthers_261 S x3 Q) : W p l e ({ frames := 3, cells := 0, slots := 0, locals := 68 } : Room) s m args below meth c H locs 0 0 (MQ below (q_Q D cy lo Q) args s 0 0 (fun q => lo ≤ q)) (F0 m 261 ls []) := by
  have hx := X.1
  have hb := X.2.1
  unfold wb_X12_ofOthers_261 at h
  refine lv_iload_n hx hb dX12_ofOthers_261 rfl (lv_at hl 0 rfl) ?_
  refine lv_bipush (v := 16) hx hb dX12_ofOthers_262 (by decide) ?_
  refine lv_irem hx hb dX12_ofOthers_264 (by decide) ?_
  exact q_iret X Y rfl (Nat.le_refl _) (Nat.le_refl _) h dX12_ofOthers_265
def wb_X12_ofOthers_258  (S : q_S) (rs0 : Option Nat) (xs1 : Int32) (xs2 : Int32) (Q : Option Value → q_S → Prop) : Prop := ∃ a1_ : Nat, rs0 = some a1_ ∧ (q_K S a1_ = 21 ∧ (vp_in xs1 (q_N S a1_) ∧ (Q (some (.int (0 : Int32))) (qs_A S a1_ xs1.toNatClampNeg xs2))))
set_option maxHeartbeats 4000000 in
set_option maxRecDepth 100000 in
theorem cb_X12_ofOthers_258 {p : Program} {l : Launch} {e : Env} {s : State} {m : MethodId} {args : Array Value} {below : List Frame} {meth : Method} {c : Code} {D : va_G} {cy : Nat → ClassId} {lo : Nat}  {S : q_S} {rs0 : Option Nat} {xs1 : Int32} {xs2 : Int32} {Q : Option Value → q_S → Prop} {H : Heap} {locs : List Loc} {ls : Array Slot} (X : q_X p s m args meth c RX12 cX12_ofOthers 7 (some .int) D cy lo)  (Y : q_Y D cy lo s S H locs) (hl : lv_has ls 7 []) (h : wb_X12_ofOthers_258 S rs0 xs1 xs2 Q) : W p l e ({ frames := 3, cells := 0, slots := 0, locals := 68 } : Room) s m args below meth c H locs 0 0 (MQ below (q_Q D cy lo Q) args s 0 0 (fun q => lo ≤ q)) (F0 m 258 ls [.int xs2, .int xs1, va_rf rs0]) := by
  have hx := X.1
  have hb := X.2.1
  unfold wb_X12_ofOthers_258 at h
  obtain ⟨a1_, e2_, h⟩ := h
  refine q_nn [.int xs2, .int xs1] e2_ ?_
  obtain ⟨k3_, h⟩ := h
  obtain ⟨i4_, h⟩ := h
  refine q_ist X Y k3_ i4_ dX12_ofOthers_258 (fun H locs Y => ?_)
  refine lv_iconst (v := 0) hx hb dX12_ofOthers_259 (by decide) ?_
  exact q_iret X Y rfl (Nat.le_refl _) (Nat.le_refl _) h dX12_ofOthers_260
def wb_X12_ofOthers_167  (S : q_S) (a0 : Nat) (x2 : Int32) (x3 : Int32) (x4 : Int32) (Q : Option Value → q_S → Prop) : Prop := q_K S a0 = 13 ∧ (wm_X12_isProcess S a0 x2 x4 (fun r6_ S7_ => ∃ x8_ : Int32, r6_ = some (.int x8_) ∧ (((¬ x8_ = 0 → (q_K S7_ a0 = 13 ∧ (∃ a11_ : Nat, (q_P S7_ 2467 a0) = some a11_ ∧ (q_K S7_ a11_ = 21 ∧ (vp_in (((16 : Int32) * x2) + x4) (q_N S7_ a11_) ∧ (∃ a15_ : Nat, (q_P S7_ 2477 a0) = some a15_ ∧ (q_K S7_ a15_ = 21 ∧ (vp_in (((32 : Int32) * x3) + (11 : Int32)) (q_N S7_ a15_) ∧ (∃ a19_ : Nat, (q_P (qs_A S7_ a15_ (((32 : Int32) * x3) + (11 : Int32)).toNatClampNeg (q_A S7_ a11_ (((16 : Int32) * x2) + x4).toNatClampNeg)) 2469 a0) = some a19_ ∧ (q_K (qs_A S7_ a15_ (((32 : Int32) * x3) + (11 : Int32)).toNatClampNeg (q_A S7_ a11_ (((16 : Int32) * x2) + x4).toNatClampNeg)) a19_ = 21 ∧ (vp_in (((16 : Int32) * x2) + x4) (q_N (qs_A S7_ a15_ (((32 : Int32) * x3) + (11 : Int32)).toNatClampNeg (q_A S7_ a11_ (((16 : Int32) * x2) + x4).toNatClampNeg)) a19_) ∧ (∃ a23_ : Nat, (q_P (qs_A S7_ a15_ (((32 : Int32) * x3) + (11 : Int32)).toNatClampNeg (q_A S7_ a11_ (((16 : Int32) * x2) + x4).toNatClampNeg)) 2477 a0) = some a23_ ∧ (q_K (qs_A S7_ a15_ (((32 : Int32) * x3) + (11 : Int32)).toNatClampNeg (q_A S7_ a11_ (((16 : Int32) * x2) + x4).toNatClampNeg)) a23_ = 21 ∧ (vp_in (((32 : Int32) * x3) + (12 : Int32)) (q_N (qs_A S7_ a15_ (((32 : Int32) * x3) + (11 : Int32)).toNatClampNeg (q_A S7_ a11_ (((16 : Int32) * x2) + x4).toNatClampNeg)) a23_) ∧ (∀ S27_ : q_S, S27_ = (qs_A (qs_A S7_ a15_ (((32 : Int32) * x3) + (11 : Int32)).toNatClampNeg (q_A S7_ a11_ (((16 : Int32) * x2) + x4).toNatClampNeg)) a23_ (((32 : Int32) * x3) + (12 : Int32)).toNatClampNeg (q_A (qs_A S7_ a15_ (((32 : Int32) * x3) + (11 : Int32)).toNatClampNeg (q_A S7_ a11_ (((16 : Int32) * x2) + x4).toNatClampNeg)) a19_ (((16 : Int32) * x2) + x4).toNatClampNeg)) → (∃ a28_ : Nat, (q_P S27_ 2470 a0) = some a28_ ∧ (q_K S27_ a28_ = 22 ∧ (vp_in (((16 : Int32) * x2) + x4) (q_N S27_ a28_) ∧ ((((q_A S27_ a28_ (((16 : Int32) * x2) + x4).toNatClampNeg) = 0 → (wb_X12_ofOthers_258 S27_ (q_P S27_ 2477 a0) (((32 : Int32) * x3) + (13 : Int32)) (-1 : Int32) Q)) ∧ (¬ (q_A S27_ a28_ (((16 : Int32) * x2) + x4).toNatClampNeg) = 0 → (∃ a33_ : Nat, (q_P S27_ 2471 a0) = some a33_ ∧ (q_K S27_ a33_ = 21 ∧ (vp_in (((16 : Int32) * x2) + x4) (q_N S27_ a33_) ∧ (wb_X12_ofOthers_258 S27_ (q_P S27_ 2477 a0) (((32 : Int32) * x3) + (13 : Int32)) (q_A S27_ a33_ (((16 : Int32) * x2) + x4).toNatClampNeg) Q))))))))))))))))))))))))) ∧ (x8_ = 0 → (Q (some (.int (1 : Int32))) S7_))))))
set_option maxHeartbeats 4000000 in
set_option maxRecDepth 100000 in
theorem cb_X12_ofOthers_167 {p : Program} {l : Launch} {e : Env} {s : State} {m : MethodId} {args : Array Value} {below : List Frame} {meth : Method} {c : Code} {D : va_G} {cy : Nat → ClassId} {lo : Nat}  {S : q_S} {a0 : Nat} {x2 : Int32} {x3 : Int32} {x4 : Int32} {Q : Option Value → q_S → Prop} {H : Heap} {locs : List Loc} {ls : Array Slot} (X : q_X p s m args meth c RX12 cX12_ofOthers 7 (some .int) D cy lo)  (Y : q_Y D cy lo s S H locs) (hl : lv_has ls 7 [(0, .ref a0), (2, .int x2), (3, .int x3), (4, .int x4)]) (h : wb_X12_ofOthers_167 S a0 x2 x3 x4 Q) : W p l e ({ frames := 3, cells := 0, slots := 0, locals := 68 } : Room) s m args below meth c H locs 0 0 (MQ below (q_Q D cy lo Q) args s 0 0 (fun q => lo ≤ q)) (F0 m 167 ls []) := by
  have hx := X.1
  have hb := X.2.1
  unfold wb_X12_ofOthers_167 at h
  refine lv_aload_n hx hb dX12_ofOthers_167 rfl (lv_at hl 0 rfl) ?_
  refine lv_iload_n hx hb dX12_ofOthers_168 rfl (lv_at hl 1 rfl) ?_
  refine lv_iload hx hb dX12_ofOthers_169 (lv_at hl 3 rfl) ?_
  obtain ⟨k5_, h⟩ := h
  refine q_callV X Y hl (cm_X12_isProcess h) mt_X12_isProcess mi_X12_isProcess ml_X12_613 (ci := 12) rfl k5_ (by decide) rfl rfl (by first | exact Nat.le_of_ble_eq_true rfl | simp [q_cat, q_catI, q_catJ, q_catR]) ⟨Nat.le_of_ble_eq_true rfl, Nat.le_of_ble_eq_true rfl⟩ ⟨Nat.le_of_ble_eq_true rfl, Nat.le_of_ble_eq_true rfl⟩ dX12_ofOthers_171 (fun r6_ S7_ H locs hp Y => ?_)
  obtain ⟨x8_, rfl, h⟩ := hp
  refine W.eq (g2 := F0 m 174 ls [.int x8_]) rfl ?_
  refine lv_if_ne (tgt := 179) hx hb dX12_ofOthers_174 (by decide) (fun c9_ => ?_) (fun c9_ => ?_)
  · replace h := h.1 c9_
    refine lv_bipush (v := 16) hx hb dX12_ofOthers_179 (by decide) ?_
    refine lv_iload_n hx hb dX12_ofOthers_181 rfl (lv_at hl 1 rfl) ?_
    refine lv_imul hx hb dX12_ofOthers_182 ?_
    refine lv_iload hx hb dX12_ofOthers_183 (lv_at hl 3 rfl) ?_
    refine lv_iadd hx hb dX12_ofOthers_185 ?_
    refine lv_istore (i := 6) (lv' := [(6, .int (((16 : Int32) * x2) + x4)), (0, .ref a0), (2, .int x2), (3, .int x3), (4, .int x4)]) hx hb dX12_ofOthers_186 hl (by decide) (by first | rfl | simp [q_cat, q_catI, q_catJ, q_catR]) (fun ls hl => ?_)
    refine lv_aload_n hx hb dX12_ofOthers_188 rfl (lv_at hl 1 rfl) ?_
    obtain ⟨k10_, h⟩ := h
    refine q_getP X Y kX12 77 rfl fl_X12_179 k10_ rfl dX12_ofOthers_189 ?_
    refine lv_bipush (v := 32) hx hb dX12_ofOthers_192 (by decide) ?_
    refine lv_iload_n hx hb dX12_ofOthers_194 rfl (lv_at hl 3 rfl) ?_
    refine lv_imul hx hb dX12_ofOthers_195 ?_
    refine lv_bipush (v := 11) hx hb dX12_ofOthers_196 (by decide) ?_
    refine lv_iadd hx hb dX12_ofOthers_198 ?_
    refine lv_aload_n hx hb dX12_ofOthers_199 rfl (lv_at hl 1 rfl) ?_
    refine q_getP X Y kX12 67 rfl fl_X12_149 k10_ rfl dX12_ofOthers_200 ?_
    refine lv_iload hx hb dX12_ofOthers_203 (lv_at hl 0 rfl) ?_
    obtain ⟨a11_, e12_, h⟩ := h
    refine q_nn [.int (((16 : Int32) * x2) + x4)] e12_ ?_
    obtain ⟨k13_, h⟩ := h
    obtain ⟨i14_, h⟩ := h
    refine q_ild X Y k13_ i14_ dX12_ofOthers_205 ?_
    obtain ⟨a15_, e16_, h⟩ := h
    refine q_nn [.int (q_A S7_ a11_ (((16 : Int32) * x2) + x4).toNatClampNeg), .int (((32 : Int32) * x3) + (11 : Int32))] e16_ ?_
    obtain ⟨k17_, h⟩ := h
    obtain ⟨i18_, h⟩ := h
    refine q_ist X Y k17_ i18_ dX12_ofOthers_206 (fun H locs Y => ?_)
    refine lv_aload_n hx hb dX12_ofOthers_207 rfl (lv_at hl 1 rfl) ?_
    refine q_getP X Y kX12 77 rfl fl_X12_179 k10_ rfl dX12_ofOthers_208 ?_
    refine lv_bipush (v := 32) hx hb dX12_ofOthers_211 (by decide) ?_
    refine lv_iload_n hx hb dX12_ofOthers_213 rfl (lv_at hl 3 rfl) ?_
    refine lv_imul hx hb dX12_ofOthers_214 ?_
    refine lv_bipush (v := 12) hx hb dX12_ofOthers_215 (by decide) ?_
    refine lv_iadd hx hb dX12_ofOthers_217 ?_
    refine lv_aload_n hx hb dX12_ofOthers_218 rfl (lv_at hl 1 rfl) ?_
    refine q_getP X Y kX12 69 rfl fl_X12_155 k10_ rfl dX12_ofOthers_219 ?_
    refine lv_iload hx hb dX12_ofOthers_222 (lv_at hl 0 rfl) ?_
    obtain ⟨a19_, e20_, h⟩ := h
    refine q_nn [.int (((16 : Int32) * x2) + x4)] e20_ ?_
    obtain ⟨k21_, h⟩ := h
    obtain ⟨i22_, h⟩ := h
    refine q_ild X Y k21_ i22_ dX12_ofOthers_224 ?_
    obtain ⟨a23_, e24_, h⟩ := h
    refine q_nn [.int (q_A (qs_A S7_ a15_ (((32 : Int32) * x3) + (11 : Int32)).toNatClampNeg (q_A S7_ a11_ (((16 : Int32) * x2) + x4).toNatClampNeg)) a19_ (((16 : Int32) * x2) + x4).toNatClampNeg), .int (((32 : Int32) * x3) + (12 : Int32))] e24_ ?_
    obtain ⟨k25_, h⟩ := h
    obtain ⟨i26_, h⟩ := h
    refine q_ist X Y k25_ i26_ dX12_ofOthers_225 (fun H locs Y => ?_)
    obtain ⟨S27_, gS27_⟩ : ∃ z : q_S, z = (qs_A (qs_A S7_ a15_ (((32 : Int32) * x3) + (11 : Int32)).toNatClampNeg (q_A S7_ a11_ (((16 : Int32) * x2) + x4).toNatClampNeg)) a23_ (((32 : Int32) * x3) + (12 : Int32)).toNatClampNeg (q_A (qs_A S7_ a15_ (((32 : Int32) * x3) + (11 : Int32)).toNatClampNeg (q_A S7_ a11_ (((16 : Int32) * x2) + x4).toNatClampNeg)) a19_ (((16 : Int32) * x2) + x4).toNatClampNeg)) := ⟨_, rfl⟩
    replace Y : q_Y D cy lo s S27_ H locs := by rw [gS27_]; exact Y
    replace h := h S27_ gS27_
    replace k10_ : q_K S27_ a0 = 13 := by rw [gS27_]; exact k10_
    replace k13_ : q_K S27_ a11_ = 21 := by rw [gS27_]; exact k13_
    replace k17_ : q_K S27_ a15_ = 21 := by rw [gS27_]; exact k17_
    replace k21_ : q_K S27_ a19_ = 21 := by rw [gS27_]; exact k21_
    replace k25_ : q_K S27_ a23_ = 21 := by rw [gS27_]; exact k25_
    refine lv_aload_n hx hb dX12_ofOthers_226 rfl (lv_at hl 1 rfl) ?_
    refine q_getP X Y kX12 77 rfl fl_X12_179 k10_ rfl dX12_ofOthers_227 ?_
    refine lv_bipush (v := 32) hx hb dX12_ofOthers_230 (by decide) ?_
    refine lv_iload_n hx hb dX12_ofOthers_232 rfl (lv_at hl 3 rfl) ?_
    refine lv_imul hx hb dX12_ofOthers_233 ?_
    refine lv_bipush (v := 13) hx hb dX12_ofOthers_234 (by decide) ?_
    refine lv_iadd hx hb dX12_ofOthers_236 ?_
    refine lv_aload_n hx hb dX12_ofOthers_237 rfl (lv_at hl 1 rfl) ?_
    refine q_getP X Y kX12 70 rfl fl_X12_158 k10_ rfl dX12_ofOthers_238 ?_
    refine lv_iload hx hb dX12_ofOthers_241 (lv_at hl 0 rfl) ?_
    obtain ⟨a28_, e29_, h⟩ := h
    refine q_nn [.int (((16 : Int32) * x2) + x4)] e29_ ?_
    obtain ⟨k30_, h⟩ := h
    obtain ⟨i31_, h⟩ := h
    refine q_zld X Y k30_ i31_ dX12_ofOthers_243 ?_
    refine lv_if_eq (tgt := 257) hx hb dX12_ofOthers_244 (by decide) (fun c32_ => ?_) (fun c32_ => ?_)
    · replace h := h.1 c32_
      refine lv_iconst (v := (-1)) hx hb dX12_ofOthers_257 (by decide) ?_
      exact cb_X12_ofOthers_258 X Y (lv_sub hl [] rfl) h
    · replace h := h.2 c32_
      refine lv_aload_n hx hb dX12_ofOthers_247 rfl (lv_at hl 1 rfl) ?_
      refine q_getP X Y kX12 71 rfl fl_X12_161 k10_ rfl dX12_ofOthers_248 ?_
      refine lv_iload hx hb dX12_ofOthers_251 (lv_at hl 0 rfl) ?_
      obtain ⟨a33_, e34_, h⟩ := h
      refine q_nn [.int (((16 : Int32) * x2) + x4)] e34_ ?_
      obtain ⟨k35_, h⟩ := h
      obtain ⟨i36_, h⟩ := h
      refine q_ild X Y k35_ i36_ dX12_ofOthers_253 ?_
      refine lv_goto (tgt := 258) hx hb dX12_ofOthers_254 (by decide) ?_
      exact cb_X12_ofOthers_258 X Y (lv_sub hl [] rfl) h
  · replace h := h.2 c9_
    refine lv_iconst (v := 1) hx hb dX12_ofOthers_177 (by decide) ?_
    exact q_iret X Y rfl (Nat.le_refl _) (Nat.le_refl _) h dX12_ofOthers_178
def wb_X12_ofOthers_100  (S : q_S) (Q : Option Value → q_S → Prop) : Prop := Q (some (.int (1 : Int32))) S
set_option maxHeartbeats 4000000 in
set_option maxRecDepth 100000 in
theorem cb_X12_ofOthers_100 {p : Program} {l : Launch} {e : Env} {s : State} {m : MethodId} {args : Array Value} {below : List Frame} {meth : Method} {c : Code} {D : va_G} {cy : Nat → ClassId} {lo : Nat}  {S : q_S} {Q : Option Value → q_S → Prop} {H : Heap} {locs : List Loc} {ls : Array Slot} (X : q_X p s m args meth c RX12 cX12_ofOthers 7 (some .int) D cy lo)  (Y : q_Y D cy lo s S H locs) (hl : lv_has ls 7 []) (h : wb_X12_ofOthers_100 S Q) : W p l e ({ frames := 3, cells := 0, slots := 0, locals := 68 } : Room) s m args below meth c H locs 0 0 (MQ below (q_Q D cy lo Q) args s 0 0 (fun q => lo ≤ q)) (F0 m 100 ls []) := by
  have hx := X.1
  have hb := X.2.1
  unfold wb_X12_ofOthers_100 at h
  refine lv_iconst (v := 1) hx hb dX12_ofOthers_100 (by decide) ?_
  exact q_iret X Y rfl (Nat.le_refl _) (Nat.le_refl _) h dX12_ofOthers_101
def wb_X12_ofOthers_143  (S : q_S) (Q : Option Value → q_S → Prop) : Prop := Q (some (.int (3 : Int32))) S
set_option maxHeartbeats 4000000 in
set_option maxRecDepth 100000 in
theorem cb_X12_ofOthers_143 {p : Program} {l : Launch} {e : Env} {s : State} {m : MethodId} {args : Array Value} {below : List Frame} {meth : Method} {c : Code} {D : va_G} {cy : Nat → ClassId} {lo : Nat}  {S : q_S} {Q : Option Value → q_S → Prop} {H : Heap} {locs : List Loc} {ls : Array Slot} (X : q_X p s m args meth c RX12 cX12_ofOthers 7 (some .int) D cy lo)  (Y : q_Y D cy lo s S H locs) (hl : lv_has ls 7 []) (h : wb_X12_ofOthers_143 S Q) : W p l e ({ frames := 3, cells := 0, slots := 0, locals := 68 } : Room) s m args below meth c H locs 0 0 (MQ below (q_Q D cy lo Q) args s 0 0 (fun q => lo ≤ q)) (F0 m 143 ls []) := by
  have hx := X.1
  have hb := X.2.1
  unfold wb_X12_ofOthers_143 at h
  refine lv_iconst (v := 3) hx hb dX12_ofOthers_143 (by decide) ?_
  exact q_iret X Y rfl (Nat.le_refl _) (Nat.le_refl _) h dX12_ofOthers_144
def wb_X12_ofOthers_145  (S : q_S) (a0 : Nat) (x3 : Int32) (x4 : Int32) (Q : Option Value → q_S → Prop) : Prop := q_K S a0 = 13 ∧ (∃ a38_ : Nat, (q_P S 2470 a0) = some a38_ ∧ (q_K S a38_ = 22 ∧ (vp_in x3 (q_N S a38_) ∧ (∃ a42_ : Nat, (q_P (qs_A S a38_ x3.toNatClampNeg (vp_nar .boolean (1 : Int32))) 2471 a0) = some a42_ ∧ (q_K (qs_A S a38_ x3.toNatClampNeg (vp_nar .boolean (1 : Int32))) a42_ = 21 ∧ (vp_in x3 (q_N (qs_A S a38_ x3.toNatClampNeg (vp_nar .boolean (1 : Int32))) a42_) ∧ (∀ S46_ : q_S, S46_ = (qs_A (qs_A S a38_ x3.toNatClampNeg (vp_nar .boolean (1 : Int32))) a42_ x3.toNatClampNeg ((q_I (qs_A S a38_ x3.toNatClampNeg (vp_nar .boolean (1 : Int32))) 2463 a0) + x4)) → (Q (some (.int (0 : Int32))) S46_))))))))
set_option maxHeartbeats 4000000 in
set_option maxRecDepth 100000 in
theorem cb_X12_ofOthers_145 {p : Program} {l : Launch} {e : Env} {s : State} {m : MethodId} {args : Array Value} {below : List Frame} {meth : Method} {c : Code} {D : va_G} {cy : Nat → ClassId} {lo : Nat}  {S : q_S} {a0 : Nat} {x3 : Int32} {x4 : Int32} {Q : Option Value → q_S → Prop} {H : Heap} {locs : List Loc} {ls : Array Slot} (X : q_X p s m args meth c RX12 cX12_ofOthers 7 (some .int) D cy lo)  (Y : q_Y D cy lo s S H locs) (hl : lv_has ls 7 [(0, .ref a0), (3, .int x3), (4, .int x4)]) (h : wb_X12_ofOthers_145 S a0 x3 x4 Q) : W p l e ({ frames := 3, cells := 0, slots := 0, locals := 68 } : Room) s m args below meth c H locs 0 0 (MQ below (q_Q D cy lo Q) args s 0 0 (fun q => lo ≤ q)) (F0 m 145 ls []) := by
  have hx := X.1
  have hb := X.2.1
  unfold wb_X12_ofOthers_145 at h
  refine lv_aload_n hx hb dX12_ofOthers_145 rfl (lv_at hl 0 rfl) ?_
  obtain ⟨k37_, h⟩ := h
  refine q_getP X Y kX12 70 rfl fl_X12_158 k37_ rfl dX12_ofOthers_146 ?_
  refine lv_iload_n hx hb dX12_ofOthers_149 rfl (lv_at hl 1 rfl) ?_
  refine lv_iconst (v := 1) hx hb dX12_ofOthers_150 (by decide) ?_
  obtain ⟨a38_, e39_, h⟩ := h
  refine q_nn [.int (1 : Int32), .int x3] e39_ ?_
  obtain ⟨k40_, h⟩ := h
  obtain ⟨i41_, h⟩ := h
  refine q_zst X Y k40_ i41_ dX12_ofOthers_151 (fun H locs Y => ?_)
  refine lv_aload_n hx hb dX12_ofOthers_152 rfl (lv_at hl 0 rfl) ?_
  refine q_getP X Y kX12 71 rfl fl_X12_161 k37_ rfl dX12_ofOthers_153 ?_
  refine lv_iload_n hx hb dX12_ofOthers_156 rfl (lv_at hl 1 rfl) ?_
  refine lv_aload_n hx hb dX12_ofOthers_157 rfl (lv_at hl 0 rfl) ?_
  refine q_getI X Y kX12 63 rfl fl_X12_453 k37_ dX12_ofOthers_158 ?_
  refine lv_iload hx hb dX12_ofOthers_161 (lv_at hl 2 rfl) ?_
  refine lv_iadd hx hb dX12_ofOthers_163 ?_
  obtain ⟨a42_, e43_, h⟩ := h
  refine q_nn [.int ((q_I (qs_A S a38_ x3.toNatClampNeg (vp_nar .boolean (1 : Int32))) 2463 a0) + x4), .int x3] e43_ ?_
  obtain ⟨k44_, h⟩ := h
  obtain ⟨i45_, h⟩ := h
  refine q_ist X Y k44_ i45_ dX12_ofOthers_164 (fun H locs Y => ?_)
  obtain ⟨S46_, gS46_⟩ : ∃ z : q_S, z = (qs_A (qs_A S a38_ x3.toNatClampNeg (vp_nar .boolean (1 : Int32))) a42_ x3.toNatClampNeg ((q_I (qs_A S a38_ x3.toNatClampNeg (vp_nar .boolean (1 : Int32))) 2463 a0) + x4)) := ⟨_, rfl⟩
  replace Y : q_Y D cy lo s S46_ H locs := by rw [gS46_]; exact Y
  replace h := h S46_ gS46_
  replace k37_ : q_K S46_ a0 = 13 := by rw [gS46_]; exact k37_
  replace k40_ : q_K S46_ a38_ = 22 := by rw [gS46_]; exact k40_
  replace k44_ : q_K S46_ a42_ = 21 := by rw [gS46_]; exact k44_
  refine lv_iconst (v := 0) hx hb dX12_ofOthers_165 (by decide) ?_
  exact q_iret X Y rfl (Nat.le_refl _) (Nat.le_refl _) h dX12_ofOthers_166
def wb_X12_ofOthers_86  (S : q_S) (a0 : Nat) (x3 : Int32) (x4 : Int32) (Q : Option Value → q_S → Prop) : Prop := ((x4 < (1 : Int32) → (wb_X12_ofOthers_100 S Q)) ∧ (¬ x4 < (1 : Int32) → (((x4 ≤ (100000 : Int32) → (q_K S a0 = 13 ∧ (∃ a50_ : Nat, (q_P S 2439 a0) = some a50_ ∧ (q_K S a50_ = 21 ∧ (vp_in x3 (q_N S a50_) ∧ ((((q_A S a50_ x3.toNatClampNeg) = 0 → (wb_X12_ofOthers_143 S Q)) ∧ (¬ (q_A S a50_ x3.toNatClampNeg) = 0 → (∃ a55_ : Nat, (q_P S 2438 a0) = some a55_ ∧ (q_K S a55_ = 21 ∧ (vp_in x3 (q_N S a55_) ∧ ((((q_A S a55_ x3.toNatClampNeg) ≤ 0 → (wb_X12_ofOthers_145 S a0 x3 x4 Q)) ∧ (¬ (q_A S a55_ x3.toNatClampNeg) ≤ 0 → (∃ a60_ : Nat, (q_P S 2473 a0) = some a60_ ∧ (q_K S a60_ = 21 ∧ (vp_in x3 (q_N S a60_) ∧ (vp_in x3 (q_N S a55_) ∧ (((((q_I S 2463 a0) + x4) ≤ ((q_A S a60_ x3.toNatClampNeg) + (q_A S a55_ x3.toNatClampNeg)) → (wb_X12_ofOthers_145 S a0 x3 x4 Q)) ∧ (¬ ((q_I S 2463 a0) + x4) ≤ ((q_A S a60_ x3.toNatClampNeg) + (q_A S a55_ x3.toNatClampNeg)) → (wb_X12_ofOthers_143 S Q)))))))))))))))))))))) ∧ (¬ x4 ≤ (100000 : Int32) → (wb_X12_ofOthers_100 S Q))))))
set_option maxHeartbeats 4000000 in
set_option maxRecDepth 100000 in
theorem cb_X12_ofOthers_86 {p : Program} {l : Launch} {e : Env} {s : State} {m : MethodId} {args : Array Value} {below : List Frame} {meth : Method} {c : Code} {D : va_G} {cy : Nat → ClassId} {lo : Nat}  {S : q_S} {a0 : Nat} {x3 : Int32} {x4 : Int32} {Q : Option Value → q_S → Prop} {H : Heap} {locs : List Loc} {ls : Array Slot} (X : q_X p s m args meth c RX12 cX12_ofOthers 7 (some .int) D cy lo)  (Y : q_Y D cy lo s S H locs) (hl : lv_has ls 7 [(0, .ref a0), (3, .int x3), (4, .int x4)]) (h : wb_X12_ofOthers_86 S a0 x3 x4 Q) : W p l e ({ frames := 3, cells := 0, slots := 0, locals := 68 } : Room) s m args below meth c H locs 0 0 (MQ below (q_Q D cy lo Q) args s 0 0 (fun q => lo ≤ q)) (F0 m 86 ls []) := by
  have hx := X.1
  have hb := X.2.1
  unfold wb_X12_ofOthers_86 at h
  refine lv_iload hx hb dX12_ofOthers_86 (lv_at hl 2 rfl) ?_
  refine lv_iconst (v := 1) hx hb dX12_ofOthers_88 (by decide) ?_
  refine lv_icmp_lt (tgt := 100) hx hb dX12_ofOthers_89 (by decide) (fun c47_ => ?_) (fun c47_ => ?_)
  · replace h := h.1 c47_
    exact cb_X12_ofOthers_100 X Y (lv_sub hl [] rfl) h
  · replace h := h.2 c47_
    refine lv_iload hx hb dX12_ofOthers_92 (lv_at hl 2 rfl) ?_
    refine lv_ldcw (v := 100000) hx hb X.2.2.2.1 (X.2.2.2.2.1 _ co_X12_401) dX12_ofOthers_94 ?_
    refine lv_icmp_le (tgt := 102) hx hb dX12_ofOthers_97 (by decide) (fun c48_ => ?_) (fun c48_ => ?_)
    · replace h := h.1 c48_
      refine lv_aload_n hx hb dX12_ofOthers_102 rfl (lv_at hl 0 rfl) ?_
      obtain ⟨k49_, h⟩ := h
      refine q_getP X Y kX12 39 rfl fl_X12_72 k49_ rfl dX12_ofOthers_103 ?_
      refine lv_iload_n hx hb dX12_ofOthers_106 rfl (lv_at hl 1 rfl) ?_
      obtain ⟨a50_, e51_, h⟩ := h
      refine q_nn [.int x3] e51_ ?_
      obtain ⟨k52_, h⟩ := h
      obtain ⟨i53_, h⟩ := h
      refine q_ild X Y k52_ i53_ dX12_ofOthers_107 ?_
      refine lv_if_eq (tgt := 143) hx hb dX12_ofOthers_108 (by decide) (fun c54_ => ?_) (fun c54_ => ?_)
      · replace h := h.1 c54_
        exact cb_X12_ofOthers_143 X Y (lv_sub hl [] rfl) h
      · replace h := h.2 c54_
        refine lv_aload_n hx hb dX12_ofOthers_111 rfl (lv_at hl 0 rfl) ?_
        refine q_getP X Y kX12 38 rfl fl_X12_69 k49_ rfl dX12_ofOthers_112 ?_
        refine lv_iload_n hx hb dX12_ofOthers_115 rfl (lv_at hl 1 rfl) ?_
        obtain ⟨a55_, e56_, h⟩ := h
        refine q_nn [.int x3] e56_ ?_
        obtain ⟨k57_, h⟩ := h
        obtain ⟨i58_, h⟩ := h
        refine q_ild X Y k57_ i58_ dX12_ofOthers_116 ?_
        refine lv_if_le (tgt := 145) hx hb dX12_ofOthers_117 (by decide) (fun c59_ => ?_) (fun c59_ => ?_)
        · replace h := h.1 c59_
          exact cb_X12_ofOthers_145 X Y (lv_sub hl [0, 1, 2] rfl) h
        · replace h := h.2 c59_
          refine lv_aload_n hx hb dX12_ofOthers_120 rfl (lv_at hl 0 rfl) ?_
          refine q_getI X Y kX12 63 rfl fl_X12_453 k49_ dX12_ofOthers_121 ?_
          refine lv_iload hx hb dX12_ofOthers_124 (lv_at hl 2 rfl) ?_
          refine lv_iadd hx hb dX12_ofOthers_126 ?_
          refine lv_aload_n hx hb dX12_ofOthers_127 rfl (lv_at hl 0 rfl) ?_
          refine q_getP X Y kX12 73 rfl fl_X12_167 k49_ rfl dX12_ofOthers_128 ?_
          refine lv_iload_n hx hb dX12_ofOthers_131 rfl (lv_at hl 1 rfl) ?_
          obtain ⟨a60_, e61_, h⟩ := h
          refine q_nn [.int x3] e61_ ?_
          obtain ⟨k62_, h⟩ := h
          obtain ⟨i63_, h⟩ := h
          refine q_ild X Y k62_ i63_ dX12_ofOthers_132 ?_
          refine lv_aload_n hx hb dX12_ofOthers_133 rfl (lv_at hl 0 rfl) ?_
          refine q_getR X Y kX12 38 rfl fl_X12_69 k49_ e56_ dX12_ofOthers_134 ?_
          refine lv_iload_n hx hb dX12_ofOthers_137 rfl (lv_at hl 1 rfl) ?_
          obtain ⟨i64_, h⟩ := h
          refine q_ild X Y k57_ i64_ dX12_ofOthers_138 ?_
          refine lv_iadd hx hb dX12_ofOthers_139 ?_
          refine lv_icmp_le (tgt := 145) hx hb dX12_ofOthers_140 (by decide) (fun c65_ => ?_) (fun c65_ => ?_)
          · replace h := h.1 c65_
            exact cb_X12_ofOthers_145 X Y (lv_sub hl [0, 1, 2] rfl) h
          · replace h := h.2 c65_
            exact cb_X12_ofOthers_143 X Y (lv_sub hl [] rfl) h
    · replace h := h.2 c48_
      exact cb_X12_ofOthers_100 X Y (lv_sub hl [] rfl) h
def wb_X12_ofOthers_78  (S : q_S) (a0 : Nat) (x2 : Int32) (x4 : Int32) (Q : Option Value → q_S → Prop) : Prop := q_K S a0 = 13 ∧ (wm_X12_letsGo S a0 x2 x4 (fun r67_ S68_ => ∃ x69_ : Int32, r67_ = some (.int x69_) ∧ (Q (some (.int x69_)) S68_)))
set_option maxHeartbeats 4000000 in
set_option maxRecDepth 100000 in
theorem cb_X12_ofOthers_78 {p : Program} {l : Launch} {e : Env} {s : State} {m : MethodId} {args : Array Value} {below : List Frame} {meth : Method} {c : Code} {D : va_G} {cy : Nat → ClassId} {lo : Nat}  {S : q_S} {a0 : Nat} {x2 : Int32} {x4 : Int32} {Q : Option Value → q_S → Prop} {H : Heap} {locs : List Loc} {ls : Array Slot} (X : q_X p s m args meth c RX12 cX12_ofOthers 7 (some .int) D cy lo)  (Y : q_Y D cy lo s S H locs) (hl : lv_has ls 7 [(0, .ref a0), (2, .int x2), (4, .int x4)]) (h : wb_X12_ofOthers_78 S a0 x2 x4 Q) : W p l e ({ frames := 3, cells := 0, slots := 0, locals := 68 } : Room) s m args below meth c H locs 0 0 (MQ below (q_Q D cy lo Q) args s 0 0 (fun q => lo ≤ q)) (F0 m 78 ls []) := by
  have hx := X.1
  have hb := X.2.1
  unfold wb_X12_ofOthers_78 at h
  refine lv_aload_n hx hb dX12_ofOthers_78 rfl (lv_at hl 0 rfl) ?_
  refine lv_iload_n hx hb dX12_ofOthers_79 rfl (lv_at hl 1 rfl) ?_
  refine lv_iload hx hb dX12_ofOthers_80 (lv_at hl 2 rfl) ?_
  obtain ⟨k66_, h⟩ := h
  refine q_callV X Y hl (cm_X12_letsGo h) mt_X12_letsGo mi_X12_letsGo ml_X12_648 (ci := 12) rfl k66_ (by decide) rfl rfl (by first | exact Nat.le_of_ble_eq_true rfl | simp [q_cat, q_catI, q_catJ, q_catR]) ⟨Nat.le_of_ble_eq_true rfl, Nat.le_of_ble_eq_true rfl⟩ ⟨Nat.le_of_ble_eq_true rfl, Nat.le_of_ble_eq_true rfl⟩ dX12_ofOthers_82 (fun r67_ S68_ H locs hp Y => ?_)
  obtain ⟨x69_, rfl, h⟩ := hp
  refine W.eq (g2 := F0 m 85 ls [.int x69_]) rfl ?_
  exact q_iret X Y rfl (Nat.le_refl _) (Nat.le_refl _) h dX12_ofOthers_85
def wb_X12_ofOthers_69  (S : q_S) (a0 : Nat) (x2 : Int32) (x3 : Int32) (x4 : Int32) (Q : Option Value → q_S → Prop) : Prop := q_K S a0 = 13 ∧ (wm_X12_holds S a0 x2 x3 x4 (fun r71_ S72_ => ∃ x73_ : Int32, r71_ = some (.int x73_) ∧ (Q (some (.int x73_)) S72_)))
set_option maxHeartbeats 4000000 in
set_option maxRecDepth 100000 in
theorem cb_X12_ofOthers_69 {p : Program} {l : Launch} {e : Env} {s : State} {m : MethodId} {args : Array Value} {below : List Frame} {meth : Method} {c : Code} {D : va_G} {cy : Nat → ClassId} {lo : Nat}  {S : q_S} {a0 : Nat} {x2 : Int32} {x3 : Int32} {x4 : Int32} {Q : Option Value → q_S → Prop} {H : Heap} {locs : List Loc} {ls : Array Slot} (X : q_X p s m args meth c RX12 cX12_ofOthers 7 (some .int) D cy lo)  (Y : q_Y D cy lo s S H locs) (hl : lv_has ls 7 [(0, .ref a0), (2, .int x2), (3, .int x3), (4, .int x4)]) (h : wb_X12_ofOthers_69 S a0 x2 x3 x4 Q) : W p l e ({ frames := 3, cells := 0, slots := 0, locals := 68 } : Room) s m args below meth c H locs 0 0 (MQ below (q_Q D cy lo Q) args s 0 0 (fun q => lo ≤ q)) (F0 m 69 ls []) := by
  have hx := X.1
  have hb := X.2.1
  unfold wb_X12_ofOthers_69 at h
  refine lv_aload_n hx hb dX12_ofOthers_69 rfl (lv_at hl 0 rfl) ?_
  refine lv_iload_n hx hb dX12_ofOthers_70 rfl (lv_at hl 1 rfl) ?_
  refine lv_iload_n hx hb dX12_ofOthers_71 rfl (lv_at hl 2 rfl) ?_
  refine lv_iload hx hb dX12_ofOthers_72 (lv_at hl 3 rfl) ?_
  obtain ⟨k70_, h⟩ := h
  refine q_callV X Y hl (cm_X12_holds h) mt_X12_holds mi_X12_holds ml_X12_645 (ci := 12) rfl k70_ (by decide) rfl rfl (by first | exact Nat.le_of_ble_eq_true rfl | simp [q_cat, q_catI, q_catJ, q_catR]) ⟨Nat.le_of_ble_eq_true rfl, Nat.le_of_ble_eq_true rfl⟩ ⟨Nat.le_of_ble_eq_true rfl, Nat.le_of_ble_eq_true rfl⟩ dX12_ofOthers_74 (fun r71_ S72_ H locs hp Y => ?_)
  obtain ⟨x73_, rfl, h⟩ := hp
  refine W.eq (g2 := F0 m 77 ls [.int x73_]) rfl ?_
  exact q_iret X Y rfl (Nat.le_refl _) (Nat.le_refl _) h dX12_ofOthers_77
def wb_X12_ofOthers_36  (S : q_S) (a0 : Nat) (x3 : Int32) (x4 : Int32) (Q : Option Value → q_S → Prop) : Prop := q_K S a0 = 13 ∧ (wm_X12_isTime S a0 x4 (fun r75_ S76_ => ∃ x77_ : Int32, r75_ = some (.int x77_) ∧ (((¬ x77_ = 0 → (q_K S76_ a0 = 13 ∧ (∃ a80_ : Nat, (q_P S76_ 2438 a0) = some a80_ ∧ (q_K S76_ a80_ = 21 ∧ (vp_in x3 (q_N S76_ a80_) ∧ ((((q_A S76_ a80_ x3.toNatClampNeg) ≤ 0 → (wm_X12_waits S76_ a0 x3 (8 : Int32) x3 x4 (fun r85_ S86_ => ∃ x87_ : Int32, r85_ = some (.int x87_) ∧ (Q (some (.int x87_)) S86_)))) ∧ (¬ (q_A S76_ a80_ x3.toNatClampNeg) ≤ 0 → (Q (some (.int (3 : Int32))) S76_))))))))) ∧ (x77_ = 0 → (Q (some (.int (1 : Int32))) S76_))))))
set_option maxHeartbeats 4000000 in
set_option maxRecDepth 100000 in
theorem cb_X12_ofOthers_36 {p : Program} {l : Launch} {e : Env} {s : State} {m : MethodId} {args : Array Value} {below : List Frame} {meth : Method} {c : Code} {D : va_G} {cy : Nat → ClassId} {lo : Nat}  {S : q_S} {a0 : Nat} {x3 : Int32} {x4 : Int32} {Q : Option Value → q_S → Prop} {H : Heap} {locs : List Loc} {ls : Array Slot} (X : q_X p s m args meth c RX12 cX12_ofOthers 7 (some .int) D cy lo)  (Y : q_Y D cy lo s S H locs) (hl : lv_has ls 7 [(0, .ref a0), (3, .int x3), (4, .int x4)]) (h : wb_X12_ofOthers_36 S a0 x3 x4 Q) : W p l e ({ frames := 3, cells := 0, slots := 0, locals := 68 } : Room) s m args below meth c H locs 0 0 (MQ below (q_Q D cy lo Q) args s 0 0 (fun q => lo ≤ q)) (F0 m 36 ls []) := by
  have hx := X.1
  have hb := X.2.1
  unfold wb_X12_ofOthers_36 at h
  refine lv_aload_n hx hb dX12_ofOthers_36 rfl (lv_at hl 0 rfl) ?_
  refine lv_iload hx hb dX12_ofOthers_37 (lv_at hl 2 rfl) ?_
  obtain ⟨k74_, h⟩ := h
  refine q_callV X Y hl (cm_X12_isTime h) mt_X12_isTime mi_X12_isTime ml_X12_619 (ci := 12) rfl k74_ (by decide) rfl rfl (by first | exact Nat.le_of_ble_eq_true rfl | simp [q_cat, q_catI, q_catJ, q_catR]) ⟨Nat.le_of_ble_eq_true rfl, Nat.le_of_ble_eq_true rfl⟩ ⟨Nat.le_of_ble_eq_true rfl, Nat.le_of_ble_eq_true rfl⟩ dX12_ofOthers_39 (fun r75_ S76_ H locs hp Y => ?_)
  obtain ⟨x77_, rfl, h⟩ := hp
  refine W.eq (g2 := F0 m 42 ls [.int x77_]) rfl ?_
  refine lv_if_ne (tgt := 47) hx hb dX12_ofOthers_42 (by decide) (fun c78_ => ?_) (fun c78_ => ?_)
  · replace h := h.1 c78_
    refine lv_aload_n hx hb dX12_ofOthers_47 rfl (lv_at hl 0 rfl) ?_
    obtain ⟨k79_, h⟩ := h
    refine q_getP X Y kX12 38 rfl fl_X12_69 k79_ rfl dX12_ofOthers_48 ?_
    refine lv_iload_n hx hb dX12_ofOthers_51 rfl (lv_at hl 1 rfl) ?_
    obtain ⟨a80_, e81_, h⟩ := h
    refine q_nn [.int x3] e81_ ?_
    obtain ⟨k82_, h⟩ := h
    obtain ⟨i83_, h⟩ := h
    refine q_ild X Y k82_ i83_ dX12_ofOthers_52 ?_
    refine lv_if_le (tgt := 58) hx hb dX12_ofOthers_53 (by decide) (fun c84_ => ?_) (fun c84_ => ?_)
    · replace h := h.1 c84_
      refine lv_aload_n hx hb dX12_ofOthers_58 rfl (lv_at hl 0 rfl) ?_
      refine lv_iload_n hx hb dX12_ofOthers_59 rfl (lv_at hl 1 rfl) ?_
      refine lv_bipush (v := 8) hx hb dX12_ofOthers_60 (by decide) ?_
      refine lv_iload_n hx hb dX12_ofOthers_62 rfl (lv_at hl 1 rfl) ?_
      refine lv_iload hx hb dX12_ofOthers_63 (lv_at hl 2 rfl) ?_
      refine q_callV X Y hl (cm_X12_waits h) mt_X12_waits mi_X12_waits ml_X12_622 (ci := 12) rfl k79_ (by decide) rfl rfl (by first | exact Nat.le_of_ble_eq_true rfl | simp [q_cat, q_catI, q_catJ, q_catR]) ⟨Nat.le_of_ble_eq_true rfl, Nat.le_of_ble_eq_true rfl⟩ ⟨Nat.le_of_ble_eq_true rfl, Nat.le_of_ble_eq_true rfl⟩ dX12_ofOthers_65 (fun r85_ S86_ H locs hp Y => ?_)
      obtain ⟨x87_, rfl, h⟩ := hp
      refine W.eq (g2 := F0 m 68 ls [.int x87_]) rfl ?_
      exact q_iret X Y rfl (Nat.le_refl _) (Nat.le_refl _) h dX12_ofOthers_68
    · replace h := h.2 c84_
      refine lv_iconst (v := 3) hx hb dX12_ofOthers_56 (by decide) ?_
      exact q_iret X Y rfl (Nat.le_refl _) (Nat.le_refl _) h dX12_ofOthers_57
  · replace h := h.2 c78_
    refine lv_iconst (v := 1) hx hb dX12_ofOthers_45 (by decide) ?_
    exact q_iret X Y rfl (Nat.le_refl _) (Nat.le_refl _) h dX12_ofOthers_46
def wm_X12_ofOthers (S : q_S) (a0 : Nat) (x1 : Int32) (x2 : Int32) (x3 : Int32) (x4 : Int32) (x5 : Int32) (Q : Option Value → q_S → Prop) : Prop := (((x1.toInt < 26 ∨ 30 < x1.toInt) → (wb_X12_ofOthers_261 S x3 Q)) ∧ ((x1 = (26 : Int32)) → (wb_X12_ofOthers_36 S a0 x3 x4 Q)) ∧ ((x1 = (27 : Int32)) → (wb_X12_ofOthers_69 S a0 x2 x3 x4 Q)) ∧ ((x1 = (28 : Int32)) → (wb_X12_ofOthers_78 S a0 x2 x4 Q)) ∧ ((x1 = (29 : Int32)) → (wb_X12_ofOthers_86 S a0 x3 x4 Q)) ∧ ((x1 = (30 : Int32)) → (wb_X12_ofOthers_167 S a0 x2 x3 x4 Q)))
set_option maxHeartbeats 4000000 in
set_option maxRecDepth 100000 in
theorem cm_X12_ofOthers {l : Launch} {D : va_G} {cy : Nat → ClassId} {lo : Nat} {S : q_S} {a0 : Nat} {x1 : Int32} {x2 : Int32} {x3 : Int32} {x4 : Int32} {x5 : Int32} {Q : Option Value → q_S → Prop} (h : wm_X12_ofOthers S a0 x1 x2 x3 x4 x5 Q) : q_Met l D cy lo yX12_ofOthers cX12_ofOthers 7 (some .int) 3 68 0 0 [.ref a0, .int x1, .int x2, .int x3, .int x4, .int x5] S Q := by
  refine q_body (by decide) (by first | exact Nat.le_of_ble_eq_true rfl | simp [lg_sl, q_cat, q_catI, q_catJ, q_catR]) ?_
  intro p e s m below meth c ls X hnm Y hl
  have hx := X.1
  have hb := X.2.1
  have hl : lv_has ls 7 [(0, .ref a0), (1, .int x1), (2, .int x2), (3, .int x3), (4, .int x4), (5, .int x5)] := by first | exact hl | simpa [lv_args, q_cat, q_catI, q_catJ, q_catR] using hl
  generalize hargs : ([.ref a0, .int x1, .int x2, .int x3, .int x4, .int x5] : List Value).toArray = args at X ⊢
  unfold wm_X12_ofOthers at h
  refine lv_iload_n hx hb dX12_ofOthers_0 rfl (lv_at hl 1 rfl) ?_
  refine q_tsw (tgt := 261) hx hb dX12_ofOthers_1 (by decide) (by decide) (fun c88_ => ?_) (fun j89_ hj_ c88_ => ?_)
  · replace h := h.1 c88_
    exact cb_X12_ofOthers_261 X Y (lv_sub hl [3] rfl) h
  · match j89_, hj_, c88_ with
    | 0, _, c88_ =>
      refine ⟨35, 36, rfl, by decide, ?_⟩
      replace h := h.2.1 (q_eqI c88_ (by decide))
      exact cb_X12_ofOthers_36 X Y (lv_sub hl [0, 3, 4] rfl) h
    | 1, _, c88_ =>
      refine ⟨68, 69, rfl, by decide, ?_⟩
      replace h := h.2.2.1 (q_eqI c88_ (by decide))
      exact cb_X12_ofOthers_69 X Y (lv_sub hl [0, 2, 3, 4] rfl) h
    | 2, _, c88_ =>
      refine ⟨77, 78, rfl, by decide, ?_⟩
      replace h := h.2.2.2.1 (q_eqI c88_ (by decide))
      exact cb_X12_ofOthers_78 X Y (lv_sub hl [0, 2, 4] rfl) h
    | 3, _, c88_ =>
      refine ⟨85, 86, rfl, by decide, ?_⟩
      replace h := h.2.2.2.2.1 (q_eqI c88_ (by decide))
      exact cb_X12_ofOthers_86 X Y (lv_sub hl [0, 3, 4] rfl) h
    | 4, _, c88_ =>
      refine ⟨166, 167, rfl, by decide, ?_⟩
      replace h := h.2.2.2.2.2 (q_eqI c88_ (by decide))
      exact cb_X12_ofOthers_167 X Y (lv_sub hl [0, 2, 3, 4] rfl) h
    | z_ + 5, hj_, _ => exact absurd hj_ (by simp)
