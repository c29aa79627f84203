-- X9_fail
theorem fl_X9_72 : Cond.fieldLink RX9 72 "PartitionWorks$Reader" "fault" "I" ∈ q_G := q_tb (i := 204) (by decide +kernel) (by decide +kernel)
theorem ml_X9_103 : Cond.methodLink RX9 103 yX6_forget ∈ q_G := q_tb (i := 558) (by decide +kernel) (by decide +kernel)
theorem cl_X9_106 : Cond.classLink RX9 106 "java/lang/IllegalArgumentException" ∈ q_G := q_tb (i := 559) (by decide +kernel) (by decide +kernel)
theorem ix_IllegalArgumentException : Cond.initialized "java/lang/IllegalArgumentException" ∈ q_G := q_tb (i := 19) (by decide +kernel) (by decide +kernel)
theorem tg_X9_110 : ∀ w ∈ (vx_atS RX9 110 "java/lang/IllegalArgumentException" ["java/lang/RuntimeException", "java/lang/Exception"]).filter goodWord, w ∈ q_G := by
  have h : ∀ w ∈ (vx_atS RX9 110 "java/lang/IllegalArgumentException" ["java/lang/RuntimeException", "java/lang/Exception"]).filter goodWord, w ∈ lw_tbl := by decide +kernel
  exact fun w hw => List.mem_filter.mpr ⟨h w hw, (List.mem_filter.mp hw).2⟩
theorem tn_X9_110 : ∀ w ∈ (vx_atS RX9 110 "java/lang/IllegalArgumentException" ["java/lang/RuntimeException", "java/lang/Exception"]).filter (fun w => !goodWord w), w ∈ q_Nw ∨ q_dc w = true := by decide +kernel
theorem to_ : ∀ w ∈ q_Nw, w.onTables = true := by decide +kernel
theorem dX9_fail_0 : decode cX9_fail 0 = .ok (.aload_n 0, 1) := by decide +kernel
theorem dX9_fail_1 : decode cX9_fail 1 = .ok (.iload_n 1, 1) := by decide +kernel
theorem dX9_fail_2 : decode cX9_fail 2 = .ok (.putfield 72, 3) := by decide +kernel
theorem dX9_fail_5 : decode cX9_fail 5 = .ok (.aload_n 0, 1) := by decide +kernel
theorem dX9_fail_6 : decode cX9_fail 6 = .ok (.iload_n 2, 1) := by decide +kernel
theorem dX9_fail_7 : decode cX9_fail 7 = .ok (.putfield 22, 3) := by decide +kernel
theorem dX9_fail_10 : decode cX9_fail 10 = .ok (.aload_n 0, 1) := by decide +kernel
theorem dX9_fail_11 : decode cX9_fail 11 = .ok (.getfield 12, 3) := by decide +kernel
theorem dX9_fail_14 : decode cX9_fail 14 = .ok (.invokevirtual 103, 3) := by decide +kernel
theorem dX9_fail_17 : decode cX9_fail 17 = .ok (.new 106, 3) := by decide +kernel
theorem dX9_fail_20 : decode cX9_fail 20 = .ok (.dup, 1) := by decide +kernel
theorem dX9_fail_21 : decode cX9_fail 21 = .ok (.ldc 108, 2) := by decide +kernel
theorem dX9_fail_23 : decode cX9_fail 23 = .ok (.invokespecial 110, 3) := by decide +kernel
theorem dX9_fail_26 : decode cX9_fail 26 = .ok (.athrow, 1) := by decide +kernel
def wm_X9_fail (bc bs : Nat) (S : q_S) (a0 : Nat) (x1 : Int32) (x2 : Int32) (Q : Option Value → q_S → Prop) (E : String → q_S → Prop) : Prop := q_K S a0 = 10 ∧ (∃ a2_ : Nat, (q_P (qs_I (qs_I S 1804 a0 x1) 1805 a0 x2) 1800 a0) = some a2_ ∧ (q_K (qs_I (qs_I S 1804 a0 x1) 1805 a0 x2) a2_ = 7 ∧ (wm_X6_forget (qs_I (qs_I S 1804 a0 x1) 1805 a0 x2) a2_ (fun r5_ S6_ => r5_ = none ∧ (((0 + 1 ≤ bc ∧ 0 + 6 ≤ bs) ∧ E "java/lang/IllegalArgumentException" S6_))))))
set_option maxHeartbeats 4000000 in
set_option maxRecDepth 100000 in
theorem cm_X9_fail {l : Launch} {D : va_G} {cy : Nat → ClassId} {lo : Nat} {bc bs : Nat} {S : q_S} {a0 : Nat} {x1 : Int32} {x2 : Int32} {Q : Option Value → q_S → Prop} {E : String → q_S → Prop} (hst : l.stackTraces = false) (h : wm_X9_fail bc bs S a0 x1 x2 Q E) : q_MetX l D cy lo yX9_fail cX9_fail 3 none 6 96 bc bs [.ref a0, .int x1, .int x2] S Q E := by
  refine q_bodyX (by decide) (by first | exact Nat.le_of_ble_eq_true rfl | simp [lg_sl, q_cat, q_catI, q_catJ, q_catR]) ?_
  intro p e s m below meth c ls X hex Y hl
  have hx := X.1
  have hb := X.2.1
  have hl : lv_has ls 3 [(0, .ref a0), (1, .int x1), (2, .int x2)] := by first | exact hl | simpa [lv_args, q_cat, q_catI, q_catJ, q_catR] using hl
  generalize hargs : ([.ref a0, .int x1, .int x2] : List Value).toArray = args at X ⊢
  have hu : 0 ≤ bc ∧ 0 ≤ bs := ⟨Nat.zero_le _, Nat.zero_le _⟩
  unfold wm_X9_fail at h
  refine lv_aload_n hx hb dX9_fail_0 rfl (lv_at hl 0 rfl) ?_
  refine lv_iload_n hx hb dX9_fail_1 rfl (lv_at hl 1 rfl) ?_
  obtain ⟨k1_, h⟩ := h
  refine q_putI X Y kX9 4 rfl fl_X9_72 k1_ .int rfl ⟨rfl, rfl⟩ rfl dX9_fail_2 (fun H locs Y => ?_)
  refine lv_aload_n hx hb dX9_fail_5 rfl (lv_at hl 0 rfl) ?_
  refine lv_iload_n hx hb dX9_fail_6 rfl (lv_at hl 2 rfl) ?_
  refine q_putI X Y kX9 5 rfl fl_X9_22 k1_ .int rfl ⟨rfl, rfl⟩ rfl dX9_fail_7 (fun H locs Y => ?_)
  refine lv_aload_n hx hb dX9_fail_10 rfl (lv_at hl 0 rfl) ?_
  refine q_getP X Y kX9 0 rfl fl_X9_12 k1_ rfl dX9_fail_11 ?_
  obtain ⟨a2_, e3_, h⟩ := h
  refine q_nn [] e3_ ?_
  obtain ⟨k4_, h⟩ := h
  refine q_callV X Y hl (cm_X6_forget h) mt_X6_forget mi_X6_forget ml_X9_103 (ci := 6) rfl k4_ (by decide) rfl rfl (by first | exact Nat.le_of_ble_eq_true rfl | simp [q_cat, q_catI, q_catJ, q_catR]) ⟨Nat.le_of_ble_eq_true rfl, Nat.le_of_ble_eq_true rfl⟩ hu dX9_fail_14 (fun r5_ S6_ H locs hp Y => ?_)
  obtain ⟨rfl, h⟩ := hp
  refine W.eq (g2 := F0 m 17 ls []) rfl ?_
  exact q_throw X hex Y hst hl (i := 3) (by decide +kernel) (by decide +kernel) cl_X9_106 ix_IllegalArgumentException rfl tg_X9_110 tn_X9_110 to_ ⟨Nat.le_of_ble_eq_true rfl, by first | exact Nat.le_of_ble_eq_true rfl | simp [q_cat, q_catI, q_catJ, q_catR], h.1.1, h.1.2⟩ h.1 dX9_fail_17 dX9_fail_20 dX9_fail_21 dX9_fail_23 dX9_fail_26 h.2
-- X9_advance
theorem ml_X9_133 : Cond.methodLink RX9 133 yX9_fail ∈ q_G := q_tb (i := 554) (by decide +kernel) (by decide +kernel)
theorem mt_X9_fail : q_Mt yX9_fail cX9_fail 3 none 2 := ⟨q_tb (i := 557) (by decide +kernel) (by decide +kernel), q_tb (i := 2) (by decide +kernel) (by decide +kernel), by decide +kernel, by decide +kernel, by decide +kernel⟩
theorem mi_X9_fail : Cond.instanceMethod yX9_fail ∈ q_G ∧ Cond.selects yX9_fail.cls yX9_fail yX9_fail ∈ q_G := ⟨q_tb (i := 556) (by decide +kernel) (by decide +kernel), q_tp (i := 7) (q := (yX9_fail, 14)) (by decide +kernel) (by decide +kernel)⟩
theorem ml_X9_130 : Cond.methodLink RX9 130 yJ0_indexOf_0f7a4 ∈ q_G := q_tb (i := 495) (by decide +kernel) (by decide +kernel)
theorem mt_J0_indexOf_0f7a4 : q_Mt yJ0_indexOf_0f7a4 cJ0_indexOf_0f7a4 2 (some .int) 1 := ⟨q_tb (i := 498) (by decide +kernel) (by decide +kernel), q_tb (i := 5) (by decide +kernel) (by decide +kernel), by decide +kernel, by decide +kernel, by decide +kernel⟩
theorem mi_J0_indexOf_0f7a4 : Cond.instanceMethod yJ0_indexOf_0f7a4 ∈ q_G ∧ Cond.selects yJ0_indexOf_0f7a4.cls yJ0_indexOf_0f7a4 yJ0_indexOf_0f7a4 ∈ q_G := ⟨q_tb (i := 496) (by decide +kernel) (by decide +kernel), q_tb (i := 497) (by decide +kernel) (by decide +kernel)⟩
theorem ml_X9_125 : Cond.methodLink RX9 125 yX9_scanNumber ∈ q_G := q_tb (i := 490) (by decide +kernel) (by decide +kernel)
theorem mt_X9_scanNumber : q_Mt yX9_scanNumber cX9_scanNumber 1 none 0 := ⟨q_tb (i := 493) (by decide +kernel) (by decide +kernel), q_tb (i := 2) (by decide +kernel) (by decide +kernel), by decide +kernel, by decide +kernel, by decide +kernel⟩
theorem mi_X9_scanNumber : Cond.instanceMethod yX9_scanNumber ∈ q_G ∧ Cond.selects yX9_scanNumber.cls yX9_scanNumber yX9_scanNumber ∈ q_G := ⟨q_tb (i := 492) (by decide +kernel) (by decide +kernel), q_tp (i := 6) (q := (yX9_scanNumber, 14)) (by decide +kernel) (by decide +kernel)⟩
theorem ml_X9_122 : Cond.methodLink RX9 122 yX9_scanName ∈ q_G := q_tb (i := 486) (by decide +kernel) (by decide +kernel)
theorem mt_X9_scanName : q_Mt yX9_scanName cX9_scanName 2 none 0 := ⟨q_tb (i := 489) (by decide +kernel) (by decide +kernel), q_tb (i := 2) (by decide +kernel) (by decide +kernel), by decide +kernel, by decide +kernel, by decide +kernel⟩
theorem mi_X9_scanName : Cond.instanceMethod yX9_scanName ∈ q_G ∧ Cond.selects yX9_scanName.cls yX9_scanName yX9_scanName ∈ q_G := ⟨q_tb (i := 488) (by decide +kernel) (by decide +kernel), q_tp (i := 5) (q := (yX9_scanName, 14)) (by decide +kernel) (by decide +kernel)⟩
theorem dX9_advance_0 : decode cX9_advance 0 = .ok (.aload_n 0, 1) := by decide +kernel
theorem dX9_advance_1 : decode cX9_advance 1 = .ok (.getfield 69, 3) := by decide +kernel
theorem dX9_advance_4 : decode cX9_advance 4 = .ok (.aload_n 0, 1) := by decide +kernel
theorem dX9_advance_5 : decode cX9_advance 5 = .ok (.getfield 66, 3) := by decide +kernel
theorem dX9_advance_8 : decode cX9_advance 8 = .ok (.if_icmp .ge 44, 3) := by decide +kernel
theorem dX9_advance_11 : decode cX9_advance 11 = .ok (.aload_n 0, 1) := by decide +kernel
theorem dX9_advance_12 : decode cX9_advance 12 = .ok (.getfield 18, 3) := by decide +kernel
theorem dX9_advance_15 : decode cX9_advance 15 = .ok (.aload_n 0, 1) := by decide +kernel
theorem dX9_advance_16 : decode cX9_advance 16 = .ok (.getfield 69, 3) := by decide +kernel
theorem dX9_advance_19 : decode cX9_advance 19 = .ok (.baload, 1) := by decide +kernel
theorem dX9_advance_20 : decode cX9_advance 20 = .ok (.bipush 32, 2) := by decide +kernel
theorem dX9_advance_22 : decode cX9_advance 22 = .ok (.if_icmp .eq 17, 3) := by decide +kernel
theorem dX9_advance_25 : decode cX9_advance 25 = .ok (.aload_n 0, 1) := by decide +kernel
theorem dX9_advance_26 : decode cX9_advance 26 = .ok (.getfield 18, 3) := by decide +kernel
theorem dX9_advance_29 : decode cX9_advance 29 = .ok (.aload_n 0, 1) := by decide +kernel
theorem dX9_advance_30 : decode cX9_advance 30 = .ok (.getfield 69, 3) := by decide +kernel
theorem dX9_advance_33 : decode cX9_advance 33 = .ok (.baload, 1) := by decide +kernel
theorem dX9_advance_34 : decode cX9_advance 34 = .ok (.bipush 10, 2) := by decide +kernel
theorem dX9_advance_36 : decode cX9_advance 36 = .ok (.if_icmp .ne 16, 3) := by decide +kernel
theorem dX9_advance_39 : decode cX9_advance 39 = .ok (.aload_n 0, 1) := by decide +kernel
theorem dX9_advance_40 : decode cX9_advance 40 = .ok (.dup, 1) := by decide +kernel
theorem dX9_advance_41 : decode cX9_advance 41 = .ok (.getfield 69, 3) := by decide +kernel
theorem dX9_advance_44 : decode cX9_advance 44 = .ok (.iconst 1, 1) := by decide +kernel
theorem dX9_advance_45 : decode cX9_advance 45 = .ok (.iadd, 1) := by decide +kernel
theorem dX9_advance_46 : decode cX9_advance 46 = .ok (.putfield 69, 3) := by decide +kernel
theorem dX9_advance_49 : decode cX9_advance 49 = .ok (.goto (-49), 3) := by decide +kernel
theorem dX9_advance_52 : decode cX9_advance 52 = .ok (.aload_n 0, 1) := by decide +kernel
theorem dX9_advance_53 : decode cX9_advance 53 = .ok (.aload_n 0, 1) := by decide +kernel
theorem dX9_advance_54 : decode cX9_advance 54 = .ok (.getfield 69, 3) := by decide +kernel
theorem dX9_advance_57 : decode cX9_advance 57 = .ok (.putfield 113, 3) := by decide +kernel
theorem dX9_advance_60 : decode cX9_advance 60 = .ok (.aload_n 0, 1) := by decide +kernel
theorem dX9_advance_61 : decode cX9_advance 61 = .ok (.iconst (-1), 1) := by decide +kernel
theorem dX9_advance_62 : decode cX9_advance 62 = .ok (.putfield 116, 3) := by decide +kernel
theorem dX9_advance_65 : decode cX9_advance 65 = .ok (.aload_n 0, 1) := by decide +kernel
theorem dX9_advance_66 : decode cX9_advance 66 = .ok (.getfield 69, 3) := by decide +kernel
theorem dX9_advance_69 : decode cX9_advance 69 = .ok (.aload_n 0, 1) := by decide +kernel
theorem dX9_advance_70 : decode cX9_advance 70 = .ok (.getfield 66, 3) := by decide +kernel
theorem dX9_advance_73 : decode cX9_advance 73 = .ok (.if_icmp .lt 9, 3) := by decide +kernel
theorem dX9_advance_76 : decode cX9_advance 76 = .ok (.aload_n 0, 1) := by decide +kernel
theorem dX9_advance_77 : decode cX9_advance 77 = .ok (.iconst 0, 1) := by decide +kernel
theorem dX9_advance_78 : decode cX9_advance 78 = .ok (.putfield 119, 3) := by decide +kernel
theorem dX9_advance_81 : decode cX9_advance 81 = .ok (.return_, 1) := by decide +kernel
theorem dX9_advance_82 : decode cX9_advance 82 = .ok (.aload_n 0, 1) := by decide +kernel
theorem dX9_advance_83 : decode cX9_advance 83 = .ok (.getfield 18, 3) := by decide +kernel
theorem dX9_advance_86 : decode cX9_advance 86 = .ok (.aload_n 0, 1) := by decide +kernel
theorem dX9_advance_87 : decode cX9_advance 87 = .ok (.getfield 69, 3) := by decide +kernel
theorem dX9_advance_90 : decode cX9_advance 90 = .ok (.baload, 1) := by decide +kernel
theorem dX9_advance_91 : decode cX9_advance 91 = .ok (.istore_n 1, 1) := by decide +kernel
theorem dX9_advance_92 : decode cX9_advance 92 = .ok (.iload_n 1, 1) := by decide +kernel
theorem dX9_advance_93 : decode cX9_advance 93 = .ok (.bipush 97, 2) := by decide +kernel
theorem dX9_advance_95 : decode cX9_advance 95 = .ok (.if_icmp .lt 16, 3) := by decide +kernel
theorem dX9_advance_98 : decode cX9_advance 98 = .ok (.iload_n 1, 1) := by decide +kernel
theorem dX9_advance_99 : decode cX9_advance 99 = .ok (.bipush 122, 2) := by decide +kernel
theorem dX9_advance_101 : decode cX9_advance 101 = .ok (.if_icmp .gt 10, 3) := by decide +kernel
theorem dX9_advance_104 : decode cX9_advance 104 = .ok (.aload_n 0, 1) := by decide +kernel
theorem dX9_advance_105 : decode cX9_advance 105 = .ok (.invokevirtual 122, 3) := by decide +kernel
theorem dX9_advance_108 : decode cX9_advance 108 = .ok (.goto 60, 3) := by decide +kernel
theorem dX9_advance_111 : decode cX9_advance 111 = .ok (.iload_n 1, 1) := by decide +kernel
theorem dX9_advance_112 : decode cX9_advance 112 = .ok (.bipush 48, 2) := by decide +kernel
theorem dX9_advance_114 : decode cX9_advance 114 = .ok (.if_icmp .lt 16, 3) := by decide +kernel
theorem dX9_advance_117 : decode cX9_advance 117 = .ok (.iload_n 1, 1) := by decide +kernel
theorem dX9_advance_118 : decode cX9_advance 118 = .ok (.bipush 57, 2) := by decide +kernel
theorem dX9_advance_120 : decode cX9_advance 120 = .ok (.if_icmp .gt 10, 3) := by decide +kernel
theorem dX9_advance_123 : decode cX9_advance 123 = .ok (.aload_n 0, 1) := by decide +kernel
theorem dX9_advance_124 : decode cX9_advance 124 = .ok (.invokevirtual 125, 3) := by decide +kernel
theorem dX9_advance_127 : decode cX9_advance 127 = .ok (.goto 41, 3) := by decide +kernel
theorem dX9_advance_130 : decode cX9_advance 130 = .ok (.aload_n 0, 1) := by decide +kernel
theorem dX9_advance_131 : decode cX9_advance 131 = .ok (.dup, 1) := by decide +kernel
theorem dX9_advance_132 : decode cX9_advance 132 = .ok (.getfield 69, 3) := by decide +kernel
theorem dX9_advance_135 : decode cX9_advance 135 = .ok (.iconst 1, 1) := by decide +kernel
theorem dX9_advance_136 : decode cX9_advance 136 = .ok (.iadd, 1) := by decide +kernel
theorem dX9_advance_137 : decode cX9_advance 137 = .ok (.putfield 69, 3) := by decide +kernel
theorem dX9_advance_140 : decode cX9_advance 140 = .ok (.aload_n 0, 1) := by decide +kernel
theorem dX9_advance_141 : decode cX9_advance 141 = .ok (.iload_n 1, 1) := by decide +kernel
theorem dX9_advance_142 : decode cX9_advance 142 = .ok (.putfield 116, 3) := by decide +kernel
theorem dX9_advance_145 : decode cX9_advance 145 = .ok (.aload_n 0, 1) := by decide +kernel
theorem dX9_advance_146 : decode cX9_advance 146 = .ok (.iload_n 1, 1) := by decide +kernel
theorem dX9_advance_147 : decode cX9_advance 147 = .ok (.ifCond .le 17, 3) := by decide +kernel
theorem dX9_advance_150 : decode cX9_advance 150 = .ok (.ldc 128, 2) := by decide +kernel
theorem dX9_advance_152 : decode cX9_advance 152 = .ok (.iload_n 1, 1) := by decide +kernel
theorem dX9_advance_153 : decode cX9_advance 153 = .ok (.i2c, 1) := by decide +kernel
theorem dX9_advance_154 : decode cX9_advance 154 = .ok (.invokevirtual 130, 3) := by decide +kernel
theorem dX9_advance_157 : decode cX9_advance 157 = .ok (.ifCond .lt 7, 3) := by decide +kernel
theorem dX9_advance_160 : decode cX9_advance 160 = .ok (.iconst 4, 1) := by decide +kernel
theorem dX9_advance_161 : decode cX9_advance 161 = .ok (.goto 4, 3) := by decide +kernel
theorem dX9_advance_164 : decode cX9_advance 164 = .ok (.iconst 1, 1) := by decide +kernel
theorem dX9_advance_165 : decode cX9_advance 165 = .ok (.putfield 119, 3) := by decide +kernel
theorem dX9_advance_168 : decode cX9_advance 168 = .ok (.aload_n 0, 1) := by decide +kernel
theorem dX9_advance_169 : decode cX9_advance 169 = .ok (.getfield 119, 3) := by decide +kernel
theorem dX9_advance_172 : decode cX9_advance 172 = .ok (.iconst 1, 1) := by decide +kernel
theorem dX9_advance_173 : decode cX9_advance 173 = .ok (.if_icmp .ne 12, 3) := by decide +kernel
theorem dX9_advance_176 : decode cX9_advance 176 = .ok (.aload_n 0, 1) := by decide +kernel
theorem dX9_advance_177 : decode cX9_advance 177 = .ok (.iconst 2, 1) := by decide +kernel
theorem dX9_advance_178 : decode cX9_advance 178 = .ok (.aload_n 0, 1) := by decide +kernel
theorem dX9_advance_179 : decode cX9_advance 179 = .ok (.getfield 113, 3) := by decide +kernel
theorem dX9_advance_182 : decode cX9_advance 182 = .ok (.invokevirtual 133, 3) := by decide +kernel
theorem dX9_advance_185 : decode cX9_advance 185 = .ok (.return_, 1) := by decide +kernel
def wb_X9_advance_39 (bc bs : Nat) (B0 : Nat → Nat → q_S → Nat → Prop) (u v : Nat) (S : q_S) (a0 : Nat) (Q : Option Value → q_S → Prop) (E : String → q_S → Prop) : Prop := q_K S a0 = 10 ∧ (B0 u v (qs_I S 1807 a0 ((q_I S 1807 a0) + (1 : Int32))) a0)
set_option maxHeartbeats 4000000 in
set_option maxRecDepth 100000 in
theorem cb_X9_advance_39 {p : Program} {l : Launch} {e : Env} {s : State} {m : MethodId} {args : Array Value} {below : List Frame} {meth : Method} {c : Code} {D : va_G} {cy : Nat → ClassId} {lo : Nat} {bc bs : Nat} {B0 : Nat → Nat → q_S → Nat → Prop} {u v : Nat} {S : q_S} {a0 : Nat} {Q : Option Value → q_S → Prop} {E : String → q_S → Prop} {H : Heap} {locs : List Loc} {ls : Array Slot} (X : q_X p s m args meth c RX9 cX9_advance 2 none D cy lo) (hex : ∀ x ∈ c.exceptionTable.toList, False) (hst : l.stackTraces = false) (hB0 : ∀ (u v : Nat) (S : q_S) (a0 : Nat) (H : Heap) (locs : List Loc) (ls : Array Slot), B0 u v S a0 → (u ≤ bc ∧ v ≤ bs) → q_Y D cy lo s S H locs → lv_has ls 2 [(0, .ref a0)] → W p l e ({ frames := 7, cells := bc, slots := bs, locals := 118 } : Room) s m args below meth c H locs u v (vx_MQ below (q_Q D cy lo Q) (q_XE D cy lo E) args s bc bs (fun q => lo ≤ q)) (F0 m 0 ls [])) (hu : u ≤ bc ∧ v ≤ bs) (Y : q_Y D cy lo s S H locs) (hl : lv_has ls 2 [(0, .ref a0)]) (h : wb_X9_advance_39 bc bs B0 u v S a0 Q E) : W p l e ({ frames := 7, cells := bc, slots := bs, locals := 118 } : Room) s m args below meth c H locs u v (vx_MQ below (q_Q D cy lo Q) (q_XE D cy lo E) args s bc bs (fun q => lo ≤ q)) (F0 m 39 ls []) := by
  have hx := X.1
  have hb := X.2.1
  unfold wb_X9_advance_39 at h
  refine lv_aload_n hx hb dX9_advance_39 rfl (lv_at hl 0 rfl) ?_
  refine lv_dup hx hb dX9_advance_40 rfl ?_
  obtain ⟨k1_, h⟩ := h
  refine q_getI X Y kX9 7 rfl fl_X9_69 k1_ dX9_advance_41 ?_
  refine lv_iconst (v := 1) hx hb dX9_advance_44 (by decide) ?_
  refine lv_iadd hx hb dX9_advance_45 ?_
  refine q_putI X Y kX9 7 rfl fl_X9_69 k1_ .int rfl ⟨rfl, rfl⟩ rfl dX9_advance_46 (fun H locs Y => ?_)
  refine lv_goto (tgt := 0) hx hb dX9_advance_49 (by decide) ?_
  exact hB0 _ _ _ _ _ _ _ h hu Y (lv_sub hl [0] rfl)
def wb_X9_advance_185 (bc bs : Nat)  (u v : Nat) (S : q_S) (Q : Option Value → q_S → Prop) (E : String → q_S → Prop) : Prop := Q none S
set_option maxHeartbeats 4000000 in
set_option maxRecDepth 100000 in
theorem cb_X9_advance_185 {p : Program} {l : Launch} {e : Env} {s : State} {m : MethodId} {args : Array Value} {below : List Frame} {meth : Method} {c : Code} {D : va_G} {cy : Nat → ClassId} {lo : Nat} {bc bs : Nat}  {u v : Nat} {S : q_S} {Q : Option Value → q_S → Prop} {E : String → q_S → Prop} {H : Heap} {locs : List Loc} {ls : Array Slot} (X : q_X p s m args meth c RX9 cX9_advance 2 none D cy lo) (hex : ∀ x ∈ c.exceptionTable.toList, False) (hst : l.stackTraces = false)  (hu : u ≤ bc ∧ v ≤ bs) (Y : q_Y D cy lo s S H locs) (hl : lv_has ls 2 []) (h : wb_X9_advance_185 bc bs u v S Q E) : W p l e ({ frames := 7, cells := bc, slots := bs, locals := 118 } : Room) s m args below meth c H locs u v (vx_MQ below (q_Q D cy lo Q) (q_XE D cy lo E) args s bc bs (fun q => lo ≤ q)) (F0 m 185 ls []) := by
  have hx := X.1
  have hb := X.2.1
  unfold wb_X9_advance_185 at h
  exact vx_ret <| q_vret X Y hu.1 hu.2 h dX9_advance_185
def wb_X9_advance_168 (bc bs : Nat)  (u v : Nat) (S : q_S) (a0 : Nat) (Q : Option Value → q_S → Prop) (E : String → q_S → Prop) : Prop := q_K S a0 = 10 ∧ (((¬ (q_I S 1808 a0) = (1 : Int32) → (wb_X9_advance_185 bc bs u v S Q E)) ∧ ((q_I S 1808 a0) = (1 : Int32) → (∃ m6_ m7_ : Nat, (u + m6_ ≤ bc ∧ v + m7_ ≤ bs) ∧ (wm_X9_fail m6_ m7_ S a0 (2 : Int32) (q_I S 1811 a0) (fun r4_ S5_ => r4_ = none ∧ (wb_X9_advance_185 bc bs (u + m6_) (v + m7_) S5_ Q E)) E)))))
set_option maxHeartbeats 4000000 in
set_option maxRecDepth 100000 in
theorem cb_X9_advance_168 {p : Program} {l : Launch} {e : Env} {s : State} {m : MethodId} {args : Array Value} {below : List Frame} {meth : Method} {c : Code} {D : va_G} {cy : Nat → ClassId} {lo : Nat} {bc bs : Nat}  {u v : Nat} {S : q_S} {a0 : Nat} {Q : Option Value → q_S → Prop} {E : String → q_S → Prop} {H : Heap} {locs : List Loc} {ls : Array Slot} (X : q_X p s m args meth c RX9 cX9_advance 2 none D cy lo) (hex : ∀ x ∈ c.exceptionTable.toList, False) (hst : l.stackTraces = false)  (hu : u ≤ bc ∧ v ≤ bs) (Y : q_Y D cy lo s S H locs) (hl : lv_has ls 2 [(0, .ref a0)]) (h : wb_X9_advance_168 bc bs u v S a0 Q E) : W p l e ({ frames := 7, cells := bc, slots := bs, locals := 118 } : Room) s m args below meth c H locs u v (vx_MQ below (q_Q D cy lo Q) (q_XE D cy lo E) args s bc bs (fun q => lo ≤ q)) (F0 m 168 ls []) := by
  have hx := X.1
  have hb := X.2.1
  unfold wb_X9_advance_168 at h
  refine lv_aload_n hx hb dX9_advance_168 rfl (lv_at hl 0 rfl) ?_
  obtain ⟨k2_, h⟩ := h
  refine q_getI X Y kX9 8 rfl fl_X9_119 k2_ dX9_advance_169 ?_
  refine lv_iconst (v := 1) hx hb dX9_advance_172 (by decide) ?_
  refine lv_icmp_ne (tgt := 185) hx hb dX9_advance_173 (by decide) (fun c3_ => ?_) (fun c3_ => ?_)
  · replace h := h.1 c3_
    exact cb_X9_advance_185 X hex hst hu Y (lv_sub hl [] rfl) h
  · replace h := h.2 c3_
    refine lv_aload_n hx hb dX9_advance_176 rfl (lv_at hl 0 rfl) ?_
    refine lv_iconst (v := 2) hx hb dX9_advance_177 (by decide) ?_
    refine lv_aload_n hx hb dX9_advance_178 rfl (lv_at hl 0 rfl) ?_
    refine q_getI X Y kX9 11 rfl fl_X9_113 k2_ dX9_advance_179 ?_
    obtain ⟨m6_, m7_, w8_, h⟩ := h
    refine q_callVX X hex Y hl (cm_X9_fail hst h) mt_X9_fail mi_X9_fail ml_X9_133 (ci := 9) rfl k2_ (by decide) rfl rfl (by first | exact Nat.le_of_ble_eq_true rfl | simp [q_cat, q_catI, q_catJ, q_catR]) ⟨Nat.le_of_ble_eq_true rfl, Nat.le_of_ble_eq_true rfl⟩ w8_ w8_ dX9_advance_182 (fun r4_ S5_ H locs hp Y => ?_)
    obtain ⟨rfl, h⟩ := hp
    replace hu := w8_
    refine W.eq (g2 := F0 m 185 ls []) rfl ?_
    exact cb_X9_advance_185 X hex hst hu Y (lv_sub hl [] rfl) h
def wb_X9_advance_165 (bc bs : Nat)  (u v : Nat) (S : q_S) (a0 : Nat) (as0 : Nat) (xs1 : Int32) (Q : Option Value → q_S → Prop) (E : String → q_S → Prop) : Prop := q_K S as0 = 10 ∧ (wb_X9_advance_168 bc bs u v (qs_I S 1808 as0 xs1) a0 Q E)
set_option maxHeartbeats 4000000 in
set_option maxRecDepth 100000 in
theorem cb_X9_advance_165 {p : Program} {l : Launch} {e : Env} {s : State} {m : MethodId} {args : Array Value} {below : List Frame} {meth : Method} {c : Code} {D : va_G} {cy : Nat → ClassId} {lo : Nat} {bc bs : Nat}  {u v : Nat} {S : q_S} {a0 : Nat} {as0 : Nat} {xs1 : Int32} {Q : Option Value → q_S → Prop} {E : String → q_S → Prop} {H : Heap} {locs : List Loc} {ls : Array Slot} (X : q_X p s m args meth c RX9 cX9_advance 2 none D cy lo) (hex : ∀ x ∈ c.exceptionTable.toList, False) (hst : l.stackTraces = false)  (hu : u ≤ bc ∧ v ≤ bs) (Y : q_Y D cy lo s S H locs) (hl : lv_has ls 2 [(0, .ref a0)]) (h : wb_X9_advance_165 bc bs u v S a0 as0 xs1 Q E) : W p l e ({ frames := 7, cells := bc, slots := bs, locals := 118 } : Room) s m args below meth c H locs u v (vx_MQ below (q_Q D cy lo Q) (q_XE D cy lo E) args s bc bs (fun q => lo ≤ q)) (F0 m 165 ls [.int xs1, .ref as0]) := by
  have hx := X.1
  have hb := X.2.1
  unfold wb_X9_advance_165 at h
  obtain ⟨k9_, h⟩ := h
  refine q_putI X Y kX9 8 rfl fl_X9_119 k9_ .int rfl ⟨rfl, rfl⟩ rfl dX9_advance_165 (fun H locs Y => ?_)
  exact cb_X9_advance_168 X hex hst hu Y (lv_sub hl [0] rfl) h
def wb_X9_advance_164 (bc bs : Nat)  (u v : Nat) (S : q_S) (a0 : Nat) (as0 : Nat) (Q : Option Value → q_S → Prop) (E : String → q_S → Prop) : Prop := wb_X9_advance_165 bc bs u v S a0 as0 (1 : Int32) Q E
set_option maxHeartbeats 4000000 in
set_option maxRecDepth 100000 in
theorem cb_X9_advance_164 {p : Program} {l : Launch} {e : Env} {s : State} {m : MethodId} {args : Array Value} {below : List Frame} {meth : Method} {c : Code} {D : va_G} {cy : Nat → ClassId} {lo : Nat} {bc bs : Nat}  {u v : Nat} {S : q_S} {a0 : Nat} {as0 : Nat} {Q : Option Value → q_S → Prop} {E : String → q_S → Prop} {H : Heap} {locs : List Loc} {ls : Array Slot} (X : q_X p s m args meth c RX9 cX9_advance 2 none D cy lo) (hex : ∀ x ∈ c.exceptionTable.toList, False) (hst : l.stackTraces = false)  (hu : u ≤ bc ∧ v ≤ bs) (Y : q_Y D cy lo s S H locs) (hl : lv_has ls 2 [(0, .ref a0)]) (h : wb_X9_advance_164 bc bs u v S a0 as0 Q E) : W p l e ({ frames := 7, cells := bc, slots := bs, locals := 118 } : Room) s m args below meth c H locs u v (vx_MQ below (q_Q D cy lo Q) (q_XE D cy lo E) args s bc bs (fun q => lo ≤ q)) (F0 m 164 ls [.ref as0]) := by
  have hx := X.1
  have hb := X.2.1
  unfold wb_X9_advance_164 at h
  refine lv_iconst (v := 1) hx hb dX9_advance_164 (by decide) ?_
  exact cb_X9_advance_165 X hex hst hu Y (lv_sub hl [0] rfl) h
def wb_X9_advance_130 (bc bs : Nat)  (u v : Nat) (S : q_S) (a0 : Nat) (x1 : Int32) (Q : Option Value → q_S → Prop) (E : String → q_S → Prop) : Prop := q_K S a0 = 10 ∧ (((x1 ≤ 0 → (wb_X9_advance_164 bc bs u v (qs_I (qs_I S 1807 a0 ((q_I S 1807 a0) + (1 : Int32))) 1809 a0 x1) a0 a0 Q E)) ∧ (¬ x1 ≤ 0 → (∀ b12_ : Nat, q_K (qs_I (qs_I S 1807 a0 ((q_I S 1807 a0) + (1 : Int32))) 1809 a0 x1) b12_ = 30 → q_N (qs_I (qs_I S 1807 a0 ((q_I S 1807 a0) + (1 : Int32))) 1809 a0 x1) b12_ = 2 → (wm_J0_indexOf_0f7a4 (qs_I (qs_I S 1807 a0 ((q_I S 1807 a0) + (1 : Int32))) 1809 a0 x1) b12_ ((x1.toUInt32 % 65536).toInt32) (fun r15_ S16_ => ∃ x17_ : Int32, r15_ = some (.int x17_) ∧ (((x17_ < 0 → (wb_X9_advance_164 bc bs u v S16_ a0 a0 Q E)) ∧ (¬ x17_ < 0 → (wb_X9_advance_165 bc bs u v S16_ a0 a0 (4 : Int32) Q E))))))))))
set_option maxHeartbeats 4000000 in
set_option maxRecDepth 100000 in
theorem cb_X9_advance_130 {p : Program} {l : Launch} {e : Env} {s : State} {m : MethodId} {args : Array Value} {below : List Frame} {meth : Method} {c : Code} {D : va_G} {cy : Nat → ClassId} {lo : Nat} {bc bs : Nat}  {u v : Nat} {S : q_S} {a0 : Nat} {x1 : Int32} {Q : Option Value → q_S → Prop} {E : String → q_S → Prop} {H : Heap} {locs : List Loc} {ls : Array Slot} (X : q_X p s m args meth c RX9 cX9_advance 2 none D cy lo) (hex : ∀ x ∈ c.exceptionTable.toList, False) (hst : l.stackTraces = false)  (hu : u ≤ bc ∧ v ≤ bs) (Y : q_Y D cy lo s S H locs) (hl : lv_has ls 2 [(0, .ref a0), (1, .int x1)]) (h : wb_X9_advance_130 bc bs u v S a0 x1 Q E) : W p l e ({ frames := 7, cells := bc, slots := bs, locals := 118 } : Room) s m args below meth c H locs u v (vx_MQ below (q_Q D cy lo Q) (q_XE D cy lo E) args s bc bs (fun q => lo ≤ q)) (F0 m 130 ls []) := by
  have hx := X.1
  have hb := X.2.1
  unfold wb_X9_advance_130 at h
  refine lv_aload_n hx hb dX9_advance_130 rfl (lv_at hl 0 rfl) ?_
  refine lv_dup hx hb dX9_advance_131 rfl ?_
  obtain ⟨k10_, h⟩ := h
  refine q_getI X Y kX9 7 rfl fl_X9_69 k10_ dX9_advance_132 ?_
  refine lv_iconst (v := 1) hx hb dX9_advance_135 (by decide) ?_
  refine lv_iadd hx hb dX9_advance_136 ?_
  refine q_putI X Y kX9 7 rfl fl_X9_69 k10_ .int rfl ⟨rfl, rfl⟩ rfl dX9_advance_137 (fun H locs Y => ?_)
  refine lv_aload_n hx hb dX9_advance_140 rfl (lv_at hl 0 rfl) ?_
  refine lv_iload_n hx hb dX9_advance_141 rfl (lv_at hl 1 rfl) ?_
  refine q_putI X Y kX9 9 rfl fl_X9_116 k10_ .int rfl ⟨rfl, rfl⟩ rfl dX9_advance_142 (fun H locs Y => ?_)
  refine lv_aload_n hx hb dX9_advance_145 rfl (lv_at hl 0 rfl) ?_
  refine lv_iload_n hx hb dX9_advance_146 rfl (lv_at hl 1 rfl) ?_
  refine lv_if_le (tgt := 164) hx hb dX9_advance_147 (by decide) (fun c11_ => ?_) (fun c11_ => ?_)
  · replace h := h.1 c11_
    exact cb_X9_advance_164 X hex hst hu Y (lv_sub hl [0] rfl) h
  · replace h := h.2 c11_
    refine q_ldcs X Y 2 rfl (by decide) dX9_advance_150 (fun b12_ k13_ k14_ => ?_)
    replace h := h b12_ k13_ k14_
    refine lv_iload_n hx hb dX9_advance_152 rfl (lv_at hl 1 rfl) ?_
    refine lv_i2c hx hb dX9_advance_153 rfl ?_
    refine q_callT X Y hl (cm_J0_indexOf_0f7a4 h) mt_J0_indexOf_0f7a4 mi_J0_indexOf_0f7a4 ml_X9_130 rfl k13_ rfl rfl (by first | exact Nat.le_of_ble_eq_true rfl | simp [q_cat, q_catI, q_catJ, q_catR]) ⟨Nat.le_of_ble_eq_true rfl, Nat.le_of_ble_eq_true rfl⟩ hu dX9_advance_154 (fun r15_ S16_ H locs hp Y => ?_)
    obtain ⟨x17_, rfl, h⟩ := hp
    refine W.eq (g2 := F0 m 157 ls [.int x17_, .ref a0]) rfl ?_
    refine lv_if_lt (tgt := 164) hx hb dX9_advance_157 (by decide) (fun c18_ => ?_) (fun c18_ => ?_)
    · replace h := h.1 c18_
      exact cb_X9_advance_164 X hex hst hu Y (lv_sub hl [0] rfl) h
    · replace h := h.2 c18_
      refine lv_iconst (v := 4) hx hb dX9_advance_160 (by decide) ?_
      refine lv_goto (tgt := 165) hx hb dX9_advance_161 (by decide) ?_
      exact cb_X9_advance_165 X hex hst hu Y (lv_sub hl [0] rfl) h
def wb_X9_advance_111 (bc bs : Nat)  (u v : Nat) (S : q_S) (a0 : Nat) (x1 : Int32) (Q : Option Value → q_S → Prop) (E : String → q_S → Prop) : Prop := ((x1 < (48 : Int32) → (wb_X9_advance_130 bc bs u v S a0 x1 Q E)) ∧ (¬ x1 < (48 : Int32) → ((((57 : Int32) < x1 → (wb_X9_advance_130 bc bs u v S a0 x1 Q E)) ∧ (¬ (57 : Int32) < x1 → (q_K S a0 = 10 ∧ (wm_X9_scanNumber S a0 (fun r22_ S23_ => r22_ = none ∧ (wb_X9_advance_168 bc bs u v S23_ a0 Q E)))))))))
set_option maxHeartbeats 4000000 in
set_option maxRecDepth 100000 in
theorem cb_X9_advance_111 {p : Program} {l : Launch} {e : Env} {s : State} {m : MethodId} {args : Array Value} {below : List Frame} {meth : Method} {c : Code} {D : va_G} {cy : Nat → ClassId} {lo : Nat} {bc bs : Nat}  {u v : Nat} {S : q_S} {a0 : Nat} {x1 : Int32} {Q : Option Value → q_S → Prop} {E : String → q_S → Prop} {H : Heap} {locs : List Loc} {ls : Array Slot} (X : q_X p s m args meth c RX9 cX9_advance 2 none D cy lo) (hex : ∀ x ∈ c.exceptionTable.toList, False) (hst : l.stackTraces = false)  (hu : u ≤ bc ∧ v ≤ bs) (Y : q_Y D cy lo s S H locs) (hl : lv_has ls 2 [(0, .ref a0), (1, .int x1)]) (h : wb_X9_advance_111 bc bs u v S a0 x1 Q E) : W p l e ({ frames := 7, cells := bc, slots := bs, locals := 118 } : Room) s m args below meth c H locs u v (vx_MQ below (q_Q D cy lo Q) (q_XE D cy lo E) args s bc bs (fun q => lo ≤ q)) (F0 m 111 ls []) := by
  have hx := X.1
  have hb := X.2.1
  unfold wb_X9_advance_111 at h
  refine lv_iload_n hx hb dX9_advance_111 rfl (lv_at hl 1 rfl) ?_
  refine lv_bipush (v := 48) hx hb dX9_advance_112 (by decide) ?_
  refine lv_icmp_lt (tgt := 130) hx hb dX9_advance_114 (by decide) (fun c19_ => ?_) (fun c19_ => ?_)
  · replace h := h.1 c19_
    exact cb_X9_advance_130 X hex hst hu Y (lv_sub hl [0, 1] rfl) h
  · replace h := h.2 c19_
    refine lv_iload_n hx hb dX9_advance_117 rfl (lv_at hl 1 rfl) ?_
    refine lv_bipush (v := 57) hx hb dX9_advance_118 (by decide) ?_
    refine lv_icmp_gt (tgt := 130) hx hb dX9_advance_120 (by decide) (fun c20_ => ?_) (fun c20_ => ?_)
    · replace h := h.1 c20_
      exact cb_X9_advance_130 X hex hst hu Y (lv_sub hl [0, 1] rfl) h
    · replace h := h.2 c20_
      refine lv_aload_n hx hb dX9_advance_123 rfl (lv_at hl 0 rfl) ?_
      obtain ⟨k21_, h⟩ := h
      refine q_callV X Y hl (cm_X9_scanNumber h) mt_X9_scanNumber mi_X9_scanNumber ml_X9_125 (ci := 9) rfl k21_ (by decide) rfl rfl (by first | exact Nat.le_of_ble_eq_true rfl | simp [q_cat, q_catI, q_catJ, q_catR]) ⟨Nat.le_of_ble_eq_true rfl, Nat.le_of_ble_eq_true rfl⟩ hu dX9_advance_124 (fun r22_ S23_ H locs hp Y => ?_)
      obtain ⟨rfl, h⟩ := hp
      refine W.eq (g2 := F0 m 127 ls []) rfl ?_
      refine lv_goto (tgt := 168) hx hb dX9_advance_127 (by decide) ?_
      exact cb_X9_advance_168 X hex hst hu Y (lv_sub hl [0] rfl) h
def wb_X9_advance_52 (bc bs : Nat)  (u v : Nat) (S : q_S) (a0 : Nat) (Q : Option Value → q_S → Prop) (E : String → q_S → Prop) : Prop := q_K S a0 = 10 ∧ ((((q_I (qs_I (qs_I S 1811 a0 (q_I S 1807 a0)) 1809 a0 (-1 : Int32)) 1807 a0) < (q_I (qs_I (qs_I S 1811 a0 (q_I S 1807 a0)) 1809 a0 (-1 : Int32)) 1806 a0) → (∃ a26_ : Nat, (q_P (qs_I (qs_I S 1811 a0 (q_I S 1807 a0)) 1809 a0 (-1 : Int32)) 1802 a0) = some a26_ ∧ (q_K (qs_I (qs_I S 1811 a0 (q_I S 1807 a0)) 1809 a0 (-1 : Int32)) a26_ = 20 ∧ (vp_in (q_I (qs_I (qs_I S 1811 a0 (q_I S 1807 a0)) 1809 a0 (-1 : Int32)) 1807 a0) (q_N (qs_I (qs_I S 1811 a0 (q_I S 1807 a0)) 1809 a0 (-1 : Int32)) a26_) ∧ ((((q_A (qs_I (qs_I S 1811 a0 (q_I S 1807 a0)) 1809 a0 (-1 : Int32)) a26_ (q_I (qs_I (qs_I S 1811 a0 (q_I S 1807 a0)) 1809 a0 (-1 : Int32)) 1807 a0).toNatClampNeg) < (97 : Int32) → (wb_X9_advance_111 bc bs u v (qs_I (qs_I S 1811 a0 (q_I S 1807 a0)) 1809 a0 (-1 : Int32)) a0 (q_A (qs_I (qs_I S 1811 a0 (q_I S 1807 a0)) 1809 a0 (-1 : Int32)) a26_ (q_I (qs_I (qs_I S 1811 a0 (q_I S 1807 a0)) 1809 a0 (-1 : Int32)) 1807 a0).toNatClampNeg) Q E)) ∧ (¬ (q_A (qs_I (qs_I S 1811 a0 (q_I S 1807 a0)) 1809 a0 (-1 : Int32)) a26_ (q_I (qs_I (qs_I S 1811 a0 (q_I S 1807 a0)) 1809 a0 (-1 : Int32)) 1807 a0).toNatClampNeg) < (97 : Int32) → ((((122 : Int32) < (q_A (qs_I (qs_I S 1811 a0 (q_I S 1807 a0)) 1809 a0 (-1 : Int32)) a26_ (q_I (qs_I (qs_I S 1811 a0 (q_I S 1807 a0)) 1809 a0 (-1 : Int32)) 1807 a0).toNatClampNeg) → (wb_X9_advance_111 bc bs u v (qs_I (qs_I S 1811 a0 (q_I S 1807 a0)) 1809 a0 (-1 : Int32)) a0 (q_A (qs_I (qs_I S 1811 a0 (q_I S 1807 a0)) 1809 a0 (-1 : Int32)) a26_ (q_I (qs_I (qs_I S 1811 a0 (q_I S 1807 a0)) 1809 a0 (-1 : Int32)) 1807 a0).toNatClampNeg) Q E)) ∧ (¬ (122 : Int32) < (q_A (qs_I (qs_I S 1811 a0 (q_I S 1807 a0)) 1809 a0 (-1 : Int32)) a26_ (q_I (qs_I (qs_I S 1811 a0 (q_I S 1807 a0)) 1809 a0 (-1 : Int32)) 1807 a0).toNatClampNeg) → (wm_X9_scanName (qs_I (qs_I S 1811 a0 (q_I S 1807 a0)) 1809 a0 (-1 : Int32)) a0 (fun r32_ S33_ => r32_ = none ∧ (wb_X9_advance_168 bc bs u v S33_ a0 Q E))))))))))))) ∧ (¬ (q_I (qs_I (qs_I S 1811 a0 (q_I S 1807 a0)) 1809 a0 (-1 : Int32)) 1807 a0) < (q_I (qs_I (qs_I S 1811 a0 (q_I S 1807 a0)) 1809 a0 (-1 : Int32)) 1806 a0) → (∀ S34_ : q_S, S34_ = (qs_I (qs_I (qs_I S 1811 a0 (q_I S 1807 a0)) 1809 a0 (-1 : Int32)) 1808 a0 (0 : Int32)) → (Q none S34_)))))
set_option maxHeartbeats 4000000 in
set_option maxRecDepth 100000 in
theorem cb_X9_advance_52 {p : Program} {l : Launch} {e : Env} {s : State} {m : MethodId} {args : Array Value} {below : List Frame} {meth : Method} {c : Code} {D : va_G} {cy : Nat → ClassId} {lo : Nat} {bc bs : Nat}  {u v : Nat} {S : q_S} {a0 : Nat} {Q : Option Value → q_S → Prop} {E : String → q_S → Prop} {H : Heap} {locs : List Loc} {ls : Array Slot} (X : q_X p s m args meth c RX9 cX9_advance 2 none D cy lo) (hex : ∀ x ∈ c.exceptionTable.toList, False) (hst : l.stackTraces = false)  (hu : u ≤ bc ∧ v ≤ bs) (Y : q_Y D cy lo s S H locs) (hl : lv_has ls 2 [(0, .ref a0)]) (h : wb_X9_advance_52 bc bs u v S a0 Q E) : W p l e ({ frames := 7, cells := bc, slots := bs, locals := 118 } : Room) s m args below meth c H locs u v (vx_MQ below (q_Q D cy lo Q) (q_XE D cy lo E) args s bc bs (fun q => lo ≤ q)) (F0 m 52 ls []) := by
  have hx := X.1
  have hb := X.2.1
  unfold wb_X9_advance_52 at h
  refine lv_aload_n hx hb dX9_advance_52 rfl (lv_at hl 0 rfl) ?_
  refine lv_aload_n hx hb dX9_advance_53 rfl (lv_at hl 0 rfl) ?_
  obtain ⟨k24_, h⟩ := h
  refine q_getI X Y kX9 7 rfl fl_X9_69 k24_ dX9_advance_54 ?_
  refine q_putI X Y kX9 11 rfl fl_X9_113 k24_ .int rfl ⟨rfl, rfl⟩ rfl dX9_advance_57 (fun H locs Y => ?_)
  refine lv_aload_n hx hb dX9_advance_60 rfl (lv_at hl 0 rfl) ?_
  refine lv_iconst (v := (-1)) hx hb dX9_advance_61 (by decide) ?_
  refine q_putI X Y kX9 9 rfl fl_X9_116 k24_ .int rfl ⟨rfl, rfl⟩ rfl dX9_advance_62 (fun H locs Y => ?_)
  refine lv_aload_n hx hb dX9_advance_65 rfl (lv_at hl 0 rfl) ?_
  refine q_getI X Y kX9 7 rfl fl_X9_69 k24_ dX9_advance_66 ?_
  refine lv_aload_n hx hb dX9_advance_69 rfl (lv_at hl 0 rfl) ?_
  refine q_getI X Y kX9 6 rfl fl_X9_66 k24_ dX9_advance_70 ?_
  refine lv_icmp_lt (tgt := 82) hx hb dX9_advance_73 (by decide) (fun c25_ => ?_) (fun c25_ => ?_)
  · replace h := h.1 c25_
    refine lv_aload_n hx hb dX9_advance_82 rfl (lv_at hl 0 rfl) ?_
    refine q_getP X Y kX9 2 rfl fl_X9_18 k24_ rfl dX9_advance_83 ?_
    refine lv_aload_n hx hb dX9_advance_86 rfl (lv_at hl 0 rfl) ?_
    refine q_getI X Y kX9 7 rfl fl_X9_69 k24_ dX9_advance_87 ?_
    obtain ⟨a26_, e27_, h⟩ := h
    refine q_nn [.int (q_I (qs_I (qs_I S 1811 a0 (q_I S 1807 a0)) 1809 a0 (-1 : Int32)) 1807 a0)] e27_ ?_
    obtain ⟨k28_, h⟩ := h
    obtain ⟨i29_, h⟩ := h
    refine q_bld X Y k28_ i29_ dX9_advance_90 ?_
    refine lv_istore_n (i := 1) (lv' := [(1, .int (q_A (qs_I (qs_I S 1811 a0 (q_I S 1807 a0)) 1809 a0 (-1 : Int32)) a26_ (q_I (qs_I (qs_I S 1811 a0 (q_I S 1807 a0)) 1809 a0 (-1 : Int32)) 1807 a0).toNatClampNeg)), (0, .ref a0)]) hx hb dX9_advance_91 rfl hl (by decide) (by first | rfl | simp [q_cat, q_catI, q_catJ, q_catR]) (fun ls hl => ?_)
    refine lv_iload_n hx hb dX9_advance_92 rfl (lv_at hl 0 rfl) ?_
    refine lv_bipush (v := 97) hx hb dX9_advance_93 (by decide) ?_
    refine lv_icmp_lt (tgt := 111) hx hb dX9_advance_95 (by decide) (fun c30_ => ?_) (fun c30_ => ?_)
    · replace h := h.1 c30_
      exact cb_X9_advance_111 X hex hst hu Y (lv_sub hl [1, 0] rfl) h
    · replace h := h.2 c30_
      refine lv_iload_n hx hb dX9_advance_98 rfl (lv_at hl 0 rfl) ?_
      refine lv_bipush (v := 122) hx hb dX9_advance_99 (by decide) ?_
      refine lv_icmp_gt (tgt := 111) hx hb dX9_advance_101 (by decide) (fun c31_ => ?_) (fun c31_ => ?_)
      · replace h := h.1 c31_
        exact cb_X9_advance_111 X hex hst hu Y (lv_sub hl [1, 0] rfl) h
      · replace h := h.2 c31_
        refine lv_aload_n hx hb dX9_advance_104 rfl (lv_at hl 1 rfl) ?_
        refine q_callV X Y hl (cm_X9_scanName h) mt_X9_scanName mi_X9_scanName ml_X9_122 (ci := 9) rfl k24_ (by decide) rfl rfl (by first | exact Nat.le_of_ble_eq_true rfl | simp [q_cat, q_catI, q_catJ, q_catR]) ⟨Nat.le_of_ble_eq_true rfl, Nat.le_of_ble_eq_true rfl⟩ hu dX9_advance_105 (fun r32_ S33_ H locs hp Y => ?_)
        obtain ⟨rfl, h⟩ := hp
        refine W.eq (g2 := F0 m 108 ls []) rfl ?_
        refine lv_goto (tgt := 168) hx hb dX9_advance_108 (by decide) ?_
        exact cb_X9_advance_168 X hex hst hu Y (lv_sub hl [1] rfl) h
  · replace h := h.2 c25_
    refine lv_aload_n hx hb dX9_advance_76 rfl (lv_at hl 0 rfl) ?_
    refine lv_iconst (v := 0) hx hb dX9_advance_77 (by decide) ?_
    refine q_putI X Y kX9 8 rfl fl_X9_119 k24_ .int rfl ⟨rfl, rfl⟩ rfl dX9_advance_78 (fun H locs Y => ?_)
    obtain ⟨S34_, gS34_⟩ : ∃ z : q_S, z = (qs_I (qs_I (qs_I S 1811 a0 (q_I S 1807 a0)) 1809 a0 (-1 : Int32)) 1808 a0 (0 : Int32)) := ⟨_, rfl⟩
    replace Y : q_Y D cy lo s S34_ H locs := by rw [gS34_]; exact Y
    replace h := h S34_ gS34_
    replace k24_ : q_K S34_ a0 = 10 := by rw [gS34_]; exact k24_
    exact vx_ret <| q_vret X Y hu.1 hu.2 h dX9_advance_81
def wb_X9_advance_0 (bc bs : Nat) (B0 : Nat → Nat → q_S → Nat → Prop) (u v : Nat) (S : q_S) (a0 : Nat) (Q : Option Value → q_S → Prop) (E : String → q_S → Prop) : Prop := q_K S a0 = 10 ∧ ((((q_I S 1806 a0) ≤ (q_I S 1807 a0) → (wb_X9_advance_52 bc bs u v S a0 Q E)) ∧ (¬ (q_I S 1806 a0) ≤ (q_I S 1807 a0) → (∃ a37_ : Nat, (q_P S 1802 a0) = some a37_ ∧ (q_K S a37_ = 20 ∧ (vp_in (q_I S 1807 a0) (q_N S a37_) ∧ ((((q_A S a37_ (q_I S 1807 a0).toNatClampNeg) = (32 : Int32) → (wb_X9_advance_39 bc bs B0 u v S a0 Q E)) ∧ (¬ (q_A S a37_ (q_I S 1807 a0).toNatClampNeg) = (32 : Int32) → (vp_in (q_I S 1807 a0) (q_N S a37_) ∧ (((¬ (q_A S a37_ (q_I S 1807 a0).toNatClampNeg) = (10 : Int32) → (wb_X9_advance_52 bc bs u v S a0 Q E)) ∧ ((q_A S a37_ (q_I S 1807 a0).toNatClampNeg) = (10 : Int32) → (wb_X9_advance_39 bc bs B0 u v S a0 Q E))))))))))))))
set_option maxHeartbeats 4000000 in
set_option maxRecDepth 100000 in
theorem cb_X9_advance_0 {p : Program} {l : Launch} {e : Env} {s : State} {m : MethodId} {args : Array Value} {below : List Frame} {meth : Method} {c : Code} {D : va_G} {cy : Nat → ClassId} {lo : Nat} {bc bs : Nat} {B0 : Nat → Nat → q_S → Nat → Prop} {u v : Nat} {S : q_S} {a0 : Nat} {Q : Option Value → q_S → Prop} {E : String → q_S → Prop} {H : Heap} {locs : List Loc} {ls : Array Slot} (X : q_X p s m args meth c RX9 cX9_advance 2 none D cy lo) (hex : ∀ x ∈ c.exceptionTable.toList, False) (hst : l.stackTraces = false) (hB0 : ∀ (u v : Nat) (S : q_S) (a0 : Nat) (H : Heap) (locs : List Loc) (ls : Array Slot), B0 u v S a0 → (u ≤ bc ∧ v ≤ bs) → q_Y D cy lo s S H locs → lv_has ls 2 [(0, .ref a0)] → W p l e ({ frames := 7, cells := bc, slots := bs, locals := 118 } : Room) s m args below meth c H locs u v (vx_MQ below (q_Q D cy lo Q) (q_XE D cy lo E) args s bc bs (fun q => lo ≤ q)) (F0 m 0 ls [])) (hu : u ≤ bc ∧ v ≤ bs) (Y : q_Y D cy lo s S H locs) (hl : lv_has ls 2 [(0, .ref a0)]) (h : wb_X9_advance_0 bc bs B0 u v S a0 Q E) : W p l e ({ frames := 7, cells := bc, slots := bs, locals := 118 } : Room) s m args below meth c H locs u v (vx_MQ below (q_Q D cy lo Q) (q_XE D cy lo E) args s bc bs (fun q => lo ≤ q)) (F0 m 0 ls []) := by
  have hx := X.1
  have hb := X.2.1
  unfold wb_X9_advance_0 at h
  refine lv_aload_n hx hb dX9_advance_0 rfl (lv_at hl 0 rfl) ?_
  obtain ⟨k35_, h⟩ := h
  refine q_getI X Y kX9 7 rfl fl_X9_69 k35_ dX9_advance_1 ?_
  refine lv_aload_n hx hb dX9_advance_4 rfl (lv_at hl 0 rfl) ?_
  refine q_getI X Y kX9 6 rfl fl_X9_66 k35_ dX9_advance_5 ?_
  refine lv_icmp_ge (tgt := 52) hx hb dX9_advance_8 (by decide) (fun c36_ => ?_) (fun c36_ => ?_)
  · replace h := h.1 c36_
    exact cb_X9_advance_52 X hex hst hu Y (lv_sub hl [0] rfl) h
  · replace h := h.2 c36_
    refine lv_aload_n hx hb dX9_advance_11 rfl (lv_at hl 0 rfl) ?_
    refine q_getP X Y kX9 2 rfl fl_X9_18 k35_ rfl dX9_advance_12 ?_
    refine lv_aload_n hx hb dX9_advance_15 rfl (lv_at hl 0 rfl) ?_
    refine q_getI X Y kX9 7 rfl fl_X9_69 k35_ dX9_advance_16 ?_
    obtain ⟨a37_, e38_, h⟩ := h
    refine q_nn [.int (q_I S 1807 a0)] e38_ ?_
    obtain ⟨k39_, h⟩ := h
    obtain ⟨i40_, h⟩ := h
    refine q_bld X Y k39_ i40_ dX9_advance_19 ?_
    refine lv_bipush (v := 32) hx hb dX9_advance_20 (by decide) ?_
    refine lv_icmp_eq (tgt := 39) hx hb dX9_advance_22 (by decide) (fun c41_ => ?_) (fun c41_ => ?_)
    · replace h := h.1 c41_
      exact cb_X9_advance_39 X hex hst hB0 hu Y (lv_sub hl [0] rfl) h
    · replace h := h.2 c41_
      refine lv_aload_n hx hb dX9_advance_25 rfl (lv_at hl 0 rfl) ?_
      refine q_getR X Y kX9 2 rfl fl_X9_18 k35_ e38_ dX9_advance_26 ?_
      refine lv_aload_n hx hb dX9_advance_29 rfl (lv_at hl 0 rfl) ?_
      refine q_getI X Y kX9 7 rfl fl_X9_69 k35_ dX9_advance_30 ?_
      obtain ⟨i42_, h⟩ := h
      refine q_bld X Y k39_ i42_ dX9_advance_33 ?_
      refine lv_bipush (v := 10) hx hb dX9_advance_34 (by decide) ?_
      refine lv_icmp_ne (tgt := 52) hx hb dX9_advance_36 (by decide) (fun c43_ => ?_) (fun c43_ => ?_)
      · replace h := h.1 c43_
        exact cb_X9_advance_52 X hex hst hu Y (lv_sub hl [0] rfl) h
      · replace h := h.2 c43_
        exact cb_X9_advance_39 X hex hst hB0 hu Y (lv_sub hl [0] rfl) h
def wl_X9_advance_0 (bc bs : Nat)  : Nat → Nat → Nat → q_S → Nat → (Option Value → q_S → Prop) → (String → q_S → Prop) → Prop
  | 0, _, _, _, _, _, _ => False
  | n + 1, u, v, S, a0, Q, E => wb_X9_advance_0 bc bs (fun u v S a0 => wl_X9_advance_0 bc bs n u v S a0 Q E) u v S a0 Q E
set_option maxHeartbeats 4000000 in
set_option maxRecDepth 100000 in
theorem cl_X9_advance_0 {p : Program} {l : Launch} {e : Env} {s : State} {m : MethodId} {args : Array Value} {below : List Frame} {meth : Method} {c : Code} {D : va_G} {cy : Nat → ClassId} {lo : Nat} {bc bs : Nat}  {Q : Option Value → q_S → Prop} {E : String → q_S → Prop} (X : q_X p s m args meth c RX9 cX9_advance 2 none D cy lo) (hex : ∀ x ∈ c.exceptionTable.toList, False) (hst : l.stackTraces = false)  : ∀ (n : Nat) (u v : Nat) (S : q_S) (a0 : Nat) (H : Heap) (locs : List Loc) (ls : Array Slot), wl_X9_advance_0 bc bs n u v S a0 Q E → (u ≤ bc ∧ v ≤ bs) → q_Y D cy lo s S H locs → lv_has ls 2 [(0, .ref a0)] → W p l e ({ frames := 7, cells := bc, slots := bs, locals := 118 } : Room) s m args below meth c H locs u v (vx_MQ below (q_Q D cy lo Q) (q_XE D cy lo E) args s bc bs (fun q => lo ≤ q)) (F0 m 0 ls []) := by
  intro n
  induction n with
  | zero => intro u v S a0 H locs ls h; exact absurd h id
  | succ n ih => intro u v S a0 H locs ls h hu Y hl; exact cb_X9_advance_0 X hex hst ih hu Y hl h
def wm_X9_advance (bc bs : Nat) (S : q_S) (a0 : Nat) (Q : Option Value → q_S → Prop) (E : String → q_S → Prop) : Prop := ∃ n44_ : Nat, wl_X9_advance_0 bc bs n44_ 0 0 S a0 Q E
set_option maxHeartbeats 4000000 in
set_option maxRecDepth 100000 in
theorem cm_X9_advance {l : Launch} {D : va_G} {cy : Nat → ClassId} {lo : Nat} {bc bs : Nat} {S : q_S} {a0 : Nat} {Q : Option Value → q_S → Prop} {E : String → q_S → Prop} (hst : l.stackTraces = false) (h : wm_X9_advance bc bs S a0 Q E) : q_MetX l D cy lo yX9_advance cX9_advance 2 none 7 118 bc bs [.ref a0] S Q E := by
  refine q_bodyX (by decide) (by first | exact Nat.le_of_ble_eq_true rfl | simp [lg_sl, q_cat, q_catI, q_catJ, q_catR]) ?_
  intro p e s m below meth c ls X hex Y hl
  have hx := X.1
  have hb := X.2.1
  have hl : lv_has ls 2 [(0, .ref a0)] := by first | exact hl | simpa [lv_args, q_cat, q_catI, q_catJ, q_catR] using hl
  generalize hargs : ([.ref a0] : List Value).toArray = args at X ⊢
  have hu : 0 ≤ bc ∧ 0 ≤ bs := ⟨Nat.zero_le _, Nat.zero_le _⟩
  unfold wm_X9_advance at h
  obtain ⟨n44_, h⟩ := h
  exact cl_X9_advance_0 X hex hst n44_ _ _ _ _ _ _ _ h hu Y (lv_sub hl [0] rfl)
-- X9_expect
theorem ml_X9_78 : Cond.methodLink RX9 78 yX9_advance ∈ q_G := q_tb (i := 482) (by decide +kernel) (by decide +kernel)
theorem mt_X9_advance : q_Mt yX9_advance cX9_advance 2 none 0 := ⟨q_tb (i := 485) (by decide +kernel) (by decide +kernel), q_tb (i := 2) (by decide +kernel) (by decide +kernel), by decide +kernel, by decide +kernel, by decide +kernel⟩
theorem mi_X9_advance : Cond.instanceMethod yX9_advance ∈ q_G ∧ Cond.selects yX9_advance.cls yX9_advance yX9_advance ∈ q_G := ⟨q_tb (i := 484) (by decide +kernel) (by decide +kernel), q_tp (i := 4) (q := (yX9_advance, 14)) (by decide +kernel) (by decide +kernel)⟩
theorem dX9_expect_0 : decode cX9_expect 0 = .ok (.aload_n 0, 1) := by decide +kernel
theorem dX9_expect_1 : decode cX9_expect 1 = .ok (.iload_n 1, 1) := by decide +kernel
theorem dX9_expect_2 : decode cX9_expect 2 = .ok (.invokevirtual 81, 3) := by decide +kernel
theorem dX9_expect_5 : decode cX9_expect 5 = .ok (.ifCond .ne 12, 3) := by decide +kernel
theorem dX9_expect_8 : decode cX9_expect 8 = .ok (.aload_n 0, 1) := by decide +kernel
theorem dX9_expect_9 : decode cX9_expect 9 = .ok (.iconst 1, 1) := by decide +kernel
theorem dX9_expect_10 : decode cX9_expect 10 = .ok (.aload_n 0, 1) := by decide +kernel
theorem dX9_expect_11 : decode cX9_expect 11 = .ok (.getfield 113, 3) := by decide +kernel
theorem dX9_expect_14 : decode cX9_expect 14 = .ok (.invokevirtual 133, 3) := by decide +kernel
theorem dX9_expect_17 : decode cX9_expect 17 = .ok (.aload_n 0, 1) := by decide +kernel
theorem dX9_expect_18 : decode cX9_expect 18 = .ok (.invokevirtual 78, 3) := by decide +kernel
theorem dX9_expect_21 : decode cX9_expect 21 = .ok (.return_, 1) := by decide +kernel
def wb_X9_expect_17 (bc bs : Nat)  (u v : Nat) (S : q_S) (a0 : Nat) (Q : Option Value → q_S → Prop) (E : String → q_S → Prop) : Prop := q_K S a0 = 10 ∧ (∃ m4_ m5_ : Nat, (u + m4_ ≤ bc ∧ v + m5_ ≤ bs) ∧ (wm_X9_advance m4_ m5_ S a0 (fun r2_ S3_ => r2_ = none ∧ (Q none S3_)) E))
set_option maxHeartbeats 4000000 in
set_option maxRecDepth 100000 in
theorem cb_X9_expect_17 {p : Program} {l : Launch} {e : Env} {s : State} {m : MethodId} {args : Array Value} {below : List Frame} {meth : Method} {c : Code} {D : va_G} {cy : Nat → ClassId} {lo : Nat} {bc bs : Nat}  {u v : Nat} {S : q_S} {a0 : Nat} {Q : Option Value → q_S → Prop} {E : String → q_S → Prop} {H : Heap} {locs : List Loc} {ls : Array Slot} (X : q_X p s m args meth c RX9 cX9_expect 2 none D cy lo) (hex : ∀ x ∈ c.exceptionTable.toList, False) (hst : l.stackTraces = false)  (hu : u ≤ bc ∧ v ≤ bs) (Y : q_Y D cy lo s S H locs) (hl : lv_has ls 2 [(0, .ref a0)]) (h : wb_X9_expect_17 bc bs u v S a0 Q E) : W p l e ({ frames := 8, cells := bc, slots := bs, locals := 139 } : Room) s m args below meth c H locs u v (vx_MQ below (q_Q D cy lo Q) (q_XE D cy lo E) args s bc bs (fun q => lo ≤ q)) (F0 m 17 ls []) := by
  have hx := X.1
  have hb := X.2.1
  unfold wb_X9_expect_17 at h
  refine lv_aload_n hx hb dX9_expect_17 rfl (lv_at hl 0 rfl) ?_
  obtain ⟨k1_, h⟩ := h
  obtain ⟨m4_, m5_, w6_, h⟩ := h
  refine q_callVX X hex Y hl (cm_X9_advance hst h) mt_X9_advance mi_X9_advance ml_X9_78 (ci := 9) rfl k1_ (by decide) rfl rfl (by first | exact Nat.le_of_ble_eq_true rfl | simp [q_cat, q_catI, q_catJ, q_catR]) ⟨Nat.le_of_ble_eq_true rfl, Nat.le_of_ble_eq_true rfl⟩ w6_ w6_ dX9_expect_18 (fun r2_ S3_ H locs hp Y => ?_)
  obtain ⟨rfl, h⟩ := hp
  replace hu := w6_
  refine W.eq (g2 := F0 m 21 ls []) rfl ?_
  exact vx_ret <| q_vret X Y hu.1 hu.2 h dX9_expect_21
def wm_X9_expect (bc bs : Nat) (S : q_S) (a0 : Nat) (x1 : Int32) (Q : Option Value → q_S → Prop) (E : String → q_S → Prop) : Prop := q_K S a0 = 10 ∧ (wm_X9_sees S a0 x1 (fun r8_ S9_ => ∃ x10_ : Int32, r8_ = some (.int x10_) ∧ (((¬ x10_ = 0 → (wb_X9_expect_17 bc bs 0 0 S9_ a0 Q E)) ∧ (x10_ = 0 → (q_K S9_ a0 = 10 ∧ (∃ m15_ m16_ : Nat, (0 + m15_ ≤ bc ∧ 0 + m16_ ≤ bs) ∧ (wm_X9_fail m15_ m16_ S9_ a0 (1 : Int32) (q_I S9_ 1811 a0) (fun r13_ S14_ => r13_ = none ∧ (wb_X9_expect_17 bc bs (0 + m15_) (0 + m16_) S14_ a0 Q E)) E))))))))
set_option maxHeartbeats 4000000 in
set_option maxRecDepth 100000 in
theorem cm_X9_expect {l : Launch} {D : va_G} {cy : Nat → ClassId} {lo : Nat} {bc bs : Nat} {S : q_S} {a0 : Nat} {x1 : Int32} {Q : Option Value → q_S → Prop} {E : String → q_S → Prop} (hst : l.stackTraces = false) (h : wm_X9_expect bc bs S a0 x1 Q E) : q_MetX l D cy lo yX9_expect cX9_expect 2 none 8 139 bc bs [.ref a0, .int x1] S Q E := by
  refine q_bodyX (by decide) (by first | exact Nat.le_of_ble_eq_true rfl | simp [lg_sl, q_cat, q_catI, q_catJ, q_catR]) ?_
  intro p e s m below meth c ls X hex Y hl
  have hx := X.1
  have hb := X.2.1
  have hl : lv_has ls 2 [(0, .ref a0), (1, .int x1)] := by first | exact hl | simpa [lv_args, q_cat, q_catI, q_catJ, q_catR] using hl
  generalize hargs : ([.ref a0, .int x1] : List Value).toArray = args at X ⊢
  have hu : 0 ≤ bc ∧ 0 ≤ bs := ⟨Nat.zero_le _, Nat.zero_le _⟩
  unfold wm_X9_expect at h
  refine lv_aload_n hx hb dX9_expect_0 rfl (lv_at hl 0 rfl) ?_
  refine lv_iload_n hx hb dX9_expect_1 rfl (lv_at hl 1 rfl) ?_
  obtain ⟨k7_, h⟩ := h
  refine q_callV X Y hl (cm_X9_sees h) mt_X9_sees mi_X9_sees ml_X9_81 (ci := 9) rfl k7_ (by decide) rfl rfl (by first | exact Nat.le_of_ble_eq_true rfl | simp [q_cat, q_catI, q_catJ, q_catR]) ⟨Nat.le_of_ble_eq_true rfl, Nat.le_of_ble_eq_true rfl⟩ hu dX9_expect_2 (fun r8_ S9_ H locs hp Y => ?_)
  obtain ⟨x10_, rfl, h⟩ := hp
  refine W.eq (g2 := F0 m 5 ls [.int x10_]) rfl ?_
  refine lv_if_ne (tgt := 17) hx hb dX9_expect_5 (by decide) (fun c11_ => ?_) (fun c11_ => ?_)
  · replace h := h.1 c11_
    exact cb_X9_expect_17 X hex hst hu Y (lv_sub hl [0] rfl) h
  · replace h := h.2 c11_
    refine lv_aload_n hx hb dX9_expect_8 rfl (lv_at hl 0 rfl) ?_
    refine lv_iconst (v := 1) hx hb dX9_expect_9 (by decide) ?_
    refine lv_aload_n hx hb dX9_expect_10 rfl (lv_at hl 0 rfl) ?_
    obtain ⟨k12_, h⟩ := h
    refine q_getI X Y kX9 11 rfl fl_X9_113 k12_ dX9_expect_11 ?_
    obtain ⟨m15_, m16_, w17_, h⟩ := h
    refine q_callVX X hex Y hl (cm_X9_fail hst h) mt_X9_fail mi_X9_fail ml_X9_133 (ci := 9) rfl k12_ (by decide) rfl rfl (by first | exact Nat.le_of_ble_eq_true rfl | simp [q_cat, q_catI, q_catJ, q_catR]) ⟨Nat.le_of_ble_eq_true rfl, Nat.le_of_ble_eq_true rfl⟩ w17_ w17_ dX9_expect_14 (fun r13_ S14_ H locs hp Y => ?_)
    obtain ⟨rfl, h⟩ := hp
    replace hu := w17_
    refine W.eq (g2 := F0 m 17 ls []) rfl ?_
    exact cb_X9_expect_17 X hex hst hu Y (lv_sub hl [0] rfl) h
-- X9_expectSign
theorem ml_X9_141 : Cond.methodLink RX9 141 yX9_seesSign ∈ q_G := q_tb (i := 780) (by decide +kernel) (by decide +kernel)
theorem mt_X9_seesSign : q_Mt yX9_seesSign cX9_seesSign 2 (some .boolean) 1 := ⟨q_tb (i := 783) (by decide +kernel) (by decide +kernel), q_tb (i := 2) (by decide +kernel) (by decide +kernel), by decide +kernel, by decide +kernel, by decide +kernel⟩
theorem mi_X9_seesSign : Cond.instanceMethod yX9_seesSign ∈ q_G ∧ Cond.selects yX9_seesSign.cls yX9_seesSign yX9_seesSign ∈ q_G := ⟨q_tb (i := 782) (by decide +kernel) (by decide +kernel), q_tp (i := 13) (q := (yX9_seesSign, 14)) (by decide +kernel) (by decide +kernel)⟩
theorem dX9_expectSign_0 : decode cX9_expectSign 0 = .ok (.aload_n 0, 1) := by decide +kernel
theorem dX9_expectSign_1 : decode cX9_expectSign 1 = .ok (.iload_n 1, 1) := by decide +kernel
theorem dX9_expectSign_2 : decode cX9_expectSign 2 = .ok (.invokevirtual 141, 3) := by decide +kernel
theorem dX9_expectSign_5 : decode cX9_expectSign 5 = .ok (.ifCond .ne 12, 3) := by decide +kernel
theorem dX9_expectSign_8 : decode cX9_expectSign 8 = .ok (.aload_n 0, 1) := by decide +kernel
theorem dX9_expectSign_9 : decode cX9_expectSign 9 = .ok (.iconst 1, 1) := by decide +kernel
theorem dX9_expectSign_10 : decode cX9_expectSign 10 = .ok (.aload_n 0, 1) := by decide +kernel
theorem dX9_expectSign_11 : decode cX9_expectSign 11 = .ok (.getfield 113, 3) := by decide +kernel
theorem dX9_expectSign_14 : decode cX9_expectSign 14 = .ok (.invokevirtual 133, 3) := by decide +kernel
theorem dX9_expectSign_17 : decode cX9_expectSign 17 = .ok (.aload_n 0, 1) := by decide +kernel
theorem dX9_expectSign_18 : decode cX9_expectSign 18 = .ok (.invokevirtual 78, 3) := by decide +kernel
theorem dX9_expectSign_21 : decode cX9_expectSign 21 = .ok (.return_, 1) := by decide +kernel
def wb_X9_expectSign_17 (bc bs : Nat)  (u v : Nat) (S : q_S) (a0 : Nat) (Q : Option Value → q_S → Prop) (E : String → q_S → Prop) : Prop := q_K S a0 = 10 ∧ (∃ m4_ m5_ : Nat, (u + m4_ ≤ bc ∧ v + m5_ ≤ bs) ∧ (wm_X9_advance m4_ m5_ S a0 (fun r2_ S3_ => r2_ = none ∧ (Q none S3_)) E))
set_option maxHeartbeats 4000000 in
set_option maxRecDepth 100000 in
theorem cb_X9_expectSign_17 {p : Program} {l : Launch} {e : Env} {s : State} {m : MethodId} {args : Array Value} {below : List Frame} {meth : Method} {c : Code} {D : va_G} {cy : Nat → ClassId} {lo : Nat} {bc bs : Nat}  {u v : Nat} {S : q_S} {a0 : Nat} {Q : Option Value → q_S → Prop} {E : String → q_S → Prop} {H : Heap} {locs : List Loc} {ls : Array Slot} (X : q_X p s m args meth c RX9 cX9_expectSign 2 none D cy lo) (hex : ∀ x ∈ c.exceptionTable.toList, False) (hst : l.stackTraces = false)  (hu : u ≤ bc ∧ v ≤ bs) (Y : q_Y D cy lo s S H locs) (hl : lv_has ls 2 [(0, .ref a0)]) (h : wb_X9_expectSign_17 bc bs u v S a0 Q E) : W p l e ({ frames := 8, cells := bc, slots := bs, locals := 139 } : Room) s m args below meth c H locs u v (vx_MQ below (q_Q D cy lo Q) (q_XE D cy lo E) args s bc bs (fun q => lo ≤ q)) (F0 m 17 ls []) := by
  have hx := X.1
  have hb := X.2.1
  unfold wb_X9_expectSign_17 at h
  refine lv_aload_n hx hb dX9_expectSign_17 rfl (lv_at hl 0 rfl) ?_
  obtain ⟨k1_, h⟩ := h
  obtain ⟨m4_, m5_, w6_, h⟩ := h
  refine q_callVX X hex Y hl (cm_X9_advance hst h) mt_X9_advance mi_X9_advance ml_X9_78 (ci := 9) rfl k1_ (by decide) rfl rfl (by first | exact Nat.le_of_ble_eq_true rfl | simp [q_cat, q_catI, q_catJ, q_catR]) ⟨Nat.le_of_ble_eq_true rfl, Nat.le_of_ble_eq_true rfl⟩ w6_ w6_ dX9_expectSign_18 (fun r2_ S3_ H locs hp Y => ?_)
  obtain ⟨rfl, h⟩ := hp
  replace hu := w6_
  refine W.eq (g2 := F0 m 21 ls []) rfl ?_
  exact vx_ret <| q_vret X Y hu.1 hu.2 h dX9_expectSign_21
def wm_X9_expectSign (bc bs : Nat) (S : q_S) (a0 : Nat) (x1 : Int32) (Q : Option Value → q_S → Prop) (E : String → q_S → Prop) : Prop := q_K S a0 = 10 ∧ (wm_X9_seesSign S a0 x1 (fun r8_ S9_ => ∃ x10_ : Int32, r8_ = some (.int x10_) ∧ (((¬ x10_ = 0 → (wb_X9_expectSign_17 bc bs 0 0 S9_ a0 Q E)) ∧ (x10_ = 0 → (q_K S9_ a0 = 10 ∧ (∃ m15_ m16_ : Nat, (0 + m15_ ≤ bc ∧ 0 + m16_ ≤ bs) ∧ (wm_X9_fail m15_ m16_ S9_ a0 (1 : Int32) (q_I S9_ 1811 a0) (fun r13_ S14_ => r13_ = none ∧ (wb_X9_expectSign_17 bc bs (0 + m15_) (0 + m16_) S14_ a0 Q E)) E))))))))
set_option maxHeartbeats 4000000 in
set_option maxRecDepth 100000 in
theorem cm_X9_expectSign {l : Launch} {D : va_G} {cy : Nat → ClassId} {lo : Nat} {bc bs : Nat} {S : q_S} {a0 : Nat} {x1 : Int32} {Q : Option Value → q_S → Prop} {E : String → q_S → Prop} (hst : l.stackTraces = false) (h : wm_X9_expectSign bc bs S a0 x1 Q E) : q_MetX l D cy lo yX9_expectSign cX9_expectSign 2 none 8 139 bc bs [.ref a0, .int x1] S Q E := by
  refine q_bodyX (by decide) (by first | exact Nat.le_of_ble_eq_true rfl | simp [lg_sl, q_cat, q_catI, q_catJ, q_catR]) ?_
  intro p e s m below meth c ls X hex Y hl
  have hx := X.1
  have hb := X.2.1
  have hl : lv_has ls 2 [(0, .ref a0), (1, .int x1)] := by first | exact hl | simpa [lv_args, q_cat, q_catI, q_catJ, q_catR] using hl
  generalize hargs : ([.ref a0, .int x1] : List Value).toArray = args at X ⊢
  have hu : 0 ≤ bc ∧ 0 ≤ bs := ⟨Nat.zero_le _, Nat.zero_le _⟩
  unfold wm_X9_expectSign at h
  refine lv_aload_n hx hb dX9_expectSign_0 rfl (lv_at hl 0 rfl) ?_
  refine lv_iload_n hx hb dX9_expectSign_1 rfl (lv_at hl 1 rfl) ?_
  obtain ⟨k7_, h⟩ := h
  refine q_callV X Y hl (cm_X9_seesSign h) mt_X9_seesSign mi_X9_seesSign ml_X9_141 (ci := 9) rfl k7_ (by decide) rfl rfl (by first | exact Nat.le_of_ble_eq_true rfl | simp [q_cat, q_catI, q_catJ, q_catR]) ⟨Nat.le_of_ble_eq_true rfl, Nat.le_of_ble_eq_true rfl⟩ hu dX9_expectSign_2 (fun r8_ S9_ H locs hp Y => ?_)
  obtain ⟨x10_, rfl, h⟩ := hp
  refine W.eq (g2 := F0 m 5 ls [.int x10_]) rfl ?_
  refine lv_if_ne (tgt := 17) hx hb dX9_expectSign_5 (by decide) (fun c11_ => ?_) (fun c11_ => ?_)
  · replace h := h.1 c11_
    exact cb_X9_expectSign_17 X hex hst hu Y (lv_sub hl [0] rfl) h
  · replace h := h.2 c11_
    refine lv_aload_n hx hb dX9_expectSign_8 rfl (lv_at hl 0 rfl) ?_
    refine lv_iconst (v := 1) hx hb dX9_expectSign_9 (by decide) ?_
    refine lv_aload_n hx hb dX9_expectSign_10 rfl (lv_at hl 0 rfl) ?_
    obtain ⟨k12_, h⟩ := h
    refine q_getI X Y kX9 11 rfl fl_X9_113 k12_ dX9_expectSign_11 ?_
    obtain ⟨m15_, m16_, w17_, h⟩ := h
    refine q_callVX X hex Y hl (cm_X9_fail hst h) mt_X9_fail mi_X9_fail ml_X9_133 (ci := 9) rfl k12_ (by decide) rfl rfl (by first | exact Nat.le_of_ble_eq_true rfl | simp [q_cat, q_catI, q_catJ, q_catR]) ⟨Nat.le_of_ble_eq_true rfl, Nat.le_of_ble_eq_true rfl⟩ w17_ w17_ dX9_expectSign_14 (fun r13_ S14_ H locs hp Y => ?_)
    obtain ⟨rfl, h⟩ := hp
    replace hu := w17_
    refine W.eq (g2 := F0 m 17 ls []) rfl ?_
    exact cb_X9_expectSign_17 X hex hst hu Y (lv_sub hl [0] rfl) h
-- X9_number
theorem dX9_number_0 : decode cX9_number 0 = .ok (.aload_n 0, 1) := by decide +kernel
theorem dX9_number_1 : decode cX9_number 1 = .ok (.getfield 119, 3) := by decide +kernel
theorem dX9_number_4 : decode cX9_number 4 = .ok (.iconst 3, 1) := by decide +kernel
theorem dX9_number_5 : decode cX9_number 5 = .ok (.if_icmp .eq 12, 3) := by decide +kernel
theorem dX9_number_8 : decode cX9_number 8 = .ok (.aload_n 0, 1) := by decide +kernel
theorem dX9_number_9 : decode cX9_number 9 = .ok (.iconst 1, 1) := by decide +kernel
theorem dX9_number_10 : decode cX9_number 10 = .ok (.aload_n 0, 1) := by decide +kernel
theorem dX9_number_11 : decode cX9_number 11 = .ok (.getfield 113, 3) := by decide +kernel
theorem dX9_number_14 : decode cX9_number 14 = .ok (.invokevirtual 133, 3) := by decide +kernel
theorem dX9_number_17 : decode cX9_number 17 = .ok (.aload_n 0, 1) := by decide +kernel
theorem dX9_number_18 : decode cX9_number 18 = .ok (.getfield 116, 3) := by decide +kernel
theorem dX9_number_21 : decode cX9_number 21 = .ok (.iload_n 1, 1) := by decide +kernel
theorem dX9_number_22 : decode cX9_number 22 = .ok (.if_icmp .lt 24, 3) := by decide +kernel
theorem dX9_number_25 : decode cX9_number 25 = .ok (.aload_n 0, 1) := by decide +kernel
theorem dX9_number_26 : decode cX9_number 26 = .ok (.getfield 116, 3) := by decide +kernel
theorem dX9_number_29 : decode cX9_number 29 = .ok (.iload_n 2, 1) := by decide +kernel
theorem dX9_number_30 : decode cX9_number 30 = .ok (.if_icmp .gt 16, 3) := by decide +kernel
theorem dX9_number_33 : decode cX9_number 33 = .ok (.iload_n 3, 1) := by decide +kernel
theorem dX9_number_34 : decode cX9_number 34 = .ok (.ifCond .le 21, 3) := by decide +kernel
theorem dX9_number_37 : decode cX9_number 37 = .ok (.aload_n 0, 1) := by decide +kernel
theorem dX9_number_38 : decode cX9_number 38 = .ok (.getfield 116, 3) := by decide +kernel
theorem dX9_number_41 : decode cX9_number 41 = .ok (.iload_n 3, 1) := by decide +kernel
theorem dX9_number_42 : decode cX9_number 42 = .ok (.irem, 1) := by decide +kernel
theorem dX9_number_43 : decode cX9_number 43 = .ok (.ifCond .eq 12, 3) := by decide +kernel
theorem dX9_number_46 : decode cX9_number 46 = .ok (.aload_n 0, 1) := by decide +kernel
theorem dX9_number_47 : decode cX9_number 47 = .ok (.iconst 5, 1) := by decide +kernel
theorem dX9_number_48 : decode cX9_number 48 = .ok (.aload_n 0, 1) := by decide +kernel
theorem dX9_number_49 : decode cX9_number 49 = .ok (.getfield 113, 3) := by decide +kernel
theorem dX9_number_52 : decode cX9_number 52 = .ok (.invokevirtual 133, 3) := by decide +kernel
theorem dX9_number_55 : decode cX9_number 55 = .ok (.aload_n 0, 1) := by decide +kernel
theorem dX9_number_56 : decode cX9_number 56 = .ok (.getfield 116, 3) := by decide +kernel
theorem dX9_number_59 : decode cX9_number 59 = .ok (.istore 4, 2) := by decide +kernel
theorem dX9_number_61 : decode cX9_number 61 = .ok (.aload_n 0, 1) := by decide +kernel
theorem dX9_number_62 : decode cX9_number 62 = .ok (.invokevirtual 78, 3) := by decide +kernel
theorem dX9_number_65 : decode cX9_number 65 = .ok (.iload 4, 2) := by decide +kernel
theorem dX9_number_67 : decode cX9_number 67 = .ok (.ireturn, 1) := by decide +kernel
def wb_X9_number_55 (bc bs : Nat)  (u v : Nat) (S : q_S) (a0 : Nat) (Q : Option Value → q_S → Prop) (E : String → q_S → Prop) : Prop := q_K S a0 = 10 ∧ (∃ m4_ m5_ : Nat, (u + m4_ ≤ bc ∧ v + m5_ ≤ bs) ∧ (wm_X9_advance m4_ m5_ S a0 (fun r2_ S3_ => r2_ = none ∧ (Q (some (.int (q_I S 1809 a0))) S3_)) E))
set_option maxHeartbeats 4000000 in
set_option maxRecDepth 100000 in
theorem cb_X9_number_55 {p : Program} {l : Launch} {e : Env} {s : State} {m : MethodId} {args : Array Value} {below : List Frame} {meth : Method} {c : Code} {D : va_G} {cy : Nat → ClassId} {lo : Nat} {bc bs : Nat}  {u v : Nat} {S : q_S} {a0 : Nat} {Q : Option Value → q_S → Prop} {E : String → q_S → Prop} {H : Heap} {locs : List Loc} {ls : Array Slot} (X : q_X p s m args meth c RX9 cX9_number 5 (some .int) D cy lo) (hex : ∀ x ∈ c.exceptionTable.toList, False) (hst : l.stackTraces = false)  (hu : u ≤ bc ∧ v ≤ bs) (Y : q_Y D cy lo s S H locs) (hl : lv_has ls 5 [(0, .ref a0)]) (h : wb_X9_number_55 bc bs u v S a0 Q E) : W p l e ({ frames := 8, cells := bc, slots := bs, locals := 139 } : Room) s m args below meth c H locs u v (vx_MQ below (q_Q D cy lo Q) (q_XE D cy lo E) args s bc bs (fun q => lo ≤ q)) (F0 m 55 ls []) := by
  have hx := X.1
  have hb := X.2.1
  unfold wb_X9_number_55 at h
  refine lv_aload_n hx hb dX9_number_55 rfl (lv_at hl 0 rfl) ?_
  obtain ⟨k1_, h⟩ := h
  refine q_getI X Y kX9 9 rfl fl_X9_116 k1_ dX9_number_56 ?_
  refine lv_istore (i := 4) (lv' := [(4, .int (q_I S 1809 a0)), (0, .ref a0)]) hx hb dX9_number_59 hl (by decide) (by first | rfl | simp [q_cat, q_catI, q_catJ, q_catR]) (fun ls hl => ?_)
  refine lv_aload_n hx hb dX9_number_61 rfl (lv_at hl 1 rfl) ?_
  obtain ⟨m4_, m5_, w6_, h⟩ := h
  refine q_callVX X hex Y hl (cm_X9_advance hst h) mt_X9_advance mi_X9_advance ml_X9_78 (ci := 9) rfl k1_ (by decide) rfl rfl (by first | exact Nat.le_of_ble_eq_true rfl | simp [q_cat, q_catI, q_catJ, q_catR]) ⟨Nat.le_of_ble_eq_true rfl, Nat.le_of_ble_eq_true rfl⟩ w6_ w6_ dX9_number_62 (fun r2_ S3_ H locs hp Y => ?_)
  obtain ⟨rfl, h⟩ := hp
  replace hu := w6_
  refine W.eq (g2 := F0 m 65 ls []) rfl ?_
  refine lv_iload hx hb dX9_number_65 (lv_at hl 0 rfl) ?_
  exact vx_ret <| q_iret X Y rfl hu.1 hu.2 h dX9_number_67
def wb_X9_number_46 (bc bs : Nat)  (u v : Nat) (S : q_S) (a0 : Nat) (Q : Option Value → q_S → Prop) (E : String → q_S → Prop) : Prop := q_K S a0 = 10 ∧ (∃ m10_ m11_ : Nat, (u + m10_ ≤ bc ∧ v + m11_ ≤ bs) ∧ (wm_X9_fail m10_ m11_ S a0 (5 : Int32) (q_I S 1811 a0) (fun r8_ S9_ => r8_ = none ∧ (wb_X9_number_55 bc bs (u + m10_) (v + m11_) S9_ a0 Q E)) E))
set_option maxHeartbeats 4000000 in
set_option maxRecDepth 100000 in
theorem cb_X9_number_46 {p : Program} {l : Launch} {e : Env} {s : State} {m : MethodId} {args : Array Value} {below : List Frame} {meth : Method} {c : Code} {D : va_G} {cy : Nat → ClassId} {lo : Nat} {bc bs : Nat}  {u v : Nat} {S : q_S} {a0 : Nat} {Q : Option Value → q_S → Prop} {E : String → q_S → Prop} {H : Heap} {locs : List Loc} {ls : Array Slot} (X : q_X p s m args meth c RX9 cX9_number 5 (some .int) D cy lo) (hex : ∀ x ∈ c.exceptionTable.toList, False) (hst : l.stackTraces = false)  (hu : u ≤ bc ∧ v ≤ bs) (Y : q_Y D cy lo s S H locs) (hl : lv_has ls 5 [(0, .ref a0)]) (h : wb_X9_number_46 bc bs u v S a0 Q E) : W p l e ({ frames := 8, cells := bc, slots := bs, locals := 139 } : Room) s m args below meth c H locs u v (vx_MQ below (q_Q D cy lo Q) (q_XE D cy lo E) args s bc bs (fun q => lo ≤ q)) (F0 m 46 ls []) := by
  have hx := X.1
  have hb := X.2.1
  unfold wb_X9_number_46 at h
  refine lv_aload_n hx hb dX9_number_46 rfl (lv_at hl 0 rfl) ?_
  refine lv_iconst (v := 5) hx hb dX9_number_47 (by decide) ?_
  refine lv_aload_n hx hb dX9_number_48 rfl (lv_at hl 0 rfl) ?_
  obtain ⟨k7_, h⟩ := h
  refine q_getI X Y kX9 11 rfl fl_X9_113 k7_ dX9_number_49 ?_
  obtain ⟨m10_, m11_, w12_, h⟩ := h
  refine q_callVX X hex Y hl (cm_X9_fail hst h) mt_X9_fail mi_X9_fail ml_X9_133 (ci := 9) rfl k7_ (by decide) rfl rfl (by first | exact Nat.le_of_ble_eq_true rfl | simp [q_cat, q_catI, q_catJ, q_catR]) ⟨Nat.le_of_ble_eq_true rfl, Nat.le_of_ble_eq_true rfl⟩ w12_ w12_ dX9_number_52 (fun r8_ S9_ H locs hp Y => ?_)
  obtain ⟨rfl, h⟩ := hp
  replace hu := w12_
  refine W.eq (g2 := F0 m 55 ls []) rfl ?_
  exact cb_X9_number_55 X hex hst hu Y (lv_sub hl [0] rfl) h
def wb_X9_number_17 (bc bs : Nat)  (u v : Nat) (S : q_S) (a0 : Nat) (x1 : Int32) (x2 : Int32) (x3 : Int32) (Q : Option Value → q_S → Prop) (E : String → q_S → Prop) : Prop := q_K S a0 = 10 ∧ ((((q_I S 1809 a0) < x1 → (wb_X9_number_46 bc bs u v S a0 Q E)) ∧ (¬ (q_I S 1809 a0) < x1 → (((x2 < (q_I S 1809 a0) → (wb_X9_number_46 bc bs u v S a0 Q E)) ∧ (¬ x2 < (q_I S 1809 a0) → (((x3 ≤ 0 → (wb_X9_number_55 bc bs u v S a0 Q E)) ∧ (¬ x3 ≤ 0 → ((¬ x3 = 0) ∧ (((((q_I S 1809 a0) - (q_I S 1809 a0) / x3 * x3) = 0 → (wb_X9_number_55 bc bs u v S a0 Q E)) ∧ (¬ ((q_I S 1809 a0) - (q_I S 1809 a0) / x3 * x3) = 0 → (wb_X9_number_46 bc bs u v S a0 Q E))))))))))))))
set_option maxHeartbeats 4000000 in
set_option maxRecDepth 100000 in
theorem cb_X9_number_17 {p : Program} {l : Launch} {e : Env} {s : State} {m : MethodId} {args : Array Value} {below : List Frame} {meth : Method} {c : Code} {D : va_G} {cy : Nat → ClassId} {lo : Nat} {bc bs : Nat}  {u v : Nat} {S : q_S} {a0 : Nat} {x1 : Int32} {x2 : Int32} {x3 : Int32} {Q : Option Value → q_S → Prop} {E : String → q_S → Prop} {H : Heap} {locs : List Loc} {ls : Array Slot} (X : q_X p s m args meth c RX9 cX9_number 5 (some .int) D cy lo) (hex : ∀ x ∈ c.exceptionTable.toList, False) (hst : l.stackTraces = false)  (hu : u ≤ bc ∧ v ≤ bs) (Y : q_Y D cy lo s S H locs) (hl : lv_has ls 5 [(0, .ref a0), (1, .int x1), (2, .int x2), (3, .int x3)]) (h : wb_X9_number_17 bc bs u v S a0 x1 x2 x3 Q E) : W p l e ({ frames := 8, cells := bc, slots := bs, locals := 139 } : Room) s m args below meth c H locs u v (vx_MQ below (q_Q D cy lo Q) (q_XE D cy lo E) args s bc bs (fun q => lo ≤ q)) (F0 m 17 ls []) := by
  have hx := X.1
  have hb := X.2.1
  unfold wb_X9_number_17 at h
  refine lv_aload_n hx hb dX9_number_17 rfl (lv_at hl 0 rfl) ?_
  obtain ⟨k13_, h⟩ := h
  refine q_getI X Y kX9 9 rfl fl_X9_116 k13_ dX9_number_18 ?_
  refine lv_iload_n hx hb dX9_number_21 rfl (lv_at hl 1 rfl) ?_
  refine lv_icmp_lt (tgt := 46) hx hb dX9_number_22 (by decide) (fun c14_ => ?_) (fun c14_ => ?_)
  · replace h := h.1 c14_
    exact cb_X9_number_46 X hex hst hu Y (lv_sub hl [0] rfl) h
  · replace h := h.2 c14_
    refine lv_aload_n hx hb dX9_number_25 rfl (lv_at hl 0 rfl) ?_
    refine q_getI X Y kX9 9 rfl fl_X9_116 k13_ dX9_number_26 ?_
    refine lv_iload_n hx hb dX9_number_29 rfl (lv_at hl 2 rfl) ?_
    refine lv_icmp_gt (tgt := 46) hx hb dX9_number_30 (by decide) (fun c15_ => ?_) (fun c15_ => ?_)
    · replace h := h.1 c15_
      exact cb_X9_number_46 X hex hst hu Y (lv_sub hl [0] rfl) h
    · replace h := h.2 c15_
      refine lv_iload_n hx hb dX9_number_33 rfl (lv_at hl 3 rfl) ?_
      refine lv_if_le (tgt := 55) hx hb dX9_number_34 (by decide) (fun c16_ => ?_) (fun c16_ => ?_)
      · replace h := h.1 c16_
        exact cb_X9_number_55 X hex hst hu Y (lv_sub hl [0] rfl) h
      · replace h := h.2 c16_
        refine lv_aload_n hx hb dX9_number_37 rfl (lv_at hl 0 rfl) ?_
        refine q_getI X Y kX9 9 rfl fl_X9_116 k13_ dX9_number_38 ?_
        refine lv_iload_n hx hb dX9_number_41 rfl (lv_at hl 3 rfl) ?_
        obtain ⟨z17_, h⟩ := h
        refine lv_irem hx hb dX9_number_42 z17_ ?_
        refine lv_if_eq (tgt := 55) hx hb dX9_number_43 (by decide) (fun c18_ => ?_) (fun c18_ => ?_)
        · replace h := h.1 c18_
          exact cb_X9_number_55 X hex hst hu Y (lv_sub hl [0] rfl) h
        · replace h := h.2 c18_
          exact cb_X9_number_46 X hex hst hu Y (lv_sub hl [0] rfl) h
def wm_X9_number (bc bs : Nat) (S : q_S) (a0 : Nat) (x1 : Int32) (x2 : Int32) (x3 : Int32) (Q : Option Value → q_S → Prop) (E : String → q_S → Prop) : Prop := q_K S a0 = 10 ∧ ((((q_I S 1808 a0) = (3 : Int32) → (wb_X9_number_17 bc bs 0 0 S a0 x1 x2 x3 Q E)) ∧ (¬ (q_I S 1808 a0) = (3 : Int32) → (∃ m23_ m24_ : Nat, (0 + m23_ ≤ bc ∧ 0 + m24_ ≤ bs) ∧ (wm_X9_fail m23_ m24_ S a0 (1 : Int32) (q_I S 1811 a0) (fun r21_ S22_ => r21_ = none ∧ (wb_X9_number_17 bc bs (0 + m23_) (0 + m24_) S22_ a0 x1 x2 x3 Q E)) E)))))
set_option maxHeartbeats 4000000 in
set_option maxRecDepth 100000 in
theorem cm_X9_number {l : Launch} {D : va_G} {cy : Nat → ClassId} {lo : Nat} {bc bs : Nat} {S : q_S} {a0 : Nat} {x1 : Int32} {x2 : Int32} {x3 : Int32} {Q : Option Value → q_S → Prop} {E : String → q_S → Prop} (hst : l.stackTraces = false) (h : wm_X9_number bc bs S a0 x1 x2 x3 Q E) : q_MetX l D cy lo yX9_number cX9_number 5 (some .int) 8 139 bc bs [.ref a0, .int x1, .int x2, .int x3] S Q E := by
  refine q_bodyX (by decide) (by first | exact Nat.le_of_ble_eq_true rfl | simp [lg_sl, q_cat, q_catI, q_catJ, q_catR]) ?_
  intro p e s m below meth c ls X hex Y hl
  have hx := X.1
  have hb := X.2.1
  have hl : lv_has ls 5 [(0, .ref a0), (1, .int x1), (2, .int x2), (3, .int x3)] := by first | exact hl | simpa [lv_args, q_cat, q_catI, q_catJ, q_catR] using hl
  generalize hargs : ([.ref a0, .int x1, .int x2, .int x3] : List Value).toArray = args at X ⊢
  have hu : 0 ≤ bc ∧ 0 ≤ bs := ⟨Nat.zero_le _, Nat.zero_le _⟩
  unfold wm_X9_number at h
  refine lv_aload_n hx hb dX9_number_0 rfl (lv_at hl 0 rfl) ?_
  obtain ⟨k19_, h⟩ := h
  refine q_getI X Y kX9 8 rfl fl_X9_119 k19_ dX9_number_1 ?_
  refine lv_iconst (v := 3) hx hb dX9_number_4 (by decide) ?_
  refine lv_icmp_eq (tgt := 17) hx hb dX9_number_5 (by decide) (fun c20_ => ?_) (fun c20_ => ?_)
  · replace h := h.1 c20_
    exact cb_X9_number_17 X hex hst hu Y (lv_sub hl [0, 1, 2, 3] rfl) h
  · replace h := h.2 c20_
    refine lv_aload_n hx hb dX9_number_8 rfl (lv_at hl 0 rfl) ?_
    refine lv_iconst (v := 1) hx hb dX9_number_9 (by decide) ?_
    refine lv_aload_n hx hb dX9_number_10 rfl (lv_at hl 0 rfl) ?_
    refine q_getI X Y kX9 11 rfl fl_X9_113 k19_ dX9_number_11 ?_
    obtain ⟨m23_, m24_, w25_, h⟩ := h
    refine q_callVX X hex Y hl (cm_X9_fail hst h) mt_X9_fail mi_X9_fail ml_X9_133 (ci := 9) rfl k19_ (by decide) rfl rfl (by first | exact Nat.le_of_ble_eq_true rfl | simp [q_cat, q_catI, q_catJ, q_catR]) ⟨Nat.le_of_ble_eq_true rfl, Nat.le_of_ble_eq_true rfl⟩ w25_ w25_ dX9_number_14 (fun r21_ S22_ H locs hp Y => ?_)
    obtain ⟨rfl, h⟩ := hp
    replace hu := w25_
    refine W.eq (g2 := F0 m 17 ls []) rfl ?_
    exact cb_X9_number_17 X hex hst hu Y (lv_sub hl [0, 1, 2, 3] rfl) h
-- X9_readRegions
theorem ml_X9_160 : Cond.methodLink RX9 160 yX9_expectSign ∈ q_G := q_tb (i := 776) (by decide +kernel) (by decide +kernel)
theorem mt_X9_expectSign : q_Mt yX9_expectSign cX9_expectSign 2 none 1 := ⟨q_tb (i := 779) (by decide +kernel) (by decide +kernel), q_tb (i := 2) (by decide +kernel) (by decide +kernel), by decide +kernel, by decide +kernel, by decide +kernel⟩
theorem mi_X9_expectSign : Cond.instanceMethod yX9_expectSign ∈ q_G ∧ Cond.selects yX9_expectSign.cls yX9_expectSign yX9_expectSign ∈ q_G := ⟨q_tb (i := 778) (by decide +kernel) (by decide +kernel), q_tp (i := 12) (q := (yX9_expectSign, 14)) (by decide +kernel) (by decide +kernel)⟩
theorem ml_X9_190 : Cond.methodLink RX9 190 yX4_covered ∈ q_G := q_tb (i := 798) (by decide +kernel) (by decide +kernel)
theorem fl_X9_183 : Cond.fieldLink RX9 183 "PartitionWorks$Memory" "bytes" "I" ∈ q_G := q_tb (i := 658) (by decide +kernel) (by decide +kernel)
theorem ml_X9_184 : Cond.methodLink RX9 184 yX4_addRegion ∈ q_G := q_tb (i := 802) (by decide +kernel) (by decide +kernel)
theorem mt_X4_addRegion : q_Mt yX4_addRegion cX4_addRegion 3 none 2 := ⟨q_tb (i := 805) (by decide +kernel) (by decide +kernel), q_tb (i := 21) (by decide +kernel) (by decide +kernel), by decide +kernel, by decide +kernel, by decide +kernel⟩
theorem mi_X4_addRegion : Cond.instanceMethod yX4_addRegion ∈ q_G ∧ Cond.selects yX4_addRegion.cls yX4_addRegion yX4_addRegion ∈ q_G := ⟨q_tb (i := 803) (by decide +kernel) (by decide +kernel), q_tb (i := 804) (by decide +kernel) (by decide +kernel)⟩
theorem ml_X9_170 : Cond.methodLink RX9 170 yX9_number ∈ q_G := q_tb (i := 784) (by decide +kernel) (by decide +kernel)
theorem mt_X9_number : q_Mt yX9_number cX9_number 5 (some .int) 3 := ⟨q_tb (i := 787) (by decide +kernel) (by decide +kernel), q_tb (i := 2) (by decide +kernel) (by decide +kernel), by decide +kernel, by decide +kernel, by decide +kernel⟩
theorem mi_X9_number : Cond.instanceMethod yX9_number ∈ q_G ∧ Cond.selects yX9_number.cls yX9_number yX9_number ∈ q_G := ⟨q_tb (i := 786) (by decide +kernel) (by decide +kernel), q_tp (i := 14) (q := (yX9_number, 14)) (by decide +kernel) (by decide +kernel)⟩
theorem fl_X9_187 : Cond.fieldLink RX9 187 "PartitionWorks$Memory" "regions" "I" ∈ q_G := q_tb (i := 666) (by decide +kernel) (by decide +kernel)
theorem dX9_readRegions_0 : decode cX9_readRegions 0 = .ok (.aload_n 0, 1) := by decide +kernel
theorem dX9_readRegions_1 : decode cX9_readRegions 1 = .ok (.getfield 113, 3) := by decide +kernel
theorem dX9_readRegions_4 : decode cX9_readRegions 4 = .ok (.istore_n 2, 1) := by decide +kernel
theorem dX9_readRegions_5 : decode cX9_readRegions 5 = .ok (.aload_n 0, 1) := by decide +kernel
theorem dX9_readRegions_6 : decode cX9_readRegions 6 = .ok (.invokevirtual 78, 3) := by decide +kernel
theorem dX9_readRegions_9 : decode cX9_readRegions 9 = .ok (.aload_n 0, 1) := by decide +kernel
theorem dX9_readRegions_10 : decode cX9_readRegions 10 = .ok (.bipush 123, 2) := by decide +kernel
theorem dX9_readRegions_12 : decode cX9_readRegions 12 = .ok (.invokevirtual 160, 3) := by decide +kernel
theorem dX9_readRegions_15 : decode cX9_readRegions 15 = .ok (.iconst 0, 1) := by decide +kernel
theorem dX9_readRegions_16 : decode cX9_readRegions 16 = .ok (.istore_n 3, 1) := by decide +kernel
theorem dX9_readRegions_17 : decode cX9_readRegions 17 = .ok (.iload_n 3, 1) := by decide +kernel
theorem dX9_readRegions_18 : decode cX9_readRegions 18 = .ok (.bipush 6, 2) := by decide +kernel
theorem dX9_readRegions_20 : decode cX9_readRegions 20 = .ok (.if_icmp .gt 118, 3) := by decide +kernel
theorem dX9_readRegions_23 : decode cX9_readRegions 23 = .ok (.iload_n 3, 1) := by decide +kernel
theorem dX9_readRegions_24 : decode cX9_readRegions 24 = .ok (.ifCond .le 15, 3) := by decide +kernel
theorem dX9_readRegions_27 : decode cX9_readRegions 27 = .ok (.aload_n 0, 1) := by decide +kernel
theorem dX9_readRegions_28 : decode cX9_readRegions 28 = .ok (.bipush 125, 2) := by decide +kernel
theorem dX9_readRegions_30 : decode cX9_readRegions 30 = .ok (.invokevirtual 141, 3) := by decide +kernel
theorem dX9_readRegions_33 : decode cX9_readRegions 33 = .ok (.ifCond .eq 6, 3) := by decide +kernel
theorem dX9_readRegions_36 : decode cX9_readRegions 36 = .ok (.goto 102, 3) := by decide +kernel
theorem dX9_readRegions_39 : decode cX9_readRegions 39 = .ok (.aload_n 1, 1) := by decide +kernel
theorem dX9_readRegions_40 : decode cX9_readRegions 40 = .ok (.getfield 187, 3) := by decide +kernel
theorem dX9_readRegions_43 : decode cX9_readRegions 43 = .ok (.bipush 6, 2) := by decide +kernel
theorem dX9_readRegions_45 : decode cX9_readRegions 45 = .ok (.if_icmp .lt 12, 3) := by decide +kernel
theorem dX9_readRegions_48 : decode cX9_readRegions 48 = .ok (.aload_n 0, 1) := by decide +kernel
theorem dX9_readRegions_49 : decode cX9_readRegions 49 = .ok (.iconst 4, 1) := by decide +kernel
theorem dX9_readRegions_50 : decode cX9_readRegions 50 = .ok (.aload_n 0, 1) := by decide +kernel
theorem dX9_readRegions_51 : decode cX9_readRegions 51 = .ok (.getfield 113, 3) := by decide +kernel
theorem dX9_readRegions_54 : decode cX9_readRegions 54 = .ok (.invokevirtual 133, 3) := by decide +kernel
theorem dX9_readRegions_57 : decode cX9_readRegions 57 = .ok (.aload_n 0, 1) := by decide +kernel
theorem dX9_readRegions_58 : decode cX9_readRegions 58 = .ok (.bipush 64, 2) := by decide +kernel
theorem dX9_readRegions_60 : decode cX9_readRegions 60 = .ok (.aload_n 1, 1) := by decide +kernel
theorem dX9_readRegions_61 : decode cX9_readRegions 61 = .ok (.getfield 183, 3) := by decide +kernel
theorem dX9_readRegions_64 : decode cX9_readRegions 64 = .ok (.aload_n 1, 1) := by decide +kernel
theorem dX9_readRegions_65 : decode cX9_readRegions 65 = .ok (.invokevirtual 190, 3) := by decide +kernel
theorem dX9_readRegions_68 : decode cX9_readRegions 68 = .ok (.isub, 1) := by decide +kernel
theorem dX9_readRegions_69 : decode cX9_readRegions 69 = .ok (.bipush 64, 2) := by decide +kernel
theorem dX9_readRegions_71 : decode cX9_readRegions 71 = .ok (.invokevirtual 170, 3) := by decide +kernel
theorem dX9_readRegions_74 : decode cX9_readRegions 74 = .ok (.istore 4, 2) := by decide +kernel
theorem dX9_readRegions_76 : decode cX9_readRegions 76 = .ok (.aload_n 0, 1) := by decide +kernel
theorem dX9_readRegions_77 : decode cX9_readRegions 77 = .ok (.getfield 119, 3) := by decide +kernel
theorem dX9_readRegions_80 : decode cX9_readRegions 80 = .ok (.iconst 5, 1) := by decide +kernel
theorem dX9_readRegions_81 : decode cX9_readRegions 81 = .ok (.if_icmp .ne 20, 3) := by decide +kernel
theorem dX9_readRegions_84 : decode cX9_readRegions 84 = .ok (.aload_n 0, 1) := by decide +kernel
theorem dX9_readRegions_85 : decode cX9_readRegions 85 = .ok (.getfield 116, 3) := by decide +kernel
theorem dX9_readRegions_88 : decode cX9_readRegions 88 = .ok (.iconst 3, 1) := by decide +kernel
theorem dX9_readRegions_89 : decode cX9_readRegions 89 = .ok (.if_icmp .lt 12, 3) := by decide +kernel
theorem dX9_readRegions_92 : decode cX9_readRegions 92 = .ok (.aload_n 0, 1) := by decide +kernel
theorem dX9_readRegions_93 : decode cX9_readRegions 93 = .ok (.getfield 116, 3) := by decide +kernel
theorem dX9_readRegions_96 : decode cX9_readRegions 96 = .ok (.bipush 6, 2) := by decide +kernel
theorem dX9_readRegions_98 : decode cX9_readRegions 98 = .ok (.if_icmp .le 12, 3) := by decide +kernel
theorem dX9_readRegions_101 : decode cX9_readRegions 101 = .ok (.aload_n 0, 1) := by decide +kernel
theorem dX9_readRegions_102 : decode cX9_readRegions 102 = .ok (.iconst 1, 1) := by decide +kernel
theorem dX9_readRegions_103 : decode cX9_readRegions 103 = .ok (.aload_n 0, 1) := by decide +kernel
theorem dX9_readRegions_104 : decode cX9_readRegions 104 = .ok (.getfield 113, 3) := by decide +kernel
theorem dX9_readRegions_107 : decode cX9_readRegions 107 = .ok (.invokevirtual 133, 3) := by decide +kernel
theorem dX9_readRegions_110 : decode cX9_readRegions 110 = .ok (.aload_n 1, 1) := by decide +kernel
theorem dX9_readRegions_111 : decode cX9_readRegions 111 = .ok (.iload 4, 2) := by decide +kernel
theorem dX9_readRegions_113 : decode cX9_readRegions 113 = .ok (.aload_n 0, 1) := by decide +kernel
theorem dX9_readRegions_114 : decode cX9_readRegions 114 = .ok (.getfield 116, 3) := by decide +kernel
theorem dX9_readRegions_117 : decode cX9_readRegions 117 = .ok (.iconst 3, 1) := by decide +kernel
theorem dX9_readRegions_118 : decode cX9_readRegions 118 = .ok (.isub, 1) := by decide +kernel
theorem dX9_readRegions_119 : decode cX9_readRegions 119 = .ok (.invokevirtual 184, 3) := by decide +kernel
theorem dX9_readRegions_122 : decode cX9_readRegions 122 = .ok (.aload_n 0, 1) := by decide +kernel
theorem dX9_readRegions_123 : decode cX9_readRegions 123 = .ok (.invokevirtual 78, 3) := by decide +kernel
theorem dX9_readRegions_126 : decode cX9_readRegions 126 = .ok (.aload_n 0, 1) := by decide +kernel
theorem dX9_readRegions_127 : decode cX9_readRegions 127 = .ok (.bipush 59, 2) := by decide +kernel
theorem dX9_readRegions_129 : decode cX9_readRegions 129 = .ok (.invokevirtual 160, 3) := by decide +kernel
theorem dX9_readRegions_132 : decode cX9_readRegions 132 = .ok (.iinc 3 1, 3) := by decide +kernel
theorem dX9_readRegions_135 : decode cX9_readRegions 135 = .ok (.goto (-118), 3) := by decide +kernel
theorem dX9_readRegions_138 : decode cX9_readRegions 138 = .ok (.aload_n 1, 1) := by decide +kernel
theorem dX9_readRegions_139 : decode cX9_readRegions 139 = .ok (.invokevirtual 190, 3) := by decide +kernel
theorem dX9_readRegions_142 : decode cX9_readRegions 142 = .ok (.aload_n 1, 1) := by decide +kernel
theorem dX9_readRegions_143 : decode cX9_readRegions 143 = .ok (.getfield 183, 3) := by decide +kernel
theorem dX9_readRegions_146 : decode cX9_readRegions 146 = .ok (.if_icmp .eq 10, 3) := by decide +kernel
theorem dX9_readRegions_149 : decode cX9_readRegions 149 = .ok (.aload_n 0, 1) := by decide +kernel
theorem dX9_readRegions_150 : decode cX9_readRegions 150 = .ok (.bipush 7, 2) := by decide +kernel
theorem dX9_readRegions_152 : decode cX9_readRegions 152 = .ok (.iload_n 2, 1) := by decide +kernel
theorem dX9_readRegions_153 : decode cX9_readRegions 153 = .ok (.invokevirtual 133, 3) := by decide +kernel
theorem dX9_readRegions_156 : decode cX9_readRegions 156 = .ok (.aload_n 0, 1) := by decide +kernel
theorem dX9_readRegions_157 : decode cX9_readRegions 157 = .ok (.bipush 125, 2) := by decide +kernel
theorem dX9_readRegions_159 : decode cX9_readRegions 159 = .ok (.invokevirtual 160, 3) := by decide +kernel
theorem dX9_readRegions_162 : decode cX9_readRegions 162 = .ok (.return_, 1) := by decide +kernel
def wb_X9_readRegions_156 (bc bs : Nat)  (u v : Nat) (S : q_S) (a0 : Nat) (Q : Option Value → q_S → Prop) (E : String → q_S → Prop) : Prop := q_K S a0 = 10 ∧ (∃ m4_ m5_ : Nat, (u + m4_ ≤ bc ∧ v + m5_ ≤ bs) ∧ (wm_X9_expectSign m4_ m5_ S a0 (125 : Int32) (fun r2_ S3_ => r2_ = none ∧ (Q none S3_)) E))
set_option maxHeartbeats 4000000 in
set_option maxRecDepth 100000 in
theorem cb_X9_readRegions_156 {p : Program} {l : Launch} {e : Env} {s : State} {m : MethodId} {args : Array Value} {below : List Frame} {meth : Method} {c : Code} {D : va_G} {cy : Nat → ClassId} {lo : Nat} {bc bs : Nat}  {u v : Nat} {S : q_S} {a0 : Nat} {Q : Option Value → q_S → Prop} {E : String → q_S → Prop} {H : Heap} {locs : List Loc} {ls : Array Slot} (X : q_X p s m args meth c RX9 cX9_readRegions 5 none D cy lo) (hex : ∀ x ∈ c.exceptionTable.toList, False) (hst : l.stackTraces = false)  (hu : u ≤ bc ∧ v ≤ bs) (Y : q_Y D cy lo s S H locs) (hl : lv_has ls 5 [(0, .ref a0)]) (h : wb_X9_readRegions_156 bc bs u v S a0 Q E) : W p l e ({ frames := 9, cells := bc, slots := bs, locals := 163 } : Room) s m args below meth c H locs u v (vx_MQ below (q_Q D cy lo Q) (q_XE D cy lo E) args s bc bs (fun q => lo ≤ q)) (F0 m 156 ls []) := by
  have hx := X.1
  have hb := X.2.1
  unfold wb_X9_readRegions_156 at h
  refine lv_aload_n hx hb dX9_readRegions_156 rfl (lv_at hl 0 rfl) ?_
  refine lv_bipush (v := 125) hx hb dX9_readRegions_157 (by decide) ?_
  obtain ⟨k1_, h⟩ := h
  obtain ⟨m4_, m5_, w6_, h⟩ := h
  refine q_callVX X hex Y hl (cm_X9_expectSign hst h) mt_X9_expectSign mi_X9_expectSign ml_X9_160 (ci := 9) rfl k1_ (by decide) rfl rfl (by first | exact Nat.le_of_ble_eq_true rfl | simp [q_cat, q_catI, q_catJ, q_catR]) ⟨Nat.le_of_ble_eq_true rfl, Nat.le_of_ble_eq_true rfl⟩ w6_ w6_ dX9_readRegions_159 (fun r2_ S3_ H locs hp Y => ?_)
  obtain ⟨rfl, h⟩ := hp
  replace hu := w6_
  refine W.eq (g2 := F0 m 162 ls []) rfl ?_
  exact vx_ret <| q_vret X Y hu.1 hu.2 h dX9_readRegions_162
def wb_X9_readRegions_138 (bc bs : Nat)  (u v : Nat) (S : q_S) (a0 : Nat) (r1 : Option Nat) (x2 : Int32) (Q : Option Value → q_S → Prop) (E : String → q_S → Prop) : Prop := ∃ a7_ : Nat, r1 = some a7_ ∧ (q_K S a7_ = 5 ∧ (wm_X4_covered S a7_ (fun r10_ S11_ => ∃ x12_ : Int32, r10_ = some (.int x12_) ∧ (q_K S11_ a7_ = 5 ∧ (((x12_ = (q_I S11_ 800 a7_) → (wb_X9_readRegions_156 bc bs u v S11_ a0 Q E)) ∧ (¬ x12_ = (q_I S11_ 800 a7_) → (q_K S11_ a0 = 10 ∧ (∃ m18_ m19_ : Nat, (u + m18_ ≤ bc ∧ v + m19_ ≤ bs) ∧ (wm_X9_fail m18_ m19_ S11_ a0 (7 : Int32) x2 (fun r16_ S17_ => r16_ = none ∧ (wb_X9_readRegions_156 bc bs (u + m18_) (v + m19_) S17_ a0 Q E)) E))))))))))
set_option maxHeartbeats 4000000 in
set_option maxRecDepth 100000 in
theorem cb_X9_readRegions_138 {p : Program} {l : Launch} {e : Env} {s : State} {m : MethodId} {args : Array Value} {below : List Frame} {meth : Method} {c : Code} {D : va_G} {cy : Nat → ClassId} {lo : Nat} {bc bs : Nat}  {u v : Nat} {S : q_S} {a0 : Nat} {r1 : Option Nat} {x2 : Int32} {Q : Option Value → q_S → Prop} {E : String → q_S → Prop} {H : Heap} {locs : List Loc} {ls : Array Slot} (X : q_X p s m args meth c RX9 cX9_readRegions 5 none D cy lo) (hex : ∀ x ∈ c.exceptionTable.toList, False) (hst : l.stackTraces = false)  (hu : u ≤ bc ∧ v ≤ bs) (Y : q_Y D cy lo s S H locs) (hl : lv_has ls 5 [(0, .ref a0), (1, va_rf r1), (2, .int x2)]) (h : wb_X9_readRegions_138 bc bs u v S a0 r1 x2 Q E) : W p l e ({ frames := 9, cells := bc, slots := bs, locals := 163 } : Room) s m args below meth c H locs u v (vx_MQ below (q_Q D cy lo Q) (q_XE D cy lo E) args s bc bs (fun q => lo ≤ q)) (F0 m 138 ls []) := by
  have hx := X.1
  have hb := X.2.1
  unfold wb_X9_readRegions_138 at h
  refine q_aload_n hx hb dX9_readRegions_138 rfl (lv_at hl 1 rfl) ?_
  obtain ⟨a7_, e8_, h⟩ := h
  refine q_nn [] e8_ ?_
  obtain ⟨k9_, h⟩ := h
  refine q_callV X Y hl (cm_X4_covered h) mt_X4_covered mi_X4_covered ml_X9_190 (ci := 4) rfl k9_ (by decide) rfl rfl (by first | exact Nat.le_of_ble_eq_true rfl | simp [q_cat, q_catI, q_catJ, q_catR]) ⟨Nat.le_of_ble_eq_true rfl, Nat.le_of_ble_eq_true rfl⟩ hu dX9_readRegions_139 (fun r10_ S11_ H locs hp Y => ?_)
  obtain ⟨x12_, rfl, h⟩ := hp
  refine W.eq (g2 := F0 m 142 ls [.int x12_]) rfl ?_
  refine q_aload_n hx hb dX9_readRegions_142 rfl (lv_at hl 1 rfl) ?_
  refine q_nn [] e8_ ?_
  obtain ⟨k13_, h⟩ := h
  refine q_getI X Y kX4 0 rfl fl_X9_183 k13_ dX9_readRegions_143 ?_
  refine lv_icmp_eq (tgt := 156) hx hb dX9_readRegions_146 (by decide) (fun c14_ => ?_) (fun c14_ => ?_)
  · replace h := h.1 c14_
    exact cb_X9_readRegions_156 X hex hst hu Y (lv_sub hl [0] rfl) h
  · replace h := h.2 c14_
    refine lv_aload_n hx hb dX9_readRegions_149 rfl (lv_at hl 0 rfl) ?_
    refine lv_bipush (v := 7) hx hb dX9_readRegions_150 (by decide) ?_
    refine lv_iload_n hx hb dX9_readRegions_152 rfl (lv_at hl 2 rfl) ?_
    obtain ⟨k15_, h⟩ := h
    obtain ⟨m18_, m19_, w20_, h⟩ := h
    refine q_callVX X hex Y hl (cm_X9_fail hst h) mt_X9_fail mi_X9_fail ml_X9_133 (ci := 9) rfl k15_ (by decide) rfl rfl (by first | exact Nat.le_of_ble_eq_true rfl | simp [q_cat, q_catI, q_catJ, q_catR]) ⟨Nat.le_of_ble_eq_true rfl, Nat.le_of_ble_eq_true rfl⟩ w20_ w20_ dX9_readRegions_153 (fun r16_ S17_ H locs hp Y => ?_)
    obtain ⟨rfl, h⟩ := hp
    replace hu := w20_
    refine W.eq (g2 := F0 m 156 ls []) rfl ?_
    exact cb_X9_readRegions_156 X hex hst hu Y (lv_sub hl [0] rfl) h
def wb_X9_readRegions_110 (bc bs : Nat) (B17 : Nat → Nat → q_S → Nat → Option Nat → Int32 → Int32 → Prop) (u v : Nat) (S : q_S) (a0 : Nat) (r1 : Option Nat) (x2 : Int32) (x3 : Int32) (x4 : Int32) (Q : Option Value → q_S → Prop) (E : String → q_S → Prop) : Prop := q_K S a0 = 10 ∧ (∃ a22_ : Nat, r1 = some a22_ ∧ (q_K S a22_ = 5 ∧ (wm_X4_addRegion S a22_ x4 ((q_I S 1809 a0) - (3 : Int32)) (fun r25_ S26_ => r25_ = none ∧ (q_K S26_ a0 = 10 ∧ (∃ m30_ m31_ : Nat, (u + m30_ ≤ bc ∧ v + m31_ ≤ bs) ∧ (wm_X9_advance m30_ m31_ S26_ a0 (fun r28_ S29_ => r28_ = none ∧ (q_K S29_ a0 = 10 ∧ (∃ m36_ m37_ : Nat, ((u + m30_) + m36_ ≤ bc ∧ (v + m31_) + m37_ ≤ bs) ∧ (wm_X9_expectSign m36_ m37_ S29_ a0 (59 : Int32) (fun r34_ S35_ => r34_ = none ∧ (B17 ((u + m30_) + m36_) ((v + m31_) + m37_) S35_ a0 r1 x2 (x3 + 1))) E)))) E)))))))
set_option maxHeartbeats 4000000 in
set_option maxRecDepth 100000 in
theorem cb_X9_readRegions_110 {p : Program} {l : Launch} {e : Env} {s : State} {m : MethodId} {args : Array Value} {below : List Frame} {meth : Method} {c : Code} {D : va_G} {cy : Nat → ClassId} {lo : Nat} {bc bs : Nat} {B17 : Nat → Nat → q_S → Nat → Option Nat → Int32 → Int32 → Prop} {u v : Nat} {S : q_S} {a0 : Nat} {r1 : Option Nat} {x2 : Int32} {x3 : Int32} {x4 : Int32} {Q : Option Value → q_S → Prop} {E : String → q_S → Prop} {H : Heap} {locs : List Loc} {ls : Array Slot} (X : q_X p s m args meth c RX9 cX9_readRegions 5 none D cy lo) (hex : ∀ x ∈ c.exceptionTable.toList, False) (hst : l.stackTraces = false) (hB17 : ∀ (u v : Nat) (S : q_S) (a0 : Nat) (r1 : Option Nat) (x2 : Int32) (x3 : Int32) (H : Heap) (locs : List Loc) (ls : Array Slot), B17 u v S a0 r1 x2 x3 → (u ≤ bc ∧ v ≤ bs) → q_Y D cy lo s S H locs → lv_has ls 5 [(0, .ref a0), (1, va_rf r1), (2, .int x2), (3, .int x3)] → W p l e ({ frames := 9, cells := bc, slots := bs, locals := 163 } : Room) s m args below meth c H locs u v (vx_MQ below (q_Q D cy lo Q) (q_XE D cy lo E) args s bc bs (fun q => lo ≤ q)) (F0 m 17 ls [])) (hu : u ≤ bc ∧ v ≤ bs) (Y : q_Y D cy lo s S H locs) (hl : lv_has ls 5 [(0, .ref a0), (1, va_rf r1), (2, .int x2), (3, .int x3), (4, .int x4)]) (h : wb_X9_readRegions_110 bc bs B17 u v S a0 r1 x2 x3 x4 Q E) : W p l e ({ frames := 9, cells := bc, slots := bs, locals := 163 } : Room) s m args below meth c H locs u v (vx_MQ below (q_Q D cy lo Q) (q_XE D cy lo E) args s bc bs (fun q => lo ≤ q)) (F0 m 110 ls []) := by
  have hx := X.1
  have hb := X.2.1
  unfold wb_X9_readRegions_110 at h
  refine q_aload_n hx hb dX9_readRegions_110 rfl (lv_at hl 1 rfl) ?_
  refine lv_iload hx hb dX9_readRegions_111 (lv_at hl 4 rfl) ?_
  refine lv_aload_n hx hb dX9_readRegions_113 rfl (lv_at hl 0 rfl) ?_
  obtain ⟨k21_, h⟩ := h
  refine q_getI X Y kX9 9 rfl fl_X9_116 k21_ dX9_readRegions_114 ?_
  refine lv_iconst (v := 3) hx hb dX9_readRegions_117 (by decide) ?_
  refine lv_isub hx hb dX9_readRegions_118 ?_
  obtain ⟨a22_, e23_, h⟩ := h
  refine q_nn [.int ((q_I S 1809 a0) - (3 : Int32)), .int x4] e23_ ?_
  obtain ⟨k24_, h⟩ := h
  refine q_callV X Y hl (cm_X4_addRegion h) mt_X4_addRegion mi_X4_addRegion ml_X9_184 (ci := 4) rfl k24_ (by decide) rfl rfl (by first | exact Nat.le_of_ble_eq_true rfl | simp [q_cat, q_catI, q_catJ, q_catR]) ⟨Nat.le_of_ble_eq_true rfl, Nat.le_of_ble_eq_true rfl⟩ hu dX9_readRegions_119 (fun r25_ S26_ H locs hp Y => ?_)
  obtain ⟨rfl, h⟩ := hp
  refine W.eq (g2 := F0 m 122 ls []) rfl ?_
  refine lv_aload_n hx hb dX9_readRegions_122 rfl (lv_at hl 0 rfl) ?_
  obtain ⟨k27_, h⟩ := h
  obtain ⟨m30_, m31_, w32_, h⟩ := h
  refine q_callVX X hex Y hl (cm_X9_advance hst h) mt_X9_advance mi_X9_advance ml_X9_78 (ci := 9) rfl k27_ (by decide) rfl rfl (by first | exact Nat.le_of_ble_eq_true rfl | simp [q_cat, q_catI, q_catJ, q_catR]) ⟨Nat.le_of_ble_eq_true rfl, Nat.le_of_ble_eq_true rfl⟩ w32_ w32_ dX9_readRegions_123 (fun r28_ S29_ H locs hp Y => ?_)
  obtain ⟨rfl, h⟩ := hp
  replace hu := w32_
  refine W.eq (g2 := F0 m 126 ls []) rfl ?_
  refine lv_aload_n hx hb dX9_readRegions_126 rfl (lv_at hl 0 rfl) ?_
  refine lv_bipush (v := 59) hx hb dX9_readRegions_127 (by decide) ?_
  obtain ⟨k33_, h⟩ := h
  obtain ⟨m36_, m37_, w38_, h⟩ := h
  refine q_callVX X hex Y hl (cm_X9_expectSign hst h) mt_X9_expectSign mi_X9_expectSign ml_X9_160 (ci := 9) rfl k33_ (by decide) rfl rfl (by first | exact Nat.le_of_ble_eq_true rfl | simp [q_cat, q_catI, q_catJ, q_catR]) ⟨Nat.le_of_ble_eq_true rfl, Nat.le_of_ble_eq_true rfl⟩ w38_ w38_ dX9_readRegions_129 (fun r34_ S35_ H locs hp Y => ?_)
  obtain ⟨rfl, h⟩ := hp
  replace hu := w38_
  refine W.eq (g2 := F0 m 132 ls []) rfl ?_
  refine lv_iinc (v := (x3 + 1)) (lv' := [(3, .int (x3 + 1)), (0, .ref a0), (1, va_rf r1), (2, .int x2), (4, .int x4)]) hx hb dX9_readRegions_132 hl (k := 3) rfl (by first | rfl | decide) (by decide) (by first | rfl | simp [q_cat, q_catI, q_catJ, q_catR]) (fun ls hl => ?_)
  refine lv_goto (tgt := 17) hx hb dX9_readRegions_135 (by decide) ?_
  exact hB17 _ _ _ _ _ _ _ _ _ _ h hu Y (lv_sub hl [1, 2, 3, 0] rfl)
def wb_X9_readRegions_101 (bc bs : Nat) (B17 : Nat → Nat → q_S → Nat → Option Nat → Int32 → Int32 → Prop) (u v : Nat) (S : q_S) (a0 : Nat) (r1 : Option Nat) (x2 : Int32) (x3 : Int32) (x4 : Int32) (Q : Option Value → q_S → Prop) (E : String → q_S → Prop) : Prop := q_K S a0 = 10 ∧ (∃ m42_ m43_ : Nat, (u + m42_ ≤ bc ∧ v + m43_ ≤ bs) ∧ (wm_X9_fail m42_ m43_ S a0 (1 : Int32) (q_I S 1811 a0) (fun r40_ S41_ => r40_ = none ∧ (wb_X9_readRegions_110 bc bs B17 (u + m42_) (v + m43_) S41_ a0 r1 x2 x3 x4 Q E)) E))
set_option maxHeartbeats 4000000 in
set_option maxRecDepth 100000 in
theorem cb_X9_readRegions_101 {p : Program} {l : Launch} {e : Env} {s : State} {m : MethodId} {args : Array Value} {below : List Frame} {meth : Method} {c : Code} {D : va_G} {cy : Nat → ClassId} {lo : Nat} {bc bs : Nat} {B17 : Nat → Nat → q_S → Nat → Option Nat → Int32 → Int32 → Prop} {u v : Nat} {S : q_S} {a0 : Nat} {r1 : Option Nat} {x2 : Int32} {x3 : Int32} {x4 : Int32} {Q : Option Value → q_S → Prop} {E : String → q_S → Prop} {H : Heap} {locs : List Loc} {ls : Array Slot} (X : q_X p s m args meth c RX9 cX9_readRegions 5 none D cy lo) (hex : ∀ x ∈ c.exceptionTable.toList, False) (hst : l.stackTraces = false) (hB17 : ∀ (u v : Nat) (S : q_S) (a0 : Nat) (r1 : Option Nat) (x2 : Int32) (x3 : Int32) (H : Heap) (locs : List Loc) (ls : Array Slot), B17 u v S a0 r1 x2 x3 → (u ≤ bc ∧ v ≤ bs) → q_Y D cy lo s S H locs → lv_has ls 5 [(0, .ref a0), (1, va_rf r1), (2, .int x2), (3, .int x3)] → W p l e ({ frames := 9, cells := bc, slots := bs, locals := 163 } : Room) s m args below meth c H locs u v (vx_MQ below (q_Q D cy lo Q) (q_XE D cy lo E) args s bc bs (fun q => lo ≤ q)) (F0 m 17 ls [])) (hu : u ≤ bc ∧ v ≤ bs) (Y : q_Y D cy lo s S H locs) (hl : lv_has ls 5 [(0, .ref a0), (1, va_rf r1), (2, .int x2), (3, .int x3), (4, .int x4)]) (h : wb_X9_readRegions_101 bc bs B17 u v S a0 r1 x2 x3 x4 Q E) : W p l e ({ frames := 9, cells := bc, slots := bs, locals := 163 } : Room) s m args below meth c H locs u v (vx_MQ below (q_Q D cy lo Q) (q_XE D cy lo E) args s bc bs (fun q => lo ≤ q)) (F0 m 101 ls []) := by
  have hx := X.1
  have hb := X.2.1
  unfold wb_X9_readRegions_101 at h
  refine lv_aload_n hx hb dX9_readRegions_101 rfl (lv_at hl 0 rfl) ?_
  refine lv_iconst (v := 1) hx hb dX9_readRegions_102 (by decide) ?_
  refine lv_aload_n hx hb dX9_readRegions_103 rfl (lv_at hl 0 rfl) ?_
  obtain ⟨k39_, h⟩ := h
  refine q_getI X Y kX9 11 rfl fl_X9_113 k39_ dX9_readRegions_104 ?_
  obtain ⟨m42_, m43_, w44_, h⟩ := h
  refine q_callVX X hex Y hl (cm_X9_fail hst h) mt_X9_fail mi_X9_fail ml_X9_133 (ci := 9) rfl k39_ (by decide) rfl rfl (by first | exact Nat.le_of_ble_eq_true rfl | simp [q_cat, q_catI, q_catJ, q_catR]) ⟨Nat.le_of_ble_eq_true rfl, Nat.le_of_ble_eq_true rfl⟩ w44_ w44_ dX9_readRegions_107 (fun r40_ S41_ H locs hp Y => ?_)
  obtain ⟨rfl, h⟩ := hp
  replace hu := w44_
  refine W.eq (g2 := F0 m 110 ls []) rfl ?_
  exact cb_X9_readRegions_110 X hex hst hB17 hu Y (lv_sub hl [0, 1, 2, 3, 4] rfl) h
def wb_X9_readRegions_57 (bc bs : Nat) (B17 : Nat → Nat → q_S → Nat → Option Nat → Int32 → Int32 → Prop) (u v : Nat) (S : q_S) (a0 : Nat) (r1 : Option Nat) (x2 : Int32) (x3 : Int32) (Q : Option Value → q_S → Prop) (E : String → q_S → Prop) : Prop := ∃ a45_ : Nat, r1 = some a45_ ∧ (q_K S a45_ = 5 ∧ (wm_X4_covered S a45_ (fun r48_ S49_ => ∃ x50_ : Int32, r48_ = some (.int x50_) ∧ (q_K S49_ a0 = 10 ∧ (∃ m54_ m55_ : Nat, (u + m54_ ≤ bc ∧ v + m55_ ≤ bs) ∧ (wm_X9_number m54_ m55_ S49_ a0 (64 : Int32) ((q_I S 800 a45_) - x50_) (64 : Int32) (fun r52_ S53_ => ∃ x57_ : Int32, r52_ = some (.int x57_) ∧ (q_K S53_ a0 = 10 ∧ (((¬ (q_I S53_ 1808 a0) = (5 : Int32) → (wb_X9_readRegions_101 bc bs B17 (u + m54_) (v + m55_) S53_ a0 r1 x2 x3 x57_ Q E)) ∧ ((q_I S53_ 1808 a0) = (5 : Int32) → ((((q_I S53_ 1809 a0) < (3 : Int32) → (wb_X9_readRegions_101 bc bs B17 (u + m54_) (v + m55_) S53_ a0 r1 x2 x3 x57_ Q E)) ∧ (¬ (q_I S53_ 1809 a0) < (3 : Int32) → ((((q_I S53_ 1809 a0) ≤ (6 : Int32) → (wb_X9_readRegions_110 bc bs B17 (u + m54_) (v + m55_) S53_ a0 r1 x2 x3 x57_ Q E)) ∧ (¬ (q_I S53_ 1809 a0) ≤ (6 : Int32) → (wb_X9_readRegions_101 bc bs B17 (u + m54_) (v + m55_) S53_ a0 r1 x2 x3 x57_ Q E)))))))))))) E))))))
set_option maxHeartbeats 4000000 in
set_option maxRecDepth 100000 in
theorem cb_X9_readRegions_57 {p : Program} {l : Launch} {e : Env} {s : State} {m : MethodId} {args : Array Value} {below : List Frame} {meth : Method} {c : Code} {D : va_G} {cy : Nat → ClassId} {lo : Nat} {bc bs : Nat} {B17 : Nat → Nat → q_S → Nat → Option Nat → Int32 → Int32 → Prop} {u v : Nat} {S : q_S} {a0 : Nat} {r1 : Option Nat} {x2 : Int32} {x3 : Int32} {Q : Option Value → q_S → Prop} {E : String → q_S → Prop} {H : Heap} {locs : List Loc} {ls : Array Slot} (X : q_X p s m args meth c RX9 cX9_readRegions 5 none D cy lo) (hex : ∀ x ∈ c.exceptionTable.toList, False) (hst : l.stackTraces = false) (hB17 : ∀ (u v : Nat) (S : q_S) (a0 : Nat) (r1 : Option Nat) (x2 : Int32) (x3 : Int32) (H : Heap) (locs : List Loc) (ls : Array Slot), B17 u v S a0 r1 x2 x3 → (u ≤ bc ∧ v ≤ bs) → q_Y D cy lo s S H locs → lv_has ls 5 [(0, .ref a0), (1, va_rf r1), (2, .int x2), (3, .int x3)] → W p l e ({ frames := 9, cells := bc, slots := bs, locals := 163 } : Room) s m args below meth c H locs u v (vx_MQ below (q_Q D cy lo Q) (q_XE D cy lo E) args s bc bs (fun q => lo ≤ q)) (F0 m 17 ls [])) (hu : u ≤ bc ∧ v ≤ bs) (Y : q_Y D cy lo s S H locs) (hl : lv_has ls 5 [(0, .ref a0), (1, va_rf r1), (2, .int x2), (3, .int x3)]) (h : wb_X9_readRegions_57 bc bs B17 u v S a0 r1 x2 x3 Q E) : W p l e ({ frames := 9, cells := bc, slots := bs, locals := 163 } : Room) s m args below meth c H locs u v (vx_MQ below (q_Q D cy lo Q) (q_XE D cy lo E) args s bc bs (fun q => lo ≤ q)) (F0 m 57 ls []) := by
  have hx := X.1
  have hb := X.2.1
  unfold wb_X9_readRegions_57 at h
  refine lv_aload_n hx hb dX9_readRegions_57 rfl (lv_at hl 0 rfl) ?_
  refine lv_bipush (v := 64) hx hb dX9_readRegions_58 (by decide) ?_
  refine q_aload_n hx hb dX9_readRegions_60 rfl (lv_at hl 1 rfl) ?_
  obtain ⟨a45_, e46_, h⟩ := h
  refine q_nn [] e46_ ?_
  obtain ⟨k47_, h⟩ := h
  refine q_getI X Y kX4 0 rfl fl_X9_183 k47_ dX9_readRegions_61 ?_
  refine q_aload_n hx hb dX9_readRegions_64 rfl (lv_at hl 1 rfl) ?_
  refine q_nn [] e46_ ?_
  refine q_callV X Y hl (cm_X4_covered h) mt_X4_covered mi_X4_covered ml_X9_190 (ci := 4) rfl k47_ (by decide) rfl rfl (by first | exact Nat.le_of_ble_eq_true rfl | simp [q_cat, q_catI, q_catJ, q_catR]) ⟨Nat.le_of_ble_eq_true rfl, Nat.le_of_ble_eq_true rfl⟩ hu dX9_readRegions_65 (fun r48_ S49_ H locs hp Y => ?_)
  obtain ⟨x50_, rfl, h⟩ := hp
  refine W.eq (g2 := F0 m 68 ls [.int x50_, .int (q_I S 800 a45_), .int (64 : Int32), .ref a0]) rfl ?_
  refine lv_isub hx hb dX9_readRegions_68 ?_
  refine lv_bipush (v := 64) hx hb dX9_readRegions_69 (by decide) ?_
  obtain ⟨k51_, h⟩ := h
  obtain ⟨m54_, m55_, w56_, h⟩ := h
  refine q_callVX X hex Y hl (cm_X9_number hst h) mt_X9_number mi_X9_number ml_X9_170 (ci := 9) rfl k51_ (by decide) rfl rfl (by first | exact Nat.le_of_ble_eq_true rfl | simp [q_cat, q_catI, q_catJ, q_catR]) ⟨Nat.le_of_ble_eq_true rfl, Nat.le_of_ble_eq_true rfl⟩ w56_ w56_ dX9_readRegions_71 (fun r52_ S53_ H locs hp Y => ?_)
  obtain ⟨x57_, rfl, h⟩ := hp
  replace hu := w56_
  refine W.eq (g2 := F0 m 74 ls [.int x57_]) rfl ?_
  refine lv_istore (i := 4) (lv' := [(4, .int x57_), (0, .ref a0), (1, va_rf r1), (2, .int x2), (3, .int x3)]) hx hb dX9_readRegions_74 hl (by decide) (by first | rfl | simp [q_cat, q_catI, q_catJ, q_catR]) (fun ls hl => ?_)
  refine lv_aload_n hx hb dX9_readRegions_76 rfl (lv_at hl 1 rfl) ?_
  obtain ⟨k58_, h⟩ := h
  refine q_getI X Y kX9 8 rfl fl_X9_119 k58_ dX9_readRegions_77 ?_
  refine lv_iconst (v := 5) hx hb dX9_readRegions_80 (by decide) ?_
  refine lv_icmp_ne (tgt := 101) hx hb dX9_readRegions_81 (by decide) (fun c59_ => ?_) (fun c59_ => ?_)
  · replace h := h.1 c59_
    exact cb_X9_readRegions_101 X hex hst hB17 hu Y (lv_sub hl [1, 2, 3, 4, 0] rfl) h
  · replace h := h.2 c59_
    refine lv_aload_n hx hb dX9_readRegions_84 rfl (lv_at hl 1 rfl) ?_
    refine q_getI X Y kX9 9 rfl fl_X9_116 k58_ dX9_readRegions_85 ?_
    refine lv_iconst (v := 3) hx hb dX9_readRegions_88 (by decide) ?_
    refine lv_icmp_lt (tgt := 101) hx hb dX9_readRegions_89 (by decide) (fun c60_ => ?_) (fun c60_ => ?_)
    · replace h := h.1 c60_
      exact cb_X9_readRegions_101 X hex hst hB17 hu Y (lv_sub hl [1, 2, 3, 4, 0] rfl) h
    · replace h := h.2 c60_
      refine lv_aload_n hx hb dX9_readRegions_92 rfl (lv_at hl 1 rfl) ?_
      refine q_getI X Y kX9 9 rfl fl_X9_116 k58_ dX9_readRegions_93 ?_
      refine lv_bipush (v := 6) hx hb dX9_readRegions_96 (by decide) ?_
      refine lv_icmp_le (tgt := 110) hx hb dX9_readRegions_98 (by decide) (fun c61_ => ?_) (fun c61_ => ?_)
      · replace h := h.1 c61_
        exact cb_X9_readRegions_110 X hex hst hB17 hu Y (lv_sub hl [1, 2, 3, 4, 0] rfl) h
      · replace h := h.2 c61_
        exact cb_X9_readRegions_101 X hex hst hB17 hu Y (lv_sub hl [1, 2, 3, 4, 0] rfl) h
def wb_X9_readRegions_39 (bc bs : Nat) (B17 : Nat → Nat → q_S → Nat → Option Nat → Int32 → Int32 → Prop) (u v : Nat) (S : q_S) (a0 : Nat) (r1 : Option Nat) (x2 : Int32) (x3 : Int32) (Q : Option Value → q_S → Prop) (E : String → q_S → Prop) : Prop := ∃ a62_ : Nat, r1 = some a62_ ∧ (q_K S a62_ = 5 ∧ ((((q_I S 803 a62_) < (6 : Int32) → (wb_X9_readRegions_57 bc bs B17 u v S a0 r1 x2 x3 Q E)) ∧ (¬ (q_I S 803 a62_) < (6 : Int32) → (q_K S a0 = 10 ∧ (∃ m69_ m70_ : Nat, (u + m69_ ≤ bc ∧ v + m70_ ≤ bs) ∧ (wm_X9_fail m69_ m70_ S a0 (4 : Int32) (q_I S 1811 a0) (fun r67_ S68_ => r67_ = none ∧ (wb_X9_readRegions_57 bc bs B17 (u + m69_) (v + m70_) S68_ a0 r1 x2 x3 Q E)) E)))))))
set_option maxHeartbeats 4000000 in
set_option maxRecDepth 100000 in
theorem cb_X9_readRegions_39 {p : Program} {l : Launch} {e : Env} {s : State} {m : MethodId} {args : Array Value} {below : List Frame} {meth : Method} {c : Code} {D : va_G} {cy : Nat → ClassId} {lo : Nat} {bc bs : Nat} {B17 : Nat → Nat → q_S → Nat → Option Nat → Int32 → Int32 → Prop} {u v : Nat} {S : q_S} {a0 : Nat} {r1 : Option Nat} {x2 : Int32} {x3 : Int32} {Q : Option Value → q_S → Prop} {E : String → q_S → Prop} {H : Heap} {locs : List Loc} {ls : Array Slot} (X : q_X p s m args meth c RX9 cX9_readRegions 5 none D cy lo) (hex : ∀ x ∈ c.exceptionTable.toList, False) (hst : l.stackTraces = false) (hB17 : ∀ (u v : Nat) (S : q_S) (a0 : Nat) (r1 : Option Nat) (x2 : Int32) (x3 : Int32) (H : Heap) (locs : List Loc) (ls : Array Slot), B17 u v S a0 r1 x2 x3 → (u ≤ bc ∧ v ≤ bs) → q_Y D cy lo s S H locs → lv_has ls 5 [(0, .ref a0), (1, va_rf r1), (2, .int x2), (3, .int x3)] → W p l e ({ frames := 9, cells := bc, slots := bs, locals := 163 } : Room) s m args below meth c H locs u v (vx_MQ below (q_Q D cy lo Q) (q_XE D cy lo E) args s bc bs (fun q => lo ≤ q)) (F0 m 17 ls [])) (hu : u ≤ bc ∧ v ≤ bs) (Y : q_Y D cy lo s S H locs) (hl : lv_has ls 5 [(0, .ref a0), (1, va_rf r1), (2, .int x2), (3, .int x3)]) (h : wb_X9_readRegions_39 bc bs B17 u v S a0 r1 x2 x3 Q E) : W p l e ({ frames := 9, cells := bc, slots := bs, locals := 163 } : Room) s m args below meth c H locs u v (vx_MQ below (q_Q D cy lo Q) (q_XE D cy lo E) args s bc bs (fun q => lo ≤ q)) (F0 m 39 ls []) := by
  have hx := X.1
  have hb := X.2.1
  unfold wb_X9_readRegions_39 at h
  refine q_aload_n hx hb dX9_readRegions_39 rfl (lv_at hl 1 rfl) ?_
  obtain ⟨a62_, e63_, h⟩ := h
  refine q_nn [] e63_ ?_
  obtain ⟨k64_, h⟩ := h
  refine q_getI X Y kX4 3 rfl fl_X9_187 k64_ dX9_readRegions_40 ?_
  refine lv_bipush (v := 6) hx hb dX9_readRegions_43 (by decide) ?_
  refine lv_icmp_lt (tgt := 57) hx hb dX9_readRegions_45 (by decide) (fun c65_ => ?_) (fun c65_ => ?_)
  · replace h := h.1 c65_
    exact cb_X9_readRegions_57 X hex hst hB17 hu Y (lv_sub hl [0, 1, 2, 3] rfl) h
  · replace h := h.2 c65_
    refine lv_aload_n hx hb dX9_readRegions_48 rfl (lv_at hl 0 rfl) ?_
    refine lv_iconst (v := 4) hx hb dX9_readRegions_49 (by decide) ?_
    refine lv_aload_n hx hb dX9_readRegions_50 rfl (lv_at hl 0 rfl) ?_
    obtain ⟨k66_, h⟩ := h
    refine q_getI X Y kX9 11 rfl fl_X9_113 k66_ dX9_readRegions_51 ?_
    obtain ⟨m69_, m70_, w71_, h⟩ := h
    refine q_callVX X hex Y hl (cm_X9_fail hst h) mt_X9_fail mi_X9_fail ml_X9_133 (ci := 9) rfl k66_ (by decide) rfl rfl (by first | exact Nat.le_of_ble_eq_true rfl | simp [q_cat, q_catI, q_catJ, q_catR]) ⟨Nat.le_of_ble_eq_true rfl, Nat.le_of_ble_eq_true rfl⟩ w71_ w71_ dX9_readRegions_54 (fun r67_ S68_ H locs hp Y => ?_)
    obtain ⟨rfl, h⟩ := hp
    replace hu := w71_
    refine W.eq (g2 := F0 m 57 ls []) rfl ?_
    exact cb_X9_readRegions_57 X hex hst hB17 hu Y (lv_sub hl [0, 1, 2, 3] rfl) h
def wb_X9_readRegions_17 (bc bs : Nat) (B17 : Nat → Nat → q_S → Nat → Option Nat → Int32 → Int32 → Prop) (u v : Nat) (S : q_S) (a0 : Nat) (r1 : Option Nat) (x2 : Int32) (x3 : Int32) (Q : Option Value → q_S → Prop) (E : String → q_S → Prop) : Prop := (((6 : Int32) < x3 → (wb_X9_readRegions_138 bc bs u v S a0 r1 x2 Q E)) ∧ (¬ (6 : Int32) < x3 → (((x3 ≤ 0 → (wb_X9_readRegions_39 bc bs B17 u v S a0 r1 x2 x3 Q E)) ∧ (¬ x3 ≤ 0 → (q_K S a0 = 10 ∧ (wm_X9_seesSign S a0 (125 : Int32) (fun r75_ S76_ => ∃ x77_ : Int32, r75_ = some (.int x77_) ∧ (((x77_ = 0 → (wb_X9_readRegions_39 bc bs B17 u v S76_ a0 r1 x2 x3 Q E)) ∧ (¬ x77_ = 0 → (wb_X9_readRegions_138 bc bs u v S76_ a0 r1 x2 Q E))))))))))))
set_option maxHeartbeats 4000000 in
set_option maxRecDepth 100000 in
theorem cb_X9_readRegions_17 {p : Program} {l : Launch} {e : Env} {s : State} {m : MethodId} {args : Array Value} {below : List Frame} {meth : Method} {c : Code} {D : va_G} {cy : Nat → ClassId} {lo : Nat} {bc bs : Nat} {B17 : Nat → Nat → q_S → Nat → Option Nat → Int32 → Int32 → Prop} {u v : Nat} {S : q_S} {a0 : Nat} {r1 : Option Nat} {x2 : Int32} {x3 : Int32} {Q : Option Value → q_S → Prop} {E : String → q_S → Prop} {H : Heap} {locs : List Loc} {ls : Array Slot} (X : q_X p s m args meth c RX9 cX9_readRegions 5 none D cy lo) (hex : ∀ x ∈ c.exceptionTable.toList, False) (hst : l.stackTraces = false) (hB17 : ∀ (u v : Nat) (S : q_S) (a0 : Nat) (r1 : Option Nat) (x2 : Int32) (x3 : Int32) (H : Heap) (locs : List Loc) (ls : Array Slot), B17 u v S a0 r1 x2 x3 → (u ≤ bc ∧ v ≤ bs) → q_Y D cy lo s S H locs → lv_has ls 5 [(0, .ref a0), (1, va_rf r1), (2, .int x2), (3, .int x3)] → W p l e ({ frames := 9, cells := bc, slots := bs, locals := 163 } : Room) s m args below meth c H locs u v (vx_MQ below (q_Q D cy lo Q) (q_XE D cy lo E) args s bc bs (fun q => lo ≤ q)) (F0 m 17 ls [])) (hu : u ≤ bc ∧ v ≤ bs) (Y : q_Y D cy lo s S H locs) (hl : lv_has ls 5 [(0, .ref a0), (1, va_rf r1), (2, .int x2), (3, .int x3)]) (h : wb_X9_readRegions_17 bc bs B17 u v S a0 r1 x2 x3 Q E) : W p l e ({ frames := 9, cells := bc, slots := bs, locals := 163 } : Room) s m args below meth c H locs u v (vx_MQ below (q_Q D cy lo Q) (q_XE D cy lo E) args s bc bs (fun q => lo ≤ q)) (F0 m 17 ls []) := by
  have hx := X.1
  have hb := X.2.1
  unfold wb_X9_readRegions_17 at h
  refine lv_iload_n hx hb dX9_readRegions_17 rfl (lv_at hl 3 rfl) ?_
  refine lv_bipush (v := 6) hx hb dX9_readRegions_18 (by decide) ?_
  refine lv_icmp_gt (tgt := 138) hx hb dX9_readRegions_20 (by decide) (fun c72_ => ?_) (fun c72_ => ?_)
  · replace h := h.1 c72_
    exact cb_X9_readRegions_138 X hex hst hu Y (lv_sub hl [0, 1, 2] rfl) h
  · replace h := h.2 c72_
    refine lv_iload_n hx hb dX9_readRegions_23 rfl (lv_at hl 3 rfl) ?_
    refine lv_if_le (tgt := 39) hx hb dX9_readRegions_24 (by decide) (fun c73_ => ?_) (fun c73_ => ?_)
    · replace h := h.1 c73_
      exact cb_X9_readRegions_39 X hex hst hB17 hu Y (lv_sub hl [0, 1, 2, 3] rfl) h
    · replace h := h.2 c73_
      refine lv_aload_n hx hb dX9_readRegions_27 rfl (lv_at hl 0 rfl) ?_
      refine lv_bipush (v := 125) hx hb dX9_readRegions_28 (by decide) ?_
      obtain ⟨k74_, h⟩ := h
      refine q_callV X Y hl (cm_X9_seesSign h) mt_X9_seesSign mi_X9_seesSign ml_X9_141 (ci := 9) rfl k74_ (by decide) rfl rfl (by first | exact Nat.le_of_ble_eq_true rfl | simp [q_cat, q_catI, q_catJ, q_catR]) ⟨Nat.le_of_ble_eq_true rfl, Nat.le_of_ble_eq_true rfl⟩ hu dX9_readRegions_30 (fun r75_ S76_ H locs hp Y => ?_)
      obtain ⟨x77_, rfl, h⟩ := hp
      refine W.eq (g2 := F0 m 33 ls [.int x77_]) rfl ?_
      refine lv_if_eq (tgt := 39) hx hb dX9_readRegions_33 (by decide) (fun c78_ => ?_) (fun c78_ => ?_)
      · replace h := h.1 c78_
        exact cb_X9_readRegions_39 X hex hst hB17 hu Y (lv_sub hl [0, 1, 2, 3] rfl) h
      · replace h := h.2 c78_
        refine lv_goto (tgt := 138) hx hb dX9_readRegions_36 (by decide) ?_
        exact cb_X9_readRegions_138 X hex hst hu Y (lv_sub hl [0, 1, 2] rfl) h
def wl_X9_readRegions_17 (bc bs : Nat)  : Nat → Nat → Nat → q_S → Nat → Option Nat → Int32 → Int32 → (Option Value → q_S → Prop) → (String → q_S → Prop) → Prop
  | 0, _, _, _, _, _, _, _, _, _ => False
  | n + 1, u, v, S, a0, r1, x2, x3, Q, E => wb_X9_readRegions_17 bc bs (fun u v S a0 r1 x2 x3 => wl_X9_readRegions_17 bc bs n u v S a0 r1 x2 x3 Q E) u v S a0 r1 x2 x3 Q E
set_option maxHeartbeats 4000000 in
set_option maxRecDepth 100000 in
theorem cl_X9_readRegions_17 {p : Program} {l : Launch} {e : Env} {s : State} {m : MethodId} {args : Array Value} {below : List Frame} {meth : Method} {c : Code} {D : va_G} {cy : Nat → ClassId} {lo : Nat} {bc bs : Nat}  {Q : Option Value → q_S → Prop} {E : String → q_S → Prop} (X : q_X p s m args meth c RX9 cX9_readRegions 5 none D cy lo) (hex : ∀ x ∈ c.exceptionTable.toList, False) (hst : l.stackTraces = false)  : ∀ (n : Nat) (u v : Nat) (S : q_S) (a0 : Nat) (r1 : Option Nat) (x2 : Int32) (x3 : Int32) (H : Heap) (locs : List Loc) (ls : Array Slot), wl_X9_readRegions_17 bc bs n u v S a0 r1 x2 x3 Q E → (u ≤ bc ∧ v ≤ bs) → q_Y D cy lo s S H locs → lv_has ls 5 [(0, .ref a0), (1, va_rf r1), (2, .int x2), (3, .int x3)] → W p l e ({ frames := 9, cells := bc, slots := bs, locals := 163 } : Room) s m args below meth c H locs u v (vx_MQ below (q_Q D cy lo Q) (q_XE D cy lo E) args s bc bs (fun q => lo ≤ q)) (F0 m 17 ls []) := by
  intro n
  induction n with
  | zero => intro u v S a0 r1 x2 x3 H locs ls h; exact absurd h id
  | succ n ih => intro u v S a0 r1 x2 x3 H locs ls h hu Y hl; exact cb_X9_readRegions_17 X hex hst ih hu Y hl h
def wm_X9_readRegions (bc bs : Nat) (S : q_S) (a0 : Nat) (r1 : Option Nat) (Q : Option Value → q_S → Prop) (E : String → q_S → Prop) : Prop := q_K S a0 = 10 ∧ (∃ m82_ m83_ : Nat, (0 + m82_ ≤ bc ∧ 0 + m83_ ≤ bs) ∧ (wm_X9_advance m82_ m83_ S a0 (fun r80_ S81_ => r80_ = none ∧ (q_K S81_ a0 = 10 ∧ (∃ m88_ m89_ : Nat, ((0 + m82_) + m88_ ≤ bc ∧ (0 + m83_) + m89_ ≤ bs) ∧ (wm_X9_expectSign m88_ m89_ S81_ a0 (123 : Int32) (fun r86_ S87_ => r86_ = none ∧ (∃ n91_ : Nat, wl_X9_readRegions_17 bc bs n91_ ((0 + m82_) + m88_) ((0 + m83_) + m89_) S87_ a0 r1 (q_I S 1811 a0) (0 : Int32) Q E)) E)))) E))
set_option maxHeartbeats 4000000 in
set_option maxRecDepth 100000 in
theorem cm_X9_readRegions {l : Launch} {D : va_G} {cy : Nat → ClassId} {lo : Nat} {bc bs : Nat} {S : q_S} {a0 : Nat} {r1 : Option Nat} {Q : Option Value → q_S → Prop} {E : String → q_S → Prop} (hst : l.stackTraces = false) (h : wm_X9_readRegions bc bs S a0 r1 Q E) : q_MetX l D cy lo yX9_readRegions cX9_readRegions 5 none 9 163 bc bs [.ref a0, va_rf r1] S Q E := by
  refine q_bodyX (by decide) (by first | exact Nat.le_of_ble_eq_true rfl | simp [lg_sl, q_cat, q_catI, q_catJ, q_catR]) ?_
  intro p e s m below meth c ls X hex Y hl
  have hx := X.1
  have hb := X.2.1
  have hl : lv_has ls 5 [(0, .ref a0), (1, va_rf r1)] := by first | exact hl | simpa [lv_args, q_cat, q_catI, q_catJ, q_catR] using hl
  generalize hargs : ([.ref a0, va_rf r1] : List Value).toArray = args at X ⊢
  have hu : 0 ≤ bc ∧ 0 ≤ bs := ⟨Nat.zero_le _, Nat.zero_le _⟩
  unfold wm_X9_readRegions at h
  refine lv_aload_n hx hb dX9_readRegions_0 rfl (lv_at hl 0 rfl) ?_
  obtain ⟨k79_, h⟩ := h
  refine q_getI X Y kX9 11 rfl fl_X9_113 k79_ dX9_readRegions_1 ?_
  refine lv_istore_n (i := 2) (lv' := [(2, .int (q_I S 1811 a0)), (0, .ref a0), (1, va_rf r1)]) hx hb dX9_readRegions_4 rfl hl (by decide) (by first | rfl | simp [q_cat, q_catI, q_catJ, q_catR]) (fun ls hl => ?_)
  refine lv_aload_n hx hb dX9_readRegions_5 rfl (lv_at hl 1 rfl) ?_
  obtain ⟨m82_, m83_, w84_, h⟩ := h
  refine q_callVX X hex Y hl (cm_X9_advance hst h) mt_X9_advance mi_X9_advance ml_X9_78 (ci := 9) rfl k79_ (by decide) rfl rfl (by first | exact Nat.le_of_ble_eq_true rfl | simp [q_cat, q_catI, q_catJ, q_catR]) ⟨Nat.le_of_ble_eq_true rfl, Nat.le_of_ble_eq_true rfl⟩ w84_ w84_ dX9_readRegions_6 (fun r80_ S81_ H locs hp Y => ?_)
  obtain ⟨rfl, h⟩ := hp
  replace hu := w84_
  refine W.eq (g2 := F0 m 9 ls []) rfl ?_
  refine lv_aload_n hx hb dX9_readRegions_9 rfl (lv_at hl 1 rfl) ?_
  refine lv_bipush (v := 123) hx hb dX9_readRegions_10 (by decide) ?_
  obtain ⟨k85_, h⟩ := h
  obtain ⟨m88_, m89_, w90_, h⟩ := h
  refine q_callVX X hex Y hl (cm_X9_expectSign hst h) mt_X9_expectSign mi_X9_expectSign ml_X9_160 (ci := 9) rfl k85_ (by decide) rfl rfl (by first | exact Nat.le_of_ble_eq_true rfl | simp [q_cat, q_catI, q_catJ, q_catR]) ⟨Nat.le_of_ble_eq_true rfl, Nat.le_of_ble_eq_true rfl⟩ w90_ w90_ dX9_readRegions_12 (fun r86_ S87_ H locs hp Y => ?_)
  obtain ⟨rfl, h⟩ := hp
  replace hu := w90_
  refine W.eq (g2 := F0 m 15 ls []) rfl ?_
  refine lv_iconst (v := 0) hx hb dX9_readRegions_15 (by decide) ?_
  refine lv_istore_n (i := 3) (lv' := [(3, .int (0 : Int32)), (2, .int (q_I S 1811 a0)), (0, .ref a0), (1, va_rf r1)]) hx hb dX9_readRegions_16 rfl hl (by decide) (by first | rfl | simp [q_cat, q_catI, q_catJ, q_catR]) (fun ls hl => ?_)
  obtain ⟨n91_, h⟩ := h
  exact cl_X9_readRegions_17 X hex hst n91_ _ _ _ _ _ _ _ _ _ _ h hu Y (lv_sub hl [2, 3, 1, 0] rfl)
-- X9_readHead
theorem ml_X9_156 : Cond.methodLink RX9 156 yX6_addPartition ∈ q_G := q_tb (i := 642) (by decide +kernel) (by decide +kernel)
theorem mt_X6_addPartition : q_Mt yX6_addPartition cX6_addPartition 5 (some (.object "PartitionWorks$Partition")) 1 := ⟨q_tb (i := 645) (by decide +kernel) (by decide +kernel), q_tb (i := 3) (by decide +kernel) (by decide +kernel), by decide +kernel, by decide +kernel, by decide +kernel⟩
theorem mi_X6_addPartition : Cond.instanceMethod yX6_addPartition ∈ q_G ∧ Cond.selects yX6_addPartition.cls yX6_addPartition yX6_addPartition ∈ q_G := ⟨q_tb (i := 643) (by decide +kernel) (by decide +kernel), q_tb (i := 644) (by decide +kernel) (by decide +kernel)⟩
theorem ml_X9_145 : Cond.methodLink RX9 145 yX9_expect ∈ q_G := q_tb (i := 634) (by decide +kernel) (by decide +kernel)
theorem mt_X9_expect : q_Mt yX9_expect cX9_expect 2 none 1 := ⟨q_tb (i := 637) (by decide +kernel) (by decide +kernel), q_tb (i := 2) (by decide +kernel) (by decide +kernel), by decide +kernel, by decide +kernel, by decide +kernel⟩
theorem mi_X9_expect : Cond.instanceMethod yX9_expect ∈ q_G ∧ Cond.selects yX9_expect.cls yX9_expect yX9_expect ∈ q_G := ⟨q_tb (i := 636) (by decide +kernel) (by decide +kernel), q_tp (i := 11) (q := (yX9_expect, 14)) (by decide +kernel) (by decide +kernel)⟩
theorem fl_X9_164 : Cond.fieldLink RX9 164 "PartitionWorks$Partition" "memory" "LPartitionWorks$Memory;" ∈ q_G := q_tb (i := 697) (by decide +kernel) (by decide +kernel)
theorem ml_X9_174 : Cond.methodLink RX9 174 yX4_setBytes ∈ q_G := q_tb (i := 788) (by decide +kernel) (by decide +kernel)
theorem mt_X4_setBytes : q_Mt yX4_setBytes cX4_setBytes 2 none 1 := ⟨q_tb (i := 791) (by decide +kernel) (by decide +kernel), q_tb (i := 21) (by decide +kernel) (by decide +kernel), by decide +kernel, by decide +kernel, by decide +kernel⟩
theorem mi_X4_setBytes : Cond.instanceMethod yX4_setBytes ∈ q_G ∧ Cond.selects yX4_setBytes.cls yX4_setBytes yX4_setBytes ∈ q_G := ⟨q_tb (i := 789) (by decide +kernel) (by decide +kernel), q_tb (i := 790) (by decide +kernel) (by decide +kernel)⟩
theorem ml_X9_179 : Cond.methodLink RX9 179 yX9_readRegions ∈ q_G := q_tb (i := 794) (by decide +kernel) (by decide +kernel)
theorem mt_X9_readRegions : q_Mt yX9_readRegions cX9_readRegions 5 none 1 := ⟨q_tb (i := 797) (by decide +kernel) (by decide +kernel), q_tb (i := 2) (by decide +kernel) (by decide +kernel), by decide +kernel, by decide +kernel, by decide +kernel⟩
theorem mi_X9_readRegions : Cond.instanceMethod yX9_readRegions ∈ q_G ∧ Cond.selects yX9_readRegions.cls yX9_readRegions yX9_readRegions ∈ q_G := ⟨q_tb (i := 796) (by decide +kernel) (by decide +kernel), q_tp (i := 15) (q := (yX9_readRegions, 14)) (by decide +kernel) (by decide +kernel)⟩
theorem ml_X9_152 : Cond.methodLink RX9 152 yX6_partitionNamed ∈ q_G := q_tb (i := 638) (by decide +kernel) (by decide +kernel)
theorem mt_X6_partitionNamed : q_Mt yX6_partitionNamed cX6_partitionNamed 4 (some .int) 1 := ⟨q_tb (i := 641) (by decide +kernel) (by decide +kernel), q_tb (i := 3) (by decide +kernel) (by decide +kernel), by decide +kernel, by decide +kernel, by decide +kernel⟩
theorem mi_X6_partitionNamed : Cond.instanceMethod yX6_partitionNamed ∈ q_G ∧ Cond.selects yX6_partitionNamed.cls yX6_partitionNamed yX6_partitionNamed ∈ q_G := ⟨q_tb (i := 639) (by decide +kernel) (by decide +kernel), q_tb (i := 640) (by decide +kernel) (by decide +kernel)⟩
theorem fl_X9_149 : Cond.fieldLink RX9 149 "PartitionWorks$Plan" "partitionCount" "I" ∈ q_G := q_tb (i := 80) (by decide +kernel) (by decide +kernel)
theorem dX9_readHead_0 : decode cX9_readHead 0 = .ok (.aload_n 0, 1) := by decide +kernel
theorem dX9_readHead_1 : decode cX9_readHead 1 = .ok (.iconst 0, 1) := by decide +kernel
theorem dX9_readHead_2 : decode cX9_readHead 2 = .ok (.invokevirtual 145, 3) := by decide +kernel
theorem dX9_readHead_5 : decode cX9_readHead 5 = .ok (.aload_n 0, 1) := by decide +kernel
theorem dX9_readHead_6 : decode cX9_readHead 6 = .ok (.getfield 12, 3) := by decide +kernel
theorem dX9_readHead_9 : decode cX9_readHead 9 = .ok (.getfield 149, 3) := by decide +kernel
theorem dX9_readHead_12 : decode cX9_readHead 12 = .ok (.bipush 16, 2) := by decide +kernel
theorem dX9_readHead_14 : decode cX9_readHead 14 = .ok (.if_icmp .lt 12, 3) := by decide +kernel
theorem dX9_readHead_17 : decode cX9_readHead 17 = .ok (.aload_n 0, 1) := by decide +kernel
theorem dX9_readHead_18 : decode cX9_readHead 18 = .ok (.iconst 4, 1) := by decide +kernel
theorem dX9_readHead_19 : decode cX9_readHead 19 = .ok (.aload_n 0, 1) := by decide +kernel
theorem dX9_readHead_20 : decode cX9_readHead 20 = .ok (.getfield 113, 3) := by decide +kernel
theorem dX9_readHead_23 : decode cX9_readHead 23 = .ok (.invokevirtual 133, 3) := by decide +kernel
theorem dX9_readHead_26 : decode cX9_readHead 26 = .ok (.aload_n 0, 1) := by decide +kernel
theorem dX9_readHead_27 : decode cX9_readHead 27 = .ok (.getfield 119, 3) := by decide +kernel
theorem dX9_readHead_30 : decode cX9_readHead 30 = .ok (.iconst 2, 1) := by decide +kernel
theorem dX9_readHead_31 : decode cX9_readHead 31 = .ok (.if_icmp .eq 12, 3) := by decide +kernel
theorem dX9_readHead_34 : decode cX9_readHead 34 = .ok (.aload_n 0, 1) := by decide +kernel
theorem dX9_readHead_35 : decode cX9_readHead 35 = .ok (.iconst 1, 1) := by decide +kernel
theorem dX9_readHead_36 : decode cX9_readHead 36 = .ok (.aload_n 0, 1) := by decide +kernel
theorem dX9_readHead_37 : decode cX9_readHead 37 = .ok (.getfield 113, 3) := by decide +kernel
theorem dX9_readHead_40 : decode cX9_readHead 40 = .ok (.invokevirtual 133, 3) := by decide +kernel
theorem dX9_readHead_43 : decode cX9_readHead 43 = .ok (.aload_n 0, 1) := by decide +kernel
theorem dX9_readHead_44 : decode cX9_readHead 44 = .ok (.getfield 12, 3) := by decide +kernel
theorem dX9_readHead_47 : decode cX9_readHead 47 = .ok (.aload_n 0, 1) := by decide +kernel
theorem dX9_readHead_48 : decode cX9_readHead 48 = .ok (.getfield 137, 3) := by decide +kernel
theorem dX9_readHead_51 : decode cX9_readHead 51 = .ok (.invokevirtual 152, 3) := by decide +kernel
theorem dX9_readHead_54 : decode cX9_readHead 54 = .ok (.iconst (-1), 1) := by decide +kernel
theorem dX9_readHead_55 : decode cX9_readHead 55 = .ok (.if_icmp .eq 12, 3) := by decide +kernel
theorem dX9_readHead_58 : decode cX9_readHead 58 = .ok (.aload_n 0, 1) := by decide +kernel
theorem dX9_readHead_59 : decode cX9_readHead 59 = .ok (.iconst 3, 1) := by decide +kernel
theorem dX9_readHead_60 : decode cX9_readHead 60 = .ok (.aload_n 0, 1) := by decide +kernel
theorem dX9_readHead_61 : decode cX9_readHead 61 = .ok (.getfield 113, 3) := by decide +kernel
theorem dX9_readHead_64 : decode cX9_readHead 64 = .ok (.invokevirtual 133, 3) := by decide +kernel
theorem dX9_readHead_67 : decode cX9_readHead 67 = .ok (.aload_n 0, 1) := by decide +kernel
theorem dX9_readHead_68 : decode cX9_readHead 68 = .ok (.getfield 12, 3) := by decide +kernel
theorem dX9_readHead_71 : decode cX9_readHead 71 = .ok (.aload_n 0, 1) := by decide +kernel
theorem dX9_readHead_72 : decode cX9_readHead 72 = .ok (.getfield 137, 3) := by decide +kernel
theorem dX9_readHead_75 : decode cX9_readHead 75 = .ok (.invokevirtual 156, 3) := by decide +kernel
theorem dX9_readHead_78 : decode cX9_readHead 78 = .ok (.astore_n 1, 1) := by decide +kernel
theorem dX9_readHead_79 : decode cX9_readHead 79 = .ok (.aload_n 0, 1) := by decide +kernel
theorem dX9_readHead_80 : decode cX9_readHead 80 = .ok (.invokevirtual 78, 3) := by decide +kernel
theorem dX9_readHead_83 : decode cX9_readHead 83 = .ok (.aload_n 0, 1) := by decide +kernel
theorem dX9_readHead_84 : decode cX9_readHead 84 = .ok (.bipush 123, 2) := by decide +kernel
theorem dX9_readHead_86 : decode cX9_readHead 86 = .ok (.invokevirtual 160, 3) := by decide +kernel
theorem dX9_readHead_89 : decode cX9_readHead 89 = .ok (.aload_n 0, 1) := by decide +kernel
theorem dX9_readHead_90 : decode cX9_readHead 90 = .ok (.iconst 1, 1) := by decide +kernel
theorem dX9_readHead_91 : decode cX9_readHead 91 = .ok (.invokevirtual 145, 3) := by decide +kernel
theorem dX9_readHead_94 : decode cX9_readHead 94 = .ok (.aload_n 1, 1) := by decide +kernel
theorem dX9_readHead_95 : decode cX9_readHead 95 = .ok (.getfield 164, 3) := by decide +kernel
theorem dX9_readHead_98 : decode cX9_readHead 98 = .ok (.aload_n 0, 1) := by decide +kernel
theorem dX9_readHead_99 : decode cX9_readHead 99 = .ok (.sipush 256, 3) := by decide +kernel
theorem dX9_readHead_102 : decode cX9_readHead 102 = .ok (.sipush 8192, 3) := by decide +kernel
theorem dX9_readHead_105 : decode cX9_readHead 105 = .ok (.sipush 256, 3) := by decide +kernel
theorem dX9_readHead_108 : decode cX9_readHead 108 = .ok (.invokevirtual 170, 3) := by decide +kernel
theorem dX9_readHead_111 : decode cX9_readHead 111 = .ok (.invokevirtual 174, 3) := by decide +kernel
theorem dX9_readHead_114 : decode cX9_readHead 114 = .ok (.aload_n 0, 1) := by decide +kernel
theorem dX9_readHead_115 : decode cX9_readHead 115 = .ok (.bipush 59, 2) := by decide +kernel
theorem dX9_readHead_117 : decode cX9_readHead 117 = .ok (.invokevirtual 160, 3) := by decide +kernel
theorem dX9_readHead_120 : decode cX9_readHead 120 = .ok (.aload_n 0, 1) := by decide +kernel
theorem dX9_readHead_121 : decode cX9_readHead 121 = .ok (.iconst 2, 1) := by decide +kernel
theorem dX9_readHead_122 : decode cX9_readHead 122 = .ok (.invokevirtual 81, 3) := by decide +kernel
theorem dX9_readHead_125 : decode cX9_readHead 125 = .ok (.ifCond .eq 14, 3) := by decide +kernel
theorem dX9_readHead_128 : decode cX9_readHead 128 = .ok (.aload_n 0, 1) := by decide +kernel
theorem dX9_readHead_129 : decode cX9_readHead 129 = .ok (.aload_n 1, 1) := by decide +kernel
theorem dX9_readHead_130 : decode cX9_readHead 130 = .ok (.getfield 164, 3) := by decide +kernel
theorem dX9_readHead_133 : decode cX9_readHead 133 = .ok (.invokevirtual 179, 3) := by decide +kernel
theorem dX9_readHead_136 : decode cX9_readHead 136 = .ok (.goto 18, 3) := by decide +kernel
theorem dX9_readHead_139 : decode cX9_readHead 139 = .ok (.aload_n 1, 1) := by decide +kernel
theorem dX9_readHead_140 : decode cX9_readHead 140 = .ok (.getfield 164, 3) := by decide +kernel
theorem dX9_readHead_143 : decode cX9_readHead 143 = .ok (.aload_n 1, 1) := by decide +kernel
theorem dX9_readHead_144 : decode cX9_readHead 144 = .ok (.getfield 164, 3) := by decide +kernel
theorem dX9_readHead_147 : decode cX9_readHead 147 = .ok (.getfield 183, 3) := by decide +kernel
theorem dX9_readHead_150 : decode cX9_readHead 150 = .ok (.iconst 3, 1) := by decide +kernel
theorem dX9_readHead_151 : decode cX9_readHead 151 = .ok (.invokevirtual 184, 3) := by decide +kernel
theorem dX9_readHead_154 : decode cX9_readHead 154 = .ok (.aload_n 1, 1) := by decide +kernel
theorem dX9_readHead_155 : decode cX9_readHead 155 = .ok (.areturn, 1) := by decide +kernel
def wb_X9_readHead_154 (bc bs : Nat)  (u v : Nat) (S : q_S) (r1 : Option Nat) (Q : Option Value → q_S → Prop) (E : String → q_S → Prop) : Prop := Q (some (va_rf r1)) S
set_option maxHeartbeats 4000000 in
set_option maxRecDepth 100000 in
theorem cb_X9_readHead_154 {p : Program} {l : Launch} {e : Env} {s : State} {m : MethodId} {args : Array Value} {below : List Frame} {meth : Method} {c : Code} {D : va_G} {cy : Nat → ClassId} {lo : Nat} {bc bs : Nat}  {u v : Nat} {S : q_S} {r1 : Option Nat} {Q : Option Value → q_S → Prop} {E : String → q_S → Prop} {H : Heap} {locs : List Loc} {ls : Array Slot} (X : q_X p s m args meth c RX9 cX9_readHead 2 (some (.object "PartitionWorks$Partition")) D cy lo) (hex : ∀ x ∈ c.exceptionTable.toList, False) (hst : l.stackTraces = false)  (hu : u ≤ bc ∧ v ≤ bs) (Y : q_Y D cy lo s S H locs) (hl : lv_has ls 2 [(1, va_rf r1)]) (h : wb_X9_readHead_154 bc bs u v S r1 Q E) : W p l e ({ frames := 10, cells := bc, slots := bs, locals := 187 } : Room) s m args below meth c H locs u v (vx_MQ below (q_Q D cy lo Q) (q_XE D cy lo E) args s bc bs (fun q => lo ≤ q)) (F0 m 154 ls []) := by
  have hx := X.1
  have hb := X.2.1
  unfold wb_X9_readHead_154 at h
  refine q_aload_n hx hb dX9_readHead_154 rfl (lv_at hl 0 rfl) ?_
  exact vx_ret <| q_aret X Y (Or.inl ⟨_, rfl⟩) (va_rf_or _) hu.1 hu.2 h dX9_readHead_155
def wb_X9_readHead_67 (bc bs : Nat)  (u v : Nat) (S : q_S) (a0 : Nat) (Q : Option Value → q_S → Prop) (E : String → q_S → Prop) : Prop := q_K S a0 = 10 ∧ (∃ a2_ : Nat, (q_P S 1800 a0) = some a2_ ∧ (q_K S a2_ = 7 ∧ (∃ m7_ m8_ : Nat, (u + m7_ ≤ bc ∧ v + m8_ ≤ bs) ∧ (wm_X6_addPartition m7_ m8_ S a2_ (q_J S 1810 a0) (fun r5_ S6_ => ∃ r10_ : Option Nat, r5_ = some (va_rf r10_) ∧ (q_K S6_ a0 = 10 ∧ (∃ m14_ m15_ : Nat, ((u + m7_) + m14_ ≤ bc ∧ (v + m8_) + m15_ ≤ bs) ∧ (wm_X9_advance m14_ m15_ S6_ a0 (fun r12_ S13_ => r12_ = none ∧ (q_K S13_ a0 = 10 ∧ (∃ m20_ m21_ : Nat, (((u + m7_) + m14_) + m20_ ≤ bc ∧ ((v + m8_) + m15_) + m21_ ≤ bs) ∧ (wm_X9_expectSign m20_ m21_ S13_ a0 (123 : Int32) (fun r18_ S19_ => r18_ = none ∧ (q_K S19_ a0 = 10 ∧ (∃ m26_ m27_ : Nat, ((((u + m7_) + m14_) + m20_) + m26_ ≤ bc ∧ (((v + m8_) + m15_) + m21_) + m27_ ≤ bs) ∧ (wm_X9_expect m26_ m27_ S19_ a0 (1 : Int32) (fun r24_ S25_ => r24_ = none ∧ (∃ a29_ : Nat, r10_ = some a29_ ∧ (q_K S25_ a29_ = 6 ∧ (q_K S25_ a0 = 10 ∧ (∃ m35_ m36_ : Nat, (((((u + m7_) + m14_) + m20_) + m26_) + m35_ ≤ bc ∧ ((((v + m8_) + m15_) + m21_) + m27_) + m36_ ≤ bs) ∧ (wm_X9_number m35_ m36_ S25_ a0 (256 : Int32) (8192 : Int32) (256 : Int32) (fun r33_ S34_ => ∃ x38_ : Int32, r33_ = some (.int x38_) ∧ (∃ a39_ : Nat, (q_P S25_ 1002 a29_) = some a39_ ∧ (q_K S34_ a39_ = 5 ∧ (∃ m44_ m45_ : Nat, ((((((u + m7_) + m14_) + m20_) + m26_) + m35_) + m44_ ≤ bc ∧ (((((v + m8_) + m15_) + m21_) + m27_) + m36_) + m45_ ≤ bs) ∧ (wm_X4_setBytes m44_ m45_ S34_ a39_ x38_ (fun r42_ S43_ => r42_ = none ∧ (q_K S43_ a0 = 10 ∧ (∃ m50_ m51_ : Nat, (((((((u + m7_) + m14_) + m20_) + m26_) + m35_) + m44_) + m50_ ≤ bc ∧ ((((((v + m8_) + m15_) + m21_) + m27_) + m36_) + m45_) + m51_ ≤ bs) ∧ (wm_X9_expectSign m50_ m51_ S43_ a0 (59 : Int32) (fun r48_ S49_ => r48_ = none ∧ (q_K S49_ a0 = 10 ∧ (wm_X9_sees S49_ a0 (2 : Int32) (fun r54_ S55_ => ∃ x56_ : Int32, r54_ = some (.int x56_) ∧ (((x56_ = 0 → (q_K S55_ a29_ = 6 ∧ (∃ a59_ : Nat, (q_P S55_ 1002 a29_) = some a59_ ∧ (q_K S55_ a59_ = 5 ∧ (wm_X4_addRegion S55_ a59_ (q_I S55_ 800 a59_) (3 : Int32) (fun r62_ S63_ => r62_ = none ∧ (wb_X9_readHead_154 bc bs (((((((u + m7_) + m14_) + m20_) + m26_) + m35_) + m44_) + m50_) (((((((v + m8_) + m15_) + m21_) + m27_) + m36_) + m45_) + m51_) S63_ r10_ Q E))))))) ∧ (¬ x56_ = 0 → (q_K S55_ a29_ = 6 ∧ (q_K S55_ a0 = 10 ∧ (∃ m68_ m69_ : Nat, ((((((((u + m7_) + m14_) + m20_) + m26_) + m35_) + m44_) + m50_) + m68_ ≤ bc ∧ (((((((v + m8_) + m15_) + m21_) + m27_) + m36_) + m45_) + m51_) + m69_ ≤ bs) ∧ (wm_X9_readRegions m68_ m69_ S55_ a0 (q_P S55_ 1002 a29_) (fun r66_ S67_ => r66_ = none ∧ (wb_X9_readHead_154 bc bs ((((((((u + m7_) + m14_) + m20_) + m26_) + m35_) + m44_) + m50_) + m68_) ((((((((v + m8_) + m15_) + m21_) + m27_) + m36_) + m45_) + m51_) + m69_) S67_ r10_ Q E)) E))))))))))) E))))))))) E)))))) E)))) E)))) E))))))))
set_option maxHeartbeats 4000000 in
set_option maxRecDepth 100000 in
theorem cb_X9_readHead_67 {p : Program} {l : Launch} {e : Env} {s : State} {m : MethodId} {args : Array Value} {below : List Frame} {meth : Method} {c : Code} {D : va_G} {cy : Nat → ClassId} {lo : Nat} {bc bs : Nat}  {u v : Nat} {S : q_S} {a0 : Nat} {Q : Option Value → q_S → Prop} {E : String → q_S → Prop} {H : Heap} {locs : List Loc} {ls : Array Slot} (X : q_X p s m args meth c RX9 cX9_readHead 2 (some (.object "PartitionWorks$Partition")) D cy lo) (hex : ∀ x ∈ c.exceptionTable.toList, False) (hst : l.stackTraces = false)  (hu : u ≤ bc ∧ v ≤ bs) (Y : q_Y D cy lo s S H locs) (hl : lv_has ls 2 [(0, .ref a0)]) (h : wb_X9_readHead_67 bc bs u v S a0 Q E) : W p l e ({ frames := 10, cells := bc, slots := bs, locals := 187 } : Room) s m args below meth c H locs u v (vx_MQ below (q_Q D cy lo Q) (q_XE D cy lo E) args s bc bs (fun q => lo ≤ q)) (F0 m 67 ls []) := by
  have hx := X.1
  have hb := X.2.1
  unfold wb_X9_readHead_67 at h
  refine lv_aload_n hx hb dX9_readHead_67 rfl (lv_at hl 0 rfl) ?_
  obtain ⟨k1_, h⟩ := h
  refine q_getP X Y kX9 0 rfl fl_X9_12 k1_ rfl dX9_readHead_68 ?_
  refine lv_aload_n hx hb dX9_readHead_71 rfl (lv_at hl 0 rfl) ?_
  refine q_getJ X Y kX9 10 rfl fl_X9_137 k1_ dX9_readHead_72 ?_
  obtain ⟨a2_, e3_, h⟩ := h
  refine q_nn [.long (q_J S 1810 a0)] e3_ ?_
  obtain ⟨k4_, h⟩ := h
  obtain ⟨m7_, m8_, w9_, h⟩ := h
  refine q_callV X Y hl (cm_X6_addPartition h) mt_X6_addPartition mi_X6_addPartition ml_X9_156 (ci := 6) rfl k4_ (by decide) rfl rfl (by first | exact Nat.le_of_ble_eq_true rfl | simp [q_cat, q_catI, q_catJ, q_catR]) ⟨Nat.le_of_ble_eq_true rfl, Nat.le_of_ble_eq_true rfl⟩ w9_ dX9_readHead_75 (fun r5_ S6_ H locs hp Y => ?_)
  obtain ⟨r10_, rfl, h⟩ := hp
  replace hu := w9_
  refine W.eq (g2 := F0 m 78 ls [va_rf r10_]) rfl ?_
  refine q_astore_n (i := 1) (lv' := [(1, va_rf r10_), (0, .ref a0)]) hx hb dX9_readHead_78 rfl hl (by decide) (by first | rfl | simp [q_cat, q_catI, q_catJ, q_catR]) (fun ls hl => ?_)
  refine lv_aload_n hx hb dX9_readHead_79 rfl (lv_at hl 1 rfl) ?_
  obtain ⟨k11_, h⟩ := h
  obtain ⟨m14_, m15_, w16_, h⟩ := h
  refine q_callVX X hex Y hl (cm_X9_advance hst h) mt_X9_advance mi_X9_advance ml_X9_78 (ci := 9) rfl k11_ (by decide) rfl rfl (by first | exact Nat.le_of_ble_eq_true rfl | simp [q_cat, q_catI, q_catJ, q_catR]) ⟨Nat.le_of_ble_eq_true rfl, Nat.le_of_ble_eq_true rfl⟩ w16_ w16_ dX9_readHead_80 (fun r12_ S13_ H locs hp Y => ?_)
  obtain ⟨rfl, h⟩ := hp
  replace hu := w16_
  refine W.eq (g2 := F0 m 83 ls []) rfl ?_
  refine lv_aload_n hx hb dX9_readHead_83 rfl (lv_at hl 1 rfl) ?_
  refine lv_bipush (v := 123) hx hb dX9_readHead_84 (by decide) ?_
  obtain ⟨k17_, h⟩ := h
  obtain ⟨m20_, m21_, w22_, h⟩ := h
  refine q_callVX X hex Y hl (cm_X9_expectSign hst h) mt_X9_expectSign mi_X9_expectSign ml_X9_160 (ci := 9) rfl k17_ (by decide) rfl rfl (by first | exact Nat.le_of_ble_eq_true rfl | simp [q_cat, q_catI, q_catJ, q_catR]) ⟨Nat.le_of_ble_eq_true rfl, Nat.le_of_ble_eq_true rfl⟩ w22_ w22_ dX9_readHead_86 (fun r18_ S19_ H locs hp Y => ?_)
  obtain ⟨rfl, h⟩ := hp
  replace hu := w22_
  refine W.eq (g2 := F0 m 89 ls []) rfl ?_
  refine lv_aload_n hx hb dX9_readHead_89 rfl (lv_at hl 1 rfl) ?_
  refine lv_iconst (v := 1) hx hb dX9_readHead_90 (by decide) ?_
  obtain ⟨k23_, h⟩ := h
  obtain ⟨m26_, m27_, w28_, h⟩ := h
  refine q_callVX X hex Y hl (cm_X9_expect hst h) mt_X9_expect mi_X9_expect ml_X9_145 (ci := 9) rfl k23_ (by decide) rfl rfl (by first | exact Nat.le_of_ble_eq_true rfl | simp [q_cat, q_catI, q_catJ, q_catR]) ⟨Nat.le_of_ble_eq_true rfl, Nat.le_of_ble_eq_true rfl⟩ w28_ w28_ dX9_readHead_91 (fun r24_ S25_ H locs hp Y => ?_)
  obtain ⟨rfl, h⟩ := hp
  replace hu := w28_
  refine W.eq (g2 := F0 m 94 ls []) rfl ?_
  refine q_aload_n hx hb dX9_readHead_94 rfl (lv_at hl 0 rfl) ?_
  obtain ⟨a29_, e30_, h⟩ := h
  refine q_nn [] e30_ ?_
  obtain ⟨k31_, h⟩ := h
  refine q_getP X Y kX5 2 rfl fl_X9_164 k31_ rfl dX9_readHead_95 ?_
  refine lv_aload_n hx hb dX9_readHead_98 rfl (lv_at hl 1 rfl) ?_
  refine lv_sipush (v := 256) hx hb dX9_readHead_99 (by decide) ?_
  refine lv_sipush (v := 8192) hx hb dX9_readHead_102 (by decide) ?_
  refine lv_sipush (v := 256) hx hb dX9_readHead_105 (by decide) ?_
  obtain ⟨k32_, h⟩ := h
  obtain ⟨m35_, m36_, w37_, h⟩ := h
  refine q_callVX X hex Y hl (cm_X9_number hst h) mt_X9_number mi_X9_number ml_X9_170 (ci := 9) rfl k32_ (by decide) rfl rfl (by first | exact Nat.le_of_ble_eq_true rfl | simp [q_cat, q_catI, q_catJ, q_catR]) ⟨Nat.le_of_ble_eq_true rfl, Nat.le_of_ble_eq_true rfl⟩ w37_ w37_ dX9_readHead_108 (fun r33_ S34_ H locs hp Y => ?_)
  obtain ⟨x38_, rfl, h⟩ := hp
  replace hu := w37_
  refine W.eq (g2 := F0 m 111 ls [.int x38_, va_rf (q_P S25_ 1002 a29_)]) rfl ?_
  obtain ⟨a39_, e40_, h⟩ := h
  refine q_nn [.int x38_] e40_ ?_
  obtain ⟨k41_, h⟩ := h
  obtain ⟨m44_, m45_, w46_, h⟩ := h
  refine q_callV X Y hl (cm_X4_setBytes h) mt_X4_setBytes mi_X4_setBytes ml_X9_174 (ci := 4) rfl k41_ (by decide) rfl rfl (by first | exact Nat.le_of_ble_eq_true rfl | simp [q_cat, q_catI, q_catJ, q_catR]) ⟨Nat.le_of_ble_eq_true rfl, Nat.le_of_ble_eq_true rfl⟩ w46_ dX9_readHead_111 (fun r42_ S43_ H locs hp Y => ?_)
  obtain ⟨rfl, h⟩ := hp
  replace hu := w46_
  refine W.eq (g2 := F0 m 114 ls []) rfl ?_
  refine lv_aload_n hx hb dX9_readHead_114 rfl (lv_at hl 1 rfl) ?_
  refine lv_bipush (v := 59) hx hb dX9_readHead_115 (by decide) ?_
  obtain ⟨k47_, h⟩ := h
  obtain ⟨m50_, m51_, w52_, h⟩ := h
  refine q_callVX X hex Y hl (cm_X9_expectSign hst h) mt_X9_expectSign mi_X9_expectSign ml_X9_160 (ci := 9) rfl k47_ (by decide) rfl rfl (by first | exact Nat.le_of_ble_eq_true rfl | simp [q_cat, q_catI, q_catJ, q_catR]) ⟨Nat.le_of_ble_eq_true rfl, Nat.le_of_ble_eq_true rfl⟩ w52_ w52_ dX9_readHead_117 (fun r48_ S49_ H locs hp Y => ?_)
  obtain ⟨rfl, h⟩ := hp
  replace hu := w52_
  refine W.eq (g2 := F0 m 120 ls []) rfl ?_
  refine lv_aload_n hx hb dX9_readHead_120 rfl (lv_at hl 1 rfl) ?_
  refine lv_iconst (v := 2) hx hb dX9_readHead_121 (by decide) ?_
  obtain ⟨k53_, h⟩ := h
  refine q_callV X Y hl (cm_X9_sees h) mt_X9_sees mi_X9_sees ml_X9_81 (ci := 9) rfl k53_ (by decide) rfl rfl (by first | exact Nat.le_of_ble_eq_true rfl | simp [q_cat, q_catI, q_catJ, q_catR]) ⟨Nat.le_of_ble_eq_true rfl, Nat.le_of_ble_eq_true rfl⟩ hu dX9_readHead_122 (fun r54_ S55_ H locs hp Y => ?_)
  obtain ⟨x56_, rfl, h⟩ := hp
  refine W.eq (g2 := F0 m 125 ls [.int x56_]) rfl ?_
  refine lv_if_eq (tgt := 139) hx hb dX9_readHead_125 (by decide) (fun c57_ => ?_) (fun c57_ => ?_)
  · replace h := h.1 c57_
    refine q_aload_n hx hb dX9_readHead_139 rfl (lv_at hl 0 rfl) ?_
    refine q_nn [] e30_ ?_
    obtain ⟨k58_, h⟩ := h
    refine q_getP X Y kX5 2 rfl fl_X9_164 k58_ rfl dX9_readHead_140 ?_
    refine q_aload_n hx hb dX9_readHead_143 rfl (lv_at hl 0 rfl) ?_
    refine q_nn [] e30_ ?_
    refine q_getP X Y kX5 2 rfl fl_X9_164 k58_ rfl dX9_readHead_144 ?_
    obtain ⟨a59_, e60_, h⟩ := h
    refine q_nn [] e60_ ?_
    obtain ⟨k61_, h⟩ := h
    refine q_getI X Y kX4 0 rfl fl_X9_183 k61_ dX9_readHead_147 ?_
    refine lv_iconst (v := 3) hx hb dX9_readHead_150 (by decide) ?_
    refine q_nn [.int (3 : Int32), .int (q_I S55_ 800 a59_)] e60_ ?_
    refine q_callV X Y hl (cm_X4_addRegion h) mt_X4_addRegion mi_X4_addRegion ml_X9_184 (ci := 4) rfl k61_ (by decide) rfl rfl (by first | exact Nat.le_of_ble_eq_true rfl | simp [q_cat, q_catI, q_catJ, q_catR]) ⟨Nat.le_of_ble_eq_true rfl, Nat.le_of_ble_eq_true rfl⟩ hu dX9_readHead_151 (fun r62_ S63_ H locs hp Y => ?_)
    obtain ⟨rfl, h⟩ := hp
    refine W.eq (g2 := F0 m 154 ls []) rfl ?_
    exact cb_X9_readHead_154 X hex hst hu Y (lv_sub hl [0] rfl) h
  · replace h := h.2 c57_
    refine lv_aload_n hx hb dX9_readHead_128 rfl (lv_at hl 1 rfl) ?_
    refine q_aload_n hx hb dX9_readHead_129 rfl (lv_at hl 0 rfl) ?_
    refine q_nn [] e30_ ?_
    obtain ⟨k64_, h⟩ := h
    refine q_getP X Y kX5 2 rfl fl_X9_164 k64_ rfl dX9_readHead_130 ?_
    obtain ⟨k65_, h⟩ := h
    obtain ⟨m68_, m69_, w70_, h⟩ := h
    refine q_callVX X hex Y hl (cm_X9_readRegions hst h) mt_X9_readRegions mi_X9_readRegions ml_X9_179 (ci := 9) rfl k65_ (by decide) rfl rfl (by first | exact Nat.le_of_ble_eq_true rfl | simp [q_cat, q_catI, q_catJ, q_catR]) ⟨Nat.le_of_ble_eq_true rfl, Nat.le_of_ble_eq_true rfl⟩ w70_ w70_ dX9_readHead_133 (fun r66_ S67_ H locs hp Y => ?_)
    obtain ⟨rfl, h⟩ := hp
    replace hu := w70_
    refine W.eq (g2 := F0 m 136 ls []) rfl ?_
    refine lv_goto (tgt := 154) hx hb dX9_readHead_136 (by decide) ?_
    exact cb_X9_readHead_154 X hex hst hu Y (lv_sub hl [0] rfl) h
def wb_X9_readHead_43 (bc bs : Nat)  (u v : Nat) (S : q_S) (a0 : Nat) (Q : Option Value → q_S → Prop) (E : String → q_S → Prop) : Prop := q_K S a0 = 10 ∧ (∃ a72_ : Nat, (q_P S 1800 a0) = some a72_ ∧ (q_K S a72_ = 7 ∧ (wm_X6_partitionNamed S a72_ (q_J S 1810 a0) (fun r75_ S76_ => ∃ x77_ : Int32, r75_ = some (.int x77_) ∧ (((x77_ = (-1 : Int32) → (wb_X9_readHead_67 bc bs u v S76_ a0 Q E)) ∧ (¬ x77_ = (-1 : Int32) → (q_K S76_ a0 = 10 ∧ (∃ m82_ m83_ : Nat, (u + m82_ ≤ bc ∧ v + m83_ ≤ bs) ∧ (wm_X9_fail m82_ m83_ S76_ a0 (3 : Int32) (q_I S76_ 1811 a0) (fun r80_ S81_ => r80_ = none ∧ (wb_X9_readHead_67 bc bs (u + m82_) (v + m83_) S81_ a0 Q E)) E))))))))))
set_option maxHeartbeats 4000000 in
set_option maxRecDepth 100000 in
theorem cb_X9_readHead_43 {p : Program} {l : Launch} {e : Env} {s : State} {m : MethodId} {args : Array Value} {below : List Frame} {meth : Method} {c : Code} {D : va_G} {cy : Nat → ClassId} {lo : Nat} {bc bs : Nat}  {u v : Nat} {S : q_S} {a0 : Nat} {Q : Option Value → q_S → Prop} {E : String → q_S → Prop} {H : Heap} {locs : List Loc} {ls : Array Slot} (X : q_X p s m args meth c RX9 cX9_readHead 2 (some (.object "PartitionWorks$Partition")) D cy lo) (hex : ∀ x ∈ c.exceptionTable.toList, False) (hst : l.stackTraces = false)  (hu : u ≤ bc ∧ v ≤ bs) (Y : q_Y D cy lo s S H locs) (hl : lv_has ls 2 [(0, .ref a0)]) (h : wb_X9_readHead_43 bc bs u v S a0 Q E) : W p l e ({ frames := 10, cells := bc, slots := bs, locals := 187 } : Room) s m args below meth c H locs u v (vx_MQ below (q_Q D cy lo Q) (q_XE D cy lo E) args s bc bs (fun q => lo ≤ q)) (F0 m 43 ls []) := by
  have hx := X.1
  have hb := X.2.1
  unfold wb_X9_readHead_43 at h
  refine lv_aload_n hx hb dX9_readHead_43 rfl (lv_at hl 0 rfl) ?_
  obtain ⟨k71_, h⟩ := h
  refine q_getP X Y kX9 0 rfl fl_X9_12 k71_ rfl dX9_readHead_44 ?_
  refine lv_aload_n hx hb dX9_readHead_47 rfl (lv_at hl 0 rfl) ?_
  refine q_getJ X Y kX9 10 rfl fl_X9_137 k71_ dX9_readHead_48 ?_
  obtain ⟨a72_, e73_, h⟩ := h
  refine q_nn [.long (q_J S 1810 a0)] e73_ ?_
  obtain ⟨k74_, h⟩ := h
  refine q_callV X Y hl (cm_X6_partitionNamed h) mt_X6_partitionNamed mi_X6_partitionNamed ml_X9_152 (ci := 6) rfl k74_ (by decide) rfl rfl (by first | exact Nat.le_of_ble_eq_true rfl | simp [q_cat, q_catI, q_catJ, q_catR]) ⟨Nat.le_of_ble_eq_true rfl, Nat.le_of_ble_eq_true rfl⟩ hu dX9_readHead_51 (fun r75_ S76_ H locs hp Y => ?_)
  obtain ⟨x77_, rfl, h⟩ := hp
  refine W.eq (g2 := F0 m 54 ls [.int x77_]) rfl ?_
  refine lv_iconst (v := (-1)) hx hb dX9_readHead_54 (by decide) ?_
  refine lv_icmp_eq (tgt := 67) hx hb dX9_readHead_55 (by decide) (fun c78_ => ?_) (fun c78_ => ?_)
  · replace h := h.1 c78_
    exact cb_X9_readHead_67 X hex hst hu Y (lv_sub hl [0] rfl) h
  · replace h := h.2 c78_
    refine lv_aload_n hx hb dX9_readHead_58 rfl (lv_at hl 0 rfl) ?_
    refine lv_iconst (v := 3) hx hb dX9_readHead_59 (by decide) ?_
    refine lv_aload_n hx hb dX9_readHead_60 rfl (lv_at hl 0 rfl) ?_
    obtain ⟨k79_, h⟩ := h
    refine q_getI X Y kX9 11 rfl fl_X9_113 k79_ dX9_readHead_61 ?_
    obtain ⟨m82_, m83_, w84_, h⟩ := h
    refine q_callVX X hex Y hl (cm_X9_fail hst h) mt_X9_fail mi_X9_fail ml_X9_133 (ci := 9) rfl k79_ (by decide) rfl rfl (by first | exact Nat.le_of_ble_eq_true rfl | simp [q_cat, q_catI, q_catJ, q_catR]) ⟨Nat.le_of_ble_eq_true rfl, Nat.le_of_ble_eq_true rfl⟩ w84_ w84_ dX9_readHead_64 (fun r80_ S81_ H locs hp Y => ?_)
    obtain ⟨rfl, h⟩ := hp
    replace hu := w84_
    refine W.eq (g2 := F0 m 67 ls []) rfl ?_
    exact cb_X9_readHead_67 X hex hst hu Y (lv_sub hl [0] rfl) h
def wb_X9_readHead_26 (bc bs : Nat)  (u v : Nat) (S : q_S) (a0 : Nat) (Q : Option Value → q_S → Prop) (E : String → q_S → Prop) : Prop := q_K S a0 = 10 ∧ ((((q_I S 1808 a0) = (2 : Int32) → (wb_X9_readHead_43 bc bs u v S a0 Q E)) ∧ (¬ (q_I S 1808 a0) = (2 : Int32) → (∃ m89_ m90_ : Nat, (u + m89_ ≤ bc ∧ v + m90_ ≤ bs) ∧ (wm_X9_fail m89_ m90_ S a0 (1 : Int32) (q_I S 1811 a0) (fun r87_ S88_ => r87_ = none ∧ (wb_X9_readHead_43 bc bs (u + m89_) (v + m90_) S88_ a0 Q E)) E)))))
set_option maxHeartbeats 4000000 in
set_option maxRecDepth 100000 in
theorem cb_X9_readHead_26 {p : Program} {l : Launch} {e : Env} {s : State} {m : MethodId} {args : Array Value} {below : List Frame} {meth : Method} {c : Code} {D : va_G} {cy : Nat → ClassId} {lo : Nat} {bc bs : Nat}  {u v : Nat} {S : q_S} {a0 : Nat} {Q : Option Value → q_S → Prop} {E : String → q_S → Prop} {H : Heap} {locs : List Loc} {ls : Array Slot} (X : q_X p s m args meth c RX9 cX9_readHead 2 (some (.object "PartitionWorks$Partition")) D cy lo) (hex : ∀ x ∈ c.exceptionTable.toList, False) (hst : l.stackTraces = false)  (hu : u ≤ bc ∧ v ≤ bs) (Y : q_Y D cy lo s S H locs) (hl : lv_has ls 2 [(0, .ref a0)]) (h : wb_X9_readHead_26 bc bs u v S a0 Q E) : W p l e ({ frames := 10, cells := bc, slots := bs, locals := 187 } : Room) s m args below meth c H locs u v (vx_MQ below (q_Q D cy lo Q) (q_XE D cy lo E) args s bc bs (fun q => lo ≤ q)) (F0 m 26 ls []) := by
  have hx := X.1
  have hb := X.2.1
  unfold wb_X9_readHead_26 at h
  refine lv_aload_n hx hb dX9_readHead_26 rfl (lv_at hl 0 rfl) ?_
  obtain ⟨k85_, h⟩ := h
  refine q_getI X Y kX9 8 rfl fl_X9_119 k85_ dX9_readHead_27 ?_
  refine lv_iconst (v := 2) hx hb dX9_readHead_30 (by decide) ?_
  refine lv_icmp_eq (tgt := 43) hx hb dX9_readHead_31 (by decide) (fun c86_ => ?_) (fun c86_ => ?_)
  · replace h := h.1 c86_
    exact cb_X9_readHead_43 X hex hst hu Y (lv_sub hl [0] rfl) h
  · replace h := h.2 c86_
    refine lv_aload_n hx hb dX9_readHead_34 rfl (lv_at hl 0 rfl) ?_
    refine lv_iconst (v := 1) hx hb dX9_readHead_35 (by decide) ?_
    refine lv_aload_n hx hb dX9_readHead_36 rfl (lv_at hl 0 rfl) ?_
    refine q_getI X Y kX9 11 rfl fl_X9_113 k85_ dX9_readHead_37 ?_
    obtain ⟨m89_, m90_, w91_, h⟩ := h
    refine q_callVX X hex Y hl (cm_X9_fail hst h) mt_X9_fail mi_X9_fail ml_X9_133 (ci := 9) rfl k85_ (by decide) rfl rfl (by first | exact Nat.le_of_ble_eq_true rfl | simp [q_cat, q_catI, q_catJ, q_catR]) ⟨Nat.le_of_ble_eq_true rfl, Nat.le_of_ble_eq_true rfl⟩ w91_ w91_ dX9_readHead_40 (fun r87_ S88_ H locs hp Y => ?_)
    obtain ⟨rfl, h⟩ := hp
    replace hu := w91_
    refine W.eq (g2 := F0 m 43 ls []) rfl ?_
    exact cb_X9_readHead_43 X hex hst hu Y (lv_sub hl [0] rfl) h
def wm_X9_readHead (bc bs : Nat) (S : q_S) (a0 : Nat) (Q : Option Value → q_S → Prop) (E : String → q_S → Prop) : Prop := q_K S a0 = 10 ∧ (∃ m95_ m96_ : Nat, (0 + m95_ ≤ bc ∧ 0 + m96_ ≤ bs) ∧ (wm_X9_expect m95_ m96_ S a0 (0 : Int32) (fun r93_ S94_ => r93_ = none ∧ (q_K S94_ a0 = 10 ∧ (∃ a99_ : Nat, (q_P S94_ 1800 a0) = some a99_ ∧ (q_K S94_ a99_ = 7 ∧ ((((q_I S94_ 1201 a99_) < (16 : Int32) → (wb_X9_readHead_26 bc bs (0 + m95_) (0 + m96_) S94_ a0 Q E)) ∧ (¬ (q_I S94_ 1201 a99_) < (16 : Int32) → (∃ m105_ m106_ : Nat, ((0 + m95_) + m105_ ≤ bc ∧ (0 + m96_) + m106_ ≤ bs) ∧ (wm_X9_fail m105_ m106_ S94_ a0 (4 : Int32) (q_I S94_ 1811 a0) (fun r103_ S104_ => r103_ = none ∧ (wb_X9_readHead_26 bc bs ((0 + m95_) + m105_) ((0 + m96_) + m106_) S104_ a0 Q E)) E))))))))) E))
set_option maxHeartbeats 4000000 in
set_option maxRecDepth 100000 in
theorem cm_X9_readHead {l : Launch} {D : va_G} {cy : Nat → ClassId} {lo : Nat} {bc bs : Nat} {S : q_S} {a0 : Nat} {Q : Option Value → q_S → Prop} {E : String → q_S → Prop} (hst : l.stackTraces = false) (h : wm_X9_readHead bc bs S a0 Q E) : q_MetX l D cy lo yX9_readHead cX9_readHead 2 (some (.object "PartitionWorks$Partition")) 10 187 bc bs [.ref a0] S Q E := by
  refine q_bodyX (by decide) (by first | exact Nat.le_of_ble_eq_true rfl | simp [lg_sl, q_cat, q_catI, q_catJ, q_catR]) ?_
  intro p e s m below meth c ls X hex Y hl
  have hx := X.1
  have hb := X.2.1
  have hl : lv_has ls 2 [(0, .ref a0)] := by first | exact hl | simpa [lv_args, q_cat, q_catI, q_catJ, q_catR] using hl
  generalize hargs : ([.ref a0] : List Value).toArray = args at X ⊢
  have hu : 0 ≤ bc ∧ 0 ≤ bs := ⟨Nat.zero_le _, Nat.zero_le _⟩
  unfold wm_X9_readHead at h
  refine lv_aload_n hx hb dX9_readHead_0 rfl (lv_at hl 0 rfl) ?_
  refine lv_iconst (v := 0) hx hb dX9_readHead_1 (by decide) ?_
  obtain ⟨k92_, h⟩ := h
  obtain ⟨m95_, m96_, w97_, h⟩ := h
  refine q_callVX X hex Y hl (cm_X9_expect hst h) mt_X9_expect mi_X9_expect ml_X9_145 (ci := 9) rfl k92_ (by decide) rfl rfl (by first | exact Nat.le_of_ble_eq_true rfl | simp [q_cat, q_catI, q_catJ, q_catR]) ⟨Nat.le_of_ble_eq_true rfl, Nat.le_of_ble_eq_true rfl⟩ w97_ w97_ dX9_readHead_2 (fun r93_ S94_ H locs hp Y => ?_)
  obtain ⟨rfl, h⟩ := hp
  replace hu := w97_
  refine W.eq (g2 := F0 m 5 ls []) rfl ?_
  refine lv_aload_n hx hb dX9_readHead_5 rfl (lv_at hl 0 rfl) ?_
  obtain ⟨k98_, h⟩ := h
  refine q_getP X Y kX9 0 rfl fl_X9_12 k98_ rfl dX9_readHead_6 ?_
  obtain ⟨a99_, e100_, h⟩ := h
  refine q_nn [] e100_ ?_
  obtain ⟨k101_, h⟩ := h
  refine q_getI X Y kX6 1 rfl fl_X9_149 k101_ dX9_readHead_9 ?_
  refine lv_bipush (v := 16) hx hb dX9_readHead_12 (by decide) ?_
  refine lv_icmp_lt (tgt := 26) hx hb dX9_readHead_14 (by decide) (fun c102_ => ?_) (fun c102_ => ?_)
  · replace h := h.1 c102_
    exact cb_X9_readHead_26 X hex hst hu Y (lv_sub hl [0] rfl) h
  · replace h := h.2 c102_
    refine lv_aload_n hx hb dX9_readHead_17 rfl (lv_at hl 0 rfl) ?_
    refine lv_iconst (v := 4) hx hb dX9_readHead_18 (by decide) ?_
    refine lv_aload_n hx hb dX9_readHead_19 rfl (lv_at hl 0 rfl) ?_
    refine q_getI X Y kX9 11 rfl fl_X9_113 k98_ dX9_readHead_20 ?_
    obtain ⟨m105_, m106_, w107_, h⟩ := h
    refine q_callVX X hex Y hl (cm_X9_fail hst h) mt_X9_fail mi_X9_fail ml_X9_133 (ci := 9) rfl k98_ (by decide) rfl rfl (by first | exact Nat.le_of_ble_eq_true rfl | simp [q_cat, q_catI, q_catJ, q_catR]) ⟨Nat.le_of_ble_eq_true rfl, Nat.le_of_ble_eq_true rfl⟩ w107_ w107_ dX9_readHead_23 (fun r103_ S104_ H locs hp Y => ?_)
    obtain ⟨rfl, h⟩ := hp
    replace hu := w107_
    refine W.eq (g2 := F0 m 26 ls []) rfl ?_
    exact cb_X9_readHead_26 X hex hst hu Y (lv_sub hl [0] rfl) h
-- X9_checkNewName
theorem ml_X9_221 : Cond.methodLink RX9 221 yX5_knows ∈ q_G := q_tb (i := 823) (by decide +kernel) (by decide +kernel)
theorem mt_X5_knows : q_Mt yX5_knows cX5_knows 4 (some .boolean) 1 := ⟨q_tb (i := 826) (by decide +kernel) (by decide +kernel), q_tb (i := 20) (by decide +kernel) (by decide +kernel), by decide +kernel, by decide +kernel, by decide +kernel⟩
theorem mi_X5_knows : Cond.instanceMethod yX5_knows ∈ q_G ∧ Cond.selects yX5_knows.cls yX5_knows yX5_knows ∈ q_G := ⟨q_tb (i := 824) (by decide +kernel) (by decide +kernel), q_tb (i := 825) (by decide +kernel) (by decide +kernel)⟩
theorem dX9_checkNewName_0 : decode cX9_checkNewName 0 = .ok (.iload_n 2, 1) := by decide +kernel
theorem dX9_checkNewName_1 : decode cX9_checkNewName 1 = .ok (.ifCond .eq 12, 3) := by decide +kernel
theorem dX9_checkNewName_4 : decode cX9_checkNewName 4 = .ok (.aload_n 0, 1) := by decide +kernel
theorem dX9_checkNewName_5 : decode cX9_checkNewName 5 = .ok (.iconst 4, 1) := by decide +kernel
theorem dX9_checkNewName_6 : decode cX9_checkNewName 6 = .ok (.aload_n 0, 1) := by decide +kernel
theorem dX9_checkNewName_7 : decode cX9_checkNewName 7 = .ok (.getfield 113, 3) := by decide +kernel
theorem dX9_checkNewName_10 : decode cX9_checkNewName 10 = .ok (.invokevirtual 133, 3) := by decide +kernel
theorem dX9_checkNewName_13 : decode cX9_checkNewName 13 = .ok (.aload_n 0, 1) := by decide +kernel
theorem dX9_checkNewName_14 : decode cX9_checkNewName 14 = .ok (.getfield 119, 3) := by decide +kernel
theorem dX9_checkNewName_17 : decode cX9_checkNewName 17 = .ok (.iconst 2, 1) := by decide +kernel
theorem dX9_checkNewName_18 : decode cX9_checkNewName 18 = .ok (.if_icmp .eq 12, 3) := by decide +kernel
theorem dX9_checkNewName_21 : decode cX9_checkNewName 21 = .ok (.aload_n 0, 1) := by decide +kernel
theorem dX9_checkNewName_22 : decode cX9_checkNewName 22 = .ok (.iconst 1, 1) := by decide +kernel
theorem dX9_checkNewName_23 : decode cX9_checkNewName 23 = .ok (.aload_n 0, 1) := by decide +kernel
theorem dX9_checkNewName_24 : decode cX9_checkNewName 24 = .ok (.getfield 113, 3) := by decide +kernel
theorem dX9_checkNewName_27 : decode cX9_checkNewName 27 = .ok (.invokevirtual 133, 3) := by decide +kernel
theorem dX9_checkNewName_30 : decode cX9_checkNewName 30 = .ok (.aload_n 1, 1) := by decide +kernel
theorem dX9_checkNewName_31 : decode cX9_checkNewName 31 = .ok (.aload_n 0, 1) := by decide +kernel
theorem dX9_checkNewName_32 : decode cX9_checkNewName 32 = .ok (.getfield 137, 3) := by decide +kernel
theorem dX9_checkNewName_35 : decode cX9_checkNewName 35 = .ok (.invokevirtual 221, 3) := by decide +kernel
theorem dX9_checkNewName_38 : decode cX9_checkNewName 38 = .ok (.ifCond .eq 12, 3) := by decide +kernel
theorem dX9_checkNewName_41 : decode cX9_checkNewName 41 = .ok (.aload_n 0, 1) := by decide +kernel
theorem dX9_checkNewName_42 : decode cX9_checkNewName 42 = .ok (.iconst 3, 1) := by decide +kernel
theorem dX9_checkNewName_43 : decode cX9_checkNewName 43 = .ok (.aload_n 0, 1) := by decide +kernel
theorem dX9_checkNewName_44 : decode cX9_checkNewName 44 = .ok (.getfield 113, 3) := by decide +kernel
theorem dX9_checkNewName_47 : decode cX9_checkNewName 47 = .ok (.invokevirtual 133, 3) := by decide +kernel
theorem dX9_checkNewName_50 : decode cX9_checkNewName 50 = .ok (.return_, 1) := by decide +kernel
def wb_X9_checkNewName_50 (bc bs : Nat)  (u v : Nat) (S : q_S) (Q : Option Value → q_S → Prop) (E : String → q_S → Prop) : Prop := Q none S
set_option maxHeartbeats 4000000 in
set_option maxRecDepth 100000 in
theorem cb_X9_checkNewName_50 {p : Program} {l : Launch} {e : Env} {s : State} {m : MethodId} {args : Array Value} {below : List Frame} {meth : Method} {c : Code} {D : va_G} {cy : Nat → ClassId} {lo : Nat} {bc bs : Nat}  {u v : Nat} {S : q_S} {Q : Option Value → q_S → Prop} {E : String → q_S → Prop} {H : Heap} {locs : List Loc} {ls : Array Slot} (X : q_X p s m args meth c RX9 cX9_checkNewName 3 none D cy lo) (hex : ∀ x ∈ c.exceptionTable.toList, False) (hst : l.stackTraces = false)  (hu : u ≤ bc ∧ v ≤ bs) (Y : q_Y D cy lo s S H locs) (hl : lv_has ls 3 []) (h : wb_X9_checkNewName_50 bc bs u v S Q E) : W p l e ({ frames := 7, cells := bc, slots := bs, locals := 118 } : Room) s m args below meth c H locs u v (vx_MQ below (q_Q D cy lo Q) (q_XE D cy lo E) args s bc bs (fun q => lo ≤ q)) (F0 m 50 ls []) := by
  have hx := X.1
  have hb := X.2.1
  unfold wb_X9_checkNewName_50 at h
  exact vx_ret <| q_vret X Y hu.1 hu.2 h dX9_checkNewName_50
def wb_X9_checkNewName_30 (bc bs : Nat)  (u v : Nat) (S : q_S) (a0 : Nat) (r1 : Option Nat) (Q : Option Value → q_S → Prop) (E : String → q_S → Prop) : Prop := q_K S a0 = 10 ∧ (∃ a2_ : Nat, r1 = some a2_ ∧ (q_K S a2_ = 6 ∧ (wm_X5_knows S a2_ (q_J S 1810 a0) (fun r5_ S6_ => ∃ x7_ : Int32, r5_ = some (.int x7_) ∧ (((x7_ = 0 → (wb_X9_checkNewName_50 bc bs u v S6_ Q E)) ∧ (¬ x7_ = 0 → (q_K S6_ a0 = 10 ∧ (∃ m12_ m13_ : Nat, (u + m12_ ≤ bc ∧ v + m13_ ≤ bs) ∧ (wm_X9_fail m12_ m13_ S6_ a0 (3 : Int32) (q_I S6_ 1811 a0) (fun r10_ S11_ => r10_ = none ∧ (wb_X9_checkNewName_50 bc bs (u + m12_) (v + m13_) S11_ Q E)) E))))))))))
set_option maxHeartbeats 4000000 in
set_option maxRecDepth 100000 in
theorem cb_X9_checkNewName_30 {p : Program} {l : Launch} {e : Env} {s : State} {m : MethodId} {args : Array Value} {below : List Frame} {meth : Method} {c : Code} {D : va_G} {cy : Nat → ClassId} {lo : Nat} {bc bs : Nat}  {u v : Nat} {S : q_S} {a0 : Nat} {r1 : Option Nat} {Q : Option Value → q_S → Prop} {E : String → q_S → Prop} {H : Heap} {locs : List Loc} {ls : Array Slot} (X : q_X p s m args meth c RX9 cX9_checkNewName 3 none D cy lo) (hex : ∀ x ∈ c.exceptionTable.toList, False) (hst : l.stackTraces = false)  (hu : u ≤ bc ∧ v ≤ bs) (Y : q_Y D cy lo s S H locs) (hl : lv_has ls 3 [(0, .ref a0), (1, va_rf r1)]) (h : wb_X9_checkNewName_30 bc bs u v S a0 r1 Q E) : W p l e ({ frames := 7, cells := bc, slots := bs, locals := 118 } : Room) s m args below meth c H locs u v (vx_MQ below (q_Q D cy lo Q) (q_XE D cy lo E) args s bc bs (fun q => lo ≤ q)) (F0 m 30 ls []) := by
  have hx := X.1
  have hb := X.2.1
  unfold wb_X9_checkNewName_30 at h
  refine q_aload_n hx hb dX9_checkNewName_30 rfl (lv_at hl 1 rfl) ?_
  refine lv_aload_n hx hb dX9_checkNewName_31 rfl (lv_at hl 0 rfl) ?_
  obtain ⟨k1_, h⟩ := h
  refine q_getJ X Y kX9 10 rfl fl_X9_137 k1_ dX9_checkNewName_32 ?_
  obtain ⟨a2_, e3_, h⟩ := h
  refine q_nn [.long (q_J S 1810 a0)] e3_ ?_
  obtain ⟨k4_, h⟩ := h
  refine q_callV X Y hl (cm_X5_knows h) mt_X5_knows mi_X5_knows ml_X9_221 (ci := 5) rfl k4_ (by decide) rfl rfl (by first | exact Nat.le_of_ble_eq_true rfl | simp [q_cat, q_catI, q_catJ, q_catR]) ⟨Nat.le_of_ble_eq_true rfl, Nat.le_of_ble_eq_true rfl⟩ hu dX9_checkNewName_35 (fun r5_ S6_ H locs hp Y => ?_)
  obtain ⟨x7_, rfl, h⟩ := hp
  refine W.eq (g2 := F0 m 38 ls [.int x7_]) rfl ?_
  refine lv_if_eq (tgt := 50) hx hb dX9_checkNewName_38 (by decide) (fun c8_ => ?_) (fun c8_ => ?_)
  · replace h := h.1 c8_
    exact cb_X9_checkNewName_50 X hex hst hu Y (lv_sub hl [] rfl) h
  · replace h := h.2 c8_
    refine lv_aload_n hx hb dX9_checkNewName_41 rfl (lv_at hl 0 rfl) ?_
    refine lv_iconst (v := 3) hx hb dX9_checkNewName_42 (by decide) ?_
    refine lv_aload_n hx hb dX9_checkNewName_43 rfl (lv_at hl 0 rfl) ?_
    obtain ⟨k9_, h⟩ := h
    refine q_getI X Y kX9 11 rfl fl_X9_113 k9_ dX9_checkNewName_44 ?_
    obtain ⟨m12_, m13_, w14_, h⟩ := h
    refine q_callVX X hex Y hl (cm_X9_fail hst h) mt_X9_fail mi_X9_fail ml_X9_133 (ci := 9) rfl k9_ (by decide) rfl rfl (by first | exact Nat.le_of_ble_eq_true rfl | simp [q_cat, q_catI, q_catJ, q_catR]) ⟨Nat.le_of_ble_eq_true rfl, Nat.le_of_ble_eq_true rfl⟩ w14_ w14_ dX9_checkNewName_47 (fun r10_ S11_ H locs hp Y => ?_)
    obtain ⟨rfl, h⟩ := hp
    replace hu := w14_
    refine W.eq (g2 := F0 m 50 ls []) rfl ?_
    exact cb_X9_checkNewName_50 X hex hst hu Y (lv_sub hl [] rfl) h
def wb_X9_checkNewName_13 (bc bs : Nat)  (u v : Nat) (S : q_S) (a0 : Nat) (r1 : Option Nat) (Q : Option Value → q_S → Prop) (E : String → q_S → Prop) : Prop := q_K S a0 = 10 ∧ ((((q_I S 1808 a0) = (2 : Int32) → (wb_X9_checkNewName_30 bc bs u v S a0 r1 Q E)) ∧ (¬ (q_I S 1808 a0) = (2 : Int32) → (∃ m19_ m20_ : Nat, (u + m19_ ≤ bc ∧ v + m20_ ≤ bs) ∧ (wm_X9_fail m19_ m20_ S a0 (1 : Int32) (q_I S 1811 a0) (fun r17_ S18_ => r17_ = none ∧ (wb_X9_checkNewName_30 bc bs (u + m19_) (v + m20_) S18_ a0 r1 Q E)) E)))))
set_option maxHeartbeats 4000000 in
set_option maxRecDepth 100000 in
theorem cb_X9_checkNewName_13 {p : Program} {l : Launch} {e : Env} {s : State} {m : MethodId} {args : Array Value} {below : List Frame} {meth : Method} {c : Code} {D : va_G} {cy : Nat → ClassId} {lo : Nat} {bc bs : Nat}  {u v : Nat} {S : q_S} {a0 : Nat} {r1 : Option Nat} {Q : Option Value → q_S → Prop} {E : String → q_S → Prop} {H : Heap} {locs : List Loc} {ls : Array Slot} (X : q_X p s m args meth c RX9 cX9_checkNewName 3 none D cy lo) (hex : ∀ x ∈ c.exceptionTable.toList, False) (hst : l.stackTraces = false)  (hu : u ≤ bc ∧ v ≤ bs) (Y : q_Y D cy lo s S H locs) (hl : lv_has ls 3 [(0, .ref a0), (1, va_rf r1)]) (h : wb_X9_checkNewName_13 bc bs u v S a0 r1 Q E) : W p l e ({ frames := 7, cells := bc, slots := bs, locals := 118 } : Room) s m args below meth c H locs u v (vx_MQ below (q_Q D cy lo Q) (q_XE D cy lo E) args s bc bs (fun q => lo ≤ q)) (F0 m 13 ls []) := by
  have hx := X.1
  have hb := X.2.1
  unfold wb_X9_checkNewName_13 at h
  refine lv_aload_n hx hb dX9_checkNewName_13 rfl (lv_at hl 0 rfl) ?_
  obtain ⟨k15_, h⟩ := h
  refine q_getI X Y kX9 8 rfl fl_X9_119 k15_ dX9_checkNewName_14 ?_
  refine lv_iconst (v := 2) hx hb dX9_checkNewName_17 (by decide) ?_
  refine lv_icmp_eq (tgt := 30) hx hb dX9_checkNewName_18 (by decide) (fun c16_ => ?_) (fun c16_ => ?_)
  · replace h := h.1 c16_
    exact cb_X9_checkNewName_30 X hex hst hu Y (lv_sub hl [0, 1] rfl) h
  · replace h := h.2 c16_
    refine lv_aload_n hx hb dX9_checkNewName_21 rfl (lv_at hl 0 rfl) ?_
    refine lv_iconst (v := 1) hx hb dX9_checkNewName_22 (by decide) ?_
    refine lv_aload_n hx hb dX9_checkNewName_23 rfl (lv_at hl 0 rfl) ?_
    refine q_getI X Y kX9 11 rfl fl_X9_113 k15_ dX9_checkNewName_24 ?_
    obtain ⟨m19_, m20_, w21_, h⟩ := h
    refine q_callVX X hex Y hl (cm_X9_fail hst h) mt_X9_fail mi_X9_fail ml_X9_133 (ci := 9) rfl k15_ (by decide) rfl rfl (by first | exact Nat.le_of_ble_eq_true rfl | simp [q_cat, q_catI, q_catJ, q_catR]) ⟨Nat.le_of_ble_eq_true rfl, Nat.le_of_ble_eq_true rfl⟩ w21_ w21_ dX9_checkNewName_27 (fun r17_ S18_ H locs hp Y => ?_)
    obtain ⟨rfl, h⟩ := hp
    replace hu := w21_
    refine W.eq (g2 := F0 m 30 ls []) rfl ?_
    exact cb_X9_checkNewName_30 X hex hst hu Y (lv_sub hl [0, 1] rfl) h
def wm_X9_checkNewName (bc bs : Nat) (S : q_S) (a0 : Nat) (r1 : Option Nat) (x2 : Int32) (Q : Option Value → q_S → Prop) (E : String → q_S → Prop) : Prop := ((x2 = 0 → (wb_X9_checkNewName_13 bc bs 0 0 S a0 r1 Q E)) ∧ (¬ x2 = 0 → (q_K S a0 = 10 ∧ (∃ m26_ m27_ : Nat, (0 + m26_ ≤ bc ∧ 0 + m27_ ≤ bs) ∧ (wm_X9_fail m26_ m27_ S a0 (4 : Int32) (q_I S 1811 a0) (fun r24_ S25_ => r24_ = none ∧ (wb_X9_checkNewName_13 bc bs (0 + m26_) (0 + m27_) S25_ a0 r1 Q E)) E)))))
set_option maxHeartbeats 4000000 in
set_option maxRecDepth 100000 in
theorem cm_X9_checkNewName {l : Launch} {D : va_G} {cy : Nat → ClassId} {lo : Nat} {bc bs : Nat} {S : q_S} {a0 : Nat} {r1 : Option Nat} {x2 : Int32} {Q : Option Value → q_S → Prop} {E : String → q_S → Prop} (hst : l.stackTraces = false) (h : wm_X9_checkNewName bc bs S a0 r1 x2 Q E) : q_MetX l D cy lo yX9_checkNewName cX9_checkNewName 3 none 7 118 bc bs [.ref a0, va_rf r1, .int x2] S Q E := by
  refine q_bodyX (by decide) (by first | exact Nat.le_of_ble_eq_true rfl | simp [lg_sl, q_cat, q_catI, q_catJ, q_catR]) ?_
  intro p e s m below meth c ls X hex Y hl
  have hx := X.1
  have hb := X.2.1
  have hl : lv_has ls 3 [(0, .ref a0), (1, va_rf r1), (2, .int x2)] := by first | exact hl | simpa [lv_args, q_cat, q_catI, q_catJ, q_catR] using hl
  generalize hargs : ([.ref a0, va_rf r1, .int x2] : List Value).toArray = args at X ⊢
  have hu : 0 ≤ bc ∧ 0 ≤ bs := ⟨Nat.zero_le _, Nat.zero_le _⟩
  unfold wm_X9_checkNewName at h
  refine lv_iload_n hx hb dX9_checkNewName_0 rfl (lv_at hl 2 rfl) ?_
  refine lv_if_eq (tgt := 13) hx hb dX9_checkNewName_1 (by decide) (fun c22_ => ?_) (fun c22_ => ?_)
  · replace h := h.1 c22_
    exact cb_X9_checkNewName_13 X hex hst hu Y (lv_sub hl [0, 1] rfl) h
  · replace h := h.2 c22_
    refine lv_aload_n hx hb dX9_checkNewName_4 rfl (lv_at hl 0 rfl) ?_
    refine lv_iconst (v := 4) hx hb dX9_checkNewName_5 (by decide) ?_
    refine lv_aload_n hx hb dX9_checkNewName_6 rfl (lv_at hl 0 rfl) ?_
    obtain ⟨k23_, h⟩ := h
    refine q_getI X Y kX9 11 rfl fl_X9_113 k23_ dX9_checkNewName_7 ?_
    obtain ⟨m26_, m27_, w28_, h⟩ := h
    refine q_callVX X hex Y hl (cm_X9_fail hst h) mt_X9_fail mi_X9_fail ml_X9_133 (ci := 9) rfl k23_ (by decide) rfl rfl (by first | exact Nat.le_of_ble_eq_true rfl | simp [q_cat, q_catI, q_catJ, q_catR]) ⟨Nat.le_of_ble_eq_true rfl, Nat.le_of_ble_eq_true rfl⟩ w28_ w28_ dX9_checkNewName_10 (fun r24_ S25_ H locs hp Y => ?_)
    obtain ⟨rfl, h⟩ := hp
    replace hu := w28_
    refine W.eq (g2 := F0 m 13 ls []) rfl ?_
    exact cb_X9_checkNewName_13 X hex hst hu Y (lv_sub hl [0, 1] rfl) h
-- X9_takes
theorem dX9_takes_0 : decode cX9_takes 0 = .ok (.aload_n 0, 1) := by decide +kernel
theorem dX9_takes_1 : decode cX9_takes 1 = .ok (.iload_n 1, 1) := by decide +kernel
theorem dX9_takes_2 : decode cX9_takes 2 = .ok (.invokevirtual 81, 3) := by decide +kernel
theorem dX9_takes_5 : decode cX9_takes 5 = .ok (.ifCond .ne 5, 3) := by decide +kernel
theorem dX9_takes_8 : decode cX9_takes 8 = .ok (.iconst 0, 1) := by decide +kernel
theorem dX9_takes_9 : decode cX9_takes 9 = .ok (.ireturn, 1) := by decide +kernel
theorem dX9_takes_10 : decode cX9_takes 10 = .ok (.aload_n 0, 1) := by decide +kernel
theorem dX9_takes_11 : decode cX9_takes 11 = .ok (.invokevirtual 78, 3) := by decide +kernel
theorem dX9_takes_14 : decode cX9_takes 14 = .ok (.iconst 1, 1) := by decide +kernel
theorem dX9_takes_15 : decode cX9_takes 15 = .ok (.ireturn, 1) := by decide +kernel
def wm_X9_takes (bc bs : Nat) (S : q_S) (a0 : Nat) (x1 : Int32) (Q : Option Value → q_S → Prop) (E : String → q_S → Prop) : Prop := q_K S a0 = 10 ∧ (wm_X9_sees S a0 x1 (fun r2_ S3_ => ∃ x4_ : Int32, r2_ = some (.int x4_) ∧ (((¬ x4_ = 0 → (q_K S3_ a0 = 10 ∧ (∃ m9_ m10_ : Nat, (0 + m9_ ≤ bc ∧ 0 + m10_ ≤ bs) ∧ (wm_X9_advance m9_ m10_ S3_ a0 (fun r7_ S8_ => r7_ = none ∧ (Q (some (.int (1 : Int32))) S8_)) E)))) ∧ (x4_ = 0 → (Q (some (.int (0 : Int32))) S3_))))))
set_option maxHeartbeats 4000000 in
set_option maxRecDepth 100000 in
theorem cm_X9_takes {l : Launch} {D : va_G} {cy : Nat → ClassId} {lo : Nat} {bc bs : Nat} {S : q_S} {a0 : Nat} {x1 : Int32} {Q : Option Value → q_S → Prop} {E : String → q_S → Prop} (hst : l.stackTraces = false) (h : wm_X9_takes bc bs S a0 x1 Q E) : q_MetX l D cy lo yX9_takes cX9_takes 2 (some .boolean) 8 139 bc bs [.ref a0, .int x1] S Q E := by
  refine q_bodyX (by decide) (by first | exact Nat.le_of_ble_eq_true rfl | simp [lg_sl, q_cat, q_catI, q_catJ, q_catR]) ?_
  intro p e s m below meth c ls X hex Y hl
  have hx := X.1
  have hb := X.2.1
  have hl : lv_has ls 2 [(0, .ref a0), (1, .int x1)] := by first | exact hl | simpa [lv_args, q_cat, q_catI, q_catJ, q_catR] using hl
  generalize hargs : ([.ref a0, .int x1] : List Value).toArray = args at X ⊢
  have hu : 0 ≤ bc ∧ 0 ≤ bs := ⟨Nat.zero_le _, Nat.zero_le _⟩
  unfold wm_X9_takes at h
  refine lv_aload_n hx hb dX9_takes_0 rfl (lv_at hl 0 rfl) ?_
  refine lv_iload_n hx hb dX9_takes_1 rfl (lv_at hl 1 rfl) ?_
  obtain ⟨k1_, h⟩ := h
  refine q_callV X Y hl (cm_X9_sees h) mt_X9_sees mi_X9_sees ml_X9_81 (ci := 9) rfl k1_ (by decide) rfl rfl (by first | exact Nat.le_of_ble_eq_true rfl | simp [q_cat, q_catI, q_catJ, q_catR]) ⟨Nat.le_of_ble_eq_true rfl, Nat.le_of_ble_eq_true rfl⟩ hu dX9_takes_2 (fun r2_ S3_ H locs hp Y => ?_)
  obtain ⟨x4_, rfl, h⟩ := hp
  refine W.eq (g2 := F0 m 5 ls [.int x4_]) rfl ?_
  refine lv_if_ne (tgt := 10) hx hb dX9_takes_5 (by decide) (fun c5_ => ?_) (fun c5_ => ?_)
  · replace h := h.1 c5_
    refine lv_aload_n hx hb dX9_takes_10 rfl (lv_at hl 0 rfl) ?_
    obtain ⟨k6_, h⟩ := h
    obtain ⟨m9_, m10_, w11_, h⟩ := h
    refine q_callVX X hex Y hl (cm_X9_advance hst h) mt_X9_advance mi_X9_advance ml_X9_78 (ci := 9) rfl k6_ (by decide) rfl rfl (by first | exact Nat.le_of_ble_eq_true rfl | simp [q_cat, q_catI, q_catJ, q_catR]) ⟨Nat.le_of_ble_eq_true rfl, Nat.le_of_ble_eq_true rfl⟩ w11_ w11_ dX9_takes_11 (fun r7_ S8_ H locs hp Y => ?_)
    obtain ⟨rfl, h⟩ := hp
    replace hu := w11_
    refine W.eq (g2 := F0 m 14 ls []) rfl ?_
    refine lv_iconst (v := 1) hx hb dX9_takes_14 (by decide) ?_
    exact vx_ret <| q_iret X Y rfl hu.1 hu.2 h dX9_takes_15
  · replace h := h.2 c5_
    refine lv_iconst (v := 0) hx hb dX9_takes_8 (by decide) ?_
    exact vx_ret <| q_iret X Y rfl hu.1 hu.2 h dX9_takes_9
-- X9_readProcess
theorem ml_X9_248 : Cond.methodLink RX9 248 yX9_takes ∈ q_G := q_tb (i := 955) (by decide +kernel) (by decide +kernel)
theorem mt_X9_takes : q_Mt yX9_takes cX9_takes 2 (some .boolean) 1 := ⟨q_tb (i := 958) (by decide +kernel) (by decide +kernel), q_tb (i := 2) (by decide +kernel) (by decide +kernel), by decide +kernel, by decide +kernel, by decide +kernel⟩
theorem mi_X9_takes : Cond.instanceMethod yX9_takes ∈ q_G ∧ Cond.selects yX9_takes.cls yX9_takes yX9_takes ∈ q_G := ⟨q_tb (i := 957) (by decide +kernel) (by decide +kernel), q_tp (i := 19) (q := (yX9_takes, 14)) (by decide +kernel) (by decide +kernel)⟩
theorem fl_X9_265 : Cond.fieldLink RX9 265 "PartitionWorks$Process" "stopped" "Z" ∈ q_G := q_tb (i := 868) (by decide +kernel) (by decide +kernel)
theorem fl_X9_261 : Cond.fieldLink RX9 261 "PartitionWorks$Process" "number" "I" ∈ q_G := q_tb (i := 843) (by decide +kernel) (by decide +kernel)
theorem fl_X9_218 : Cond.fieldLink RX9 218 "PartitionWorks$Partition" "handler" "I" ∈ q_G := q_tb (i := 708) (by decide +kernel) (by decide +kernel)
theorem fl_X9_263 : Cond.fieldLink RX9 263 "PartitionWorks$Process" "handler" "Z" ∈ q_G := q_tb (i := 866) (by decide +kernel) (by decide +kernel)
theorem co_X9_251 : Cond.constant RX9 251 (100000) ∈ q_G := q_tb (i := 959) (by decide +kernel) (by decide +kernel)
theorem fl_X9_258 : Cond.fieldLink RX9 258 "PartitionWorks$Process" "delay" "I" ∈ q_G := q_tb (i := 860) (by decide +kernel) (by decide +kernel)
theorem fl_X9_255 : Cond.fieldLink RX9 255 "PartitionWorks$Process" "deadline" "I" ∈ q_G := q_tb (i := 857) (by decide +kernel) (by decide +kernel)
theorem ml_X9_225 : Cond.methodLink RX9 225 yX5_isFull ∈ q_G := q_tb (i := 815) (by decide +kernel) (by decide +kernel)
theorem mt_X5_isFull : q_Mt yX5_isFull cX5_isFull 2 (some .boolean) 1 := ⟨q_tb (i := 818) (by decide +kernel) (by decide +kernel), q_tb (i := 20) (by decide +kernel) (by decide +kernel), by decide +kernel, by decide +kernel, by decide +kernel⟩
theorem mi_X5_isFull : Cond.instanceMethod yX5_isFull ∈ q_G ∧ Cond.selects yX5_isFull.cls yX5_isFull yX5_isFull ∈ q_G := ⟨q_tb (i := 816) (by decide +kernel) (by decide +kernel), q_tb (i := 817) (by decide +kernel) (by decide +kernel)⟩
theorem ml_X9_228 : Cond.methodLink RX9 228 yX9_checkNewName ∈ q_G := q_tb (i := 819) (by decide +kernel) (by decide +kernel)
theorem mt_X9_checkNewName : q_Mt yX9_checkNewName cX9_checkNewName 3 none 2 := ⟨q_tb (i := 822) (by decide +kernel) (by decide +kernel), q_tb (i := 2) (by decide +kernel) (by decide +kernel), by decide +kernel, by decide +kernel, by decide +kernel⟩
theorem mi_X9_checkNewName : Cond.instanceMethod yX9_checkNewName ∈ q_G ∧ Cond.selects yX9_checkNewName.cls yX9_checkNewName yX9_checkNewName ∈ q_G := ⟨q_tb (i := 821) (by decide +kernel) (by decide +kernel), q_tp (i := 18) (q := (yX9_checkNewName, 14)) (by decide +kernel) (by decide +kernel)⟩
theorem ml_X9_236 : Cond.methodLink RX9 236 yX5_addProcess ∈ q_G := q_tb (i := 831) (by decide +kernel) (by decide +kernel)
theorem mt_X5_addProcess : q_Mt yX5_addProcess cX5_addProcess 5 (some (.object "PartitionWorks$Process")) 1 := ⟨q_tb (i := 834) (by decide +kernel) (by decide +kernel), q_tb (i := 20) (by decide +kernel) (by decide +kernel), by decide +kernel, by decide +kernel, by decide +kernel⟩
theorem mi_X5_addProcess : Cond.instanceMethod yX5_addProcess ∈ q_G ∧ Cond.selects yX5_addProcess.cls yX5_addProcess yX5_addProcess ∈ q_G := ⟨q_tb (i := 832) (by decide +kernel) (by decide +kernel), q_tb (i := 833) (by decide +kernel) (by decide +kernel)⟩
theorem fl_X9_240 : Cond.fieldLink RX9 240 "PartitionWorks$Process" "entry" "I" ∈ q_G := q_tb (i := 848) (by decide +kernel) (by decide +kernel)
theorem fl_X9_245 : Cond.fieldLink RX9 245 "PartitionWorks$Process" "priority" "I" ∈ q_G := q_tb (i := 852) (by decide +kernel) (by decide +kernel)
theorem fl_X9_252 : Cond.fieldLink RX9 252 "PartitionWorks$Process" "period" "I" ∈ q_G := q_tb (i := 855) (by decide +kernel) (by decide +kernel)
theorem dX9_readProcess_0 : decode cX9_readProcess 0 = .ok (.aload_n 0, 1) := by decide +kernel
theorem dX9_readProcess_1 : decode cX9_readProcess 1 = .ok (.invokevirtual 78, 3) := by decide +kernel
theorem dX9_readProcess_4 : decode cX9_readProcess 4 = .ok (.aload_n 0, 1) := by decide +kernel
theorem dX9_readProcess_5 : decode cX9_readProcess 5 = .ok (.aload_n 1, 1) := by decide +kernel
theorem dX9_readProcess_6 : decode cX9_readProcess 6 = .ok (.aload_n 1, 1) := by decide +kernel
theorem dX9_readProcess_7 : decode cX9_readProcess 7 = .ok (.iconst 5, 1) := by decide +kernel
theorem dX9_readProcess_8 : decode cX9_readProcess 8 = .ok (.invokevirtual 225, 3) := by decide +kernel
theorem dX9_readProcess_11 : decode cX9_readProcess 11 = .ok (.invokevirtual 228, 3) := by decide +kernel
theorem dX9_readProcess_14 : decode cX9_readProcess 14 = .ok (.aload_n 1, 1) := by decide +kernel
theorem dX9_readProcess_15 : decode cX9_readProcess 15 = .ok (.aload_n 0, 1) := by decide +kernel
theorem dX9_readProcess_16 : decode cX9_readProcess 16 = .ok (.getfield 137, 3) := by decide +kernel
theorem dX9_readProcess_19 : decode cX9_readProcess 19 = .ok (.invokevirtual 236, 3) := by decide +kernel
theorem dX9_readProcess_22 : decode cX9_readProcess 22 = .ok (.astore_n 2, 1) := by decide +kernel
theorem dX9_readProcess_23 : decode cX9_readProcess 23 = .ok (.aload_n 0, 1) := by decide +kernel
theorem dX9_readProcess_24 : decode cX9_readProcess 24 = .ok (.invokevirtual 78, 3) := by decide +kernel
theorem dX9_readProcess_27 : decode cX9_readProcess 27 = .ok (.aload_n 0, 1) := by decide +kernel
theorem dX9_readProcess_28 : decode cX9_readProcess 28 = .ok (.bipush 123, 2) := by decide +kernel
theorem dX9_readProcess_30 : decode cX9_readProcess 30 = .ok (.invokevirtual 160, 3) := by decide +kernel
theorem dX9_readProcess_33 : decode cX9_readProcess 33 = .ok (.aload_n 0, 1) := by decide +kernel
theorem dX9_readProcess_34 : decode cX9_readProcess 34 = .ok (.bipush 8, 2) := by decide +kernel
theorem dX9_readProcess_36 : decode cX9_readProcess 36 = .ok (.invokevirtual 145, 3) := by decide +kernel
theorem dX9_readProcess_39 : decode cX9_readProcess 39 = .ok (.aload_n 2, 1) := by decide +kernel
theorem dX9_readProcess_40 : decode cX9_readProcess 40 = .ok (.aload_n 0, 1) := by decide +kernel
theorem dX9_readProcess_41 : decode cX9_readProcess 41 = .ok (.iconst 0, 1) := by decide +kernel
theorem dX9_readProcess_42 : decode cX9_readProcess 42 = .ok (.aload_n 1, 1) := by decide +kernel
theorem dX9_readProcess_43 : decode cX9_readProcess 43 = .ok (.getfield 164, 3) := by decide +kernel
theorem dX9_readProcess_46 : decode cX9_readProcess 46 = .ok (.getfield 183, 3) := by decide +kernel
theorem dX9_readProcess_49 : decode cX9_readProcess 49 = .ok (.iconst 4, 1) := by decide +kernel
theorem dX9_readProcess_50 : decode cX9_readProcess 50 = .ok (.isub, 1) := by decide +kernel
theorem dX9_readProcess_51 : decode cX9_readProcess 51 = .ok (.iconst 4, 1) := by decide +kernel
theorem dX9_readProcess_52 : decode cX9_readProcess 52 = .ok (.invokevirtual 170, 3) := by decide +kernel
theorem dX9_readProcess_55 : decode cX9_readProcess 55 = .ok (.putfield 240, 3) := by decide +kernel
theorem dX9_readProcess_58 : decode cX9_readProcess 58 = .ok (.aload_n 0, 1) := by decide +kernel
theorem dX9_readProcess_59 : decode cX9_readProcess 59 = .ok (.bipush 59, 2) := by decide +kernel
theorem dX9_readProcess_61 : decode cX9_readProcess 61 = .ok (.invokevirtual 160, 3) := by decide +kernel
theorem dX9_readProcess_64 : decode cX9_readProcess 64 = .ok (.aload_n 0, 1) := by decide +kernel
theorem dX9_readProcess_65 : decode cX9_readProcess 65 = .ok (.bipush 9, 2) := by decide +kernel
theorem dX9_readProcess_67 : decode cX9_readProcess 67 = .ok (.invokevirtual 145, 3) := by decide +kernel
theorem dX9_readProcess_70 : decode cX9_readProcess 70 = .ok (.aload_n 2, 1) := by decide +kernel
theorem dX9_readProcess_71 : decode cX9_readProcess 71 = .ok (.aload_n 0, 1) := by decide +kernel
theorem dX9_readProcess_72 : decode cX9_readProcess 72 = .ok (.iconst 0, 1) := by decide +kernel
theorem dX9_readProcess_73 : decode cX9_readProcess 73 = .ok (.bipush 15, 2) := by decide +kernel
theorem dX9_readProcess_75 : decode cX9_readProcess 75 = .ok (.iconst 1, 1) := by decide +kernel
theorem dX9_readProcess_76 : decode cX9_readProcess 76 = .ok (.invokevirtual 170, 3) := by decide +kernel
theorem dX9_readProcess_79 : decode cX9_readProcess 79 = .ok (.putfield 245, 3) := by decide +kernel
theorem dX9_readProcess_82 : decode cX9_readProcess 82 = .ok (.aload_n 0, 1) := by decide +kernel
theorem dX9_readProcess_83 : decode cX9_readProcess 83 = .ok (.bipush 59, 2) := by decide +kernel
theorem dX9_readProcess_85 : decode cX9_readProcess 85 = .ok (.invokevirtual 160, 3) := by decide +kernel
theorem dX9_readProcess_88 : decode cX9_readProcess 88 = .ok (.aload_n 0, 1) := by decide +kernel
theorem dX9_readProcess_89 : decode cX9_readProcess 89 = .ok (.bipush 10, 2) := by decide +kernel
theorem dX9_readProcess_91 : decode cX9_readProcess 91 = .ok (.invokevirtual 248, 3) := by decide +kernel
theorem dX9_readProcess_94 : decode cX9_readProcess 94 = .ok (.ifCond .eq 21, 3) := by decide +kernel
theorem dX9_readProcess_97 : decode cX9_readProcess 97 = .ok (.aload_n 2, 1) := by decide +kernel
theorem dX9_readProcess_98 : decode cX9_readProcess 98 = .ok (.aload_n 0, 1) := by decide +kernel
theorem dX9_readProcess_99 : decode cX9_readProcess 99 = .ok (.iconst 1, 1) := by decide +kernel
theorem dX9_readProcess_100 : decode cX9_readProcess 100 = .ok (.ldc 251, 2) := by decide +kernel
theorem dX9_readProcess_102 : decode cX9_readProcess 102 = .ok (.iconst 1, 1) := by decide +kernel
theorem dX9_readProcess_103 : decode cX9_readProcess 103 = .ok (.invokevirtual 170, 3) := by decide +kernel
theorem dX9_readProcess_106 : decode cX9_readProcess 106 = .ok (.putfield 252, 3) := by decide +kernel
theorem dX9_readProcess_109 : decode cX9_readProcess 109 = .ok (.aload_n 0, 1) := by decide +kernel
theorem dX9_readProcess_110 : decode cX9_readProcess 110 = .ok (.bipush 59, 2) := by decide +kernel
theorem dX9_readProcess_112 : decode cX9_readProcess 112 = .ok (.invokevirtual 160, 3) := by decide +kernel
theorem dX9_readProcess_115 : decode cX9_readProcess 115 = .ok (.aload_n 0, 1) := by decide +kernel
theorem dX9_readProcess_116 : decode cX9_readProcess 116 = .ok (.bipush 11, 2) := by decide +kernel
theorem dX9_readProcess_118 : decode cX9_readProcess 118 = .ok (.invokevirtual 248, 3) := by decide +kernel
theorem dX9_readProcess_121 : decode cX9_readProcess 121 = .ok (.ifCond .eq 21, 3) := by decide +kernel
theorem dX9_readProcess_124 : decode cX9_readProcess 124 = .ok (.aload_n 2, 1) := by decide +kernel
theorem dX9_readProcess_125 : decode cX9_readProcess 125 = .ok (.aload_n 0, 1) := by decide +kernel
theorem dX9_readProcess_126 : decode cX9_readProcess 126 = .ok (.iconst 1, 1) := by decide +kernel
theorem dX9_readProcess_127 : decode cX9_readProcess 127 = .ok (.ldc 251, 2) := by decide +kernel
theorem dX9_readProcess_129 : decode cX9_readProcess 129 = .ok (.iconst 1, 1) := by decide +kernel
theorem dX9_readProcess_130 : decode cX9_readProcess 130 = .ok (.invokevirtual 170, 3) := by decide +kernel
theorem dX9_readProcess_133 : decode cX9_readProcess 133 = .ok (.putfield 255, 3) := by decide +kernel
theorem dX9_readProcess_136 : decode cX9_readProcess 136 = .ok (.aload_n 0, 1) := by decide +kernel
theorem dX9_readProcess_137 : decode cX9_readProcess 137 = .ok (.bipush 59, 2) := by decide +kernel
theorem dX9_readProcess_139 : decode cX9_readProcess 139 = .ok (.invokevirtual 160, 3) := by decide +kernel
theorem dX9_readProcess_142 : decode cX9_readProcess 142 = .ok (.aload_n 0, 1) := by decide +kernel
theorem dX9_readProcess_143 : decode cX9_readProcess 143 = .ok (.bipush 12, 2) := by decide +kernel
theorem dX9_readProcess_145 : decode cX9_readProcess 145 = .ok (.invokevirtual 248, 3) := by decide +kernel
theorem dX9_readProcess_148 : decode cX9_readProcess 148 = .ok (.ifCond .eq 21, 3) := by decide +kernel
theorem dX9_readProcess_151 : decode cX9_readProcess 151 = .ok (.aload_n 2, 1) := by decide +kernel
theorem dX9_readProcess_152 : decode cX9_readProcess 152 = .ok (.aload_n 0, 1) := by decide +kernel
theorem dX9_readProcess_153 : decode cX9_readProcess 153 = .ok (.iconst 1, 1) := by decide +kernel
theorem dX9_readProcess_154 : decode cX9_readProcess 154 = .ok (.ldc 251, 2) := by decide +kernel
theorem dX9_readProcess_156 : decode cX9_readProcess 156 = .ok (.iconst 1, 1) := by decide +kernel
theorem dX9_readProcess_157 : decode cX9_readProcess 157 = .ok (.invokevirtual 170, 3) := by decide +kernel
theorem dX9_readProcess_160 : decode cX9_readProcess 160 = .ok (.putfield 258, 3) := by decide +kernel
theorem dX9_readProcess_163 : decode cX9_readProcess 163 = .ok (.aload_n 0, 1) := by decide +kernel
theorem dX9_readProcess_164 : decode cX9_readProcess 164 = .ok (.bipush 59, 2) := by decide +kernel
theorem dX9_readProcess_166 : decode cX9_readProcess 166 = .ok (.invokevirtual 160, 3) := by decide +kernel
theorem dX9_readProcess_169 : decode cX9_readProcess 169 = .ok (.aload_n 0, 1) := by decide +kernel
theorem dX9_readProcess_170 : decode cX9_readProcess 170 = .ok (.bipush 13, 2) := by decide +kernel
theorem dX9_readProcess_172 : decode cX9_readProcess 172 = .ok (.invokevirtual 81, 3) := by decide +kernel
theorem dX9_readProcess_175 : decode cX9_readProcess 175 = .ok (.ifCond .eq 44, 3) := by decide +kernel
theorem dX9_readProcess_178 : decode cX9_readProcess 178 = .ok (.aload_n 1, 1) := by decide +kernel
theorem dX9_readProcess_179 : decode cX9_readProcess 179 = .ok (.getfield 218, 3) := by decide +kernel
theorem dX9_readProcess_182 : decode cX9_readProcess 182 = .ok (.iconst (-1), 1) := by decide +kernel
theorem dX9_readProcess_183 : decode cX9_readProcess 183 = .ok (.if_icmp .eq 13, 3) := by decide +kernel
theorem dX9_readProcess_186 : decode cX9_readProcess 186 = .ok (.aload_n 0, 1) := by decide +kernel
theorem dX9_readProcess_187 : decode cX9_readProcess 187 = .ok (.bipush 7, 2) := by decide +kernel
theorem dX9_readProcess_189 : decode cX9_readProcess 189 = .ok (.aload_n 0, 1) := by decide +kernel
theorem dX9_readProcess_190 : decode cX9_readProcess 190 = .ok (.getfield 113, 3) := by decide +kernel
theorem dX9_readProcess_193 : decode cX9_readProcess 193 = .ok (.invokevirtual 133, 3) := by decide +kernel
theorem dX9_readProcess_196 : decode cX9_readProcess 196 = .ok (.aload_n 1, 1) := by decide +kernel
theorem dX9_readProcess_197 : decode cX9_readProcess 197 = .ok (.aload_n 2, 1) := by decide +kernel
theorem dX9_readProcess_198 : decode cX9_readProcess 198 = .ok (.getfield 261, 3) := by decide +kernel
theorem dX9_readProcess_201 : decode cX9_readProcess 201 = .ok (.putfield 218, 3) := by decide +kernel
theorem dX9_readProcess_204 : decode cX9_readProcess 204 = .ok (.aload_n 2, 1) := by decide +kernel
theorem dX9_readProcess_205 : decode cX9_readProcess 205 = .ok (.iconst 1, 1) := by decide +kernel
theorem dX9_readProcess_206 : decode cX9_readProcess 206 = .ok (.putfield 263, 3) := by decide +kernel
theorem dX9_readProcess_209 : decode cX9_readProcess 209 = .ok (.aload_n 0, 1) := by decide +kernel
theorem dX9_readProcess_210 : decode cX9_readProcess 210 = .ok (.invokevirtual 78, 3) := by decide +kernel
theorem dX9_readProcess_213 : decode cX9_readProcess 213 = .ok (.aload_n 0, 1) := by decide +kernel
theorem dX9_readProcess_214 : decode cX9_readProcess 214 = .ok (.bipush 59, 2) := by decide +kernel
theorem dX9_readProcess_216 : decode cX9_readProcess 216 = .ok (.invokevirtual 160, 3) := by decide +kernel
theorem dX9_readProcess_219 : decode cX9_readProcess 219 = .ok (.aload_n 0, 1) := by decide +kernel
theorem dX9_readProcess_220 : decode cX9_readProcess 220 = .ok (.bipush 14, 2) := by decide +kernel
theorem dX9_readProcess_222 : decode cX9_readProcess 222 = .ok (.invokevirtual 248, 3) := by decide +kernel
theorem dX9_readProcess_225 : decode cX9_readProcess 225 = .ok (.ifCond .eq 14, 3) := by decide +kernel
theorem dX9_readProcess_228 : decode cX9_readProcess 228 = .ok (.aload_n 2, 1) := by decide +kernel
theorem dX9_readProcess_229 : decode cX9_readProcess 229 = .ok (.iconst 1, 1) := by decide +kernel
theorem dX9_readProcess_230 : decode cX9_readProcess 230 = .ok (.putfield 265, 3) := by decide +kernel
theorem dX9_readProcess_233 : decode cX9_readProcess 233 = .ok (.aload_n 0, 1) := by decide +kernel
theorem dX9_readProcess_234 : decode cX9_readProcess 234 = .ok (.bipush 59, 2) := by decide +kernel
theorem dX9_readProcess_236 : decode cX9_readProcess 236 = .ok (.invokevirtual 160, 3) := by decide +kernel
theorem dX9_readProcess_239 : decode cX9_readProcess 239 = .ok (.aload_n 0, 1) := by decide +kernel
theorem dX9_readProcess_240 : decode cX9_readProcess 240 = .ok (.bipush 125, 2) := by decide +kernel
theorem dX9_readProcess_242 : decode cX9_readProcess 242 = .ok (.invokevirtual 160, 3) := by decide +kernel
theorem dX9_readProcess_245 : decode cX9_readProcess 245 = .ok (.return_, 1) := by decide +kernel
def wb_X9_readProcess_239 (bc bs : Nat)  (u v : Nat) (S : q_S) (a0 : Nat) (Q : Option Value → q_S → Prop) (E : String → q_S → Prop) : Prop := q_K S a0 = 10 ∧ (∃ m4_ m5_ : Nat, (u + m4_ ≤ bc ∧ v + m5_ ≤ bs) ∧ (wm_X9_expectSign m4_ m5_ S a0 (125 : Int32) (fun r2_ S3_ => r2_ = none ∧ (Q none S3_)) E))
set_option maxHeartbeats 4000000 in
set_option maxRecDepth 100000 in
theorem cb_X9_readProcess_239 {p : Program} {l : Launch} {e : Env} {s : State} {m : MethodId} {args : Array Value} {below : List Frame} {meth : Method} {c : Code} {D : va_G} {cy : Nat → ClassId} {lo : Nat} {bc bs : Nat}  {u v : Nat} {S : q_S} {a0 : Nat} {Q : Option Value → q_S → Prop} {E : String → q_S → Prop} {H : Heap} {locs : List Loc} {ls : Array Slot} (X : q_X p s m args meth c RX9 cX9_readProcess 3 none D cy lo) (hex : ∀ x ∈ c.exceptionTable.toList, False) (hst : l.stackTraces = false)  (hu : u ≤ bc ∧ v ≤ bs) (Y : q_Y D cy lo s S H locs) (hl : lv_has ls 3 [(0, .ref a0)]) (h : wb_X9_readProcess_239 bc bs u v S a0 Q E) : W p l e ({ frames := 9, cells := bc, slots := bs, locals := 163 } : Room) s m args below meth c H locs u v (vx_MQ below (q_Q D cy lo Q) (q_XE D cy lo E) args s bc bs (fun q => lo ≤ q)) (F0 m 239 ls []) := by
  have hx := X.1
  have hb := X.2.1
  unfold wb_X9_readProcess_239 at h
  refine lv_aload_n hx hb dX9_readProcess_239 rfl (lv_at hl 0 rfl) ?_
  refine lv_bipush (v := 125) hx hb dX9_readProcess_240 (by decide) ?_
  obtain ⟨k1_, h⟩ := h
  obtain ⟨m4_, m5_, w6_, h⟩ := h
  refine q_callVX X hex Y hl (cm_X9_expectSign hst h) mt_X9_expectSign mi_X9_expectSign ml_X9_160 (ci := 9) rfl k1_ (by decide) rfl rfl (by first | exact Nat.le_of_ble_eq_true rfl | simp [q_cat, q_catI, q_catJ, q_catR]) ⟨Nat.le_of_ble_eq_true rfl, Nat.le_of_ble_eq_true rfl⟩ w6_ w6_ dX9_readProcess_242 (fun r2_ S3_ H locs hp Y => ?_)
  obtain ⟨rfl, h⟩ := hp
  replace hu := w6_
  refine W.eq (g2 := F0 m 245 ls []) rfl ?_
  exact vx_ret <| q_vret X Y hu.1 hu.2 h dX9_readProcess_245
def wb_X9_readProcess_219 (bc bs : Nat)  (u v : Nat) (S : q_S) (a0 : Nat) (r2 : Option Nat) (Q : Option Value → q_S → Prop) (E : String → q_S → Prop) : Prop := q_K S a0 = 10 ∧ (∃ m10_ m11_ : Nat, (u + m10_ ≤ bc ∧ v + m11_ ≤ bs) ∧ (wm_X9_takes m10_ m11_ S a0 (14 : Int32) (fun r8_ S9_ => ∃ x13_ : Int32, r8_ = some (.int x13_) ∧ (((x13_ = 0 → (wb_X9_readProcess_239 bc bs (u + m10_) (v + m11_) S9_ a0 Q E)) ∧ (¬ x13_ = 0 → (∃ a15_ : Nat, r2 = some a15_ ∧ (q_K S9_ a15_ = 8 ∧ (q_K (qs_I S9_ 1408 a15_ (1 : Int32)) a0 = 10 ∧ (∃ m21_ m22_ : Nat, ((u + m10_) + m21_ ≤ bc ∧ (v + m11_) + m22_ ≤ bs) ∧ (wm_X9_expectSign m21_ m22_ (qs_I S9_ 1408 a15_ (1 : Int32)) a0 (59 : Int32) (fun r19_ S20_ => r19_ = none ∧ (wb_X9_readProcess_239 bc bs ((u + m10_) + m21_) ((v + m11_) + m22_) S20_ a0 Q E)) E))))))))) E))
set_option maxHeartbeats 4000000 in
set_option maxRecDepth 100000 in
theorem cb_X9_readProcess_219 {p : Program} {l : Launch} {e : Env} {s : State} {m : MethodId} {args : Array Value} {below : List Frame} {meth : Method} {c : Code} {D : va_G} {cy : Nat → ClassId} {lo : Nat} {bc bs : Nat}  {u v : Nat} {S : q_S} {a0 : Nat} {r2 : Option Nat} {Q : Option Value → q_S → Prop} {E : String → q_S → Prop} {H : Heap} {locs : List Loc} {ls : Array Slot} (X : q_X p s m args meth c RX9 cX9_readProcess 3 none D cy lo) (hex : ∀ x ∈ c.exceptionTable.toList, False) (hst : l.stackTraces = false)  (hu : u ≤ bc ∧ v ≤ bs) (Y : q_Y D cy lo s S H locs) (hl : lv_has ls 3 [(0, .ref a0), (2, va_rf r2)]) (h : wb_X9_readProcess_219 bc bs u v S a0 r2 Q E) : W p l e ({ frames := 9, cells := bc, slots := bs, locals := 163 } : Room) s m args below meth c H locs u v (vx_MQ below (q_Q D cy lo Q) (q_XE D cy lo E) args s bc bs (fun q => lo ≤ q)) (F0 m 219 ls []) := by
  have hx := X.1
  have hb := X.2.1
  unfold wb_X9_readProcess_219 at h
  refine lv_aload_n hx hb dX9_readProcess_219 rfl (lv_at hl 0 rfl) ?_
  refine lv_bipush (v := 14) hx hb dX9_readProcess_220 (by decide) ?_
  obtain ⟨k7_, h⟩ := h
  obtain ⟨m10_, m11_, w12_, h⟩ := h
  refine q_callVX X hex Y hl (cm_X9_takes hst h) mt_X9_takes mi_X9_takes ml_X9_248 (ci := 9) rfl k7_ (by decide) rfl rfl (by first | exact Nat.le_of_ble_eq_true rfl | simp [q_cat, q_catI, q_catJ, q_catR]) ⟨Nat.le_of_ble_eq_true rfl, Nat.le_of_ble_eq_true rfl⟩ w12_ w12_ dX9_readProcess_222 (fun r8_ S9_ H locs hp Y => ?_)
  obtain ⟨x13_, rfl, h⟩ := hp
  replace hu := w12_
  refine W.eq (g2 := F0 m 225 ls [.int x13_]) rfl ?_
  refine lv_if_eq (tgt := 239) hx hb dX9_readProcess_225 (by decide) (fun c14_ => ?_) (fun c14_ => ?_)
  · replace h := h.1 c14_
    exact cb_X9_readProcess_239 X hex hst hu Y (lv_sub hl [0] rfl) h
  · replace h := h.2 c14_
    refine q_aload_n hx hb dX9_readProcess_228 rfl (lv_at hl 1 rfl) ?_
    refine lv_iconst (v := 1) hx hb dX9_readProcess_229 (by decide) ?_
    obtain ⟨a15_, e16_, h⟩ := h
    refine q_nn [.int (1 : Int32)] e16_ ?_
    obtain ⟨k17_, h⟩ := h
    refine q_putI X Y kX7 8 rfl fl_X9_265 k17_ .boolean rfl ⟨rfl, rfl⟩ rfl dX9_readProcess_230 (fun H locs Y => ?_)
    refine lv_aload_n hx hb dX9_readProcess_233 rfl (lv_at hl 0 rfl) ?_
    refine lv_bipush (v := 59) hx hb dX9_readProcess_234 (by decide) ?_
    obtain ⟨k18_, h⟩ := h
    obtain ⟨m21_, m22_, w23_, h⟩ := h
    refine q_callVX X hex Y hl (cm_X9_expectSign hst h) mt_X9_expectSign mi_X9_expectSign ml_X9_160 (ci := 9) rfl k18_ (by decide) rfl rfl (by first | exact Nat.le_of_ble_eq_true rfl | simp [q_cat, q_catI, q_catJ, q_catR]) ⟨Nat.le_of_ble_eq_true rfl, Nat.le_of_ble_eq_true rfl⟩ w23_ w23_ dX9_readProcess_236 (fun r19_ S20_ H locs hp Y => ?_)
    obtain ⟨rfl, h⟩ := hp
    replace hu := w23_
    refine W.eq (g2 := F0 m 239 ls []) rfl ?_
    exact cb_X9_readProcess_239 X hex hst hu Y (lv_sub hl [0] rfl) h
def wb_X9_readProcess_196 (bc bs : Nat)  (u v : Nat) (S : q_S) (a0 : Nat) (r1 : Option Nat) (r2 : Option Nat) (Q : Option Value → q_S → Prop) (E : String → q_S → Prop) : Prop := ∃ a24_ : Nat, r2 = some a24_ ∧ (q_K S a24_ = 8 ∧ (∃ a27_ : Nat, r1 = some a27_ ∧ (q_K S a27_ = 6 ∧ (q_K (qs_I (qs_I S 1008 a27_ (q_I S 1400 a24_)) 1407 a24_ (1 : Int32)) a0 = 10 ∧ (∃ m33_ m34_ : Nat, (u + m33_ ≤ bc ∧ v + m34_ ≤ bs) ∧ (wm_X9_advance m33_ m34_ (qs_I (qs_I S 1008 a27_ (q_I S 1400 a24_)) 1407 a24_ (1 : Int32)) a0 (fun r31_ S32_ => r31_ = none ∧ (q_K S32_ a0 = 10 ∧ (∃ m39_ m40_ : Nat, ((u + m33_) + m39_ ≤ bc ∧ (v + m34_) + m40_ ≤ bs) ∧ (wm_X9_expectSign m39_ m40_ S32_ a0 (59 : Int32) (fun r37_ S38_ => r37_ = none ∧ (wb_X9_readProcess_219 bc bs ((u + m33_) + m39_) ((v + m34_) + m40_) S38_ a0 r2 Q E)) E)))) E))))))
set_option maxHeartbeats 4000000 in
set_option maxRecDepth 100000 in
theorem cb_X9_readProcess_196 {p : Program} {l : Launch} {e : Env} {s : State} {m : MethodId} {args : Array Value} {below : List Frame} {meth : Method} {c : Code} {D : va_G} {cy : Nat → ClassId} {lo : Nat} {bc bs : Nat}  {u v : Nat} {S : q_S} {a0 : Nat} {r1 : Option Nat} {r2 : Option Nat} {Q : Option Value → q_S → Prop} {E : String → q_S → Prop} {H : Heap} {locs : List Loc} {ls : Array Slot} (X : q_X p s m args meth c RX9 cX9_readProcess 3 none D cy lo) (hex : ∀ x ∈ c.exceptionTable.toList, False) (hst : l.stackTraces = false)  (hu : u ≤ bc ∧ v ≤ bs) (Y : q_Y D cy lo s S H locs) (hl : lv_has ls 3 [(0, .ref a0), (1, va_rf r1), (2, va_rf r2)]) (h : wb_X9_readProcess_196 bc bs u v S a0 r1 r2 Q E) : W p l e ({ frames := 9, cells := bc, slots := bs, locals := 163 } : Room) s m args below meth c H locs u v (vx_MQ below (q_Q D cy lo Q) (q_XE D cy lo E) args s bc bs (fun q => lo ≤ q)) (F0 m 196 ls []) := by
  have hx := X.1
  have hb := X.2.1
  unfold wb_X9_readProcess_196 at h
  refine q_aload_n hx hb dX9_readProcess_196 rfl (lv_at hl 1 rfl) ?_
  refine q_aload_n hx hb dX9_readProcess_197 rfl (lv_at hl 2 rfl) ?_
  obtain ⟨a24_, e25_, h⟩ := h
  refine q_nn [] e25_ ?_
  obtain ⟨k26_, h⟩ := h
  refine q_getI X Y kX7 0 rfl fl_X9_261 k26_ dX9_readProcess_198 ?_
  obtain ⟨a27_, e28_, h⟩ := h
  refine q_nn [.int (q_I S 1400 a24_)] e28_ ?_
  obtain ⟨k29_, h⟩ := h
  refine q_putI X Y kX5 8 rfl fl_X9_218 k29_ .int rfl ⟨rfl, rfl⟩ rfl dX9_readProcess_201 (fun H locs Y => ?_)
  refine q_aload_n hx hb dX9_readProcess_204 rfl (lv_at hl 2 rfl) ?_
  refine lv_iconst (v := 1) hx hb dX9_readProcess_205 (by decide) ?_
  refine q_nn [.int (1 : Int32)] e25_ ?_
  refine q_putI X Y kX7 7 rfl fl_X9_263 k26_ .boolean rfl ⟨rfl, rfl⟩ rfl dX9_readProcess_206 (fun H locs Y => ?_)
  refine lv_aload_n hx hb dX9_readProcess_209 rfl (lv_at hl 0 rfl) ?_
  obtain ⟨k30_, h⟩ := h
  obtain ⟨m33_, m34_, w35_, h⟩ := h
  refine q_callVX X hex Y hl (cm_X9_advance hst h) mt_X9_advance mi_X9_advance ml_X9_78 (ci := 9) rfl k30_ (by decide) rfl rfl (by first | exact Nat.le_of_ble_eq_true rfl | simp [q_cat, q_catI, q_catJ, q_catR]) ⟨Nat.le_of_ble_eq_true rfl, Nat.le_of_ble_eq_true rfl⟩ w35_ w35_ dX9_readProcess_210 (fun r31_ S32_ H locs hp Y => ?_)
  obtain ⟨rfl, h⟩ := hp
  replace hu := w35_
  refine W.eq (g2 := F0 m 213 ls []) rfl ?_
  refine lv_aload_n hx hb dX9_readProcess_213 rfl (lv_at hl 0 rfl) ?_
  refine lv_bipush (v := 59) hx hb dX9_readProcess_214 (by decide) ?_
  obtain ⟨k36_, h⟩ := h
  obtain ⟨m39_, m40_, w41_, h⟩ := h
  refine q_callVX X hex Y hl (cm_X9_expectSign hst h) mt_X9_expectSign mi_X9_expectSign ml_X9_160 (ci := 9) rfl k36_ (by decide) rfl rfl (by first | exact Nat.le_of_ble_eq_true rfl | simp [q_cat, q_catI, q_catJ, q_catR]) ⟨Nat.le_of_ble_eq_true rfl, Nat.le_of_ble_eq_true rfl⟩ w41_ w41_ dX9_readProcess_216 (fun r37_ S38_ H locs hp Y => ?_)
  obtain ⟨rfl, h⟩ := hp
  replace hu := w41_
  refine W.eq (g2 := F0 m 219 ls []) rfl ?_
  exact cb_X9_readProcess_219 X hex hst hu Y (lv_sub hl [0, 2] rfl) h
def wb_X9_readProcess_169 (bc bs : Nat)  (u v : Nat) (S : q_S) (a0 : Nat) (r1 : Option Nat) (r2 : Option Nat) (Q : Option Value → q_S → Prop) (E : String → q_S → Prop) : Prop := q_K S a0 = 10 ∧ (wm_X9_sees S a0 (13 : Int32) (fun r43_ S44_ => ∃ x45_ : Int32, r43_ = some (.int x45_) ∧ (((x45_ = 0 → (wb_X9_readProcess_219 bc bs u v S44_ a0 r2 Q E)) ∧ (¬ x45_ = 0 → (∃ a47_ : Nat, r1 = some a47_ ∧ (q_K S44_ a47_ = 6 ∧ ((((q_I S44_ 1008 a47_) = (-1 : Int32) → (wb_X9_readProcess_196 bc bs u v S44_ a0 r1 r2 Q E)) ∧ (¬ (q_I S44_ 1008 a47_) = (-1 : Int32) → (q_K S44_ a0 = 10 ∧ (∃ m54_ m55_ : Nat, (u + m54_ ≤ bc ∧ v + m55_ ≤ bs) ∧ (wm_X9_fail m54_ m55_ S44_ a0 (7 : Int32) (q_I S44_ 1811 a0) (fun r52_ S53_ => r52_ = none ∧ (wb_X9_readProcess_196 bc bs (u + m54_) (v + m55_) S53_ a0 r1 r2 Q E)) E)))))))))))))
set_option maxHeartbeats 4000000 in
set_option maxRecDepth 100000 in
theorem cb_X9_readProcess_169 {p : Program} {l : Launch} {e : Env} {s : State} {m : MethodId} {args : Array Value} {below : List Frame} {meth : Method} {c : Code} {D : va_G} {cy : Nat → ClassId} {lo : Nat} {bc bs : Nat}  {u v : Nat} {S : q_S} {a0 : Nat} {r1 : Option Nat} {r2 : Option Nat} {Q : Option Value → q_S → Prop} {E : String → q_S → Prop} {H : Heap} {locs : List Loc} {ls : Array Slot} (X : q_X p s m args meth c RX9 cX9_readProcess 3 none D cy lo) (hex : ∀ x ∈ c.exceptionTable.toList, False) (hst : l.stackTraces = false)  (hu : u ≤ bc ∧ v ≤ bs) (Y : q_Y D cy lo s S H locs) (hl : lv_has ls 3 [(0, .ref a0), (1, va_rf r1), (2, va_rf r2)]) (h : wb_X9_readProcess_169 bc bs u v S a0 r1 r2 Q E) : W p l e ({ frames := 9, cells := bc, slots := bs, locals := 163 } : Room) s m args below meth c H locs u v (vx_MQ below (q_Q D cy lo Q) (q_XE D cy lo E) args s bc bs (fun q => lo ≤ q)) (F0 m 169 ls []) := by
  have hx := X.1
  have hb := X.2.1
  unfold wb_X9_readProcess_169 at h
  refine lv_aload_n hx hb dX9_readProcess_169 rfl (lv_at hl 0 rfl) ?_
  refine lv_bipush (v := 13) hx hb dX9_readProcess_170 (by decide) ?_
  obtain ⟨k42_, h⟩ := h
  refine q_callV X Y hl (cm_X9_sees h) mt_X9_sees mi_X9_sees ml_X9_81 (ci := 9) rfl k42_ (by decide) rfl rfl (by first | exact Nat.le_of_ble_eq_true rfl | simp [q_cat, q_catI, q_catJ, q_catR]) ⟨Nat.le_of_ble_eq_true rfl, Nat.le_of_ble_eq_true rfl⟩ hu dX9_readProcess_172 (fun r43_ S44_ H locs hp Y => ?_)
  obtain ⟨x45_, rfl, h⟩ := hp
  refine W.eq (g2 := F0 m 175 ls [.int x45_]) rfl ?_
  refine lv_if_eq (tgt := 219) hx hb dX9_readProcess_175 (by decide) (fun c46_ => ?_) (fun c46_ => ?_)
  · replace h := h.1 c46_
    exact cb_X9_readProcess_219 X hex hst hu Y (lv_sub hl [0, 2] rfl) h
  · replace h := h.2 c46_
    refine q_aload_n hx hb dX9_readProcess_178 rfl (lv_at hl 1 rfl) ?_
    obtain ⟨a47_, e48_, h⟩ := h
    refine q_nn [] e48_ ?_
    obtain ⟨k49_, h⟩ := h
    refine q_getI X Y kX5 8 rfl fl_X9_218 k49_ dX9_readProcess_179 ?_
    refine lv_iconst (v := (-1)) hx hb dX9_readProcess_182 (by decide) ?_
    refine lv_icmp_eq (tgt := 196) hx hb dX9_readProcess_183 (by decide) (fun c50_ => ?_) (fun c50_ => ?_)
    · replace h := h.1 c50_
      exact cb_X9_readProcess_196 X hex hst hu Y (lv_sub hl [0, 1, 2] rfl) h
    · replace h := h.2 c50_
      refine lv_aload_n hx hb dX9_readProcess_186 rfl (lv_at hl 0 rfl) ?_
      refine lv_bipush (v := 7) hx hb dX9_readProcess_187 (by decide) ?_
      refine lv_aload_n hx hb dX9_readProcess_189 rfl (lv_at hl 0 rfl) ?_
      obtain ⟨k51_, h⟩ := h
      refine q_getI X Y kX9 11 rfl fl_X9_113 k51_ dX9_readProcess_190 ?_
      obtain ⟨m54_, m55_, w56_, h⟩ := h
      refine q_callVX X hex Y hl (cm_X9_fail hst h) mt_X9_fail mi_X9_fail ml_X9_133 (ci := 9) rfl k51_ (by decide) rfl rfl (by first | exact Nat.le_of_ble_eq_true rfl | simp [q_cat, q_catI, q_catJ, q_catR]) ⟨Nat.le_of_ble_eq_true rfl, Nat.le_of_ble_eq_true rfl⟩ w56_ w56_ dX9_readProcess_193 (fun r52_ S53_ H locs hp Y => ?_)
      obtain ⟨rfl, h⟩ := hp
      replace hu := w56_
      refine W.eq (g2 := F0 m 196 ls []) rfl ?_
      exact cb_X9_readProcess_196 X hex hst hu Y (lv_sub hl [0, 1, 2] rfl) h
def wb_X9_readProcess_142 (bc bs : Nat)  (u v : Nat) (S : q_S) (a0 : Nat) (r1 : Option Nat) (r2 : Option Nat) (Q : Option Value → q_S → Prop) (E : String → q_S → Prop) : Prop := q_K S a0 = 10 ∧ (∃ m60_ m61_ : Nat, (u + m60_ ≤ bc ∧ v + m61_ ≤ bs) ∧ (wm_X9_takes m60_ m61_ S a0 (12 : Int32) (fun r58_ S59_ => ∃ x63_ : Int32, r58_ = some (.int x63_) ∧ (((x63_ = 0 → (wb_X9_readProcess_169 bc bs (u + m60_) (v + m61_) S59_ a0 r1 r2 Q E)) ∧ (¬ x63_ = 0 → (q_K S59_ a0 = 10 ∧ (∃ m68_ m69_ : Nat, ((u + m60_) + m68_ ≤ bc ∧ (v + m61_) + m69_ ≤ bs) ∧ (wm_X9_number m68_ m69_ S59_ a0 (1 : Int32) (100000 : Int32) (1 : Int32) (fun r66_ S67_ => ∃ x71_ : Int32, r66_ = some (.int x71_) ∧ (∃ a72_ : Nat, r2 = some a72_ ∧ (q_K S67_ a72_ = 8 ∧ (q_K (qs_I S67_ 1406 a72_ x71_) a0 = 10 ∧ (∃ m78_ m79_ : Nat, (((u + m60_) + m68_) + m78_ ≤ bc ∧ ((v + m61_) + m69_) + m79_ ≤ bs) ∧ (wm_X9_expectSign m78_ m79_ (qs_I S67_ 1406 a72_ x71_) a0 (59 : Int32) (fun r76_ S77_ => r76_ = none ∧ (wb_X9_readProcess_169 bc bs (((u + m60_) + m68_) + m78_) (((v + m61_) + m69_) + m79_) S77_ a0 r1 r2 Q E)) E)))))) E))))))) E))
set_option maxHeartbeats 4000000 in
set_option maxRecDepth 100000 in
theorem cb_X9_readProcess_142 {p : Program} {l : Launch} {e : Env} {s : State} {m : MethodId} {args : Array Value} {below : List Frame} {meth : Method} {c : Code} {D : va_G} {cy : Nat → ClassId} {lo : Nat} {bc bs : Nat}  {u v : Nat} {S : q_S} {a0 : Nat} {r1 : Option Nat} {r2 : Option Nat} {Q : Option Value → q_S → Prop} {E : String → q_S → Prop} {H : Heap} {locs : List Loc} {ls : Array Slot} (X : q_X p s m args meth c RX9 cX9_readProcess 3 none D cy lo) (hex : ∀ x ∈ c.exceptionTable.toList, False) (hst : l.stackTraces = false)  (hu : u ≤ bc ∧ v ≤ bs) (Y : q_Y D cy lo s S H locs) (hl : lv_has ls 3 [(0, .ref a0), (1, va_rf r1), (2, va_rf r2)]) (h : wb_X9_readProcess_142 bc bs u v S a0 r1 r2 Q E) : W p l e ({ frames := 9, cells := bc, slots := bs, locals := 163 } : Room) s m args below meth c H locs u v (vx_MQ below (q_Q D cy lo Q) (q_XE D cy lo E) args s bc bs (fun q => lo ≤ q)) (F0 m 142 ls []) := by
  have hx := X.1
  have hb := X.2.1
  unfold wb_X9_readProcess_142 at h
  refine lv_aload_n hx hb dX9_readProcess_142 rfl (lv_at hl 0 rfl) ?_
  refine lv_bipush (v := 12) hx hb dX9_readProcess_143 (by decide) ?_
  obtain ⟨k57_, h⟩ := h
  obtain ⟨m60_, m61_, w62_, h⟩ := h
  refine q_callVX X hex Y hl (cm_X9_takes hst h) mt_X9_takes mi_X9_takes ml_X9_248 (ci := 9) rfl k57_ (by decide) rfl rfl (by first | exact Nat.le_of_ble_eq_true rfl | simp [q_cat, q_catI, q_catJ, q_catR]) ⟨Nat.le_of_ble_eq_true rfl, Nat.le_of_ble_eq_true rfl⟩ w62_ w62_ dX9_readProcess_145 (fun r58_ S59_ H locs hp Y => ?_)
  obtain ⟨x63_, rfl, h⟩ := hp
  replace hu := w62_
  refine W.eq (g2 := F0 m 148 ls [.int x63_]) rfl ?_
  refine lv_if_eq (tgt := 169) hx hb dX9_readProcess_148 (by decide) (fun c64_ => ?_) (fun c64_ => ?_)
  · replace h := h.1 c64_
    exact cb_X9_readProcess_169 X hex hst hu Y (lv_sub hl [0, 1, 2] rfl) h
  · replace h := h.2 c64_
    refine q_aload_n hx hb dX9_readProcess_151 rfl (lv_at hl 2 rfl) ?_
    refine lv_aload_n hx hb dX9_readProcess_152 rfl (lv_at hl 0 rfl) ?_
    refine lv_iconst (v := 1) hx hb dX9_readProcess_153 (by decide) ?_
    refine lv_ldc (v := 100000) hx hb X.2.2.2.1 (X.2.2.2.2.1 _ co_X9_251) dX9_readProcess_154 ?_
    refine lv_iconst (v := 1) hx hb dX9_readProcess_156 (by decide) ?_
    obtain ⟨k65_, h⟩ := h
    obtain ⟨m68_, m69_, w70_, h⟩ := h
    refine q_callVX X hex Y hl (cm_X9_number hst h) mt_X9_number mi_X9_number ml_X9_170 (ci := 9) rfl k65_ (by decide) rfl rfl (by first | exact Nat.le_of_ble_eq_true rfl | simp [q_cat, q_catI, q_catJ, q_catR]) ⟨Nat.le_of_ble_eq_true rfl, Nat.le_of_ble_eq_true rfl⟩ w70_ w70_ dX9_readProcess_157 (fun r66_ S67_ H locs hp Y => ?_)
    obtain ⟨x71_, rfl, h⟩ := hp
    replace hu := w70_
    refine W.eq (g2 := F0 m 160 ls [.int x71_, va_rf r2]) rfl ?_
    obtain ⟨a72_, e73_, h⟩ := h
    refine q_nn [.int x71_] e73_ ?_
    obtain ⟨k74_, h⟩ := h
    refine q_putI X Y kX7 6 rfl fl_X9_258 k74_ .int rfl ⟨rfl, rfl⟩ rfl dX9_readProcess_160 (fun H locs Y => ?_)
    refine lv_aload_n hx hb dX9_readProcess_163 rfl (lv_at hl 0 rfl) ?_
    refine lv_bipush (v := 59) hx hb dX9_readProcess_164 (by decide) ?_
    obtain ⟨k75_, h⟩ := h
    obtain ⟨m78_, m79_, w80_, h⟩ := h
    refine q_callVX X hex Y hl (cm_X9_expectSign hst h) mt_X9_expectSign mi_X9_expectSign ml_X9_160 (ci := 9) rfl k75_ (by decide) rfl rfl (by first | exact Nat.le_of_ble_eq_true rfl | simp [q_cat, q_catI, q_catJ, q_catR]) ⟨Nat.le_of_ble_eq_true rfl, Nat.le_of_ble_eq_true rfl⟩ w80_ w80_ dX9_readProcess_166 (fun r76_ S77_ H locs hp Y => ?_)
    obtain ⟨rfl, h⟩ := hp
    replace hu := w80_
    refine W.eq (g2 := F0 m 169 ls []) rfl ?_
    exact cb_X9_readProcess_169 X hex hst hu Y (lv_sub hl [0, 1, 2] rfl) h
def wb_X9_readProcess_115 (bc bs : Nat)  (u v : Nat) (S : q_S) (a0 : Nat) (r1 : Option Nat) (r2 : Option Nat) (Q : Option Value → q_S → Prop) (E : String → q_S → Prop) : Prop := q_K S a0 = 10 ∧ (∃ m84_ m85_ : Nat, (u + m84_ ≤ bc ∧ v + m85_ ≤ bs) ∧ (wm_X9_takes m84_ m85_ S a0 (11 : Int32) (fun r82_ S83_ => ∃ x87_ : Int32, r82_ = some (.int x87_) ∧ (((x87_ = 0 → (wb_X9_readProcess_142 bc bs (u + m84_) (v + m85_) S83_ a0 r1 r2 Q E)) ∧ (¬ x87_ = 0 → (q_K S83_ a0 = 10 ∧ (∃ m92_ m93_ : Nat, ((u + m84_) + m92_ ≤ bc ∧ (v + m85_) + m93_ ≤ bs) ∧ (wm_X9_number m92_ m93_ S83_ a0 (1 : Int32) (100000 : Int32) (1 : Int32) (fun r90_ S91_ => ∃ x95_ : Int32, r90_ = some (.int x95_) ∧ (∃ a96_ : Nat, r2 = some a96_ ∧ (q_K S91_ a96_ = 8 ∧ (q_K (qs_I S91_ 1405 a96_ x95_) a0 = 10 ∧ (∃ m102_ m103_ : Nat, (((u + m84_) + m92_) + m102_ ≤ bc ∧ ((v + m85_) + m93_) + m103_ ≤ bs) ∧ (wm_X9_expectSign m102_ m103_ (qs_I S91_ 1405 a96_ x95_) a0 (59 : Int32) (fun r100_ S101_ => r100_ = none ∧ (wb_X9_readProcess_142 bc bs (((u + m84_) + m92_) + m102_) (((v + m85_) + m93_) + m103_) S101_ a0 r1 r2 Q E)) E)))))) E))))))) E))
set_option maxHeartbeats 4000000 in
set_option maxRecDepth 100000 in
theorem cb_X9_readProcess_115 {p : Program} {l : Launch} {e : Env} {s : State} {m : MethodId} {args : Array Value} {below : List Frame} {meth : Method} {c : Code} {D : va_G} {cy : Nat → ClassId} {lo : Nat} {bc bs : Nat}  {u v : Nat} {S : q_S} {a0 : Nat} {r1 : Option Nat} {r2 : Option Nat} {Q : Option Value → q_S → Prop} {E : String → q_S → Prop} {H : Heap} {locs : List Loc} {ls : Array Slot} (X : q_X p s m args meth c RX9 cX9_readProcess 3 none D cy lo) (hex : ∀ x ∈ c.exceptionTable.toList, False) (hst : l.stackTraces = false)  (hu : u ≤ bc ∧ v ≤ bs) (Y : q_Y D cy lo s S H locs) (hl : lv_has ls 3 [(0, .ref a0), (1, va_rf r1), (2, va_rf r2)]) (h : wb_X9_readProcess_115 bc bs u v S a0 r1 r2 Q E) : W p l e ({ frames := 9, cells := bc, slots := bs, locals := 163 } : Room) s m args below meth c H locs u v (vx_MQ below (q_Q D cy lo Q) (q_XE D cy lo E) args s bc bs (fun q => lo ≤ q)) (F0 m 115 ls []) := by
  have hx := X.1
  have hb := X.2.1
  unfold wb_X9_readProcess_115 at h
  refine lv_aload_n hx hb dX9_readProcess_115 rfl (lv_at hl 0 rfl) ?_
  refine lv_bipush (v := 11) hx hb dX9_readProcess_116 (by decide) ?_
  obtain ⟨k81_, h⟩ := h
  obtain ⟨m84_, m85_, w86_, h⟩ := h
  refine q_callVX X hex Y hl (cm_X9_takes hst h) mt_X9_takes mi_X9_takes ml_X9_248 (ci := 9) rfl k81_ (by decide) rfl rfl (by first | exact Nat.le_of_ble_eq_true rfl | simp [q_cat, q_catI, q_catJ, q_catR]) ⟨Nat.le_of_ble_eq_true rfl, Nat.le_of_ble_eq_true rfl⟩ w86_ w86_ dX9_readProcess_118 (fun r82_ S83_ H locs hp Y => ?_)
  obtain ⟨x87_, rfl, h⟩ := hp
  replace hu := w86_
  refine W.eq (g2 := F0 m 121 ls [.int x87_]) rfl ?_
  refine lv_if_eq (tgt := 142) hx hb dX9_readProcess_121 (by decide) (fun c88_ => ?_) (fun c88_ => ?_)
  · replace h := h.1 c88_
    exact cb_X9_readProcess_142 X hex hst hu Y (lv_sub hl [0, 1, 2] rfl) h
  · replace h := h.2 c88_
    refine q_aload_n hx hb dX9_readProcess_124 rfl (lv_at hl 2 rfl) ?_
    refine lv_aload_n hx hb dX9_readProcess_125 rfl (lv_at hl 0 rfl) ?_
    refine lv_iconst (v := 1) hx hb dX9_readProcess_126 (by decide) ?_
    refine lv_ldc (v := 100000) hx hb X.2.2.2.1 (X.2.2.2.2.1 _ co_X9_251) dX9_readProcess_127 ?_
    refine lv_iconst (v := 1) hx hb dX9_readProcess_129 (by decide) ?_
    obtain ⟨k89_, h⟩ := h
    obtain ⟨m92_, m93_, w94_, h⟩ := h
    refine q_callVX X hex Y hl (cm_X9_number hst h) mt_X9_number mi_X9_number ml_X9_170 (ci := 9) rfl k89_ (by decide) rfl rfl (by first | exact Nat.le_of_ble_eq_true rfl | simp [q_cat, q_catI, q_catJ, q_catR]) ⟨Nat.le_of_ble_eq_true rfl, Nat.le_of_ble_eq_true rfl⟩ w94_ w94_ dX9_readProcess_130 (fun r90_ S91_ H locs hp Y => ?_)
    obtain ⟨x95_, rfl, h⟩ := hp
    replace hu := w94_
    refine W.eq (g2 := F0 m 133 ls [.int x95_, va_rf r2]) rfl ?_
    obtain ⟨a96_, e97_, h⟩ := h
    refine q_nn [.int x95_] e97_ ?_
    obtain ⟨k98_, h⟩ := h
    refine q_putI X Y kX7 5 rfl fl_X9_255 k98_ .int rfl ⟨rfl, rfl⟩ rfl dX9_readProcess_133 (fun H locs Y => ?_)
    refine lv_aload_n hx hb dX9_readProcess_136 rfl (lv_at hl 0 rfl) ?_
    refine lv_bipush (v := 59) hx hb dX9_readProcess_137 (by decide) ?_
    obtain ⟨k99_, h⟩ := h
    obtain ⟨m102_, m103_, w104_, h⟩ := h
    refine q_callVX X hex Y hl (cm_X9_expectSign hst h) mt_X9_expectSign mi_X9_expectSign ml_X9_160 (ci := 9) rfl k99_ (by decide) rfl rfl (by first | exact Nat.le_of_ble_eq_true rfl | simp [q_cat, q_catI, q_catJ, q_catR]) ⟨Nat.le_of_ble_eq_true rfl, Nat.le_of_ble_eq_true rfl⟩ w104_ w104_ dX9_readProcess_139 (fun r100_ S101_ H locs hp Y => ?_)
    obtain ⟨rfl, h⟩ := hp
    replace hu := w104_
    refine W.eq (g2 := F0 m 142 ls []) rfl ?_
    exact cb_X9_readProcess_142 X hex hst hu Y (lv_sub hl [0, 1, 2] rfl) h
def wm_X9_readProcess (bc bs : Nat) (S : q_S) (a0 : Nat) (r1 : Option Nat) (Q : Option Value → q_S → Prop) (E : String → q_S → Prop) : Prop := q_K S a0 = 10 ∧ (∃ m108_ m109_ : Nat, (0 + m108_ ≤ bc ∧ 0 + m109_ ≤ bs) ∧ (wm_X9_advance m108_ m109_ S a0 (fun r106_ S107_ => r106_ = none ∧ (∃ a111_ : Nat, r1 = some a111_ ∧ (q_K S107_ a111_ = 6 ∧ (wm_X5_isFull S107_ a111_ (5 : Int32) (fun r114_ S115_ => ∃ x116_ : Int32, r114_ = some (.int x116_) ∧ (q_K S115_ a0 = 10 ∧ (∃ m120_ m121_ : Nat, ((0 + m108_) + m120_ ≤ bc ∧ (0 + m109_) + m121_ ≤ bs) ∧ (wm_X9_checkNewName m120_ m121_ S115_ a0 r1 x116_ (fun r118_ S119_ => r118_ = none ∧ (q_K S119_ a0 = 10 ∧ (q_K S119_ a111_ = 6 ∧ (∃ m127_ m128_ : Nat, (((0 + m108_) + m120_) + m127_ ≤ bc ∧ ((0 + m109_) + m121_) + m128_ ≤ bs) ∧ (wm_X5_addProcess m127_ m128_ S119_ a111_ (q_J S119_ 1810 a0) (fun r125_ S126_ => ∃ r130_ : Option Nat, r125_ = some (va_rf r130_) ∧ (q_K S126_ a0 = 10 ∧ (∃ m134_ m135_ : Nat, ((((0 + m108_) + m120_) + m127_) + m134_ ≤ bc ∧ (((0 + m109_) + m121_) + m128_) + m135_ ≤ bs) ∧ (wm_X9_advance m134_ m135_ S126_ a0 (fun r132_ S133_ => r132_ = none ∧ (q_K S133_ a0 = 10 ∧ (∃ m140_ m141_ : Nat, (((((0 + m108_) + m120_) + m127_) + m134_) + m140_ ≤ bc ∧ ((((0 + m109_) + m121_) + m128_) + m135_) + m141_ ≤ bs) ∧ (wm_X9_expectSign m140_ m141_ S133_ a0 (123 : Int32) (fun r138_ S139_ => r138_ = none ∧ (q_K S139_ a0 = 10 ∧ (∃ m146_ m147_ : Nat, ((((((0 + m108_) + m120_) + m127_) + m134_) + m140_) + m146_ ≤ bc ∧ (((((0 + m109_) + m121_) + m128_) + m135_) + m141_) + m147_ ≤ bs) ∧ (wm_X9_expect m146_ m147_ S139_ a0 (8 : Int32) (fun r144_ S145_ => r144_ = none ∧ (q_K S145_ a111_ = 6 ∧ (∃ a150_ : Nat, (q_P S145_ 1002 a111_) = some a150_ ∧ (q_K S145_ a150_ = 5 ∧ (q_K S145_ a0 = 10 ∧ (∃ m156_ m157_ : Nat, (((((((0 + m108_) + m120_) + m127_) + m134_) + m140_) + m146_) + m156_ ≤ bc ∧ ((((((0 + m109_) + m121_) + m128_) + m135_) + m141_) + m147_) + m157_ ≤ bs) ∧ (wm_X9_number m156_ m157_ S145_ a0 (0 : Int32) ((q_I S145_ 800 a150_) - (4 : Int32)) (4 : Int32) (fun r154_ S155_ => ∃ x159_ : Int32, r154_ = some (.int x159_) ∧ (∃ a160_ : Nat, r130_ = some a160_ ∧ (q_K S155_ a160_ = 8 ∧ (q_K (qs_I S155_ 1402 a160_ x159_) a0 = 10 ∧ (∃ m166_ m167_ : Nat, ((((((((0 + m108_) + m120_) + m127_) + m134_) + m140_) + m146_) + m156_) + m166_ ≤ bc ∧ (((((((0 + m109_) + m121_) + m128_) + m135_) + m141_) + m147_) + m157_) + m167_ ≤ bs) ∧ (wm_X9_expectSign m166_ m167_ (qs_I S155_ 1402 a160_ x159_) a0 (59 : Int32) (fun r164_ S165_ => r164_ = none ∧ (q_K S165_ a0 = 10 ∧ (∃ m172_ m173_ : Nat, (((((((((0 + m108_) + m120_) + m127_) + m134_) + m140_) + m146_) + m156_) + m166_) + m172_ ≤ bc ∧ ((((((((0 + m109_) + m121_) + m128_) + m135_) + m141_) + m147_) + m157_) + m167_) + m173_ ≤ bs) ∧ (wm_X9_expect m172_ m173_ S165_ a0 (9 : Int32) (fun r170_ S171_ => r170_ = none ∧ (q_K S171_ a0 = 10 ∧ (∃ m178_ m179_ : Nat, ((((((((((0 + m108_) + m120_) + m127_) + m134_) + m140_) + m146_) + m156_) + m166_) + m172_) + m178_ ≤ bc ∧ (((((((((0 + m109_) + m121_) + m128_) + m135_) + m141_) + m147_) + m157_) + m167_) + m173_) + m179_ ≤ bs) ∧ (wm_X9_number m178_ m179_ S171_ a0 (0 : Int32) (15 : Int32) (1 : Int32) (fun r176_ S177_ => ∃ x181_ : Int32, r176_ = some (.int x181_) ∧ (q_K S177_ a160_ = 8 ∧ (q_K (qs_I S177_ 1403 a160_ x181_) a0 = 10 ∧ (∃ m186_ m187_ : Nat, (((((((((((0 + m108_) + m120_) + m127_) + m134_) + m140_) + m146_) + m156_) + m166_) + m172_) + m178_) + m186_ ≤ bc ∧ ((((((((((0 + m109_) + m121_) + m128_) + m135_) + m141_) + m147_) + m157_) + m167_) + m173_) + m179_) + m187_ ≤ bs) ∧ (wm_X9_expectSign m186_ m187_ (qs_I S177_ 1403 a160_ x181_) a0 (59 : Int32) (fun r184_ S185_ => r184_ = none ∧ (q_K S185_ a0 = 10 ∧ (∃ m192_ m193_ : Nat, ((((((((((((0 + m108_) + m120_) + m127_) + m134_) + m140_) + m146_) + m156_) + m166_) + m172_) + m178_) + m186_) + m192_ ≤ bc ∧ (((((((((((0 + m109_) + m121_) + m128_) + m135_) + m141_) + m147_) + m157_) + m167_) + m173_) + m179_) + m187_) + m193_ ≤ bs) ∧ (wm_X9_takes m192_ m193_ S185_ a0 (10 : Int32) (fun r190_ S191_ => ∃ x195_ : Int32, r190_ = some (.int x195_) ∧ (((x195_ = 0 → (wb_X9_readProcess_115 bc bs ((((((((((((0 + m108_) + m120_) + m127_) + m134_) + m140_) + m146_) + m156_) + m166_) + m172_) + m178_) + m186_) + m192_) ((((((((((((0 + m109_) + m121_) + m128_) + m135_) + m141_) + m147_) + m157_) + m167_) + m173_) + m179_) + m187_) + m193_) S191_ a0 r1 r130_ Q E)) ∧ (¬ x195_ = 0 → (q_K S191_ a0 = 10 ∧ (∃ m200_ m201_ : Nat, (((((((((((((0 + m108_) + m120_) + m127_) + m134_) + m140_) + m146_) + m156_) + m166_) + m172_) + m178_) + m186_) + m192_) + m200_ ≤ bc ∧ ((((((((((((0 + m109_) + m121_) + m128_) + m135_) + m141_) + m147_) + m157_) + m167_) + m173_) + m179_) + m187_) + m193_) + m201_ ≤ bs) ∧ (wm_X9_number m200_ m201_ S191_ a0 (1 : Int32) (100000 : Int32) (1 : Int32) (fun r198_ S199_ => ∃ x203_ : Int32, r198_ = some (.int x203_) ∧ (q_K S199_ a160_ = 8 ∧ (q_K (qs_I S199_ 1404 a160_ x203_) a0 = 10 ∧ (∃ m208_ m209_ : Nat, ((((((((((((((0 + m108_) + m120_) + m127_) + m134_) + m140_) + m146_) + m156_) + m166_) + m172_) + m178_) + m186_) + m192_) + m200_) + m208_ ≤ bc ∧ (((((((((((((0 + m109_) + m121_) + m128_) + m135_) + m141_) + m147_) + m157_) + m167_) + m173_) + m179_) + m187_) + m193_) + m201_) + m209_ ≤ bs) ∧ (wm_X9_expectSign m208_ m209_ (qs_I S199_ 1404 a160_ x203_) a0 (59 : Int32) (fun r206_ S207_ => r206_ = none ∧ (wb_X9_readProcess_115 bc bs ((((((((((((((0 + m108_) + m120_) + m127_) + m134_) + m140_) + m146_) + m156_) + m166_) + m172_) + m178_) + m186_) + m192_) + m200_) + m208_) ((((((((((((((0 + m109_) + m121_) + m128_) + m135_) + m141_) + m147_) + m157_) + m167_) + m173_) + m179_) + m187_) + m193_) + m201_) + m209_) S207_ a0 r1 r130_ Q E)) E))))) E))))))) E)))) E))))) E)))) E)))) E)))))) E))))))) E)))) E)))) E))))))))) E)))))))) E))
set_option maxHeartbeats 4000000 in
set_option maxRecDepth 100000 in
theorem cm_X9_readProcess {l : Launch} {D : va_G} {cy : Nat → ClassId} {lo : Nat} {bc bs : Nat} {S : q_S} {a0 : Nat} {r1 : Option Nat} {Q : Option Value → q_S → Prop} {E : String → q_S → Prop} (hst : l.stackTraces = false) (h : wm_X9_readProcess bc bs S a0 r1 Q E) : q_MetX l D cy lo yX9_readProcess cX9_readProcess 3 none 9 163 bc bs [.ref a0, va_rf r1] S Q E := by
  refine q_bodyX (by decide) (by first | exact Nat.le_of_ble_eq_true rfl | simp [lg_sl, q_cat, q_catI, q_catJ, q_catR]) ?_
  intro p e s m below meth c ls X hex Y hl
  have hx := X.1
  have hb := X.2.1
  have hl : lv_has ls 3 [(0, .ref a0), (1, va_rf r1)] := by first | exact hl | simpa [lv_args, q_cat, q_catI, q_catJ, q_catR] using hl
  generalize hargs : ([.ref a0, va_rf r1] : List Value).toArray = args at X ⊢
  have hu : 0 ≤ bc ∧ 0 ≤ bs := ⟨Nat.zero_le _, Nat.zero_le _⟩
  unfold wm_X9_readProcess at h
  refine lv_aload_n hx hb dX9_readProcess_0 rfl (lv_at hl 0 rfl) ?_
  obtain ⟨k105_, h⟩ := h
  obtain ⟨m108_, m109_, w110_, h⟩ := h
  refine q_callVX X hex Y hl (cm_X9_advance hst h) mt_X9_advance mi_X9_advance ml_X9_78 (ci := 9) rfl k105_ (by decide) rfl rfl (by first | exact Nat.le_of_ble_eq_true rfl | simp [q_cat, q_catI, q_catJ, q_catR]) ⟨Nat.le_of_ble_eq_true rfl, Nat.le_of_ble_eq_true rfl⟩ w110_ w110_ dX9_readProcess_1 (fun r106_ S107_ H locs hp Y => ?_)
  obtain ⟨rfl, h⟩ := hp
  replace hu := w110_
  refine W.eq (g2 := F0 m 4 ls []) rfl ?_
  refine lv_aload_n hx hb dX9_readProcess_4 rfl (lv_at hl 0 rfl) ?_
  refine q_aload_n hx hb dX9_readProcess_5 rfl (lv_at hl 1 rfl) ?_
  refine q_aload_n hx hb dX9_readProcess_6 rfl (lv_at hl 1 rfl) ?_
  refine lv_iconst (v := 5) hx hb dX9_readProcess_7 (by decide) ?_
  obtain ⟨a111_, e112_, h⟩ := h
  refine q_nn [.int (5 : Int32)] e112_ ?_
  obtain ⟨k113_, h⟩ := h
  refine q_callV X Y hl (cm_X5_isFull h) mt_X5_isFull mi_X5_isFull ml_X9_225 (ci := 5) rfl k113_ (by decide) rfl rfl (by first | exact Nat.le_of_ble_eq_true rfl | simp [q_cat, q_catI, q_catJ, q_catR]) ⟨Nat.le_of_ble_eq_true rfl, Nat.le_of_ble_eq_true rfl⟩ hu dX9_readProcess_8 (fun r114_ S115_ H locs hp Y => ?_)
  obtain ⟨x116_, rfl, h⟩ := hp
  refine W.eq (g2 := F0 m 11 ls [.int x116_, va_rf r1, .ref a0]) rfl ?_
  obtain ⟨k117_, h⟩ := h
  obtain ⟨m120_, m121_, w122_, h⟩ := h
  refine q_callVX X hex Y hl (cm_X9_checkNewName hst h) mt_X9_checkNewName mi_X9_checkNewName ml_X9_228 (ci := 9) rfl k117_ (by decide) rfl rfl (by first | exact Nat.le_of_ble_eq_true rfl | simp [q_cat, q_catI, q_catJ, q_catR]) ⟨Nat.le_of_ble_eq_true rfl, Nat.le_of_ble_eq_true rfl⟩ w122_ w122_ dX9_readProcess_11 (fun r118_ S119_ H locs hp Y => ?_)
  obtain ⟨rfl, h⟩ := hp
  replace hu := w122_
  refine W.eq (g2 := F0 m 14 ls []) rfl ?_
  refine q_aload_n hx hb dX9_readProcess_14 rfl (lv_at hl 1 rfl) ?_
  refine lv_aload_n hx hb dX9_readProcess_15 rfl (lv_at hl 0 rfl) ?_
  obtain ⟨k123_, h⟩ := h
  refine q_getJ X Y kX9 10 rfl fl_X9_137 k123_ dX9_readProcess_16 ?_
  refine q_nn [.long (q_J S119_ 1810 a0)] e112_ ?_
  obtain ⟨k124_, h⟩ := h
  obtain ⟨m127_, m128_, w129_, h⟩ := h
  refine q_callV X Y hl (cm_X5_addProcess h) mt_X5_addProcess mi_X5_addProcess ml_X9_236 (ci := 5) rfl k124_ (by decide) rfl rfl (by first | exact Nat.le_of_ble_eq_true rfl | simp [q_cat, q_catI, q_catJ, q_catR]) ⟨Nat.le_of_ble_eq_true rfl, Nat.le_of_ble_eq_true rfl⟩ w129_ dX9_readProcess_19 (fun r125_ S126_ H locs hp Y => ?_)
  obtain ⟨r130_, rfl, h⟩ := hp
  replace hu := w129_
  refine W.eq (g2 := F0 m 22 ls [va_rf r130_]) rfl ?_
  refine q_astore_n (i := 2) (lv' := [(2, va_rf r130_), (0, .ref a0), (1, va_rf r1)]) hx hb dX9_readProcess_22 rfl hl (by decide) (by first | rfl | simp [q_cat, q_catI, q_catJ, q_catR]) (fun ls hl => ?_)
  refine lv_aload_n hx hb dX9_readProcess_23 rfl (lv_at hl 1 rfl) ?_
  obtain ⟨k131_, h⟩ := h
  obtain ⟨m134_, m135_, w136_, h⟩ := h
  refine q_callVX X hex Y hl (cm_X9_advance hst h) mt_X9_advance mi_X9_advance ml_X9_78 (ci := 9) rfl k131_ (by decide) rfl rfl (by first | exact Nat.le_of_ble_eq_true rfl | simp [q_cat, q_catI, q_catJ, q_catR]) ⟨Nat.le_of_ble_eq_true rfl, Nat.le_of_ble_eq_true rfl⟩ w136_ w136_ dX9_readProcess_24 (fun r132_ S133_ H locs hp Y => ?_)
  obtain ⟨rfl, h⟩ := hp
  replace hu := w136_
  refine W.eq (g2 := F0 m 27 ls []) rfl ?_
  refine lv_aload_n hx hb dX9_readProcess_27 rfl (lv_at hl 1 rfl) ?_
  refine lv_bipush (v := 123) hx hb dX9_readProcess_28 (by decide) ?_
  obtain ⟨k137_, h⟩ := h
  obtain ⟨m140_, m141_, w142_, h⟩ := h
  refine q_callVX X hex Y hl (cm_X9_expectSign hst h) mt_X9_expectSign mi_X9_expectSign ml_X9_160 (ci := 9) rfl k137_ (by decide) rfl rfl (by first | exact Nat.le_of_ble_eq_true rfl | simp [q_cat, q_catI, q_catJ, q_catR]) ⟨Nat.le_of_ble_eq_true rfl, Nat.le_of_ble_eq_true rfl⟩ w142_ w142_ dX9_readProcess_30 (fun r138_ S139_ H locs hp Y => ?_)
  obtain ⟨rfl, h⟩ := hp
  replace hu := w142_
  refine W.eq (g2 := F0 m 33 ls []) rfl ?_
  refine lv_aload_n hx hb dX9_readProcess_33 rfl (lv_at hl 1 rfl) ?_
  refine lv_bipush (v := 8) hx hb dX9_readProcess_34 (by decide) ?_
  obtain ⟨k143_, h⟩ := h
  obtain ⟨m146_, m147_, w148_, h⟩ := h
  refine q_callVX X hex Y hl (cm_X9_expect hst h) mt_X9_expect mi_X9_expect ml_X9_145 (ci := 9) rfl k143_ (by decide) rfl rfl (by first | exact Nat.le_of_ble_eq_true rfl | simp [q_cat, q_catI, q_catJ, q_catR]) ⟨Nat.le_of_ble_eq_true rfl, Nat.le_of_ble_eq_true rfl⟩ w148_ w148_ dX9_readProcess_36 (fun r144_ S145_ H locs hp Y => ?_)
  obtain ⟨rfl, h⟩ := hp
  replace hu := w148_
  refine W.eq (g2 := F0 m 39 ls []) rfl ?_
  refine q_aload_n hx hb dX9_readProcess_39 rfl (lv_at hl 0 rfl) ?_
  refine lv_aload_n hx hb dX9_readProcess_40 rfl (lv_at hl 1 rfl) ?_
  refine lv_iconst (v := 0) hx hb dX9_readProcess_41 (by decide) ?_
  refine q_aload_n hx hb dX9_readProcess_42 rfl (lv_at hl 2 rfl) ?_
  refine q_nn [] e112_ ?_
  obtain ⟨k149_, h⟩ := h
  refine q_getP X Y kX5 2 rfl fl_X9_164 k149_ rfl dX9_readProcess_43 ?_
  obtain ⟨a150_, e151_, h⟩ := h
  refine q_nn [] e151_ ?_
  obtain ⟨k152_, h⟩ := h
  refine q_getI X Y kX4 0 rfl fl_X9_183 k152_ dX9_readProcess_46 ?_
  refine lv_iconst (v := 4) hx hb dX9_readProcess_49 (by decide) ?_
  refine lv_isub hx hb dX9_readProcess_50 ?_
  refine lv_iconst (v := 4) hx hb dX9_readProcess_51 (by decide) ?_
  obtain ⟨k153_, h⟩ := h
  obtain ⟨m156_, m157_, w158_, h⟩ := h
  refine q_callVX X hex Y hl (cm_X9_number hst h) mt_X9_number mi_X9_number ml_X9_170 (ci := 9) rfl k153_ (by decide) rfl rfl (by first | exact Nat.le_of_ble_eq_true rfl | simp [q_cat, q_catI, q_catJ, q_catR]) ⟨Nat.le_of_ble_eq_true rfl, Nat.le_of_ble_eq_true rfl⟩ w158_ w158_ dX9_readProcess_52 (fun r154_ S155_ H locs hp Y => ?_)
  obtain ⟨x159_, rfl, h⟩ := hp
  replace hu := w158_
  refine W.eq (g2 := F0 m 55 ls [.int x159_, va_rf r130_]) rfl ?_
  obtain ⟨a160_, e161_, h⟩ := h
  refine q_nn [.int x159_] e161_ ?_
  obtain ⟨k162_, h⟩ := h
  refine q_putI X Y kX7 2 rfl fl_X9_240 k162_ .int rfl ⟨rfl, rfl⟩ rfl dX9_readProcess_55 (fun H locs Y => ?_)
  refine lv_aload_n hx hb dX9_readProcess_58 rfl (lv_at hl 1 rfl) ?_
  refine lv_bipush (v := 59) hx hb dX9_readProcess_59 (by decide) ?_
  obtain ⟨k163_, h⟩ := h
  obtain ⟨m166_, m167_, w168_, h⟩ := h
  refine q_callVX X hex Y hl (cm_X9_expectSign hst h) mt_X9_expectSign mi_X9_expectSign ml_X9_160 (ci := 9) rfl k163_ (by decide) rfl rfl (by first | exact Nat.le_of_ble_eq_true rfl | simp [q_cat, q_catI, q_catJ, q_catR]) ⟨Nat.le_of_ble_eq_true rfl, Nat.le_of_ble_eq_true rfl⟩ w168_ w168_ dX9_readProcess_61 (fun r164_ S165_ H locs hp Y => ?_)
  obtain ⟨rfl, h⟩ := hp
  replace hu := w168_
  refine W.eq (g2 := F0 m 64 ls []) rfl ?_
  refine lv_aload_n hx hb dX9_readProcess_64 rfl (lv_at hl 1 rfl) ?_
  refine lv_bipush (v := 9) hx hb dX9_readProcess_65 (by decide) ?_
  obtain ⟨k169_, h⟩ := h
  obtain ⟨m172_, m173_, w174_, h⟩ := h
  refine q_callVX X hex Y hl (cm_X9_expect hst h) mt_X9_expect mi_X9_expect ml_X9_145 (ci := 9) rfl k169_ (by decide) rfl rfl (by first | exact Nat.le_of_ble_eq_true rfl | simp [q_cat, q_catI, q_catJ, q_catR]) ⟨Nat.le_of_ble_eq_true rfl, Nat.le_of_ble_eq_true rfl⟩ w174_ w174_ dX9_readProcess_67 (fun r170_ S171_ H locs hp Y => ?_)
  obtain ⟨rfl, h⟩ := hp
  replace hu := w174_
  refine W.eq (g2 := F0 m 70 ls []) rfl ?_
  refine q_aload_n hx hb dX9_readProcess_70 rfl (lv_at hl 0 rfl) ?_
  refine lv_aload_n hx hb dX9_readProcess_71 rfl (lv_at hl 1 rfl) ?_
  refine lv_iconst (v := 0) hx hb dX9_readProcess_72 (by decide) ?_
  refine lv_bipush (v := 15) hx hb dX9_readProcess_73 (by decide) ?_
  refine lv_iconst (v := 1) hx hb dX9_readProcess_75 (by decide) ?_
  obtain ⟨k175_, h⟩ := h
  obtain ⟨m178_, m179_, w180_, h⟩ := h
  refine q_callVX X hex Y hl (cm_X9_number hst h) mt_X9_number mi_X9_number ml_X9_170 (ci := 9) rfl k175_ (by decide) rfl rfl (by first | exact Nat.le_of_ble_eq_true rfl | simp [q_cat, q_catI, q_catJ, q_catR]) ⟨Nat.le_of_ble_eq_true rfl, Nat.le_of_ble_eq_true rfl⟩ w180_ w180_ dX9_readProcess_76 (fun r176_ S177_ H locs hp Y => ?_)
  obtain ⟨x181_, rfl, h⟩ := hp
  replace hu := w180_
  refine W.eq (g2 := F0 m 79 ls [.int x181_, va_rf r130_]) rfl ?_
  refine q_nn [.int x181_] e161_ ?_
  obtain ⟨k182_, h⟩ := h
  refine q_putI X Y kX7 3 rfl fl_X9_245 k182_ .int rfl ⟨rfl, rfl⟩ rfl dX9_readProcess_79 (fun H locs Y => ?_)
  refine lv_aload_n hx hb dX9_readProcess_82 rfl (lv_at hl 1 rfl) ?_
  refine lv_bipush (v := 59) hx hb dX9_readProcess_83 (by decide) ?_
  obtain ⟨k183_, h⟩ := h
  obtain ⟨m186_, m187_, w188_, h⟩ := h
  refine q_callVX X hex Y hl (cm_X9_expectSign hst h) mt_X9_expectSign mi_X9_expectSign ml_X9_160 (ci := 9) rfl k183_ (by decide) rfl rfl (by first | exact Nat.le_of_ble_eq_true rfl | simp [q_cat, q_catI, q_catJ, q_catR]) ⟨Nat.le_of_ble_eq_true rfl, Nat.le_of_ble_eq_true rfl⟩ w188_ w188_ dX9_readProcess_85 (fun r184_ S185_ H locs hp Y => ?_)
  obtain ⟨rfl, h⟩ := hp
  replace hu := w188_
  refine W.eq (g2 := F0 m 88 ls []) rfl ?_
  refine lv_aload_n hx hb dX9_readProcess_88 rfl (lv_at hl 1 rfl) ?_
  refine lv_bipush (v := 10) hx hb dX9_readProcess_89 (by decide) ?_
  obtain ⟨k189_, h⟩ := h
  obtain ⟨m192_, m193_, w194_, h⟩ := h
  refine q_callVX X hex Y hl (cm_X9_takes hst h) mt_X9_takes mi_X9_takes ml_X9_248 (ci := 9) rfl k189_ (by decide) rfl rfl (by first | exact Nat.le_of_ble_eq_true rfl | simp [q_cat, q_catI, q_catJ, q_catR]) ⟨Nat.le_of_ble_eq_true rfl, Nat.le_of_ble_eq_true rfl⟩ w194_ w194_ dX9_readProcess_91 (fun r190_ S191_ H locs hp Y => ?_)
  obtain ⟨x195_, rfl, h⟩ := hp
  replace hu := w194_
  refine W.eq (g2 := F0 m 94 ls [.int x195_]) rfl ?_
  refine lv_if_eq (tgt := 115) hx hb dX9_readProcess_94 (by decide) (fun c196_ => ?_) (fun c196_ => ?_)
  · replace h := h.1 c196_
    exact cb_X9_readProcess_115 X hex hst hu Y (lv_sub hl [1, 2, 0] rfl) h
  · replace h := h.2 c196_
    refine q_aload_n hx hb dX9_readProcess_97 rfl (lv_at hl 0 rfl) ?_
    refine lv_aload_n hx hb dX9_readProcess_98 rfl (lv_at hl 1 rfl) ?_
    refine lv_iconst (v := 1) hx hb dX9_readProcess_99 (by decide) ?_
    refine lv_ldc (v := 100000) hx hb X.2.2.2.1 (X.2.2.2.2.1 _ co_X9_251) dX9_readProcess_100 ?_
    refine lv_iconst (v := 1) hx hb dX9_readProcess_102 (by decide) ?_
    obtain ⟨k197_, h⟩ := h
    obtain ⟨m200_, m201_, w202_, h⟩ := h
    refine q_callVX X hex Y hl (cm_X9_number hst h) mt_X9_number mi_X9_number ml_X9_170 (ci := 9) rfl k197_ (by decide) rfl rfl (by first | exact Nat.le_of_ble_eq_true rfl | simp [q_cat, q_catI, q_catJ, q_catR]) ⟨Nat.le_of_ble_eq_true rfl, Nat.le_of_ble_eq_true rfl⟩ w202_ w202_ dX9_readProcess_103 (fun r198_ S199_ H locs hp Y => ?_)
    obtain ⟨x203_, rfl, h⟩ := hp
    replace hu := w202_
    refine W.eq (g2 := F0 m 106 ls [.int x203_, va_rf r130_]) rfl ?_
    refine q_nn [.int x203_] e161_ ?_
    obtain ⟨k204_, h⟩ := h
    refine q_putI X Y kX7 4 rfl fl_X9_252 k204_ .int rfl ⟨rfl, rfl⟩ rfl dX9_readProcess_106 (fun H locs Y => ?_)
    refine lv_aload_n hx hb dX9_readProcess_109 rfl (lv_at hl 1 rfl) ?_
    refine lv_bipush (v := 59) hx hb dX9_readProcess_110 (by decide) ?_
    obtain ⟨k205_, h⟩ := h
    obtain ⟨m208_, m209_, w210_, h⟩ := h
    refine q_callVX X hex Y hl (cm_X9_expectSign hst h) mt_X9_expectSign mi_X9_expectSign ml_X9_160 (ci := 9) rfl k205_ (by decide) rfl rfl (by first | exact Nat.le_of_ble_eq_true rfl | simp [q_cat, q_catI, q_catJ, q_catR]) ⟨Nat.le_of_ble_eq_true rfl, Nat.le_of_ble_eq_true rfl⟩ w210_ w210_ dX9_readProcess_112 (fun r206_ S207_ H locs hp Y => ?_)
    obtain ⟨rfl, h⟩ := hp
    replace hu := w210_
    refine W.eq (g2 := F0 m 115 ls []) rfl ?_
    exact cb_X9_readProcess_115 X hex hst hu Y (lv_sub hl [1, 2, 0] rfl) h
-- X9_readNewThing
theorem ml_X9_232 : Cond.methodLink RX9 232 yX5_addThing ∈ q_G := q_tb (i := 968) (by decide +kernel) (by decide +kernel)
theorem mt_X5_addThing : q_Mt yX5_addThing cX5_addThing 6 (some (.object "PartitionWorks$Thing")) 2 := ⟨q_tb (i := 971) (by decide +kernel) (by decide +kernel), q_tb (i := 20) (by decide +kernel) (by decide +kernel), by decide +kernel, by decide +kernel, by decide +kernel⟩
theorem mi_X5_addThing : Cond.instanceMethod yX5_addThing ∈ q_G ∧ Cond.selects yX5_addThing.cls yX5_addThing yX5_addThing ∈ q_G := ⟨q_tb (i := 969) (by decide +kernel) (by decide +kernel), q_tb (i := 970) (by decide +kernel) (by decide +kernel)⟩
theorem dX9_readNewThing_0 : decode cX9_readNewThing 0 = .ok (.aload_n 0, 1) := by decide +kernel
theorem dX9_readNewThing_1 : decode cX9_readNewThing 1 = .ok (.invokevirtual 78, 3) := by decide +kernel
theorem dX9_readNewThing_4 : decode cX9_readNewThing 4 = .ok (.aload_n 0, 1) := by decide +kernel
theorem dX9_readNewThing_5 : decode cX9_readNewThing 5 = .ok (.aload_n 1, 1) := by decide +kernel
theorem dX9_readNewThing_6 : decode cX9_readNewThing 6 = .ok (.aload_n 1, 1) := by decide +kernel
theorem dX9_readNewThing_7 : decode cX9_readNewThing 7 = .ok (.iload_n 2, 1) := by decide +kernel
theorem dX9_readNewThing_8 : decode cX9_readNewThing 8 = .ok (.invokevirtual 225, 3) := by decide +kernel
theorem dX9_readNewThing_11 : decode cX9_readNewThing 11 = .ok (.invokevirtual 228, 3) := by decide +kernel
theorem dX9_readNewThing_14 : decode cX9_readNewThing 14 = .ok (.aload_n 1, 1) := by decide +kernel
theorem dX9_readNewThing_15 : decode cX9_readNewThing 15 = .ok (.iload_n 2, 1) := by decide +kernel
theorem dX9_readNewThing_16 : decode cX9_readNewThing 16 = .ok (.aload_n 0, 1) := by decide +kernel
theorem dX9_readNewThing_17 : decode cX9_readNewThing 17 = .ok (.getfield 137, 3) := by decide +kernel
theorem dX9_readNewThing_20 : decode cX9_readNewThing 20 = .ok (.invokevirtual 232, 3) := by decide +kernel
theorem dX9_readNewThing_23 : decode cX9_readNewThing 23 = .ok (.astore_n 3, 1) := by decide +kernel
theorem dX9_readNewThing_24 : decode cX9_readNewThing 24 = .ok (.aload_n 0, 1) := by decide +kernel
theorem dX9_readNewThing_25 : decode cX9_readNewThing 25 = .ok (.invokevirtual 78, 3) := by decide +kernel
theorem dX9_readNewThing_28 : decode cX9_readNewThing 28 = .ok (.aload_n 3, 1) := by decide +kernel
theorem dX9_readNewThing_29 : decode cX9_readNewThing 29 = .ok (.areturn, 1) := by decide +kernel
def wm_X9_readNewThing (bc bs : Nat) (S : q_S) (a0 : Nat) (r1 : Option Nat) (x2 : Int32) (Q : Option Value → q_S → Prop) (E : String → q_S → Prop) : Prop := q_K S a0 = 10 ∧ (∃ m4_ m5_ : Nat, (0 + m4_ ≤ bc ∧ 0 + m5_ ≤ bs) ∧ (wm_X9_advance m4_ m5_ S a0 (fun r2_ S3_ => r2_ = none ∧ (∃ a7_ : Nat, r1 = some a7_ ∧ (q_K S3_ a7_ = 6 ∧ (wm_X5_isFull S3_ a7_ x2 (fun r10_ S11_ => ∃ x12_ : Int32, r10_ = some (.int x12_) ∧ (q_K S11_ a0 = 10 ∧ (∃ m16_ m17_ : Nat, ((0 + m4_) + m16_ ≤ bc ∧ (0 + m5_) + m17_ ≤ bs) ∧ (wm_X9_checkNewName m16_ m17_ S11_ a0 r1 x12_ (fun r14_ S15_ => r14_ = none ∧ (q_K S15_ a0 = 10 ∧ (q_K S15_ a7_ = 6 ∧ (∃ m23_ m24_ : Nat, (((0 + m4_) + m16_) + m23_ ≤ bc ∧ ((0 + m5_) + m17_) + m24_ ≤ bs) ∧ (wm_X5_addThing m23_ m24_ S15_ a7_ x2 (q_J S15_ 1810 a0) (fun r21_ S22_ => ∃ r26_ : Option Nat, r21_ = some (va_rf r26_) ∧ (q_K S22_ a0 = 10 ∧ (∃ m30_ m31_ : Nat, ((((0 + m4_) + m16_) + m23_) + m30_ ≤ bc ∧ (((0 + m5_) + m17_) + m24_) + m31_ ≤ bs) ∧ (wm_X9_advance m30_ m31_ S22_ a0 (fun r28_ S29_ => r28_ = none ∧ (Q (some (va_rf r26_)) S29_)) E))))))))) E)))))))) E))
set_option maxHeartbeats 4000000 in
set_option maxRecDepth 100000 in
theorem cm_X9_readNewThing {l : Launch} {D : va_G} {cy : Nat → ClassId} {lo : Nat} {bc bs : Nat} {S : q_S} {a0 : Nat} {r1 : Option Nat} {x2 : Int32} {Q : Option Value → q_S → Prop} {E : String → q_S → Prop} (hst : l.stackTraces = false) (h : wm_X9_readNewThing bc bs S a0 r1 x2 Q E) : q_MetX l D cy lo yX9_readNewThing cX9_readNewThing 4 (some (.object "PartitionWorks$Thing")) 8 140 bc bs [.ref a0, va_rf r1, .int x2] S Q E := by
  refine q_bodyX (by decide) (by first | exact Nat.le_of_ble_eq_true rfl | simp [lg_sl, q_cat, q_catI, q_catJ, q_catR]) ?_
  intro p e s m below meth c ls X hex Y hl
  have hx := X.1
  have hb := X.2.1
  have hl : lv_has ls 4 [(0, .ref a0), (1, va_rf r1), (2, .int x2)] := by first | exact hl | simpa [lv_args, q_cat, q_catI, q_catJ, q_catR] using hl
  generalize hargs : ([.ref a0, va_rf r1, .int x2] : List Value).toArray = args at X ⊢
  have hu : 0 ≤ bc ∧ 0 ≤ bs := ⟨Nat.zero_le _, Nat.zero_le _⟩
  unfold wm_X9_readNewThing at h
  refine lv_aload_n hx hb dX9_readNewThing_0 rfl (lv_at hl 0 rfl) ?_
  obtain ⟨k1_, h⟩ := h
  obtain ⟨m4_, m5_, w6_, h⟩ := h
  refine q_callVX X hex Y hl (cm_X9_advance hst h) mt_X9_advance mi_X9_advance ml_X9_78 (ci := 9) rfl k1_ (by decide) rfl rfl (by first | exact Nat.le_of_ble_eq_true rfl | simp [q_cat, q_catI, q_catJ, q_catR]) ⟨Nat.le_of_ble_eq_true rfl, Nat.le_of_ble_eq_true rfl⟩ w6_ w6_ dX9_readNewThing_1 (fun r2_ S3_ H locs hp Y => ?_)
  obtain ⟨rfl, h⟩ := hp
  replace hu := w6_
  refine W.eq (g2 := F0 m 4 ls []) rfl ?_
  refine lv_aload_n hx hb dX9_readNewThing_4 rfl (lv_at hl 0 rfl) ?_
  refine q_aload_n hx hb dX9_readNewThing_5 rfl (lv_at hl 1 rfl) ?_
  refine q_aload_n hx hb dX9_readNewThing_6 rfl (lv_at hl 1 rfl) ?_
  refine lv_iload_n hx hb dX9_readNewThing_7 rfl (lv_at hl 2 rfl) ?_
  obtain ⟨a7_, e8_, h⟩ := h
  refine q_nn [.int x2] e8_ ?_
  obtain ⟨k9_, h⟩ := h
  refine q_callV X Y hl (cm_X5_isFull h) mt_X5_isFull mi_X5_isFull ml_X9_225 (ci := 5) rfl k9_ (by decide) rfl rfl (by first | exact Nat.le_of_ble_eq_true rfl | simp [q_cat, q_catI, q_catJ, q_catR]) ⟨Nat.le_of_ble_eq_true rfl, Nat.le_of_ble_eq_true rfl⟩ hu dX9_readNewThing_8 (fun r10_ S11_ H locs hp Y => ?_)
  obtain ⟨x12_, rfl, h⟩ := hp
  refine W.eq (g2 := F0 m 11 ls [.int x12_, va_rf r1, .ref a0]) rfl ?_
  obtain ⟨k13_, h⟩ := h
  obtain ⟨m16_, m17_, w18_, h⟩ := h
  refine q_callVX X hex Y hl (cm_X9_checkNewName hst h) mt_X9_checkNewName mi_X9_checkNewName ml_X9_228 (ci := 9) rfl k13_ (by decide) rfl rfl (by first | exact Nat.le_of_ble_eq_true rfl | simp [q_cat, q_catI, q_catJ, q_catR]) ⟨Nat.le_of_ble_eq_true rfl, Nat.le_of_ble_eq_true rfl⟩ w18_ w18_ dX9_readNewThing_11 (fun r14_ S15_ H locs hp Y => ?_)
  obtain ⟨rfl, h⟩ := hp
  replace hu := w18_
  refine W.eq (g2 := F0 m 14 ls []) rfl ?_
  refine q_aload_n hx hb dX9_readNewThing_14 rfl (lv_at hl 1 rfl) ?_
  refine lv_iload_n hx hb dX9_readNewThing_15 rfl (lv_at hl 2 rfl) ?_
  refine lv_aload_n hx hb dX9_readNewThing_16 rfl (lv_at hl 0 rfl) ?_
  obtain ⟨k19_, h⟩ := h
  refine q_getJ X Y kX9 10 rfl fl_X9_137 k19_ dX9_readNewThing_17 ?_
  refine q_nn [.long (q_J S15_ 1810 a0), .int x2] e8_ ?_
  obtain ⟨k20_, h⟩ := h
  obtain ⟨m23_, m24_, w25_, h⟩ := h
  refine q_callV X Y hl (cm_X5_addThing h) mt_X5_addThing mi_X5_addThing ml_X9_232 (ci := 5) rfl k20_ (by decide) rfl rfl (by first | exact Nat.le_of_ble_eq_true rfl | simp [q_cat, q_catI, q_catJ, q_catR]) ⟨Nat.le_of_ble_eq_true rfl, Nat.le_of_ble_eq_true rfl⟩ w25_ dX9_readNewThing_20 (fun r21_ S22_ H locs hp Y => ?_)
  obtain ⟨r26_, rfl, h⟩ := hp
  replace hu := w25_
  refine W.eq (g2 := F0 m 23 ls [va_rf r26_]) rfl ?_
  refine q_astore_n (i := 3) (lv' := [(3, va_rf r26_), (0, .ref a0), (1, va_rf r1), (2, .int x2)]) hx hb dX9_readNewThing_23 rfl hl (by decide) (by first | rfl | simp [q_cat, q_catI, q_catJ, q_catR]) (fun ls hl => ?_)
  refine lv_aload_n hx hb dX9_readNewThing_24 rfl (lv_at hl 1 rfl) ?_
  obtain ⟨k27_, h⟩ := h
  obtain ⟨m30_, m31_, w32_, h⟩ := h
  refine q_callVX X hex Y hl (cm_X9_advance hst h) mt_X9_advance mi_X9_advance ml_X9_78 (ci := 9) rfl k27_ (by decide) rfl rfl (by first | exact Nat.le_of_ble_eq_true rfl | simp [q_cat, q_catI, q_catJ, q_catR]) ⟨Nat.le_of_ble_eq_true rfl, Nat.le_of_ble_eq_true rfl⟩ w32_ w32_ dX9_readNewThing_25 (fun r28_ S29_ H locs hp Y => ?_)
  obtain ⟨rfl, h⟩ := hp
  replace hu := w32_
  refine W.eq (g2 := F0 m 28 ls []) rfl ?_
  refine q_aload_n hx hb dX9_readNewThing_28 rfl (lv_at hl 0 rfl) ?_
  exact vx_ret <| q_aret X Y (Or.inl ⟨_, rfl⟩) (va_rf_or _) hu.1 hu.2 h dX9_readNewThing_29
-- X9_readSemaphore
theorem ml_X9_205 : Cond.methodLink RX9 205 yX9_readNewThing ∈ q_G := q_tb (i := 964) (by decide +kernel) (by decide +kernel)
theorem mt_X9_readNewThing : q_Mt yX9_readNewThing cX9_readNewThing 4 (some (.object "PartitionWorks$Thing")) 2 := ⟨q_tb (i := 967) (by decide +kernel) (by decide +kernel), q_tb (i := 2) (by decide +kernel) (by decide +kernel), by decide +kernel, by decide +kernel, by decide +kernel⟩
theorem mi_X9_readNewThing : Cond.instanceMethod yX9_readNewThing ∈ q_G ∧ Cond.selects yX9_readNewThing.cls yX9_readNewThing yX9_readNewThing ∈ q_G := ⟨q_tb (i := 966) (by decide +kernel) (by decide +kernel), q_tp (i := 21) (q := (yX9_readNewThing, 14)) (by decide +kernel) (by decide +kernel)⟩
theorem fl_X9_268 : Cond.fieldLink RX9 268 "PartitionWorks$Thing" "first" "I" ∈ q_G := q_tb (i := 1005) (by decide +kernel) (by decide +kernel)
theorem fl_X9_273 : Cond.fieldLink RX9 273 "PartitionWorks$Thing" "count" "I" ∈ q_G := q_tb (i := 1003) (by decide +kernel) (by decide +kernel)
theorem mx_X9_276 : Cond.methodLink RX9 276 Lib.Math.max.name ∈ q_G := q_tb (i := 1053) (by decide +kernel) (by decide +kernel)
theorem fl_X9_282 : Cond.fieldLink RX9 282 "PartitionWorks$Thing" "most" "I" ∈ q_G := q_tb (i := 1008) (by decide +kernel) (by decide +kernel)
theorem fl_X9_285 : Cond.fieldLink RX9 285 "PartitionWorks$Thing" "fifo" "Z" ∈ q_G := q_tb (i := 1011) (by decide +kernel) (by decide +kernel)
theorem dX9_readSemaphore_0 : decode cX9_readSemaphore 0 = .ok (.aload_n 0, 1) := by decide +kernel
theorem dX9_readSemaphore_1 : decode cX9_readSemaphore 1 = .ok (.aload_n 1, 1) := by decide +kernel
theorem dX9_readSemaphore_2 : decode cX9_readSemaphore 2 = .ok (.iconst 0, 1) := by decide +kernel
theorem dX9_readSemaphore_3 : decode cX9_readSemaphore 3 = .ok (.invokevirtual 205, 3) := by decide +kernel
theorem dX9_readSemaphore_6 : decode cX9_readSemaphore 6 = .ok (.astore_n 2, 1) := by decide +kernel
theorem dX9_readSemaphore_7 : decode cX9_readSemaphore 7 = .ok (.aload_n 2, 1) := by decide +kernel
theorem dX9_readSemaphore_8 : decode cX9_readSemaphore 8 = .ok (.aload_n 0, 1) := by decide +kernel
theorem dX9_readSemaphore_9 : decode cX9_readSemaphore 9 = .ok (.iconst 0, 1) := by decide +kernel
theorem dX9_readSemaphore_10 : decode cX9_readSemaphore 10 = .ok (.bipush 100, 2) := by decide +kernel
theorem dX9_readSemaphore_12 : decode cX9_readSemaphore 12 = .ok (.iconst 1, 1) := by decide +kernel
theorem dX9_readSemaphore_13 : decode cX9_readSemaphore 13 = .ok (.invokevirtual 170, 3) := by decide +kernel
theorem dX9_readSemaphore_16 : decode cX9_readSemaphore 16 = .ok (.putfield 268, 3) := by decide +kernel
theorem dX9_readSemaphore_19 : decode cX9_readSemaphore 19 = .ok (.aload_n 2, 1) := by decide +kernel
theorem dX9_readSemaphore_20 : decode cX9_readSemaphore 20 = .ok (.aload_n 2, 1) := by decide +kernel
theorem dX9_readSemaphore_21 : decode cX9_readSemaphore 21 = .ok (.getfield 268, 3) := by decide +kernel
theorem dX9_readSemaphore_24 : decode cX9_readSemaphore 24 = .ok (.putfield 273, 3) := by decide +kernel
theorem dX9_readSemaphore_27 : decode cX9_readSemaphore 27 = .ok (.aload_n 0, 1) := by decide +kernel
theorem dX9_readSemaphore_28 : decode cX9_readSemaphore 28 = .ok (.bipush 58, 2) := by decide +kernel
theorem dX9_readSemaphore_30 : decode cX9_readSemaphore 30 = .ok (.invokevirtual 160, 3) := by decide +kernel
theorem dX9_readSemaphore_33 : decode cX9_readSemaphore 33 = .ok (.aload_n 2, 1) := by decide +kernel
theorem dX9_readSemaphore_34 : decode cX9_readSemaphore 34 = .ok (.aload_n 0, 1) := by decide +kernel
theorem dX9_readSemaphore_35 : decode cX9_readSemaphore 35 = .ok (.iconst 1, 1) := by decide +kernel
theorem dX9_readSemaphore_36 : decode cX9_readSemaphore 36 = .ok (.aload_n 2, 1) := by decide +kernel
theorem dX9_readSemaphore_37 : decode cX9_readSemaphore 37 = .ok (.getfield 268, 3) := by decide +kernel
theorem dX9_readSemaphore_40 : decode cX9_readSemaphore 40 = .ok (.invokestatic 276, 3) := by decide +kernel
theorem dX9_readSemaphore_43 : decode cX9_readSemaphore 43 = .ok (.bipush 100, 2) := by decide +kernel
theorem dX9_readSemaphore_45 : decode cX9_readSemaphore 45 = .ok (.iconst 1, 1) := by decide +kernel
theorem dX9_readSemaphore_46 : decode cX9_readSemaphore 46 = .ok (.invokevirtual 170, 3) := by decide +kernel
theorem dX9_readSemaphore_49 : decode cX9_readSemaphore 49 = .ok (.putfield 282, 3) := by decide +kernel
theorem dX9_readSemaphore_52 : decode cX9_readSemaphore 52 = .ok (.aload_n 2, 1) := by decide +kernel
theorem dX9_readSemaphore_53 : decode cX9_readSemaphore 53 = .ok (.aload_n 0, 1) := by decide +kernel
theorem dX9_readSemaphore_54 : decode cX9_readSemaphore 54 = .ok (.bipush 18, 2) := by decide +kernel
theorem dX9_readSemaphore_56 : decode cX9_readSemaphore 56 = .ok (.invokevirtual 248, 3) := by decide +kernel
theorem dX9_readSemaphore_59 : decode cX9_readSemaphore 59 = .ok (.putfield 285, 3) := by decide +kernel
theorem dX9_readSemaphore_62 : decode cX9_readSemaphore 62 = .ok (.aload_n 0, 1) := by decide +kernel
theorem dX9_readSemaphore_63 : decode cX9_readSemaphore 63 = .ok (.bipush 59, 2) := by decide +kernel
theorem dX9_readSemaphore_65 : decode cX9_readSemaphore 65 = .ok (.invokevirtual 160, 3) := by decide +kernel
theorem dX9_readSemaphore_68 : decode cX9_readSemaphore 68 = .ok (.return_, 1) := by decide +kernel
def wm_X9_readSemaphore (bc bs : Nat) (S : q_S) (a0 : Nat) (r1 : Option Nat) (Q : Option Value → q_S → Prop) (E : String → q_S → Prop) : Prop := q_K S a0 = 10 ∧ (∃ m4_ m5_ : Nat, (0 + m4_ ≤ bc ∧ 0 + m5_ ≤ bs) ∧ (wm_X9_readNewThing m4_ m5_ S a0 r1 (0 : Int32) (fun r2_ S3_ => ∃ r7_ : Option Nat, r2_ = some (va_rf r7_) ∧ (q_K S3_ a0 = 10 ∧ (∃ m11_ m12_ : Nat, ((0 + m4_) + m11_ ≤ bc ∧ (0 + m5_) + m12_ ≤ bs) ∧ (wm_X9_number m11_ m12_ S3_ a0 (0 : Int32) (100 : Int32) (1 : Int32) (fun r9_ S10_ => ∃ x14_ : Int32, r9_ = some (.int x14_) ∧ (∃ a15_ : Nat, r7_ = some a15_ ∧ (q_K S10_ a15_ = 11 ∧ (∀ S18_ : q_S, S18_ = (qs_I (qs_I S10_ 2002 a15_ x14_) 2001 a15_ (q_I (qs_I S10_ 2002 a15_ x14_) 2002 a15_)) → (q_K S18_ a0 = 10 ∧ (∃ m22_ m23_ : Nat, (((0 + m4_) + m11_) + m22_ ≤ bc ∧ ((0 + m5_) + m12_) + m23_ ≤ bs) ∧ (wm_X9_expectSign m22_ m23_ S18_ a0 (58 : Int32) (fun r20_ S21_ => r20_ = none ∧ (q_K S21_ a15_ = 11 ∧ (q_K S21_ a0 = 10 ∧ (∃ m29_ m30_ : Nat, ((((0 + m4_) + m11_) + m22_) + m29_ ≤ bc ∧ (((0 + m5_) + m12_) + m23_) + m30_ ≤ bs) ∧ (wm_X9_number m29_ m30_ S21_ a0 (if (1 : Int32) < (q_I S21_ 2002 a15_) then (q_I S21_ 2002 a15_) else (1 : Int32)) (100 : Int32) (1 : Int32) (fun r27_ S28_ => ∃ x32_ : Int32, r27_ = some (.int x32_) ∧ (q_K S28_ a15_ = 11 ∧ (q_K (qs_I S28_ 2003 a15_ x32_) a0 = 10 ∧ (∃ m37_ m38_ : Nat, (((((0 + m4_) + m11_) + m22_) + m29_) + m37_ ≤ bc ∧ ((((0 + m5_) + m12_) + m23_) + m30_) + m38_ ≤ bs) ∧ (wm_X9_takes m37_ m38_ (qs_I S28_ 2003 a15_ x32_) a0 (18 : Int32) (fun r35_ S36_ => ∃ x40_ : Int32, r35_ = some (.int x40_) ∧ (q_K S36_ a15_ = 11 ∧ ((narrow .boolean (.int x40_) = .int x40_ ∧ fits .boolean (.int x40_) = true) ∧ (q_K (qs_I S36_ 2004 a15_ x40_) a0 = 10 ∧ (∃ m46_ m47_ : Nat, ((((((0 + m4_) + m11_) + m22_) + m29_) + m37_) + m46_ ≤ bc ∧ (((((0 + m5_) + m12_) + m23_) + m30_) + m38_) + m47_ ≤ bs) ∧ (wm_X9_expectSign m46_ m47_ (qs_I S36_ 2004 a15_ x40_) a0 (59 : Int32) (fun r44_ S45_ => r44_ = none ∧ (Q none S45_)) E)))))) E))))) E))))) E))))))) E)))) E))
set_option maxHeartbeats 4000000 in
set_option maxRecDepth 100000 in
theorem cm_X9_readSemaphore {l : Launch} {D : va_G} {cy : Nat → ClassId} {lo : Nat} {bc bs : Nat} {S : q_S} {a0 : Nat} {r1 : Option Nat} {Q : Option Value → q_S → Prop} {E : String → q_S → Prop} (hst : l.stackTraces = false) (h : wm_X9_readSemaphore bc bs S a0 r1 Q E) : q_MetX l D cy lo yX9_readSemaphore cX9_readSemaphore 3 none 9 163 bc bs [.ref a0, va_rf r1] S Q E := by
  refine q_bodyX (by decide) (by first | exact Nat.le_of_ble_eq_true rfl | simp [lg_sl, q_cat, q_catI, q_catJ, q_catR]) ?_
  intro p e s m below meth c ls X hex Y hl
  have hx := X.1
  have hb := X.2.1
  have hl : lv_has ls 3 [(0, .ref a0), (1, va_rf r1)] := by first | exact hl | simpa [lv_args, q_cat, q_catI, q_catJ, q_catR] using hl
  generalize hargs : ([.ref a0, va_rf r1] : List Value).toArray = args at X ⊢
  have hu : 0 ≤ bc ∧ 0 ≤ bs := ⟨Nat.zero_le _, Nat.zero_le _⟩
  unfold wm_X9_readSemaphore at h
  refine lv_aload_n hx hb dX9_readSemaphore_0 rfl (lv_at hl 0 rfl) ?_
  refine q_aload_n hx hb dX9_readSemaphore_1 rfl (lv_at hl 1 rfl) ?_
  refine lv_iconst (v := 0) hx hb dX9_readSemaphore_2 (by decide) ?_
  obtain ⟨k1_, h⟩ := h
  obtain ⟨m4_, m5_, w6_, h⟩ := h
  refine q_callVX X hex Y hl (cm_X9_readNewThing hst h) mt_X9_readNewThing mi_X9_readNewThing ml_X9_205 (ci := 9) rfl k1_ (by decide) rfl rfl (by first | exact Nat.le_of_ble_eq_true rfl | simp [q_cat, q_catI, q_catJ, q_catR]) ⟨Nat.le_of_ble_eq_true rfl, Nat.le_of_ble_eq_true rfl⟩ w6_ w6_ dX9_readSemaphore_3 (fun r2_ S3_ H locs hp Y => ?_)
  obtain ⟨r7_, rfl, h⟩ := hp
  replace hu := w6_
  refine W.eq (g2 := F0 m 6 ls [va_rf r7_]) rfl ?_
  refine q_astore_n (i := 2) (lv' := [(2, va_rf r7_), (0, .ref a0), (1, va_rf r1)]) hx hb dX9_readSemaphore_6 rfl hl (by decide) (by first | rfl | simp [q_cat, q_catI, q_catJ, q_catR]) (fun ls hl => ?_)
  refine q_aload_n hx hb dX9_readSemaphore_7 rfl (lv_at hl 0 rfl) ?_
  refine lv_aload_n hx hb dX9_readSemaphore_8 rfl (lv_at hl 1 rfl) ?_
  refine lv_iconst (v := 0) hx hb dX9_readSemaphore_9 (by decide) ?_
  refine lv_bipush (v := 100) hx hb dX9_readSemaphore_10 (by decide) ?_
  refine lv_iconst (v := 1) hx hb dX9_readSemaphore_12 (by decide) ?_
  obtain ⟨k8_, h⟩ := h
  obtain ⟨m11_, m12_, w13_, h⟩ := h
  refine q_callVX X hex Y hl (cm_X9_number hst h) mt_X9_number mi_X9_number ml_X9_170 (ci := 9) rfl k8_ (by decide) rfl rfl (by first | exact Nat.le_of_ble_eq_true rfl | simp [q_cat, q_catI, q_catJ, q_catR]) ⟨Nat.le_of_ble_eq_true rfl, Nat.le_of_ble_eq_true rfl⟩ w13_ w13_ dX9_readSemaphore_13 (fun r9_ S10_ H locs hp Y => ?_)
  obtain ⟨x14_, rfl, h⟩ := hp
  replace hu := w13_
  refine W.eq (g2 := F0 m 16 ls [.int x14_, va_rf r7_]) rfl ?_
  obtain ⟨a15_, e16_, h⟩ := h
  refine q_nn [.int x14_] e16_ ?_
  obtain ⟨k17_, h⟩ := h
  refine q_putI X Y kX10 2 rfl fl_X9_268 k17_ .int rfl ⟨rfl, rfl⟩ rfl dX9_readSemaphore_16 (fun H locs Y => ?_)
  refine q_aload_n hx hb dX9_readSemaphore_19 rfl (lv_at hl 0 rfl) ?_
  refine q_aload_n hx hb dX9_readSemaphore_20 rfl (lv_at hl 0 rfl) ?_
  refine q_nn [] e16_ ?_
  refine q_getI X Y kX10 2 rfl fl_X9_268 k17_ dX9_readSemaphore_21 ?_
  refine q_nn [.int (q_I (qs_I S10_ 2002 a15_ x14_) 2002 a15_)] e16_ ?_
  refine q_putI X Y kX10 1 rfl fl_X9_273 k17_ .int rfl ⟨rfl, rfl⟩ rfl dX9_readSemaphore_24 (fun H locs Y => ?_)
  obtain ⟨S18_, gS18_⟩ : ∃ z : q_S, z = (qs_I (qs_I S10_ 2002 a15_ x14_) 2001 a15_ (q_I (qs_I S10_ 2002 a15_ x14_) 2002 a15_)) := ⟨_, rfl⟩
  replace Y : q_Y D cy lo s S18_ H locs := by rw [gS18_]; exact Y
  replace h := h S18_ gS18_
  replace k17_ : q_K S18_ a15_ = 11 := by rw [gS18_]; exact k17_
  refine lv_aload_n hx hb dX9_readSemaphore_27 rfl (lv_at hl 1 rfl) ?_
  refine lv_bipush (v := 58) hx hb dX9_readSemaphore_28 (by decide) ?_
  obtain ⟨k19_, h⟩ := h
  obtain ⟨m22_, m23_, w24_, h⟩ := h
  refine q_callVX X hex Y hl (cm_X9_expectSign hst h) mt_X9_expectSign mi_X9_expectSign ml_X9_160 (ci := 9) rfl k19_ (by decide) rfl rfl (by first | exact Nat.le_of_ble_eq_true rfl | simp [q_cat, q_catI, q_catJ, q_catR]) ⟨Nat.le_of_ble_eq_true rfl, Nat.le_of_ble_eq_true rfl⟩ w24_ w24_ dX9_readSemaphore_30 (fun r20_ S21_ H locs hp Y => ?_)
  obtain ⟨rfl, h⟩ := hp
  replace hu := w24_
  refine W.eq (g2 := F0 m 33 ls []) rfl ?_
  refine q_aload_n hx hb dX9_readSemaphore_33 rfl (lv_at hl 0 rfl) ?_
  refine lv_aload_n hx hb dX9_readSemaphore_34 rfl (lv_at hl 1 rfl) ?_
  refine lv_iconst (v := 1) hx hb dX9_readSemaphore_35 (by decide) ?_
  refine q_aload_n hx hb dX9_readSemaphore_36 rfl (lv_at hl 0 rfl) ?_
  refine q_nn [] e16_ ?_
  obtain ⟨k25_, h⟩ := h
  refine q_getI X Y kX10 2 rfl fl_X9_268 k25_ dX9_readSemaphore_37 ?_
  refine va_mmax hx hb (X.2.2.1.trans hl.1.symm) X.2.2.2.1 (X.2.2.2.2.1 _ mx_X9_276) (X.2.2.2.2.1 _ mxs_max) (X.2.2.2.2.1 _ mxi_) (X.2.2.2.2.1 _ mxc_max) (Nat.le_of_ble_eq_true rfl) (by first | exact Nat.le_of_ble_eq_true rfl | simp [q_cat, q_catI, q_catJ, q_catR]) hu.1 hu.2 dX9_readSemaphore_40 ?_
  refine lv_bipush (v := 100) hx hb dX9_readSemaphore_43 (by decide) ?_
  refine lv_iconst (v := 1) hx hb dX9_readSemaphore_45 (by decide) ?_
  obtain ⟨k26_, h⟩ := h
  obtain ⟨m29_, m30_, w31_, h⟩ := h
  refine q_callVX X hex Y hl (cm_X9_number hst h) mt_X9_number mi_X9_number ml_X9_170 (ci := 9) rfl k26_ (by decide) rfl rfl (by first | exact Nat.le_of_ble_eq_true rfl | simp [q_cat, q_catI, q_catJ, q_catR]) ⟨Nat.le_of_ble_eq_true rfl, Nat.le_of_ble_eq_true rfl⟩ w31_ w31_ dX9_readSemaphore_46 (fun r27_ S28_ H locs hp Y => ?_)
  obtain ⟨x32_, rfl, h⟩ := hp
  replace hu := w31_
  refine W.eq (g2 := F0 m 49 ls [.int x32_, va_rf r7_]) rfl ?_
  refine q_nn [.int x32_] e16_ ?_
  obtain ⟨k33_, h⟩ := h
  refine q_putI X Y kX10 3 rfl fl_X9_282 k33_ .int rfl ⟨rfl, rfl⟩ rfl dX9_readSemaphore_49 (fun H locs Y => ?_)
  refine q_aload_n hx hb dX9_readSemaphore_52 rfl (lv_at hl 0 rfl) ?_
  refine lv_aload_n hx hb dX9_readSemaphore_53 rfl (lv_at hl 1 rfl) ?_
  refine lv_bipush (v := 18) hx hb dX9_readSemaphore_54 (by decide) ?_
  obtain ⟨k34_, h⟩ := h
  obtain ⟨m37_, m38_, w39_, h⟩ := h
  refine q_callVX X hex Y hl (cm_X9_takes hst h) mt_X9_takes mi_X9_takes ml_X9_248 (ci := 9) rfl k34_ (by decide) rfl rfl (by first | exact Nat.le_of_ble_eq_true rfl | simp [q_cat, q_catI, q_catJ, q_catR]) ⟨Nat.le_of_ble_eq_true rfl, Nat.le_of_ble_eq_true rfl⟩ w39_ w39_ dX9_readSemaphore_56 (fun r35_ S36_ H locs hp Y => ?_)
  obtain ⟨x40_, rfl, h⟩ := hp
  replace hu := w39_
  refine W.eq (g2 := F0 m 59 ls [.int x40_, va_rf r7_]) rfl ?_
  refine q_nn [.int x40_] e16_ ?_
  obtain ⟨k41_, h⟩ := h
  obtain ⟨v42_, h⟩ := h
  refine q_putI X Y kX10 4 rfl fl_X9_285 k41_ .boolean rfl v42_ rfl dX9_readSemaphore_59 (fun H locs Y => ?_)
  refine lv_aload_n hx hb dX9_readSemaphore_62 rfl (lv_at hl 1 rfl) ?_
  refine lv_bipush (v := 59) hx hb dX9_readSemaphore_63 (by decide) ?_
  obtain ⟨k43_, h⟩ := h
  obtain ⟨m46_, m47_, w48_, h⟩ := h
  refine q_callVX X hex Y hl (cm_X9_expectSign hst h) mt_X9_expectSign mi_X9_expectSign ml_X9_160 (ci := 9) rfl k43_ (by decide) rfl rfl (by first | exact Nat.le_of_ble_eq_true rfl | simp [q_cat, q_catI, q_catJ, q_catR]) ⟨Nat.le_of_ble_eq_true rfl, Nat.le_of_ble_eq_true rfl⟩ w48_ w48_ dX9_readSemaphore_65 (fun r44_ S45_ H locs hp Y => ?_)
  obtain ⟨rfl, h⟩ := hp
  replace hu := w48_
  refine W.eq (g2 := F0 m 68 ls []) rfl ?_
  exact vx_ret <| q_vret X Y hu.1 hu.2 h dX9_readSemaphore_68
-- X9_readBuffer
theorem fl_X9_288 : Cond.fieldLink RX9 288 "PartitionWorks$Thing" "queue" "LPartitionWorks$Queue;" ∈ q_G := q_tb (i := 1027) (by decide +kernel) (by decide +kernel)
theorem ml_X9_292 : Cond.methodLink RX9 292 yX8_setDepth ∈ q_G := q_tb (i := 1058) (by decide +kernel) (by decide +kernel)
theorem dX9_readBuffer_0 : decode cX9_readBuffer 0 = .ok (.aload_n 0, 1) := by decide +kernel
theorem dX9_readBuffer_1 : decode cX9_readBuffer 1 = .ok (.aload_n 1, 1) := by decide +kernel
theorem dX9_readBuffer_2 : decode cX9_readBuffer 2 = .ok (.iconst 2, 1) := by decide +kernel
theorem dX9_readBuffer_3 : decode cX9_readBuffer 3 = .ok (.invokevirtual 205, 3) := by decide +kernel
theorem dX9_readBuffer_6 : decode cX9_readBuffer 6 = .ok (.astore_n 2, 1) := by decide +kernel
theorem dX9_readBuffer_7 : decode cX9_readBuffer 7 = .ok (.aload_n 0, 1) := by decide +kernel
theorem dX9_readBuffer_8 : decode cX9_readBuffer 8 = .ok (.iconst 1, 1) := by decide +kernel
theorem dX9_readBuffer_9 : decode cX9_readBuffer 9 = .ok (.bipush 16, 2) := by decide +kernel
theorem dX9_readBuffer_11 : decode cX9_readBuffer 11 = .ok (.iconst 1, 1) := by decide +kernel
theorem dX9_readBuffer_12 : decode cX9_readBuffer 12 = .ok (.invokevirtual 170, 3) := by decide +kernel
theorem dX9_readBuffer_15 : decode cX9_readBuffer 15 = .ok (.istore_n 3, 1) := by decide +kernel
theorem dX9_readBuffer_16 : decode cX9_readBuffer 16 = .ok (.aload_n 2, 1) := by decide +kernel
theorem dX9_readBuffer_17 : decode cX9_readBuffer 17 = .ok (.getfield 288, 3) := by decide +kernel
theorem dX9_readBuffer_20 : decode cX9_readBuffer 20 = .ok (.ifnull 11, 3) := by decide +kernel
theorem dX9_readBuffer_23 : decode cX9_readBuffer 23 = .ok (.aload_n 2, 1) := by decide +kernel
theorem dX9_readBuffer_24 : decode cX9_readBuffer 24 = .ok (.getfield 288, 3) := by decide +kernel
theorem dX9_readBuffer_27 : decode cX9_readBuffer 27 = .ok (.iload_n 3, 1) := by decide +kernel
theorem dX9_readBuffer_28 : decode cX9_readBuffer 28 = .ok (.invokevirtual 292, 3) := by decide +kernel
theorem dX9_readBuffer_31 : decode cX9_readBuffer 31 = .ok (.aload_n 2, 1) := by decide +kernel
theorem dX9_readBuffer_32 : decode cX9_readBuffer 32 = .ok (.aload_n 0, 1) := by decide +kernel
theorem dX9_readBuffer_33 : decode cX9_readBuffer 33 = .ok (.bipush 18, 2) := by decide +kernel
theorem dX9_readBuffer_35 : decode cX9_readBuffer 35 = .ok (.invokevirtual 248, 3) := by decide +kernel
theorem dX9_readBuffer_38 : decode cX9_readBuffer 38 = .ok (.putfield 285, 3) := by decide +kernel
theorem dX9_readBuffer_41 : decode cX9_readBuffer 41 = .ok (.aload_n 0, 1) := by decide +kernel
theorem dX9_readBuffer_42 : decode cX9_readBuffer 42 = .ok (.bipush 59, 2) := by decide +kernel
theorem dX9_readBuffer_44 : decode cX9_readBuffer 44 = .ok (.invokevirtual 160, 3) := by decide +kernel
theorem dX9_readBuffer_47 : decode cX9_readBuffer 47 = .ok (.return_, 1) := by decide +kernel
def wb_X9_readBuffer_31 (bc bs : Nat)  (u v : Nat) (S : q_S) (a0 : Nat) (r2 : Option Nat) (Q : Option Value → q_S → Prop) (E : String → q_S → Prop) : Prop := q_K S a0 = 10 ∧ (∃ m4_ m5_ : Nat, (u + m4_ ≤ bc ∧ v + m5_ ≤ bs) ∧ (wm_X9_takes m4_ m5_ S a0 (18 : Int32) (fun r2_ S3_ => ∃ x7_ : Int32, r2_ = some (.int x7_) ∧ (∃ a8_ : Nat, r2 = some a8_ ∧ (q_K S3_ a8_ = 11 ∧ ((narrow .boolean (.int x7_) = .int x7_ ∧ fits .boolean (.int x7_) = true) ∧ (q_K (qs_I S3_ 2004 a8_ x7_) a0 = 10 ∧ (∃ m15_ m16_ : Nat, ((u + m4_) + m15_ ≤ bc ∧ (v + m5_) + m16_ ≤ bs) ∧ (wm_X9_expectSign m15_ m16_ (qs_I S3_ 2004 a8_ x7_) a0 (59 : Int32) (fun r13_ S14_ => r13_ = none ∧ (Q none S14_)) E))))))) E))
set_option maxHeartbeats 4000000 in
set_option maxRecDepth 100000 in
theorem cb_X9_readBuffer_31 {p : Program} {l : Launch} {e : Env} {s : State} {m : MethodId} {args : Array Value} {below : List Frame} {meth : Method} {c : Code} {D : va_G} {cy : Nat → ClassId} {lo : Nat} {bc bs : Nat}  {u v : Nat} {S : q_S} {a0 : Nat} {r2 : Option Nat} {Q : Option Value → q_S → Prop} {E : String → q_S → Prop} {H : Heap} {locs : List Loc} {ls : Array Slot} (X : q_X p s m args meth c RX9 cX9_readBuffer 4 none D cy lo) (hex : ∀ x ∈ c.exceptionTable.toList, False) (hst : l.stackTraces = false)  (hu : u ≤ bc ∧ v ≤ bs) (Y : q_Y D cy lo s S H locs) (hl : lv_has ls 4 [(0, .ref a0), (2, va_rf r2)]) (h : wb_X9_readBuffer_31 bc bs u v S a0 r2 Q E) : W p l e ({ frames := 9, cells := bc, slots := bs, locals := 163 } : Room) s m args below meth c H locs u v (vx_MQ below (q_Q D cy lo Q) (q_XE D cy lo E) args s bc bs (fun q => lo ≤ q)) (F0 m 31 ls []) := by
  have hx := X.1
  have hb := X.2.1
  unfold wb_X9_readBuffer_31 at h
  refine q_aload_n hx hb dX9_readBuffer_31 rfl (lv_at hl 1 rfl) ?_
  refine lv_aload_n hx hb dX9_readBuffer_32 rfl (lv_at hl 0 rfl) ?_
  refine lv_bipush (v := 18) hx hb dX9_readBuffer_33 (by decide) ?_
  obtain ⟨k1_, h⟩ := h
  obtain ⟨m4_, m5_, w6_, h⟩ := h
  refine q_callVX X hex Y hl (cm_X9_takes hst h) mt_X9_takes mi_X9_takes ml_X9_248 (ci := 9) rfl k1_ (by decide) rfl rfl (by first | exact Nat.le_of_ble_eq_true rfl | simp [q_cat, q_catI, q_catJ, q_catR]) ⟨Nat.le_of_ble_eq_true rfl, Nat.le_of_ble_eq_true rfl⟩ w6_ w6_ dX9_readBuffer_35 (fun r2_ S3_ H locs hp Y => ?_)
  obtain ⟨x7_, rfl, h⟩ := hp
  replace hu := w6_
  refine W.eq (g2 := F0 m 38 ls [.int x7_, va_rf r2]) rfl ?_
  obtain ⟨a8_, e9_, h⟩ := h
  refine q_nn [.int x7_] e9_ ?_
  obtain ⟨k10_, h⟩ := h
  obtain ⟨v11_, h⟩ := h
  refine q_putI X Y kX10 4 rfl fl_X9_285 k10_ .boolean rfl v11_ rfl dX9_readBuffer_38 (fun H locs Y => ?_)
  refine lv_aload_n hx hb dX9_readBuffer_41 rfl (lv_at hl 0 rfl) ?_
  refine lv_bipush (v := 59) hx hb dX9_readBuffer_42 (by decide) ?_
  obtain ⟨k12_, h⟩ := h
  obtain ⟨m15_, m16_, w17_, h⟩ := h
  refine q_callVX X hex Y hl (cm_X9_expectSign hst h) mt_X9_expectSign mi_X9_expectSign ml_X9_160 (ci := 9) rfl k12_ (by decide) rfl rfl (by first | exact Nat.le_of_ble_eq_true rfl | simp [q_cat, q_catI, q_catJ, q_catR]) ⟨Nat.le_of_ble_eq_true rfl, Nat.le_of_ble_eq_true rfl⟩ w17_ w17_ dX9_readBuffer_44 (fun r13_ S14_ H locs hp Y => ?_)
  obtain ⟨rfl, h⟩ := hp
  replace hu := w17_
  refine W.eq (g2 := F0 m 47 ls []) rfl ?_
  exact vx_ret <| q_vret X Y hu.1 hu.2 h dX9_readBuffer_47
def wm_X9_readBuffer (bc bs : Nat) (S : q_S) (a0 : Nat) (r1 : Option Nat) (Q : Option Value → q_S → Prop) (E : String → q_S → Prop) : Prop := q_K S a0 = 10 ∧ (∃ m21_ m22_ : Nat, (0 + m21_ ≤ bc ∧ 0 + m22_ ≤ bs) ∧ (wm_X9_readNewThing m21_ m22_ S a0 r1 (2 : Int32) (fun r19_ S20_ => ∃ r24_ : Option Nat, r19_ = some (va_rf r24_) ∧ (q_K S20_ a0 = 10 ∧ (∃ m28_ m29_ : Nat, ((0 + m21_) + m28_ ≤ bc ∧ (0 + m22_) + m29_ ≤ bs) ∧ (wm_X9_number m28_ m29_ S20_ a0 (1 : Int32) (16 : Int32) (1 : Int32) (fun r26_ S27_ => ∃ x31_ : Int32, r26_ = some (.int x31_) ∧ (∃ a32_ : Nat, r24_ = some a32_ ∧ (q_K S27_ a32_ = 11 ∧ ((((q_P S27_ 2009 a32_) = none → (wb_X9_readBuffer_31 bc bs ((0 + m21_) + m28_) ((0 + m22_) + m29_) S27_ a0 r24_ Q E)) ∧ (¬ (q_P S27_ 2009 a32_) = none → (∃ a36_ : Nat, (q_P S27_ 2009 a32_) = some a36_ ∧ (q_K S27_ a36_ = 9 ∧ (∃ m41_ m42_ : Nat, (((0 + m21_) + m28_) + m41_ ≤ bc ∧ ((0 + m22_) + m29_) + m42_ ≤ bs) ∧ (wm_X8_setDepth m41_ m42_ S27_ a36_ x31_ (fun r39_ S40_ => r39_ = none ∧ (wb_X9_readBuffer_31 bc bs (((0 + m21_) + m28_) + m41_) (((0 + m22_) + m29_) + m42_) S40_ a0 r24_ Q E)))))))))))) E)))) E))
set_option maxHeartbeats 4000000 in
set_option maxRecDepth 100000 in
theorem cm_X9_readBuffer {l : Launch} {D : va_G} {cy : Nat → ClassId} {lo : Nat} {bc bs : Nat} {S : q_S} {a0 : Nat} {r1 : Option Nat} {Q : Option Value → q_S → Prop} {E : String → q_S → Prop} (hst : l.stackTraces = false) (h : wm_X9_readBuffer bc bs S a0 r1 Q E) : q_MetX l D cy lo yX9_readBuffer cX9_readBuffer 4 none 9 163 bc bs [.ref a0, va_rf r1] S Q E := by
  refine q_bodyX (by decide) (by first | exact Nat.le_of_ble_eq_true rfl | simp [lg_sl, q_cat, q_catI, q_catJ, q_catR]) ?_
  intro p e s m below meth c ls X hex Y hl
  have hx := X.1
  have hb := X.2.1
  have hl : lv_has ls 4 [(0, .ref a0), (1, va_rf r1)] := by first | exact hl | simpa [lv_args, q_cat, q_catI, q_catJ, q_catR] using hl
  generalize hargs : ([.ref a0, va_rf r1] : List Value).toArray = args at X ⊢
  have hu : 0 ≤ bc ∧ 0 ≤ bs := ⟨Nat.zero_le _, Nat.zero_le _⟩
  unfold wm_X9_readBuffer at h
  refine lv_aload_n hx hb dX9_readBuffer_0 rfl (lv_at hl 0 rfl) ?_
  refine q_aload_n hx hb dX9_readBuffer_1 rfl (lv_at hl 1 rfl) ?_
  refine lv_iconst (v := 2) hx hb dX9_readBuffer_2 (by decide) ?_
  obtain ⟨k18_, h⟩ := h
  obtain ⟨m21_, m22_, w23_, h⟩ := h
  refine q_callVX X hex Y hl (cm_X9_readNewThing hst h) mt_X9_readNewThing mi_X9_readNewThing ml_X9_205 (ci := 9) rfl k18_ (by decide) rfl rfl (by first | exact Nat.le_of_ble_eq_true rfl | simp [q_cat, q_catI, q_catJ, q_catR]) ⟨Nat.le_of_ble_eq_true rfl, Nat.le_of_ble_eq_true rfl⟩ w23_ w23_ dX9_readBuffer_3 (fun r19_ S20_ H locs hp Y => ?_)
  obtain ⟨r24_, rfl, h⟩ := hp
  replace hu := w23_
  refine W.eq (g2 := F0 m 6 ls [va_rf r24_]) rfl ?_
  refine q_astore_n (i := 2) (lv' := [(2, va_rf r24_), (0, .ref a0), (1, va_rf r1)]) hx hb dX9_readBuffer_6 rfl hl (by decide) (by first | rfl | simp [q_cat, q_catI, q_catJ, q_catR]) (fun ls hl => ?_)
  refine lv_aload_n hx hb dX9_readBuffer_7 rfl (lv_at hl 1 rfl) ?_
  refine lv_iconst (v := 1) hx hb dX9_readBuffer_8 (by decide) ?_
  refine lv_bipush (v := 16) hx hb dX9_readBuffer_9 (by decide) ?_
  refine lv_iconst (v := 1) hx hb dX9_readBuffer_11 (by decide) ?_
  obtain ⟨k25_, h⟩ := h
  obtain ⟨m28_, m29_, w30_, h⟩ := h
  refine q_callVX X hex Y hl (cm_X9_number hst h) mt_X9_number mi_X9_number ml_X9_170 (ci := 9) rfl k25_ (by decide) rfl rfl (by first | exact Nat.le_of_ble_eq_true rfl | simp [q_cat, q_catI, q_catJ, q_catR]) ⟨Nat.le_of_ble_eq_true rfl, Nat.le_of_ble_eq_true rfl⟩ w30_ w30_ dX9_readBuffer_12 (fun r26_ S27_ H locs hp Y => ?_)
  obtain ⟨x31_, rfl, h⟩ := hp
  replace hu := w30_
  refine W.eq (g2 := F0 m 15 ls [.int x31_]) rfl ?_
  refine lv_istore_n (i := 3) (lv' := [(3, .int x31_), (2, va_rf r24_), (0, .ref a0), (1, va_rf r1)]) hx hb dX9_readBuffer_15 rfl hl (by decide) (by first | rfl | simp [q_cat, q_catI, q_catJ, q_catR]) (fun ls hl => ?_)
  refine q_aload_n hx hb dX9_readBuffer_16 rfl (lv_at hl 1 rfl) ?_
  obtain ⟨a32_, e33_, h⟩ := h
  refine q_nn [] e33_ ?_
  obtain ⟨k34_, h⟩ := h
  refine q_getP X Y kX10 9 rfl fl_X9_288 k34_ rfl dX9_readBuffer_17 ?_
  refine q_ifnull (r := (q_P S27_ 2009 a32_)) (tgt := 31) hx hb dX9_readBuffer_20 (by decide) (fun c35_ => ?_) (fun c35_ => ?_)
  · replace h := h.1 c35_
    exact cb_X9_readBuffer_31 X hex hst hu Y (lv_sub hl [2, 1] rfl) h
  · replace h := h.2 c35_
    refine q_aload_n hx hb dX9_readBuffer_23 rfl (lv_at hl 1 rfl) ?_
    refine q_nn [] e33_ ?_
    refine q_getP X Y kX10 9 rfl fl_X9_288 k34_ rfl dX9_readBuffer_24 ?_
    refine lv_iload_n hx hb dX9_readBuffer_27 rfl (lv_at hl 0 rfl) ?_
    obtain ⟨a36_, e37_, h⟩ := h
    refine q_nn [.int x31_] e37_ ?_
    obtain ⟨k38_, h⟩ := h
    obtain ⟨m41_, m42_, w43_, h⟩ := h
    refine q_callV X Y hl (cm_X8_setDepth h) mt_X8_setDepth mi_X8_setDepth ml_X9_292 (ci := 8) rfl k38_ (by decide) rfl rfl (by first | exact Nat.le_of_ble_eq_true rfl | simp [q_cat, q_catI, q_catJ, q_catR]) ⟨Nat.le_of_ble_eq_true rfl, Nat.le_of_ble_eq_true rfl⟩ w43_ dX9_readBuffer_28 (fun r39_ S40_ H locs hp Y => ?_)
    obtain ⟨rfl, h⟩ := hp
    replace hu := w43_
    refine W.eq (g2 := F0 m 31 ls []) rfl ?_
    exact cb_X9_readBuffer_31 X hex hst hu Y (lv_sub hl [2, 1] rfl) h
-- X9_readIsQueuing
theorem dX9_readIsQueuing_0 : decode cX9_readIsQueuing 0 = .ok (.aload_n 0, 1) := by decide +kernel
theorem dX9_readIsQueuing_1 : decode cX9_readIsQueuing 1 = .ok (.bipush 26, 2) := by decide +kernel
theorem dX9_readIsQueuing_3 : decode cX9_readIsQueuing 3 = .ok (.invokevirtual 81, 3) := by decide +kernel
theorem dX9_readIsQueuing_6 : decode cX9_readIsQueuing 6 = .ok (.istore_n 1, 1) := by decide +kernel
theorem dX9_readIsQueuing_7 : decode cX9_readIsQueuing 7 = .ok (.iload_n 1, 1) := by decide +kernel
theorem dX9_readIsQueuing_8 : decode cX9_readIsQueuing 8 = .ok (.ifCond .ne 21, 3) := by decide +kernel
theorem dX9_readIsQueuing_11 : decode cX9_readIsQueuing 11 = .ok (.aload_n 0, 1) := by decide +kernel
theorem dX9_readIsQueuing_12 : decode cX9_readIsQueuing 12 = .ok (.bipush 25, 2) := by decide +kernel
theorem dX9_readIsQueuing_14 : decode cX9_readIsQueuing 14 = .ok (.invokevirtual 81, 3) := by decide +kernel
theorem dX9_readIsQueuing_17 : decode cX9_readIsQueuing 17 = .ok (.ifCond .ne 12, 3) := by decide +kernel
theorem dX9_readIsQueuing_20 : decode cX9_readIsQueuing 20 = .ok (.aload_n 0, 1) := by decide +kernel
theorem dX9_readIsQueuing_21 : decode cX9_readIsQueuing 21 = .ok (.iconst 1, 1) := by decide +kernel
theorem dX9_readIsQueuing_22 : decode cX9_readIsQueuing 22 = .ok (.aload_n 0, 1) := by decide +kernel
theorem dX9_readIsQueuing_23 : decode cX9_readIsQueuing 23 = .ok (.getfield 113, 3) := by decide +kernel
theorem dX9_readIsQueuing_26 : decode cX9_readIsQueuing 26 = .ok (.invokevirtual 133, 3) := by decide +kernel
theorem dX9_readIsQueuing_29 : decode cX9_readIsQueuing 29 = .ok (.aload_n 0, 1) := by decide +kernel
theorem dX9_readIsQueuing_30 : decode cX9_readIsQueuing 30 = .ok (.invokevirtual 78, 3) := by decide +kernel
theorem dX9_readIsQueuing_33 : decode cX9_readIsQueuing 33 = .ok (.iload_n 1, 1) := by decide +kernel
theorem dX9_readIsQueuing_34 : decode cX9_readIsQueuing 34 = .ok (.ireturn, 1) := by decide +kernel
def wb_X9_readIsQueuing_29 (bc bs : Nat)  (u v : Nat) (S : q_S) (a0 : Nat) (x1 : Int32) (Q : Option Value → q_S → Prop) (E : String → q_S → Prop) : Prop := q_K S a0 = 10 ∧ (∃ m4_ m5_ : Nat, (u + m4_ ≤ bc ∧ v + m5_ ≤ bs) ∧ (wm_X9_advance m4_ m5_ S a0 (fun r2_ S3_ => r2_ = none ∧ ((narrow .boolean (.int x1) = .int x1 ∧ Q (some (.int x1)) S3_))) E))
set_option maxHeartbeats 4000000 in
set_option maxRecDepth 100000 in
theorem cb_X9_readIsQueuing_29 {p : Program} {l : Launch} {e : Env} {s : State} {m : MethodId} {args : Array Value} {below : List Frame} {meth : Method} {c : Code} {D : va_G} {cy : Nat → ClassId} {lo : Nat} {bc bs : Nat}  {u v : Nat} {S : q_S} {a0 : Nat} {x1 : Int32} {Q : Option Value → q_S → Prop} {E : String → q_S → Prop} {H : Heap} {locs : List Loc} {ls : Array Slot} (X : q_X p s m args meth c RX9 cX9_readIsQueuing 2 (some .boolean) D cy lo) (hex : ∀ x ∈ c.exceptionTable.toList, False) (hst : l.stackTraces = false)  (hu : u ≤ bc ∧ v ≤ bs) (Y : q_Y D cy lo s S H locs) (hl : lv_has ls 2 [(0, .ref a0), (1, .int x1)]) (h : wb_X9_readIsQueuing_29 bc bs u v S a0 x1 Q E) : W p l e ({ frames := 8, cells := bc, slots := bs, locals := 139 } : Room) s m args below meth c H locs u v (vx_MQ below (q_Q D cy lo Q) (q_XE D cy lo E) args s bc bs (fun q => lo ≤ q)) (F0 m 29 ls []) := by
  have hx := X.1
  have hb := X.2.1
  unfold wb_X9_readIsQueuing_29 at h
  refine lv_aload_n hx hb dX9_readIsQueuing_29 rfl (lv_at hl 0 rfl) ?_
  obtain ⟨k1_, h⟩ := h
  obtain ⟨m4_, m5_, w6_, h⟩ := h
  refine q_callVX X hex Y hl (cm_X9_advance hst h) mt_X9_advance mi_X9_advance ml_X9_78 (ci := 9) rfl k1_ (by decide) rfl rfl (by first | exact Nat.le_of_ble_eq_true rfl | simp [q_cat, q_catI, q_catJ, q_catR]) ⟨Nat.le_of_ble_eq_true rfl, Nat.le_of_ble_eq_true rfl⟩ w6_ w6_ dX9_readIsQueuing_30 (fun r2_ S3_ H locs hp Y => ?_)
  obtain ⟨rfl, h⟩ := hp
  replace hu := w6_
  refine W.eq (g2 := F0 m 33 ls []) rfl ?_
  refine lv_iload_n hx hb dX9_readIsQueuing_33 rfl (lv_at hl 1 rfl) ?_
  exact vx_ret <| q_iret X Y h.1 hu.1 hu.2 h.2 dX9_readIsQueuing_34
def wm_X9_readIsQueuing (bc bs : Nat) (S : q_S) (a0 : Nat) (Q : Option Value → q_S → Prop) (E : String → q_S → Prop) : Prop := q_K S a0 = 10 ∧ (wm_X9_sees S a0 (26 : Int32) (fun r8_ S9_ => ∃ x10_ : Int32, r8_ = some (.int x10_) ∧ (((¬ x10_ = 0 → (wb_X9_readIsQueuing_29 bc bs 0 0 S9_ a0 x10_ Q E)) ∧ (x10_ = 0 → (q_K S9_ a0 = 10 ∧ (wm_X9_sees S9_ a0 (25 : Int32) (fun r13_ S14_ => ∃ x15_ : Int32, r13_ = some (.int x15_) ∧ (((¬ x15_ = 0 → (wb_X9_readIsQueuing_29 bc bs 0 0 S14_ a0 x10_ Q E)) ∧ (x15_ = 0 → (q_K S14_ a0 = 10 ∧ (∃ m20_ m21_ : Nat, (0 + m20_ ≤ bc ∧ 0 + m21_ ≤ bs) ∧ (wm_X9_fail m20_ m21_ S14_ a0 (1 : Int32) (q_I S14_ 1811 a0) (fun r18_ S19_ => r18_ = none ∧ (wb_X9_readIsQueuing_29 bc bs (0 + m20_) (0 + m21_) S19_ a0 x10_ Q E)) E))))))))))))))
set_option maxHeartbeats 4000000 in
set_option maxRecDepth 100000 in
theorem cm_X9_readIsQueuing {l : Launch} {D : va_G} {cy : Nat → ClassId} {lo : Nat} {bc bs : Nat} {S : q_S} {a0 : Nat} {Q : Option Value → q_S → Prop} {E : String → q_S → Prop} (hst : l.stackTraces = false) (h : wm_X9_readIsQueuing bc bs S a0 Q E) : q_MetX l D cy lo yX9_readIsQueuing cX9_readIsQueuing 2 (some .boolean) 8 139 bc bs [.ref a0] S Q E := by
  refine q_bodyX (by decide) (by first | exact Nat.le_of_ble_eq_true rfl | simp [lg_sl, q_cat, q_catI, q_catJ, q_catR]) ?_
  intro p e s m below meth c ls X hex Y hl
  have hx := X.1
  have hb := X.2.1
  have hl : lv_has ls 2 [(0, .ref a0)] := by first | exact hl | simpa [lv_args, q_cat, q_catI, q_catJ, q_catR] using hl
  generalize hargs : ([.ref a0] : List Value).toArray = args at X ⊢
  have hu : 0 ≤ bc ∧ 0 ≤ bs := ⟨Nat.zero_le _, Nat.zero_le _⟩
  unfold wm_X9_readIsQueuing at h
  refine lv_aload_n hx hb dX9_readIsQueuing_0 rfl (lv_at hl 0 rfl) ?_
  refine lv_bipush (v := 26) hx hb dX9_readIsQueuing_1 (by decide) ?_
  obtain ⟨k7_, h⟩ := h
  refine q_callV X Y hl (cm_X9_sees h) mt_X9_sees mi_X9_sees ml_X9_81 (ci := 9) rfl k7_ (by decide) rfl rfl (by first | exact Nat.le_of_ble_eq_true rfl | simp [q_cat, q_catI, q_catJ, q_catR]) ⟨Nat.le_of_ble_eq_true rfl, Nat.le_of_ble_eq_true rfl⟩ hu dX9_readIsQueuing_3 (fun r8_ S9_ H locs hp Y => ?_)
  obtain ⟨x10_, rfl, h⟩ := hp
  refine W.eq (g2 := F0 m 6 ls [.int x10_]) rfl ?_
  refine lv_istore_n (i := 1) (lv' := [(1, .int x10_), (0, .ref a0)]) hx hb dX9_readIsQueuing_6 rfl hl (by decide) (by first | rfl | simp [q_cat, q_catI, q_catJ, q_catR]) (fun ls hl => ?_)
  refine lv_iload_n hx hb dX9_readIsQueuing_7 rfl (lv_at hl 0 rfl) ?_
  refine lv_if_ne (tgt := 29) hx hb dX9_readIsQueuing_8 (by decide) (fun c11_ => ?_) (fun c11_ => ?_)
  · replace h := h.1 c11_
    exact cb_X9_readIsQueuing_29 X hex hst hu Y (lv_sub hl [1, 0] rfl) h
  · replace h := h.2 c11_
    refine lv_aload_n hx hb dX9_readIsQueuing_11 rfl (lv_at hl 1 rfl) ?_
    refine lv_bipush (v := 25) hx hb dX9_readIsQueuing_12 (by decide) ?_
    obtain ⟨k12_, h⟩ := h
    refine q_callV X Y hl (cm_X9_sees h) mt_X9_sees mi_X9_sees ml_X9_81 (ci := 9) rfl k12_ (by decide) rfl rfl (by first | exact Nat.le_of_ble_eq_true rfl | simp [q_cat, q_catI, q_catJ, q_catR]) ⟨Nat.le_of_ble_eq_true rfl, Nat.le_of_ble_eq_true rfl⟩ hu dX9_readIsQueuing_14 (fun r13_ S14_ H locs hp Y => ?_)
    obtain ⟨x15_, rfl, h⟩ := hp
    refine W.eq (g2 := F0 m 17 ls [.int x15_]) rfl ?_
    refine lv_if_ne (tgt := 29) hx hb dX9_readIsQueuing_17 (by decide) (fun c16_ => ?_) (fun c16_ => ?_)
    · replace h := h.1 c16_
      exact cb_X9_readIsQueuing_29 X hex hst hu Y (lv_sub hl [1, 0] rfl) h
    · replace h := h.2 c16_
      refine lv_aload_n hx hb dX9_readIsQueuing_20 rfl (lv_at hl 1 rfl) ?_
      refine lv_iconst (v := 1) hx hb dX9_readIsQueuing_21 (by decide) ?_
      refine lv_aload_n hx hb dX9_readIsQueuing_22 rfl (lv_at hl 1 rfl) ?_
      obtain ⟨k17_, h⟩ := h
      refine q_getI X Y kX9 11 rfl fl_X9_113 k17_ dX9_readIsQueuing_23 ?_
      obtain ⟨m20_, m21_, w22_, h⟩ := h
      refine q_callVX X hex Y hl (cm_X9_fail hst h) mt_X9_fail mi_X9_fail ml_X9_133 (ci := 9) rfl k17_ (by decide) rfl rfl (by first | exact Nat.le_of_ble_eq_true rfl | simp [q_cat, q_catI, q_catJ, q_catR]) ⟨Nat.le_of_ble_eq_true rfl, Nat.le_of_ble_eq_true rfl⟩ w22_ w22_ dX9_readIsQueuing_26 (fun r18_ S19_ H locs hp Y => ?_)
      obtain ⟨rfl, h⟩ := hp
      replace hu := w22_
      refine W.eq (g2 := F0 m 29 ls []) rfl ?_
      exact cb_X9_readIsQueuing_29 X hex hst hu Y (lv_sub hl [1, 0] rfl) h
-- X9_readPort
theorem ml_X9_300 : Cond.methodLink RX9 300 yX9_readIsQueuing ∈ q_G := q_tb (i := 1071) (by decide +kernel) (by decide +kernel)
theorem mt_X9_readIsQueuing : q_Mt yX9_readIsQueuing cX9_readIsQueuing 2 (some .boolean) 0 := ⟨q_tb (i := 1074) (by decide +kernel) (by decide +kernel), q_tb (i := 2) (by decide +kernel) (by decide +kernel), by decide +kernel, by decide +kernel, by decide +kernel⟩
theorem mi_X9_readIsQueuing : Cond.instanceMethod yX9_readIsQueuing ∈ q_G ∧ Cond.selects yX9_readIsQueuing.cls yX9_readIsQueuing yX9_readIsQueuing ∈ q_G := ⟨q_tb (i := 1073) (by decide +kernel) (by decide +kernel), q_tp (i := 24) (q := (yX9_readIsQueuing, 14)) (by decide +kernel) (by decide +kernel)⟩
theorem fl_X9_304 : Cond.fieldLink RX9 304 "PartitionWorks$Thing" "queuing" "Z" ∈ q_G := q_tb (i := 1019) (by decide +kernel) (by decide +kernel)
theorem fl_X9_297 : Cond.fieldLink RX9 297 "PartitionWorks$Thing" "out" "Z" ∈ q_G := q_tb (i := 1016) (by decide +kernel) (by decide +kernel)
theorem dX9_readPort_0 : decode cX9_readPort 0 = .ok (.aload_n 0, 1) := by decide +kernel
theorem dX9_readPort_1 : decode cX9_readPort 1 = .ok (.aload_n 1, 1) := by decide +kernel
theorem dX9_readPort_2 : decode cX9_readPort 2 = .ok (.iconst 4, 1) := by decide +kernel
theorem dX9_readPort_3 : decode cX9_readPort 3 = .ok (.invokevirtual 205, 3) := by decide +kernel
theorem dX9_readPort_6 : decode cX9_readPort 6 = .ok (.astore_n 2, 1) := by decide +kernel
theorem dX9_readPort_7 : decode cX9_readPort 7 = .ok (.aload_n 2, 1) := by decide +kernel
theorem dX9_readPort_8 : decode cX9_readPort 8 = .ok (.aload_n 0, 1) := by decide +kernel
theorem dX9_readPort_9 : decode cX9_readPort 9 = .ok (.bipush 22, 2) := by decide +kernel
theorem dX9_readPort_11 : decode cX9_readPort 11 = .ok (.invokevirtual 81, 3) := by decide +kernel
theorem dX9_readPort_14 : decode cX9_readPort 14 = .ok (.putfield 297, 3) := by decide +kernel
theorem dX9_readPort_17 : decode cX9_readPort 17 = .ok (.aload_n 2, 1) := by decide +kernel
theorem dX9_readPort_18 : decode cX9_readPort 18 = .ok (.getfield 297, 3) := by decide +kernel
theorem dX9_readPort_21 : decode cX9_readPort 21 = .ok (.ifCond .ne 21, 3) := by decide +kernel
theorem dX9_readPort_24 : decode cX9_readPort 24 = .ok (.aload_n 0, 1) := by decide +kernel
theorem dX9_readPort_25 : decode cX9_readPort 25 = .ok (.bipush 21, 2) := by decide +kernel
theorem dX9_readPort_27 : decode cX9_readPort 27 = .ok (.invokevirtual 81, 3) := by decide +kernel
theorem dX9_readPort_30 : decode cX9_readPort 30 = .ok (.ifCond .ne 12, 3) := by decide +kernel
theorem dX9_readPort_33 : decode cX9_readPort 33 = .ok (.aload_n 0, 1) := by decide +kernel
theorem dX9_readPort_34 : decode cX9_readPort 34 = .ok (.iconst 1, 1) := by decide +kernel
theorem dX9_readPort_35 : decode cX9_readPort 35 = .ok (.aload_n 0, 1) := by decide +kernel
theorem dX9_readPort_36 : decode cX9_readPort 36 = .ok (.getfield 113, 3) := by decide +kernel
theorem dX9_readPort_39 : decode cX9_readPort 39 = .ok (.invokevirtual 133, 3) := by decide +kernel
theorem dX9_readPort_42 : decode cX9_readPort 42 = .ok (.aload_n 0, 1) := by decide +kernel
theorem dX9_readPort_43 : decode cX9_readPort 43 = .ok (.invokevirtual 78, 3) := by decide +kernel
theorem dX9_readPort_46 : decode cX9_readPort 46 = .ok (.aload_n 2, 1) := by decide +kernel
theorem dX9_readPort_47 : decode cX9_readPort 47 = .ok (.aload_n 0, 1) := by decide +kernel
theorem dX9_readPort_48 : decode cX9_readPort 48 = .ok (.invokevirtual 300, 3) := by decide +kernel
theorem dX9_readPort_51 : decode cX9_readPort 51 = .ok (.putfield 304, 3) := by decide +kernel
theorem dX9_readPort_54 : decode cX9_readPort 54 = .ok (.aload_n 0, 1) := by decide +kernel
theorem dX9_readPort_55 : decode cX9_readPort 55 = .ok (.bipush 59, 2) := by decide +kernel
theorem dX9_readPort_57 : decode cX9_readPort 57 = .ok (.invokevirtual 160, 3) := by decide +kernel
theorem dX9_readPort_60 : decode cX9_readPort 60 = .ok (.return_, 1) := by decide +kernel
def wb_X9_readPort_42 (bc bs : Nat)  (u v : Nat) (S : q_S) (a0 : Nat) (r2 : Option Nat) (Q : Option Value → q_S → Prop) (E : String → q_S → Prop) : Prop := q_K S a0 = 10 ∧ (∃ m4_ m5_ : Nat, (u + m4_ ≤ bc ∧ v + m5_ ≤ bs) ∧ (wm_X9_advance m4_ m5_ S a0 (fun r2_ S3_ => r2_ = none ∧ (q_K S3_ a0 = 10 ∧ (∃ m10_ m11_ : Nat, ((u + m4_) + m10_ ≤ bc ∧ (v + m5_) + m11_ ≤ bs) ∧ (wm_X9_readIsQueuing m10_ m11_ S3_ a0 (fun r8_ S9_ => ∃ x13_ : Int32, r8_ = some (.int x13_) ∧ (∃ a14_ : Nat, r2 = some a14_ ∧ (q_K S9_ a14_ = 11 ∧ ((narrow .boolean (.int x13_) = .int x13_ ∧ fits .boolean (.int x13_) = true) ∧ (q_K (qs_I S9_ 2007 a14_ x13_) a0 = 10 ∧ (∃ m21_ m22_ : Nat, (((u + m4_) + m10_) + m21_ ≤ bc ∧ ((v + m5_) + m11_) + m22_ ≤ bs) ∧ (wm_X9_expectSign m21_ m22_ (qs_I S9_ 2007 a14_ x13_) a0 (59 : Int32) (fun r19_ S20_ => r19_ = none ∧ (Q none S20_)) E))))))) E)))) E))
set_option maxHeartbeats 4000000 in
set_option maxRecDepth 100000 in
theorem cb_X9_readPort_42 {p : Program} {l : Launch} {e : Env} {s : State} {m : MethodId} {args : Array Value} {below : List Frame} {meth : Method} {c : Code} {D : va_G} {cy : Nat → ClassId} {lo : Nat} {bc bs : Nat}  {u v : Nat} {S : q_S} {a0 : Nat} {r2 : Option Nat} {Q : Option Value → q_S → Prop} {E : String → q_S → Prop} {H : Heap} {locs : List Loc} {ls : Array Slot} (X : q_X p s m args meth c RX9 cX9_readPort 3 none D cy lo) (hex : ∀ x ∈ c.exceptionTable.toList, False) (hst : l.stackTraces = false)  (hu : u ≤ bc ∧ v ≤ bs) (Y : q_Y D cy lo s S H locs) (hl : lv_has ls 3 [(0, .ref a0), (2, va_rf r2)]) (h : wb_X9_readPort_42 bc bs u v S a0 r2 Q E) : W p l e ({ frames := 9, cells := bc, slots := bs, locals := 163 } : Room) s m args below meth c H locs u v (vx_MQ below (q_Q D cy lo Q) (q_XE D cy lo E) args s bc bs (fun q => lo ≤ q)) (F0 m 42 ls []) := by
  have hx := X.1
  have hb := X.2.1
  unfold wb_X9_readPort_42 at h
  refine lv_aload_n hx hb dX9_readPort_42 rfl (lv_at hl 0 rfl) ?_
  obtain ⟨k1_, h⟩ := h
  obtain ⟨m4_, m5_, w6_, h⟩ := h
  refine q_callVX X hex Y hl (cm_X9_advance hst h) mt_X9_advance mi_X9_advance ml_X9_78 (ci := 9) rfl k1_ (by decide) rfl rfl (by first | exact Nat.le_of_ble_eq_true rfl | simp [q_cat, q_catI, q_catJ, q_catR]) ⟨Nat.le_of_ble_eq_true rfl, Nat.le_of_ble_eq_true rfl⟩ w6_ w6_ dX9_readPort_43 (fun r2_ S3_ H locs hp Y => ?_)
  obtain ⟨rfl, h⟩ := hp
  replace hu := w6_
  refine W.eq (g2 := F0 m 46 ls []) rfl ?_
  refine q_aload_n hx hb dX9_readPort_46 rfl (lv_at hl 1 rfl) ?_
  refine lv_aload_n hx hb dX9_readPort_47 rfl (lv_at hl 0 rfl) ?_
  obtain ⟨k7_, h⟩ := h
  obtain ⟨m10_, m11_, w12_, h⟩ := h
  refine q_callVX X hex Y hl (cm_X9_readIsQueuing hst h) mt_X9_readIsQueuing mi_X9_readIsQueuing ml_X9_300 (ci := 9) rfl k7_ (by decide) rfl rfl (by first | exact Nat.le_of_ble_eq_true rfl | simp [q_cat, q_catI, q_catJ, q_catR]) ⟨Nat.le_of_ble_eq_true rfl, Nat.le_of_ble_eq_true rfl⟩ w12_ w12_ dX9_readPort_48 (fun r8_ S9_ H locs hp Y => ?_)
  obtain ⟨x13_, rfl, h⟩ := hp
  replace hu := w12_
  refine W.eq (g2 := F0 m 51 ls [.int x13_, va_rf r2]) rfl ?_
  obtain ⟨a14_, e15_, h⟩ := h
  refine q_nn [.int x13_] e15_ ?_
  obtain ⟨k16_, h⟩ := h
  obtain ⟨v17_, h⟩ := h
  refine q_putI X Y kX10 7 rfl fl_X9_304 k16_ .boolean rfl v17_ rfl dX9_readPort_51 (fun H locs Y => ?_)
  refine lv_aload_n hx hb dX9_readPort_54 rfl (lv_at hl 0 rfl) ?_
  refine lv_bipush (v := 59) hx hb dX9_readPort_55 (by decide) ?_
  obtain ⟨k18_, h⟩ := h
  obtain ⟨m21_, m22_, w23_, h⟩ := h
  refine q_callVX X hex Y hl (cm_X9_expectSign hst h) mt_X9_expectSign mi_X9_expectSign ml_X9_160 (ci := 9) rfl k18_ (by decide) rfl rfl (by first | exact Nat.le_of_ble_eq_true rfl | simp [q_cat, q_catI, q_catJ, q_catR]) ⟨Nat.le_of_ble_eq_true rfl, Nat.le_of_ble_eq_true rfl⟩ w23_ w23_ dX9_readPort_57 (fun r19_ S20_ H locs hp Y => ?_)
  obtain ⟨rfl, h⟩ := hp
  replace hu := w23_
  refine W.eq (g2 := F0 m 60 ls []) rfl ?_
  exact vx_ret <| q_vret X Y hu.1 hu.2 h dX9_readPort_60
def wm_X9_readPort (bc bs : Nat) (S : q_S) (a0 : Nat) (r1 : Option Nat) (Q : Option Value → q_S → Prop) (E : String → q_S → Prop) : Prop := q_K S a0 = 10 ∧ (∃ m27_ m28_ : Nat, (0 + m27_ ≤ bc ∧ 0 + m28_ ≤ bs) ∧ (wm_X9_readNewThing m27_ m28_ S a0 r1 (4 : Int32) (fun r25_ S26_ => ∃ r30_ : Option Nat, r25_ = some (va_rf r30_) ∧ (q_K S26_ a0 = 10 ∧ (wm_X9_sees S26_ a0 (22 : Int32) (fun r32_ S33_ => ∃ x34_ : Int32, r32_ = some (.int x34_) ∧ (∃ a35_ : Nat, r30_ = some a35_ ∧ (q_K S33_ a35_ = 11 ∧ ((narrow .boolean (.int x34_) = .int x34_ ∧ fits .boolean (.int x34_) = true) ∧ (((¬ (q_I (qs_I S33_ 2006 a35_ x34_) 2006 a35_) = 0 → (wb_X9_readPort_42 bc bs (0 + m27_) (0 + m28_) (qs_I S33_ 2006 a35_ x34_) a0 r30_ Q E)) ∧ ((q_I (qs_I S33_ 2006 a35_ x34_) 2006 a35_) = 0 → (q_K (qs_I S33_ 2006 a35_ x34_) a0 = 10 ∧ (wm_X9_sees (qs_I S33_ 2006 a35_ x34_) a0 (21 : Int32) (fun r41_ S42_ => ∃ x43_ : Int32, r41_ = some (.int x43_) ∧ (((¬ x43_ = 0 → (wb_X9_readPort_42 bc bs (0 + m27_) (0 + m28_) S42_ a0 r30_ Q E)) ∧ (x43_ = 0 → (q_K S42_ a0 = 10 ∧ (∃ m48_ m49_ : Nat, ((0 + m27_) + m48_ ≤ bc ∧ (0 + m28_) + m49_ ≤ bs) ∧ (wm_X9_fail m48_ m49_ S42_ a0 (1 : Int32) (q_I S42_ 1811 a0) (fun r46_ S47_ => r46_ = none ∧ (wb_X9_readPort_42 bc bs ((0 + m27_) + m48_) ((0 + m28_) + m49_) S47_ a0 r30_ Q E)) E))))))))))))))))))) E))
set_option maxHeartbeats 4000000 in
set_option maxRecDepth 100000 in
theorem cm_X9_readPort {l : Launch} {D : va_G} {cy : Nat → ClassId} {lo : Nat} {bc bs : Nat} {S : q_S} {a0 : Nat} {r1 : Option Nat} {Q : Option Value → q_S → Prop} {E : String → q_S → Prop} (hst : l.stackTraces = false) (h : wm_X9_readPort bc bs S a0 r1 Q E) : q_MetX l D cy lo yX9_readPort cX9_readPort 3 none 9 163 bc bs [.ref a0, va_rf r1] S Q E := by
  refine q_bodyX (by decide) (by first | exact Nat.le_of_ble_eq_true rfl | simp [lg_sl, q_cat, q_catI, q_catJ, q_catR]) ?_
  intro p e s m below meth c ls X hex Y hl
  have hx := X.1
  have hb := X.2.1
  have hl : lv_has ls 3 [(0, .ref a0), (1, va_rf r1)] := by first | exact hl | simpa [lv_args, q_cat, q_catI, q_catJ, q_catR] using hl
  generalize hargs : ([.ref a0, va_rf r1] : List Value).toArray = args at X ⊢
  have hu : 0 ≤ bc ∧ 0 ≤ bs := ⟨Nat.zero_le _, Nat.zero_le _⟩
  unfold wm_X9_readPort at h
  refine lv_aload_n hx hb dX9_readPort_0 rfl (lv_at hl 0 rfl) ?_
  refine q_aload_n hx hb dX9_readPort_1 rfl (lv_at hl 1 rfl) ?_
  refine lv_iconst (v := 4) hx hb dX9_readPort_2 (by decide) ?_
  obtain ⟨k24_, h⟩ := h
  obtain ⟨m27_, m28_, w29_, h⟩ := h
  refine q_callVX X hex Y hl (cm_X9_readNewThing hst h) mt_X9_readNewThing mi_X9_readNewThing ml_X9_205 (ci := 9) rfl k24_ (by decide) rfl rfl (by first | exact Nat.le_of_ble_eq_true rfl | simp [q_cat, q_catI, q_catJ, q_catR]) ⟨Nat.le_of_ble_eq_true rfl, Nat.le_of_ble_eq_true rfl⟩ w29_ w29_ dX9_readPort_3 (fun r25_ S26_ H locs hp Y => ?_)
  obtain ⟨r30_, rfl, h⟩ := hp
  replace hu := w29_
  refine W.eq (g2 := F0 m 6 ls [va_rf r30_]) rfl ?_
  refine q_astore_n (i := 2) (lv' := [(2, va_rf r30_), (0, .ref a0), (1, va_rf r1)]) hx hb dX9_readPort_6 rfl hl (by decide) (by first | rfl | simp [q_cat, q_catI, q_catJ, q_catR]) (fun ls hl => ?_)
  refine q_aload_n hx hb dX9_readPort_7 rfl (lv_at hl 0 rfl) ?_
  refine lv_aload_n hx hb dX9_readPort_8 rfl (lv_at hl 1 rfl) ?_
  refine lv_bipush (v := 22) hx hb dX9_readPort_9 (by decide) ?_
  obtain ⟨k31_, h⟩ := h
  refine q_callV X Y hl (cm_X9_sees h) mt_X9_sees mi_X9_sees ml_X9_81 (ci := 9) rfl k31_ (by decide) rfl rfl (by first | exact Nat.le_of_ble_eq_true rfl | simp [q_cat, q_catI, q_catJ, q_catR]) ⟨Nat.le_of_ble_eq_true rfl, Nat.le_of_ble_eq_true rfl⟩ hu dX9_readPort_11 (fun r32_ S33_ H locs hp Y => ?_)
  obtain ⟨x34_, rfl, h⟩ := hp
  refine W.eq (g2 := F0 m 14 ls [.int x34_, va_rf r30_]) rfl ?_
  obtain ⟨a35_, e36_, h⟩ := h
  refine q_nn [.int x34_] e36_ ?_
  obtain ⟨k37_, h⟩ := h
  obtain ⟨v38_, h⟩ := h
  refine q_putI X Y kX10 6 rfl fl_X9_297 k37_ .boolean rfl v38_ rfl dX9_readPort_14 (fun H locs Y => ?_)
  refine q_aload_n hx hb dX9_readPort_17 rfl (lv_at hl 0 rfl) ?_
  refine q_nn [] e36_ ?_
  refine q_getI X Y kX10 6 rfl fl_X9_297 k37_ dX9_readPort_18 ?_
  refine lv_if_ne (tgt := 42) hx hb dX9_readPort_21 (by decide) (fun c39_ => ?_) (fun c39_ => ?_)
  · replace h := h.1 c39_
    exact cb_X9_readPort_42 X hex hst hu Y (lv_sub hl [1, 0] rfl) h
  · replace h := h.2 c39_
    refine lv_aload_n hx hb dX9_readPort_24 rfl (lv_at hl 1 rfl) ?_
    refine lv_bipush (v := 21) hx hb dX9_readPort_25 (by decide) ?_
    obtain ⟨k40_, h⟩ := h
    refine q_callV X Y hl (cm_X9_sees h) mt_X9_sees mi_X9_sees ml_X9_81 (ci := 9) rfl k40_ (by decide) rfl rfl (by first | exact Nat.le_of_ble_eq_true rfl | simp [q_cat, q_catI, q_catJ, q_catR]) ⟨Nat.le_of_ble_eq_true rfl, Nat.le_of_ble_eq_true rfl⟩ hu dX9_readPort_27 (fun r41_ S42_ H locs hp Y => ?_)
    obtain ⟨x43_, rfl, h⟩ := hp
    refine W.eq (g2 := F0 m 30 ls [.int x43_]) rfl ?_
    refine lv_if_ne (tgt := 42) hx hb dX9_readPort_30 (by decide) (fun c44_ => ?_) (fun c44_ => ?_)
    · replace h := h.1 c44_
      exact cb_X9_readPort_42 X hex hst hu Y (lv_sub hl [1, 0] rfl) h
    · replace h := h.2 c44_
      refine lv_aload_n hx hb dX9_readPort_33 rfl (lv_at hl 1 rfl) ?_
      refine lv_iconst (v := 1) hx hb dX9_readPort_34 (by decide) ?_
      refine lv_aload_n hx hb dX9_readPort_35 rfl (lv_at hl 1 rfl) ?_
      obtain ⟨k45_, h⟩ := h
      refine q_getI X Y kX9 11 rfl fl_X9_113 k45_ dX9_readPort_36 ?_
      obtain ⟨m48_, m49_, w50_, h⟩ := h
      refine q_callVX X hex Y hl (cm_X9_fail hst h) mt_X9_fail mi_X9_fail ml_X9_133 (ci := 9) rfl k45_ (by decide) rfl rfl (by first | exact Nat.le_of_ble_eq_true rfl | simp [q_cat, q_catI, q_catJ, q_catR]) ⟨Nat.le_of_ble_eq_true rfl, Nat.le_of_ble_eq_true rfl⟩ w50_ w50_ dX9_readPort_39 (fun r46_ S47_ H locs hp Y => ?_)
      obtain ⟨rfl, h⟩ := hp
      replace hu := w50_
      refine W.eq (g2 := F0 m 42 ls []) rfl ?_
      exact cb_X9_readPort_42 X hex hst hu Y (lv_sub hl [1, 0] rfl) h
-- X9_readAction
theorem fl_X9_196 : Cond.fieldLink RX9 196 "PartitionWorks$Reader" "handlePlace" "I" ∈ q_G := q_tb (i := 215) (by decide +kernel) (by decide +kernel)
theorem dX9_readAction_0 : decode cX9_readAction 0 = .ok (.aload_n 0, 1) := by decide +kernel
theorem dX9_readAction_1 : decode cX9_readAction 1 = .ok (.getfield 119, 3) := by decide +kernel
theorem dX9_readAction_4 : decode cX9_readAction 4 = .ok (.iconst 2, 1) := by decide +kernel
theorem dX9_readAction_5 : decode cX9_readAction 5 = .ok (.if_icmp .ne 21, 3) := by decide +kernel
theorem dX9_readAction_8 : decode cX9_readAction 8 = .ok (.aload_n 0, 1) := by decide +kernel
theorem dX9_readAction_9 : decode cX9_readAction 9 = .ok (.getfield 116, 3) := by decide +kernel
theorem dX9_readAction_12 : decode cX9_readAction 12 = .ok (.bipush 34, 2) := by decide +kernel
theorem dX9_readAction_14 : decode cX9_readAction 14 = .ok (.if_icmp .lt 12, 3) := by decide +kernel
theorem dX9_readAction_17 : decode cX9_readAction 17 = .ok (.aload_n 0, 1) := by decide +kernel
theorem dX9_readAction_18 : decode cX9_readAction 18 = .ok (.getfield 116, 3) := by decide +kernel
theorem dX9_readAction_21 : decode cX9_readAction 21 = .ok (.bipush 40, 2) := by decide +kernel
theorem dX9_readAction_23 : decode cX9_readAction 23 = .ok (.if_icmp .le 12, 3) := by decide +kernel
theorem dX9_readAction_26 : decode cX9_readAction 26 = .ok (.aload_n 0, 1) := by decide +kernel
theorem dX9_readAction_27 : decode cX9_readAction 27 = .ok (.iconst 1, 1) := by decide +kernel
theorem dX9_readAction_28 : decode cX9_readAction 28 = .ok (.aload_n 0, 1) := by decide +kernel
theorem dX9_readAction_29 : decode cX9_readAction 29 = .ok (.getfield 113, 3) := by decide +kernel
theorem dX9_readAction_32 : decode cX9_readAction 32 = .ok (.invokevirtual 133, 3) := by decide +kernel
theorem dX9_readAction_35 : decode cX9_readAction 35 = .ok (.aload_n 0, 1) := by decide +kernel
theorem dX9_readAction_36 : decode cX9_readAction 36 = .ok (.getfield 116, 3) := by decide +kernel
theorem dX9_readAction_39 : decode cX9_readAction 39 = .ok (.bipush 40, 2) := by decide +kernel
theorem dX9_readAction_41 : decode cX9_readAction 41 = .ok (.if_icmp .ne 19, 3) := by decide +kernel
theorem dX9_readAction_44 : decode cX9_readAction 44 = .ok (.aload_n 0, 1) := by decide +kernel
theorem dX9_readAction_45 : decode cX9_readAction 45 = .ok (.getfield 196, 3) := by decide +kernel
theorem dX9_readAction_48 : decode cX9_readAction 48 = .ok (.iconst (-1), 1) := by decide +kernel
theorem dX9_readAction_49 : decode cX9_readAction 49 = .ok (.if_icmp .ne 11, 3) := by decide +kernel
theorem dX9_readAction_52 : decode cX9_readAction 52 = .ok (.aload_n 0, 1) := by decide +kernel
theorem dX9_readAction_53 : decode cX9_readAction 53 = .ok (.aload_n 0, 1) := by decide +kernel
theorem dX9_readAction_54 : decode cX9_readAction 54 = .ok (.getfield 113, 3) := by decide +kernel
theorem dX9_readAction_57 : decode cX9_readAction 57 = .ok (.putfield 196, 3) := by decide +kernel
theorem dX9_readAction_60 : decode cX9_readAction 60 = .ok (.aload_n 0, 1) := by decide +kernel
theorem dX9_readAction_61 : decode cX9_readAction 61 = .ok (.getfield 116, 3) := by decide +kernel
theorem dX9_readAction_64 : decode cX9_readAction 64 = .ok (.bipush 34, 2) := by decide +kernel
theorem dX9_readAction_66 : decode cX9_readAction 66 = .ok (.isub, 1) := by decide +kernel
theorem dX9_readAction_67 : decode cX9_readAction 67 = .ok (.istore_n 1, 1) := by decide +kernel
theorem dX9_readAction_68 : decode cX9_readAction 68 = .ok (.aload_n 0, 1) := by decide +kernel
theorem dX9_readAction_69 : decode cX9_readAction 69 = .ok (.invokevirtual 78, 3) := by decide +kernel
theorem dX9_readAction_72 : decode cX9_readAction 72 = .ok (.iload_n 1, 1) := by decide +kernel
theorem dX9_readAction_73 : decode cX9_readAction 73 = .ok (.ireturn, 1) := by decide +kernel
def wb_X9_readAction_60 (bc bs : Nat)  (u v : Nat) (S : q_S) (a0 : Nat) (Q : Option Value → q_S → Prop) (E : String → q_S → Prop) : Prop := q_K S a0 = 10 ∧ (∃ m4_ m5_ : Nat, (u + m4_ ≤ bc ∧ v + m5_ ≤ bs) ∧ (wm_X9_advance m4_ m5_ S a0 (fun r2_ S3_ => r2_ = none ∧ (Q (some (.int ((q_I S 1809 a0) - (34 : Int32)))) S3_)) E))
set_option maxHeartbeats 4000000 in
set_option maxRecDepth 100000 in
theorem cb_X9_readAction_60 {p : Program} {l : Launch} {e : Env} {s : State} {m : MethodId} {args : Array Value} {below : List Frame} {meth : Method} {c : Code} {D : va_G} {cy : Nat → ClassId} {lo : Nat} {bc bs : Nat}  {u v : Nat} {S : q_S} {a0 : Nat} {Q : Option Value → q_S → Prop} {E : String → q_S → Prop} {H : Heap} {locs : List Loc} {ls : Array Slot} (X : q_X p s m args meth c RX9 cX9_readAction 2 (some .int) D cy lo) (hex : ∀ x ∈ c.exceptionTable.toList, False) (hst : l.stackTraces = false)  (hu : u ≤ bc ∧ v ≤ bs) (Y : q_Y D cy lo s S H locs) (hl : lv_has ls 2 [(0, .ref a0)]) (h : wb_X9_readAction_60 bc bs u v S a0 Q E) : W p l e ({ frames := 8, cells := bc, slots := bs, locals := 139 } : Room) s m args below meth c H locs u v (vx_MQ below (q_Q D cy lo Q) (q_XE D cy lo E) args s bc bs (fun q => lo ≤ q)) (F0 m 60 ls []) := by
  have hx := X.1
  have hb := X.2.1
  unfold wb_X9_readAction_60 at h
  refine lv_aload_n hx hb dX9_readAction_60 rfl (lv_at hl 0 rfl) ?_
  obtain ⟨k1_, h⟩ := h
  refine q_getI X Y kX9 9 rfl fl_X9_116 k1_ dX9_readAction_61 ?_
  refine lv_bipush (v := 34) hx hb dX9_readAction_64 (by decide) ?_
  refine lv_isub hx hb dX9_readAction_66 ?_
  refine lv_istore_n (i := 1) (lv' := [(1, .int ((q_I S 1809 a0) - (34 : Int32))), (0, .ref a0)]) hx hb dX9_readAction_67 rfl hl (by decide) (by first | rfl | simp [q_cat, q_catI, q_catJ, q_catR]) (fun ls hl => ?_)
  refine lv_aload_n hx hb dX9_readAction_68 rfl (lv_at hl 1 rfl) ?_
  obtain ⟨m4_, m5_, w6_, h⟩ := h
  refine q_callVX X hex Y hl (cm_X9_advance hst h) mt_X9_advance mi_X9_advance ml_X9_78 (ci := 9) rfl k1_ (by decide) rfl rfl (by first | exact Nat.le_of_ble_eq_true rfl | simp [q_cat, q_catI, q_catJ, q_catR]) ⟨Nat.le_of_ble_eq_true rfl, Nat.le_of_ble_eq_true rfl⟩ w6_ w6_ dX9_readAction_69 (fun r2_ S3_ H locs hp Y => ?_)
  obtain ⟨rfl, h⟩ := hp
  replace hu := w6_
  refine W.eq (g2 := F0 m 72 ls []) rfl ?_
  refine lv_iload_n hx hb dX9_readAction_72 rfl (lv_at hl 0 rfl) ?_
  exact vx_ret <| q_iret X Y rfl hu.1 hu.2 h dX9_readAction_73
def wb_X9_readAction_35 (bc bs : Nat)  (u v : Nat) (S : q_S) (a0 : Nat) (Q : Option Value → q_S → Prop) (E : String → q_S → Prop) : Prop := q_K S a0 = 10 ∧ (((¬ (q_I S 1809 a0) = (40 : Int32) → (wb_X9_readAction_60 bc bs u v S a0 Q E)) ∧ ((q_I S 1809 a0) = (40 : Int32) → (((¬ (q_I S 1813 a0) = (-1 : Int32) → (wb_X9_readAction_60 bc bs u v S a0 Q E)) ∧ ((q_I S 1813 a0) = (-1 : Int32) → (wb_X9_readAction_60 bc bs u v (qs_I S 1813 a0 (q_I S 1811 a0)) a0 Q E)))))))
set_option maxHeartbeats 4000000 in
set_option maxRecDepth 100000 in
theorem cb_X9_readAction_35 {p : Program} {l : Launch} {e : Env} {s : State} {m : MethodId} {args : Array Value} {below : List Frame} {meth : Method} {c : Code} {D : va_G} {cy : Nat → ClassId} {lo : Nat} {bc bs : Nat}  {u v : Nat} {S : q_S} {a0 : Nat} {Q : Option Value → q_S → Prop} {E : String → q_S → Prop} {H : Heap} {locs : List Loc} {ls : Array Slot} (X : q_X p s m args meth c RX9 cX9_readAction 2 (some .int) D cy lo) (hex : ∀ x ∈ c.exceptionTable.toList, False) (hst : l.stackTraces = false)  (hu : u ≤ bc ∧ v ≤ bs) (Y : q_Y D cy lo s S H locs) (hl : lv_has ls 2 [(0, .ref a0)]) (h : wb_X9_readAction_35 bc bs u v S a0 Q E) : W p l e ({ frames := 8, cells := bc, slots := bs, locals := 139 } : Room) s m args below meth c H locs u v (vx_MQ below (q_Q D cy lo Q) (q_XE D cy lo E) args s bc bs (fun q => lo ≤ q)) (F0 m 35 ls []) := by
  have hx := X.1
  have hb := X.2.1
  unfold wb_X9_readAction_35 at h
  refine lv_aload_n hx hb dX9_readAction_35 rfl (lv_at hl 0 rfl) ?_
  obtain ⟨k7_, h⟩ := h
  refine q_getI X Y kX9 9 rfl fl_X9_116 k7_ dX9_readAction_36 ?_
  refine lv_bipush (v := 40) hx hb dX9_readAction_39 (by decide) ?_
  refine lv_icmp_ne (tgt := 60) hx hb dX9_readAction_41 (by decide) (fun c8_ => ?_) (fun c8_ => ?_)
  · replace h := h.1 c8_
    exact cb_X9_readAction_60 X hex hst hu Y (lv_sub hl [0] rfl) h
  · replace h := h.2 c8_
    refine lv_aload_n hx hb dX9_readAction_44 rfl (lv_at hl 0 rfl) ?_
    refine q_getI X Y kX9 13 rfl fl_X9_196 k7_ dX9_readAction_45 ?_
    refine lv_iconst (v := (-1)) hx hb dX9_readAction_48 (by decide) ?_
    refine lv_icmp_ne (tgt := 60) hx hb dX9_readAction_49 (by decide) (fun c9_ => ?_) (fun c9_ => ?_)
    · replace h := h.1 c9_
      exact cb_X9_readAction_60 X hex hst hu Y (lv_sub hl [0] rfl) h
    · replace h := h.2 c9_
      refine lv_aload_n hx hb dX9_readAction_52 rfl (lv_at hl 0 rfl) ?_
      refine lv_aload_n hx hb dX9_readAction_53 rfl (lv_at hl 0 rfl) ?_
      refine q_getI X Y kX9 11 rfl fl_X9_113 k7_ dX9_readAction_54 ?_
      refine q_putI X Y kX9 13 rfl fl_X9_196 k7_ .int rfl ⟨rfl, rfl⟩ rfl dX9_readAction_57 (fun H locs Y => ?_)
      exact cb_X9_readAction_60 X hex hst hu Y (lv_sub hl [0] rfl) h
def wb_X9_readAction_26 (bc bs : Nat)  (u v : Nat) (S : q_S) (a0 : Nat) (Q : Option Value → q_S → Prop) (E : String → q_S → Prop) : Prop := q_K S a0 = 10 ∧ (∃ m13_ m14_ : Nat, (u + m13_ ≤ bc ∧ v + m14_ ≤ bs) ∧ (wm_X9_fail m13_ m14_ S a0 (1 : Int32) (q_I S 1811 a0) (fun r11_ S12_ => r11_ = none ∧ (wb_X9_readAction_35 bc bs (u + m13_) (v + m14_) S12_ a0 Q E)) E))
set_option maxHeartbeats 4000000 in
set_option maxRecDepth 100000 in
theorem cb_X9_readAction_26 {p : Program} {l : Launch} {e : Env} {s : State} {m : MethodId} {args : Array Value} {below : List Frame} {meth : Method} {c : Code} {D : va_G} {cy : Nat → ClassId} {lo : Nat} {bc bs : Nat}  {u v : Nat} {S : q_S} {a0 : Nat} {Q : Option Value → q_S → Prop} {E : String → q_S → Prop} {H : Heap} {locs : List Loc} {ls : Array Slot} (X : q_X p s m args meth c RX9 cX9_readAction 2 (some .int) D cy lo) (hex : ∀ x ∈ c.exceptionTable.toList, False) (hst : l.stackTraces = false)  (hu : u ≤ bc ∧ v ≤ bs) (Y : q_Y D cy lo s S H locs) (hl : lv_has ls 2 [(0, .ref a0)]) (h : wb_X9_readAction_26 bc bs u v S a0 Q E) : W p l e ({ frames := 8, cells := bc, slots := bs, locals := 139 } : Room) s m args below meth c H locs u v (vx_MQ below (q_Q D cy lo Q) (q_XE D cy lo E) args s bc bs (fun q => lo ≤ q)) (F0 m 26 ls []) := by
  have hx := X.1
  have hb := X.2.1
  unfold wb_X9_readAction_26 at h
  refine lv_aload_n hx hb dX9_readAction_26 rfl (lv_at hl 0 rfl) ?_
  refine lv_iconst (v := 1) hx hb dX9_readAction_27 (by decide) ?_
  refine lv_aload_n hx hb dX9_readAction_28 rfl (lv_at hl 0 rfl) ?_
  obtain ⟨k10_, h⟩ := h
  refine q_getI X Y kX9 11 rfl fl_X9_113 k10_ dX9_readAction_29 ?_
  obtain ⟨m13_, m14_, w15_, h⟩ := h
  refine q_callVX X hex Y hl (cm_X9_fail hst h) mt_X9_fail mi_X9_fail ml_X9_133 (ci := 9) rfl k10_ (by decide) rfl rfl (by first | exact Nat.le_of_ble_eq_true rfl | simp [q_cat, q_catI, q_catJ, q_catR]) ⟨Nat.le_of_ble_eq_true rfl, Nat.le_of_ble_eq_true rfl⟩ w15_ w15_ dX9_readAction_32 (fun r11_ S12_ H locs hp Y => ?_)
  obtain ⟨rfl, h⟩ := hp
  replace hu := w15_
  refine W.eq (g2 := F0 m 35 ls []) rfl ?_
  exact cb_X9_readAction_35 X hex hst hu Y (lv_sub hl [0] rfl) h
def wm_X9_readAction (bc bs : Nat) (S : q_S) (a0 : Nat) (Q : Option Value → q_S → Prop) (E : String → q_S → Prop) : Prop := q_K S a0 = 10 ∧ (((¬ (q_I S 1808 a0) = (2 : Int32) → (wb_X9_readAction_26 bc bs 0 0 S a0 Q E)) ∧ ((q_I S 1808 a0) = (2 : Int32) → ((((q_I S 1809 a0) < (34 : Int32) → (wb_X9_readAction_26 bc bs 0 0 S a0 Q E)) ∧ (¬ (q_I S 1809 a0) < (34 : Int32) → ((((q_I S 1809 a0) ≤ (40 : Int32) → (wb_X9_readAction_35 bc bs 0 0 S a0 Q E)) ∧ (¬ (q_I S 1809 a0) ≤ (40 : Int32) → (wb_X9_readAction_26 bc bs 0 0 S a0 Q E))))))))))
set_option maxHeartbeats 4000000 in
set_option maxRecDepth 100000 in
theorem cm_X9_readAction {l : Launch} {D : va_G} {cy : Nat → ClassId} {lo : Nat} {bc bs : Nat} {S : q_S} {a0 : Nat} {Q : Option Value → q_S → Prop} {E : String → q_S → Prop} (hst : l.stackTraces = false) (h : wm_X9_readAction bc bs S a0 Q E) : q_MetX l D cy lo yX9_readAction cX9_readAction 2 (some .int) 8 139 bc bs [.ref a0] S Q E := by
  refine q_bodyX (by decide) (by first | exact Nat.le_of_ble_eq_true rfl | simp [lg_sl, q_cat, q_catI, q_catJ, q_catR]) ?_
  intro p e s m below meth c ls X hex Y hl
  have hx := X.1
  have hb := X.2.1
  have hl : lv_has ls 2 [(0, .ref a0)] := by first | exact hl | simpa [lv_args, q_cat, q_catI, q_catJ, q_catR] using hl
  generalize hargs : ([.ref a0] : List Value).toArray = args at X ⊢
  have hu : 0 ≤ bc ∧ 0 ≤ bs := ⟨Nat.zero_le _, Nat.zero_le _⟩
  unfold wm_X9_readAction at h
  refine lv_aload_n hx hb dX9_readAction_0 rfl (lv_at hl 0 rfl) ?_
  obtain ⟨k16_, h⟩ := h
  refine q_getI X Y kX9 8 rfl fl_X9_119 k16_ dX9_readAction_1 ?_
  refine lv_iconst (v := 2) hx hb dX9_readAction_4 (by decide) ?_
  refine lv_icmp_ne (tgt := 26) hx hb dX9_readAction_5 (by decide) (fun c17_ => ?_) (fun c17_ => ?_)
  · replace h := h.1 c17_
    exact cb_X9_readAction_26 X hex hst hu Y (lv_sub hl [0] rfl) h
  · replace h := h.2 c17_
    refine lv_aload_n hx hb dX9_readAction_8 rfl (lv_at hl 0 rfl) ?_
    refine q_getI X Y kX9 9 rfl fl_X9_116 k16_ dX9_readAction_9 ?_
    refine lv_bipush (v := 34) hx hb dX9_readAction_12 (by decide) ?_
    refine lv_icmp_lt (tgt := 26) hx hb dX9_readAction_14 (by decide) (fun c18_ => ?_) (fun c18_ => ?_)
    · replace h := h.1 c18_
      exact cb_X9_readAction_26 X hex hst hu Y (lv_sub hl [0] rfl) h
    · replace h := h.2 c18_
      refine lv_aload_n hx hb dX9_readAction_17 rfl (lv_at hl 0 rfl) ?_
      refine q_getI X Y kX9 9 rfl fl_X9_116 k16_ dX9_readAction_18 ?_
      refine lv_bipush (v := 40) hx hb dX9_readAction_21 (by decide) ?_
      refine lv_icmp_le (tgt := 35) hx hb dX9_readAction_23 (by decide) (fun c19_ => ?_) (fun c19_ => ?_)
      · replace h := h.1 c19_
        exact cb_X9_readAction_35 X hex hst hu Y (lv_sub hl [0] rfl) h
      · replace h := h.2 c19_
        exact cb_X9_readAction_26 X hex hst hu Y (lv_sub hl [0] rfl) h
-- X9_readErrors
theorem ml_X9_310 : Cond.methodLink RX9 310 yX9_readAction ∈ q_G := q_tb (i := 1083) (by decide +kernel) (by decide +kernel)
theorem mt_X9_readAction : q_Mt yX9_readAction cX9_readAction 2 (some .int) 0 := ⟨q_tb (i := 1086) (by decide +kernel) (by decide +kernel), q_tb (i := 2) (by decide +kernel) (by decide +kernel), by decide +kernel, by decide +kernel, by decide +kernel⟩
theorem mi_X9_readAction : Cond.instanceMethod yX9_readAction ∈ q_G ∧ Cond.selects yX9_readAction.cls yX9_readAction yX9_readAction ∈ q_G := ⟨q_tb (i := 1085) (by decide +kernel) (by decide +kernel), q_tp (i := 27) (q := (yX9_readAction, 14)) (by decide +kernel) (by decide +kernel)⟩
theorem ml_X9_313 : Cond.methodLink RX9 313 yX5_setAction ∈ q_G := q_tb (i := 1087) (by decide +kernel) (by decide +kernel)
theorem mt_X5_setAction : q_Mt yX5_setAction cX5_setAction 3 none 2 := ⟨q_tb (i := 1090) (by decide +kernel) (by decide +kernel), q_tb (i := 20) (by decide +kernel) (by decide +kernel), by decide +kernel, by decide +kernel, by decide +kernel⟩
theorem mi_X5_setAction : Cond.instanceMethod yX5_setAction ∈ q_G ∧ Cond.selects yX5_setAction.cls yX5_setAction yX5_setAction ∈ q_G := ⟨q_tb (i := 1088) (by decide +kernel) (by decide +kernel), q_tb (i := 1089) (by decide +kernel) (by decide +kernel)⟩
theorem ml_X9_307 : Cond.methodLink RX9 307 yX9_errorKind ∈ q_G := q_tb (i := 1079) (by decide +kernel) (by decide +kernel)
theorem mt_X9_errorKind : q_Mt yX9_errorKind cX9_errorKind 1 (some .int) 0 := ⟨q_tb (i := 1082) (by decide +kernel) (by decide +kernel), q_tb (i := 2) (by decide +kernel) (by decide +kernel), by decide +kernel, by decide +kernel, by decide +kernel⟩
theorem mi_X9_errorKind : Cond.instanceMethod yX9_errorKind ∈ q_G ∧ Cond.selects yX9_errorKind.cls yX9_errorKind yX9_errorKind ∈ q_G := ⟨q_tb (i := 1081) (by decide +kernel) (by decide +kernel), q_tp (i := 26) (q := (yX9_errorKind, 14)) (by decide +kernel) (by decide +kernel)⟩
theorem fl_X9_193 : Cond.fieldLink RX9 193 "PartitionWorks$Reader" "errorsSeen" "Z" ∈ q_G := q_tb (i := 214) (by decide +kernel) (by decide +kernel)
theorem dX9_readErrors_0 : decode cX9_readErrors 0 = .ok (.aload_n 0, 1) := by decide +kernel
theorem dX9_readErrors_1 : decode cX9_readErrors 1 = .ok (.getfield 193, 3) := by decide +kernel
theorem dX9_readErrors_4 : decode cX9_readErrors 4 = .ok (.ifCond .eq 13, 3) := by decide +kernel
theorem dX9_readErrors_7 : decode cX9_readErrors 7 = .ok (.aload_n 0, 1) := by decide +kernel
theorem dX9_readErrors_8 : decode cX9_readErrors 8 = .ok (.bipush 7, 2) := by decide +kernel
theorem dX9_readErrors_10 : decode cX9_readErrors 10 = .ok (.aload_n 0, 1) := by decide +kernel
theorem dX9_readErrors_11 : decode cX9_readErrors 11 = .ok (.getfield 113, 3) := by decide +kernel
theorem dX9_readErrors_14 : decode cX9_readErrors 14 = .ok (.invokevirtual 133, 3) := by decide +kernel
theorem dX9_readErrors_17 : decode cX9_readErrors 17 = .ok (.aload_n 0, 1) := by decide +kernel
theorem dX9_readErrors_18 : decode cX9_readErrors 18 = .ok (.iconst 1, 1) := by decide +kernel
theorem dX9_readErrors_19 : decode cX9_readErrors 19 = .ok (.putfield 193, 3) := by decide +kernel
theorem dX9_readErrors_22 : decode cX9_readErrors 22 = .ok (.aload_n 0, 1) := by decide +kernel
theorem dX9_readErrors_23 : decode cX9_readErrors 23 = .ok (.invokevirtual 78, 3) := by decide +kernel
theorem dX9_readErrors_26 : decode cX9_readErrors 26 = .ok (.aload_n 0, 1) := by decide +kernel
theorem dX9_readErrors_27 : decode cX9_readErrors 27 = .ok (.bipush 123, 2) := by decide +kernel
theorem dX9_readErrors_29 : decode cX9_readErrors 29 = .ok (.invokevirtual 160, 3) := by decide +kernel
theorem dX9_readErrors_32 : decode cX9_readErrors 32 = .ok (.iconst 0, 1) := by decide +kernel
theorem dX9_readErrors_33 : decode cX9_readErrors 33 = .ok (.istore_n 2, 1) := by decide +kernel
theorem dX9_readErrors_34 : decode cX9_readErrors 34 = .ok (.iconst 0, 1) := by decide +kernel
theorem dX9_readErrors_35 : decode cX9_readErrors 35 = .ok (.istore_n 3, 1) := by decide +kernel
theorem dX9_readErrors_36 : decode cX9_readErrors 36 = .ok (.iload_n 3, 1) := by decide +kernel
theorem dX9_readErrors_37 : decode cX9_readErrors 37 = .ok (.iconst 5, 1) := by decide +kernel
theorem dX9_readErrors_38 : decode cX9_readErrors 38 = .ok (.if_icmp .gt 98, 3) := by decide +kernel
theorem dX9_readErrors_41 : decode cX9_readErrors 41 = .ok (.iload_n 3, 1) := by decide +kernel
theorem dX9_readErrors_42 : decode cX9_readErrors 42 = .ok (.ifCond .le 15, 3) := by decide +kernel
theorem dX9_readErrors_45 : decode cX9_readErrors 45 = .ok (.aload_n 0, 1) := by decide +kernel
theorem dX9_readErrors_46 : decode cX9_readErrors 46 = .ok (.bipush 125, 2) := by decide +kernel
theorem dX9_readErrors_48 : decode cX9_readErrors 48 = .ok (.invokevirtual 141, 3) := by decide +kernel
theorem dX9_readErrors_51 : decode cX9_readErrors 51 = .ok (.ifCond .eq 6, 3) := by decide +kernel
theorem dX9_readErrors_54 : decode cX9_readErrors 54 = .ok (.goto 82, 3) := by decide +kernel
theorem dX9_readErrors_57 : decode cX9_readErrors 57 = .ok (.aload_n 0, 1) := by decide +kernel
theorem dX9_readErrors_58 : decode cX9_readErrors 58 = .ok (.invokevirtual 307, 3) := by decide +kernel
theorem dX9_readErrors_61 : decode cX9_readErrors 61 = .ok (.istore 4, 2) := by decide +kernel
theorem dX9_readErrors_63 : decode cX9_readErrors 63 = .ok (.iload 4, 2) := by decide +kernel
theorem dX9_readErrors_65 : decode cX9_readErrors 65 = .ok (.iconst (-1), 1) := by decide +kernel
theorem dX9_readErrors_66 : decode cX9_readErrors 66 = .ok (.if_icmp .ne 12, 3) := by decide +kernel
theorem dX9_readErrors_69 : decode cX9_readErrors 69 = .ok (.aload_n 0, 1) := by decide +kernel
theorem dX9_readErrors_70 : decode cX9_readErrors 70 = .ok (.iconst 1, 1) := by decide +kernel
theorem dX9_readErrors_71 : decode cX9_readErrors 71 = .ok (.aload_n 0, 1) := by decide +kernel
theorem dX9_readErrors_72 : decode cX9_readErrors 72 = .ok (.getfield 113, 3) := by decide +kernel
theorem dX9_readErrors_75 : decode cX9_readErrors 75 = .ok (.invokevirtual 133, 3) := by decide +kernel
theorem dX9_readErrors_78 : decode cX9_readErrors 78 = .ok (.iload_n 2, 1) := by decide +kernel
theorem dX9_readErrors_79 : decode cX9_readErrors 79 = .ok (.iload 4, 2) := by decide +kernel
theorem dX9_readErrors_81 : decode cX9_readErrors 81 = .ok (.ishr, 1) := by decide +kernel
theorem dX9_readErrors_82 : decode cX9_readErrors 82 = .ok (.iconst 1, 1) := by decide +kernel
theorem dX9_readErrors_83 : decode cX9_readErrors 83 = .ok (.iand, 1) := by decide +kernel
theorem dX9_readErrors_84 : decode cX9_readErrors 84 = .ok (.ifCond .eq 13, 3) := by decide +kernel
theorem dX9_readErrors_87 : decode cX9_readErrors 87 = .ok (.aload_n 0, 1) := by decide +kernel
theorem dX9_readErrors_88 : decode cX9_readErrors 88 = .ok (.bipush 7, 2) := by decide +kernel
theorem dX9_readErrors_90 : decode cX9_readErrors 90 = .ok (.aload_n 0, 1) := by decide +kernel
theorem dX9_readErrors_91 : decode cX9_readErrors 91 = .ok (.getfield 113, 3) := by decide +kernel
theorem dX9_readErrors_94 : decode cX9_readErrors 94 = .ok (.invokevirtual 133, 3) := by decide +kernel
theorem dX9_readErrors_97 : decode cX9_readErrors 97 = .ok (.iload_n 2, 1) := by decide +kernel
theorem dX9_readErrors_98 : decode cX9_readErrors 98 = .ok (.iconst 1, 1) := by decide +kernel
theorem dX9_readErrors_99 : decode cX9_readErrors 99 = .ok (.iload 4, 2) := by decide +kernel
theorem dX9_readErrors_101 : decode cX9_readErrors 101 = .ok (.ishl, 1) := by decide +kernel
theorem dX9_readErrors_102 : decode cX9_readErrors 102 = .ok (.ior, 1) := by decide +kernel
theorem dX9_readErrors_103 : decode cX9_readErrors 103 = .ok (.istore_n 2, 1) := by decide +kernel
theorem dX9_readErrors_104 : decode cX9_readErrors 104 = .ok (.aload_n 0, 1) := by decide +kernel
theorem dX9_readErrors_105 : decode cX9_readErrors 105 = .ok (.invokevirtual 78, 3) := by decide +kernel
theorem dX9_readErrors_108 : decode cX9_readErrors 108 = .ok (.aload_n 0, 1) := by decide +kernel
theorem dX9_readErrors_109 : decode cX9_readErrors 109 = .ok (.bipush 58, 2) := by decide +kernel
theorem dX9_readErrors_111 : decode cX9_readErrors 111 = .ok (.invokevirtual 160, 3) := by decide +kernel
theorem dX9_readErrors_114 : decode cX9_readErrors 114 = .ok (.aload_n 1, 1) := by decide +kernel
theorem dX9_readErrors_115 : decode cX9_readErrors 115 = .ok (.iload 4, 2) := by decide +kernel
theorem dX9_readErrors_117 : decode cX9_readErrors 117 = .ok (.aload_n 0, 1) := by decide +kernel
theorem dX9_readErrors_118 : decode cX9_readErrors 118 = .ok (.invokevirtual 310, 3) := by decide +kernel
theorem dX9_readErrors_121 : decode cX9_readErrors 121 = .ok (.invokevirtual 313, 3) := by decide +kernel
theorem dX9_readErrors_124 : decode cX9_readErrors 124 = .ok (.aload_n 0, 1) := by decide +kernel
theorem dX9_readErrors_125 : decode cX9_readErrors 125 = .ok (.bipush 59, 2) := by decide +kernel
theorem dX9_readErrors_127 : decode cX9_readErrors 127 = .ok (.invokevirtual 160, 3) := by decide +kernel
theorem dX9_readErrors_130 : decode cX9_readErrors 130 = .ok (.iinc 3 1, 3) := by decide +kernel
theorem dX9_readErrors_133 : decode cX9_readErrors 133 = .ok (.goto (-97), 3) := by decide +kernel
theorem dX9_readErrors_136 : decode cX9_readErrors 136 = .ok (.aload_n 0, 1) := by decide +kernel
theorem dX9_readErrors_137 : decode cX9_readErrors 137 = .ok (.bipush 125, 2) := by decide +kernel
theorem dX9_readErrors_139 : decode cX9_readErrors 139 = .ok (.invokevirtual 160, 3) := by decide +kernel
theorem dX9_readErrors_142 : decode cX9_readErrors 142 = .ok (.return_, 1) := by decide +kernel
def wb_X9_readErrors_136 (bc bs : Nat)  (u v : Nat) (S : q_S) (a0 : Nat) (Q : Option Value → q_S → Prop) (E : String → q_S → Prop) : Prop := q_K S a0 = 10 ∧ (∃ m4_ m5_ : Nat, (u + m4_ ≤ bc ∧ v + m5_ ≤ bs) ∧ (wm_X9_expectSign m4_ m5_ S a0 (125 : Int32) (fun r2_ S3_ => r2_ = none ∧ (Q none S3_)) E))
set_option maxHeartbeats 4000000 in
set_option maxRecDepth 100000 in
theorem cb_X9_readErrors_136 {p : Program} {l : Launch} {e : Env} {s : State} {m : MethodId} {args : Array Value} {below : List Frame} {meth : Method} {c : Code} {D : va_G} {cy : Nat → ClassId} {lo : Nat} {bc bs : Nat}  {u v : Nat} {S : q_S} {a0 : Nat} {Q : Option Value → q_S → Prop} {E : String → q_S → Prop} {H : Heap} {locs : List Loc} {ls : Array Slot} (X : q_X p s m args meth c RX9 cX9_readErrors 5 none D cy lo) (hex : ∀ x ∈ c.exceptionTable.toList, False) (hst : l.stackTraces = false)  (hu : u ≤ bc ∧ v ≤ bs) (Y : q_Y D cy lo s S H locs) (hl : lv_has ls 5 [(0, .ref a0)]) (h : wb_X9_readErrors_136 bc bs u v S a0 Q E) : W p l e ({ frames := 9, cells := bc, slots := bs, locals := 160 } : Room) s m args below meth c H locs u v (vx_MQ below (q_Q D cy lo Q) (q_XE D cy lo E) args s bc bs (fun q => lo ≤ q)) (F0 m 136 ls []) := by
  have hx := X.1
  have hb := X.2.1
  unfold wb_X9_readErrors_136 at h
  refine lv_aload_n hx hb dX9_readErrors_136 rfl (lv_at hl 0 rfl) ?_
  refine lv_bipush (v := 125) hx hb dX9_readErrors_137 (by decide) ?_
  obtain ⟨k1_, h⟩ := h
  obtain ⟨m4_, m5_, w6_, h⟩ := h
  refine q_callVX X hex Y hl (cm_X9_expectSign hst h) mt_X9_expectSign mi_X9_expectSign ml_X9_160 (ci := 9) rfl k1_ (by decide) rfl rfl (by first | exact Nat.le_of_ble_eq_true rfl | simp [q_cat, q_catI, q_catJ, q_catR]) ⟨Nat.le_of_ble_eq_true rfl, Nat.le_of_ble_eq_true rfl⟩ w6_ w6_ dX9_readErrors_139 (fun r2_ S3_ H locs hp Y => ?_)
  obtain ⟨rfl, h⟩ := hp
  replace hu := w6_
  refine W.eq (g2 := F0 m 142 ls []) rfl ?_
  exact vx_ret <| q_vret X Y hu.1 hu.2 h dX9_readErrors_142
def wb_X9_readErrors_97 (bc bs : Nat) (B36 : Nat → Nat → q_S → Nat → Option Nat → Int32 → Int32 → Prop) (u v : Nat) (S : q_S) (a0 : Nat) (r1 : Option Nat) (x2 : Int32) (x3 : Int32) (x4 : Int32) (Q : Option Value → q_S → Prop) (E : String → q_S → Prop) : Prop := q_K S a0 = 10 ∧ (∃ m10_ m11_ : Nat, (u + m10_ ≤ bc ∧ v + m11_ ≤ bs) ∧ (wm_X9_advance m10_ m11_ S a0 (fun r8_ S9_ => r8_ = none ∧ (q_K S9_ a0 = 10 ∧ (∃ m16_ m17_ : Nat, ((u + m10_) + m16_ ≤ bc ∧ (v + m11_) + m17_ ≤ bs) ∧ (wm_X9_expectSign m16_ m17_ S9_ a0 (58 : Int32) (fun r14_ S15_ => r14_ = none ∧ (q_K S15_ a0 = 10 ∧ (∃ m22_ m23_ : Nat, (((u + m10_) + m16_) + m22_ ≤ bc ∧ ((v + m11_) + m17_) + m23_ ≤ bs) ∧ (wm_X9_readAction m22_ m23_ S15_ a0 (fun r20_ S21_ => ∃ x25_ : Int32, r20_ = some (.int x25_) ∧ (∃ a26_ : Nat, r1 = some a26_ ∧ (q_K S21_ a26_ = 6 ∧ (wm_X5_setAction S21_ a26_ x4 x25_ (fun r29_ S30_ => r29_ = none ∧ (q_K S30_ a0 = 10 ∧ (∃ m34_ m35_ : Nat, ((((u + m10_) + m16_) + m22_) + m34_ ≤ bc ∧ (((v + m11_) + m17_) + m23_) + m35_ ≤ bs) ∧ (wm_X9_expectSign m34_ m35_ S30_ a0 (59 : Int32) (fun r32_ S33_ => r32_ = none ∧ (B36 ((((u + m10_) + m16_) + m22_) + m34_) ((((v + m11_) + m17_) + m23_) + m35_) S33_ a0 r1 (x2 ||| ((1 : Int32) <<< (x4 &&& 31))) (x3 + 1))) E)))))))) E)))) E)))) E))
set_option maxHeartbeats 4000000 in
set_option maxRecDepth 100000 in
theorem cb_X9_readErrors_97 {p : Program} {l : Launch} {e : Env} {s : State} {m : MethodId} {args : Array Value} {below : List Frame} {meth : Method} {c : Code} {D : va_G} {cy : Nat → ClassId} {lo : Nat} {bc bs : Nat} {B36 : Nat → Nat → q_S → Nat → Option Nat → Int32 → Int32 → Prop} {u v : Nat} {S : q_S} {a0 : Nat} {r1 : Option Nat} {x2 : Int32} {x3 : Int32} {x4 : Int32} {Q : Option Value → q_S → Prop} {E : String → q_S → Prop} {H : Heap} {locs : List Loc} {ls : Array Slot} (X : q_X p s m args meth c RX9 cX9_readErrors 5 none D cy lo) (hex : ∀ x ∈ c.exceptionTable.toList, False) (hst : l.stackTraces = false) (hB36 : ∀ (u v : Nat) (S : q_S) (a0 : Nat) (r1 : Option Nat) (x2 : Int32) (x3 : Int32) (H : Heap) (locs : List Loc) (ls : Array Slot), B36 u v S a0 r1 x2 x3 → (u ≤ bc ∧ v ≤ bs) → q_Y D cy lo s S H locs → lv_has ls 5 [(0, .ref a0), (1, va_rf r1), (2, .int x2), (3, .int x3)] → W p l e ({ frames := 9, cells := bc, slots := bs, locals := 160 } : Room) s m args below meth c H locs u v (vx_MQ below (q_Q D cy lo Q) (q_XE D cy lo E) args s bc bs (fun q => lo ≤ q)) (F0 m 36 ls [])) (hu : u ≤ bc ∧ v ≤ bs) (Y : q_Y D cy lo s S H locs) (hl : lv_has ls 5 [(0, .ref a0), (1, va_rf r1), (2, .int x2), (3, .int x3), (4, .int x4)]) (h : wb_X9_readErrors_97 bc bs B36 u v S a0 r1 x2 x3 x4 Q E) : W p l e ({ frames := 9, cells := bc, slots := bs, locals := 160 } : Room) s m args below meth c H locs u v (vx_MQ below (q_Q D cy lo Q) (q_XE D cy lo E) args s bc bs (fun q => lo ≤ q)) (F0 m 97 ls []) := by
  have hx := X.1
  have hb := X.2.1
  unfold wb_X9_readErrors_97 at h
  refine lv_iload_n hx hb dX9_readErrors_97 rfl (lv_at hl 2 rfl) ?_
  refine lv_iconst (v := 1) hx hb dX9_readErrors_98 (by decide) ?_
  refine lv_iload hx hb dX9_readErrors_99 (lv_at hl 4 rfl) ?_
  refine lv_ishl hx hb dX9_readErrors_101 ?_
  refine lv_ior hx hb dX9_readErrors_102 ?_
  refine lv_istore_n (i := 2) (lv' := [(2, .int (x2 ||| ((1 : Int32) <<< (x4 &&& 31)))), (0, .ref a0), (1, va_rf r1), (3, .int x3), (4, .int x4)]) hx hb dX9_readErrors_103 rfl hl (by decide) (by first | rfl | simp [q_cat, q_catI, q_catJ, q_catR]) (fun ls hl => ?_)
  refine lv_aload_n hx hb dX9_readErrors_104 rfl (lv_at hl 1 rfl) ?_
  obtain ⟨k7_, h⟩ := h
  obtain ⟨m10_, m11_, w12_, h⟩ := h
  refine q_callVX X hex Y hl (cm_X9_advance hst h) mt_X9_advance mi_X9_advance ml_X9_78 (ci := 9) rfl k7_ (by decide) rfl rfl (by first | exact Nat.le_of_ble_eq_true rfl | simp [q_cat, q_catI, q_catJ, q_catR]) ⟨Nat.le_of_ble_eq_true rfl, Nat.le_of_ble_eq_true rfl⟩ w12_ w12_ dX9_readErrors_105 (fun r8_ S9_ H locs hp Y => ?_)
  obtain ⟨rfl, h⟩ := hp
  replace hu := w12_
  refine W.eq (g2 := F0 m 108 ls []) rfl ?_
  refine lv_aload_n hx hb dX9_readErrors_108 rfl (lv_at hl 1 rfl) ?_
  refine lv_bipush (v := 58) hx hb dX9_readErrors_109 (by decide) ?_
  obtain ⟨k13_, h⟩ := h
  obtain ⟨m16_, m17_, w18_, h⟩ := h
  refine q_callVX X hex Y hl (cm_X9_expectSign hst h) mt_X9_expectSign mi_X9_expectSign ml_X9_160 (ci := 9) rfl k13_ (by decide) rfl rfl (by first | exact Nat.le_of_ble_eq_true rfl | simp [q_cat, q_catI, q_catJ, q_catR]) ⟨Nat.le_of_ble_eq_true rfl, Nat.le_of_ble_eq_true rfl⟩ w18_ w18_ dX9_readErrors_111 (fun r14_ S15_ H locs hp Y => ?_)
  obtain ⟨rfl, h⟩ := hp
  replace hu := w18_
  refine W.eq (g2 := F0 m 114 ls []) rfl ?_
  refine q_aload_n hx hb dX9_readErrors_114 rfl (lv_at hl 2 rfl) ?_
  refine lv_iload hx hb dX9_readErrors_115 (lv_at hl 4 rfl) ?_
  refine lv_aload_n hx hb dX9_readErrors_117 rfl (lv_at hl 1 rfl) ?_
  obtain ⟨k19_, h⟩ := h
  obtain ⟨m22_, m23_, w24_, h⟩ := h
  refine q_callVX X hex Y hl (cm_X9_readAction hst h) mt_X9_readAction mi_X9_readAction ml_X9_310 (ci := 9) rfl k19_ (by decide) rfl rfl (by first | exact Nat.le_of_ble_eq_true rfl | simp [q_cat, q_catI, q_catJ, q_catR]) ⟨Nat.le_of_ble_eq_true rfl, Nat.le_of_ble_eq_true rfl⟩ w24_ w24_ dX9_readErrors_118 (fun r20_ S21_ H locs hp Y => ?_)
  obtain ⟨x25_, rfl, h⟩ := hp
  replace hu := w24_
  refine W.eq (g2 := F0 m 121 ls [.int x25_, .int x4, va_rf r1]) rfl ?_
  obtain ⟨a26_, e27_, h⟩ := h
  refine q_nn [.int x25_, .int x4] e27_ ?_
  obtain ⟨k28_, h⟩ := h
  refine q_callV X Y hl (cm_X5_setAction h) mt_X5_setAction mi_X5_setAction ml_X9_313 (ci := 5) rfl k28_ (by decide) rfl rfl (by first | exact Nat.le_of_ble_eq_true rfl | simp [q_cat, q_catI, q_catJ, q_catR]) ⟨Nat.le_of_ble_eq_true rfl, Nat.le_of_ble_eq_true rfl⟩ hu dX9_readErrors_121 (fun r29_ S30_ H locs hp Y => ?_)
  obtain ⟨rfl, h⟩ := hp
  refine W.eq (g2 := F0 m 124 ls []) rfl ?_
  refine lv_aload_n hx hb dX9_readErrors_124 rfl (lv_at hl 1 rfl) ?_
  refine lv_bipush (v := 59) hx hb dX9_readErrors_125 (by decide) ?_
  obtain ⟨k31_, h⟩ := h
  obtain ⟨m34_, m35_, w36_, h⟩ := h
  refine q_callVX X hex Y hl (cm_X9_expectSign hst h) mt_X9_expectSign mi_X9_expectSign ml_X9_160 (ci := 9) rfl k31_ (by decide) rfl rfl (by first | exact Nat.le_of_ble_eq_true rfl | simp [q_cat, q_catI, q_catJ, q_catR]) ⟨Nat.le_of_ble_eq_true rfl, Nat.le_of_ble_eq_true rfl⟩ w36_ w36_ dX9_readErrors_127 (fun r32_ S33_ H locs hp Y => ?_)
  obtain ⟨rfl, h⟩ := hp
  replace hu := w36_
  refine W.eq (g2 := F0 m 130 ls []) rfl ?_
  refine lv_iinc (v := (x3 + 1)) (lv' := [(3, .int (x3 + 1)), (2, .int (x2 ||| ((1 : Int32) <<< (x4 &&& 31)))), (0, .ref a0), (1, va_rf r1), (4, .int x4)]) hx hb dX9_readErrors_130 hl (k := 3) rfl (by first | rfl | decide) (by decide) (by first | rfl | simp [q_cat, q_catI, q_catJ, q_catR]) (fun ls hl => ?_)
  refine lv_goto (tgt := 36) hx hb dX9_readErrors_133 (by decide) ?_
  exact hB36 _ _ _ _ _ _ _ _ _ _ h hu Y (lv_sub hl [2, 3, 1, 0] rfl)
def wb_X9_readErrors_78 (bc bs : Nat) (B36 : Nat → Nat → q_S → Nat → Option Nat → Int32 → Int32 → Prop) (u v : Nat) (S : q_S) (a0 : Nat) (r1 : Option Nat) (x2 : Int32) (x3 : Int32) (x4 : Int32) (Q : Option Value → q_S → Prop) (E : String → q_S → Prop) : Prop := ((((x2 >>> (x4 &&& 31)) &&& (1 : Int32)) = 0 → (wb_X9_readErrors_97 bc bs B36 u v S a0 r1 x2 x3 x4 Q E)) ∧ (¬ ((x2 >>> (x4 &&& 31)) &&& (1 : Int32)) = 0 → (q_K S a0 = 10 ∧ (∃ m41_ m42_ : Nat, (u + m41_ ≤ bc ∧ v + m42_ ≤ bs) ∧ (wm_X9_fail m41_ m42_ S a0 (7 : Int32) (q_I S 1811 a0) (fun r39_ S40_ => r39_ = none ∧ (wb_X9_readErrors_97 bc bs B36 (u + m41_) (v + m42_) S40_ a0 r1 x2 x3 x4 Q E)) E)))))
set_option maxHeartbeats 4000000 in
set_option maxRecDepth 100000 in
theorem cb_X9_readErrors_78 {p : Program} {l : Launch} {e : Env} {s : State} {m : MethodId} {args : Array Value} {below : List Frame} {meth : Method} {c : Code} {D : va_G} {cy : Nat → ClassId} {lo : Nat} {bc bs : Nat} {B36 : Nat → Nat → q_S → Nat → Option Nat → Int32 → Int32 → Prop} {u v : Nat} {S : q_S} {a0 : Nat} {r1 : Option Nat} {x2 : Int32} {x3 : Int32} {x4 : Int32} {Q : Option Value → q_S → Prop} {E : String → q_S → Prop} {H : Heap} {locs : List Loc} {ls : Array Slot} (X : q_X p s m args meth c RX9 cX9_readErrors 5 none D cy lo) (hex : ∀ x ∈ c.exceptionTable.toList, False) (hst : l.stackTraces = false) (hB36 : ∀ (u v : Nat) (S : q_S) (a0 : Nat) (r1 : Option Nat) (x2 : Int32) (x3 : Int32) (H : Heap) (locs : List Loc) (ls : Array Slot), B36 u v S a0 r1 x2 x3 → (u ≤ bc ∧ v ≤ bs) → q_Y D cy lo s S H locs → lv_has ls 5 [(0, .ref a0), (1, va_rf r1), (2, .int x2), (3, .int x3)] → W p l e ({ frames := 9, cells := bc, slots := bs, locals := 160 } : Room) s m args below meth c H locs u v (vx_MQ below (q_Q D cy lo Q) (q_XE D cy lo E) args s bc bs (fun q => lo ≤ q)) (F0 m 36 ls [])) (hu : u ≤ bc ∧ v ≤ bs) (Y : q_Y D cy lo s S H locs) (hl : lv_has ls 5 [(0, .ref a0), (1, va_rf r1), (2, .int x2), (3, .int x3), (4, .int x4)]) (h : wb_X9_readErrors_78 bc bs B36 u v S a0 r1 x2 x3 x4 Q E) : W p l e ({ frames := 9, cells := bc, slots := bs, locals := 160 } : Room) s m args below meth c H locs u v (vx_MQ below (q_Q D cy lo Q) (q_XE D cy lo E) args s bc bs (fun q => lo ≤ q)) (F0 m 78 ls []) := by
  have hx := X.1
  have hb := X.2.1
  unfold wb_X9_readErrors_78 at h
  refine lv_iload_n hx hb dX9_readErrors_78 rfl (lv_at hl 2 rfl) ?_
  refine lv_iload hx hb dX9_readErrors_79 (lv_at hl 4 rfl) ?_
  refine lv_ishr hx hb dX9_readErrors_81 ?_
  refine lv_iconst (v := 1) hx hb dX9_readErrors_82 (by decide) ?_
  refine lv_iand hx hb dX9_readErrors_83 ?_
  refine lv_if_eq (tgt := 97) hx hb dX9_readErrors_84 (by decide) (fun c37_ => ?_) (fun c37_ => ?_)
  · replace h := h.1 c37_
    exact cb_X9_readErrors_97 X hex hst hB36 hu Y (lv_sub hl [0, 1, 2, 3, 4] rfl) h
  · replace h := h.2 c37_
    refine lv_aload_n hx hb dX9_readErrors_87 rfl (lv_at hl 0 rfl) ?_
    refine lv_bipush (v := 7) hx hb dX9_readErrors_88 (by decide) ?_
    refine lv_aload_n hx hb dX9_readErrors_90 rfl (lv_at hl 0 rfl) ?_
    obtain ⟨k38_, h⟩ := h
    refine q_getI X Y kX9 11 rfl fl_X9_113 k38_ dX9_readErrors_91 ?_
    obtain ⟨m41_, m42_, w43_, h⟩ := h
    refine q_callVX X hex Y hl (cm_X9_fail hst h) mt_X9_fail mi_X9_fail ml_X9_133 (ci := 9) rfl k38_ (by decide) rfl rfl (by first | exact Nat.le_of_ble_eq_true rfl | simp [q_cat, q_catI, q_catJ, q_catR]) ⟨Nat.le_of_ble_eq_true rfl, Nat.le_of_ble_eq_true rfl⟩ w43_ w43_ dX9_readErrors_94 (fun r39_ S40_ H locs hp Y => ?_)
    obtain ⟨rfl, h⟩ := hp
    replace hu := w43_
    refine W.eq (g2 := F0 m 97 ls []) rfl ?_
    exact cb_X9_readErrors_97 X hex hst hB36 hu Y (lv_sub hl [0, 1, 2, 3, 4] rfl) h
def wb_X9_readErrors_57 (bc bs : Nat) (B36 : Nat → Nat → q_S → Nat → Option Nat → Int32 → Int32 → Prop) (u v : Nat) (S : q_S) (a0 : Nat) (r1 : Option Nat) (x2 : Int32) (x3 : Int32) (Q : Option Value → q_S → Prop) (E : String → q_S → Prop) : Prop := q_K S a0 = 10 ∧ (wm_X9_errorKind S a0 (fun r45_ S46_ => ∃ x47_ : Int32, r45_ = some (.int x47_) ∧ (((¬ x47_ = (-1 : Int32) → (wb_X9_readErrors_78 bc bs B36 u v S46_ a0 r1 x2 x3 x47_ Q E)) ∧ (x47_ = (-1 : Int32) → (q_K S46_ a0 = 10 ∧ (∃ m52_ m53_ : Nat, (u + m52_ ≤ bc ∧ v + m53_ ≤ bs) ∧ (wm_X9_fail m52_ m53_ S46_ a0 (1 : Int32) (q_I S46_ 1811 a0) (fun r50_ S51_ => r50_ = none ∧ (wb_X9_readErrors_78 bc bs B36 (u + m52_) (v + m53_) S51_ a0 r1 x2 x3 x47_ Q E)) E))))))))
set_option maxHeartbeats 4000000 in
set_option maxRecDepth 100000 in
theorem cb_X9_readErrors_57 {p : Program} {l : Launch} {e : Env} {s : State} {m : MethodId} {args : Array Value} {below : List Frame} {meth : Method} {c : Code} {D : va_G} {cy : Nat → ClassId} {lo : Nat} {bc bs : Nat} {B36 : Nat → Nat → q_S → Nat → Option Nat → Int32 → Int32 → Prop} {u v : Nat} {S : q_S} {a0 : Nat} {r1 : Option Nat} {x2 : Int32} {x3 : Int32} {Q : Option Value → q_S → Prop} {E : String → q_S → Prop} {H : Heap} {locs : List Loc} {ls : Array Slot} (X : q_X p s m args meth c RX9 cX9_readErrors 5 none D cy lo) (hex : ∀ x ∈ c.exceptionTable.toList, False) (hst : l.stackTraces = false) (hB36 : ∀ (u v : Nat) (S : q_S) (a0 : Nat) (r1 : Option Nat) (x2 : Int32) (x3 : Int32) (H : Heap) (locs : List Loc) (ls : Array Slot), B36 u v S a0 r1 x2 x3 → (u ≤ bc ∧ v ≤ bs) → q_Y D cy lo s S H locs → lv_has ls 5 [(0, .ref a0), (1, va_rf r1), (2, .int x2), (3, .int x3)] → W p l e ({ frames := 9, cells := bc, slots := bs, locals := 160 } : Room) s m args below meth c H locs u v (vx_MQ below (q_Q D cy lo Q) (q_XE D cy lo E) args s bc bs (fun q => lo ≤ q)) (F0 m 36 ls [])) (hu : u ≤ bc ∧ v ≤ bs) (Y : q_Y D cy lo s S H locs) (hl : lv_has ls 5 [(0, .ref a0), (1, va_rf r1), (2, .int x2), (3, .int x3)]) (h : wb_X9_readErrors_57 bc bs B36 u v S a0 r1 x2 x3 Q E) : W p l e ({ frames := 9, cells := bc, slots := bs, locals := 160 } : Room) s m args below meth c H locs u v (vx_MQ below (q_Q D cy lo Q) (q_XE D cy lo E) args s bc bs (fun q => lo ≤ q)) (F0 m 57 ls []) := by
  have hx := X.1
  have hb := X.2.1
  unfold wb_X9_readErrors_57 at h
  refine lv_aload_n hx hb dX9_readErrors_57 rfl (lv_at hl 0 rfl) ?_
  obtain ⟨k44_, h⟩ := h
  refine q_callV X Y hl (cm_X9_errorKind h) mt_X9_errorKind mi_X9_errorKind ml_X9_307 (ci := 9) rfl k44_ (by decide) rfl rfl (by first | exact Nat.le_of_ble_eq_true rfl | simp [q_cat, q_catI, q_catJ, q_catR]) ⟨Nat.le_of_ble_eq_true rfl, Nat.le_of_ble_eq_true rfl⟩ hu dX9_readErrors_58 (fun r45_ S46_ H locs hp Y => ?_)
  obtain ⟨x47_, rfl, h⟩ := hp
  refine W.eq (g2 := F0 m 61 ls [.int x47_]) rfl ?_
  refine lv_istore (i := 4) (lv' := [(4, .int x47_), (0, .ref a0), (1, va_rf r1), (2, .int x2), (3, .int x3)]) hx hb dX9_readErrors_61 hl (by decide) (by first | rfl | simp [q_cat, q_catI, q_catJ, q_catR]) (fun ls hl => ?_)
  refine lv_iload hx hb dX9_readErrors_63 (lv_at hl 0 rfl) ?_
  refine lv_iconst (v := (-1)) hx hb dX9_readErrors_65 (by decide) ?_
  refine lv_icmp_ne (tgt := 78) hx hb dX9_readErrors_66 (by decide) (fun c48_ => ?_) (fun c48_ => ?_)
  · replace h := h.1 c48_
    exact cb_X9_readErrors_78 X hex hst hB36 hu Y (lv_sub hl [1, 2, 3, 4, 0] rfl) h
  · replace h := h.2 c48_
    refine lv_aload_n hx hb dX9_readErrors_69 rfl (lv_at hl 1 rfl) ?_
    refine lv_iconst (v := 1) hx hb dX9_readErrors_70 (by decide) ?_
    refine lv_aload_n hx hb dX9_readErrors_71 rfl (lv_at hl 1 rfl) ?_
    obtain ⟨k49_, h⟩ := h
    refine q_getI X Y kX9 11 rfl fl_X9_113 k49_ dX9_readErrors_72 ?_
    obtain ⟨m52_, m53_, w54_, h⟩ := h
    refine q_callVX X hex Y hl (cm_X9_fail hst h) mt_X9_fail mi_X9_fail ml_X9_133 (ci := 9) rfl k49_ (by decide) rfl rfl (by first | exact Nat.le_of_ble_eq_true rfl | simp [q_cat, q_catI, q_catJ, q_catR]) ⟨Nat.le_of_ble_eq_true rfl, Nat.le_of_ble_eq_true rfl⟩ w54_ w54_ dX9_readErrors_75 (fun r50_ S51_ H locs hp Y => ?_)
    obtain ⟨rfl, h⟩ := hp
    replace hu := w54_
    refine W.eq (g2 := F0 m 78 ls []) rfl ?_
    exact cb_X9_readErrors_78 X hex hst hB36 hu Y (lv_sub hl [1, 2, 3, 4, 0] rfl) h
def wb_X9_readErrors_36 (bc bs : Nat) (B36 : Nat → Nat → q_S → Nat → Option Nat → Int32 → Int32 → Prop) (u v : Nat) (S : q_S) (a0 : Nat) (r1 : Option Nat) (x2 : Int32) (x3 : Int32) (Q : Option Value → q_S → Prop) (E : String → q_S → Prop) : Prop := (((5 : Int32) < x3 → (wb_X9_readErrors_136 bc bs u v S a0 Q E)) ∧ (¬ (5 : Int32) < x3 → (((x3 ≤ 0 → (wb_X9_readErrors_57 bc bs B36 u v S a0 r1 x2 x3 Q E)) ∧ (¬ x3 ≤ 0 → (q_K S a0 = 10 ∧ (wm_X9_seesSign S a0 (125 : Int32) (fun r58_ S59_ => ∃ x60_ : Int32, r58_ = some (.int x60_) ∧ (((x60_ = 0 → (wb_X9_readErrors_57 bc bs B36 u v S59_ a0 r1 x2 x3 Q E)) ∧ (¬ x60_ = 0 → (wb_X9_readErrors_136 bc bs u v S59_ a0 Q E))))))))))))
set_option maxHeartbeats 4000000 in
set_option maxRecDepth 100000 in
theorem cb_X9_readErrors_36 {p : Program} {l : Launch} {e : Env} {s : State} {m : MethodId} {args : Array Value} {below : List Frame} {meth : Method} {c : Code} {D : va_G} {cy : Nat → ClassId} {lo : Nat} {bc bs : Nat} {B36 : Nat → Nat → q_S → Nat → Option Nat → Int32 → Int32 → Prop} {u v : Nat} {S : q_S} {a0 : Nat} {r1 : Option Nat} {x2 : Int32} {x3 : Int32} {Q : Option Value → q_S → Prop} {E : String → q_S → Prop} {H : Heap} {locs : List Loc} {ls : Array Slot} (X : q_X p s m args meth c RX9 cX9_readErrors 5 none D cy lo) (hex : ∀ x ∈ c.exceptionTable.toList, False) (hst : l.stackTraces = false) (hB36 : ∀ (u v : Nat) (S : q_S) (a0 : Nat) (r1 : Option Nat) (x2 : Int32) (x3 : Int32) (H : Heap) (locs : List Loc) (ls : Array Slot), B36 u v S a0 r1 x2 x3 → (u ≤ bc ∧ v ≤ bs) → q_Y D cy lo s S H locs → lv_has ls 5 [(0, .ref a0), (1, va_rf r1), (2, .int x2), (3, .int x3)] → W p l e ({ frames := 9, cells := bc, slots := bs, locals := 160 } : Room) s m args below meth c H locs u v (vx_MQ below (q_Q D cy lo Q) (q_XE D cy lo E) args s bc bs (fun q => lo ≤ q)) (F0 m 36 ls [])) (hu : u ≤ bc ∧ v ≤ bs) (Y : q_Y D cy lo s S H locs) (hl : lv_has ls 5 [(0, .ref a0), (1, va_rf r1), (2, .int x2), (3, .int x3)]) (h : wb_X9_readErrors_36 bc bs B36 u v S a0 r1 x2 x3 Q E) : W p l e ({ frames := 9, cells := bc, slots := bs, locals := 160 } : Room) s m args below meth c H locs u v (vx_MQ below (q_Q D cy lo Q) (q_XE D cy lo E) args s bc bs (fun q => lo ≤ q)) (F0 m 36 ls []) := by
  have hx := X.1
  have hb := X.2.1
  unfold wb_X9_readErrors_36 at h
  refine lv_iload_n hx hb dX9_readErrors_36 rfl (lv_at hl 3 rfl) ?_
  refine lv_iconst (v := 5) hx hb dX9_readErrors_37 (by decide) ?_
  refine lv_icmp_gt (tgt := 136) hx hb dX9_readErrors_38 (by decide) (fun c55_ => ?_) (fun c55_ => ?_)
  · replace h := h.1 c55_
    exact cb_X9_readErrors_136 X hex hst hu Y (lv_sub hl [0] rfl) h
  · replace h := h.2 c55_
    refine lv_iload_n hx hb dX9_readErrors_41 rfl (lv_at hl 3 rfl) ?_
    refine lv_if_le (tgt := 57) hx hb dX9_readErrors_42 (by decide) (fun c56_ => ?_) (fun c56_ => ?_)
    · replace h := h.1 c56_
      exact cb_X9_readErrors_57 X hex hst hB36 hu Y (lv_sub hl [0, 1, 2, 3] rfl) h
    · replace h := h.2 c56_
      refine lv_aload_n hx hb dX9_readErrors_45 rfl (lv_at hl 0 rfl) ?_
      refine lv_bipush (v := 125) hx hb dX9_readErrors_46 (by decide) ?_
      obtain ⟨k57_, h⟩ := h
      refine q_callV X Y hl (cm_X9_seesSign h) mt_X9_seesSign mi_X9_seesSign ml_X9_141 (ci := 9) rfl k57_ (by decide) rfl rfl (by first | exact Nat.le_of_ble_eq_true rfl | simp [q_cat, q_catI, q_catJ, q_catR]) ⟨Nat.le_of_ble_eq_true rfl, Nat.le_of_ble_eq_true rfl⟩ hu dX9_readErrors_48 (fun r58_ S59_ H locs hp Y => ?_)
      obtain ⟨x60_, rfl, h⟩ := hp
      refine W.eq (g2 := F0 m 51 ls [.int x60_]) rfl ?_
      refine lv_if_eq (tgt := 57) hx hb dX9_readErrors_51 (by decide) (fun c61_ => ?_) (fun c61_ => ?_)
      · replace h := h.1 c61_
        exact cb_X9_readErrors_57 X hex hst hB36 hu Y (lv_sub hl [0, 1, 2, 3] rfl) h
      · replace h := h.2 c61_
        refine lv_goto (tgt := 136) hx hb dX9_readErrors_54 (by decide) ?_
        exact cb_X9_readErrors_136 X hex hst hu Y (lv_sub hl [0] rfl) h
def wl_X9_readErrors_36 (bc bs : Nat)  : Nat → Nat → Nat → q_S → Nat → Option Nat → Int32 → Int32 → (Option Value → q_S → Prop) → (String → q_S → Prop) → Prop
  | 0, _, _, _, _, _, _, _, _, _ => False
  | n + 1, u, v, S, a0, r1, x2, x3, Q, E => wb_X9_readErrors_36 bc bs (fun u v S a0 r1 x2 x3 => wl_X9_readErrors_36 bc bs n u v S a0 r1 x2 x3 Q E) u v S a0 r1 x2 x3 Q E
set_option maxHeartbeats 4000000 in
set_option maxRecDepth 100000 in
theorem cl_X9_readErrors_36 {p : Program} {l : Launch} {e : Env} {s : State} {m : MethodId} {args : Array Value} {below : List Frame} {meth : Method} {c : Code} {D : va_G} {cy : Nat → ClassId} {lo : Nat} {bc bs : Nat}  {Q : Option Value → q_S → Prop} {E : String → q_S → Prop} (X : q_X p s m args meth c RX9 cX9_readErrors 5 none D cy lo) (hex : ∀ x ∈ c.exceptionTable.toList, False) (hst : l.stackTraces = false)  : ∀ (n : Nat) (u v : Nat) (S : q_S) (a0 : Nat) (r1 : Option Nat) (x2 : Int32) (x3 : Int32) (H : Heap) (locs : List Loc) (ls : Array Slot), wl_X9_readErrors_36 bc bs n u v S a0 r1 x2 x3 Q E → (u ≤ bc ∧ v ≤ bs) → q_Y D cy lo s S H locs → lv_has ls 5 [(0, .ref a0), (1, va_rf r1), (2, .int x2), (3, .int x3)] → W p l e ({ frames := 9, cells := bc, slots := bs, locals := 160 } : Room) s m args below meth c H locs u v (vx_MQ below (q_Q D cy lo Q) (q_XE D cy lo E) args s bc bs (fun q => lo ≤ q)) (F0 m 36 ls []) := by
  intro n
  induction n with
  | zero => intro u v S a0 r1 x2 x3 H locs ls h; exact absurd h id
  | succ n ih => intro u v S a0 r1 x2 x3 H locs ls h hu Y hl; exact cb_X9_readErrors_36 X hex hst ih hu Y hl h
def wb_X9_readErrors_17 (bc bs : Nat)  (u v : Nat) (S : q_S) (a0 : Nat) (r1 : Option Nat) (Q : Option Value → q_S → Prop) (E : String → q_S → Prop) : Prop := q_K S a0 = 10 ∧ (∃ m65_ m66_ : Nat, (u + m65_ ≤ bc ∧ v + m66_ ≤ bs) ∧ (wm_X9_advance m65_ m66_ (qs_I S 1812 a0 (1 : Int32)) a0 (fun r63_ S64_ => r63_ = none ∧ (q_K S64_ a0 = 10 ∧ (∃ m71_ m72_ : Nat, ((u + m65_) + m71_ ≤ bc ∧ (v + m66_) + m72_ ≤ bs) ∧ (wm_X9_expectSign m71_ m72_ S64_ a0 (123 : Int32) (fun r69_ S70_ => r69_ = none ∧ (∃ n74_ : Nat, wl_X9_readErrors_36 bc bs n74_ ((u + m65_) + m71_) ((v + m66_) + m72_) S70_ a0 r1 (0 : Int32) (0 : Int32) Q E)) E)))) E))
set_option maxHeartbeats 4000000 in
set_option maxRecDepth 100000 in
theorem cb_X9_readErrors_17 {p : Program} {l : Launch} {e : Env} {s : State} {m : MethodId} {args : Array Value} {below : List Frame} {meth : Method} {c : Code} {D : va_G} {cy : Nat → ClassId} {lo : Nat} {bc bs : Nat}  {u v : Nat} {S : q_S} {a0 : Nat} {r1 : Option Nat} {Q : Option Value → q_S → Prop} {E : String → q_S → Prop} {H : Heap} {locs : List Loc} {ls : Array Slot} (X : q_X p s m args meth c RX9 cX9_readErrors 5 none D cy lo) (hex : ∀ x ∈ c.exceptionTable.toList, False) (hst : l.stackTraces = false)  (hu : u ≤ bc ∧ v ≤ bs) (Y : q_Y D cy lo s S H locs) (hl : lv_has ls 5 [(0, .ref a0), (1, va_rf r1)]) (h : wb_X9_readErrors_17 bc bs u v S a0 r1 Q E) : W p l e ({ frames := 9, cells := bc, slots := bs, locals := 160 } : Room) s m args below meth c H locs u v (vx_MQ below (q_Q D cy lo Q) (q_XE D cy lo E) args s bc bs (fun q => lo ≤ q)) (F0 m 17 ls []) := by
  have hx := X.1
  have hb := X.2.1
  unfold wb_X9_readErrors_17 at h
  refine lv_aload_n hx hb dX9_readErrors_17 rfl (lv_at hl 0 rfl) ?_
  refine lv_iconst (v := 1) hx hb dX9_readErrors_18 (by decide) ?_
  obtain ⟨k62_, h⟩ := h
  refine q_putI X Y kX9 12 rfl fl_X9_193 k62_ .boolean rfl ⟨rfl, rfl⟩ rfl dX9_readErrors_19 (fun H locs Y => ?_)
  refine lv_aload_n hx hb dX9_readErrors_22 rfl (lv_at hl 0 rfl) ?_
  obtain ⟨m65_, m66_, w67_, h⟩ := h
  refine q_callVX X hex Y hl (cm_X9_advance hst h) mt_X9_advance mi_X9_advance ml_X9_78 (ci := 9) rfl k62_ (by decide) rfl rfl (by first | exact Nat.le_of_ble_eq_true rfl | simp [q_cat, q_catI, q_catJ, q_catR]) ⟨Nat.le_of_ble_eq_true rfl, Nat.le_of_ble_eq_true rfl⟩ w67_ w67_ dX9_readErrors_23 (fun r63_ S64_ H locs hp Y => ?_)
  obtain ⟨rfl, h⟩ := hp
  replace hu := w67_
  refine W.eq (g2 := F0 m 26 ls []) rfl ?_
  refine lv_aload_n hx hb dX9_readErrors_26 rfl (lv_at hl 0 rfl) ?_
  refine lv_bipush (v := 123) hx hb dX9_readErrors_27 (by decide) ?_
  obtain ⟨k68_, h⟩ := h
  obtain ⟨m71_, m72_, w73_, h⟩ := h
  refine q_callVX X hex Y hl (cm_X9_expectSign hst h) mt_X9_expectSign mi_X9_expectSign ml_X9_160 (ci := 9) rfl k68_ (by decide) rfl rfl (by first | exact Nat.le_of_ble_eq_true rfl | simp [q_cat, q_catI, q_catJ, q_catR]) ⟨Nat.le_of_ble_eq_true rfl, Nat.le_of_ble_eq_true rfl⟩ w73_ w73_ dX9_readErrors_29 (fun r69_ S70_ H locs hp Y => ?_)
  obtain ⟨rfl, h⟩ := hp
  replace hu := w73_
  refine W.eq (g2 := F0 m 32 ls []) rfl ?_
  refine lv_iconst (v := 0) hx hb dX9_readErrors_32 (by decide) ?_
  refine lv_istore_n (i := 2) (lv' := [(2, .int (0 : Int32)), (0, .ref a0), (1, va_rf r1)]) hx hb dX9_readErrors_33 rfl hl (by decide) (by first | rfl | simp [q_cat, q_catI, q_catJ, q_catR]) (fun ls hl => ?_)
  refine lv_iconst (v := 0) hx hb dX9_readErrors_34 (by decide) ?_
  refine lv_istore_n (i := 3) (lv' := [(3, .int (0 : Int32)), (2, .int (0 : Int32)), (0, .ref a0), (1, va_rf r1)]) hx hb dX9_readErrors_35 rfl hl (by decide) (by first | rfl | simp [q_cat, q_catI, q_catJ, q_catR]) (fun ls hl => ?_)
  obtain ⟨n74_, h⟩ := h
  exact cl_X9_readErrors_36 X hex hst n74_ _ _ _ _ _ _ _ _ _ _ h hu Y (lv_sub hl [2, 3, 1, 0] rfl)
def wm_X9_readErrors (bc bs : Nat) (S : q_S) (a0 : Nat) (r1 : Option Nat) (Q : Option Value → q_S → Prop) (E : String → q_S → Prop) : Prop := q_K S a0 = 10 ∧ ((((q_I S 1812 a0) = 0 → (wb_X9_readErrors_17 bc bs 0 0 S a0 r1 Q E)) ∧ (¬ (q_I S 1812 a0) = 0 → (∃ m79_ m80_ : Nat, (0 + m79_ ≤ bc ∧ 0 + m80_ ≤ bs) ∧ (wm_X9_fail m79_ m80_ S a0 (7 : Int32) (q_I S 1811 a0) (fun r77_ S78_ => r77_ = none ∧ (wb_X9_readErrors_17 bc bs (0 + m79_) (0 + m80_) S78_ a0 r1 Q E)) E)))))
set_option maxHeartbeats 4000000 in
set_option maxRecDepth 100000 in
theorem cm_X9_readErrors {l : Launch} {D : va_G} {cy : Nat → ClassId} {lo : Nat} {bc bs : Nat} {S : q_S} {a0 : Nat} {r1 : Option Nat} {Q : Option Value → q_S → Prop} {E : String → q_S → Prop} (hst : l.stackTraces = false) (h : wm_X9_readErrors bc bs S a0 r1 Q E) : q_MetX l D cy lo yX9_readErrors cX9_readErrors 5 none 9 160 bc bs [.ref a0, va_rf r1] S Q E := by
  refine q_bodyX (by decide) (by first | exact Nat.le_of_ble_eq_true rfl | simp [lg_sl, q_cat, q_catI, q_catJ, q_catR]) ?_
  intro p e s m below meth c ls X hex Y hl
  have hx := X.1
  have hb := X.2.1
  have hl : lv_has ls 5 [(0, .ref a0), (1, va_rf r1)] := by first | exact hl | simpa [lv_args, q_cat, q_catI, q_catJ, q_catR] using hl
  generalize hargs : ([.ref a0, va_rf r1] : List Value).toArray = args at X ⊢
  have hu : 0 ≤ bc ∧ 0 ≤ bs := ⟨Nat.zero_le _, Nat.zero_le _⟩
  unfold wm_X9_readErrors at h
  refine lv_aload_n hx hb dX9_readErrors_0 rfl (lv_at hl 0 rfl) ?_
  obtain ⟨k75_, h⟩ := h
  refine q_getI X Y kX9 12 rfl fl_X9_193 k75_ dX9_readErrors_1 ?_
  refine lv_if_eq (tgt := 17) hx hb dX9_readErrors_4 (by decide) (fun c76_ => ?_) (fun c76_ => ?_)
  · replace h := h.1 c76_
    exact cb_X9_readErrors_17 X hex hst hu Y (lv_sub hl [0, 1] rfl) h
  · replace h := h.2 c76_
    refine lv_aload_n hx hb dX9_readErrors_7 rfl (lv_at hl 0 rfl) ?_
    refine lv_bipush (v := 7) hx hb dX9_readErrors_8 (by decide) ?_
    refine lv_aload_n hx hb dX9_readErrors_10 rfl (lv_at hl 0 rfl) ?_
    refine q_getI X Y kX9 11 rfl fl_X9_113 k75_ dX9_readErrors_11 ?_
    obtain ⟨m79_, m80_, w81_, h⟩ := h
    refine q_callVX X hex Y hl (cm_X9_fail hst h) mt_X9_fail mi_X9_fail ml_X9_133 (ci := 9) rfl k75_ (by decide) rfl rfl (by first | exact Nat.le_of_ble_eq_true rfl | simp [q_cat, q_catI, q_catJ, q_catR]) ⟨Nat.le_of_ble_eq_true rfl, Nat.le_of_ble_eq_true rfl⟩ w81_ w81_ dX9_readErrors_14 (fun r77_ S78_ H locs hp Y => ?_)
    obtain ⟨rfl, h⟩ := hp
    replace hu := w81_
    refine W.eq (g2 := F0 m 17 ls []) rfl ?_
    exact cb_X9_readErrors_17 X hex hst hu Y (lv_sub hl [0, 1] rfl) h
