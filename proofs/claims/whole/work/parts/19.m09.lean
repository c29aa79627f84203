-- X12_perhaps
theorem co_X12_401 : Cond.constant RX12 401 (100000) ∈ q_G := q_tb (i := 2189) (by decide +kernel) (by decide +kernel)
theorem dX12_perhaps_0 : decode cX12_perhaps 0 = .ok (.aload_n 0, 1) := by decide +kernel
theorem dX12_perhaps_1 : decode cX12_perhaps 1 = .ok (.iload_n 1, 1) := by decide +kernel
theorem dX12_perhaps_2 : decode cX12_perhaps 2 = .ok (.invokevirtual 344, 3) := by decide +kernel
theorem dX12_perhaps_5 : decode cX12_perhaps 5 = .ok (.ifCond .ne 5, 3) := by decide +kernel
theorem dX12_perhaps_8 : decode cX12_perhaps 8 = .ok (.iconst 0, 1) := by decide +kernel
theorem dX12_perhaps_9 : decode cX12_perhaps 9 = .ok (.ireturn, 1) := by decide +kernel
theorem dX12_perhaps_10 : decode cX12_perhaps 10 = .ok (.aload_n 0, 1) := by decide +kernel
theorem dX12_perhaps_11 : decode cX12_perhaps 11 = .ok (.invokevirtual 341, 3) := by decide +kernel
theorem dX12_perhaps_14 : decode cX12_perhaps 14 = .ok (.aload_n 0, 1) := by decide +kernel
theorem dX12_perhaps_15 : decode cX12_perhaps 15 = .ok (.iconst 1, 1) := by decide +kernel
theorem dX12_perhaps_16 : decode cX12_perhaps 16 = .ok (.ldc_w 401, 3) := by decide +kernel
theorem dX12_perhaps_19 : decode cX12_perhaps 19 = .ok (.iconst 1, 1) := by decide +kernel
theorem dX12_perhaps_20 : decode cX12_perhaps 20 = .ok (.invokevirtual 371, 3) := by decide +kernel
theorem dX12_perhaps_23 : decode cX12_perhaps 23 = .ok (.istore_n 2, 1) := by decide +kernel
theorem dX12_perhaps_24 : decode cX12_perhaps 24 = .ok (.aload_n 0, 1) := by decide +kernel
theorem dX12_perhaps_25 : decode cX12_perhaps 25 = .ok (.bipush 59, 2) := by decide +kernel
theorem dX12_perhaps_27 : decode cX12_perhaps 27 = .ok (.invokevirtual 365, 3) := by decide +kernel
theorem dX12_perhaps_30 : decode cX12_perhaps 30 = .ok (.pop, 1) := by decide +kernel
theorem dX12_perhaps_31 : decode cX12_perhaps 31 = .ok (.iload_n 2, 1) := by decide +kernel
theorem dX12_perhaps_32 : decode cX12_perhaps 32 = .ok (.ireturn, 1) := by decide +kernel
def wm_X12_perhaps (S : q_S) (a0 : Nat) (x1 : Int32) (Q : Option Value → q_S → Prop) : Prop := q_K S a0 = 13 ∧ (wm_X12_isKey S a0 x1 (fun r2_ S3_ => ∃ x4_ : Int32, r2_ = some (.int x4_) ∧ (((¬ x4_ = 0 → (q_K S3_ a0 = 13 ∧ (wm_X12_next S3_ a0 (fun r7_ S8_ => r7_ = none ∧ (q_K S8_ a0 = 13 ∧ (wm_X12_number S8_ a0 (1 : Int32) (100000 : Int32) (1 : Int32) (fun r10_ S11_ => ∃ x12_ : Int32, r10_ = some (.int x12_) ∧ (q_K S11_ a0 = 13 ∧ (wm_X12_sign S11_ a0 (59 : Int32) (fun r14_ S15_ => ∃ x16_ : Int32, r14_ = some (.int x16_) ∧ (Q (some (.int x12_)) S15_))))))))))) ∧ (x4_ = 0 → (Q (some (.int (0 : Int32))) S3_))))))
set_option maxHeartbeats 4000000 in
set_option maxRecDepth 100000 in
theorem cm_X12_perhaps {l : Launch} {D : va_G} {cy : Nat → ClassId} {lo : Nat} {S : q_S} {a0 : Nat} {x1 : Int32} {Q : Option Value → q_S → Prop} (h : wm_X12_perhaps S a0 x1 Q) : q_Met l D cy lo yX12_perhaps cX12_perhaps 3 (some .int) 7 157 0 0 [.ref a0, .int x1] S Q := by
  refine q_body (by decide) (by first | exact Nat.le_of_ble_eq_true rfl | simp [lg_sl, q_cat, q_catI, q_catJ, q_catR]) ?_
  intro p e s m below meth c ls X hnm Y hl
  have hx := X.1
  have hb := X.2.1
  have hl : lv_has ls 3 [(0, .ref a0), (1, .int x1)] := by first | exact hl | simpa [lv_args, q_cat, q_catI, q_catJ, q_catR] using hl
  generalize hargs : ([.ref a0, .int x1] : List Value).toArray = args at X ⊢
  unfold wm_X12_perhaps at h
  refine lv_aload_n hx hb dX12_perhaps_0 rfl (lv_at hl 0 rfl) ?_
  refine lv_iload_n hx hb dX12_perhaps_1 rfl (lv_at hl 1 rfl) ?_
  obtain ⟨k1_, h⟩ := h
  refine q_callV X Y hl (cm_X12_isKey h) mt_X12_isKey mi_X12_isKey ml_X12_344 (ci := 12) rfl k1_ (by decide) rfl rfl (by first | exact Nat.le_of_ble_eq_true rfl | simp [q_cat, q_catI, q_catJ, q_catR]) ⟨Nat.le_of_ble_eq_true rfl, Nat.le_of_ble_eq_true rfl⟩ ⟨Nat.le_of_ble_eq_true rfl, Nat.le_of_ble_eq_true rfl⟩ dX12_perhaps_2 (fun r2_ S3_ H locs hp Y => ?_)
  obtain ⟨x4_, rfl, h⟩ := hp
  refine W.eq (g2 := F0 m 5 ls [.int x4_]) rfl ?_
  refine lv_if_ne (tgt := 10) hx hb dX12_perhaps_5 (by decide) (fun c5_ => ?_) (fun c5_ => ?_)
  · replace h := h.1 c5_
    refine lv_aload_n hx hb dX12_perhaps_10 rfl (lv_at hl 0 rfl) ?_
    obtain ⟨k6_, h⟩ := h
    refine q_callV X Y hl (cm_X12_next h) mt_X12_next mi_X12_next ml_X12_341 (ci := 12) rfl k6_ (by decide) rfl rfl (by first | exact Nat.le_of_ble_eq_true rfl | simp [q_cat, q_catI, q_catJ, q_catR]) ⟨Nat.le_of_ble_eq_true rfl, Nat.le_of_ble_eq_true rfl⟩ ⟨Nat.le_of_ble_eq_true rfl, Nat.le_of_ble_eq_true rfl⟩ dX12_perhaps_11 (fun r7_ S8_ H locs hp Y => ?_)
    obtain ⟨rfl, h⟩ := hp
    refine W.eq (g2 := F0 m 14 ls []) rfl ?_
    refine lv_aload_n hx hb dX12_perhaps_14 rfl (lv_at hl 0 rfl) ?_
    refine lv_iconst (v := 1) hx hb dX12_perhaps_15 (by decide) ?_
    refine lv_ldcw (v := 100000) hx hb X.2.2.2.1 (X.2.2.2.2.1 _ co_X12_401) dX12_perhaps_16 ?_
    refine lv_iconst (v := 1) hx hb dX12_perhaps_19 (by decide) ?_
    obtain ⟨k9_, h⟩ := h
    refine q_callV X Y hl (cm_X12_number h) mt_X12_number mi_X12_number ml_X12_371 (ci := 12) rfl k9_ (by decide) rfl rfl (by first | exact Nat.le_of_ble_eq_true rfl | simp [q_cat, q_catI, q_catJ, q_catR]) ⟨Nat.le_of_ble_eq_true rfl, Nat.le_of_ble_eq_true rfl⟩ ⟨Nat.le_of_ble_eq_true rfl, Nat.le_of_ble_eq_true rfl⟩ dX12_perhaps_20 (fun r10_ S11_ H locs hp Y => ?_)
    obtain ⟨x12_, rfl, h⟩ := hp
    refine W.eq (g2 := F0 m 23 ls [.int x12_]) rfl ?_
    refine lv_istore_n (i := 2) (lv' := [(2, .int x12_), (0, .ref a0), (1, .int x1)]) hx hb dX12_perhaps_23 rfl hl (by decide) (by first | rfl | simp [q_cat, q_catI, q_catJ, q_catR]) (fun ls hl => ?_)
    refine lv_aload_n hx hb dX12_perhaps_24 rfl (lv_at hl 1 rfl) ?_
    refine lv_bipush (v := 59) hx hb dX12_perhaps_25 (by decide) ?_
    obtain ⟨k13_, h⟩ := h
    refine q_callV X Y hl (cm_X12_sign h) mt_X12_sign mi_X12_sign ml_X12_365 (ci := 12) rfl k13_ (by decide) rfl rfl (by first | exact Nat.le_of_ble_eq_true rfl | simp [q_cat, q_catI, q_catJ, q_catR]) ⟨Nat.le_of_ble_eq_true rfl, Nat.le_of_ble_eq_true rfl⟩ ⟨Nat.le_of_ble_eq_true rfl, Nat.le_of_ble_eq_true rfl⟩ dX12_perhaps_27 (fun r14_ S15_ H locs hp Y => ?_)
    obtain ⟨x16_, rfl, h⟩ := hp
    refine W.eq (g2 := F0 m 30 ls [.int x16_]) rfl ?_
    refine lv_pop hx hb dX12_perhaps_30 rfl ?_
    refine lv_iload_n hx hb dX12_perhaps_31 rfl (lv_at hl 0 rfl) ?_
    exact q_iret X Y rfl (Nat.le_refl _) (Nat.le_refl _) h dX12_perhaps_32
  · replace h := h.2 c5_
    refine lv_iconst (v := 0) hx hb dX12_perhaps_8 (by decide) ?_
    exact q_iret X Y rfl (Nat.le_refl _) (Nat.le_refl _) h dX12_perhaps_9
-- X12_readProcess
theorem ml_X12_388 : Cond.methodLink RX12 388 yX12_newThing ∈ q_G := q_tb (i := 2177) (by decide +kernel) (by decide +kernel)
theorem mt_X12_newThing : q_Mt yX12_newThing cX12_newThing 6 (some .int) 3 := ⟨q_tb (i := 2180) (by decide +kernel) (by decide +kernel), q_tb (i := 11) (by decide +kernel) (by decide +kernel), by decide +kernel, by decide +kernel, by decide +kernel⟩
theorem mi_X12_newThing : Cond.instanceMethod yX12_newThing ∈ q_G ∧ Cond.selects yX12_newThing.cls yX12_newThing yX12_newThing ∈ q_G := ⟨q_tb (i := 2179) (by decide +kernel) (by decide +kernel), q_tp (i := 106) (q := (yX12_newThing, 114)) (by decide +kernel) (by decide +kernel)⟩
theorem ml_X12_368 : Cond.methodLink RX12 368 yX12_key ∈ q_G := q_tb (i := 2157) (by decide +kernel) (by decide +kernel)
theorem mt_X12_key : q_Mt yX12_key cX12_key 2 (some .boolean) 1 := ⟨q_tb (i := 2160) (by decide +kernel) (by decide +kernel), q_tb (i := 11) (by decide +kernel) (by decide +kernel), by decide +kernel, by decide +kernel, by decide +kernel⟩
theorem mi_X12_key : Cond.instanceMethod yX12_key ∈ q_G ∧ Cond.selects yX12_key.cls yX12_key yX12_key ∈ q_G := ⟨q_tb (i := 2159) (by decide +kernel) (by decide +kernel), q_tp (i := 101) (q := (yX12_key, 114)) (by decide +kernel) (by decide +kernel)⟩
theorem ml_X12_402 : Cond.methodLink RX12 402 yX12_perhaps ∈ q_G := q_tb (i := 2185) (by decide +kernel) (by decide +kernel)
theorem mt_X12_perhaps : q_Mt yX12_perhaps cX12_perhaps 3 (some .int) 1 := ⟨q_tb (i := 2188) (by decide +kernel) (by decide +kernel), q_tb (i := 11) (by decide +kernel) (by decide +kernel), by decide +kernel, by decide +kernel, by decide +kernel⟩
theorem mi_X12_perhaps : Cond.instanceMethod yX12_perhaps ∈ q_G ∧ Cond.selects yX12_perhaps.cls yX12_perhaps yX12_perhaps ∈ q_G := ⟨q_tb (i := 2187) (by decide +kernel) (by decide +kernel), q_tp (i := 108) (q := (yX12_perhaps, 114)) (by decide +kernel) (by decide +kernel)⟩
theorem dX12_readProcess_0 : decode cX12_readProcess 0 = .ok (.aload_n 0, 1) := by decide +kernel
theorem dX12_readProcess_1 : decode cX12_readProcess 1 = .ok (.iload_n 1, 1) := by decide +kernel
theorem dX12_readProcess_2 : decode cX12_readProcess 2 = .ok (.iconst 5, 1) := by decide +kernel
theorem dX12_readProcess_3 : decode cX12_readProcess 3 = .ok (.bipush 16, 2) := by decide +kernel
theorem dX12_readProcess_5 : decode cX12_readProcess 5 = .ok (.invokevirtual 388, 3) := by decide +kernel
theorem dX12_readProcess_8 : decode cX12_readProcess 8 = .ok (.istore_n 2, 1) := by decide +kernel
theorem dX12_readProcess_9 : decode cX12_readProcess 9 = .ok (.bipush 16, 2) := by decide +kernel
theorem dX12_readProcess_11 : decode cX12_readProcess 11 = .ok (.iload_n 1, 1) := by decide +kernel
theorem dX12_readProcess_12 : decode cX12_readProcess 12 = .ok (.imul, 1) := by decide +kernel
theorem dX12_readProcess_13 : decode cX12_readProcess 13 = .ok (.iload_n 2, 1) := by decide +kernel
theorem dX12_readProcess_14 : decode cX12_readProcess 14 = .ok (.iadd, 1) := by decide +kernel
theorem dX12_readProcess_15 : decode cX12_readProcess 15 = .ok (.istore_n 3, 1) := by decide +kernel
theorem dX12_readProcess_16 : decode cX12_readProcess 16 = .ok (.aload_n 0, 1) := by decide +kernel
theorem dX12_readProcess_17 : decode cX12_readProcess 17 = .ok (.bipush 123, 2) := by decide +kernel
theorem dX12_readProcess_19 : decode cX12_readProcess 19 = .ok (.invokevirtual 365, 3) := by decide +kernel
theorem dX12_readProcess_22 : decode cX12_readProcess 22 = .ok (.pop, 1) := by decide +kernel
theorem dX12_readProcess_23 : decode cX12_readProcess 23 = .ok (.aload_n 0, 1) := by decide +kernel
theorem dX12_readProcess_24 : decode cX12_readProcess 24 = .ok (.bipush 8, 2) := by decide +kernel
theorem dX12_readProcess_26 : decode cX12_readProcess 26 = .ok (.invokevirtual 368, 3) := by decide +kernel
theorem dX12_readProcess_29 : decode cX12_readProcess 29 = .ok (.pop, 1) := by decide +kernel
theorem dX12_readProcess_30 : decode cX12_readProcess 30 = .ok (.aload_n 0, 1) := by decide +kernel
theorem dX12_readProcess_31 : decode cX12_readProcess 31 = .ok (.getfield 63, 3) := by decide +kernel
theorem dX12_readProcess_34 : decode cX12_readProcess 34 = .ok (.iload_n 3, 1) := by decide +kernel
theorem dX12_readProcess_35 : decode cX12_readProcess 35 = .ok (.aload_n 0, 1) := by decide +kernel
theorem dX12_readProcess_36 : decode cX12_readProcess 36 = .ok (.iconst 0, 1) := by decide +kernel
theorem dX12_readProcess_37 : decode cX12_readProcess 37 = .ok (.aload_n 0, 1) := by decide +kernel
theorem dX12_readProcess_38 : decode cX12_readProcess 38 = .ok (.getfield 30, 3) := by decide +kernel
theorem dX12_readProcess_41 : decode cX12_readProcess 41 = .ok (.iload_n 1, 1) := by decide +kernel
theorem dX12_readProcess_42 : decode cX12_readProcess 42 = .ok (.iaload, 1) := by decide +kernel
theorem dX12_readProcess_43 : decode cX12_readProcess 43 = .ok (.iconst 1, 1) := by decide +kernel
theorem dX12_readProcess_44 : decode cX12_readProcess 44 = .ok (.isub, 1) := by decide +kernel
theorem dX12_readProcess_45 : decode cX12_readProcess 45 = .ok (.iconst 4, 1) := by decide +kernel
theorem dX12_readProcess_46 : decode cX12_readProcess 46 = .ok (.invokevirtual 371, 3) := by decide +kernel
theorem dX12_readProcess_49 : decode cX12_readProcess 49 = .ok (.iastore, 1) := by decide +kernel
theorem dX12_readProcess_50 : decode cX12_readProcess 50 = .ok (.aload_n 0, 1) := by decide +kernel
theorem dX12_readProcess_51 : decode cX12_readProcess 51 = .ok (.bipush 59, 2) := by decide +kernel
theorem dX12_readProcess_53 : decode cX12_readProcess 53 = .ok (.invokevirtual 365, 3) := by decide +kernel
theorem dX12_readProcess_56 : decode cX12_readProcess 56 = .ok (.pop, 1) := by decide +kernel
theorem dX12_readProcess_57 : decode cX12_readProcess 57 = .ok (.aload_n 0, 1) := by decide +kernel
theorem dX12_readProcess_58 : decode cX12_readProcess 58 = .ok (.bipush 9, 2) := by decide +kernel
theorem dX12_readProcess_60 : decode cX12_readProcess 60 = .ok (.invokevirtual 368, 3) := by decide +kernel
theorem dX12_readProcess_63 : decode cX12_readProcess 63 = .ok (.pop, 1) := by decide +kernel
theorem dX12_readProcess_64 : decode cX12_readProcess 64 = .ok (.aload_n 0, 1) := by decide +kernel
theorem dX12_readProcess_65 : decode cX12_readProcess 65 = .ok (.getfield 66, 3) := by decide +kernel
theorem dX12_readProcess_68 : decode cX12_readProcess 68 = .ok (.iload_n 3, 1) := by decide +kernel
theorem dX12_readProcess_69 : decode cX12_readProcess 69 = .ok (.aload_n 0, 1) := by decide +kernel
theorem dX12_readProcess_70 : decode cX12_readProcess 70 = .ok (.iconst 0, 1) := by decide +kernel
theorem dX12_readProcess_71 : decode cX12_readProcess 71 = .ok (.bipush 15, 2) := by decide +kernel
theorem dX12_readProcess_73 : decode cX12_readProcess 73 = .ok (.iconst 1, 1) := by decide +kernel
theorem dX12_readProcess_74 : decode cX12_readProcess 74 = .ok (.invokevirtual 371, 3) := by decide +kernel
theorem dX12_readProcess_77 : decode cX12_readProcess 77 = .ok (.iastore, 1) := by decide +kernel
theorem dX12_readProcess_78 : decode cX12_readProcess 78 = .ok (.aload_n 0, 1) := by decide +kernel
theorem dX12_readProcess_79 : decode cX12_readProcess 79 = .ok (.bipush 59, 2) := by decide +kernel
theorem dX12_readProcess_81 : decode cX12_readProcess 81 = .ok (.invokevirtual 365, 3) := by decide +kernel
theorem dX12_readProcess_84 : decode cX12_readProcess 84 = .ok (.pop, 1) := by decide +kernel
theorem dX12_readProcess_85 : decode cX12_readProcess 85 = .ok (.aload_n 0, 1) := by decide +kernel
theorem dX12_readProcess_86 : decode cX12_readProcess 86 = .ok (.getfield 69, 3) := by decide +kernel
theorem dX12_readProcess_89 : decode cX12_readProcess 89 = .ok (.iload_n 3, 1) := by decide +kernel
theorem dX12_readProcess_90 : decode cX12_readProcess 90 = .ok (.aload_n 0, 1) := by decide +kernel
theorem dX12_readProcess_91 : decode cX12_readProcess 91 = .ok (.bipush 10, 2) := by decide +kernel
theorem dX12_readProcess_93 : decode cX12_readProcess 93 = .ok (.invokevirtual 402, 3) := by decide +kernel
theorem dX12_readProcess_96 : decode cX12_readProcess 96 = .ok (.iastore, 1) := by decide +kernel
theorem dX12_readProcess_97 : decode cX12_readProcess 97 = .ok (.aload_n 0, 1) := by decide +kernel
theorem dX12_readProcess_98 : decode cX12_readProcess 98 = .ok (.getfield 72, 3) := by decide +kernel
theorem dX12_readProcess_101 : decode cX12_readProcess 101 = .ok (.iload_n 3, 1) := by decide +kernel
theorem dX12_readProcess_102 : decode cX12_readProcess 102 = .ok (.aload_n 0, 1) := by decide +kernel
theorem dX12_readProcess_103 : decode cX12_readProcess 103 = .ok (.bipush 11, 2) := by decide +kernel
theorem dX12_readProcess_105 : decode cX12_readProcess 105 = .ok (.invokevirtual 402, 3) := by decide +kernel
theorem dX12_readProcess_108 : decode cX12_readProcess 108 = .ok (.iastore, 1) := by decide +kernel
theorem dX12_readProcess_109 : decode cX12_readProcess 109 = .ok (.aload_n 0, 1) := by decide +kernel
theorem dX12_readProcess_110 : decode cX12_readProcess 110 = .ok (.getfield 75, 3) := by decide +kernel
theorem dX12_readProcess_113 : decode cX12_readProcess 113 = .ok (.iload_n 3, 1) := by decide +kernel
theorem dX12_readProcess_114 : decode cX12_readProcess 114 = .ok (.aload_n 0, 1) := by decide +kernel
theorem dX12_readProcess_115 : decode cX12_readProcess 115 = .ok (.bipush 12, 2) := by decide +kernel
theorem dX12_readProcess_117 : decode cX12_readProcess 117 = .ok (.invokevirtual 402, 3) := by decide +kernel
theorem dX12_readProcess_120 : decode cX12_readProcess 120 = .ok (.iastore, 1) := by decide +kernel
theorem dX12_readProcess_121 : decode cX12_readProcess 121 = .ok (.aload_n 0, 1) := by decide +kernel
theorem dX12_readProcess_122 : decode cX12_readProcess 122 = .ok (.bipush 13, 2) := by decide +kernel
theorem dX12_readProcess_124 : decode cX12_readProcess 124 = .ok (.invokevirtual 344, 3) := by decide +kernel
theorem dX12_readProcess_127 : decode cX12_readProcess 127 = .ok (.ifCond .eq 43, 3) := by decide +kernel
theorem dX12_readProcess_130 : decode cX12_readProcess 130 = .ok (.aload_n 0, 1) := by decide +kernel
theorem dX12_readProcess_131 : decode cX12_readProcess 131 = .ok (.getfield 82, 3) := by decide +kernel
theorem dX12_readProcess_134 : decode cX12_readProcess 134 = .ok (.iload_n 1, 1) := by decide +kernel
theorem dX12_readProcess_135 : decode cX12_readProcess 135 = .ok (.iaload, 1) := by decide +kernel
theorem dX12_readProcess_136 : decode cX12_readProcess 136 = .ok (.iconst (-1), 1) := by decide +kernel
theorem dX12_readProcess_137 : decode cX12_readProcess 137 = .ok (.if_icmp .eq 15, 3) := by decide +kernel
theorem dX12_readProcess_140 : decode cX12_readProcess 140 = .ok (.aload_n 0, 1) := by decide +kernel
theorem dX12_readProcess_141 : decode cX12_readProcess 141 = .ok (.bipush 7, 2) := by decide +kernel
theorem dX12_readProcess_143 : decode cX12_readProcess 143 = .ok (.aload_n 0, 1) := by decide +kernel
theorem dX12_readProcess_144 : decode cX12_readProcess 144 = .ok (.getfield 287, 3) := by decide +kernel
theorem dX12_readProcess_147 : decode cX12_readProcess 147 = .ok (.invokevirtual 331, 3) := by decide +kernel
theorem dX12_readProcess_150 : decode cX12_readProcess 150 = .ok (.pop, 1) := by decide +kernel
theorem dX12_readProcess_151 : decode cX12_readProcess 151 = .ok (.return_, 1) := by decide +kernel
theorem dX12_readProcess_152 : decode cX12_readProcess 152 = .ok (.aload_n 0, 1) := by decide +kernel
theorem dX12_readProcess_153 : decode cX12_readProcess 153 = .ok (.getfield 82, 3) := by decide +kernel
theorem dX12_readProcess_156 : decode cX12_readProcess 156 = .ok (.iload_n 1, 1) := by decide +kernel
theorem dX12_readProcess_157 : decode cX12_readProcess 157 = .ok (.iload_n 3, 1) := by decide +kernel
theorem dX12_readProcess_158 : decode cX12_readProcess 158 = .ok (.iastore, 1) := by decide +kernel
theorem dX12_readProcess_159 : decode cX12_readProcess 159 = .ok (.aload_n 0, 1) := by decide +kernel
theorem dX12_readProcess_160 : decode cX12_readProcess 160 = .ok (.invokevirtual 341, 3) := by decide +kernel
theorem dX12_readProcess_163 : decode cX12_readProcess 163 = .ok (.aload_n 0, 1) := by decide +kernel
theorem dX12_readProcess_164 : decode cX12_readProcess 164 = .ok (.bipush 59, 2) := by decide +kernel
theorem dX12_readProcess_166 : decode cX12_readProcess 166 = .ok (.invokevirtual 365, 3) := by decide +kernel
theorem dX12_readProcess_169 : decode cX12_readProcess 169 = .ok (.pop, 1) := by decide +kernel
theorem dX12_readProcess_170 : decode cX12_readProcess 170 = .ok (.aload_n 0, 1) := by decide +kernel
theorem dX12_readProcess_171 : decode cX12_readProcess 171 = .ok (.getfield 78, 3) := by decide +kernel
theorem dX12_readProcess_174 : decode cX12_readProcess 174 = .ok (.iload_n 3, 1) := by decide +kernel
theorem dX12_readProcess_175 : decode cX12_readProcess 175 = .ok (.aload_n 0, 1) := by decide +kernel
theorem dX12_readProcess_176 : decode cX12_readProcess 176 = .ok (.bipush 14, 2) := by decide +kernel
theorem dX12_readProcess_178 : decode cX12_readProcess 178 = .ok (.invokevirtual 344, 3) := by decide +kernel
theorem dX12_readProcess_181 : decode cX12_readProcess 181 = .ok (.bastore, 1) := by decide +kernel
theorem dX12_readProcess_182 : decode cX12_readProcess 182 = .ok (.aload_n 0, 1) := by decide +kernel
theorem dX12_readProcess_183 : decode cX12_readProcess 183 = .ok (.getfield 78, 3) := by decide +kernel
theorem dX12_readProcess_186 : decode cX12_readProcess 186 = .ok (.iload_n 3, 1) := by decide +kernel
theorem dX12_readProcess_187 : decode cX12_readProcess 187 = .ok (.baload, 1) := by decide +kernel
theorem dX12_readProcess_188 : decode cX12_readProcess 188 = .ok (.ifCond .eq 14, 3) := by decide +kernel
theorem dX12_readProcess_191 : decode cX12_readProcess 191 = .ok (.aload_n 0, 1) := by decide +kernel
theorem dX12_readProcess_192 : decode cX12_readProcess 192 = .ok (.invokevirtual 341, 3) := by decide +kernel
theorem dX12_readProcess_195 : decode cX12_readProcess 195 = .ok (.aload_n 0, 1) := by decide +kernel
theorem dX12_readProcess_196 : decode cX12_readProcess 196 = .ok (.bipush 59, 2) := by decide +kernel
theorem dX12_readProcess_198 : decode cX12_readProcess 198 = .ok (.invokevirtual 365, 3) := by decide +kernel
theorem dX12_readProcess_201 : decode cX12_readProcess 201 = .ok (.pop, 1) := by decide +kernel
theorem dX12_readProcess_202 : decode cX12_readProcess 202 = .ok (.aload_n 0, 1) := by decide +kernel
theorem dX12_readProcess_203 : decode cX12_readProcess 203 = .ok (.bipush 125, 2) := by decide +kernel
theorem dX12_readProcess_205 : decode cX12_readProcess 205 = .ok (.invokevirtual 365, 3) := by decide +kernel
theorem dX12_readProcess_208 : decode cX12_readProcess 208 = .ok (.pop, 1) := by decide +kernel
theorem dX12_readProcess_209 : decode cX12_readProcess 209 = .ok (.return_, 1) := by decide +kernel
def wb_X12_readProcess_202  (S : q_S) (a0 : Nat) (Q : Option Value → q_S → Prop) : Prop := q_K S a0 = 13 ∧ (wm_X12_sign S a0 (125 : Int32) (fun r2_ S3_ => ∃ x4_ : Int32, r2_ = some (.int x4_) ∧ (Q none S3_)))
set_option maxHeartbeats 4000000 in
set_option maxRecDepth 100000 in
theorem cb_X12_readProcess_202 {p : Program} {l : Launch} {e : Env} {s : State} {m : MethodId} {args : Array Value} {below : List Frame} {meth : Method} {c : Code} {D : va_G} {cy : Nat → ClassId} {lo : Nat}  {S : q_S} {a0 : Nat} {Q : Option Value → q_S → Prop} {H : Heap} {locs : List Loc} {ls : Array Slot} (X : q_X p s m args meth c RX12 cX12_readProcess 4 none D cy lo)  (Y : q_Y D cy lo s S H locs) (hl : lv_has ls 4 [(0, .ref a0)]) (h : wb_X12_readProcess_202 S a0 Q) : W p l e ({ frames := 8, cells := 0, slots := 0, locals := 179 } : Room) s m args below meth c H locs 0 0 (MQ below (q_Q D cy lo Q) args s 0 0 (fun q => lo ≤ q)) (F0 m 202 ls []) := by
  have hx := X.1
  have hb := X.2.1
  unfold wb_X12_readProcess_202 at h
  refine lv_aload_n hx hb dX12_readProcess_202 rfl (lv_at hl 0 rfl) ?_
  refine lv_bipush (v := 125) hx hb dX12_readProcess_203 (by decide) ?_
  obtain ⟨k1_, h⟩ := h
  refine q_callV X Y hl (cm_X12_sign h) mt_X12_sign mi_X12_sign ml_X12_365 (ci := 12) rfl k1_ (by decide) rfl rfl (by first | exact Nat.le_of_ble_eq_true rfl | simp [q_cat, q_catI, q_catJ, q_catR]) ⟨Nat.le_of_ble_eq_true rfl, Nat.le_of_ble_eq_true rfl⟩ ⟨Nat.le_of_ble_eq_true rfl, Nat.le_of_ble_eq_true rfl⟩ dX12_readProcess_205 (fun r2_ S3_ H locs hp Y => ?_)
  obtain ⟨x4_, rfl, h⟩ := hp
  refine W.eq (g2 := F0 m 208 ls [.int x4_]) rfl ?_
  refine lv_pop hx hb dX12_readProcess_208 rfl ?_
  exact q_vret X Y (Nat.le_refl _) (Nat.le_refl _) h dX12_readProcess_209
def wb_X12_readProcess_170  (S : q_S) (a0 : Nat) (x3 : Int32) (Q : Option Value → q_S → Prop) : Prop := q_K S a0 = 13 ∧ (wm_X12_isKey S a0 (14 : Int32) (fun r6_ S7_ => ∃ x8_ : Int32, r6_ = some (.int x8_) ∧ (∃ a9_ : Nat, (q_P S 2441 a0) = some a9_ ∧ (q_K S7_ a9_ = 22 ∧ (vp_in x3 (q_N S7_ a9_) ∧ (q_K (qs_A S7_ a9_ x3.toNatClampNeg (vp_nar .boolean x8_)) a0 = 13 ∧ (∃ a14_ : Nat, (q_P (qs_A S7_ a9_ x3.toNatClampNeg (vp_nar .boolean x8_)) 2441 a0) = some a14_ ∧ (q_K (qs_A S7_ a9_ x3.toNatClampNeg (vp_nar .boolean x8_)) a14_ = 22 ∧ (vp_in x3 (q_N (qs_A S7_ a9_ x3.toNatClampNeg (vp_nar .boolean x8_)) a14_) ∧ ((((q_A (qs_A S7_ a9_ x3.toNatClampNeg (vp_nar .boolean x8_)) a14_ x3.toNatClampNeg) = 0 → (wb_X12_readProcess_202 (qs_A S7_ a9_ x3.toNatClampNeg (vp_nar .boolean x8_)) a0 Q)) ∧ (¬ (q_A (qs_A S7_ a9_ x3.toNatClampNeg (vp_nar .boolean x8_)) a14_ x3.toNatClampNeg) = 0 → (wm_X12_next (qs_A S7_ a9_ x3.toNatClampNeg (vp_nar .boolean x8_)) a0 (fun r19_ S20_ => r19_ = none ∧ (q_K S20_ a0 = 13 ∧ (wm_X12_sign S20_ a0 (59 : Int32) (fun r22_ S23_ => ∃ x24_ : Int32, r22_ = some (.int x24_) ∧ (wb_X12_readProcess_202 S23_ a0 Q))))))))))))))))))
set_option maxHeartbeats 4000000 in
set_option maxRecDepth 100000 in
theorem cb_X12_readProcess_170 {p : Program} {l : Launch} {e : Env} {s : State} {m : MethodId} {args : Array Value} {below : List Frame} {meth : Method} {c : Code} {D : va_G} {cy : Nat → ClassId} {lo : Nat}  {S : q_S} {a0 : Nat} {x3 : Int32} {Q : Option Value → q_S → Prop} {H : Heap} {locs : List Loc} {ls : Array Slot} (X : q_X p s m args meth c RX12 cX12_readProcess 4 none D cy lo)  (Y : q_Y D cy lo s S H locs) (hl : lv_has ls 4 [(0, .ref a0), (3, .int x3)]) (h : wb_X12_readProcess_170 S a0 x3 Q) : W p l e ({ frames := 8, cells := 0, slots := 0, locals := 179 } : Room) s m args below meth c H locs 0 0 (MQ below (q_Q D cy lo Q) args s 0 0 (fun q => lo ≤ q)) (F0 m 170 ls []) := by
  have hx := X.1
  have hb := X.2.1
  unfold wb_X12_readProcess_170 at h
  refine lv_aload_n hx hb dX12_readProcess_170 rfl (lv_at hl 0 rfl) ?_
  obtain ⟨k5_, h⟩ := h
  refine q_getP X Y kX12 41 rfl fl_X12_78 k5_ rfl dX12_readProcess_171 ?_
  refine lv_iload_n hx hb dX12_readProcess_174 rfl (lv_at hl 1 rfl) ?_
  refine lv_aload_n hx hb dX12_readProcess_175 rfl (lv_at hl 0 rfl) ?_
  refine lv_bipush (v := 14) hx hb dX12_readProcess_176 (by decide) ?_
  refine q_callV X Y hl (cm_X12_isKey h) mt_X12_isKey mi_X12_isKey ml_X12_344 (ci := 12) rfl k5_ (by decide) rfl rfl (by first | exact Nat.le_of_ble_eq_true rfl | simp [q_cat, q_catI, q_catJ, q_catR]) ⟨Nat.le_of_ble_eq_true rfl, Nat.le_of_ble_eq_true rfl⟩ ⟨Nat.le_of_ble_eq_true rfl, Nat.le_of_ble_eq_true rfl⟩ dX12_readProcess_178 (fun r6_ S7_ H locs hp Y => ?_)
  obtain ⟨x8_, rfl, h⟩ := hp
  refine W.eq (g2 := F0 m 181 ls [.int x8_, .int x3, va_rf (q_P S 2441 a0)]) rfl ?_
  obtain ⟨a9_, e10_, h⟩ := h
  refine q_nn [.int x8_, .int x3] e10_ ?_
  obtain ⟨k11_, h⟩ := h
  obtain ⟨i12_, h⟩ := h
  refine q_zst X Y k11_ i12_ dX12_readProcess_181 (fun H locs Y => ?_)
  refine lv_aload_n hx hb dX12_readProcess_182 rfl (lv_at hl 0 rfl) ?_
  obtain ⟨k13_, h⟩ := h
  refine q_getP X Y kX12 41 rfl fl_X12_78 k13_ rfl dX12_readProcess_183 ?_
  refine lv_iload_n hx hb dX12_readProcess_186 rfl (lv_at hl 1 rfl) ?_
  obtain ⟨a14_, e15_, h⟩ := h
  refine q_nn [.int x3] e15_ ?_
  obtain ⟨k16_, h⟩ := h
  obtain ⟨i17_, h⟩ := h
  refine q_zld X Y k16_ i17_ dX12_readProcess_187 ?_
  refine lv_if_eq (tgt := 202) hx hb dX12_readProcess_188 (by decide) (fun c18_ => ?_) (fun c18_ => ?_)
  · replace h := h.1 c18_
    exact cb_X12_readProcess_202 X Y (lv_sub hl [0] rfl) h
  · replace h := h.2 c18_
    refine lv_aload_n hx hb dX12_readProcess_191 rfl (lv_at hl 0 rfl) ?_
    refine q_callV X Y hl (cm_X12_next h) mt_X12_next mi_X12_next ml_X12_341 (ci := 12) rfl k13_ (by decide) rfl rfl (by first | exact Nat.le_of_ble_eq_true rfl | simp [q_cat, q_catI, q_catJ, q_catR]) ⟨Nat.le_of_ble_eq_true rfl, Nat.le_of_ble_eq_true rfl⟩ ⟨Nat.le_of_ble_eq_true rfl, Nat.le_of_ble_eq_true rfl⟩ dX12_readProcess_192 (fun r19_ S20_ H locs hp Y => ?_)
    obtain ⟨rfl, h⟩ := hp
    refine W.eq (g2 := F0 m 195 ls []) rfl ?_
    refine lv_aload_n hx hb dX12_readProcess_195 rfl (lv_at hl 0 rfl) ?_
    refine lv_bipush (v := 59) hx hb dX12_readProcess_196 (by decide) ?_
    obtain ⟨k21_, h⟩ := h
    refine q_callV X Y hl (cm_X12_sign h) mt_X12_sign mi_X12_sign ml_X12_365 (ci := 12) rfl k21_ (by decide) rfl rfl (by first | exact Nat.le_of_ble_eq_true rfl | simp [q_cat, q_catI, q_catJ, q_catR]) ⟨Nat.le_of_ble_eq_true rfl, Nat.le_of_ble_eq_true rfl⟩ ⟨Nat.le_of_ble_eq_true rfl, Nat.le_of_ble_eq_true rfl⟩ dX12_readProcess_198 (fun r22_ S23_ H locs hp Y => ?_)
    obtain ⟨x24_, rfl, h⟩ := hp
    refine W.eq (g2 := F0 m 201 ls [.int x24_]) rfl ?_
    refine lv_pop hx hb dX12_readProcess_201 rfl ?_
    exact cb_X12_readProcess_202 X Y (lv_sub hl [0] rfl) h
def wm_X12_readProcess (S : q_S) (a0 : Nat) (x1 : Int32) (Q : Option Value → q_S → Prop) : Prop := q_K S a0 = 13 ∧ (wm_X12_newThing S a0 x1 (5 : Int32) (16 : Int32) (fun r26_ S27_ => ∃ x28_ : Int32, r26_ = some (.int x28_) ∧ (q_K S27_ a0 = 13 ∧ (wm_X12_sign S27_ a0 (123 : Int32) (fun r30_ S31_ => ∃ x32_ : Int32, r30_ = some (.int x32_) ∧ (q_K S31_ a0 = 13 ∧ (wm_X12_key S31_ a0 (8 : Int32) (fun r34_ S35_ => ∃ x36_ : Int32, r34_ = some (.int x36_) ∧ (q_K S35_ a0 = 13 ∧ (∃ a38_ : Nat, (q_P S35_ 2425 a0) = some a38_ ∧ (q_K S35_ a38_ = 21 ∧ (vp_in x1 (q_N S35_ a38_) ∧ (wm_X12_number S35_ a0 (0 : Int32) ((q_A S35_ a38_ x1.toNatClampNeg) - (1 : Int32)) (4 : Int32) (fun r42_ S43_ => ∃ x44_ : Int32, r42_ = some (.int x44_) ∧ (∃ a45_ : Nat, (q_P S35_ 2436 a0) = some a45_ ∧ (q_K S43_ a45_ = 21 ∧ (vp_in (((16 : Int32) * x1) + x28_) (q_N S43_ a45_) ∧ (q_K (qs_A S43_ a45_ (((16 : Int32) * x1) + x28_).toNatClampNeg x44_) a0 = 13 ∧ (wm_X12_sign (qs_A S43_ a45_ (((16 : Int32) * x1) + x28_).toNatClampNeg x44_) a0 (59 : Int32) (fun r50_ S51_ => ∃ x52_ : Int32, r50_ = some (.int x52_) ∧ (q_K S51_ a0 = 13 ∧ (wm_X12_key S51_ a0 (9 : Int32) (fun r54_ S55_ => ∃ x56_ : Int32, r54_ = some (.int x56_) ∧ (q_K S55_ a0 = 13 ∧ (wm_X12_number S55_ a0 (0 : Int32) (15 : Int32) (1 : Int32) (fun r58_ S59_ => ∃ x60_ : Int32, r58_ = some (.int x60_) ∧ (∃ a61_ : Nat, (q_P S55_ 2437 a0) = some a61_ ∧ (q_K S59_ a61_ = 21 ∧ (vp_in (((16 : Int32) * x1) + x28_) (q_N S59_ a61_) ∧ (q_K (qs_A S59_ a61_ (((16 : Int32) * x1) + x28_).toNatClampNeg x60_) a0 = 13 ∧ (wm_X12_sign (qs_A S59_ a61_ (((16 : Int32) * x1) + x28_).toNatClampNeg x60_) a0 (59 : Int32) (fun r66_ S67_ => ∃ x68_ : Int32, r66_ = some (.int x68_) ∧ (q_K S67_ a0 = 13 ∧ (wm_X12_perhaps S67_ a0 (10 : Int32) (fun r70_ S71_ => ∃ x72_ : Int32, r70_ = some (.int x72_) ∧ (∃ a73_ : Nat, (q_P S67_ 2438 a0) = some a73_ ∧ (q_K S71_ a73_ = 21 ∧ (vp_in (((16 : Int32) * x1) + x28_) (q_N S71_ a73_) ∧ (q_K (qs_A S71_ a73_ (((16 : Int32) * x1) + x28_).toNatClampNeg x72_) a0 = 13 ∧ (wm_X12_perhaps (qs_A S71_ a73_ (((16 : Int32) * x1) + x28_).toNatClampNeg x72_) a0 (11 : Int32) (fun r78_ S79_ => ∃ x80_ : Int32, r78_ = some (.int x80_) ∧ (∃ a81_ : Nat, (q_P (qs_A S71_ a73_ (((16 : Int32) * x1) + x28_).toNatClampNeg x72_) 2439 a0) = some a81_ ∧ (q_K S79_ a81_ = 21 ∧ (vp_in (((16 : Int32) * x1) + x28_) (q_N S79_ a81_) ∧ (q_K (qs_A S79_ a81_ (((16 : Int32) * x1) + x28_).toNatClampNeg x80_) a0 = 13 ∧ (wm_X12_perhaps (qs_A S79_ a81_ (((16 : Int32) * x1) + x28_).toNatClampNeg x80_) a0 (12 : Int32) (fun r86_ S87_ => ∃ x88_ : Int32, r86_ = some (.int x88_) ∧ (∃ a89_ : Nat, (q_P (qs_A S79_ a81_ (((16 : Int32) * x1) + x28_).toNatClampNeg x80_) 2440 a0) = some a89_ ∧ (q_K S87_ a89_ = 21 ∧ (vp_in (((16 : Int32) * x1) + x28_) (q_N S87_ a89_) ∧ (q_K (qs_A S87_ a89_ (((16 : Int32) * x1) + x28_).toNatClampNeg x88_) a0 = 13 ∧ (wm_X12_isKey (qs_A S87_ a89_ (((16 : Int32) * x1) + x28_).toNatClampNeg x88_) a0 (13 : Int32) (fun r94_ S95_ => ∃ x96_ : Int32, r94_ = some (.int x96_) ∧ (((x96_ = 0 → (wb_X12_readProcess_170 S95_ a0 (((16 : Int32) * x1) + x28_) Q)) ∧ (¬ x96_ = 0 → (q_K S95_ a0 = 13 ∧ (∃ a99_ : Nat, (q_P S95_ 2442 a0) = some a99_ ∧ (q_K S95_ a99_ = 21 ∧ (vp_in x1 (q_N S95_ a99_) ∧ ((((q_A S95_ a99_ x1.toNatClampNeg) = (-1 : Int32) → (vp_in x1 (q_N S95_ a99_) ∧ (wm_X12_next (qs_A S95_ a99_ x1.toNatClampNeg (((16 : Int32) * x1) + x28_)) a0 (fun r105_ S106_ => r105_ = none ∧ (q_K S106_ a0 = 13 ∧ (wm_X12_sign S106_ a0 (59 : Int32) (fun r108_ S109_ => ∃ x110_ : Int32, r108_ = some (.int x110_) ∧ (wb_X12_readProcess_170 S109_ a0 (((16 : Int32) * x1) + x28_) Q)))))))) ∧ (¬ (q_A S95_ a99_ x1.toNatClampNeg) = (-1 : Int32) → (wm_X12_fail S95_ a0 (7 : Int32) (q_I S95_ 2407 a0) (fun r111_ S112_ => ∃ x113_ : Int32, r111_ = some (.int x113_) ∧ (Q none S112_))))))))))))))))))))))))))))))))))))))))))))))))))))))))))))))))))
set_option maxHeartbeats 4000000 in
set_option maxRecDepth 100000 in
theorem cm_X12_readProcess {l : Launch} {D : va_G} {cy : Nat → ClassId} {lo : Nat} {S : q_S} {a0 : Nat} {x1 : Int32} {Q : Option Value → q_S → Prop} (h : wm_X12_readProcess S a0 x1 Q) : q_Met l D cy lo yX12_readProcess cX12_readProcess 4 none 8 179 0 0 [.ref a0, .int x1] S Q := by
  refine q_body (by decide) (by first | exact Nat.le_of_ble_eq_true rfl | simp [lg_sl, q_cat, q_catI, q_catJ, q_catR]) ?_
  intro p e s m below meth c ls X hnm Y hl
  have hx := X.1
  have hb := X.2.1
  have hl : lv_has ls 4 [(0, .ref a0), (1, .int x1)] := by first | exact hl | simpa [lv_args, q_cat, q_catI, q_catJ, q_catR] using hl
  generalize hargs : ([.ref a0, .int x1] : List Value).toArray = args at X ⊢
  unfold wm_X12_readProcess at h
  refine lv_aload_n hx hb dX12_readProcess_0 rfl (lv_at hl 0 rfl) ?_
  refine lv_iload_n hx hb dX12_readProcess_1 rfl (lv_at hl 1 rfl) ?_
  refine lv_iconst (v := 5) hx hb dX12_readProcess_2 (by decide) ?_
  refine lv_bipush (v := 16) hx hb dX12_readProcess_3 (by decide) ?_
  obtain ⟨k25_, h⟩ := h
  refine q_callV X Y hl (cm_X12_newThing h) mt_X12_newThing mi_X12_newThing ml_X12_388 (ci := 12) rfl k25_ (by decide) rfl rfl (by first | exact Nat.le_of_ble_eq_true rfl | simp [q_cat, q_catI, q_catJ, q_catR]) ⟨Nat.le_of_ble_eq_true rfl, Nat.le_of_ble_eq_true rfl⟩ ⟨Nat.le_of_ble_eq_true rfl, Nat.le_of_ble_eq_true rfl⟩ dX12_readProcess_5 (fun r26_ S27_ H locs hp Y => ?_)
  obtain ⟨x28_, rfl, h⟩ := hp
  refine W.eq (g2 := F0 m 8 ls [.int x28_]) rfl ?_
  refine lv_istore_n (i := 2) (lv' := [(2, .int x28_), (0, .ref a0), (1, .int x1)]) hx hb dX12_readProcess_8 rfl hl (by decide) (by first | rfl | simp [q_cat, q_catI, q_catJ, q_catR]) (fun ls hl => ?_)
  refine lv_bipush (v := 16) hx hb dX12_readProcess_9 (by decide) ?_
  refine lv_iload_n hx hb dX12_readProcess_11 rfl (lv_at hl 2 rfl) ?_
  refine lv_imul hx hb dX12_readProcess_12 ?_
  refine lv_iload_n hx hb dX12_readProcess_13 rfl (lv_at hl 0 rfl) ?_
  refine lv_iadd hx hb dX12_readProcess_14 ?_
  refine lv_istore_n (i := 3) (lv' := [(3, .int (((16 : Int32) * x1) + x28_)), (2, .int x28_), (0, .ref a0), (1, .int x1)]) hx hb dX12_readProcess_15 rfl hl (by decide) (by first | rfl | simp [q_cat, q_catI, q_catJ, q_catR]) (fun ls hl => ?_)
  refine lv_aload_n hx hb dX12_readProcess_16 rfl (lv_at hl 2 rfl) ?_
  refine lv_bipush (v := 123) hx hb dX12_readProcess_17 (by decide) ?_
  obtain ⟨k29_, h⟩ := h
  refine q_callV X Y hl (cm_X12_sign h) mt_X12_sign mi_X12_sign ml_X12_365 (ci := 12) rfl k29_ (by decide) rfl rfl (by first | exact Nat.le_of_ble_eq_true rfl | simp [q_cat, q_catI, q_catJ, q_catR]) ⟨Nat.le_of_ble_eq_true rfl, Nat.le_of_ble_eq_true rfl⟩ ⟨Nat.le_of_ble_eq_true rfl, Nat.le_of_ble_eq_true rfl⟩ dX12_readProcess_19 (fun r30_ S31_ H locs hp Y => ?_)
  obtain ⟨x32_, rfl, h⟩ := hp
  refine W.eq (g2 := F0 m 22 ls [.int x32_]) rfl ?_
  refine lv_pop hx hb dX12_readProcess_22 rfl ?_
  refine lv_aload_n hx hb dX12_readProcess_23 rfl (lv_at hl 2 rfl) ?_
  refine lv_bipush (v := 8) hx hb dX12_readProcess_24 (by decide) ?_
  obtain ⟨k33_, h⟩ := h
  refine q_callV X Y hl (cm_X12_key h) mt_X12_key mi_X12_key ml_X12_368 (ci := 12) rfl k33_ (by decide) rfl rfl (by first | exact Nat.le_of_ble_eq_true rfl | simp [q_cat, q_catI, q_catJ, q_catR]) ⟨Nat.le_of_ble_eq_true rfl, Nat.le_of_ble_eq_true rfl⟩ ⟨Nat.le_of_ble_eq_true rfl, Nat.le_of_ble_eq_true rfl⟩ dX12_readProcess_26 (fun r34_ S35_ H locs hp Y => ?_)
  obtain ⟨x36_, rfl, h⟩ := hp
  refine W.eq (g2 := F0 m 29 ls [.int x36_]) rfl ?_
  refine lv_pop hx hb dX12_readProcess_29 rfl ?_
  refine lv_aload_n hx hb dX12_readProcess_30 rfl (lv_at hl 2 rfl) ?_
  obtain ⟨k37_, h⟩ := h
  refine q_getP X Y kX12 36 rfl fl_X12_63 k37_ rfl dX12_readProcess_31 ?_
  refine lv_iload_n hx hb dX12_readProcess_34 rfl (lv_at hl 0 rfl) ?_
  refine lv_aload_n hx hb dX12_readProcess_35 rfl (lv_at hl 2 rfl) ?_
  refine lv_iconst (v := 0) hx hb dX12_readProcess_36 (by decide) ?_
  refine lv_aload_n hx hb dX12_readProcess_37 rfl (lv_at hl 2 rfl) ?_
  refine q_getP X Y kX12 25 rfl fl_X12_30 k37_ rfl dX12_readProcess_38 ?_
  refine lv_iload_n hx hb dX12_readProcess_41 rfl (lv_at hl 3 rfl) ?_
  obtain ⟨a38_, e39_, h⟩ := h
  refine q_nn [.int x1] e39_ ?_
  obtain ⟨k40_, h⟩ := h
  obtain ⟨i41_, h⟩ := h
  refine q_ild X Y k40_ i41_ dX12_readProcess_42 ?_
  refine lv_iconst (v := 1) hx hb dX12_readProcess_43 (by decide) ?_
  refine lv_isub hx hb dX12_readProcess_44 ?_
  refine lv_iconst (v := 4) hx hb dX12_readProcess_45 (by decide) ?_
  refine q_callV X Y hl (cm_X12_number h) mt_X12_number mi_X12_number ml_X12_371 (ci := 12) rfl k37_ (by decide) rfl rfl (by first | exact Nat.le_of_ble_eq_true rfl | simp [q_cat, q_catI, q_catJ, q_catR]) ⟨Nat.le_of_ble_eq_true rfl, Nat.le_of_ble_eq_true rfl⟩ ⟨Nat.le_of_ble_eq_true rfl, Nat.le_of_ble_eq_true rfl⟩ dX12_readProcess_46 (fun r42_ S43_ H locs hp Y => ?_)
  obtain ⟨x44_, rfl, h⟩ := hp
  refine W.eq (g2 := F0 m 49 ls [.int x44_, .int (((16 : Int32) * x1) + x28_), va_rf (q_P S35_ 2436 a0)]) rfl ?_
  obtain ⟨a45_, e46_, h⟩ := h
  refine q_nn [.int x44_, .int (((16 : Int32) * x1) + x28_)] e46_ ?_
  obtain ⟨k47_, h⟩ := h
  obtain ⟨i48_, h⟩ := h
  refine q_ist X Y k47_ i48_ dX12_readProcess_49 (fun H locs Y => ?_)
  refine lv_aload_n hx hb dX12_readProcess_50 rfl (lv_at hl 2 rfl) ?_
  refine lv_bipush (v := 59) hx hb dX12_readProcess_51 (by decide) ?_
  obtain ⟨k49_, h⟩ := h
  refine q_callV X Y hl (cm_X12_sign h) mt_X12_sign mi_X12_sign ml_X12_365 (ci := 12) rfl k49_ (by decide) rfl rfl (by first | exact Nat.le_of_ble_eq_true rfl | simp [q_cat, q_catI, q_catJ, q_catR]) ⟨Nat.le_of_ble_eq_true rfl, Nat.le_of_ble_eq_true rfl⟩ ⟨Nat.le_of_ble_eq_true rfl, Nat.le_of_ble_eq_true rfl⟩ dX12_readProcess_53 (fun r50_ S51_ H locs hp Y => ?_)
  obtain ⟨x52_, rfl, h⟩ := hp
  refine W.eq (g2 := F0 m 56 ls [.int x52_]) rfl ?_
  refine lv_pop hx hb dX12_readProcess_56 rfl ?_
  refine lv_aload_n hx hb dX12_readProcess_57 rfl (lv_at hl 2 rfl) ?_
  refine lv_bipush (v := 9) hx hb dX12_readProcess_58 (by decide) ?_
  obtain ⟨k53_, h⟩ := h
  refine q_callV X Y hl (cm_X12_key h) mt_X12_key mi_X12_key ml_X12_368 (ci := 12) rfl k53_ (by decide) rfl rfl (by first | exact Nat.le_of_ble_eq_true rfl | simp [q_cat, q_catI, q_catJ, q_catR]) ⟨Nat.le_of_ble_eq_true rfl, Nat.le_of_ble_eq_true rfl⟩ ⟨Nat.le_of_ble_eq_true rfl, Nat.le_of_ble_eq_true rfl⟩ dX12_readProcess_60 (fun r54_ S55_ H locs hp Y => ?_)
  obtain ⟨x56_, rfl, h⟩ := hp
  refine W.eq (g2 := F0 m 63 ls [.int x56_]) rfl ?_
  refine lv_pop hx hb dX12_readProcess_63 rfl ?_
  refine lv_aload_n hx hb dX12_readProcess_64 rfl (lv_at hl 2 rfl) ?_
  obtain ⟨k57_, h⟩ := h
  refine q_getP X Y kX12 37 rfl fl_X12_66 k57_ rfl dX12_readProcess_65 ?_
  refine lv_iload_n hx hb dX12_readProcess_68 rfl (lv_at hl 0 rfl) ?_
  refine lv_aload_n hx hb dX12_readProcess_69 rfl (lv_at hl 2 rfl) ?_
  refine lv_iconst (v := 0) hx hb dX12_readProcess_70 (by decide) ?_
  refine lv_bipush (v := 15) hx hb dX12_readProcess_71 (by decide) ?_
  refine lv_iconst (v := 1) hx hb dX12_readProcess_73 (by decide) ?_
  refine q_callV X Y hl (cm_X12_number h) mt_X12_number mi_X12_number ml_X12_371 (ci := 12) rfl k57_ (by decide) rfl rfl (by first | exact Nat.le_of_ble_eq_true rfl | simp [q_cat, q_catI, q_catJ, q_catR]) ⟨Nat.le_of_ble_eq_true rfl, Nat.le_of_ble_eq_true rfl⟩ ⟨Nat.le_of_ble_eq_true rfl, Nat.le_of_ble_eq_true rfl⟩ dX12_readProcess_74 (fun r58_ S59_ H locs hp Y => ?_)
  obtain ⟨x60_, rfl, h⟩ := hp
  refine W.eq (g2 := F0 m 77 ls [.int x60_, .int (((16 : Int32) * x1) + x28_), va_rf (q_P S55_ 2437 a0)]) rfl ?_
  obtain ⟨a61_, e62_, h⟩ := h
  refine q_nn [.int x60_, .int (((16 : Int32) * x1) + x28_)] e62_ ?_
  obtain ⟨k63_, h⟩ := h
  obtain ⟨i64_, h⟩ := h
  refine q_ist X Y k63_ i64_ dX12_readProcess_77 (fun H locs Y => ?_)
  refine lv_aload_n hx hb dX12_readProcess_78 rfl (lv_at hl 2 rfl) ?_
  refine lv_bipush (v := 59) hx hb dX12_readProcess_79 (by decide) ?_
  obtain ⟨k65_, h⟩ := h
  refine q_callV X Y hl (cm_X12_sign h) mt_X12_sign mi_X12_sign ml_X12_365 (ci := 12) rfl k65_ (by decide) rfl rfl (by first | exact Nat.le_of_ble_eq_true rfl | simp [q_cat, q_catI, q_catJ, q_catR]) ⟨Nat.le_of_ble_eq_true rfl, Nat.le_of_ble_eq_true rfl⟩ ⟨Nat.le_of_ble_eq_true rfl, Nat.le_of_ble_eq_true rfl⟩ dX12_readProcess_81 (fun r66_ S67_ H locs hp Y => ?_)
  obtain ⟨x68_, rfl, h⟩ := hp
  refine W.eq (g2 := F0 m 84 ls [.int x68_]) rfl ?_
  refine lv_pop hx hb dX12_readProcess_84 rfl ?_
  refine lv_aload_n hx hb dX12_readProcess_85 rfl (lv_at hl 2 rfl) ?_
  obtain ⟨k69_, h⟩ := h
  refine q_getP X Y kX12 38 rfl fl_X12_69 k69_ rfl dX12_readProcess_86 ?_
  refine lv_iload_n hx hb dX12_readProcess_89 rfl (lv_at hl 0 rfl) ?_
  refine lv_aload_n hx hb dX12_readProcess_90 rfl (lv_at hl 2 rfl) ?_
  refine lv_bipush (v := 10) hx hb dX12_readProcess_91 (by decide) ?_
  refine q_callV X Y hl (cm_X12_perhaps h) mt_X12_perhaps mi_X12_perhaps ml_X12_402 (ci := 12) rfl k69_ (by decide) rfl rfl (by first | exact Nat.le_of_ble_eq_true rfl | simp [q_cat, q_catI, q_catJ, q_catR]) ⟨Nat.le_of_ble_eq_true rfl, Nat.le_of_ble_eq_true rfl⟩ ⟨Nat.le_of_ble_eq_true rfl, Nat.le_of_ble_eq_true rfl⟩ dX12_readProcess_93 (fun r70_ S71_ H locs hp Y => ?_)
  obtain ⟨x72_, rfl, h⟩ := hp
  refine W.eq (g2 := F0 m 96 ls [.int x72_, .int (((16 : Int32) * x1) + x28_), va_rf (q_P S67_ 2438 a0)]) rfl ?_
  obtain ⟨a73_, e74_, h⟩ := h
  refine q_nn [.int x72_, .int (((16 : Int32) * x1) + x28_)] e74_ ?_
  obtain ⟨k75_, h⟩ := h
  obtain ⟨i76_, h⟩ := h
  refine q_ist X Y k75_ i76_ dX12_readProcess_96 (fun H locs Y => ?_)
  refine lv_aload_n hx hb dX12_readProcess_97 rfl (lv_at hl 2 rfl) ?_
  obtain ⟨k77_, h⟩ := h
  refine q_getP X Y kX12 39 rfl fl_X12_72 k77_ rfl dX12_readProcess_98 ?_
  refine lv_iload_n hx hb dX12_readProcess_101 rfl (lv_at hl 0 rfl) ?_
  refine lv_aload_n hx hb dX12_readProcess_102 rfl (lv_at hl 2 rfl) ?_
  refine lv_bipush (v := 11) hx hb dX12_readProcess_103 (by decide) ?_
  refine q_callV X Y hl (cm_X12_perhaps h) mt_X12_perhaps mi_X12_perhaps ml_X12_402 (ci := 12) rfl k77_ (by decide) rfl rfl (by first | exact Nat.le_of_ble_eq_true rfl | simp [q_cat, q_catI, q_catJ, q_catR]) ⟨Nat.le_of_ble_eq_true rfl, Nat.le_of_ble_eq_true rfl⟩ ⟨Nat.le_of_ble_eq_true rfl, Nat.le_of_ble_eq_true rfl⟩ dX12_readProcess_105 (fun r78_ S79_ H locs hp Y => ?_)
  obtain ⟨x80_, rfl, h⟩ := hp
  refine W.eq (g2 := F0 m 108 ls [.int x80_, .int (((16 : Int32) * x1) + x28_), va_rf (q_P (qs_A S71_ a73_ (((16 : Int32) * x1) + x28_).toNatClampNeg x72_) 2439 a0)]) rfl ?_
  obtain ⟨a81_, e82_, h⟩ := h
  refine q_nn [.int x80_, .int (((16 : Int32) * x1) + x28_)] e82_ ?_
  obtain ⟨k83_, h⟩ := h
  obtain ⟨i84_, h⟩ := h
  refine q_ist X Y k83_ i84_ dX12_readProcess_108 (fun H locs Y => ?_)
  refine lv_aload_n hx hb dX12_readProcess_109 rfl (lv_at hl 2 rfl) ?_
  obtain ⟨k85_, h⟩ := h
  refine q_getP X Y kX12 40 rfl fl_X12_75 k85_ rfl dX12_readProcess_110 ?_
  refine lv_iload_n hx hb dX12_readProcess_113 rfl (lv_at hl 0 rfl) ?_
  refine lv_aload_n hx hb dX12_readProcess_114 rfl (lv_at hl 2 rfl) ?_
  refine lv_bipush (v := 12) hx hb dX12_readProcess_115 (by decide) ?_
  refine q_callV X Y hl (cm_X12_perhaps h) mt_X12_perhaps mi_X12_perhaps ml_X12_402 (ci := 12) rfl k85_ (by decide) rfl rfl (by first | exact Nat.le_of_ble_eq_true rfl | simp [q_cat, q_catI, q_catJ, q_catR]) ⟨Nat.le_of_ble_eq_true rfl, Nat.le_of_ble_eq_true rfl⟩ ⟨Nat.le_of_ble_eq_true rfl, Nat.le_of_ble_eq_true rfl⟩ dX12_readProcess_117 (fun r86_ S87_ H locs hp Y => ?_)
  obtain ⟨x88_, rfl, h⟩ := hp
  refine W.eq (g2 := F0 m 120 ls [.int x88_, .int (((16 : Int32) * x1) + x28_), va_rf (q_P (qs_A S79_ a81_ (((16 : Int32) * x1) + x28_).toNatClampNeg x80_) 2440 a0)]) rfl ?_
  obtain ⟨a89_, e90_, h⟩ := h
  refine q_nn [.int x88_, .int (((16 : Int32) * x1) + x28_)] e90_ ?_
  obtain ⟨k91_, h⟩ := h
  obtain ⟨i92_, h⟩ := h
  refine q_ist X Y k91_ i92_ dX12_readProcess_120 (fun H locs Y => ?_)
  refine lv_aload_n hx hb dX12_readProcess_121 rfl (lv_at hl 2 rfl) ?_
  refine lv_bipush (v := 13) hx hb dX12_readProcess_122 (by decide) ?_
  obtain ⟨k93_, h⟩ := h
  refine q_callV X Y hl (cm_X12_isKey h) mt_X12_isKey mi_X12_isKey ml_X12_344 (ci := 12) rfl k93_ (by decide) rfl rfl (by first | exact Nat.le_of_ble_eq_true rfl | simp [q_cat, q_catI, q_catJ, q_catR]) ⟨Nat.le_of_ble_eq_true rfl, Nat.le_of_ble_eq_true rfl⟩ ⟨Nat.le_of_ble_eq_true rfl, Nat.le_of_ble_eq_true rfl⟩ dX12_readProcess_124 (fun r94_ S95_ H locs hp Y => ?_)
  obtain ⟨x96_, rfl, h⟩ := hp
  refine W.eq (g2 := F0 m 127 ls [.int x96_]) rfl ?_
  refine lv_if_eq (tgt := 170) hx hb dX12_readProcess_127 (by decide) (fun c97_ => ?_) (fun c97_ => ?_)
  · replace h := h.1 c97_
    exact cb_X12_readProcess_170 X Y (lv_sub hl [2, 0] rfl) h
  · replace h := h.2 c97_
    refine lv_aload_n hx hb dX12_readProcess_130 rfl (lv_at hl 2 rfl) ?_
    obtain ⟨k98_, h⟩ := h
    refine q_getP X Y kX12 42 rfl fl_X12_82 k98_ rfl dX12_readProcess_131 ?_
    refine lv_iload_n hx hb dX12_readProcess_134 rfl (lv_at hl 3 rfl) ?_
    obtain ⟨a99_, e100_, h⟩ := h
    refine q_nn [.int x1] e100_ ?_
    obtain ⟨k101_, h⟩ := h
    obtain ⟨i102_, h⟩ := h
    refine q_ild X Y k101_ i102_ dX12_readProcess_135 ?_
    refine lv_iconst (v := (-1)) hx hb dX12_readProcess_136 (by decide) ?_
    refine lv_icmp_eq (tgt := 152) hx hb dX12_readProcess_137 (by decide) (fun c103_ => ?_) (fun c103_ => ?_)
    · replace h := h.1 c103_
      refine lv_aload_n hx hb dX12_readProcess_152 rfl (lv_at hl 2 rfl) ?_
      refine q_getR X Y kX12 42 rfl fl_X12_82 k98_ e100_ dX12_readProcess_153 ?_
      refine lv_iload_n hx hb dX12_readProcess_156 rfl (lv_at hl 3 rfl) ?_
      refine lv_iload_n hx hb dX12_readProcess_157 rfl (lv_at hl 0 rfl) ?_
      obtain ⟨i104_, h⟩ := h
      refine q_ist X Y k101_ i104_ dX12_readProcess_158 (fun H locs Y => ?_)
      refine lv_aload_n hx hb dX12_readProcess_159 rfl (lv_at hl 2 rfl) ?_
      refine q_callV X Y hl (cm_X12_next h) mt_X12_next mi_X12_next ml_X12_341 (ci := 12) rfl k98_ (by decide) rfl rfl (by first | exact Nat.le_of_ble_eq_true rfl | simp [q_cat, q_catI, q_catJ, q_catR]) ⟨Nat.le_of_ble_eq_true rfl, Nat.le_of_ble_eq_true rfl⟩ ⟨Nat.le_of_ble_eq_true rfl, Nat.le_of_ble_eq_true rfl⟩ dX12_readProcess_160 (fun r105_ S106_ H locs hp Y => ?_)
      obtain ⟨rfl, h⟩ := hp
      refine W.eq (g2 := F0 m 163 ls []) rfl ?_
      refine lv_aload_n hx hb dX12_readProcess_163 rfl (lv_at hl 2 rfl) ?_
      refine lv_bipush (v := 59) hx hb dX12_readProcess_164 (by decide) ?_
      obtain ⟨k107_, h⟩ := h
      refine q_callV X Y hl (cm_X12_sign h) mt_X12_sign mi_X12_sign ml_X12_365 (ci := 12) rfl k107_ (by decide) rfl rfl (by first | exact Nat.le_of_ble_eq_true rfl | simp [q_cat, q_catI, q_catJ, q_catR]) ⟨Nat.le_of_ble_eq_true rfl, Nat.le_of_ble_eq_true rfl⟩ ⟨Nat.le_of_ble_eq_true rfl, Nat.le_of_ble_eq_true rfl⟩ dX12_readProcess_166 (fun r108_ S109_ H locs hp Y => ?_)
      obtain ⟨x110_, rfl, h⟩ := hp
      refine W.eq (g2 := F0 m 169 ls [.int x110_]) rfl ?_
      refine lv_pop hx hb dX12_readProcess_169 rfl ?_
      exact cb_X12_readProcess_170 X Y (lv_sub hl [2, 0] rfl) h
    · replace h := h.2 c103_
      refine lv_aload_n hx hb dX12_readProcess_140 rfl (lv_at hl 2 rfl) ?_
      refine lv_bipush (v := 7) hx hb dX12_readProcess_141 (by decide) ?_
      refine lv_aload_n hx hb dX12_readProcess_143 rfl (lv_at hl 2 rfl) ?_
      refine q_getI X Y kX12 7 rfl fl_X12_287 k98_ dX12_readProcess_144 ?_
      refine q_callV X Y hl (cm_X12_fail h) mt_X12_fail mi_X12_fail ml_X12_331 (ci := 12) rfl k98_ (by decide) rfl rfl (by first | exact Nat.le_of_ble_eq_true rfl | simp [q_cat, q_catI, q_catJ, q_catR]) ⟨Nat.le_of_ble_eq_true rfl, Nat.le_of_ble_eq_true rfl⟩ ⟨Nat.le_of_ble_eq_true rfl, Nat.le_of_ble_eq_true rfl⟩ dX12_readProcess_147 (fun r111_ S112_ H locs hp Y => ?_)
      obtain ⟨x113_, rfl, h⟩ := hp
      refine W.eq (g2 := F0 m 150 ls [.int x113_]) rfl ?_
      refine lv_pop hx hb dX12_readProcess_150 rfl ?_
      exact q_vret X Y (Nat.le_refl _) (Nat.le_refl _) h dX12_readProcess_151
-- X12_isFifo
theorem dX12_isFifo_0 : decode cX12_isFifo 0 = .ok (.aload_n 0, 1) := by decide +kernel
theorem dX12_isFifo_1 : decode cX12_isFifo 1 = .ok (.bipush 18, 2) := by decide +kernel
theorem dX12_isFifo_3 : decode cX12_isFifo 3 = .ok (.invokevirtual 344, 3) := by decide +kernel
theorem dX12_isFifo_6 : decode cX12_isFifo 6 = .ok (.ifCond .ne 5, 3) := by decide +kernel
theorem dX12_isFifo_9 : decode cX12_isFifo 9 = .ok (.iconst 0, 1) := by decide +kernel
theorem dX12_isFifo_10 : decode cX12_isFifo 10 = .ok (.ireturn, 1) := by decide +kernel
theorem dX12_isFifo_11 : decode cX12_isFifo 11 = .ok (.aload_n 0, 1) := by decide +kernel
theorem dX12_isFifo_12 : decode cX12_isFifo 12 = .ok (.invokevirtual 341, 3) := by decide +kernel
theorem dX12_isFifo_15 : decode cX12_isFifo 15 = .ok (.iconst 1, 1) := by decide +kernel
theorem dX12_isFifo_16 : decode cX12_isFifo 16 = .ok (.ireturn, 1) := by decide +kernel
def wm_X12_isFifo (S : q_S) (a0 : Nat) (Q : Option Value → q_S → Prop) : Prop := q_K S a0 = 13 ∧ (wm_X12_isKey S a0 (18 : Int32) (fun r2_ S3_ => ∃ x4_ : Int32, r2_ = some (.int x4_) ∧ (((¬ x4_ = 0 → (q_K S3_ a0 = 13 ∧ (wm_X12_next S3_ a0 (fun r7_ S8_ => r7_ = none ∧ (Q (some (.int (1 : Int32))) S8_))))) ∧ (x4_ = 0 → (Q (some (.int (0 : Int32))) S3_))))))
set_option maxHeartbeats 4000000 in
set_option maxRecDepth 100000 in
theorem cm_X12_isFifo {l : Launch} {D : va_G} {cy : Nat → ClassId} {lo : Nat} {S : q_S} {a0 : Nat} {Q : Option Value → q_S → Prop} (h : wm_X12_isFifo S a0 Q) : q_Met l D cy lo yX12_isFifo cX12_isFifo 1 (some .boolean) 6 133 0 0 [.ref a0] S Q := by
  refine q_body (by decide) (by first | exact Nat.le_of_ble_eq_true rfl | simp [lg_sl, q_cat, q_catI, q_catJ, q_catR]) ?_
  intro p e s m below meth c ls X hnm Y hl
  have hx := X.1
  have hb := X.2.1
  have hl : lv_has ls 1 [(0, .ref a0)] := by first | exact hl | simpa [lv_args, q_cat, q_catI, q_catJ, q_catR] using hl
  generalize hargs : ([.ref a0] : List Value).toArray = args at X ⊢
  unfold wm_X12_isFifo at h
  refine lv_aload_n hx hb dX12_isFifo_0 rfl (lv_at hl 0 rfl) ?_
  refine lv_bipush (v := 18) hx hb dX12_isFifo_1 (by decide) ?_
  obtain ⟨k1_, h⟩ := h
  refine q_callV X Y hl (cm_X12_isKey h) mt_X12_isKey mi_X12_isKey ml_X12_344 (ci := 12) rfl k1_ (by decide) rfl rfl (by first | exact Nat.le_of_ble_eq_true rfl | simp [q_cat, q_catI, q_catJ, q_catR]) ⟨Nat.le_of_ble_eq_true rfl, Nat.le_of_ble_eq_true rfl⟩ ⟨Nat.le_of_ble_eq_true rfl, Nat.le_of_ble_eq_true rfl⟩ dX12_isFifo_3 (fun r2_ S3_ H locs hp Y => ?_)
  obtain ⟨x4_, rfl, h⟩ := hp
  refine W.eq (g2 := F0 m 6 ls [.int x4_]) rfl ?_
  refine lv_if_ne (tgt := 11) hx hb dX12_isFifo_6 (by decide) (fun c5_ => ?_) (fun c5_ => ?_)
  · replace h := h.1 c5_
    refine lv_aload_n hx hb dX12_isFifo_11 rfl (lv_at hl 0 rfl) ?_
    obtain ⟨k6_, h⟩ := h
    refine q_callV X Y hl (cm_X12_next h) mt_X12_next mi_X12_next ml_X12_341 (ci := 12) rfl k6_ (by decide) rfl rfl (by first | exact Nat.le_of_ble_eq_true rfl | simp [q_cat, q_catI, q_catJ, q_catR]) ⟨Nat.le_of_ble_eq_true rfl, Nat.le_of_ble_eq_true rfl⟩ ⟨Nat.le_of_ble_eq_true rfl, Nat.le_of_ble_eq_true rfl⟩ dX12_isFifo_12 (fun r7_ S8_ H locs hp Y => ?_)
    obtain ⟨rfl, h⟩ := hp
    refine W.eq (g2 := F0 m 15 ls []) rfl ?_
    refine lv_iconst (v := 1) hx hb dX12_isFifo_15 (by decide) ?_
    exact q_iret X Y rfl (Nat.le_refl _) (Nat.le_refl _) h dX12_isFifo_16
  · replace h := h.2 c5_
    refine lv_iconst (v := 0) hx hb dX12_isFifo_9 (by decide) ?_
    exact q_iret X Y rfl (Nat.le_refl _) (Nat.le_refl _) h dX12_isFifo_10
-- X12_either
theorem dX12_either_0 : decode cX12_either 0 = .ok (.aload_n 0, 1) := by decide +kernel
theorem dX12_either_1 : decode cX12_either 1 = .ok (.getfield 328, 3) := by decide +kernel
theorem dX12_either_4 : decode cX12_either 4 = .ok (.ifCond .le 5, 3) := by decide +kernel
theorem dX12_either_7 : decode cX12_either 7 = .ok (.iconst 0, 1) := by decide +kernel
theorem dX12_either_8 : decode cX12_either 8 = .ok (.ireturn, 1) := by decide +kernel
theorem dX12_either_9 : decode cX12_either 9 = .ok (.aload_n 0, 1) := by decide +kernel
theorem dX12_either_10 : decode cX12_either 10 = .ok (.iload_n 2, 1) := by decide +kernel
theorem dX12_either_11 : decode cX12_either 11 = .ok (.invokevirtual 344, 3) := by decide +kernel
theorem dX12_either_14 : decode cX12_either 14 = .ok (.istore_n 3, 1) := by decide +kernel
theorem dX12_either_15 : decode cX12_either 15 = .ok (.iload_n 3, 1) := by decide +kernel
theorem dX12_either_16 : decode cX12_either 16 = .ok (.ifCond .ne 17, 3) := by decide +kernel
theorem dX12_either_19 : decode cX12_either 19 = .ok (.aload_n 0, 1) := by decide +kernel
theorem dX12_either_20 : decode cX12_either 20 = .ok (.iload_n 1, 1) := by decide +kernel
theorem dX12_either_21 : decode cX12_either 21 = .ok (.invokevirtual 344, 3) := by decide +kernel
theorem dX12_either_24 : decode cX12_either 24 = .ok (.ifCond .ne 9, 3) := by decide +kernel
theorem dX12_either_27 : decode cX12_either 27 = .ok (.aload_n 0, 1) := by decide +kernel
theorem dX12_either_28 : decode cX12_either 28 = .ok (.iconst 1, 1) := by decide +kernel
theorem dX12_either_29 : decode cX12_either 29 = .ok (.invokevirtual 338, 3) := by decide +kernel
theorem dX12_either_32 : decode cX12_either 32 = .ok (.ireturn, 1) := by decide +kernel
theorem dX12_either_33 : decode cX12_either 33 = .ok (.aload_n 0, 1) := by decide +kernel
theorem dX12_either_34 : decode cX12_either 34 = .ok (.invokevirtual 341, 3) := by decide +kernel
theorem dX12_either_37 : decode cX12_either 37 = .ok (.iload_n 3, 1) := by decide +kernel
theorem dX12_either_38 : decode cX12_either 38 = .ok (.ireturn, 1) := by decide +kernel
def wb_X12_either_33  (S : q_S) (a0 : Nat) (x3 : Int32) (Q : Option Value → q_S → Prop) : Prop := q_K S a0 = 13 ∧ (wm_X12_next S a0 (fun r2_ S3_ => r2_ = none ∧ ((narrow .boolean (.int x3) = .int x3 ∧ Q (some (.int x3)) S3_))))
set_option maxHeartbeats 4000000 in
set_option maxRecDepth 100000 in
theorem cb_X12_either_33 {p : Program} {l : Launch} {e : Env} {s : State} {m : MethodId} {args : Array Value} {below : List Frame} {meth : Method} {c : Code} {D : va_G} {cy : Nat → ClassId} {lo : Nat}  {S : q_S} {a0 : Nat} {x3 : Int32} {Q : Option Value → q_S → Prop} {H : Heap} {locs : List Loc} {ls : Array Slot} (X : q_X p s m args meth c RX12 cX12_either 4 (some .boolean) D cy lo)  (Y : q_Y D cy lo s S H locs) (hl : lv_has ls 4 [(0, .ref a0), (3, .int x3)]) (h : wb_X12_either_33 S a0 x3 Q) : W p l e ({ frames := 6, cells := 0, slots := 0, locals := 133 } : Room) s m args below meth c H locs 0 0 (MQ below (q_Q D cy lo Q) args s 0 0 (fun q => lo ≤ q)) (F0 m 33 ls []) := by
  have hx := X.1
  have hb := X.2.1
  unfold wb_X12_either_33 at h
  refine lv_aload_n hx hb dX12_either_33 rfl (lv_at hl 0 rfl) ?_
  obtain ⟨k1_, h⟩ := h
  refine q_callV X Y hl (cm_X12_next h) mt_X12_next mi_X12_next ml_X12_341 (ci := 12) rfl k1_ (by decide) rfl rfl (by first | exact Nat.le_of_ble_eq_true rfl | simp [q_cat, q_catI, q_catJ, q_catR]) ⟨Nat.le_of_ble_eq_true rfl, Nat.le_of_ble_eq_true rfl⟩ ⟨Nat.le_of_ble_eq_true rfl, Nat.le_of_ble_eq_true rfl⟩ dX12_either_34 (fun r2_ S3_ H locs hp Y => ?_)
  obtain ⟨rfl, h⟩ := hp
  refine W.eq (g2 := F0 m 37 ls []) rfl ?_
  refine lv_iload_n hx hb dX12_either_37 rfl (lv_at hl 1 rfl) ?_
  exact q_iret X Y h.1 (Nat.le_refl _) (Nat.le_refl _) h.2 dX12_either_38
def wm_X12_either (S : q_S) (a0 : Nat) (x1 : Int32) (x2 : Int32) (Q : Option Value → q_S → Prop) : Prop := q_K S a0 = 13 ∧ ((((q_I S 2411 a0) ≤ 0 → (wm_X12_isKey S a0 x2 (fun r6_ S7_ => ∃ x8_ : Int32, r6_ = some (.int x8_) ∧ (((¬ x8_ = 0 → (wb_X12_either_33 S7_ a0 x8_ Q)) ∧ (x8_ = 0 → (q_K S7_ a0 = 13 ∧ (wm_X12_isKey S7_ a0 x1 (fun r11_ S12_ => ∃ x13_ : Int32, r11_ = some (.int x13_) ∧ (((¬ x13_ = 0 → (wb_X12_either_33 S12_ a0 x8_ Q)) ∧ (x13_ = 0 → (q_K S12_ a0 = 13 ∧ (wm_X12_failHere S12_ a0 (1 : Int32) (fun r16_ S17_ => ∃ x18_ : Int32, r16_ = some (.int x18_) ∧ ((narrow .boolean (.int x18_) = .int x18_ ∧ Q (some (.int x18_)) S17_))))))))))))))))) ∧ (¬ (q_I S 2411 a0) ≤ 0 → (Q (some (.int (0 : Int32))) S))))
set_option maxHeartbeats 4000000 in
set_option maxRecDepth 100000 in
theorem cm_X12_either {l : Launch} {D : va_G} {cy : Nat → ClassId} {lo : Nat} {S : q_S} {a0 : Nat} {x1 : Int32} {x2 : Int32} {Q : Option Value → q_S → Prop} (h : wm_X12_either S a0 x1 x2 Q) : q_Met l D cy lo yX12_either cX12_either 4 (some .boolean) 6 133 0 0 [.ref a0, .int x1, .int x2] S Q := by
  refine q_body (by decide) (by first | exact Nat.le_of_ble_eq_true rfl | simp [lg_sl, q_cat, q_catI, q_catJ, q_catR]) ?_
  intro p e s m below meth c ls X hnm Y hl
  have hx := X.1
  have hb := X.2.1
  have hl : lv_has ls 4 [(0, .ref a0), (1, .int x1), (2, .int x2)] := by first | exact hl | simpa [lv_args, q_cat, q_catI, q_catJ, q_catR] using hl
  generalize hargs : ([.ref a0, .int x1, .int x2] : List Value).toArray = args at X ⊢
  unfold wm_X12_either at h
  refine lv_aload_n hx hb dX12_either_0 rfl (lv_at hl 0 rfl) ?_
  obtain ⟨k4_, h⟩ := h
  refine q_getI X Y kX12 11 rfl fl_X12_328 k4_ dX12_either_1 ?_
  refine lv_if_le (tgt := 9) hx hb dX12_either_4 (by decide) (fun c5_ => ?_) (fun c5_ => ?_)
  · replace h := h.1 c5_
    refine lv_aload_n hx hb dX12_either_9 rfl (lv_at hl 0 rfl) ?_
    refine lv_iload_n hx hb dX12_either_10 rfl (lv_at hl 2 rfl) ?_
    refine q_callV X Y hl (cm_X12_isKey h) mt_X12_isKey mi_X12_isKey ml_X12_344 (ci := 12) rfl k4_ (by decide) rfl rfl (by first | exact Nat.le_of_ble_eq_true rfl | simp [q_cat, q_catI, q_catJ, q_catR]) ⟨Nat.le_of_ble_eq_true rfl, Nat.le_of_ble_eq_true rfl⟩ ⟨Nat.le_of_ble_eq_true rfl, Nat.le_of_ble_eq_true rfl⟩ dX12_either_11 (fun r6_ S7_ H locs hp Y => ?_)
    obtain ⟨x8_, rfl, h⟩ := hp
    refine W.eq (g2 := F0 m 14 ls [.int x8_]) rfl ?_
    refine lv_istore_n (i := 3) (lv' := [(3, .int x8_), (0, .ref a0), (1, .int x1), (2, .int x2)]) hx hb dX12_either_14 rfl hl (by decide) (by first | rfl | simp [q_cat, q_catI, q_catJ, q_catR]) (fun ls hl => ?_)
    refine lv_iload_n hx hb dX12_either_15 rfl (lv_at hl 0 rfl) ?_
    refine lv_if_ne (tgt := 33) hx hb dX12_either_16 (by decide) (fun c9_ => ?_) (fun c9_ => ?_)
    · replace h := h.1 c9_
      exact cb_X12_either_33 X Y (lv_sub hl [1, 0] rfl) h
    · replace h := h.2 c9_
      refine lv_aload_n hx hb dX12_either_19 rfl (lv_at hl 1 rfl) ?_
      refine lv_iload_n hx hb dX12_either_20 rfl (lv_at hl 2 rfl) ?_
      obtain ⟨k10_, h⟩ := h
      refine q_callV X Y hl (cm_X12_isKey h) mt_X12_isKey mi_X12_isKey ml_X12_344 (ci := 12) rfl k10_ (by decide) rfl rfl (by first | exact Nat.le_of_ble_eq_true rfl | simp [q_cat, q_catI, q_catJ, q_catR]) ⟨Nat.le_of_ble_eq_true rfl, Nat.le_of_ble_eq_true rfl⟩ ⟨Nat.le_of_ble_eq_true rfl, Nat.le_of_ble_eq_true rfl⟩ dX12_either_21 (fun r11_ S12_ H locs hp Y => ?_)
      obtain ⟨x13_, rfl, h⟩ := hp
      refine W.eq (g2 := F0 m 24 ls [.int x13_]) rfl ?_
      refine lv_if_ne (tgt := 33) hx hb dX12_either_24 (by decide) (fun c14_ => ?_) (fun c14_ => ?_)
      · replace h := h.1 c14_
        exact cb_X12_either_33 X Y (lv_sub hl [1, 0] rfl) h
      · replace h := h.2 c14_
        refine lv_aload_n hx hb dX12_either_27 rfl (lv_at hl 1 rfl) ?_
        refine lv_iconst (v := 1) hx hb dX12_either_28 (by decide) ?_
        obtain ⟨k15_, h⟩ := h
        refine q_callV X Y hl (cm_X12_failHere h) mt_X12_failHere mi_X12_failHere ml_X12_338 (ci := 12) rfl k15_ (by decide) rfl rfl (by first | exact Nat.le_of_ble_eq_true rfl | simp [q_cat, q_catI, q_catJ, q_catR]) ⟨Nat.le_of_ble_eq_true rfl, Nat.le_of_ble_eq_true rfl⟩ ⟨Nat.le_of_ble_eq_true rfl, Nat.le_of_ble_eq_true rfl⟩ dX12_either_29 (fun r16_ S17_ H locs hp Y => ?_)
        obtain ⟨x18_, rfl, h⟩ := hp
        refine W.eq (g2 := F0 m 32 ls [.int x18_]) rfl ?_
        exact q_iret X Y h.1 (Nat.le_refl _) (Nat.le_refl _) h.2 dX12_either_32
  · replace h := h.2 c5_
    refine lv_iconst (v := 0) hx hb dX12_either_7 (by decide) ?_
    exact q_iret X Y rfl (Nat.le_refl _) (Nat.le_refl _) h dX12_either_8
-- X12_readErrors
theorem fl_X12_379 : Cond.fieldLink RX12 379 "PartitionWorksModel" "handlePlace" "I" ∈ q_G := q_tb (i := 1787) (by decide +kernel) (by decide +kernel)
theorem dX12_readErrors_0 : decode cX12_readErrors 0 = .ok (.aload_n 0, 1) := by decide +kernel
theorem dX12_readErrors_1 : decode cX12_readErrors 1 = .ok (.getfield 109, 3) := by decide +kernel
theorem dX12_readErrors_4 : decode cX12_readErrors 4 = .ok (.iload_n 1, 1) := by decide +kernel
theorem dX12_readErrors_5 : decode cX12_readErrors 5 = .ok (.baload, 1) := by decide +kernel
theorem dX12_readErrors_6 : decode cX12_readErrors 6 = .ok (.ifCond .eq 15, 3) := by decide +kernel
theorem dX12_readErrors_9 : decode cX12_readErrors 9 = .ok (.aload_n 0, 1) := by decide +kernel
theorem dX12_readErrors_10 : decode cX12_readErrors 10 = .ok (.bipush 7, 2) := by decide +kernel
theorem dX12_readErrors_12 : decode cX12_readErrors 12 = .ok (.aload_n 0, 1) := by decide +kernel
theorem dX12_readErrors_13 : decode cX12_readErrors 13 = .ok (.getfield 287, 3) := by decide +kernel
theorem dX12_readErrors_16 : decode cX12_readErrors 16 = .ok (.invokevirtual 331, 3) := by decide +kernel
theorem dX12_readErrors_19 : decode cX12_readErrors 19 = .ok (.pop, 1) := by decide +kernel
theorem dX12_readErrors_20 : decode cX12_readErrors 20 = .ok (.return_, 1) := by decide +kernel
theorem dX12_readErrors_21 : decode cX12_readErrors 21 = .ok (.aload_n 0, 1) := by decide +kernel
theorem dX12_readErrors_22 : decode cX12_readErrors 22 = .ok (.getfield 109, 3) := by decide +kernel
theorem dX12_readErrors_25 : decode cX12_readErrors 25 = .ok (.iload_n 1, 1) := by decide +kernel
theorem dX12_readErrors_26 : decode cX12_readErrors 26 = .ok (.iconst 1, 1) := by decide +kernel
theorem dX12_readErrors_27 : decode cX12_readErrors 27 = .ok (.bastore, 1) := by decide +kernel
theorem dX12_readErrors_28 : decode cX12_readErrors 28 = .ok (.aload_n 0, 1) := by decide +kernel
theorem dX12_readErrors_29 : decode cX12_readErrors 29 = .ok (.invokevirtual 341, 3) := by decide +kernel
theorem dX12_readErrors_32 : decode cX12_readErrors 32 = .ok (.aload_n 0, 1) := by decide +kernel
theorem dX12_readErrors_33 : decode cX12_readErrors 33 = .ok (.bipush 123, 2) := by decide +kernel
theorem dX12_readErrors_35 : decode cX12_readErrors 35 = .ok (.invokevirtual 365, 3) := by decide +kernel
theorem dX12_readErrors_38 : decode cX12_readErrors 38 = .ok (.pop, 1) := by decide +kernel
theorem dX12_readErrors_39 : decode cX12_readErrors 39 = .ok (.iconst 0, 1) := by decide +kernel
theorem dX12_readErrors_40 : decode cX12_readErrors 40 = .ok (.istore_n 2, 1) := by decide +kernel
theorem dX12_readErrors_41 : decode cX12_readErrors 41 = .ok (.aload_n 0, 1) := by decide +kernel
theorem dX12_readErrors_42 : decode cX12_readErrors 42 = .ok (.getfield 328, 3) := by decide +kernel
theorem dX12_readErrors_45 : decode cX12_readErrors 45 = .ok (.ifCond .ne 183, 3) := by decide +kernel
theorem dX12_readErrors_48 : decode cX12_readErrors 48 = .ok (.iload_n 2, 1) := by decide +kernel
theorem dX12_readErrors_49 : decode cX12_readErrors 49 = .ok (.ifCond .eq 12, 3) := by decide +kernel
theorem dX12_readErrors_52 : decode cX12_readErrors 52 = .ok (.aload_n 0, 1) := by decide +kernel
theorem dX12_readErrors_53 : decode cX12_readErrors 53 = .ok (.bipush 125, 2) := by decide +kernel
theorem dX12_readErrors_55 : decode cX12_readErrors 55 = .ok (.invokevirtual 335, 3) := by decide +kernel
theorem dX12_readErrors_58 : decode cX12_readErrors 58 = .ok (.ifCond .ne 170, 3) := by decide +kernel
theorem dX12_readErrors_61 : decode cX12_readErrors 61 = .ok (.aload_n 0, 1) := by decide +kernel
theorem dX12_readErrors_62 : decode cX12_readErrors 62 = .ok (.getfield 297, 3) := by decide +kernel
theorem dX12_readErrors_65 : decode cX12_readErrors 65 = .ok (.iconst 1, 1) := by decide +kernel
theorem dX12_readErrors_66 : decode cX12_readErrors 66 = .ok (.if_icmp .eq 11, 3) := by decide +kernel
theorem dX12_readErrors_69 : decode cX12_readErrors 69 = .ok (.aload_n 0, 1) := by decide +kernel
theorem dX12_readErrors_70 : decode cX12_readErrors 70 = .ok (.getfield 297, 3) := by decide +kernel
theorem dX12_readErrors_73 : decode cX12_readErrors 73 = .ok (.iconst 4, 1) := by decide +kernel
theorem dX12_readErrors_74 : decode cX12_readErrors 74 = .ok (.if_icmp .ne 13, 3) := by decide +kernel
theorem dX12_readErrors_77 : decode cX12_readErrors 77 = .ok (.aload_n 0, 1) := by decide +kernel
theorem dX12_readErrors_78 : decode cX12_readErrors 78 = .ok (.ldc_w 405, 3) := by decide +kernel
theorem dX12_readErrors_81 : decode cX12_readErrors 81 = .ok (.invokevirtual 312, 3) := by decide +kernel
theorem dX12_readErrors_84 : decode cX12_readErrors 84 = .ok (.goto 4, 3) := by decide +kernel
theorem dX12_readErrors_87 : decode cX12_readErrors 87 = .ok (.iconst (-1), 1) := by decide +kernel
theorem dX12_readErrors_88 : decode cX12_readErrors 88 = .ok (.istore_n 3, 1) := by decide +kernel
theorem dX12_readErrors_89 : decode cX12_readErrors 89 = .ok (.iload_n 3, 1) := by decide +kernel
theorem dX12_readErrors_90 : decode cX12_readErrors 90 = .ok (.ifCond .ge 10, 3) := by decide +kernel
theorem dX12_readErrors_93 : decode cX12_readErrors 93 = .ok (.aload_n 0, 1) := by decide +kernel
theorem dX12_readErrors_94 : decode cX12_readErrors 94 = .ok (.iconst 1, 1) := by decide +kernel
theorem dX12_readErrors_95 : decode cX12_readErrors 95 = .ok (.invokevirtual 338, 3) := by decide +kernel
theorem dX12_readErrors_98 : decode cX12_readErrors 98 = .ok (.pop, 1) := by decide +kernel
theorem dX12_readErrors_99 : decode cX12_readErrors 99 = .ok (.return_, 1) := by decide +kernel
theorem dX12_readErrors_100 : decode cX12_readErrors 100 = .ok (.iload_n 2, 1) := by decide +kernel
theorem dX12_readErrors_101 : decode cX12_readErrors 101 = .ok (.iload_n 3, 1) := by decide +kernel
theorem dX12_readErrors_102 : decode cX12_readErrors 102 = .ok (.ishr, 1) := by decide +kernel
theorem dX12_readErrors_103 : decode cX12_readErrors 103 = .ok (.iconst 1, 1) := by decide +kernel
theorem dX12_readErrors_104 : decode cX12_readErrors 104 = .ok (.iand, 1) := by decide +kernel
theorem dX12_readErrors_105 : decode cX12_readErrors 105 = .ok (.iconst 1, 1) := by decide +kernel
theorem dX12_readErrors_106 : decode cX12_readErrors 106 = .ok (.if_icmp .ne 15, 3) := by decide +kernel
theorem dX12_readErrors_109 : decode cX12_readErrors 109 = .ok (.aload_n 0, 1) := by decide +kernel
theorem dX12_readErrors_110 : decode cX12_readErrors 110 = .ok (.bipush 7, 2) := by decide +kernel
theorem dX12_readErrors_112 : decode cX12_readErrors 112 = .ok (.aload_n 0, 1) := by decide +kernel
theorem dX12_readErrors_113 : decode cX12_readErrors 113 = .ok (.getfield 287, 3) := by decide +kernel
theorem dX12_readErrors_116 : decode cX12_readErrors 116 = .ok (.invokevirtual 331, 3) := by decide +kernel
theorem dX12_readErrors_119 : decode cX12_readErrors 119 = .ok (.pop, 1) := by decide +kernel
theorem dX12_readErrors_120 : decode cX12_readErrors 120 = .ok (.return_, 1) := by decide +kernel
theorem dX12_readErrors_121 : decode cX12_readErrors 121 = .ok (.iload_n 2, 1) := by decide +kernel
theorem dX12_readErrors_122 : decode cX12_readErrors 122 = .ok (.iconst 1, 1) := by decide +kernel
theorem dX12_readErrors_123 : decode cX12_readErrors 123 = .ok (.iload_n 3, 1) := by decide +kernel
theorem dX12_readErrors_124 : decode cX12_readErrors 124 = .ok (.ishl, 1) := by decide +kernel
theorem dX12_readErrors_125 : decode cX12_readErrors 125 = .ok (.ior, 1) := by decide +kernel
theorem dX12_readErrors_126 : decode cX12_readErrors 126 = .ok (.istore_n 2, 1) := by decide +kernel
theorem dX12_readErrors_127 : decode cX12_readErrors 127 = .ok (.aload_n 0, 1) := by decide +kernel
theorem dX12_readErrors_128 : decode cX12_readErrors 128 = .ok (.invokevirtual 341, 3) := by decide +kernel
theorem dX12_readErrors_131 : decode cX12_readErrors 131 = .ok (.aload_n 0, 1) := by decide +kernel
theorem dX12_readErrors_132 : decode cX12_readErrors 132 = .ok (.bipush 58, 2) := by decide +kernel
theorem dX12_readErrors_134 : decode cX12_readErrors 134 = .ok (.invokevirtual 365, 3) := by decide +kernel
theorem dX12_readErrors_137 : decode cX12_readErrors 137 = .ok (.pop, 1) := by decide +kernel
theorem dX12_readErrors_138 : decode cX12_readErrors 138 = .ok (.aload_n 0, 1) := by decide +kernel
theorem dX12_readErrors_139 : decode cX12_readErrors 139 = .ok (.getfield 328, 3) := by decide +kernel
theorem dX12_readErrors_142 : decode cX12_readErrors 142 = .ok (.ifCond .le 4, 3) := by decide +kernel
theorem dX12_readErrors_145 : decode cX12_readErrors 145 = .ok (.return_, 1) := by decide +kernel
theorem dX12_readErrors_146 : decode cX12_readErrors 146 = .ok (.aload_n 0, 1) := by decide +kernel
theorem dX12_readErrors_147 : decode cX12_readErrors 147 = .ok (.getfield 297, 3) := by decide +kernel
theorem dX12_readErrors_150 : decode cX12_readErrors 150 = .ok (.iconst 1, 1) := by decide +kernel
theorem dX12_readErrors_151 : decode cX12_readErrors 151 = .ok (.if_icmp .ne 13, 3) := by decide +kernel
theorem dX12_readErrors_154 : decode cX12_readErrors 154 = .ok (.aload_n 0, 1) := by decide +kernel
theorem dX12_readErrors_155 : decode cX12_readErrors 155 = .ok (.ldc_w 407, 3) := by decide +kernel
theorem dX12_readErrors_158 : decode cX12_readErrors 158 = .ok (.invokevirtual 312, 3) := by decide +kernel
theorem dX12_readErrors_161 : decode cX12_readErrors 161 = .ok (.goto 4, 3) := by decide +kernel
theorem dX12_readErrors_164 : decode cX12_readErrors 164 = .ok (.iconst (-1), 1) := by decide +kernel
theorem dX12_readErrors_165 : decode cX12_readErrors 165 = .ok (.istore 4, 2) := by decide +kernel
theorem dX12_readErrors_167 : decode cX12_readErrors 167 = .ok (.iload 4, 2) := by decide +kernel
theorem dX12_readErrors_169 : decode cX12_readErrors 169 = .ok (.ifCond .ge 10, 3) := by decide +kernel
theorem dX12_readErrors_172 : decode cX12_readErrors 172 = .ok (.aload_n 0, 1) := by decide +kernel
theorem dX12_readErrors_173 : decode cX12_readErrors 173 = .ok (.iconst 1, 1) := by decide +kernel
theorem dX12_readErrors_174 : decode cX12_readErrors 174 = .ok (.invokevirtual 338, 3) := by decide +kernel
theorem dX12_readErrors_177 : decode cX12_readErrors 177 = .ok (.pop, 1) := by decide +kernel
theorem dX12_readErrors_178 : decode cX12_readErrors 178 = .ok (.return_, 1) := by decide +kernel
theorem dX12_readErrors_179 : decode cX12_readErrors 179 = .ok (.iload 4, 2) := by decide +kernel
theorem dX12_readErrors_181 : decode cX12_readErrors 181 = .ok (.bipush 6, 2) := by decide +kernel
theorem dX12_readErrors_183 : decode cX12_readErrors 183 = .ok (.if_icmp .ne 19, 3) := by decide +kernel
theorem dX12_readErrors_186 : decode cX12_readErrors 186 = .ok (.aload_n 0, 1) := by decide +kernel
theorem dX12_readErrors_187 : decode cX12_readErrors 187 = .ok (.getfield 379, 3) := by decide +kernel
theorem dX12_readErrors_190 : decode cX12_readErrors 190 = .ok (.iconst (-1), 1) := by decide +kernel
theorem dX12_readErrors_191 : decode cX12_readErrors 191 = .ok (.if_icmp .ne 11, 3) := by decide +kernel
theorem dX12_readErrors_194 : decode cX12_readErrors 194 = .ok (.aload_n 0, 1) := by decide +kernel
theorem dX12_readErrors_195 : decode cX12_readErrors 195 = .ok (.aload_n 0, 1) := by decide +kernel
theorem dX12_readErrors_196 : decode cX12_readErrors 196 = .ok (.getfield 287, 3) := by decide +kernel
theorem dX12_readErrors_199 : decode cX12_readErrors 199 = .ok (.putfield 379, 3) := by decide +kernel
theorem dX12_readErrors_202 : decode cX12_readErrors 202 = .ok (.aload_n 0, 1) := by decide +kernel
theorem dX12_readErrors_203 : decode cX12_readErrors 203 = .ok (.getfield 112, 3) := by decide +kernel
theorem dX12_readErrors_206 : decode cX12_readErrors 206 = .ok (.iconst 5, 1) := by decide +kernel
theorem dX12_readErrors_207 : decode cX12_readErrors 207 = .ok (.iload_n 1, 1) := by decide +kernel
theorem dX12_readErrors_208 : decode cX12_readErrors 208 = .ok (.imul, 1) := by decide +kernel
theorem dX12_readErrors_209 : decode cX12_readErrors 209 = .ok (.iload_n 3, 1) := by decide +kernel
theorem dX12_readErrors_210 : decode cX12_readErrors 210 = .ok (.iadd, 1) := by decide +kernel
theorem dX12_readErrors_211 : decode cX12_readErrors 211 = .ok (.iload 4, 2) := by decide +kernel
theorem dX12_readErrors_213 : decode cX12_readErrors 213 = .ok (.iastore, 1) := by decide +kernel
theorem dX12_readErrors_214 : decode cX12_readErrors 214 = .ok (.aload_n 0, 1) := by decide +kernel
theorem dX12_readErrors_215 : decode cX12_readErrors 215 = .ok (.invokevirtual 341, 3) := by decide +kernel
theorem dX12_readErrors_218 : decode cX12_readErrors 218 = .ok (.aload_n 0, 1) := by decide +kernel
theorem dX12_readErrors_219 : decode cX12_readErrors 219 = .ok (.bipush 59, 2) := by decide +kernel
theorem dX12_readErrors_221 : decode cX12_readErrors 221 = .ok (.invokevirtual 365, 3) := by decide +kernel
theorem dX12_readErrors_224 : decode cX12_readErrors 224 = .ok (.pop, 1) := by decide +kernel
theorem dX12_readErrors_225 : decode cX12_readErrors 225 = .ok (.goto (-184), 3) := by decide +kernel
theorem dX12_readErrors_228 : decode cX12_readErrors 228 = .ok (.aload_n 0, 1) := by decide +kernel
theorem dX12_readErrors_229 : decode cX12_readErrors 229 = .ok (.bipush 125, 2) := by decide +kernel
theorem dX12_readErrors_231 : decode cX12_readErrors 231 = .ok (.invokevirtual 365, 3) := by decide +kernel
theorem dX12_readErrors_234 : decode cX12_readErrors 234 = .ok (.pop, 1) := by decide +kernel
theorem dX12_readErrors_235 : decode cX12_readErrors 235 = .ok (.return_, 1) := by decide +kernel
def wb_X12_readErrors_202 (B41 : q_S → Nat → Int32 → Int32 → Prop) (S : q_S) (a0 : Nat) (x1 : Int32) (x2 : Int32) (x3 : Int32) (x4 : Int32) (Q : Option Value → q_S → Prop) : Prop := q_K S a0 = 13 ∧ (∃ a2_ : Nat, (q_P S 2452 a0) = some a2_ ∧ (q_K S a2_ = 21 ∧ (vp_in (((5 : Int32) * x1) + x3) (q_N S a2_) ∧ (wm_X12_next (qs_A S a2_ (((5 : Int32) * x1) + x3).toNatClampNeg x4) a0 (fun r6_ S7_ => r6_ = none ∧ (q_K S7_ a0 = 13 ∧ (wm_X12_sign S7_ a0 (59 : Int32) (fun r9_ S10_ => ∃ x11_ : Int32, r9_ = some (.int x11_) ∧ (B41 S10_ a0 x1 x2)))))))))
set_option maxHeartbeats 4000000 in
set_option maxRecDepth 100000 in
theorem cb_X12_readErrors_202 {p : Program} {l : Launch} {e : Env} {s : State} {m : MethodId} {args : Array Value} {below : List Frame} {meth : Method} {c : Code} {D : va_G} {cy : Nat → ClassId} {lo : Nat} {B41 : q_S → Nat → Int32 → Int32 → Prop} {S : q_S} {a0 : Nat} {x1 : Int32} {x2 : Int32} {x3 : Int32} {x4 : Int32} {Q : Option Value → q_S → Prop} {H : Heap} {locs : List Loc} {ls : Array Slot} (X : q_X p s m args meth c RX12 cX12_readErrors 5 none D cy lo) (hB41 : ∀ (S : q_S) (a0 : Nat) (x1 : Int32) (x2 : Int32) (H : Heap) (locs : List Loc) (ls : Array Slot), B41 S a0 x1 x2 → q_Y D cy lo s S H locs → lv_has ls 5 [(0, .ref a0), (1, .int x1), (2, .int x2)] → W p l e ({ frames := 7, cells := 0, slots := 0, locals := 154 } : Room) s m args below meth c H locs 0 0 (MQ below (q_Q D cy lo Q) args s 0 0 (fun q => lo ≤ q)) (F0 m 41 ls [])) (Y : q_Y D cy lo s S H locs) (hl : lv_has ls 5 [(0, .ref a0), (1, .int x1), (2, .int x2), (3, .int x3), (4, .int x4)]) (h : wb_X12_readErrors_202 B41 S a0 x1 x2 x3 x4 Q) : W p l e ({ frames := 7, cells := 0, slots := 0, locals := 154 } : Room) s m args below meth c H locs 0 0 (MQ below (q_Q D cy lo Q) args s 0 0 (fun q => lo ≤ q)) (F0 m 202 ls []) := by
  have hx := X.1
  have hb := X.2.1
  unfold wb_X12_readErrors_202 at h
  refine lv_aload_n hx hb dX12_readErrors_202 rfl (lv_at hl 0 rfl) ?_
  obtain ⟨k1_, h⟩ := h
  refine q_getP X Y kX12 52 rfl fl_X12_112 k1_ rfl dX12_readErrors_203 ?_
  refine lv_iconst (v := 5) hx hb dX12_readErrors_206 (by decide) ?_
  refine lv_iload_n hx hb dX12_readErrors_207 rfl (lv_at hl 1 rfl) ?_
  refine lv_imul hx hb dX12_readErrors_208 ?_
  refine lv_iload_n hx hb dX12_readErrors_209 rfl (lv_at hl 3 rfl) ?_
  refine lv_iadd hx hb dX12_readErrors_210 ?_
  refine lv_iload hx hb dX12_readErrors_211 (lv_at hl 4 rfl) ?_
  obtain ⟨a2_, e3_, h⟩ := h
  refine q_nn [.int x4, .int (((5 : Int32) * x1) + x3)] e3_ ?_
  obtain ⟨k4_, h⟩ := h
  obtain ⟨i5_, h⟩ := h
  refine q_ist X Y k4_ i5_ dX12_readErrors_213 (fun H locs Y => ?_)
  refine lv_aload_n hx hb dX12_readErrors_214 rfl (lv_at hl 0 rfl) ?_
  refine q_callV X Y hl (cm_X12_next h) mt_X12_next mi_X12_next ml_X12_341 (ci := 12) rfl k1_ (by decide) rfl rfl (by first | exact Nat.le_of_ble_eq_true rfl | simp [q_cat, q_catI, q_catJ, q_catR]) ⟨Nat.le_of_ble_eq_true rfl, Nat.le_of_ble_eq_true rfl⟩ ⟨Nat.le_of_ble_eq_true rfl, Nat.le_of_ble_eq_true rfl⟩ dX12_readErrors_215 (fun r6_ S7_ H locs hp Y => ?_)
  obtain ⟨rfl, h⟩ := hp
  refine W.eq (g2 := F0 m 218 ls []) rfl ?_
  refine lv_aload_n hx hb dX12_readErrors_218 rfl (lv_at hl 0 rfl) ?_
  refine lv_bipush (v := 59) hx hb dX12_readErrors_219 (by decide) ?_
  obtain ⟨k8_, h⟩ := h
  refine q_callV X Y hl (cm_X12_sign h) mt_X12_sign mi_X12_sign ml_X12_365 (ci := 12) rfl k8_ (by decide) rfl rfl (by first | exact Nat.le_of_ble_eq_true rfl | simp [q_cat, q_catI, q_catJ, q_catR]) ⟨Nat.le_of_ble_eq_true rfl, Nat.le_of_ble_eq_true rfl⟩ ⟨Nat.le_of_ble_eq_true rfl, Nat.le_of_ble_eq_true rfl⟩ dX12_readErrors_221 (fun r9_ S10_ H locs hp Y => ?_)
  obtain ⟨x11_, rfl, h⟩ := hp
  refine W.eq (g2 := F0 m 224 ls [.int x11_]) rfl ?_
  refine lv_pop hx hb dX12_readErrors_224 rfl ?_
  refine lv_goto (tgt := 41) hx hb dX12_readErrors_225 (by decide) ?_
  exact hB41 _ _ _ _ _ _ _ h Y (lv_sub hl [0, 1, 2] rfl)
def wb_X12_readErrors_165 (B41 : q_S → Nat → Int32 → Int32 → Prop) (S : q_S) (a0 : Nat) (x1 : Int32) (x2 : Int32) (x3 : Int32) (xs0 : Int32) (Q : Option Value → q_S → Prop) : Prop := ((0 ≤ xs0 → (((¬ xs0 = (6 : Int32) → (wb_X12_readErrors_202 B41 S a0 x1 x2 x3 xs0 Q)) ∧ (xs0 = (6 : Int32) → (q_K S a0 = 13 ∧ (((¬ (q_I S 2453 a0) = (-1 : Int32) → (wb_X12_readErrors_202 B41 S a0 x1 x2 x3 xs0 Q)) ∧ ((q_I S 2453 a0) = (-1 : Int32) → (wb_X12_readErrors_202 B41 (qs_I S 2453 a0 (q_I S 2407 a0)) a0 x1 x2 x3 xs0 Q))))))))) ∧ (¬ 0 ≤ xs0 → (q_K S a0 = 13 ∧ (wm_X12_failHere S a0 (1 : Int32) (fun r17_ S18_ => ∃ x19_ : Int32, r17_ = some (.int x19_) ∧ (Q none S18_))))))
set_option maxHeartbeats 4000000 in
set_option maxRecDepth 100000 in
theorem cb_X12_readErrors_165 {p : Program} {l : Launch} {e : Env} {s : State} {m : MethodId} {args : Array Value} {below : List Frame} {meth : Method} {c : Code} {D : va_G} {cy : Nat → ClassId} {lo : Nat} {B41 : q_S → Nat → Int32 → Int32 → Prop} {S : q_S} {a0 : Nat} {x1 : Int32} {x2 : Int32} {x3 : Int32} {xs0 : Int32} {Q : Option Value → q_S → Prop} {H : Heap} {locs : List Loc} {ls : Array Slot} (X : q_X p s m args meth c RX12 cX12_readErrors 5 none D cy lo) (hB41 : ∀ (S : q_S) (a0 : Nat) (x1 : Int32) (x2 : Int32) (H : Heap) (locs : List Loc) (ls : Array Slot), B41 S a0 x1 x2 → q_Y D cy lo s S H locs → lv_has ls 5 [(0, .ref a0), (1, .int x1), (2, .int x2)] → W p l e ({ frames := 7, cells := 0, slots := 0, locals := 154 } : Room) s m args below meth c H locs 0 0 (MQ below (q_Q D cy lo Q) args s 0 0 (fun q => lo ≤ q)) (F0 m 41 ls [])) (Y : q_Y D cy lo s S H locs) (hl : lv_has ls 5 [(0, .ref a0), (1, .int x1), (2, .int x2), (3, .int x3)]) (h : wb_X12_readErrors_165 B41 S a0 x1 x2 x3 xs0 Q) : W p l e ({ frames := 7, cells := 0, slots := 0, locals := 154 } : Room) s m args below meth c H locs 0 0 (MQ below (q_Q D cy lo Q) args s 0 0 (fun q => lo ≤ q)) (F0 m 165 ls [.int xs0]) := by
  have hx := X.1
  have hb := X.2.1
  unfold wb_X12_readErrors_165 at h
  refine lv_istore (i := 4) (lv' := [(4, .int xs0), (0, .ref a0), (1, .int x1), (2, .int x2), (3, .int x3)]) hx hb dX12_readErrors_165 hl (by decide) (by first | rfl | simp [q_cat, q_catI, q_catJ, q_catR]) (fun ls hl => ?_)
  refine lv_iload hx hb dX12_readErrors_167 (lv_at hl 0 rfl) ?_
  refine lv_if_ge (tgt := 179) hx hb dX12_readErrors_169 (by decide) (fun c12_ => ?_) (fun c12_ => ?_)
  · replace h := h.1 c12_
    refine lv_iload hx hb dX12_readErrors_179 (lv_at hl 0 rfl) ?_
    refine lv_bipush (v := 6) hx hb dX12_readErrors_181 (by decide) ?_
    refine lv_icmp_ne (tgt := 202) hx hb dX12_readErrors_183 (by decide) (fun c13_ => ?_) (fun c13_ => ?_)
    · replace h := h.1 c13_
      exact cb_X12_readErrors_202 X hB41 Y (lv_sub hl [1, 2, 3, 4, 0] rfl) h
    · replace h := h.2 c13_
      refine lv_aload_n hx hb dX12_readErrors_186 rfl (lv_at hl 1 rfl) ?_
      obtain ⟨k14_, h⟩ := h
      refine q_getI X Y kX12 53 rfl fl_X12_379 k14_ dX12_readErrors_187 ?_
      refine lv_iconst (v := (-1)) hx hb dX12_readErrors_190 (by decide) ?_
      refine lv_icmp_ne (tgt := 202) hx hb dX12_readErrors_191 (by decide) (fun c15_ => ?_) (fun c15_ => ?_)
      · replace h := h.1 c15_
        exact cb_X12_readErrors_202 X hB41 Y (lv_sub hl [1, 2, 3, 4, 0] rfl) h
      · replace h := h.2 c15_
        refine lv_aload_n hx hb dX12_readErrors_194 rfl (lv_at hl 1 rfl) ?_
        refine lv_aload_n hx hb dX12_readErrors_195 rfl (lv_at hl 1 rfl) ?_
        refine q_getI X Y kX12 7 rfl fl_X12_287 k14_ dX12_readErrors_196 ?_
        refine q_putI X Y kX12 53 rfl fl_X12_379 k14_ .int rfl ⟨rfl, rfl⟩ rfl dX12_readErrors_199 (fun H locs Y => ?_)
        exact cb_X12_readErrors_202 X hB41 Y (lv_sub hl [1, 2, 3, 4, 0] rfl) h
  · replace h := h.2 c12_
    refine lv_aload_n hx hb dX12_readErrors_172 rfl (lv_at hl 1 rfl) ?_
    refine lv_iconst (v := 1) hx hb dX12_readErrors_173 (by decide) ?_
    obtain ⟨k16_, h⟩ := h
    refine q_callV X Y hl (cm_X12_failHere h) mt_X12_failHere mi_X12_failHere ml_X12_338 (ci := 12) rfl k16_ (by decide) rfl rfl (by first | exact Nat.le_of_ble_eq_true rfl | simp [q_cat, q_catI, q_catJ, q_catR]) ⟨Nat.le_of_ble_eq_true rfl, Nat.le_of_ble_eq_true rfl⟩ ⟨Nat.le_of_ble_eq_true rfl, Nat.le_of_ble_eq_true rfl⟩ dX12_readErrors_174 (fun r17_ S18_ H locs hp Y => ?_)
    obtain ⟨x19_, rfl, h⟩ := hp
    refine W.eq (g2 := F0 m 177 ls [.int x19_]) rfl ?_
    refine lv_pop hx hb dX12_readErrors_177 rfl ?_
    exact q_vret X Y (Nat.le_refl _) (Nat.le_refl _) h dX12_readErrors_178
def wb_X12_readErrors_88 (B41 : q_S → Nat → Int32 → Int32 → Prop) (S : q_S) (a0 : Nat) (x1 : Int32) (x2 : Int32) (xs0 : Int32) (Q : Option Value → q_S → Prop) : Prop := ((0 ≤ xs0 → (((¬ ((x2 >>> (xs0 &&& 31)) &&& (1 : Int32)) = (1 : Int32) → (q_K S a0 = 13 ∧ (wm_X12_next S a0 (fun r23_ S24_ => r23_ = none ∧ (q_K S24_ a0 = 13 ∧ (wm_X12_sign S24_ a0 (58 : Int32) (fun r26_ S27_ => ∃ x28_ : Int32, r26_ = some (.int x28_) ∧ (q_K S27_ a0 = 13 ∧ ((((q_I S27_ 2411 a0) ≤ 0 → (((¬ (q_I S27_ 2406 a0) = (1 : Int32) → (wb_X12_readErrors_165 B41 S27_ a0 x1 (x2 ||| ((1 : Int32) <<< (xs0 &&& 31))) xs0 (-1 : Int32) Q)) ∧ ((q_I S27_ 2406 a0) = (1 : Int32) → (∀ b32_ : Nat, q_K S27_ b32_ = 30 → q_N S27_ b32_ = 14 → (wm_X12_numberOf S27_ a0 (some b32_) (fun r35_ S36_ => ∃ x37_ : Int32, r35_ = some (.int x37_) ∧ (wb_X12_readErrors_165 B41 S36_ a0 x1 (x2 ||| ((1 : Int32) <<< (xs0 &&& 31))) xs0 x37_ Q)))))))) ∧ (¬ (q_I S27_ 2411 a0) ≤ 0 → (Q none S27_)))))))))))) ∧ (((x2 >>> (xs0 &&& 31)) &&& (1 : Int32)) = (1 : Int32) → (q_K S a0 = 13 ∧ (wm_X12_fail S a0 (7 : Int32) (q_I S 2407 a0) (fun r39_ S40_ => ∃ x41_ : Int32, r39_ = some (.int x41_) ∧ (Q none S40_)))))))) ∧ (¬ 0 ≤ xs0 → (q_K S a0 = 13 ∧ (wm_X12_failHere S a0 (1 : Int32) (fun r43_ S44_ => ∃ x45_ : Int32, r43_ = some (.int x45_) ∧ (Q none S44_))))))
set_option maxHeartbeats 4000000 in
set_option maxRecDepth 100000 in
theorem cb_X12_readErrors_88 {p : Program} {l : Launch} {e : Env} {s : State} {m : MethodId} {args : Array Value} {below : List Frame} {meth : Method} {c : Code} {D : va_G} {cy : Nat → ClassId} {lo : Nat} {B41 : q_S → Nat → Int32 → Int32 → Prop} {S : q_S} {a0 : Nat} {x1 : Int32} {x2 : Int32} {xs0 : Int32} {Q : Option Value → q_S → Prop} {H : Heap} {locs : List Loc} {ls : Array Slot} (X : q_X p s m args meth c RX12 cX12_readErrors 5 none D cy lo) (hB41 : ∀ (S : q_S) (a0 : Nat) (x1 : Int32) (x2 : Int32) (H : Heap) (locs : List Loc) (ls : Array Slot), B41 S a0 x1 x2 → q_Y D cy lo s S H locs → lv_has ls 5 [(0, .ref a0), (1, .int x1), (2, .int x2)] → W p l e ({ frames := 7, cells := 0, slots := 0, locals := 154 } : Room) s m args below meth c H locs 0 0 (MQ below (q_Q D cy lo Q) args s 0 0 (fun q => lo ≤ q)) (F0 m 41 ls [])) (Y : q_Y D cy lo s S H locs) (hl : lv_has ls 5 [(0, .ref a0), (1, .int x1), (2, .int x2)]) (h : wb_X12_readErrors_88 B41 S a0 x1 x2 xs0 Q) : W p l e ({ frames := 7, cells := 0, slots := 0, locals := 154 } : Room) s m args below meth c H locs 0 0 (MQ below (q_Q D cy lo Q) args s 0 0 (fun q => lo ≤ q)) (F0 m 88 ls [.int xs0]) := by
  have hx := X.1
  have hb := X.2.1
  unfold wb_X12_readErrors_88 at h
  refine lv_istore_n (i := 3) (lv' := [(3, .int xs0), (0, .ref a0), (1, .int x1), (2, .int x2)]) hx hb dX12_readErrors_88 rfl hl (by decide) (by first | rfl | simp [q_cat, q_catI, q_catJ, q_catR]) (fun ls hl => ?_)
  refine lv_iload_n hx hb dX12_readErrors_89 rfl (lv_at hl 0 rfl) ?_
  refine lv_if_ge (tgt := 100) hx hb dX12_readErrors_90 (by decide) (fun c20_ => ?_) (fun c20_ => ?_)
  · replace h := h.1 c20_
    refine lv_iload_n hx hb dX12_readErrors_100 rfl (lv_at hl 3 rfl) ?_
    refine lv_iload_n hx hb dX12_readErrors_101 rfl (lv_at hl 0 rfl) ?_
    refine lv_ishr hx hb dX12_readErrors_102 ?_
    refine lv_iconst (v := 1) hx hb dX12_readErrors_103 (by decide) ?_
    refine lv_iand hx hb dX12_readErrors_104 ?_
    refine lv_iconst (v := 1) hx hb dX12_readErrors_105 (by decide) ?_
    refine lv_icmp_ne (tgt := 121) hx hb dX12_readErrors_106 (by decide) (fun c21_ => ?_) (fun c21_ => ?_)
    · replace h := h.1 c21_
      refine lv_iload_n hx hb dX12_readErrors_121 rfl (lv_at hl 3 rfl) ?_
      refine lv_iconst (v := 1) hx hb dX12_readErrors_122 (by decide) ?_
      refine lv_iload_n hx hb dX12_readErrors_123 rfl (lv_at hl 0 rfl) ?_
      refine lv_ishl hx hb dX12_readErrors_124 ?_
      refine lv_ior hx hb dX12_readErrors_125 ?_
      refine lv_istore_n (i := 2) (lv' := [(2, .int (x2 ||| ((1 : Int32) <<< (xs0 &&& 31)))), (3, .int xs0), (0, .ref a0), (1, .int x1)]) hx hb dX12_readErrors_126 rfl hl (by decide) (by first | rfl | simp [q_cat, q_catI, q_catJ, q_catR]) (fun ls hl => ?_)
      refine lv_aload_n hx hb dX12_readErrors_127 rfl (lv_at hl 2 rfl) ?_
      obtain ⟨k22_, h⟩ := h
      refine q_callV X Y hl (cm_X12_next h) mt_X12_next mi_X12_next ml_X12_341 (ci := 12) rfl k22_ (by decide) rfl rfl (by first | exact Nat.le_of_ble_eq_true rfl | simp [q_cat, q_catI, q_catJ, q_catR]) ⟨Nat.le_of_ble_eq_true rfl, Nat.le_of_ble_eq_true rfl⟩ ⟨Nat.le_of_ble_eq_true rfl, Nat.le_of_ble_eq_true rfl⟩ dX12_readErrors_128 (fun r23_ S24_ H locs hp Y => ?_)
      obtain ⟨rfl, h⟩ := hp
      refine W.eq (g2 := F0 m 131 ls []) rfl ?_
      refine lv_aload_n hx hb dX12_readErrors_131 rfl (lv_at hl 2 rfl) ?_
      refine lv_bipush (v := 58) hx hb dX12_readErrors_132 (by decide) ?_
      obtain ⟨k25_, h⟩ := h
      refine q_callV X Y hl (cm_X12_sign h) mt_X12_sign mi_X12_sign ml_X12_365 (ci := 12) rfl k25_ (by decide) rfl rfl (by first | exact Nat.le_of_ble_eq_true rfl | simp [q_cat, q_catI, q_catJ, q_catR]) ⟨Nat.le_of_ble_eq_true rfl, Nat.le_of_ble_eq_true rfl⟩ ⟨Nat.le_of_ble_eq_true rfl, Nat.le_of_ble_eq_true rfl⟩ dX12_readErrors_134 (fun r26_ S27_ H locs hp Y => ?_)
      obtain ⟨x28_, rfl, h⟩ := hp
      refine W.eq (g2 := F0 m 137 ls [.int x28_]) rfl ?_
      refine lv_pop hx hb dX12_readErrors_137 rfl ?_
      refine lv_aload_n hx hb dX12_readErrors_138 rfl (lv_at hl 2 rfl) ?_
      obtain ⟨k29_, h⟩ := h
      refine q_getI X Y kX12 11 rfl fl_X12_328 k29_ dX12_readErrors_139 ?_
      refine lv_if_le (tgt := 146) hx hb dX12_readErrors_142 (by decide) (fun c30_ => ?_) (fun c30_ => ?_)
      · replace h := h.1 c30_
        refine lv_aload_n hx hb dX12_readErrors_146 rfl (lv_at hl 2 rfl) ?_
        refine q_getI X Y kX12 6 rfl fl_X12_297 k29_ dX12_readErrors_147 ?_
        refine lv_iconst (v := 1) hx hb dX12_readErrors_150 (by decide) ?_
        refine lv_icmp_ne (tgt := 164) hx hb dX12_readErrors_151 (by decide) (fun c31_ => ?_) (fun c31_ => ?_)
        · replace h := h.1 c31_
          refine lv_iconst (v := (-1)) hx hb dX12_readErrors_164 (by decide) ?_
          exact cb_X12_readErrors_165 X hB41 Y (lv_sub hl [2, 3, 0, 1] rfl) h
        · replace h := h.2 c31_
          refine lv_aload_n hx hb dX12_readErrors_154 rfl (lv_at hl 2 rfl) ?_
          refine q_ldcsw X Y 14 rfl (by decide) dX12_readErrors_155 (fun b32_ k33_ k34_ => ?_)
          replace h := h b32_ k33_ k34_
          refine q_callV X Y hl (cm_X12_numberOf h) mt_X12_numberOf mi_X12_numberOf ml_X12_312 (ci := 12) rfl k29_ (by decide) rfl rfl (by first | exact Nat.le_of_ble_eq_true rfl | simp [q_cat, q_catI, q_catJ, q_catR]) ⟨Nat.le_of_ble_eq_true rfl, Nat.le_of_ble_eq_true rfl⟩ ⟨Nat.le_of_ble_eq_true rfl, Nat.le_of_ble_eq_true rfl⟩ dX12_readErrors_158 (fun r35_ S36_ H locs hp Y => ?_)
          obtain ⟨x37_, rfl, h⟩ := hp
          refine W.eq (g2 := F0 m 161 ls [.int x37_]) rfl ?_
          refine lv_goto (tgt := 165) hx hb dX12_readErrors_161 (by decide) ?_
          exact cb_X12_readErrors_165 X hB41 Y (lv_sub hl [2, 3, 0, 1] rfl) h
      · replace h := h.2 c30_
        exact q_vret X Y (Nat.le_refl _) (Nat.le_refl _) h dX12_readErrors_145
    · replace h := h.2 c21_
      refine lv_aload_n hx hb dX12_readErrors_109 rfl (lv_at hl 1 rfl) ?_
      refine lv_bipush (v := 7) hx hb dX12_readErrors_110 (by decide) ?_
      refine lv_aload_n hx hb dX12_readErrors_112 rfl (lv_at hl 1 rfl) ?_
      obtain ⟨k38_, h⟩ := h
      refine q_getI X Y kX12 7 rfl fl_X12_287 k38_ dX12_readErrors_113 ?_
      refine q_callV X Y hl (cm_X12_fail h) mt_X12_fail mi_X12_fail ml_X12_331 (ci := 12) rfl k38_ (by decide) rfl rfl (by first | exact Nat.le_of_ble_eq_true rfl | simp [q_cat, q_catI, q_catJ, q_catR]) ⟨Nat.le_of_ble_eq_true rfl, Nat.le_of_ble_eq_true rfl⟩ ⟨Nat.le_of_ble_eq_true rfl, Nat.le_of_ble_eq_true rfl⟩ dX12_readErrors_116 (fun r39_ S40_ H locs hp Y => ?_)
      obtain ⟨x41_, rfl, h⟩ := hp
      refine W.eq (g2 := F0 m 119 ls [.int x41_]) rfl ?_
      refine lv_pop hx hb dX12_readErrors_119 rfl ?_
      exact q_vret X Y (Nat.le_refl _) (Nat.le_refl _) h dX12_readErrors_120
  · replace h := h.2 c20_
    refine lv_aload_n hx hb dX12_readErrors_93 rfl (lv_at hl 1 rfl) ?_
    refine lv_iconst (v := 1) hx hb dX12_readErrors_94 (by decide) ?_
    obtain ⟨k42_, h⟩ := h
    refine q_callV X Y hl (cm_X12_failHere h) mt_X12_failHere mi_X12_failHere ml_X12_338 (ci := 12) rfl k42_ (by decide) rfl rfl (by first | exact Nat.le_of_ble_eq_true rfl | simp [q_cat, q_catI, q_catJ, q_catR]) ⟨Nat.le_of_ble_eq_true rfl, Nat.le_of_ble_eq_true rfl⟩ ⟨Nat.le_of_ble_eq_true rfl, Nat.le_of_ble_eq_true rfl⟩ dX12_readErrors_95 (fun r43_ S44_ H locs hp Y => ?_)
    obtain ⟨x45_, rfl, h⟩ := hp
    refine W.eq (g2 := F0 m 98 ls [.int x45_]) rfl ?_
    refine lv_pop hx hb dX12_readErrors_98 rfl ?_
    exact q_vret X Y (Nat.le_refl _) (Nat.le_refl _) h dX12_readErrors_99
def wb_X12_readErrors_77 (B41 : q_S → Nat → Int32 → Int32 → Prop) (S : q_S) (a0 : Nat) (x1 : Int32) (x2 : Int32) (Q : Option Value → q_S → Prop) : Prop := ∀ b46_ : Nat, q_K S b46_ = 30 → q_N S b46_ = 13 → (q_K S a0 = 13 ∧ (wm_X12_numberOf S a0 (some b46_) (fun r50_ S51_ => ∃ x52_ : Int32, r50_ = some (.int x52_) ∧ (wb_X12_readErrors_88 B41 S51_ a0 x1 x2 x52_ Q))))
set_option maxHeartbeats 4000000 in
set_option maxRecDepth 100000 in
theorem cb_X12_readErrors_77 {p : Program} {l : Launch} {e : Env} {s : State} {m : MethodId} {args : Array Value} {below : List Frame} {meth : Method} {c : Code} {D : va_G} {cy : Nat → ClassId} {lo : Nat} {B41 : q_S → Nat → Int32 → Int32 → Prop} {S : q_S} {a0 : Nat} {x1 : Int32} {x2 : Int32} {Q : Option Value → q_S → Prop} {H : Heap} {locs : List Loc} {ls : Array Slot} (X : q_X p s m args meth c RX12 cX12_readErrors 5 none D cy lo) (hB41 : ∀ (S : q_S) (a0 : Nat) (x1 : Int32) (x2 : Int32) (H : Heap) (locs : List Loc) (ls : Array Slot), B41 S a0 x1 x2 → q_Y D cy lo s S H locs → lv_has ls 5 [(0, .ref a0), (1, .int x1), (2, .int x2)] → W p l e ({ frames := 7, cells := 0, slots := 0, locals := 154 } : Room) s m args below meth c H locs 0 0 (MQ below (q_Q D cy lo Q) args s 0 0 (fun q => lo ≤ q)) (F0 m 41 ls [])) (Y : q_Y D cy lo s S H locs) (hl : lv_has ls 5 [(0, .ref a0), (1, .int x1), (2, .int x2)]) (h : wb_X12_readErrors_77 B41 S a0 x1 x2 Q) : W p l e ({ frames := 7, cells := 0, slots := 0, locals := 154 } : Room) s m args below meth c H locs 0 0 (MQ below (q_Q D cy lo Q) args s 0 0 (fun q => lo ≤ q)) (F0 m 77 ls []) := by
  have hx := X.1
  have hb := X.2.1
  unfold wb_X12_readErrors_77 at h
  refine lv_aload_n hx hb dX12_readErrors_77 rfl (lv_at hl 0 rfl) ?_
  refine q_ldcsw X Y 13 rfl (by decide) dX12_readErrors_78 (fun b46_ k47_ k48_ => ?_)
  replace h := h b46_ k47_ k48_
  obtain ⟨k49_, h⟩ := h
  refine q_callV X Y hl (cm_X12_numberOf h) mt_X12_numberOf mi_X12_numberOf ml_X12_312 (ci := 12) rfl k49_ (by decide) rfl rfl (by first | exact Nat.le_of_ble_eq_true rfl | simp [q_cat, q_catI, q_catJ, q_catR]) ⟨Nat.le_of_ble_eq_true rfl, Nat.le_of_ble_eq_true rfl⟩ ⟨Nat.le_of_ble_eq_true rfl, Nat.le_of_ble_eq_true rfl⟩ dX12_readErrors_81 (fun r50_ S51_ H locs hp Y => ?_)
  obtain ⟨x52_, rfl, h⟩ := hp
  refine W.eq (g2 := F0 m 84 ls [.int x52_]) rfl ?_
  refine lv_goto (tgt := 88) hx hb dX12_readErrors_84 (by decide) ?_
  exact cb_X12_readErrors_88 X hB41 Y (lv_sub hl [0, 1, 2] rfl) h
def wb_X12_readErrors_61 (B41 : q_S → Nat → Int32 → Int32 → Prop) (S : q_S) (a0 : Nat) (x1 : Int32) (x2 : Int32) (Q : Option Value → q_S → Prop) : Prop := q_K S a0 = 13 ∧ ((((q_I S 2406 a0) = (1 : Int32) → (wb_X12_readErrors_77 B41 S a0 x1 x2 Q)) ∧ (¬ (q_I S 2406 a0) = (1 : Int32) → (((¬ (q_I S 2406 a0) = (4 : Int32) → (wb_X12_readErrors_88 B41 S a0 x1 x2 (-1 : Int32) Q)) ∧ ((q_I S 2406 a0) = (4 : Int32) → (wb_X12_readErrors_77 B41 S a0 x1 x2 Q)))))))
set_option maxHeartbeats 4000000 in
set_option maxRecDepth 100000 in
theorem cb_X12_readErrors_61 {p : Program} {l : Launch} {e : Env} {s : State} {m : MethodId} {args : Array Value} {below : List Frame} {meth : Method} {c : Code} {D : va_G} {cy : Nat → ClassId} {lo : Nat} {B41 : q_S → Nat → Int32 → Int32 → Prop} {S : q_S} {a0 : Nat} {x1 : Int32} {x2 : Int32} {Q : Option Value → q_S → Prop} {H : Heap} {locs : List Loc} {ls : Array Slot} (X : q_X p s m args meth c RX12 cX12_readErrors 5 none D cy lo) (hB41 : ∀ (S : q_S) (a0 : Nat) (x1 : Int32) (x2 : Int32) (H : Heap) (locs : List Loc) (ls : Array Slot), B41 S a0 x1 x2 → q_Y D cy lo s S H locs → lv_has ls 5 [(0, .ref a0), (1, .int x1), (2, .int x2)] → W p l e ({ frames := 7, cells := 0, slots := 0, locals := 154 } : Room) s m args below meth c H locs 0 0 (MQ below (q_Q D cy lo Q) args s 0 0 (fun q => lo ≤ q)) (F0 m 41 ls [])) (Y : q_Y D cy lo s S H locs) (hl : lv_has ls 5 [(0, .ref a0), (1, .int x1), (2, .int x2)]) (h : wb_X12_readErrors_61 B41 S a0 x1 x2 Q) : W p l e ({ frames := 7, cells := 0, slots := 0, locals := 154 } : Room) s m args below meth c H locs 0 0 (MQ below (q_Q D cy lo Q) args s 0 0 (fun q => lo ≤ q)) (F0 m 61 ls []) := by
  have hx := X.1
  have hb := X.2.1
  unfold wb_X12_readErrors_61 at h
  refine lv_aload_n hx hb dX12_readErrors_61 rfl (lv_at hl 0 rfl) ?_
  obtain ⟨k53_, h⟩ := h
  refine q_getI X Y kX12 6 rfl fl_X12_297 k53_ dX12_readErrors_62 ?_
  refine lv_iconst (v := 1) hx hb dX12_readErrors_65 (by decide) ?_
  refine lv_icmp_eq (tgt := 77) hx hb dX12_readErrors_66 (by decide) (fun c54_ => ?_) (fun c54_ => ?_)
  · replace h := h.1 c54_
    exact cb_X12_readErrors_77 X hB41 Y (lv_sub hl [0, 1, 2] rfl) h
  · replace h := h.2 c54_
    refine lv_aload_n hx hb dX12_readErrors_69 rfl (lv_at hl 0 rfl) ?_
    refine q_getI X Y kX12 6 rfl fl_X12_297 k53_ dX12_readErrors_70 ?_
    refine lv_iconst (v := 4) hx hb dX12_readErrors_73 (by decide) ?_
    refine lv_icmp_ne (tgt := 87) hx hb dX12_readErrors_74 (by decide) (fun c55_ => ?_) (fun c55_ => ?_)
    · replace h := h.1 c55_
      refine lv_iconst (v := (-1)) hx hb dX12_readErrors_87 (by decide) ?_
      exact cb_X12_readErrors_88 X hB41 Y (lv_sub hl [0, 1, 2] rfl) h
    · replace h := h.2 c55_
      exact cb_X12_readErrors_77 X hB41 Y (lv_sub hl [0, 1, 2] rfl) h
def wb_X12_readErrors_228  (S : q_S) (a0 : Nat) (Q : Option Value → q_S → Prop) : Prop := q_K S a0 = 13 ∧ (wm_X12_sign S a0 (125 : Int32) (fun r57_ S58_ => ∃ x59_ : Int32, r57_ = some (.int x59_) ∧ (Q none S58_)))
set_option maxHeartbeats 4000000 in
set_option maxRecDepth 100000 in
theorem cb_X12_readErrors_228 {p : Program} {l : Launch} {e : Env} {s : State} {m : MethodId} {args : Array Value} {below : List Frame} {meth : Method} {c : Code} {D : va_G} {cy : Nat → ClassId} {lo : Nat}  {S : q_S} {a0 : Nat} {Q : Option Value → q_S → Prop} {H : Heap} {locs : List Loc} {ls : Array Slot} (X : q_X p s m args meth c RX12 cX12_readErrors 5 none D cy lo)  (Y : q_Y D cy lo s S H locs) (hl : lv_has ls 5 [(0, .ref a0)]) (h : wb_X12_readErrors_228 S a0 Q) : W p l e ({ frames := 7, cells := 0, slots := 0, locals := 154 } : Room) s m args below meth c H locs 0 0 (MQ below (q_Q D cy lo Q) args s 0 0 (fun q => lo ≤ q)) (F0 m 228 ls []) := by
  have hx := X.1
  have hb := X.2.1
  unfold wb_X12_readErrors_228 at h
  refine lv_aload_n hx hb dX12_readErrors_228 rfl (lv_at hl 0 rfl) ?_
  refine lv_bipush (v := 125) hx hb dX12_readErrors_229 (by decide) ?_
  obtain ⟨k56_, h⟩ := h
  refine q_callV X Y hl (cm_X12_sign h) mt_X12_sign mi_X12_sign ml_X12_365 (ci := 12) rfl k56_ (by decide) rfl rfl (by first | exact Nat.le_of_ble_eq_true rfl | simp [q_cat, q_catI, q_catJ, q_catR]) ⟨Nat.le_of_ble_eq_true rfl, Nat.le_of_ble_eq_true rfl⟩ ⟨Nat.le_of_ble_eq_true rfl, Nat.le_of_ble_eq_true rfl⟩ dX12_readErrors_231 (fun r57_ S58_ H locs hp Y => ?_)
  obtain ⟨x59_, rfl, h⟩ := hp
  refine W.eq (g2 := F0 m 234 ls [.int x59_]) rfl ?_
  refine lv_pop hx hb dX12_readErrors_234 rfl ?_
  exact q_vret X Y (Nat.le_refl _) (Nat.le_refl _) h dX12_readErrors_235
def wb_X12_readErrors_41 (B41 : q_S → Nat → Int32 → Int32 → Prop) (S : q_S) (a0 : Nat) (x1 : Int32) (x2 : Int32) (Q : Option Value → q_S → Prop) : Prop := q_K S a0 = 13 ∧ (((¬ (q_I S 2411 a0) = 0 → (wb_X12_readErrors_228 S a0 Q)) ∧ ((q_I S 2411 a0) = 0 → (((x2 = 0 → (wb_X12_readErrors_61 B41 S a0 x1 x2 Q)) ∧ (¬ x2 = 0 → (wm_X12_isSign S a0 (125 : Int32) (fun r63_ S64_ => ∃ x65_ : Int32, r63_ = some (.int x65_) ∧ (((¬ x65_ = 0 → (wb_X12_readErrors_228 S64_ a0 Q)) ∧ (x65_ = 0 → (wb_X12_readErrors_61 B41 S64_ a0 x1 x2 Q))))))))))))
set_option maxHeartbeats 4000000 in
set_option maxRecDepth 100000 in
theorem cb_X12_readErrors_41 {p : Program} {l : Launch} {e : Env} {s : State} {m : MethodId} {args : Array Value} {below : List Frame} {meth : Method} {c : Code} {D : va_G} {cy : Nat → ClassId} {lo : Nat} {B41 : q_S → Nat → Int32 → Int32 → Prop} {S : q_S} {a0 : Nat} {x1 : Int32} {x2 : Int32} {Q : Option Value → q_S → Prop} {H : Heap} {locs : List Loc} {ls : Array Slot} (X : q_X p s m args meth c RX12 cX12_readErrors 5 none D cy lo) (hB41 : ∀ (S : q_S) (a0 : Nat) (x1 : Int32) (x2 : Int32) (H : Heap) (locs : List Loc) (ls : Array Slot), B41 S a0 x1 x2 → q_Y D cy lo s S H locs → lv_has ls 5 [(0, .ref a0), (1, .int x1), (2, .int x2)] → W p l e ({ frames := 7, cells := 0, slots := 0, locals := 154 } : Room) s m args below meth c H locs 0 0 (MQ below (q_Q D cy lo Q) args s 0 0 (fun q => lo ≤ q)) (F0 m 41 ls [])) (Y : q_Y D cy lo s S H locs) (hl : lv_has ls 5 [(0, .ref a0), (1, .int x1), (2, .int x2)]) (h : wb_X12_readErrors_41 B41 S a0 x1 x2 Q) : W p l e ({ frames := 7, cells := 0, slots := 0, locals := 154 } : Room) s m args below meth c H locs 0 0 (MQ below (q_Q D cy lo Q) args s 0 0 (fun q => lo ≤ q)) (F0 m 41 ls []) := by
  have hx := X.1
  have hb := X.2.1
  unfold wb_X12_readErrors_41 at h
  refine lv_aload_n hx hb dX12_readErrors_41 rfl (lv_at hl 0 rfl) ?_
  obtain ⟨k60_, h⟩ := h
  refine q_getI X Y kX12 11 rfl fl_X12_328 k60_ dX12_readErrors_42 ?_
  refine lv_if_ne (tgt := 228) hx hb dX12_readErrors_45 (by decide) (fun c61_ => ?_) (fun c61_ => ?_)
  · replace h := h.1 c61_
    exact cb_X12_readErrors_228 X Y (lv_sub hl [0] rfl) h
  · replace h := h.2 c61_
    refine lv_iload_n hx hb dX12_readErrors_48 rfl (lv_at hl 2 rfl) ?_
    refine lv_if_eq (tgt := 61) hx hb dX12_readErrors_49 (by decide) (fun c62_ => ?_) (fun c62_ => ?_)
    · replace h := h.1 c62_
      exact cb_X12_readErrors_61 X hB41 Y (lv_sub hl [0, 1, 2] rfl) h
    · replace h := h.2 c62_
      refine lv_aload_n hx hb dX12_readErrors_52 rfl (lv_at hl 0 rfl) ?_
      refine lv_bipush (v := 125) hx hb dX12_readErrors_53 (by decide) ?_
      refine q_callV X Y hl (cm_X12_isSign h) mt_X12_isSign mi_X12_isSign ml_X12_335 (ci := 12) rfl k60_ (by decide) rfl rfl (by first | exact Nat.le_of_ble_eq_true rfl | simp [q_cat, q_catI, q_catJ, q_catR]) ⟨Nat.le_of_ble_eq_true rfl, Nat.le_of_ble_eq_true rfl⟩ ⟨Nat.le_of_ble_eq_true rfl, Nat.le_of_ble_eq_true rfl⟩ dX12_readErrors_55 (fun r63_ S64_ H locs hp Y => ?_)
      obtain ⟨x65_, rfl, h⟩ := hp
      refine W.eq (g2 := F0 m 58 ls [.int x65_]) rfl ?_
      refine lv_if_ne (tgt := 228) hx hb dX12_readErrors_58 (by decide) (fun c66_ => ?_) (fun c66_ => ?_)
      · replace h := h.1 c66_
        exact cb_X12_readErrors_228 X Y (lv_sub hl [0] rfl) h
      · replace h := h.2 c66_
        exact cb_X12_readErrors_61 X hB41 Y (lv_sub hl [0, 1, 2] rfl) h
def wl_X12_readErrors_41  : Nat → q_S → Nat → Int32 → Int32 → (Option Value → q_S → Prop) → Prop
  | 0, _, _, _, _, _ => False
  | n + 1, S, a0, x1, x2, Q => wb_X12_readErrors_41 (fun S a0 x1 x2 => wl_X12_readErrors_41 n S a0 x1 x2 Q) S a0 x1 x2 Q
set_option maxHeartbeats 4000000 in
set_option maxRecDepth 100000 in
theorem cl_X12_readErrors_41 {p : Program} {l : Launch} {e : Env} {s : State} {m : MethodId} {args : Array Value} {below : List Frame} {meth : Method} {c : Code} {D : va_G} {cy : Nat → ClassId} {lo : Nat}  {Q : Option Value → q_S → Prop} (X : q_X p s m args meth c RX12 cX12_readErrors 5 none D cy lo)  : ∀ (n : Nat) (S : q_S) (a0 : Nat) (x1 : Int32) (x2 : Int32) (H : Heap) (locs : List Loc) (ls : Array Slot), wl_X12_readErrors_41 n S a0 x1 x2 Q → q_Y D cy lo s S H locs → lv_has ls 5 [(0, .ref a0), (1, .int x1), (2, .int x2)] → W p l e ({ frames := 7, cells := 0, slots := 0, locals := 154 } : Room) s m args below meth c H locs 0 0 (MQ below (q_Q D cy lo Q) args s 0 0 (fun q => lo ≤ q)) (F0 m 41 ls []) := by
  intro n
  induction n with
  | zero => intro S a0 x1 x2 H locs ls h; exact absurd h id
  | succ n ih => intro S a0 x1 x2 H locs ls h Y hl; exact cb_X12_readErrors_41 X ih Y hl h
def wm_X12_readErrors (S : q_S) (a0 : Nat) (x1 : Int32) (Q : Option Value → q_S → Prop) : Prop := q_K S a0 = 13 ∧ (∃ a68_ : Nat, (q_P S 2451 a0) = some a68_ ∧ (q_K S a68_ = 22 ∧ (vp_in x1 (q_N S a68_) ∧ ((((q_A S a68_ x1.toNatClampNeg) = 0 → (vp_in x1 (q_N S a68_) ∧ (wm_X12_next (qs_A S a68_ x1.toNatClampNeg (vp_nar .boolean (1 : Int32))) a0 (fun r74_ S75_ => r74_ = none ∧ (q_K S75_ a0 = 13 ∧ (wm_X12_sign S75_ a0 (123 : Int32) (fun r77_ S78_ => ∃ x79_ : Int32, r77_ = some (.int x79_) ∧ (∃ n80_ : Nat, wl_X12_readErrors_41 n80_ S78_ a0 x1 (0 : Int32) Q)))))))) ∧ (¬ (q_A S a68_ x1.toNatClampNeg) = 0 → (wm_X12_fail S a0 (7 : Int32) (q_I S 2407 a0) (fun r81_ S82_ => ∃ x83_ : Int32, r81_ = some (.int x83_) ∧ (Q none S82_)))))))))
set_option maxHeartbeats 4000000 in
set_option maxRecDepth 100000 in
theorem cm_X12_readErrors {l : Launch} {D : va_G} {cy : Nat → ClassId} {lo : Nat} {S : q_S} {a0 : Nat} {x1 : Int32} {Q : Option Value → q_S → Prop} (h : wm_X12_readErrors S a0 x1 Q) : q_Met l D cy lo yX12_readErrors cX12_readErrors 5 none 7 154 0 0 [.ref a0, .int x1] S Q := by
  refine q_body (by decide) (by first | exact Nat.le_of_ble_eq_true rfl | simp [lg_sl, q_cat, q_catI, q_catJ, q_catR]) ?_
  intro p e s m below meth c ls X hnm Y hl
  have hx := X.1
  have hb := X.2.1
  have hl : lv_has ls 5 [(0, .ref a0), (1, .int x1)] := by first | exact hl | simpa [lv_args, q_cat, q_catI, q_catJ, q_catR] using hl
  generalize hargs : ([.ref a0, .int x1] : List Value).toArray = args at X ⊢
  unfold wm_X12_readErrors at h
  refine lv_aload_n hx hb dX12_readErrors_0 rfl (lv_at hl 0 rfl) ?_
  obtain ⟨k67_, h⟩ := h
  refine q_getP X Y kX12 51 rfl fl_X12_109 k67_ rfl dX12_readErrors_1 ?_
  refine lv_iload_n hx hb dX12_readErrors_4 rfl (lv_at hl 1 rfl) ?_
  obtain ⟨a68_, e69_, h⟩ := h
  refine q_nn [.int x1] e69_ ?_
  obtain ⟨k70_, h⟩ := h
  obtain ⟨i71_, h⟩ := h
  refine q_zld X Y k70_ i71_ dX12_readErrors_5 ?_
  refine lv_if_eq (tgt := 21) hx hb dX12_readErrors_6 (by decide) (fun c72_ => ?_) (fun c72_ => ?_)
  · replace h := h.1 c72_
    refine lv_aload_n hx hb dX12_readErrors_21 rfl (lv_at hl 0 rfl) ?_
    refine q_getR X Y kX12 51 rfl fl_X12_109 k67_ e69_ dX12_readErrors_22 ?_
    refine lv_iload_n hx hb dX12_readErrors_25 rfl (lv_at hl 1 rfl) ?_
    refine lv_iconst (v := 1) hx hb dX12_readErrors_26 (by decide) ?_
    obtain ⟨i73_, h⟩ := h
    refine q_zst X Y k70_ i73_ dX12_readErrors_27 (fun H locs Y => ?_)
    refine lv_aload_n hx hb dX12_readErrors_28 rfl (lv_at hl 0 rfl) ?_
    refine q_callV X Y hl (cm_X12_next h) mt_X12_next mi_X12_next ml_X12_341 (ci := 12) rfl k67_ (by decide) rfl rfl (by first | exact Nat.le_of_ble_eq_true rfl | simp [q_cat, q_catI, q_catJ, q_catR]) ⟨Nat.le_of_ble_eq_true rfl, Nat.le_of_ble_eq_true rfl⟩ ⟨Nat.le_of_ble_eq_true rfl, Nat.le_of_ble_eq_true rfl⟩ dX12_readErrors_29 (fun r74_ S75_ H locs hp Y => ?_)
    obtain ⟨rfl, h⟩ := hp
    refine W.eq (g2 := F0 m 32 ls []) rfl ?_
    refine lv_aload_n hx hb dX12_readErrors_32 rfl (lv_at hl 0 rfl) ?_
    refine lv_bipush (v := 123) hx hb dX12_readErrors_33 (by decide) ?_
    obtain ⟨k76_, h⟩ := h
    refine q_callV X Y hl (cm_X12_sign h) mt_X12_sign mi_X12_sign ml_X12_365 (ci := 12) rfl k76_ (by decide) rfl rfl (by first | exact Nat.le_of_ble_eq_true rfl | simp [q_cat, q_catI, q_catJ, q_catR]) ⟨Nat.le_of_ble_eq_true rfl, Nat.le_of_ble_eq_true rfl⟩ ⟨Nat.le_of_ble_eq_true rfl, Nat.le_of_ble_eq_true rfl⟩ dX12_readErrors_35 (fun r77_ S78_ H locs hp Y => ?_)
    obtain ⟨x79_, rfl, h⟩ := hp
    refine W.eq (g2 := F0 m 38 ls [.int x79_]) rfl ?_
    refine lv_pop hx hb dX12_readErrors_38 rfl ?_
    refine lv_iconst (v := 0) hx hb dX12_readErrors_39 (by decide) ?_
    refine lv_istore_n (i := 2) (lv' := [(2, .int (0 : Int32)), (0, .ref a0), (1, .int x1)]) hx hb dX12_readErrors_40 rfl hl (by decide) (by first | rfl | simp [q_cat, q_catI, q_catJ, q_catR]) (fun ls hl => ?_)
    obtain ⟨n80_, h⟩ := h
    exact cl_X12_readErrors_41 X n80_ _ _ _ _ _ _ _ h Y (lv_sub hl [1, 2, 0] rfl)
  · replace h := h.2 c72_
    refine lv_aload_n hx hb dX12_readErrors_9 rfl (lv_at hl 0 rfl) ?_
    refine lv_bipush (v := 7) hx hb dX12_readErrors_10 (by decide) ?_
    refine lv_aload_n hx hb dX12_readErrors_12 rfl (lv_at hl 0 rfl) ?_
    refine q_getI X Y kX12 7 rfl fl_X12_287 k67_ dX12_readErrors_13 ?_
    refine q_callV X Y hl (cm_X12_fail h) mt_X12_fail mi_X12_fail ml_X12_331 (ci := 12) rfl k67_ (by decide) rfl rfl (by first | exact Nat.le_of_ble_eq_true rfl | simp [q_cat, q_catI, q_catJ, q_catR]) ⟨Nat.le_of_ble_eq_true rfl, Nat.le_of_ble_eq_true rfl⟩ ⟨Nat.le_of_ble_eq_true rfl, Nat.le_of_ble_eq_true rfl⟩ dX12_readErrors_16 (fun r81_ S82_ H locs hp Y => ?_)
    obtain ⟨x83_, rfl, h⟩ := hp
    refine W.eq (g2 := F0 m 19 ls [.int x83_]) rfl ?_
    refine lv_pop hx hb dX12_readErrors_19 rfl ?_
    exact q_vret X Y (Nat.le_refl _) (Nat.le_refl _) h dX12_readErrors_20
-- X12_readThing
theorem ml_X12_391 : Cond.methodLink RX12 391 yX12_isFifo ∈ q_G := q_tb (i := 2190) (by decide +kernel) (by decide +kernel)
theorem mt_X12_isFifo : q_Mt yX12_isFifo cX12_isFifo 1 (some .boolean) 0 := ⟨q_tb (i := 2193) (by decide +kernel) (by decide +kernel), q_tb (i := 11) (by decide +kernel) (by decide +kernel), by decide +kernel, by decide +kernel, by decide +kernel⟩
theorem mi_X12_isFifo : Cond.instanceMethod yX12_isFifo ∈ q_G ∧ Cond.selects yX12_isFifo.cls yX12_isFifo yX12_isFifo ∈ q_G := ⟨q_tb (i := 2192) (by decide +kernel) (by decide +kernel), q_tp (i := 109) (q := (yX12_isFifo, 114)) (by decide +kernel) (by decide +kernel)⟩
theorem ml_X12_385 : Cond.methodLink RX12 385 yX12_readProcess ∈ q_G := q_tb (i := 2173) (by decide +kernel) (by decide +kernel)
theorem mt_X12_readProcess : q_Mt yX12_readProcess cX12_readProcess 4 none 1 := ⟨q_tb (i := 2176) (by decide +kernel) (by decide +kernel), q_tb (i := 11) (by decide +kernel) (by decide +kernel), by decide +kernel, by decide +kernel, by decide +kernel⟩
theorem mi_X12_readProcess : Cond.instanceMethod yX12_readProcess ∈ q_G ∧ Cond.selects yX12_readProcess.cls yX12_readProcess yX12_readProcess ∈ q_G := ⟨q_tb (i := 2175) (by decide +kernel) (by decide +kernel), q_tp (i := 105) (q := (yX12_readProcess, 114)) (by decide +kernel) (by decide +kernel)⟩
theorem ml_X12_395 : Cond.methodLink RX12 395 yX12_either ∈ q_G := q_tb (i := 2194) (by decide +kernel) (by decide +kernel)
theorem mt_X12_either : q_Mt yX12_either cX12_either 4 (some .boolean) 2 := ⟨q_tb (i := 2197) (by decide +kernel) (by decide +kernel), q_tb (i := 11) (by decide +kernel) (by decide +kernel), by decide +kernel, by decide +kernel, by decide +kernel⟩
theorem mi_X12_either : Cond.instanceMethod yX12_either ∈ q_G ∧ Cond.selects yX12_either.cls yX12_either yX12_either ∈ q_G := ⟨q_tb (i := 2196) (by decide +kernel) (by decide +kernel), q_tp (i := 110) (q := (yX12_either, 114)) (by decide +kernel) (by decide +kernel)⟩
theorem ml_X12_398 : Cond.methodLink RX12 398 yX12_readErrors ∈ q_G := q_tb (i := 2198) (by decide +kernel) (by decide +kernel)
theorem mt_X12_readErrors : q_Mt yX12_readErrors cX12_readErrors 5 none 1 := ⟨q_tb (i := 2201) (by decide +kernel) (by decide +kernel), q_tb (i := 11) (by decide +kernel) (by decide +kernel), by decide +kernel, by decide +kernel, by decide +kernel⟩
theorem mi_X12_readErrors : Cond.instanceMethod yX12_readErrors ∈ q_G ∧ Cond.selects yX12_readErrors.cls yX12_readErrors yX12_readErrors ∈ q_G := ⟨q_tb (i := 2200) (by decide +kernel) (by decide +kernel), q_tp (i := 111) (q := (yX12_readErrors, 114)) (by decide +kernel) (by decide +kernel)⟩
theorem dX12_readThing_0 : decode cX12_readThing 0 = .ok (.aload_n 0, 1) := by decide +kernel
theorem dX12_readThing_1 : decode cX12_readThing 1 = .ok (.getfield 297, 3) := by decide +kernel
theorem dX12_readThing_4 : decode cX12_readThing 4 = .ok (.iconst 4, 1) := by decide +kernel
theorem dX12_readThing_5 : decode cX12_readThing 5 = .ok (.if_icmp .eq 10, 3) := by decide +kernel
theorem dX12_readThing_8 : decode cX12_readThing 8 = .ok (.aload_n 0, 1) := by decide +kernel
theorem dX12_readThing_9 : decode cX12_readThing 9 = .ok (.iconst 1, 1) := by decide +kernel
theorem dX12_readThing_10 : decode cX12_readThing 10 = .ok (.invokevirtual 338, 3) := by decide +kernel
theorem dX12_readThing_13 : decode cX12_readThing 13 = .ok (.pop, 1) := by decide +kernel
theorem dX12_readThing_14 : decode cX12_readThing 14 = .ok (.return_, 1) := by decide +kernel
theorem dX12_readThing_15 : decode cX12_readThing 15 = .ok (.aload_n 0, 1) := by decide +kernel
theorem dX12_readThing_16 : decode cX12_readThing 16 = .ok (.getfield 316, 3) := by decide +kernel
theorem dX12_readThing_19 : decode cX12_readThing 19 = .ok (.tableswitch 316 7 23 #[81, 316, 316, 316, 316, 316, 316, 316, 87, 173, 190, 316, 236, 253, 316, 316, 310], 81) := by decide +kernel
theorem dX12_readThing_100 : decode cX12_readThing 100 = .ok (.aload_n 0, 1) := by decide +kernel
theorem dX12_readThing_101 : decode cX12_readThing 101 = .ok (.iload_n 1, 1) := by decide +kernel
theorem dX12_readThing_102 : decode cX12_readThing 102 = .ok (.invokevirtual 385, 3) := by decide +kernel
theorem dX12_readThing_105 : decode cX12_readThing 105 = .ok (.return_, 1) := by decide +kernel
theorem dX12_readThing_106 : decode cX12_readThing 106 = .ok (.bipush 8, 2) := by decide +kernel
theorem dX12_readThing_108 : decode cX12_readThing 108 = .ok (.iload_n 1, 1) := by decide +kernel
theorem dX12_readThing_109 : decode cX12_readThing 109 = .ok (.imul, 1) := by decide +kernel
theorem dX12_readThing_110 : decode cX12_readThing 110 = .ok (.aload_n 0, 1) := by decide +kernel
theorem dX12_readThing_111 : decode cX12_readThing 111 = .ok (.iload_n 1, 1) := by decide +kernel
theorem dX12_readThing_112 : decode cX12_readThing 112 = .ok (.iconst 0, 1) := by decide +kernel
theorem dX12_readThing_113 : decode cX12_readThing 113 = .ok (.bipush 8, 2) := by decide +kernel
theorem dX12_readThing_115 : decode cX12_readThing 115 = .ok (.invokevirtual 388, 3) := by decide +kernel
theorem dX12_readThing_118 : decode cX12_readThing 118 = .ok (.iadd, 1) := by decide +kernel
theorem dX12_readThing_119 : decode cX12_readThing 119 = .ok (.istore_n 2, 1) := by decide +kernel
theorem dX12_readThing_120 : decode cX12_readThing 120 = .ok (.aload_n 0, 1) := by decide +kernel
theorem dX12_readThing_121 : decode cX12_readThing 121 = .ok (.getfield 85, 3) := by decide +kernel
theorem dX12_readThing_124 : decode cX12_readThing 124 = .ok (.iload_n 2, 1) := by decide +kernel
theorem dX12_readThing_125 : decode cX12_readThing 125 = .ok (.aload_n 0, 1) := by decide +kernel
theorem dX12_readThing_126 : decode cX12_readThing 126 = .ok (.iconst 0, 1) := by decide +kernel
theorem dX12_readThing_127 : decode cX12_readThing 127 = .ok (.bipush 100, 2) := by decide +kernel
theorem dX12_readThing_129 : decode cX12_readThing 129 = .ok (.iconst 1, 1) := by decide +kernel
theorem dX12_readThing_130 : decode cX12_readThing 130 = .ok (.invokevirtual 371, 3) := by decide +kernel
theorem dX12_readThing_133 : decode cX12_readThing 133 = .ok (.iastore, 1) := by decide +kernel
theorem dX12_readThing_134 : decode cX12_readThing 134 = .ok (.aload_n 0, 1) := by decide +kernel
theorem dX12_readThing_135 : decode cX12_readThing 135 = .ok (.bipush 58, 2) := by decide +kernel
theorem dX12_readThing_137 : decode cX12_readThing 137 = .ok (.invokevirtual 365, 3) := by decide +kernel
theorem dX12_readThing_140 : decode cX12_readThing 140 = .ok (.pop, 1) := by decide +kernel
theorem dX12_readThing_141 : decode cX12_readThing 141 = .ok (.aload_n 0, 1) := by decide +kernel
theorem dX12_readThing_142 : decode cX12_readThing 142 = .ok (.getfield 88, 3) := by decide +kernel
theorem dX12_readThing_145 : decode cX12_readThing 145 = .ok (.iload_n 2, 1) := by decide +kernel
theorem dX12_readThing_146 : decode cX12_readThing 146 = .ok (.aload_n 0, 1) := by decide +kernel
theorem dX12_readThing_147 : decode cX12_readThing 147 = .ok (.aload_n 0, 1) := by decide +kernel
theorem dX12_readThing_148 : decode cX12_readThing 148 = .ok (.getfield 85, 3) := by decide +kernel
theorem dX12_readThing_151 : decode cX12_readThing 151 = .ok (.iload_n 2, 1) := by decide +kernel
theorem dX12_readThing_152 : decode cX12_readThing 152 = .ok (.iaload, 1) := by decide +kernel
theorem dX12_readThing_153 : decode cX12_readThing 153 = .ok (.iconst 1, 1) := by decide +kernel
theorem dX12_readThing_154 : decode cX12_readThing 154 = .ok (.if_icmp .le 12, 3) := by decide +kernel
theorem dX12_readThing_157 : decode cX12_readThing 157 = .ok (.aload_n 0, 1) := by decide +kernel
theorem dX12_readThing_158 : decode cX12_readThing 158 = .ok (.getfield 85, 3) := by decide +kernel
theorem dX12_readThing_161 : decode cX12_readThing 161 = .ok (.iload_n 2, 1) := by decide +kernel
theorem dX12_readThing_162 : decode cX12_readThing 162 = .ok (.iaload, 1) := by decide +kernel
theorem dX12_readThing_163 : decode cX12_readThing 163 = .ok (.goto 4, 3) := by decide +kernel
theorem dX12_readThing_166 : decode cX12_readThing 166 = .ok (.iconst 1, 1) := by decide +kernel
theorem dX12_readThing_167 : decode cX12_readThing 167 = .ok (.bipush 100, 2) := by decide +kernel
theorem dX12_readThing_169 : decode cX12_readThing 169 = .ok (.iconst 1, 1) := by decide +kernel
theorem dX12_readThing_170 : decode cX12_readThing 170 = .ok (.invokevirtual 371, 3) := by decide +kernel
theorem dX12_readThing_173 : decode cX12_readThing 173 = .ok (.iastore, 1) := by decide +kernel
theorem dX12_readThing_174 : decode cX12_readThing 174 = .ok (.aload_n 0, 1) := by decide +kernel
theorem dX12_readThing_175 : decode cX12_readThing 175 = .ok (.getfield 91, 3) := by decide +kernel
theorem dX12_readThing_178 : decode cX12_readThing 178 = .ok (.iload_n 2, 1) := by decide +kernel
theorem dX12_readThing_179 : decode cX12_readThing 179 = .ok (.aload_n 0, 1) := by decide +kernel
theorem dX12_readThing_180 : decode cX12_readThing 180 = .ok (.invokevirtual 391, 3) := by decide +kernel
theorem dX12_readThing_183 : decode cX12_readThing 183 = .ok (.bastore, 1) := by decide +kernel
theorem dX12_readThing_184 : decode cX12_readThing 184 = .ok (.aload_n 0, 1) := by decide +kernel
theorem dX12_readThing_185 : decode cX12_readThing 185 = .ok (.bipush 59, 2) := by decide +kernel
theorem dX12_readThing_187 : decode cX12_readThing 187 = .ok (.invokevirtual 365, 3) := by decide +kernel
theorem dX12_readThing_190 : decode cX12_readThing 190 = .ok (.pop, 1) := by decide +kernel
theorem dX12_readThing_191 : decode cX12_readThing 191 = .ok (.return_, 1) := by decide +kernel
theorem dX12_readThing_192 : decode cX12_readThing 192 = .ok (.aload_n 0, 1) := by decide +kernel
theorem dX12_readThing_193 : decode cX12_readThing 193 = .ok (.iload_n 1, 1) := by decide +kernel
theorem dX12_readThing_194 : decode cX12_readThing 194 = .ok (.iconst 1, 1) := by decide +kernel
theorem dX12_readThing_195 : decode cX12_readThing 195 = .ok (.bipush 8, 2) := by decide +kernel
theorem dX12_readThing_197 : decode cX12_readThing 197 = .ok (.invokevirtual 388, 3) := by decide +kernel
theorem dX12_readThing_200 : decode cX12_readThing 200 = .ok (.pop, 1) := by decide +kernel
theorem dX12_readThing_201 : decode cX12_readThing 201 = .ok (.aload_n 0, 1) := by decide +kernel
theorem dX12_readThing_202 : decode cX12_readThing 202 = .ok (.bipush 59, 2) := by decide +kernel
theorem dX12_readThing_204 : decode cX12_readThing 204 = .ok (.invokevirtual 365, 3) := by decide +kernel
theorem dX12_readThing_207 : decode cX12_readThing 207 = .ok (.pop, 1) := by decide +kernel
theorem dX12_readThing_208 : decode cX12_readThing 208 = .ok (.return_, 1) := by decide +kernel
theorem dX12_readThing_209 : decode cX12_readThing 209 = .ok (.bipush 8, 2) := by decide +kernel
theorem dX12_readThing_211 : decode cX12_readThing 211 = .ok (.iload_n 1, 1) := by decide +kernel
theorem dX12_readThing_212 : decode cX12_readThing 212 = .ok (.imul, 1) := by decide +kernel
theorem dX12_readThing_213 : decode cX12_readThing 213 = .ok (.aload_n 0, 1) := by decide +kernel
theorem dX12_readThing_214 : decode cX12_readThing 214 = .ok (.iload_n 1, 1) := by decide +kernel
theorem dX12_readThing_215 : decode cX12_readThing 215 = .ok (.iconst 2, 1) := by decide +kernel
theorem dX12_readThing_216 : decode cX12_readThing 216 = .ok (.bipush 8, 2) := by decide +kernel
theorem dX12_readThing_218 : decode cX12_readThing 218 = .ok (.invokevirtual 388, 3) := by decide +kernel
theorem dX12_readThing_221 : decode cX12_readThing 221 = .ok (.iadd, 1) := by decide +kernel
theorem dX12_readThing_222 : decode cX12_readThing 222 = .ok (.istore_n 2, 1) := by decide +kernel
theorem dX12_readThing_223 : decode cX12_readThing 223 = .ok (.aload_n 0, 1) := by decide +kernel
theorem dX12_readThing_224 : decode cX12_readThing 224 = .ok (.getfield 94, 3) := by decide +kernel
theorem dX12_readThing_227 : decode cX12_readThing 227 = .ok (.iload_n 2, 1) := by decide +kernel
theorem dX12_readThing_228 : decode cX12_readThing 228 = .ok (.aload_n 0, 1) := by decide +kernel
theorem dX12_readThing_229 : decode cX12_readThing 229 = .ok (.iconst 1, 1) := by decide +kernel
theorem dX12_readThing_230 : decode cX12_readThing 230 = .ok (.bipush 16, 2) := by decide +kernel
theorem dX12_readThing_232 : decode cX12_readThing 232 = .ok (.iconst 1, 1) := by decide +kernel
theorem dX12_readThing_233 : decode cX12_readThing 233 = .ok (.invokevirtual 371, 3) := by decide +kernel
theorem dX12_readThing_236 : decode cX12_readThing 236 = .ok (.iastore, 1) := by decide +kernel
theorem dX12_readThing_237 : decode cX12_readThing 237 = .ok (.aload_n 0, 1) := by decide +kernel
theorem dX12_readThing_238 : decode cX12_readThing 238 = .ok (.getfield 97, 3) := by decide +kernel
theorem dX12_readThing_241 : decode cX12_readThing 241 = .ok (.iload_n 2, 1) := by decide +kernel
theorem dX12_readThing_242 : decode cX12_readThing 242 = .ok (.aload_n 0, 1) := by decide +kernel
theorem dX12_readThing_243 : decode cX12_readThing 243 = .ok (.invokevirtual 391, 3) := by decide +kernel
theorem dX12_readThing_246 : decode cX12_readThing 246 = .ok (.bastore, 1) := by decide +kernel
theorem dX12_readThing_247 : decode cX12_readThing 247 = .ok (.aload_n 0, 1) := by decide +kernel
theorem dX12_readThing_248 : decode cX12_readThing 248 = .ok (.bipush 59, 2) := by decide +kernel
theorem dX12_readThing_250 : decode cX12_readThing 250 = .ok (.invokevirtual 365, 3) := by decide +kernel
theorem dX12_readThing_253 : decode cX12_readThing 253 = .ok (.pop, 1) := by decide +kernel
theorem dX12_readThing_254 : decode cX12_readThing 254 = .ok (.return_, 1) := by decide +kernel
theorem dX12_readThing_255 : decode cX12_readThing 255 = .ok (.aload_n 0, 1) := by decide +kernel
theorem dX12_readThing_256 : decode cX12_readThing 256 = .ok (.iload_n 1, 1) := by decide +kernel
theorem dX12_readThing_257 : decode cX12_readThing 257 = .ok (.iconst 3, 1) := by decide +kernel
theorem dX12_readThing_258 : decode cX12_readThing 258 = .ok (.bipush 8, 2) := by decide +kernel
theorem dX12_readThing_260 : decode cX12_readThing 260 = .ok (.invokevirtual 388, 3) := by decide +kernel
theorem dX12_readThing_263 : decode cX12_readThing 263 = .ok (.pop, 1) := by decide +kernel
theorem dX12_readThing_264 : decode cX12_readThing 264 = .ok (.aload_n 0, 1) := by decide +kernel
theorem dX12_readThing_265 : decode cX12_readThing 265 = .ok (.bipush 59, 2) := by decide +kernel
theorem dX12_readThing_267 : decode cX12_readThing 267 = .ok (.invokevirtual 365, 3) := by decide +kernel
theorem dX12_readThing_270 : decode cX12_readThing 270 = .ok (.pop, 1) := by decide +kernel
theorem dX12_readThing_271 : decode cX12_readThing 271 = .ok (.return_, 1) := by decide +kernel
theorem dX12_readThing_272 : decode cX12_readThing 272 = .ok (.bipush 16, 2) := by decide +kernel
theorem dX12_readThing_274 : decode cX12_readThing 274 = .ok (.iload_n 1, 1) := by decide +kernel
theorem dX12_readThing_275 : decode cX12_readThing 275 = .ok (.imul, 1) := by decide +kernel
theorem dX12_readThing_276 : decode cX12_readThing 276 = .ok (.aload_n 0, 1) := by decide +kernel
theorem dX12_readThing_277 : decode cX12_readThing 277 = .ok (.iload_n 1, 1) := by decide +kernel
theorem dX12_readThing_278 : decode cX12_readThing 278 = .ok (.iconst 4, 1) := by decide +kernel
theorem dX12_readThing_279 : decode cX12_readThing 279 = .ok (.bipush 16, 2) := by decide +kernel
theorem dX12_readThing_281 : decode cX12_readThing 281 = .ok (.invokevirtual 388, 3) := by decide +kernel
theorem dX12_readThing_284 : decode cX12_readThing 284 = .ok (.iadd, 1) := by decide +kernel
theorem dX12_readThing_285 : decode cX12_readThing 285 = .ok (.istore_n 2, 1) := by decide +kernel
theorem dX12_readThing_286 : decode cX12_readThing 286 = .ok (.aload_n 0, 1) := by decide +kernel
theorem dX12_readThing_287 : decode cX12_readThing 287 = .ok (.getfield 100, 3) := by decide +kernel
theorem dX12_readThing_290 : decode cX12_readThing 290 = .ok (.iload_n 2, 1) := by decide +kernel
theorem dX12_readThing_291 : decode cX12_readThing 291 = .ok (.aload_n 0, 1) := by decide +kernel
theorem dX12_readThing_292 : decode cX12_readThing 292 = .ok (.bipush 21, 2) := by decide +kernel
theorem dX12_readThing_294 : decode cX12_readThing 294 = .ok (.bipush 22, 2) := by decide +kernel
theorem dX12_readThing_296 : decode cX12_readThing 296 = .ok (.invokevirtual 395, 3) := by decide +kernel
theorem dX12_readThing_299 : decode cX12_readThing 299 = .ok (.bastore, 1) := by decide +kernel
theorem dX12_readThing_300 : decode cX12_readThing 300 = .ok (.aload_n 0, 1) := by decide +kernel
theorem dX12_readThing_301 : decode cX12_readThing 301 = .ok (.getfield 103, 3) := by decide +kernel
theorem dX12_readThing_304 : decode cX12_readThing 304 = .ok (.iload_n 2, 1) := by decide +kernel
theorem dX12_readThing_305 : decode cX12_readThing 305 = .ok (.aload_n 0, 1) := by decide +kernel
theorem dX12_readThing_306 : decode cX12_readThing 306 = .ok (.bipush 25, 2) := by decide +kernel
theorem dX12_readThing_308 : decode cX12_readThing 308 = .ok (.bipush 26, 2) := by decide +kernel
theorem dX12_readThing_310 : decode cX12_readThing 310 = .ok (.invokevirtual 395, 3) := by decide +kernel
theorem dX12_readThing_313 : decode cX12_readThing 313 = .ok (.bastore, 1) := by decide +kernel
theorem dX12_readThing_314 : decode cX12_readThing 314 = .ok (.aload_n 0, 1) := by decide +kernel
theorem dX12_readThing_315 : decode cX12_readThing 315 = .ok (.getfield 106, 3) := by decide +kernel
theorem dX12_readThing_318 : decode cX12_readThing 318 = .ok (.iload_n 2, 1) := by decide +kernel
theorem dX12_readThing_319 : decode cX12_readThing 319 = .ok (.iconst (-1), 1) := by decide +kernel
theorem dX12_readThing_320 : decode cX12_readThing 320 = .ok (.iastore, 1) := by decide +kernel
theorem dX12_readThing_321 : decode cX12_readThing 321 = .ok (.aload_n 0, 1) := by decide +kernel
theorem dX12_readThing_322 : decode cX12_readThing 322 = .ok (.bipush 59, 2) := by decide +kernel
theorem dX12_readThing_324 : decode cX12_readThing 324 = .ok (.invokevirtual 365, 3) := by decide +kernel
theorem dX12_readThing_327 : decode cX12_readThing 327 = .ok (.pop, 1) := by decide +kernel
theorem dX12_readThing_328 : decode cX12_readThing 328 = .ok (.return_, 1) := by decide +kernel
theorem dX12_readThing_329 : decode cX12_readThing 329 = .ok (.aload_n 0, 1) := by decide +kernel
theorem dX12_readThing_330 : decode cX12_readThing 330 = .ok (.iload_n 1, 1) := by decide +kernel
theorem dX12_readThing_331 : decode cX12_readThing 331 = .ok (.invokevirtual 398, 3) := by decide +kernel
theorem dX12_readThing_334 : decode cX12_readThing 334 = .ok (.return_, 1) := by decide +kernel
theorem dX12_readThing_335 : decode cX12_readThing 335 = .ok (.aload_n 0, 1) := by decide +kernel
theorem dX12_readThing_336 : decode cX12_readThing 336 = .ok (.iconst 1, 1) := by decide +kernel
theorem dX12_readThing_337 : decode cX12_readThing 337 = .ok (.invokevirtual 338, 3) := by decide +kernel
theorem dX12_readThing_340 : decode cX12_readThing 340 = .ok (.pop, 1) := by decide +kernel
theorem dX12_readThing_341 : decode cX12_readThing 341 = .ok (.return_, 1) := by decide +kernel
def wb_X12_readThing_167  (S : q_S) (a0 : Nat) (x2 : Int32) (rs0 : Option Nat) (xs1 : Int32) (as2 : Nat) (xs3 : Int32) (Q : Option Value → q_S → Prop) : Prop := q_K S as2 = 13 ∧ (wm_X12_number S as2 xs3 (100 : Int32) (1 : Int32) (fun r2_ S3_ => ∃ x4_ : Int32, r2_ = some (.int x4_) ∧ (∃ a5_ : Nat, rs0 = some a5_ ∧ (q_K S3_ a5_ = 21 ∧ (vp_in xs1 (q_N S3_ a5_) ∧ (q_K (qs_A S3_ a5_ xs1.toNatClampNeg x4_) a0 = 13 ∧ (wm_X12_isFifo (qs_A S3_ a5_ xs1.toNatClampNeg x4_) a0 (fun r10_ S11_ => ∃ x12_ : Int32, r10_ = some (.int x12_) ∧ (∃ a13_ : Nat, (q_P (qs_A S3_ a5_ xs1.toNatClampNeg x4_) 2445 a0) = some a13_ ∧ (q_K S11_ a13_ = 22 ∧ (vp_in x2 (q_N S11_ a13_) ∧ (q_K (qs_A S11_ a13_ x2.toNatClampNeg (vp_nar .boolean x12_)) a0 = 13 ∧ (wm_X12_sign (qs_A S11_ a13_ x2.toNatClampNeg (vp_nar .boolean x12_)) a0 (59 : Int32) (fun r18_ S19_ => ∃ x20_ : Int32, r18_ = some (.int x20_) ∧ (Q none S19_)))))))))))))))
set_option maxHeartbeats 4000000 in
set_option maxRecDepth 100000 in
theorem cb_X12_readThing_167 {p : Program} {l : Launch} {e : Env} {s : State} {m : MethodId} {args : Array Value} {below : List Frame} {meth : Method} {c : Code} {D : va_G} {cy : Nat → ClassId} {lo : Nat}  {S : q_S} {a0 : Nat} {x2 : Int32} {rs0 : Option Nat} {xs1 : Int32} {as2 : Nat} {xs3 : Int32} {Q : Option Value → q_S → Prop} {H : Heap} {locs : List Loc} {ls : Array Slot} (X : q_X p s m args meth c RX12 cX12_readThing 3 none D cy lo)  (Y : q_Y D cy lo s S H locs) (hl : lv_has ls 3 [(0, .ref a0), (2, .int x2)]) (h : wb_X12_readThing_167 S a0 x2 rs0 xs1 as2 xs3 Q) : W p l e ({ frames := 9, cells := 0, slots := 0, locals := 202 } : Room) s m args below meth c H locs 0 0 (MQ below (q_Q D cy lo Q) args s 0 0 (fun q => lo ≤ q)) (F0 m 167 ls [.int xs3, .ref as2, .int xs1, va_rf rs0]) := by
  have hx := X.1
  have hb := X.2.1
  unfold wb_X12_readThing_167 at h
  refine lv_bipush (v := 100) hx hb dX12_readThing_167 (by decide) ?_
  refine lv_iconst (v := 1) hx hb dX12_readThing_169 (by decide) ?_
  obtain ⟨k1_, h⟩ := h
  refine q_callV X Y hl (cm_X12_number h) mt_X12_number mi_X12_number ml_X12_371 (ci := 12) rfl k1_ (by decide) rfl rfl (by first | exact Nat.le_of_ble_eq_true rfl | simp [q_cat, q_catI, q_catJ, q_catR]) ⟨Nat.le_of_ble_eq_true rfl, Nat.le_of_ble_eq_true rfl⟩ ⟨Nat.le_of_ble_eq_true rfl, Nat.le_of_ble_eq_true rfl⟩ dX12_readThing_170 (fun r2_ S3_ H locs hp Y => ?_)
  obtain ⟨x4_, rfl, h⟩ := hp
  refine W.eq (g2 := F0 m 173 ls [.int x4_, .int xs1, va_rf rs0]) rfl ?_
  obtain ⟨a5_, e6_, h⟩ := h
  refine q_nn [.int x4_, .int xs1] e6_ ?_
  obtain ⟨k7_, h⟩ := h
  obtain ⟨i8_, h⟩ := h
  refine q_ist X Y k7_ i8_ dX12_readThing_173 (fun H locs Y => ?_)
  refine lv_aload_n hx hb dX12_readThing_174 rfl (lv_at hl 0 rfl) ?_
  obtain ⟨k9_, h⟩ := h
  refine q_getP X Y kX12 45 rfl fl_X12_91 k9_ rfl dX12_readThing_175 ?_
  refine lv_iload_n hx hb dX12_readThing_178 rfl (lv_at hl 1 rfl) ?_
  refine lv_aload_n hx hb dX12_readThing_179 rfl (lv_at hl 0 rfl) ?_
  refine q_callV X Y hl (cm_X12_isFifo h) mt_X12_isFifo mi_X12_isFifo ml_X12_391 (ci := 12) rfl k9_ (by decide) rfl rfl (by first | exact Nat.le_of_ble_eq_true rfl | simp [q_cat, q_catI, q_catJ, q_catR]) ⟨Nat.le_of_ble_eq_true rfl, Nat.le_of_ble_eq_true rfl⟩ ⟨Nat.le_of_ble_eq_true rfl, Nat.le_of_ble_eq_true rfl⟩ dX12_readThing_180 (fun r10_ S11_ H locs hp Y => ?_)
  obtain ⟨x12_, rfl, h⟩ := hp
  refine W.eq (g2 := F0 m 183 ls [.int x12_, .int x2, va_rf (q_P (qs_A S3_ a5_ xs1.toNatClampNeg x4_) 2445 a0)]) rfl ?_
  obtain ⟨a13_, e14_, h⟩ := h
  refine q_nn [.int x12_, .int x2] e14_ ?_
  obtain ⟨k15_, h⟩ := h
  obtain ⟨i16_, h⟩ := h
  refine q_zst X Y k15_ i16_ dX12_readThing_183 (fun H locs Y => ?_)
  refine lv_aload_n hx hb dX12_readThing_184 rfl (lv_at hl 0 rfl) ?_
  refine lv_bipush (v := 59) hx hb dX12_readThing_185 (by decide) ?_
  obtain ⟨k17_, h⟩ := h
  refine q_callV X Y hl (cm_X12_sign h) mt_X12_sign mi_X12_sign ml_X12_365 (ci := 12) rfl k17_ (by decide) rfl rfl (by first | exact Nat.le_of_ble_eq_true rfl | simp [q_cat, q_catI, q_catJ, q_catR]) ⟨Nat.le_of_ble_eq_true rfl, Nat.le_of_ble_eq_true rfl⟩ ⟨Nat.le_of_ble_eq_true rfl, Nat.le_of_ble_eq_true rfl⟩ dX12_readThing_187 (fun r18_ S19_ H locs hp Y => ?_)
  obtain ⟨x20_, rfl, h⟩ := hp
  refine W.eq (g2 := F0 m 190 ls [.int x20_]) rfl ?_
  refine lv_pop hx hb dX12_readThing_190 rfl ?_
  exact q_vret X Y (Nat.le_refl _) (Nat.le_refl _) h dX12_readThing_191
def wm_X12_readThing (S : q_S) (a0 : Nat) (x1 : Int32) (Q : Option Value → q_S → Prop) : Prop := q_K S a0 = 13 ∧ ((((q_I S 2406 a0) = (4 : Int32) → (((((q_I S 2408 a0).toInt < 7 ∨ 23 < (q_I S 2408 a0).toInt) → (wm_X12_failHere S a0 (1 : Int32) (fun r23_ S24_ => ∃ x25_ : Int32, r23_ = some (.int x25_) ∧ (Q none S24_)))) ∧ (((q_I S 2408 a0) = (7 : Int32)) → (wm_X12_readProcess S a0 x1 (fun r26_ S27_ => r26_ = none ∧ (Q none S27_)))) ∧ (((q_I S 2408 a0) = (8 : Int32) ∨ (q_I S 2408 a0) = (9 : Int32) ∨ (q_I S 2408 a0) = (10 : Int32) ∨ (q_I S 2408 a0) = (11 : Int32) ∨ (q_I S 2408 a0) = (12 : Int32) ∨ (q_I S 2408 a0) = (13 : Int32) ∨ (q_I S 2408 a0) = (14 : Int32) ∨ (q_I S 2408 a0) = (18 : Int32) ∨ (q_I S 2408 a0) = (21 : Int32) ∨ (q_I S 2408 a0) = (22 : Int32)) → (wm_X12_failHere S a0 (1 : Int32) (fun r28_ S29_ => ∃ x30_ : Int32, r28_ = some (.int x30_) ∧ (Q none S29_)))) ∧ (((q_I S 2408 a0) = (15 : Int32)) → (wm_X12_newThing S a0 x1 (0 : Int32) (8 : Int32) (fun r31_ S32_ => ∃ x33_ : Int32, r31_ = some (.int x33_) ∧ (q_K S32_ a0 = 13 ∧ (wm_X12_number S32_ a0 (0 : Int32) (100 : Int32) (1 : Int32) (fun r35_ S36_ => ∃ x37_ : Int32, r35_ = some (.int x37_) ∧ (∃ a38_ : Nat, (q_P S32_ 2443 a0) = some a38_ ∧ (q_K S36_ a38_ = 21 ∧ (vp_in (((8 : Int32) * x1) + x33_) (q_N S36_ a38_) ∧ (q_K (qs_A S36_ a38_ (((8 : Int32) * x1) + x33_).toNatClampNeg x37_) a0 = 13 ∧ (wm_X12_sign (qs_A S36_ a38_ (((8 : Int32) * x1) + x33_).toNatClampNeg x37_) a0 (58 : Int32) (fun r43_ S44_ => ∃ x45_ : Int32, r43_ = some (.int x45_) ∧ (q_K S44_ a0 = 13 ∧ (∃ a47_ : Nat, (q_P S44_ 2443 a0) = some a47_ ∧ (q_K S44_ a47_ = 21 ∧ (vp_in (((8 : Int32) * x1) + x33_) (q_N S44_ a47_) ∧ ((((q_A S44_ a47_ (((8 : Int32) * x1) + x33_).toNatClampNeg) ≤ (1 : Int32) → (wb_X12_readThing_167 S44_ a0 (((8 : Int32) * x1) + x33_) (q_P S44_ 2444 a0) (((8 : Int32) * x1) + x33_) a0 (1 : Int32) Q)) ∧ (¬ (q_A S44_ a47_ (((8 : Int32) * x1) + x33_).toNatClampNeg) ≤ (1 : Int32) → (vp_in (((8 : Int32) * x1) + x33_) (q_N S44_ a47_) ∧ (wb_X12_readThing_167 S44_ a0 (((8 : Int32) * x1) + x33_) (q_P S44_ 2444 a0) (((8 : Int32) * x1) + x33_) a0 (q_A S44_ a47_ (((8 : Int32) * x1) + x33_).toNatClampNeg) Q))))))))))))))))))))) ∧ (((q_I S 2408 a0) = (16 : Int32)) → (wm_X12_newThing S a0 x1 (1 : Int32) (8 : Int32) (fun r53_ S54_ => ∃ x55_ : Int32, r53_ = some (.int x55_) ∧ (q_K S54_ a0 = 13 ∧ (wm_X12_sign S54_ a0 (59 : Int32) (fun r57_ S58_ => ∃ x59_ : Int32, r57_ = some (.int x59_) ∧ (Q none S58_))))))) ∧ (((q_I S 2408 a0) = (17 : Int32)) → (wm_X12_newThing S a0 x1 (2 : Int32) (8 : Int32) (fun r60_ S61_ => ∃ x62_ : Int32, r60_ = some (.int x62_) ∧ (q_K S61_ a0 = 13 ∧ (wm_X12_number S61_ a0 (1 : Int32) (16 : Int32) (1 : Int32) (fun r64_ S65_ => ∃ x66_ : Int32, r64_ = some (.int x66_) ∧ (∃ a67_ : Nat, (q_P S61_ 2446 a0) = some a67_ ∧ (q_K S65_ a67_ = 21 ∧ (vp_in (((8 : Int32) * x1) + x62_) (q_N S65_ a67_) ∧ (q_K (qs_A S65_ a67_ (((8 : Int32) * x1) + x62_).toNatClampNeg x66_) a0 = 13 ∧ (wm_X12_isFifo (qs_A S65_ a67_ (((8 : Int32) * x1) + x62_).toNatClampNeg x66_) a0 (fun r72_ S73_ => ∃ x74_ : Int32, r72_ = some (.int x74_) ∧ (∃ a75_ : Nat, (q_P (qs_A S65_ a67_ (((8 : Int32) * x1) + x62_).toNatClampNeg x66_) 2447 a0) = some a75_ ∧ (q_K S73_ a75_ = 22 ∧ (vp_in (((8 : Int32) * x1) + x62_) (q_N S73_ a75_) ∧ (q_K (qs_A S73_ a75_ (((8 : Int32) * x1) + x62_).toNatClampNeg (vp_nar .boolean x74_)) a0 = 13 ∧ (wm_X12_sign (qs_A S73_ a75_ (((8 : Int32) * x1) + x62_).toNatClampNeg (vp_nar .boolean x74_)) a0 (59 : Int32) (fun r80_ S81_ => ∃ x82_ : Int32, r80_ = some (.int x82_) ∧ (Q none S81_))))))))))))))))))) ∧ (((q_I S 2408 a0) = (19 : Int32)) → (wm_X12_newThing S a0 x1 (3 : Int32) (8 : Int32) (fun r83_ S84_ => ∃ x85_ : Int32, r83_ = some (.int x85_) ∧ (q_K S84_ a0 = 13 ∧ (wm_X12_sign S84_ a0 (59 : Int32) (fun r87_ S88_ => ∃ x89_ : Int32, r87_ = some (.int x89_) ∧ (Q none S88_))))))) ∧ (((q_I S 2408 a0) = (20 : Int32)) → (wm_X12_newThing S a0 x1 (4 : Int32) (16 : Int32) (fun r90_ S91_ => ∃ x92_ : Int32, r90_ = some (.int x92_) ∧ (q_K S91_ a0 = 13 ∧ (wm_X12_either S91_ a0 (21 : Int32) (22 : Int32) (fun r94_ S95_ => ∃ x96_ : Int32, r94_ = some (.int x96_) ∧ (∃ a97_ : Nat, (q_P S91_ 2448 a0) = some a97_ ∧ (q_K S95_ a97_ = 22 ∧ (vp_in (((16 : Int32) * x1) + x92_) (q_N S95_ a97_) ∧ (q_K (qs_A S95_ a97_ (((16 : Int32) * x1) + x92_).toNatClampNeg (vp_nar .boolean x96_)) a0 = 13 ∧ (wm_X12_either (qs_A S95_ a97_ (((16 : Int32) * x1) + x92_).toNatClampNeg (vp_nar .boolean x96_)) a0 (25 : Int32) (26 : Int32) (fun r102_ S103_ => ∃ x104_ : Int32, r102_ = some (.int x104_) ∧ (∃ a105_ : Nat, (q_P (qs_A S95_ a97_ (((16 : Int32) * x1) + x92_).toNatClampNeg (vp_nar .boolean x96_)) 2449 a0) = some a105_ ∧ (q_K S103_ a105_ = 22 ∧ (vp_in (((16 : Int32) * x1) + x92_) (q_N S103_ a105_) ∧ (q_K (qs_A S103_ a105_ (((16 : Int32) * x1) + x92_).toNatClampNeg (vp_nar .boolean x104_)) a0 = 13 ∧ (∃ a110_ : Nat, (q_P (qs_A S103_ a105_ (((16 : Int32) * x1) + x92_).toNatClampNeg (vp_nar .boolean x104_)) 2450 a0) = some a110_ ∧ (q_K (qs_A S103_ a105_ (((16 : Int32) * x1) + x92_).toNatClampNeg (vp_nar .boolean x104_)) a110_ = 21 ∧ (vp_in (((16 : Int32) * x1) + x92_) (q_N (qs_A S103_ a105_ (((16 : Int32) * x1) + x92_).toNatClampNeg (vp_nar .boolean x104_)) a110_) ∧ (wm_X12_sign (qs_A (qs_A S103_ a105_ (((16 : Int32) * x1) + x92_).toNatClampNeg (vp_nar .boolean x104_)) a110_ (((16 : Int32) * x1) + x92_).toNatClampNeg (-1 : Int32)) a0 (59 : Int32) (fun r114_ S115_ => ∃ x116_ : Int32, r114_ = some (.int x116_) ∧ (Q none S115_)))))))))))))))))))))) ∧ (((q_I S 2408 a0) = (23 : Int32)) → (wm_X12_readErrors S a0 x1 (fun r117_ S118_ => r117_ = none ∧ (Q none S118_))))))) ∧ (¬ (q_I S 2406 a0) = (4 : Int32) → (wm_X12_failHere S a0 (1 : Int32) (fun r121_ S122_ => ∃ x123_ : Int32, r121_ = some (.int x123_) ∧ (Q none S122_))))))
set_option maxHeartbeats 4000000 in
set_option maxRecDepth 100000 in
theorem cm_X12_readThing {l : Launch} {D : va_G} {cy : Nat → ClassId} {lo : Nat} {S : q_S} {a0 : Nat} {x1 : Int32} {Q : Option Value → q_S → Prop} (h : wm_X12_readThing S a0 x1 Q) : q_Met l D cy lo yX12_readThing cX12_readThing 3 none 9 202 0 0 [.ref a0, .int x1] S Q := by
  refine q_body (by decide) (by first | exact Nat.le_of_ble_eq_true rfl | simp [lg_sl, q_cat, q_catI, q_catJ, q_catR]) ?_
  intro p e s m below meth c ls X hnm Y hl
  have hx := X.1
  have hb := X.2.1
  have hl : lv_has ls 3 [(0, .ref a0), (1, .int x1)] := by first | exact hl | simpa [lv_args, q_cat, q_catI, q_catJ, q_catR] using hl
  generalize hargs : ([.ref a0, .int x1] : List Value).toArray = args at X ⊢
  unfold wm_X12_readThing at h
  refine lv_aload_n hx hb dX12_readThing_0 rfl (lv_at hl 0 rfl) ?_
  obtain ⟨k21_, h⟩ := h
  refine q_getI X Y kX12 6 rfl fl_X12_297 k21_ dX12_readThing_1 ?_
  refine lv_iconst (v := 4) hx hb dX12_readThing_4 (by decide) ?_
  refine lv_icmp_eq (tgt := 15) hx hb dX12_readThing_5 (by decide) (fun c22_ => ?_) (fun c22_ => ?_)
  · replace h := h.1 c22_
    refine lv_aload_n hx hb dX12_readThing_15 rfl (lv_at hl 0 rfl) ?_
    refine q_getI X Y kX12 8 rfl fl_X12_316 k21_ dX12_readThing_16 ?_
    refine q_tsw (tgt := 335) hx hb dX12_readThing_19 (by decide) (by decide) (fun c119_ => ?_) (fun j120_ hj_ c119_ => ?_)
    · replace h := h.1 c119_
      refine lv_aload_n hx hb dX12_readThing_335 rfl (lv_at hl 0 rfl) ?_
      refine lv_iconst (v := 1) hx hb dX12_readThing_336 (by decide) ?_
      refine q_callV X Y hl (cm_X12_failHere h) mt_X12_failHere mi_X12_failHere ml_X12_338 (ci := 12) rfl k21_ (by decide) rfl rfl (by first | exact Nat.le_of_ble_eq_true rfl | simp [q_cat, q_catI, q_catJ, q_catR]) ⟨Nat.le_of_ble_eq_true rfl, Nat.le_of_ble_eq_true rfl⟩ ⟨Nat.le_of_ble_eq_true rfl, Nat.le_of_ble_eq_true rfl⟩ dX12_readThing_337 (fun r23_ S24_ H locs hp Y => ?_)
      obtain ⟨x25_, rfl, h⟩ := hp
      refine W.eq (g2 := F0 m 340 ls [.int x25_]) rfl ?_
      refine lv_pop hx hb dX12_readThing_340 rfl ?_
      exact q_vret X Y (Nat.le_refl _) (Nat.le_refl _) h dX12_readThing_341
    · match j120_, hj_, c119_ with
      | 0, _, c119_ =>
        refine ⟨81, 100, rfl, by decide, ?_⟩
        replace h := h.2.1 (q_eqI c119_ (by decide))
        refine lv_aload_n hx hb dX12_readThing_100 rfl (lv_at hl 0 rfl) ?_
        refine lv_iload_n hx hb dX12_readThing_101 rfl (lv_at hl 1 rfl) ?_
        refine q_callV X Y hl (cm_X12_readProcess h) mt_X12_readProcess mi_X12_readProcess ml_X12_385 (ci := 12) rfl k21_ (by decide) rfl rfl (by first | exact Nat.le_of_ble_eq_true rfl | simp [q_cat, q_catI, q_catJ, q_catR]) ⟨Nat.le_of_ble_eq_true rfl, Nat.le_of_ble_eq_true rfl⟩ ⟨Nat.le_of_ble_eq_true rfl, Nat.le_of_ble_eq_true rfl⟩ dX12_readThing_102 (fun r26_ S27_ H locs hp Y => ?_)
        obtain ⟨rfl, h⟩ := hp
        refine W.eq (g2 := F0 m 105 ls []) rfl ?_
        exact q_vret X Y (Nat.le_refl _) (Nat.le_refl _) h dX12_readThing_105
      | 1, _, c119_ =>
        refine ⟨316, 335, rfl, by decide, ?_⟩
        replace h := h.2.2.1 (Or.inl (q_eqI c119_ (by decide)))
        refine lv_aload_n hx hb dX12_readThing_335 rfl (lv_at hl 0 rfl) ?_
        refine lv_iconst (v := 1) hx hb dX12_readThing_336 (by decide) ?_
        refine q_callV X Y hl (cm_X12_failHere h) mt_X12_failHere mi_X12_failHere ml_X12_338 (ci := 12) rfl k21_ (by decide) rfl rfl (by first | exact Nat.le_of_ble_eq_true rfl | simp [q_cat, q_catI, q_catJ, q_catR]) ⟨Nat.le_of_ble_eq_true rfl, Nat.le_of_ble_eq_true rfl⟩ ⟨Nat.le_of_ble_eq_true rfl, Nat.le_of_ble_eq_true rfl⟩ dX12_readThing_337 (fun r28_ S29_ H locs hp Y => ?_)
        obtain ⟨x30_, rfl, h⟩ := hp
        refine W.eq (g2 := F0 m 340 ls [.int x30_]) rfl ?_
        refine lv_pop hx hb dX12_readThing_340 rfl ?_
        exact q_vret X Y (Nat.le_refl _) (Nat.le_refl _) h dX12_readThing_341
      | 2, _, c119_ =>
        refine ⟨316, 335, rfl, by decide, ?_⟩
        replace h := h.2.2.1 (Or.inr (Or.inl (q_eqI c119_ (by decide))))
        refine lv_aload_n hx hb dX12_readThing_335 rfl (lv_at hl 0 rfl) ?_
        refine lv_iconst (v := 1) hx hb dX12_readThing_336 (by decide) ?_
        refine q_callV X Y hl (cm_X12_failHere h) mt_X12_failHere mi_X12_failHere ml_X12_338 (ci := 12) rfl k21_ (by decide) rfl rfl (by first | exact Nat.le_of_ble_eq_true rfl | simp [q_cat, q_catI, q_catJ, q_catR]) ⟨Nat.le_of_ble_eq_true rfl, Nat.le_of_ble_eq_true rfl⟩ ⟨Nat.le_of_ble_eq_true rfl, Nat.le_of_ble_eq_true rfl⟩ dX12_readThing_337 (fun r28_ S29_ H locs hp Y => ?_)
        obtain ⟨x30_, rfl, h⟩ := hp
        refine W.eq (g2 := F0 m 340 ls [.int x30_]) rfl ?_
        refine lv_pop hx hb dX12_readThing_340 rfl ?_
        exact q_vret X Y (Nat.le_refl _) (Nat.le_refl _) h dX12_readThing_341
      | 3, _, c119_ =>
        refine ⟨316, 335, rfl, by decide, ?_⟩
        replace h := h.2.2.1 (Or.inr (Or.inr (Or.inl (q_eqI c119_ (by decide)))))
        refine lv_aload_n hx hb dX12_readThing_335 rfl (lv_at hl 0 rfl) ?_
        refine lv_iconst (v := 1) hx hb dX12_readThing_336 (by decide) ?_
        refine q_callV X Y hl (cm_X12_failHere h) mt_X12_failHere mi_X12_failHere ml_X12_338 (ci := 12) rfl k21_ (by decide) rfl rfl (by first | exact Nat.le_of_ble_eq_true rfl | simp [q_cat, q_catI, q_catJ, q_catR]) ⟨Nat.le_of_ble_eq_true rfl, Nat.le_of_ble_eq_true rfl⟩ ⟨Nat.le_of_ble_eq_true rfl, Nat.le_of_ble_eq_true rfl⟩ dX12_readThing_337 (fun r28_ S29_ H locs hp Y => ?_)
        obtain ⟨x30_, rfl, h⟩ := hp
        refine W.eq (g2 := F0 m 340 ls [.int x30_]) rfl ?_
        refine lv_pop hx hb dX12_readThing_340 rfl ?_
        exact q_vret X Y (Nat.le_refl _) (Nat.le_refl _) h dX12_readThing_341
      | 4, _, c119_ =>
        refine ⟨316, 335, rfl, by decide, ?_⟩
        replace h := h.2.2.1 (Or.inr (Or.inr (Or.inr (Or.inl (q_eqI c119_ (by decide))))))
        refine lv_aload_n hx hb dX12_readThing_335 rfl (lv_at hl 0 rfl) ?_
        refine lv_iconst (v := 1) hx hb dX12_readThing_336 (by decide) ?_
        refine q_callV X Y hl (cm_X12_failHere h) mt_X12_failHere mi_X12_failHere ml_X12_338 (ci := 12) rfl k21_ (by decide) rfl rfl (by first | exact Nat.le_of_ble_eq_true rfl | simp [q_cat, q_catI, q_catJ, q_catR]) ⟨Nat.le_of_ble_eq_true rfl, Nat.le_of_ble_eq_true rfl⟩ ⟨Nat.le_of_ble_eq_true rfl, Nat.le_of_ble_eq_true rfl⟩ dX12_readThing_337 (fun r28_ S29_ H locs hp Y => ?_)
        obtain ⟨x30_, rfl, h⟩ := hp
        refine W.eq (g2 := F0 m 340 ls [.int x30_]) rfl ?_
        refine lv_pop hx hb dX12_readThing_340 rfl ?_
        exact q_vret X Y (Nat.le_refl _) (Nat.le_refl _) h dX12_readThing_341
      | 5, _, c119_ =>
        refine ⟨316, 335, rfl, by decide, ?_⟩
        replace h := h.2.2.1 (Or.inr (Or.inr (Or.inr (Or.inr (Or.inl (q_eqI c119_ (by decide)))))))
        refine lv_aload_n hx hb dX12_readThing_335 rfl (lv_at hl 0 rfl) ?_
        refine lv_iconst (v := 1) hx hb dX12_readThing_336 (by decide) ?_
        refine q_callV X Y hl (cm_X12_failHere h) mt_X12_failHere mi_X12_failHere ml_X12_338 (ci := 12) rfl k21_ (by decide) rfl rfl (by first | exact Nat.le_of_ble_eq_true rfl | simp [q_cat, q_catI, q_catJ, q_catR]) ⟨Nat.le_of_ble_eq_true rfl, Nat.le_of_ble_eq_true rfl⟩ ⟨Nat.le_of_ble_eq_true rfl, Nat.le_of_ble_eq_true rfl⟩ dX12_readThing_337 (fun r28_ S29_ H locs hp Y => ?_)
        obtain ⟨x30_, rfl, h⟩ := hp
        refine W.eq (g2 := F0 m 340 ls [.int x30_]) rfl ?_
        refine lv_pop hx hb dX12_readThing_340 rfl ?_
        exact q_vret X Y (Nat.le_refl _) (Nat.le_refl _) h dX12_readThing_341
      | 6, _, c119_ =>
        refine ⟨316, 335, rfl, by decide, ?_⟩
        replace h := h.2.2.1 (Or.inr (Or.inr (Or.inr (Or.inr (Or.inr (Or.inl (q_eqI c119_ (by decide))))))))
        refine lv_aload_n hx hb dX12_readThing_335 rfl (lv_at hl 0 rfl) ?_
        refine lv_iconst (v := 1) hx hb dX12_readThing_336 (by decide) ?_
        refine q_callV X Y hl (cm_X12_failHere h) mt_X12_failHere mi_X12_failHere ml_X12_338 (ci := 12) rfl k21_ (by decide) rfl rfl (by first | exact Nat.le_of_ble_eq_true rfl | simp [q_cat, q_catI, q_catJ, q_catR]) ⟨Nat.le_of_ble_eq_true rfl, Nat.le_of_ble_eq_true rfl⟩ ⟨Nat.le_of_ble_eq_true rfl, Nat.le_of_ble_eq_true rfl⟩ dX12_readThing_337 (fun r28_ S29_ H locs hp Y => ?_)
        obtain ⟨x30_, rfl, h⟩ := hp
        refine W.eq (g2 := F0 m 340 ls [.int x30_]) rfl ?_
        refine lv_pop hx hb dX12_readThing_340 rfl ?_
        exact q_vret X Y (Nat.le_refl _) (Nat.le_refl _) h dX12_readThing_341
      | 7, _, c119_ =>
        refine ⟨316, 335, rfl, by decide, ?_⟩
        replace h := h.2.2.1 (Or.inr (Or.inr (Or.inr (Or.inr (Or.inr (Or.inr (Or.inl (q_eqI c119_ (by decide)))))))))
        refine lv_aload_n hx hb dX12_readThing_335 rfl (lv_at hl 0 rfl) ?_
        refine lv_iconst (v := 1) hx hb dX12_readThing_336 (by decide) ?_
        refine q_callV X Y hl (cm_X12_failHere h) mt_X12_failHere mi_X12_failHere ml_X12_338 (ci := 12) rfl k21_ (by decide) rfl rfl (by first | exact Nat.le_of_ble_eq_true rfl | simp [q_cat, q_catI, q_catJ, q_catR]) ⟨Nat.le_of_ble_eq_true rfl, Nat.le_of_ble_eq_true rfl⟩ ⟨Nat.le_of_ble_eq_true rfl, Nat.le_of_ble_eq_true rfl⟩ dX12_readThing_337 (fun r28_ S29_ H locs hp Y => ?_)
        obtain ⟨x30_, rfl, h⟩ := hp
        refine W.eq (g2 := F0 m 340 ls [.int x30_]) rfl ?_
        refine lv_pop hx hb dX12_readThing_340 rfl ?_
        exact q_vret X Y (Nat.le_refl _) (Nat.le_refl _) h dX12_readThing_341
      | 8, _, c119_ =>
        refine ⟨87, 106, rfl, by decide, ?_⟩
        replace h := h.2.2.2.1 (q_eqI c119_ (by decide))
        refine lv_bipush (v := 8) hx hb dX12_readThing_106 (by decide) ?_
        refine lv_iload_n hx hb dX12_readThing_108 rfl (lv_at hl 1 rfl) ?_
        refine lv_imul hx hb dX12_readThing_109 ?_
        refine lv_aload_n hx hb dX12_readThing_110 rfl (lv_at hl 0 rfl) ?_
        refine lv_iload_n hx hb dX12_readThing_111 rfl (lv_at hl 1 rfl) ?_
        refine lv_iconst (v := 0) hx hb dX12_readThing_112 (by decide) ?_
        refine lv_bipush (v := 8) hx hb dX12_readThing_113 (by decide) ?_
        refine q_callV X Y hl (cm_X12_newThing h) mt_X12_newThing mi_X12_newThing ml_X12_388 (ci := 12) rfl k21_ (by decide) rfl rfl (by first | exact Nat.le_of_ble_eq_true rfl | simp [q_cat, q_catI, q_catJ, q_catR]) ⟨Nat.le_of_ble_eq_true rfl, Nat.le_of_ble_eq_true rfl⟩ ⟨Nat.le_of_ble_eq_true rfl, Nat.le_of_ble_eq_true rfl⟩ dX12_readThing_115 (fun r31_ S32_ H locs hp Y => ?_)
        obtain ⟨x33_, rfl, h⟩ := hp
        refine W.eq (g2 := F0 m 118 ls [.int x33_, .int ((8 : Int32) * x1)]) rfl ?_
        refine lv_iadd hx hb dX12_readThing_118 ?_
        refine lv_istore_n (i := 2) (lv' := [(2, .int (((8 : Int32) * x1) + x33_)), (0, .ref a0), (1, .int x1)]) hx hb dX12_readThing_119 rfl hl (by decide) (by first | rfl | simp [q_cat, q_catI, q_catJ, q_catR]) (fun ls hl => ?_)
        refine lv_aload_n hx hb dX12_readThing_120 rfl (lv_at hl 1 rfl) ?_
        obtain ⟨k34_, h⟩ := h
        refine q_getP X Y kX12 43 rfl fl_X12_85 k34_ rfl dX12_readThing_121 ?_
        refine lv_iload_n hx hb dX12_readThing_124 rfl (lv_at hl 0 rfl) ?_
        refine lv_aload_n hx hb dX12_readThing_125 rfl (lv_at hl 1 rfl) ?_
        refine lv_iconst (v := 0) hx hb dX12_readThing_126 (by decide) ?_
        refine lv_bipush (v := 100) hx hb dX12_readThing_127 (by decide) ?_
        refine lv_iconst (v := 1) hx hb dX12_readThing_129 (by decide) ?_
        refine q_callV X Y hl (cm_X12_number h) mt_X12_number mi_X12_number ml_X12_371 (ci := 12) rfl k34_ (by decide) rfl rfl (by first | exact Nat.le_of_ble_eq_true rfl | simp [q_cat, q_catI, q_catJ, q_catR]) ⟨Nat.le_of_ble_eq_true rfl, Nat.le_of_ble_eq_true rfl⟩ ⟨Nat.le_of_ble_eq_true rfl, Nat.le_of_ble_eq_true rfl⟩ dX12_readThing_130 (fun r35_ S36_ H locs hp Y => ?_)
        obtain ⟨x37_, rfl, h⟩ := hp
        refine W.eq (g2 := F0 m 133 ls [.int x37_, .int (((8 : Int32) * x1) + x33_), va_rf (q_P S32_ 2443 a0)]) rfl ?_
        obtain ⟨a38_, e39_, h⟩ := h
        refine q_nn [.int x37_, .int (((8 : Int32) * x1) + x33_)] e39_ ?_
        obtain ⟨k40_, h⟩ := h
        obtain ⟨i41_, h⟩ := h
        refine q_ist X Y k40_ i41_ dX12_readThing_133 (fun H locs Y => ?_)
        refine lv_aload_n hx hb dX12_readThing_134 rfl (lv_at hl 1 rfl) ?_
        refine lv_bipush (v := 58) hx hb dX12_readThing_135 (by decide) ?_
        obtain ⟨k42_, h⟩ := h
        refine q_callV X Y hl (cm_X12_sign h) mt_X12_sign mi_X12_sign ml_X12_365 (ci := 12) rfl k42_ (by decide) rfl rfl (by first | exact Nat.le_of_ble_eq_true rfl | simp [q_cat, q_catI, q_catJ, q_catR]) ⟨Nat.le_of_ble_eq_true rfl, Nat.le_of_ble_eq_true rfl⟩ ⟨Nat.le_of_ble_eq_true rfl, Nat.le_of_ble_eq_true rfl⟩ dX12_readThing_137 (fun r43_ S44_ H locs hp Y => ?_)
        obtain ⟨x45_, rfl, h⟩ := hp
        refine W.eq (g2 := F0 m 140 ls [.int x45_]) rfl ?_
        refine lv_pop hx hb dX12_readThing_140 rfl ?_
        refine lv_aload_n hx hb dX12_readThing_141 rfl (lv_at hl 1 rfl) ?_
        obtain ⟨k46_, h⟩ := h
        refine q_getP X Y kX12 44 rfl fl_X12_88 k46_ rfl dX12_readThing_142 ?_
        refine lv_iload_n hx hb dX12_readThing_145 rfl (lv_at hl 0 rfl) ?_
        refine lv_aload_n hx hb dX12_readThing_146 rfl (lv_at hl 1 rfl) ?_
        refine lv_aload_n hx hb dX12_readThing_147 rfl (lv_at hl 1 rfl) ?_
        refine q_getP X Y kX12 43 rfl fl_X12_85 k46_ rfl dX12_readThing_148 ?_
        refine lv_iload_n hx hb dX12_readThing_151 rfl (lv_at hl 0 rfl) ?_
        obtain ⟨a47_, e48_, h⟩ := h
        refine q_nn [.int (((8 : Int32) * x1) + x33_)] e48_ ?_
        obtain ⟨k49_, h⟩ := h
        obtain ⟨i50_, h⟩ := h
        refine q_ild X Y k49_ i50_ dX12_readThing_152 ?_
        refine lv_iconst (v := 1) hx hb dX12_readThing_153 (by decide) ?_
        refine lv_icmp_le (tgt := 166) hx hb dX12_readThing_154 (by decide) (fun c51_ => ?_) (fun c51_ => ?_)
        · replace h := h.1 c51_
          refine lv_iconst (v := 1) hx hb dX12_readThing_166 (by decide) ?_
          exact cb_X12_readThing_167 X Y (lv_sub hl [1, 0] rfl) h
        · replace h := h.2 c51_
          refine lv_aload_n hx hb dX12_readThing_157 rfl (lv_at hl 1 rfl) ?_
          refine q_getR X Y kX12 43 rfl fl_X12_85 k46_ e48_ dX12_readThing_158 ?_
          refine lv_iload_n hx hb dX12_readThing_161 rfl (lv_at hl 0 rfl) ?_
          obtain ⟨i52_, h⟩ := h
          refine q_ild X Y k49_ i52_ dX12_readThing_162 ?_
          refine lv_goto (tgt := 167) hx hb dX12_readThing_163 (by decide) ?_
          exact cb_X12_readThing_167 X Y (lv_sub hl [1, 0] rfl) h
      | 9, _, c119_ =>
        refine ⟨173, 192, rfl, by decide, ?_⟩
        replace h := h.2.2.2.2.1 (q_eqI c119_ (by decide))
        refine lv_aload_n hx hb dX12_readThing_192 rfl (lv_at hl 0 rfl) ?_
        refine lv_iload_n hx hb dX12_readThing_193 rfl (lv_at hl 1 rfl) ?_
        refine lv_iconst (v := 1) hx hb dX12_readThing_194 (by decide) ?_
        refine lv_bipush (v := 8) hx hb dX12_readThing_195 (by decide) ?_
        refine q_callV X Y hl (cm_X12_newThing h) mt_X12_newThing mi_X12_newThing ml_X12_388 (ci := 12) rfl k21_ (by decide) rfl rfl (by first | exact Nat.le_of_ble_eq_true rfl | simp [q_cat, q_catI, q_catJ, q_catR]) ⟨Nat.le_of_ble_eq_true rfl, Nat.le_of_ble_eq_true rfl⟩ ⟨Nat.le_of_ble_eq_true rfl, Nat.le_of_ble_eq_true rfl⟩ dX12_readThing_197 (fun r53_ S54_ H locs hp Y => ?_)
        obtain ⟨x55_, rfl, h⟩ := hp
        refine W.eq (g2 := F0 m 200 ls [.int x55_]) rfl ?_
        refine lv_pop hx hb dX12_readThing_200 rfl ?_
        refine lv_aload_n hx hb dX12_readThing_201 rfl (lv_at hl 0 rfl) ?_
        refine lv_bipush (v := 59) hx hb dX12_readThing_202 (by decide) ?_
        obtain ⟨k56_, h⟩ := h
        refine q_callV X Y hl (cm_X12_sign h) mt_X12_sign mi_X12_sign ml_X12_365 (ci := 12) rfl k56_ (by decide) rfl rfl (by first | exact Nat.le_of_ble_eq_true rfl | simp [q_cat, q_catI, q_catJ, q_catR]) ⟨Nat.le_of_ble_eq_true rfl, Nat.le_of_ble_eq_true rfl⟩ ⟨Nat.le_of_ble_eq_true rfl, Nat.le_of_ble_eq_true rfl⟩ dX12_readThing_204 (fun r57_ S58_ H locs hp Y => ?_)
        obtain ⟨x59_, rfl, h⟩ := hp
        refine W.eq (g2 := F0 m 207 ls [.int x59_]) rfl ?_
        refine lv_pop hx hb dX12_readThing_207 rfl ?_
        exact q_vret X Y (Nat.le_refl _) (Nat.le_refl _) h dX12_readThing_208
      | 10, _, c119_ =>
        refine ⟨190, 209, rfl, by decide, ?_⟩
        replace h := h.2.2.2.2.2.1 (q_eqI c119_ (by decide))
        refine lv_bipush (v := 8) hx hb dX12_readThing_209 (by decide) ?_
        refine lv_iload_n hx hb dX12_readThing_211 rfl (lv_at hl 1 rfl) ?_
        refine lv_imul hx hb dX12_readThing_212 ?_
        refine lv_aload_n hx hb dX12_readThing_213 rfl (lv_at hl 0 rfl) ?_
        refine lv_iload_n hx hb dX12_readThing_214 rfl (lv_at hl 1 rfl) ?_
        refine lv_iconst (v := 2) hx hb dX12_readThing_215 (by decide) ?_
        refine lv_bipush (v := 8) hx hb dX12_readThing_216 (by decide) ?_
        refine q_callV X Y hl (cm_X12_newThing h) mt_X12_newThing mi_X12_newThing ml_X12_388 (ci := 12) rfl k21_ (by decide) rfl rfl (by first | exact Nat.le_of_ble_eq_true rfl | simp [q_cat, q_catI, q_catJ, q_catR]) ⟨Nat.le_of_ble_eq_true rfl, Nat.le_of_ble_eq_true rfl⟩ ⟨Nat.le_of_ble_eq_true rfl, Nat.le_of_ble_eq_true rfl⟩ dX12_readThing_218 (fun r60_ S61_ H locs hp Y => ?_)
        obtain ⟨x62_, rfl, h⟩ := hp
        refine W.eq (g2 := F0 m 221 ls [.int x62_, .int ((8 : Int32) * x1)]) rfl ?_
        refine lv_iadd hx hb dX12_readThing_221 ?_
        refine lv_istore_n (i := 2) (lv' := [(2, .int (((8 : Int32) * x1) + x62_)), (0, .ref a0), (1, .int x1)]) hx hb dX12_readThing_222 rfl hl (by decide) (by first | rfl | simp [q_cat, q_catI, q_catJ, q_catR]) (fun ls hl => ?_)
        refine lv_aload_n hx hb dX12_readThing_223 rfl (lv_at hl 1 rfl) ?_
        obtain ⟨k63_, h⟩ := h
        refine q_getP X Y kX12 46 rfl fl_X12_94 k63_ rfl dX12_readThing_224 ?_
        refine lv_iload_n hx hb dX12_readThing_227 rfl (lv_at hl 0 rfl) ?_
        refine lv_aload_n hx hb dX12_readThing_228 rfl (lv_at hl 1 rfl) ?_
        refine lv_iconst (v := 1) hx hb dX12_readThing_229 (by decide) ?_
        refine lv_bipush (v := 16) hx hb dX12_readThing_230 (by decide) ?_
        refine lv_iconst (v := 1) hx hb dX12_readThing_232 (by decide) ?_
        refine q_callV X Y hl (cm_X12_number h) mt_X12_number mi_X12_number ml_X12_371 (ci := 12) rfl k63_ (by decide) rfl rfl (by first | exact Nat.le_of_ble_eq_true rfl | simp [q_cat, q_catI, q_catJ, q_catR]) ⟨Nat.le_of_ble_eq_true rfl, Nat.le_of_ble_eq_true rfl⟩ ⟨Nat.le_of_ble_eq_true rfl, Nat.le_of_ble_eq_true rfl⟩ dX12_readThing_233 (fun r64_ S65_ H locs hp Y => ?_)
        obtain ⟨x66_, rfl, h⟩ := hp
        refine W.eq (g2 := F0 m 236 ls [.int x66_, .int (((8 : Int32) * x1) + x62_), va_rf (q_P S61_ 2446 a0)]) rfl ?_
        obtain ⟨a67_, e68_, h⟩ := h
        refine q_nn [.int x66_, .int (((8 : Int32) * x1) + x62_)] e68_ ?_
        obtain ⟨k69_, h⟩ := h
        obtain ⟨i70_, h⟩ := h
        refine q_ist X Y k69_ i70_ dX12_readThing_236 (fun H locs Y => ?_)
        refine lv_aload_n hx hb dX12_readThing_237 rfl (lv_at hl 1 rfl) ?_
        obtain ⟨k71_, h⟩ := h
        refine q_getP X Y kX12 47 rfl fl_X12_97 k71_ rfl dX12_readThing_238 ?_
        refine lv_iload_n hx hb dX12_readThing_241 rfl (lv_at hl 0 rfl) ?_
        refine lv_aload_n hx hb dX12_readThing_242 rfl (lv_at hl 1 rfl) ?_
        refine q_callV X Y hl (cm_X12_isFifo h) mt_X12_isFifo mi_X12_isFifo ml_X12_391 (ci := 12) rfl k71_ (by decide) rfl rfl (by first | exact Nat.le_of_ble_eq_true rfl | simp [q_cat, q_catI, q_catJ, q_catR]) ⟨Nat.le_of_ble_eq_true rfl, Nat.le_of_ble_eq_true rfl⟩ ⟨Nat.le_of_ble_eq_true rfl, Nat.le_of_ble_eq_true rfl⟩ dX12_readThing_243 (fun r72_ S73_ H locs hp Y => ?_)
        obtain ⟨x74_, rfl, h⟩ := hp
        refine W.eq (g2 := F0 m 246 ls [.int x74_, .int (((8 : Int32) * x1) + x62_), va_rf (q_P (qs_A S65_ a67_ (((8 : Int32) * x1) + x62_).toNatClampNeg x66_) 2447 a0)]) rfl ?_
        obtain ⟨a75_, e76_, h⟩ := h
        refine q_nn [.int x74_, .int (((8 : Int32) * x1) + x62_)] e76_ ?_
        obtain ⟨k77_, h⟩ := h
        obtain ⟨i78_, h⟩ := h
        refine q_zst X Y k77_ i78_ dX12_readThing_246 (fun H locs Y => ?_)
        refine lv_aload_n hx hb dX12_readThing_247 rfl (lv_at hl 1 rfl) ?_
        refine lv_bipush (v := 59) hx hb dX12_readThing_248 (by decide) ?_
        obtain ⟨k79_, h⟩ := h
        refine q_callV X Y hl (cm_X12_sign h) mt_X12_sign mi_X12_sign ml_X12_365 (ci := 12) rfl k79_ (by decide) rfl rfl (by first | exact Nat.le_of_ble_eq_true rfl | simp [q_cat, q_catI, q_catJ, q_catR]) ⟨Nat.le_of_ble_eq_true rfl, Nat.le_of_ble_eq_true rfl⟩ ⟨Nat.le_of_ble_eq_true rfl, Nat.le_of_ble_eq_true rfl⟩ dX12_readThing_250 (fun r80_ S81_ H locs hp Y => ?_)
        obtain ⟨x82_, rfl, h⟩ := hp
        refine W.eq (g2 := F0 m 253 ls [.int x82_]) rfl ?_
        refine lv_pop hx hb dX12_readThing_253 rfl ?_
        exact q_vret X Y (Nat.le_refl _) (Nat.le_refl _) h dX12_readThing_254
      | 11, _, c119_ =>
        refine ⟨316, 335, rfl, by decide, ?_⟩
        replace h := h.2.2.1 (Or.inr (Or.inr (Or.inr (Or.inr (Or.inr (Or.inr (Or.inr (Or.inl (q_eqI c119_ (by decide))))))))))
        refine lv_aload_n hx hb dX12_readThing_335 rfl (lv_at hl 0 rfl) ?_
        refine lv_iconst (v := 1) hx hb dX12_readThing_336 (by decide) ?_
        refine q_callV X Y hl (cm_X12_failHere h) mt_X12_failHere mi_X12_failHere ml_X12_338 (ci := 12) rfl k21_ (by decide) rfl rfl (by first | exact Nat.le_of_ble_eq_true rfl | simp [q_cat, q_catI, q_catJ, q_catR]) ⟨Nat.le_of_ble_eq_true rfl, Nat.le_of_ble_eq_true rfl⟩ ⟨Nat.le_of_ble_eq_true rfl, Nat.le_of_ble_eq_true rfl⟩ dX12_readThing_337 (fun r28_ S29_ H locs hp Y => ?_)
        obtain ⟨x30_, rfl, h⟩ := hp
        refine W.eq (g2 := F0 m 340 ls [.int x30_]) rfl ?_
        refine lv_pop hx hb dX12_readThing_340 rfl ?_
        exact q_vret X Y (Nat.le_refl _) (Nat.le_refl _) h dX12_readThing_341
      | 12, _, c119_ =>
        refine ⟨236, 255, rfl, by decide, ?_⟩
        replace h := h.2.2.2.2.2.2.1 (q_eqI c119_ (by decide))
        refine lv_aload_n hx hb dX12_readThing_255 rfl (lv_at hl 0 rfl) ?_
        refine lv_iload_n hx hb dX12_readThing_256 rfl (lv_at hl 1 rfl) ?_
        refine lv_iconst (v := 3) hx hb dX12_readThing_257 (by decide) ?_
        refine lv_bipush (v := 8) hx hb dX12_readThing_258 (by decide) ?_
        refine q_callV X Y hl (cm_X12_newThing h) mt_X12_newThing mi_X12_newThing ml_X12_388 (ci := 12) rfl k21_ (by decide) rfl rfl (by first | exact Nat.le_of_ble_eq_true rfl | simp [q_cat, q_catI, q_catJ, q_catR]) ⟨Nat.le_of_ble_eq_true rfl, Nat.le_of_ble_eq_true rfl⟩ ⟨Nat.le_of_ble_eq_true rfl, Nat.le_of_ble_eq_true rfl⟩ dX12_readThing_260 (fun r83_ S84_ H locs hp Y => ?_)
        obtain ⟨x85_, rfl, h⟩ := hp
        refine W.eq (g2 := F0 m 263 ls [.int x85_]) rfl ?_
        refine lv_pop hx hb dX12_readThing_263 rfl ?_
        refine lv_aload_n hx hb dX12_readThing_264 rfl (lv_at hl 0 rfl) ?_
        refine lv_bipush (v := 59) hx hb dX12_readThing_265 (by decide) ?_
        obtain ⟨k86_, h⟩ := h
        refine q_callV X Y hl (cm_X12_sign h) mt_X12_sign mi_X12_sign ml_X12_365 (ci := 12) rfl k86_ (by decide) rfl rfl (by first | exact Nat.le_of_ble_eq_true rfl | simp [q_cat, q_catI, q_catJ, q_catR]) ⟨Nat.le_of_ble_eq_true rfl, Nat.le_of_ble_eq_true rfl⟩ ⟨Nat.le_of_ble_eq_true rfl, Nat.le_of_ble_eq_true rfl⟩ dX12_readThing_267 (fun r87_ S88_ H locs hp Y => ?_)
        obtain ⟨x89_, rfl, h⟩ := hp
        refine W.eq (g2 := F0 m 270 ls [.int x89_]) rfl ?_
        refine lv_pop hx hb dX12_readThing_270 rfl ?_
        exact q_vret X Y (Nat.le_refl _) (Nat.le_refl _) h dX12_readThing_271
      | 13, _, c119_ =>
        refine ⟨253, 272, rfl, by decide, ?_⟩
        replace h := h.2.2.2.2.2.2.2.1 (q_eqI c119_ (by decide))
        refine lv_bipush (v := 16) hx hb dX12_readThing_272 (by decide) ?_
        refine lv_iload_n hx hb dX12_readThing_274 rfl (lv_at hl 1 rfl) ?_
        refine lv_imul hx hb dX12_readThing_275 ?_
        refine lv_aload_n hx hb dX12_readThing_276 rfl (lv_at hl 0 rfl) ?_
        refine lv_iload_n hx hb dX12_readThing_277 rfl (lv_at hl 1 rfl) ?_
        refine lv_iconst (v := 4) hx hb dX12_readThing_278 (by decide) ?_
        refine lv_bipush (v := 16) hx hb dX12_readThing_279 (by decide) ?_
        refine q_callV X Y hl (cm_X12_newThing h) mt_X12_newThing mi_X12_newThing ml_X12_388 (ci := 12) rfl k21_ (by decide) rfl rfl (by first | exact Nat.le_of_ble_eq_true rfl | simp [q_cat, q_catI, q_catJ, q_catR]) ⟨Nat.le_of_ble_eq_true rfl, Nat.le_of_ble_eq_true rfl⟩ ⟨Nat.le_of_ble_eq_true rfl, Nat.le_of_ble_eq_true rfl⟩ dX12_readThing_281 (fun r90_ S91_ H locs hp Y => ?_)
        obtain ⟨x92_, rfl, h⟩ := hp
        refine W.eq (g2 := F0 m 284 ls [.int x92_, .int ((16 : Int32) * x1)]) rfl ?_
        refine lv_iadd hx hb dX12_readThing_284 ?_
        refine lv_istore_n (i := 2) (lv' := [(2, .int (((16 : Int32) * x1) + x92_)), (0, .ref a0), (1, .int x1)]) hx hb dX12_readThing_285 rfl hl (by decide) (by first | rfl | simp [q_cat, q_catI, q_catJ, q_catR]) (fun ls hl => ?_)
        refine lv_aload_n hx hb dX12_readThing_286 rfl (lv_at hl 1 rfl) ?_
        obtain ⟨k93_, h⟩ := h
        refine q_getP X Y kX12 48 rfl fl_X12_100 k93_ rfl dX12_readThing_287 ?_
        refine lv_iload_n hx hb dX12_readThing_290 rfl (lv_at hl 0 rfl) ?_
        refine lv_aload_n hx hb dX12_readThing_291 rfl (lv_at hl 1 rfl) ?_
        refine lv_bipush (v := 21) hx hb dX12_readThing_292 (by decide) ?_
        refine lv_bipush (v := 22) hx hb dX12_readThing_294 (by decide) ?_
        refine q_callV X Y hl (cm_X12_either h) mt_X12_either mi_X12_either ml_X12_395 (ci := 12) rfl k93_ (by decide) rfl rfl (by first | exact Nat.le_of_ble_eq_true rfl | simp [q_cat, q_catI, q_catJ, q_catR]) ⟨Nat.le_of_ble_eq_true rfl, Nat.le_of_ble_eq_true rfl⟩ ⟨Nat.le_of_ble_eq_true rfl, Nat.le_of_ble_eq_true rfl⟩ dX12_readThing_296 (fun r94_ S95_ H locs hp Y => ?_)
        obtain ⟨x96_, rfl, h⟩ := hp
        refine W.eq (g2 := F0 m 299 ls [.int x96_, .int (((16 : Int32) * x1) + x92_), va_rf (q_P S91_ 2448 a0)]) rfl ?_
        obtain ⟨a97_, e98_, h⟩ := h
        refine q_nn [.int x96_, .int (((16 : Int32) * x1) + x92_)] e98_ ?_
        obtain ⟨k99_, h⟩ := h
        obtain ⟨i100_, h⟩ := h
        refine q_zst X Y k99_ i100_ dX12_readThing_299 (fun H locs Y => ?_)
        refine lv_aload_n hx hb dX12_readThing_300 rfl (lv_at hl 1 rfl) ?_
        obtain ⟨k101_, h⟩ := h
        refine q_getP X Y kX12 49 rfl fl_X12_103 k101_ rfl dX12_readThing_301 ?_
        refine lv_iload_n hx hb dX12_readThing_304 rfl (lv_at hl 0 rfl) ?_
        refine lv_aload_n hx hb dX12_readThing_305 rfl (lv_at hl 1 rfl) ?_
        refine lv_bipush (v := 25) hx hb dX12_readThing_306 (by decide) ?_
        refine lv_bipush (v := 26) hx hb dX12_readThing_308 (by decide) ?_
        refine q_callV X Y hl (cm_X12_either h) mt_X12_either mi_X12_either ml_X12_395 (ci := 12) rfl k101_ (by decide) rfl rfl (by first | exact Nat.le_of_ble_eq_true rfl | simp [q_cat, q_catI, q_catJ, q_catR]) ⟨Nat.le_of_ble_eq_true rfl, Nat.le_of_ble_eq_true rfl⟩ ⟨Nat.le_of_ble_eq_true rfl, Nat.le_of_ble_eq_true rfl⟩ dX12_readThing_310 (fun r102_ S103_ H locs hp Y => ?_)
        obtain ⟨x104_, rfl, h⟩ := hp
        refine W.eq (g2 := F0 m 313 ls [.int x104_, .int (((16 : Int32) * x1) + x92_), va_rf (q_P (qs_A S95_ a97_ (((16 : Int32) * x1) + x92_).toNatClampNeg (vp_nar .boolean x96_)) 2449 a0)]) rfl ?_
        obtain ⟨a105_, e106_, h⟩ := h
        refine q_nn [.int x104_, .int (((16 : Int32) * x1) + x92_)] e106_ ?_
        obtain ⟨k107_, h⟩ := h
        obtain ⟨i108_, h⟩ := h
        refine q_zst X Y k107_ i108_ dX12_readThing_313 (fun H locs Y => ?_)
        refine lv_aload_n hx hb dX12_readThing_314 rfl (lv_at hl 1 rfl) ?_
        obtain ⟨k109_, h⟩ := h
        refine q_getP X Y kX12 50 rfl fl_X12_106 k109_ rfl dX12_readThing_315 ?_
        refine lv_iload_n hx hb dX12_readThing_318 rfl (lv_at hl 0 rfl) ?_
        refine lv_iconst (v := (-1)) hx hb dX12_readThing_319 (by decide) ?_
        obtain ⟨a110_, e111_, h⟩ := h
        refine q_nn [.int (-1 : Int32), .int (((16 : Int32) * x1) + x92_)] e111_ ?_
        obtain ⟨k112_, h⟩ := h
        obtain ⟨i113_, h⟩ := h
        refine q_ist X Y k112_ i113_ dX12_readThing_320 (fun H locs Y => ?_)
        refine lv_aload_n hx hb dX12_readThing_321 rfl (lv_at hl 1 rfl) ?_
        refine lv_bipush (v := 59) hx hb dX12_readThing_322 (by decide) ?_
        refine q_callV X Y hl (cm_X12_sign h) mt_X12_sign mi_X12_sign ml_X12_365 (ci := 12) rfl k109_ (by decide) rfl rfl (by first | exact Nat.le_of_ble_eq_true rfl | simp [q_cat, q_catI, q_catJ, q_catR]) ⟨Nat.le_of_ble_eq_true rfl, Nat.le_of_ble_eq_true rfl⟩ ⟨Nat.le_of_ble_eq_true rfl, Nat.le_of_ble_eq_true rfl⟩ dX12_readThing_324 (fun r114_ S115_ H locs hp Y => ?_)
        obtain ⟨x116_, rfl, h⟩ := hp
        refine W.eq (g2 := F0 m 327 ls [.int x116_]) rfl ?_
        refine lv_pop hx hb dX12_readThing_327 rfl ?_
        exact q_vret X Y (Nat.le_refl _) (Nat.le_refl _) h dX12_readThing_328
      | 14, _, c119_ =>
        refine ⟨316, 335, rfl, by decide, ?_⟩
        replace h := h.2.2.1 (Or.inr (Or.inr (Or.inr (Or.inr (Or.inr (Or.inr (Or.inr (Or.inr (Or.inl (q_eqI c119_ (by decide)))))))))))
        refine lv_aload_n hx hb dX12_readThing_335 rfl (lv_at hl 0 rfl) ?_
        refine lv_iconst (v := 1) hx hb dX12_readThing_336 (by decide) ?_
        refine q_callV X Y hl (cm_X12_failHere h) mt_X12_failHere mi_X12_failHere ml_X12_338 (ci := 12) rfl k21_ (by decide) rfl rfl (by first | exact Nat.le_of_ble_eq_true rfl | simp [q_cat, q_catI, q_catJ, q_catR]) ⟨Nat.le_of_ble_eq_true rfl, Nat.le_of_ble_eq_true rfl⟩ ⟨Nat.le_of_ble_eq_true rfl, Nat.le_of_ble_eq_true rfl⟩ dX12_readThing_337 (fun r28_ S29_ H locs hp Y => ?_)
        obtain ⟨x30_, rfl, h⟩ := hp
        refine W.eq (g2 := F0 m 340 ls [.int x30_]) rfl ?_
        refine lv_pop hx hb dX12_readThing_340 rfl ?_
        exact q_vret X Y (Nat.le_refl _) (Nat.le_refl _) h dX12_readThing_341
      | 15, _, c119_ =>
        refine ⟨316, 335, rfl, by decide, ?_⟩
        replace h := h.2.2.1 (Or.inr (Or.inr (Or.inr (Or.inr (Or.inr (Or.inr (Or.inr (Or.inr (Or.inr (q_eqI c119_ (by decide)))))))))))
        refine lv_aload_n hx hb dX12_readThing_335 rfl (lv_at hl 0 rfl) ?_
        refine lv_iconst (v := 1) hx hb dX12_readThing_336 (by decide) ?_
        refine q_callV X Y hl (cm_X12_failHere h) mt_X12_failHere mi_X12_failHere ml_X12_338 (ci := 12) rfl k21_ (by decide) rfl rfl (by first | exact Nat.le_of_ble_eq_true rfl | simp [q_cat, q_catI, q_catJ, q_catR]) ⟨Nat.le_of_ble_eq_true rfl, Nat.le_of_ble_eq_true rfl⟩ ⟨Nat.le_of_ble_eq_true rfl, Nat.le_of_ble_eq_true rfl⟩ dX12_readThing_337 (fun r28_ S29_ H locs hp Y => ?_)
        obtain ⟨x30_, rfl, h⟩ := hp
        refine W.eq (g2 := F0 m 340 ls [.int x30_]) rfl ?_
        refine lv_pop hx hb dX12_readThing_340 rfl ?_
        exact q_vret X Y (Nat.le_refl _) (Nat.le_refl _) h dX12_readThing_341
      | 16, _, c119_ =>
        refine ⟨310, 329, rfl, by decide, ?_⟩
        replace h := h.2.2.2.2.2.2.2.2 (q_eqI c119_ (by decide))
        refine lv_aload_n hx hb dX12_readThing_329 rfl (lv_at hl 0 rfl) ?_
        refine lv_iload_n hx hb dX12_readThing_330 rfl (lv_at hl 1 rfl) ?_
        refine q_callV X Y hl (cm_X12_readErrors h) mt_X12_readErrors mi_X12_readErrors ml_X12_398 (ci := 12) rfl k21_ (by decide) rfl rfl (by first | exact Nat.le_of_ble_eq_true rfl | simp [q_cat, q_catI, q_catJ, q_catR]) ⟨Nat.le_of_ble_eq_true rfl, Nat.le_of_ble_eq_true rfl⟩ ⟨Nat.le_of_ble_eq_true rfl, Nat.le_of_ble_eq_true rfl⟩ dX12_readThing_331 (fun r117_ S118_ H locs hp Y => ?_)
        obtain ⟨rfl, h⟩ := hp
        refine W.eq (g2 := F0 m 334 ls []) rfl ?_
        exact q_vret X Y (Nat.le_refl _) (Nat.le_refl _) h dX12_readThing_334
      | z_ + 17, hj_, _ => exact absurd hj_ (by simp)
  · replace h := h.2 c22_
    refine lv_aload_n hx hb dX12_readThing_8 rfl (lv_at hl 0 rfl) ?_
    refine lv_iconst (v := 1) hx hb dX12_readThing_9 (by decide) ?_
    refine q_callV X Y hl (cm_X12_failHere h) mt_X12_failHere mi_X12_failHere ml_X12_338 (ci := 12) rfl k21_ (by decide) rfl rfl (by first | exact Nat.le_of_ble_eq_true rfl | simp [q_cat, q_catI, q_catJ, q_catR]) ⟨Nat.le_of_ble_eq_true rfl, Nat.le_of_ble_eq_true rfl⟩ ⟨Nat.le_of_ble_eq_true rfl, Nat.le_of_ble_eq_true rfl⟩ dX12_readThing_10 (fun r121_ S122_ H locs hp Y => ?_)
    obtain ⟨x123_, rfl, h⟩ := hp
    refine W.eq (g2 := F0 m 13 ls [.int x123_]) rfl ?_
    refine lv_pop hx hb dX12_readThing_13 rfl ?_
    exact q_vret X Y (Nat.le_refl _) (Nat.le_refl _) h dX12_readThing_14
-- X12_readPartition
theorem ml_X12_382 : Cond.methodLink RX12 382 yX12_readThing ∈ q_G := q_tb (i := 2169) (by decide +kernel) (by decide +kernel)
theorem mt_X12_readThing : q_Mt yX12_readThing cX12_readThing 3 none 1 := ⟨q_tb (i := 2172) (by decide +kernel) (by decide +kernel), q_tb (i := 11) (by decide +kernel) (by decide +kernel), by decide +kernel, by decide +kernel, by decide +kernel⟩
theorem mi_X12_readThing : Cond.instanceMethod yX12_readThing ∈ q_G ∧ Cond.selects yX12_readThing.cls yX12_readThing yX12_readThing ∈ q_G := ⟨q_tb (i := 2171) (by decide +kernel) (by decide +kernel), q_tp (i := 104) (q := (yX12_readThing, 114)) (by decide +kernel) (by decide +kernel)⟩
theorem ml_X12_362 : Cond.methodLink RX12 362 yX12_partitionNamed ∈ q_G := q_tb (i := 2137) (by decide +kernel) (by decide +kernel)
theorem mt_X12_partitionNamed : q_Mt yX12_partitionNamed cX12_partitionNamed 2 (some .int) 0 := ⟨q_tb (i := 2140) (by decide +kernel) (by decide +kernel), q_tb (i := 11) (by decide +kernel) (by decide +kernel), by decide +kernel, by decide +kernel, by decide +kernel⟩
theorem mi_X12_partitionNamed : Cond.instanceMethod yX12_partitionNamed ∈ q_G ∧ Cond.selects yX12_partitionNamed.cls yX12_partitionNamed yX12_partitionNamed ∈ q_G := ⟨q_tb (i := 2139) (by decide +kernel) (by decide +kernel), q_tp (i := 96) (q := (yX12_partitionNamed, 114)) (by decide +kernel) (by decide +kernel)⟩
theorem ml_X12_375 : Cond.methodLink RX12 375 yX12_readRegions ∈ q_G := q_tb (i := 2165) (by decide +kernel) (by decide +kernel)
theorem mt_X12_readRegions : q_Mt yX12_readRegions cX12_readRegions 6 none 1 := ⟨q_tb (i := 2168) (by decide +kernel) (by decide +kernel), q_tb (i := 11) (by decide +kernel) (by decide +kernel), by decide +kernel, by decide +kernel, by decide +kernel⟩
theorem mi_X12_readRegions : Cond.instanceMethod yX12_readRegions ∈ q_G ∧ Cond.selects yX12_readRegions.cls yX12_readRegions yX12_readRegions ∈ q_G := ⟨q_tb (i := 2167) (by decide +kernel) (by decide +kernel), q_tp (i := 103) (q := (yX12_readRegions, 114)) (by decide +kernel) (by decide +kernel)⟩
theorem dX12_readPartition_0 : decode cX12_readPartition 0 = .ok (.aload_n 0, 1) := by decide +kernel
theorem dX12_readPartition_1 : decode cX12_readPartition 1 = .ok (.invokevirtual 341, 3) := by decide +kernel
theorem dX12_readPartition_4 : decode cX12_readPartition 4 = .ok (.aload_n 0, 1) := by decide +kernel
theorem dX12_readPartition_5 : decode cX12_readPartition 5 = .ok (.getfield 350, 3) := by decide +kernel
theorem dX12_readPartition_8 : decode cX12_readPartition 8 = .ok (.bipush 16, 2) := by decide +kernel
theorem dX12_readPartition_10 : decode cX12_readPartition 10 = .ok (.if_icmp .ne 10, 3) := by decide +kernel
theorem dX12_readPartition_13 : decode cX12_readPartition 13 = .ok (.aload_n 0, 1) := by decide +kernel
theorem dX12_readPartition_14 : decode cX12_readPartition 14 = .ok (.iconst 4, 1) := by decide +kernel
theorem dX12_readPartition_15 : decode cX12_readPartition 15 = .ok (.invokevirtual 338, 3) := by decide +kernel
theorem dX12_readPartition_18 : decode cX12_readPartition 18 = .ok (.pop, 1) := by decide +kernel
theorem dX12_readPartition_19 : decode cX12_readPartition 19 = .ok (.return_, 1) := by decide +kernel
theorem dX12_readPartition_20 : decode cX12_readPartition 20 = .ok (.aload_n 0, 1) := by decide +kernel
theorem dX12_readPartition_21 : decode cX12_readPartition 21 = .ok (.getfield 297, 3) := by decide +kernel
theorem dX12_readPartition_24 : decode cX12_readPartition 24 = .ok (.iconst 1, 1) := by decide +kernel
theorem dX12_readPartition_25 : decode cX12_readPartition 25 = .ok (.if_icmp .eq 10, 3) := by decide +kernel
theorem dX12_readPartition_28 : decode cX12_readPartition 28 = .ok (.aload_n 0, 1) := by decide +kernel
theorem dX12_readPartition_29 : decode cX12_readPartition 29 = .ok (.iconst 1, 1) := by decide +kernel
theorem dX12_readPartition_30 : decode cX12_readPartition 30 = .ok (.invokevirtual 338, 3) := by decide +kernel
theorem dX12_readPartition_33 : decode cX12_readPartition 33 = .ok (.pop, 1) := by decide +kernel
theorem dX12_readPartition_34 : decode cX12_readPartition 34 = .ok (.return_, 1) := by decide +kernel
theorem dX12_readPartition_35 : decode cX12_readPartition 35 = .ok (.aload_n 0, 1) := by decide +kernel
theorem dX12_readPartition_36 : decode cX12_readPartition 36 = .ok (.invokevirtual 362, 3) := by decide +kernel
theorem dX12_readPartition_39 : decode cX12_readPartition 39 = .ok (.iconst (-1), 1) := by decide +kernel
theorem dX12_readPartition_40 : decode cX12_readPartition 40 = .ok (.if_icmp .eq 14, 3) := by decide +kernel
theorem dX12_readPartition_43 : decode cX12_readPartition 43 = .ok (.aload_n 0, 1) := by decide +kernel
theorem dX12_readPartition_44 : decode cX12_readPartition 44 = .ok (.iconst 3, 1) := by decide +kernel
theorem dX12_readPartition_45 : decode cX12_readPartition 45 = .ok (.aload_n 0, 1) := by decide +kernel
theorem dX12_readPartition_46 : decode cX12_readPartition 46 = .ok (.getfield 287, 3) := by decide +kernel
theorem dX12_readPartition_49 : decode cX12_readPartition 49 = .ok (.invokevirtual 331, 3) := by decide +kernel
theorem dX12_readPartition_52 : decode cX12_readPartition 52 = .ok (.pop, 1) := by decide +kernel
theorem dX12_readPartition_53 : decode cX12_readPartition 53 = .ok (.return_, 1) := by decide +kernel
theorem dX12_readPartition_54 : decode cX12_readPartition 54 = .ok (.aload_n 0, 1) := by decide +kernel
theorem dX12_readPartition_55 : decode cX12_readPartition 55 = .ok (.getfield 350, 3) := by decide +kernel
theorem dX12_readPartition_58 : decode cX12_readPartition 58 = .ok (.istore_n 1, 1) := by decide +kernel
theorem dX12_readPartition_59 : decode cX12_readPartition 59 = .ok (.aload_n 0, 1) := by decide +kernel
theorem dX12_readPartition_60 : decode cX12_readPartition 60 = .ok (.getfield 23, 3) := by decide +kernel
theorem dX12_readPartition_63 : decode cX12_readPartition 63 = .ok (.iload_n 1, 1) := by decide +kernel
theorem dX12_readPartition_64 : decode cX12_readPartition 64 = .ok (.aload_n 0, 1) := by decide +kernel
theorem dX12_readPartition_65 : decode cX12_readPartition 65 = .ok (.invokevirtual 359, 3) := by decide +kernel
theorem dX12_readPartition_68 : decode cX12_readPartition 68 = .ok (.iastore, 1) := by decide +kernel
theorem dX12_readPartition_69 : decode cX12_readPartition 69 = .ok (.aload_n 0, 1) := by decide +kernel
theorem dX12_readPartition_70 : decode cX12_readPartition 70 = .ok (.getfield 27, 3) := by decide +kernel
theorem dX12_readPartition_73 : decode cX12_readPartition 73 = .ok (.iload_n 1, 1) := by decide +kernel
theorem dX12_readPartition_74 : decode cX12_readPartition 74 = .ok (.aload_n 0, 1) := by decide +kernel
theorem dX12_readPartition_75 : decode cX12_readPartition 75 = .ok (.getfield 307, 3) := by decide +kernel
theorem dX12_readPartition_78 : decode cX12_readPartition 78 = .ok (.iastore, 1) := by decide +kernel
theorem dX12_readPartition_79 : decode cX12_readPartition 79 = .ok (.aload_n 0, 1) := by decide +kernel
theorem dX12_readPartition_80 : decode cX12_readPartition 80 = .ok (.dup, 1) := by decide +kernel
theorem dX12_readPartition_81 : decode cX12_readPartition 81 = .ok (.getfield 350, 3) := by decide +kernel
theorem dX12_readPartition_84 : decode cX12_readPartition 84 = .ok (.iconst 1, 1) := by decide +kernel
theorem dX12_readPartition_85 : decode cX12_readPartition 85 = .ok (.iadd, 1) := by decide +kernel
theorem dX12_readPartition_86 : decode cX12_readPartition 86 = .ok (.putfield 350, 3) := by decide +kernel
theorem dX12_readPartition_89 : decode cX12_readPartition 89 = .ok (.aload_n 0, 1) := by decide +kernel
theorem dX12_readPartition_90 : decode cX12_readPartition 90 = .ok (.invokevirtual 341, 3) := by decide +kernel
theorem dX12_readPartition_93 : decode cX12_readPartition 93 = .ok (.aload_n 0, 1) := by decide +kernel
theorem dX12_readPartition_94 : decode cX12_readPartition 94 = .ok (.bipush 123, 2) := by decide +kernel
theorem dX12_readPartition_96 : decode cX12_readPartition 96 = .ok (.invokevirtual 365, 3) := by decide +kernel
theorem dX12_readPartition_99 : decode cX12_readPartition 99 = .ok (.pop, 1) := by decide +kernel
theorem dX12_readPartition_100 : decode cX12_readPartition 100 = .ok (.aload_n 0, 1) := by decide +kernel
theorem dX12_readPartition_101 : decode cX12_readPartition 101 = .ok (.iconst 1, 1) := by decide +kernel
theorem dX12_readPartition_102 : decode cX12_readPartition 102 = .ok (.invokevirtual 368, 3) := by decide +kernel
theorem dX12_readPartition_105 : decode cX12_readPartition 105 = .ok (.pop, 1) := by decide +kernel
theorem dX12_readPartition_106 : decode cX12_readPartition 106 = .ok (.aload_n 0, 1) := by decide +kernel
theorem dX12_readPartition_107 : decode cX12_readPartition 107 = .ok (.getfield 30, 3) := by decide +kernel
theorem dX12_readPartition_110 : decode cX12_readPartition 110 = .ok (.iload_n 1, 1) := by decide +kernel
theorem dX12_readPartition_111 : decode cX12_readPartition 111 = .ok (.aload_n 0, 1) := by decide +kernel
theorem dX12_readPartition_112 : decode cX12_readPartition 112 = .ok (.sipush 256, 3) := by decide +kernel
theorem dX12_readPartition_115 : decode cX12_readPartition 115 = .ok (.sipush 8192, 3) := by decide +kernel
theorem dX12_readPartition_118 : decode cX12_readPartition 118 = .ok (.sipush 256, 3) := by decide +kernel
theorem dX12_readPartition_121 : decode cX12_readPartition 121 = .ok (.invokevirtual 371, 3) := by decide +kernel
theorem dX12_readPartition_124 : decode cX12_readPartition 124 = .ok (.iastore, 1) := by decide +kernel
theorem dX12_readPartition_125 : decode cX12_readPartition 125 = .ok (.aload_n 0, 1) := by decide +kernel
theorem dX12_readPartition_126 : decode cX12_readPartition 126 = .ok (.bipush 59, 2) := by decide +kernel
theorem dX12_readPartition_128 : decode cX12_readPartition 128 = .ok (.invokevirtual 365, 3) := by decide +kernel
theorem dX12_readPartition_131 : decode cX12_readPartition 131 = .ok (.pop, 1) := by decide +kernel
theorem dX12_readPartition_132 : decode cX12_readPartition 132 = .ok (.aload_n 0, 1) := by decide +kernel
theorem dX12_readPartition_133 : decode cX12_readPartition 133 = .ok (.getfield 328, 3) := by decide +kernel
theorem dX12_readPartition_136 : decode cX12_readPartition 136 = .ok (.ifCond .le 4, 3) := by decide +kernel
theorem dX12_readPartition_139 : decode cX12_readPartition 139 = .ok (.return_, 1) := by decide +kernel
theorem dX12_readPartition_140 : decode cX12_readPartition 140 = .ok (.aload_n 0, 1) := by decide +kernel
theorem dX12_readPartition_141 : decode cX12_readPartition 141 = .ok (.iload_n 1, 1) := by decide +kernel
theorem dX12_readPartition_142 : decode cX12_readPartition 142 = .ok (.invokevirtual 375, 3) := by decide +kernel
theorem dX12_readPartition_145 : decode cX12_readPartition 145 = .ok (.aload_n 0, 1) := by decide +kernel
theorem dX12_readPartition_146 : decode cX12_readPartition 146 = .ok (.iconst (-1), 1) := by decide +kernel
theorem dX12_readPartition_147 : decode cX12_readPartition 147 = .ok (.putfield 379, 3) := by decide +kernel
theorem dX12_readPartition_150 : decode cX12_readPartition 150 = .ok (.aload_n 0, 1) := by decide +kernel
theorem dX12_readPartition_151 : decode cX12_readPartition 151 = .ok (.getfield 328, 3) := by decide +kernel
theorem dX12_readPartition_154 : decode cX12_readPartition 154 = .ok (.ifCond .ne 20, 3) := by decide +kernel
theorem dX12_readPartition_157 : decode cX12_readPartition 157 = .ok (.aload_n 0, 1) := by decide +kernel
theorem dX12_readPartition_158 : decode cX12_readPartition 158 = .ok (.bipush 125, 2) := by decide +kernel
theorem dX12_readPartition_160 : decode cX12_readPartition 160 = .ok (.invokevirtual 335, 3) := by decide +kernel
theorem dX12_readPartition_163 : decode cX12_readPartition 163 = .ok (.ifCond .ne 11, 3) := by decide +kernel
theorem dX12_readPartition_166 : decode cX12_readPartition 166 = .ok (.aload_n 0, 1) := by decide +kernel
theorem dX12_readPartition_167 : decode cX12_readPartition 167 = .ok (.iload_n 1, 1) := by decide +kernel
theorem dX12_readPartition_168 : decode cX12_readPartition 168 = .ok (.invokevirtual 382, 3) := by decide +kernel
theorem dX12_readPartition_171 : decode cX12_readPartition 171 = .ok (.goto (-21), 3) := by decide +kernel
theorem dX12_readPartition_174 : decode cX12_readPartition 174 = .ok (.aload_n 0, 1) := by decide +kernel
theorem dX12_readPartition_175 : decode cX12_readPartition 175 = .ok (.getfield 328, 3) := by decide +kernel
theorem dX12_readPartition_178 : decode cX12_readPartition 178 = .ok (.ifCond .ne 32, 3) := by decide +kernel
theorem dX12_readPartition_181 : decode cX12_readPartition 181 = .ok (.aload_n 0, 1) := by decide +kernel
theorem dX12_readPartition_182 : decode cX12_readPartition 182 = .ok (.getfield 379, 3) := by decide +kernel
theorem dX12_readPartition_185 : decode cX12_readPartition 185 = .ok (.iconst (-1), 1) := by decide +kernel
theorem dX12_readPartition_186 : decode cX12_readPartition 186 = .ok (.if_icmp .eq 24, 3) := by decide +kernel
theorem dX12_readPartition_189 : decode cX12_readPartition 189 = .ok (.aload_n 0, 1) := by decide +kernel
theorem dX12_readPartition_190 : decode cX12_readPartition 190 = .ok (.getfield 82, 3) := by decide +kernel
theorem dX12_readPartition_193 : decode cX12_readPartition 193 = .ok (.iload_n 1, 1) := by decide +kernel
theorem dX12_readPartition_194 : decode cX12_readPartition 194 = .ok (.iaload, 1) := by decide +kernel
theorem dX12_readPartition_195 : decode cX12_readPartition 195 = .ok (.iconst (-1), 1) := by decide +kernel
theorem dX12_readPartition_196 : decode cX12_readPartition 196 = .ok (.if_icmp .ne 14, 3) := by decide +kernel
theorem dX12_readPartition_199 : decode cX12_readPartition 199 = .ok (.aload_n 0, 1) := by decide +kernel
theorem dX12_readPartition_200 : decode cX12_readPartition 200 = .ok (.bipush 7, 2) := by decide +kernel
theorem dX12_readPartition_202 : decode cX12_readPartition 202 = .ok (.aload_n 0, 1) := by decide +kernel
theorem dX12_readPartition_203 : decode cX12_readPartition 203 = .ok (.getfield 379, 3) := by decide +kernel
theorem dX12_readPartition_206 : decode cX12_readPartition 206 = .ok (.invokevirtual 331, 3) := by decide +kernel
theorem dX12_readPartition_209 : decode cX12_readPartition 209 = .ok (.pop, 1) := by decide +kernel
theorem dX12_readPartition_210 : decode cX12_readPartition 210 = .ok (.aload_n 0, 1) := by decide +kernel
theorem dX12_readPartition_211 : decode cX12_readPartition 211 = .ok (.bipush 125, 2) := by decide +kernel
theorem dX12_readPartition_213 : decode cX12_readPartition 213 = .ok (.invokevirtual 365, 3) := by decide +kernel
theorem dX12_readPartition_216 : decode cX12_readPartition 216 = .ok (.pop, 1) := by decide +kernel
theorem dX12_readPartition_217 : decode cX12_readPartition 217 = .ok (.return_, 1) := by decide +kernel
def wb_X12_readPartition_210  (S : q_S) (a0 : Nat) (Q : Option Value → q_S → Prop) : Prop := q_K S a0 = 13 ∧ (wm_X12_sign S a0 (125 : Int32) (fun r2_ S3_ => ∃ x4_ : Int32, r2_ = some (.int x4_) ∧ (Q none S3_)))
set_option maxHeartbeats 4000000 in
set_option maxRecDepth 100000 in
theorem cb_X12_readPartition_210 {p : Program} {l : Launch} {e : Env} {s : State} {m : MethodId} {args : Array Value} {below : List Frame} {meth : Method} {c : Code} {D : va_G} {cy : Nat → ClassId} {lo : Nat}  {S : q_S} {a0 : Nat} {Q : Option Value → q_S → Prop} {H : Heap} {locs : List Loc} {ls : Array Slot} (X : q_X p s m args meth c RX12 cX12_readPartition 2 none D cy lo)  (Y : q_Y D cy lo s S H locs) (hl : lv_has ls 2 [(0, .ref a0)]) (h : wb_X12_readPartition_210 S a0 Q) : W p l e ({ frames := 10, cells := 0, slots := 0, locals := 224 } : Room) s m args below meth c H locs 0 0 (MQ below (q_Q D cy lo Q) args s 0 0 (fun q => lo ≤ q)) (F0 m 210 ls []) := by
  have hx := X.1
  have hb := X.2.1
  unfold wb_X12_readPartition_210 at h
  refine lv_aload_n hx hb dX12_readPartition_210 rfl (lv_at hl 0 rfl) ?_
  refine lv_bipush (v := 125) hx hb dX12_readPartition_211 (by decide) ?_
  obtain ⟨k1_, h⟩ := h
  refine q_callV X Y hl (cm_X12_sign h) mt_X12_sign mi_X12_sign ml_X12_365 (ci := 12) rfl k1_ (by decide) rfl rfl (by first | exact Nat.le_of_ble_eq_true rfl | simp [q_cat, q_catI, q_catJ, q_catR]) ⟨Nat.le_of_ble_eq_true rfl, Nat.le_of_ble_eq_true rfl⟩ ⟨Nat.le_of_ble_eq_true rfl, Nat.le_of_ble_eq_true rfl⟩ dX12_readPartition_213 (fun r2_ S3_ H locs hp Y => ?_)
  obtain ⟨x4_, rfl, h⟩ := hp
  refine W.eq (g2 := F0 m 216 ls [.int x4_]) rfl ?_
  refine lv_pop hx hb dX12_readPartition_216 rfl ?_
  exact q_vret X Y (Nat.le_refl _) (Nat.le_refl _) h dX12_readPartition_217
def wb_X12_readPartition_174  (S : q_S) (a0 : Nat) (x1 : Int32) (Q : Option Value → q_S → Prop) : Prop := q_K S a0 = 13 ∧ (((¬ (q_I S 2411 a0) = 0 → (wb_X12_readPartition_210 S a0 Q)) ∧ ((q_I S 2411 a0) = 0 → ((((q_I S 2453 a0) = (-1 : Int32) → (wb_X12_readPartition_210 S a0 Q)) ∧ (¬ (q_I S 2453 a0) = (-1 : Int32) → (∃ a8_ : Nat, (q_P S 2442 a0) = some a8_ ∧ (q_K S a8_ = 21 ∧ (vp_in x1 (q_N S a8_) ∧ (((¬ (q_A S a8_ x1.toNatClampNeg) = (-1 : Int32) → (wb_X12_readPartition_210 S a0 Q)) ∧ ((q_A S a8_ x1.toNatClampNeg) = (-1 : Int32) → (wm_X12_fail S a0 (7 : Int32) (q_I S 2453 a0) (fun r13_ S14_ => ∃ x15_ : Int32, r13_ = some (.int x15_) ∧ (wb_X12_readPartition_210 S14_ a0 Q)))))))))))))))
set_option maxHeartbeats 4000000 in
set_option maxRecDepth 100000 in
theorem cb_X12_readPartition_174 {p : Program} {l : Launch} {e : Env} {s : State} {m : MethodId} {args : Array Value} {below : List Frame} {meth : Method} {c : Code} {D : va_G} {cy : Nat → ClassId} {lo : Nat}  {S : q_S} {a0 : Nat} {x1 : Int32} {Q : Option Value → q_S → Prop} {H : Heap} {locs : List Loc} {ls : Array Slot} (X : q_X p s m args meth c RX12 cX12_readPartition 2 none D cy lo)  (Y : q_Y D cy lo s S H locs) (hl : lv_has ls 2 [(0, .ref a0), (1, .int x1)]) (h : wb_X12_readPartition_174 S a0 x1 Q) : W p l e ({ frames := 10, cells := 0, slots := 0, locals := 224 } : Room) s m args below meth c H locs 0 0 (MQ below (q_Q D cy lo Q) args s 0 0 (fun q => lo ≤ q)) (F0 m 174 ls []) := by
  have hx := X.1
  have hb := X.2.1
  unfold wb_X12_readPartition_174 at h
  refine lv_aload_n hx hb dX12_readPartition_174 rfl (lv_at hl 0 rfl) ?_
  obtain ⟨k5_, h⟩ := h
  refine q_getI X Y kX12 11 rfl fl_X12_328 k5_ dX12_readPartition_175 ?_
  refine lv_if_ne (tgt := 210) hx hb dX12_readPartition_178 (by decide) (fun c6_ => ?_) (fun c6_ => ?_)
  · replace h := h.1 c6_
    exact cb_X12_readPartition_210 X Y (lv_sub hl [0] rfl) h
  · replace h := h.2 c6_
    refine lv_aload_n hx hb dX12_readPartition_181 rfl (lv_at hl 0 rfl) ?_
    refine q_getI X Y kX12 53 rfl fl_X12_379 k5_ dX12_readPartition_182 ?_
    refine lv_iconst (v := (-1)) hx hb dX12_readPartition_185 (by decide) ?_
    refine lv_icmp_eq (tgt := 210) hx hb dX12_readPartition_186 (by decide) (fun c7_ => ?_) (fun c7_ => ?_)
    · replace h := h.1 c7_
      exact cb_X12_readPartition_210 X Y (lv_sub hl [0] rfl) h
    · replace h := h.2 c7_
      refine lv_aload_n hx hb dX12_readPartition_189 rfl (lv_at hl 0 rfl) ?_
      refine q_getP X Y kX12 42 rfl fl_X12_82 k5_ rfl dX12_readPartition_190 ?_
      refine lv_iload_n hx hb dX12_readPartition_193 rfl (lv_at hl 1 rfl) ?_
      obtain ⟨a8_, e9_, h⟩ := h
      refine q_nn [.int x1] e9_ ?_
      obtain ⟨k10_, h⟩ := h
      obtain ⟨i11_, h⟩ := h
      refine q_ild X Y k10_ i11_ dX12_readPartition_194 ?_
      refine lv_iconst (v := (-1)) hx hb dX12_readPartition_195 (by decide) ?_
      refine lv_icmp_ne (tgt := 210) hx hb dX12_readPartition_196 (by decide) (fun c12_ => ?_) (fun c12_ => ?_)
      · replace h := h.1 c12_
        exact cb_X12_readPartition_210 X Y (lv_sub hl [0] rfl) h
      · replace h := h.2 c12_
        refine lv_aload_n hx hb dX12_readPartition_199 rfl (lv_at hl 0 rfl) ?_
        refine lv_bipush (v := 7) hx hb dX12_readPartition_200 (by decide) ?_
        refine lv_aload_n hx hb dX12_readPartition_202 rfl (lv_at hl 0 rfl) ?_
        refine q_getI X Y kX12 53 rfl fl_X12_379 k5_ dX12_readPartition_203 ?_
        refine q_callV X Y hl (cm_X12_fail h) mt_X12_fail mi_X12_fail ml_X12_331 (ci := 12) rfl k5_ (by decide) rfl rfl (by first | exact Nat.le_of_ble_eq_true rfl | simp [q_cat, q_catI, q_catJ, q_catR]) ⟨Nat.le_of_ble_eq_true rfl, Nat.le_of_ble_eq_true rfl⟩ ⟨Nat.le_of_ble_eq_true rfl, Nat.le_of_ble_eq_true rfl⟩ dX12_readPartition_206 (fun r13_ S14_ H locs hp Y => ?_)
        obtain ⟨x15_, rfl, h⟩ := hp
        refine W.eq (g2 := F0 m 209 ls [.int x15_]) rfl ?_
        refine lv_pop hx hb dX12_readPartition_209 rfl ?_
        exact cb_X12_readPartition_210 X Y (lv_sub hl [0] rfl) h
def wb_X12_readPartition_150 (B150 : q_S → Nat → Int32 → Prop) (S : q_S) (a0 : Nat) (x1 : Int32) (Q : Option Value → q_S → Prop) : Prop := q_K S a0 = 13 ∧ (((¬ (q_I S 2411 a0) = 0 → (wb_X12_readPartition_174 S a0 x1 Q)) ∧ ((q_I S 2411 a0) = 0 → (wm_X12_isSign S a0 (125 : Int32) (fun r18_ S19_ => ∃ x20_ : Int32, r18_ = some (.int x20_) ∧ (((¬ x20_ = 0 → (wb_X12_readPartition_174 S19_ a0 x1 Q)) ∧ (x20_ = 0 → (q_K S19_ a0 = 13 ∧ (wm_X12_readThing S19_ a0 x1 (fun r23_ S24_ => r23_ = none ∧ (B150 S24_ a0 x1))))))))))))
set_option maxHeartbeats 4000000 in
set_option maxRecDepth 100000 in
theorem cb_X12_readPartition_150 {p : Program} {l : Launch} {e : Env} {s : State} {m : MethodId} {args : Array Value} {below : List Frame} {meth : Method} {c : Code} {D : va_G} {cy : Nat → ClassId} {lo : Nat} {B150 : q_S → Nat → Int32 → Prop} {S : q_S} {a0 : Nat} {x1 : Int32} {Q : Option Value → q_S → Prop} {H : Heap} {locs : List Loc} {ls : Array Slot} (X : q_X p s m args meth c RX12 cX12_readPartition 2 none D cy lo) (hB150 : ∀ (S : q_S) (a0 : Nat) (x1 : Int32) (H : Heap) (locs : List Loc) (ls : Array Slot), B150 S a0 x1 → q_Y D cy lo s S H locs → lv_has ls 2 [(0, .ref a0), (1, .int x1)] → W p l e ({ frames := 10, cells := 0, slots := 0, locals := 224 } : Room) s m args below meth c H locs 0 0 (MQ below (q_Q D cy lo Q) args s 0 0 (fun q => lo ≤ q)) (F0 m 150 ls [])) (Y : q_Y D cy lo s S H locs) (hl : lv_has ls 2 [(0, .ref a0), (1, .int x1)]) (h : wb_X12_readPartition_150 B150 S a0 x1 Q) : W p l e ({ frames := 10, cells := 0, slots := 0, locals := 224 } : Room) s m args below meth c H locs 0 0 (MQ below (q_Q D cy lo Q) args s 0 0 (fun q => lo ≤ q)) (F0 m 150 ls []) := by
  have hx := X.1
  have hb := X.2.1
  unfold wb_X12_readPartition_150 at h
  refine lv_aload_n hx hb dX12_readPartition_150 rfl (lv_at hl 0 rfl) ?_
  obtain ⟨k16_, h⟩ := h
  refine q_getI X Y kX12 11 rfl fl_X12_328 k16_ dX12_readPartition_151 ?_
  refine lv_if_ne (tgt := 174) hx hb dX12_readPartition_154 (by decide) (fun c17_ => ?_) (fun c17_ => ?_)
  · replace h := h.1 c17_
    exact cb_X12_readPartition_174 X Y (lv_sub hl [0, 1] rfl) h
  · replace h := h.2 c17_
    refine lv_aload_n hx hb dX12_readPartition_157 rfl (lv_at hl 0 rfl) ?_
    refine lv_bipush (v := 125) hx hb dX12_readPartition_158 (by decide) ?_
    refine q_callV X Y hl (cm_X12_isSign h) mt_X12_isSign mi_X12_isSign ml_X12_335 (ci := 12) rfl k16_ (by decide) rfl rfl (by first | exact Nat.le_of_ble_eq_true rfl | simp [q_cat, q_catI, q_catJ, q_catR]) ⟨Nat.le_of_ble_eq_true rfl, Nat.le_of_ble_eq_true rfl⟩ ⟨Nat.le_of_ble_eq_true rfl, Nat.le_of_ble_eq_true rfl⟩ dX12_readPartition_160 (fun r18_ S19_ H locs hp Y => ?_)
    obtain ⟨x20_, rfl, h⟩ := hp
    refine W.eq (g2 := F0 m 163 ls [.int x20_]) rfl ?_
    refine lv_if_ne (tgt := 174) hx hb dX12_readPartition_163 (by decide) (fun c21_ => ?_) (fun c21_ => ?_)
    · replace h := h.1 c21_
      exact cb_X12_readPartition_174 X Y (lv_sub hl [0, 1] rfl) h
    · replace h := h.2 c21_
      refine lv_aload_n hx hb dX12_readPartition_166 rfl (lv_at hl 0 rfl) ?_
      refine lv_iload_n hx hb dX12_readPartition_167 rfl (lv_at hl 1 rfl) ?_
      obtain ⟨k22_, h⟩ := h
      refine q_callV X Y hl (cm_X12_readThing h) mt_X12_readThing mi_X12_readThing ml_X12_382 (ci := 12) rfl k22_ (by decide) rfl rfl (by first | exact Nat.le_of_ble_eq_true rfl | simp [q_cat, q_catI, q_catJ, q_catR]) ⟨Nat.le_of_ble_eq_true rfl, Nat.le_of_ble_eq_true rfl⟩ ⟨Nat.le_of_ble_eq_true rfl, Nat.le_of_ble_eq_true rfl⟩ dX12_readPartition_168 (fun r23_ S24_ H locs hp Y => ?_)
      obtain ⟨rfl, h⟩ := hp
      refine W.eq (g2 := F0 m 171 ls []) rfl ?_
      refine lv_goto (tgt := 150) hx hb dX12_readPartition_171 (by decide) ?_
      exact hB150 _ _ _ _ _ _ h Y (lv_sub hl [0, 1] rfl)
def wl_X12_readPartition_150  : Nat → q_S → Nat → Int32 → (Option Value → q_S → Prop) → Prop
  | 0, _, _, _, _ => False
  | n + 1, S, a0, x1, Q => wb_X12_readPartition_150 (fun S a0 x1 => wl_X12_readPartition_150 n S a0 x1 Q) S a0 x1 Q
set_option maxHeartbeats 4000000 in
set_option maxRecDepth 100000 in
theorem cl_X12_readPartition_150 {p : Program} {l : Launch} {e : Env} {s : State} {m : MethodId} {args : Array Value} {below : List Frame} {meth : Method} {c : Code} {D : va_G} {cy : Nat → ClassId} {lo : Nat}  {Q : Option Value → q_S → Prop} (X : q_X p s m args meth c RX12 cX12_readPartition 2 none D cy lo)  : ∀ (n : Nat) (S : q_S) (a0 : Nat) (x1 : Int32) (H : Heap) (locs : List Loc) (ls : Array Slot), wl_X12_readPartition_150 n S a0 x1 Q → q_Y D cy lo s S H locs → lv_has ls 2 [(0, .ref a0), (1, .int x1)] → W p l e ({ frames := 10, cells := 0, slots := 0, locals := 224 } : Room) s m args below meth c H locs 0 0 (MQ below (q_Q D cy lo Q) args s 0 0 (fun q => lo ≤ q)) (F0 m 150 ls []) := by
  intro n
  induction n with
  | zero => intro S a0 x1 H locs ls h; exact absurd h id
  | succ n ih => intro S a0 x1 H locs ls h Y hl; exact cb_X12_readPartition_150 X ih Y hl h
def wm_X12_readPartition (S : q_S) (a0 : Nat) (Q : Option Value → q_S → Prop) : Prop := q_K S a0 = 13 ∧ (wm_X12_next S a0 (fun r26_ S27_ => r26_ = none ∧ (q_K S27_ a0 = 13 ∧ (((¬ (q_I S27_ 2415 a0) = (16 : Int32) → ((((q_I S27_ 2406 a0) = (1 : Int32) → (wm_X12_partitionNamed S27_ a0 (fun r31_ S32_ => ∃ x33_ : Int32, r31_ = some (.int x33_) ∧ (((x33_ = (-1 : Int32) → (q_K S32_ a0 = 13 ∧ (wm_X12_keep S32_ a0 (fun r36_ S37_ => ∃ x38_ : Int32, r36_ = some (.int x38_) ∧ (∃ a39_ : Nat, (q_P S32_ 2423 a0) = some a39_ ∧ (q_K S37_ a39_ = 21 ∧ (vp_in (q_I S32_ 2415 a0) (q_N S37_ a39_) ∧ (q_K (qs_A S37_ a39_ (q_I S32_ 2415 a0).toNatClampNeg x38_) a0 = 13 ∧ (∃ a44_ : Nat, (q_P (qs_A S37_ a39_ (q_I S32_ 2415 a0).toNatClampNeg x38_) 2424 a0) = some a44_ ∧ (q_K (qs_A S37_ a39_ (q_I S32_ 2415 a0).toNatClampNeg x38_) a44_ = 21 ∧ (vp_in (q_I S32_ 2415 a0) (q_N (qs_A S37_ a39_ (q_I S32_ 2415 a0).toNatClampNeg x38_) a44_) ∧ (∀ S48_ : q_S, S48_ = (qs_A (qs_A S37_ a39_ (q_I S32_ 2415 a0).toNatClampNeg x38_) a44_ (q_I S32_ 2415 a0).toNatClampNeg (q_I (qs_A S37_ a39_ (q_I S32_ 2415 a0).toNatClampNeg x38_) 2410 a0)) → (wm_X12_next (qs_I S48_ 2415 a0 ((q_I S48_ 2415 a0) + (1 : Int32))) a0 (fun r49_ S50_ => r49_ = none ∧ (q_K S50_ a0 = 13 ∧ (wm_X12_sign S50_ a0 (123 : Int32) (fun r52_ S53_ => ∃ x54_ : Int32, r52_ = some (.int x54_) ∧ (q_K S53_ a0 = 13 ∧ (wm_X12_key S53_ a0 (1 : Int32) (fun r56_ S57_ => ∃ x58_ : Int32, r56_ = some (.int x58_) ∧ (q_K S57_ a0 = 13 ∧ (wm_X12_number S57_ a0 (256 : Int32) (8192 : Int32) (256 : Int32) (fun r60_ S61_ => ∃ x62_ : Int32, r60_ = some (.int x62_) ∧ (∃ a63_ : Nat, (q_P S57_ 2425 a0) = some a63_ ∧ (q_K S61_ a63_ = 21 ∧ (vp_in (q_I S32_ 2415 a0) (q_N S61_ a63_) ∧ (q_K (qs_A S61_ a63_ (q_I S32_ 2415 a0).toNatClampNeg x62_) a0 = 13 ∧ (wm_X12_sign (qs_A S61_ a63_ (q_I S32_ 2415 a0).toNatClampNeg x62_) a0 (59 : Int32) (fun r68_ S69_ => ∃ x70_ : Int32, r68_ = some (.int x70_) ∧ (q_K S69_ a0 = 13 ∧ ((((q_I S69_ 2411 a0) ≤ 0 → (wm_X12_readRegions S69_ a0 (q_I S32_ 2415 a0) (fun r73_ S74_ => r73_ = none ∧ (q_K S74_ a0 = 13 ∧ (∃ n76_ : Nat, wl_X12_readPartition_150 n76_ (qs_I S74_ 2453 a0 (-1 : Int32)) a0 (q_I S32_ 2415 a0) Q))))) ∧ (¬ (q_I S69_ 2411 a0) ≤ 0 → (Q none S69_)))))))))))))))))))))))))))))))))) ∧ (¬ x33_ = (-1 : Int32) → (q_K S32_ a0 = 13 ∧ (wm_X12_fail S32_ a0 (3 : Int32) (q_I S32_ 2407 a0) (fun r78_ S79_ => ∃ x80_ : Int32, r78_ = some (.int x80_) ∧ (Q none S79_)))))))))) ∧ (¬ (q_I S27_ 2406 a0) = (1 : Int32) → (wm_X12_failHere S27_ a0 (1 : Int32) (fun r81_ S82_ => ∃ x83_ : Int32, r81_ = some (.int x83_) ∧ (Q none S82_))))))) ∧ ((q_I S27_ 2415 a0) = (16 : Int32) → (wm_X12_failHere S27_ a0 (4 : Int32) (fun r84_ S85_ => ∃ x86_ : Int32, r84_ = some (.int x86_) ∧ (Q none S85_)))))))))
set_option maxHeartbeats 4000000 in
set_option maxRecDepth 100000 in
theorem cm_X12_readPartition {l : Launch} {D : va_G} {cy : Nat → ClassId} {lo : Nat} {S : q_S} {a0 : Nat} {Q : Option Value → q_S → Prop} (h : wm_X12_readPartition S a0 Q) : q_Met l D cy lo yX12_readPartition cX12_readPartition 2 none 10 224 0 0 [.ref a0] S Q := by
  refine q_body (by decide) (by first | exact Nat.le_of_ble_eq_true rfl | simp [lg_sl, q_cat, q_catI, q_catJ, q_catR]) ?_
  intro p e s m below meth c ls X hnm Y hl
  have hx := X.1
  have hb := X.2.1
  have hl : lv_has ls 2 [(0, .ref a0)] := by first | exact hl | simpa [lv_args, q_cat, q_catI, q_catJ, q_catR] using hl
  generalize hargs : ([.ref a0] : List Value).toArray = args at X ⊢
  unfold wm_X12_readPartition at h
  refine lv_aload_n hx hb dX12_readPartition_0 rfl (lv_at hl 0 rfl) ?_
  obtain ⟨k25_, h⟩ := h
  refine q_callV X Y hl (cm_X12_next h) mt_X12_next mi_X12_next ml_X12_341 (ci := 12) rfl k25_ (by decide) rfl rfl (by first | exact Nat.le_of_ble_eq_true rfl | simp [q_cat, q_catI, q_catJ, q_catR]) ⟨Nat.le_of_ble_eq_true rfl, Nat.le_of_ble_eq_true rfl⟩ ⟨Nat.le_of_ble_eq_true rfl, Nat.le_of_ble_eq_true rfl⟩ dX12_readPartition_1 (fun r26_ S27_ H locs hp Y => ?_)
  obtain ⟨rfl, h⟩ := hp
  refine W.eq (g2 := F0 m 4 ls []) rfl ?_
  refine lv_aload_n hx hb dX12_readPartition_4 rfl (lv_at hl 0 rfl) ?_
  obtain ⟨k28_, h⟩ := h
  refine q_getI X Y kX12 15 rfl fl_X12_350 k28_ dX12_readPartition_5 ?_
  refine lv_bipush (v := 16) hx hb dX12_readPartition_8 (by decide) ?_
  refine lv_icmp_ne (tgt := 20) hx hb dX12_readPartition_10 (by decide) (fun c29_ => ?_) (fun c29_ => ?_)
  · replace h := h.1 c29_
    refine lv_aload_n hx hb dX12_readPartition_20 rfl (lv_at hl 0 rfl) ?_
    refine q_getI X Y kX12 6 rfl fl_X12_297 k28_ dX12_readPartition_21 ?_
    refine lv_iconst (v := 1) hx hb dX12_readPartition_24 (by decide) ?_
    refine lv_icmp_eq (tgt := 35) hx hb dX12_readPartition_25 (by decide) (fun c30_ => ?_) (fun c30_ => ?_)
    · replace h := h.1 c30_
      refine lv_aload_n hx hb dX12_readPartition_35 rfl (lv_at hl 0 rfl) ?_
      refine q_callV X Y hl (cm_X12_partitionNamed h) mt_X12_partitionNamed mi_X12_partitionNamed ml_X12_362 (ci := 12) rfl k28_ (by decide) rfl rfl (by first | exact Nat.le_of_ble_eq_true rfl | simp [q_cat, q_catI, q_catJ, q_catR]) ⟨Nat.le_of_ble_eq_true rfl, Nat.le_of_ble_eq_true rfl⟩ ⟨Nat.le_of_ble_eq_true rfl, Nat.le_of_ble_eq_true rfl⟩ dX12_readPartition_36 (fun r31_ S32_ H locs hp Y => ?_)
      obtain ⟨x33_, rfl, h⟩ := hp
      refine W.eq (g2 := F0 m 39 ls [.int x33_]) rfl ?_
      refine lv_iconst (v := (-1)) hx hb dX12_readPartition_39 (by decide) ?_
      refine lv_icmp_eq (tgt := 54) hx hb dX12_readPartition_40 (by decide) (fun c34_ => ?_) (fun c34_ => ?_)
      · replace h := h.1 c34_
        refine lv_aload_n hx hb dX12_readPartition_54 rfl (lv_at hl 0 rfl) ?_
        obtain ⟨k35_, h⟩ := h
        refine q_getI X Y kX12 15 rfl fl_X12_350 k35_ dX12_readPartition_55 ?_
        refine lv_istore_n (i := 1) (lv' := [(1, .int (q_I S32_ 2415 a0)), (0, .ref a0)]) hx hb dX12_readPartition_58 rfl hl (by decide) (by first | rfl | simp [q_cat, q_catI, q_catJ, q_catR]) (fun ls hl => ?_)
        refine lv_aload_n hx hb dX12_readPartition_59 rfl (lv_at hl 1 rfl) ?_
        refine q_getP X Y kX12 23 rfl fl_X12_23 k35_ rfl dX12_readPartition_60 ?_
        refine lv_iload_n hx hb dX12_readPartition_63 rfl (lv_at hl 0 rfl) ?_
        refine lv_aload_n hx hb dX12_readPartition_64 rfl (lv_at hl 1 rfl) ?_
        refine q_callV X Y hl (cm_X12_keep h) mt_X12_keep mi_X12_keep ml_X12_359 (ci := 12) rfl k35_ (by decide) rfl rfl (by first | exact Nat.le_of_ble_eq_true rfl | simp [q_cat, q_catI, q_catJ, q_catR]) ⟨Nat.le_of_ble_eq_true rfl, Nat.le_of_ble_eq_true rfl⟩ ⟨Nat.le_of_ble_eq_true rfl, Nat.le_of_ble_eq_true rfl⟩ dX12_readPartition_65 (fun r36_ S37_ H locs hp Y => ?_)
        obtain ⟨x38_, rfl, h⟩ := hp
        refine W.eq (g2 := F0 m 68 ls [.int x38_, .int (q_I S32_ 2415 a0), va_rf (q_P S32_ 2423 a0)]) rfl ?_
        obtain ⟨a39_, e40_, h⟩ := h
        refine q_nn [.int x38_, .int (q_I S32_ 2415 a0)] e40_ ?_
        obtain ⟨k41_, h⟩ := h
        obtain ⟨i42_, h⟩ := h
        refine q_ist X Y k41_ i42_ dX12_readPartition_68 (fun H locs Y => ?_)
        refine lv_aload_n hx hb dX12_readPartition_69 rfl (lv_at hl 1 rfl) ?_
        obtain ⟨k43_, h⟩ := h
        refine q_getP X Y kX12 24 rfl fl_X12_27 k43_ rfl dX12_readPartition_70 ?_
        refine lv_iload_n hx hb dX12_readPartition_73 rfl (lv_at hl 0 rfl) ?_
        refine lv_aload_n hx hb dX12_readPartition_74 rfl (lv_at hl 1 rfl) ?_
        refine q_getI X Y kX12 10 rfl fl_X12_307 k43_ dX12_readPartition_75 ?_
        obtain ⟨a44_, e45_, h⟩ := h
        refine q_nn [.int (q_I (qs_A S37_ a39_ (q_I S32_ 2415 a0).toNatClampNeg x38_) 2410 a0), .int (q_I S32_ 2415 a0)] e45_ ?_
        obtain ⟨k46_, h⟩ := h
        obtain ⟨i47_, h⟩ := h
        refine q_ist X Y k46_ i47_ dX12_readPartition_78 (fun H locs Y => ?_)
        obtain ⟨S48_, gS48_⟩ : ∃ z : q_S, z = (qs_A (qs_A S37_ a39_ (q_I S32_ 2415 a0).toNatClampNeg x38_) a44_ (q_I S32_ 2415 a0).toNatClampNeg (q_I (qs_A S37_ a39_ (q_I S32_ 2415 a0).toNatClampNeg x38_) 2410 a0)) := ⟨_, rfl⟩
        replace Y : q_Y D cy lo s S48_ H locs := by rw [gS48_]; exact Y
        replace h := h S48_ gS48_
        replace k41_ : q_K S48_ a39_ = 21 := by rw [gS48_]; exact k41_
        replace k43_ : q_K S48_ a0 = 13 := by rw [gS48_]; exact k43_
        replace k46_ : q_K S48_ a44_ = 21 := by rw [gS48_]; exact k46_
        refine lv_aload_n hx hb dX12_readPartition_79 rfl (lv_at hl 1 rfl) ?_
        refine lv_dup hx hb dX12_readPartition_80 rfl ?_
        refine q_getI X Y kX12 15 rfl fl_X12_350 k43_ dX12_readPartition_81 ?_
        refine lv_iconst (v := 1) hx hb dX12_readPartition_84 (by decide) ?_
        refine lv_iadd hx hb dX12_readPartition_85 ?_
        refine q_putI X Y kX12 15 rfl fl_X12_350 k43_ .int rfl ⟨rfl, rfl⟩ rfl dX12_readPartition_86 (fun H locs Y => ?_)
        refine lv_aload_n hx hb dX12_readPartition_89 rfl (lv_at hl 1 rfl) ?_
        refine q_callV X Y hl (cm_X12_next h) mt_X12_next mi_X12_next ml_X12_341 (ci := 12) rfl k43_ (by decide) rfl rfl (by first | exact Nat.le_of_ble_eq_true rfl | simp [q_cat, q_catI, q_catJ, q_catR]) ⟨Nat.le_of_ble_eq_true rfl, Nat.le_of_ble_eq_true rfl⟩ ⟨Nat.le_of_ble_eq_true rfl, Nat.le_of_ble_eq_true rfl⟩ dX12_readPartition_90 (fun r49_ S50_ H locs hp Y => ?_)
        obtain ⟨rfl, h⟩ := hp
        refine W.eq (g2 := F0 m 93 ls []) rfl ?_
        refine lv_aload_n hx hb dX12_readPartition_93 rfl (lv_at hl 1 rfl) ?_
        refine lv_bipush (v := 123) hx hb dX12_readPartition_94 (by decide) ?_
        obtain ⟨k51_, h⟩ := h
        refine q_callV X Y hl (cm_X12_sign h) mt_X12_sign mi_X12_sign ml_X12_365 (ci := 12) rfl k51_ (by decide) rfl rfl (by first | exact Nat.le_of_ble_eq_true rfl | simp [q_cat, q_catI, q_catJ, q_catR]) ⟨Nat.le_of_ble_eq_true rfl, Nat.le_of_ble_eq_true rfl⟩ ⟨Nat.le_of_ble_eq_true rfl, Nat.le_of_ble_eq_true rfl⟩ dX12_readPartition_96 (fun r52_ S53_ H locs hp Y => ?_)
        obtain ⟨x54_, rfl, h⟩ := hp
        refine W.eq (g2 := F0 m 99 ls [.int x54_]) rfl ?_
        refine lv_pop hx hb dX12_readPartition_99 rfl ?_
        refine lv_aload_n hx hb dX12_readPartition_100 rfl (lv_at hl 1 rfl) ?_
        refine lv_iconst (v := 1) hx hb dX12_readPartition_101 (by decide) ?_
        obtain ⟨k55_, h⟩ := h
        refine q_callV X Y hl (cm_X12_key h) mt_X12_key mi_X12_key ml_X12_368 (ci := 12) rfl k55_ (by decide) rfl rfl (by first | exact Nat.le_of_ble_eq_true rfl | simp [q_cat, q_catI, q_catJ, q_catR]) ⟨Nat.le_of_ble_eq_true rfl, Nat.le_of_ble_eq_true rfl⟩ ⟨Nat.le_of_ble_eq_true rfl, Nat.le_of_ble_eq_true rfl⟩ dX12_readPartition_102 (fun r56_ S57_ H locs hp Y => ?_)
        obtain ⟨x58_, rfl, h⟩ := hp
        refine W.eq (g2 := F0 m 105 ls [.int x58_]) rfl ?_
        refine lv_pop hx hb dX12_readPartition_105 rfl ?_
        refine lv_aload_n hx hb dX12_readPartition_106 rfl (lv_at hl 1 rfl) ?_
        obtain ⟨k59_, h⟩ := h
        refine q_getP X Y kX12 25 rfl fl_X12_30 k59_ rfl dX12_readPartition_107 ?_
        refine lv_iload_n hx hb dX12_readPartition_110 rfl (lv_at hl 0 rfl) ?_
        refine lv_aload_n hx hb dX12_readPartition_111 rfl (lv_at hl 1 rfl) ?_
        refine lv_sipush (v := 256) hx hb dX12_readPartition_112 (by decide) ?_
        refine lv_sipush (v := 8192) hx hb dX12_readPartition_115 (by decide) ?_
        refine lv_sipush (v := 256) hx hb dX12_readPartition_118 (by decide) ?_
        refine q_callV X Y hl (cm_X12_number h) mt_X12_number mi_X12_number ml_X12_371 (ci := 12) rfl k59_ (by decide) rfl rfl (by first | exact Nat.le_of_ble_eq_true rfl | simp [q_cat, q_catI, q_catJ, q_catR]) ⟨Nat.le_of_ble_eq_true rfl, Nat.le_of_ble_eq_true rfl⟩ ⟨Nat.le_of_ble_eq_true rfl, Nat.le_of_ble_eq_true rfl⟩ dX12_readPartition_121 (fun r60_ S61_ H locs hp Y => ?_)
        obtain ⟨x62_, rfl, h⟩ := hp
        refine W.eq (g2 := F0 m 124 ls [.int x62_, .int (q_I S32_ 2415 a0), va_rf (q_P S57_ 2425 a0)]) rfl ?_
        obtain ⟨a63_, e64_, h⟩ := h
        refine q_nn [.int x62_, .int (q_I S32_ 2415 a0)] e64_ ?_
        obtain ⟨k65_, h⟩ := h
        obtain ⟨i66_, h⟩ := h
        refine q_ist X Y k65_ i66_ dX12_readPartition_124 (fun H locs Y => ?_)
        refine lv_aload_n hx hb dX12_readPartition_125 rfl (lv_at hl 1 rfl) ?_
        refine lv_bipush (v := 59) hx hb dX12_readPartition_126 (by decide) ?_
        obtain ⟨k67_, h⟩ := h
        refine q_callV X Y hl (cm_X12_sign h) mt_X12_sign mi_X12_sign ml_X12_365 (ci := 12) rfl k67_ (by decide) rfl rfl (by first | exact Nat.le_of_ble_eq_true rfl | simp [q_cat, q_catI, q_catJ, q_catR]) ⟨Nat.le_of_ble_eq_true rfl, Nat.le_of_ble_eq_true rfl⟩ ⟨Nat.le_of_ble_eq_true rfl, Nat.le_of_ble_eq_true rfl⟩ dX12_readPartition_128 (fun r68_ S69_ H locs hp Y => ?_)
        obtain ⟨x70_, rfl, h⟩ := hp
        refine W.eq (g2 := F0 m 131 ls [.int x70_]) rfl ?_
        refine lv_pop hx hb dX12_readPartition_131 rfl ?_
        refine lv_aload_n hx hb dX12_readPartition_132 rfl (lv_at hl 1 rfl) ?_
        obtain ⟨k71_, h⟩ := h
        refine q_getI X Y kX12 11 rfl fl_X12_328 k71_ dX12_readPartition_133 ?_
        refine lv_if_le (tgt := 140) hx hb dX12_readPartition_136 (by decide) (fun c72_ => ?_) (fun c72_ => ?_)
        · replace h := h.1 c72_
          refine lv_aload_n hx hb dX12_readPartition_140 rfl (lv_at hl 1 rfl) ?_
          refine lv_iload_n hx hb dX12_readPartition_141 rfl (lv_at hl 0 rfl) ?_
          refine q_callV X Y hl (cm_X12_readRegions h) mt_X12_readRegions mi_X12_readRegions ml_X12_375 (ci := 12) rfl k71_ (by decide) rfl rfl (by first | exact Nat.le_of_ble_eq_true rfl | simp [q_cat, q_catI, q_catJ, q_catR]) ⟨Nat.le_of_ble_eq_true rfl, Nat.le_of_ble_eq_true rfl⟩ ⟨Nat.le_of_ble_eq_true rfl, Nat.le_of_ble_eq_true rfl⟩ dX12_readPartition_142 (fun r73_ S74_ H locs hp Y => ?_)
          obtain ⟨rfl, h⟩ := hp
          refine W.eq (g2 := F0 m 145 ls []) rfl ?_
          refine lv_aload_n hx hb dX12_readPartition_145 rfl (lv_at hl 1 rfl) ?_
          refine lv_iconst (v := (-1)) hx hb dX12_readPartition_146 (by decide) ?_
          obtain ⟨k75_, h⟩ := h
          refine q_putI X Y kX12 53 rfl fl_X12_379 k75_ .int rfl ⟨rfl, rfl⟩ rfl dX12_readPartition_147 (fun H locs Y => ?_)
          obtain ⟨n76_, h⟩ := h
          exact cl_X12_readPartition_150 X n76_ _ _ _ _ _ _ h Y (lv_sub hl [1, 0] rfl)
        · replace h := h.2 c72_
          exact q_vret X Y (Nat.le_refl _) (Nat.le_refl _) h dX12_readPartition_139
      · replace h := h.2 c34_
        refine lv_aload_n hx hb dX12_readPartition_43 rfl (lv_at hl 0 rfl) ?_
        refine lv_iconst (v := 3) hx hb dX12_readPartition_44 (by decide) ?_
        refine lv_aload_n hx hb dX12_readPartition_45 rfl (lv_at hl 0 rfl) ?_
        obtain ⟨k77_, h⟩ := h
        refine q_getI X Y kX12 7 rfl fl_X12_287 k77_ dX12_readPartition_46 ?_
        refine q_callV X Y hl (cm_X12_fail h) mt_X12_fail mi_X12_fail ml_X12_331 (ci := 12) rfl k77_ (by decide) rfl rfl (by first | exact Nat.le_of_ble_eq_true rfl | simp [q_cat, q_catI, q_catJ, q_catR]) ⟨Nat.le_of_ble_eq_true rfl, Nat.le_of_ble_eq_true rfl⟩ ⟨Nat.le_of_ble_eq_true rfl, Nat.le_of_ble_eq_true rfl⟩ dX12_readPartition_49 (fun r78_ S79_ H locs hp Y => ?_)
        obtain ⟨x80_, rfl, h⟩ := hp
        refine W.eq (g2 := F0 m 52 ls [.int x80_]) rfl ?_
        refine lv_pop hx hb dX12_readPartition_52 rfl ?_
        exact q_vret X Y (Nat.le_refl _) (Nat.le_refl _) h dX12_readPartition_53
    · replace h := h.2 c30_
      refine lv_aload_n hx hb dX12_readPartition_28 rfl (lv_at hl 0 rfl) ?_
      refine lv_iconst (v := 1) hx hb dX12_readPartition_29 (by decide) ?_
      refine q_callV X Y hl (cm_X12_failHere h) mt_X12_failHere mi_X12_failHere ml_X12_338 (ci := 12) rfl k28_ (by decide) rfl rfl (by first | exact Nat.le_of_ble_eq_true rfl | simp [q_cat, q_catI, q_catJ, q_catR]) ⟨Nat.le_of_ble_eq_true rfl, Nat.le_of_ble_eq_true rfl⟩ ⟨Nat.le_of_ble_eq_true rfl, Nat.le_of_ble_eq_true rfl⟩ dX12_readPartition_30 (fun r81_ S82_ H locs hp Y => ?_)
      obtain ⟨x83_, rfl, h⟩ := hp
      refine W.eq (g2 := F0 m 33 ls [.int x83_]) rfl ?_
      refine lv_pop hx hb dX12_readPartition_33 rfl ?_
      exact q_vret X Y (Nat.le_refl _) (Nat.le_refl _) h dX12_readPartition_34
  · replace h := h.2 c29_
    refine lv_aload_n hx hb dX12_readPartition_13 rfl (lv_at hl 0 rfl) ?_
    refine lv_iconst (v := 4) hx hb dX12_readPartition_14 (by decide) ?_
    refine q_callV X Y hl (cm_X12_failHere h) mt_X12_failHere mi_X12_failHere ml_X12_338 (ci := 12) rfl k28_ (by decide) rfl rfl (by first | exact Nat.le_of_ble_eq_true rfl | simp [q_cat, q_catI, q_catJ, q_catR]) ⟨Nat.le_of_ble_eq_true rfl, Nat.le_of_ble_eq_true rfl⟩ ⟨Nat.le_of_ble_eq_true rfl, Nat.le_of_ble_eq_true rfl⟩ dX12_readPartition_15 (fun r84_ S85_ H locs hp Y => ?_)
    obtain ⟨x86_, rfl, h⟩ := hp
    refine W.eq (g2 := F0 m 18 ls [.int x86_]) rfl ?_
    refine lv_pop hx hb dX12_readPartition_18 rfl ?_
    exact q_vret X Y (Nat.le_refl _) (Nat.le_refl _) h dX12_readPartition_19
-- X12_end
theorem dX12_end_0 : decode cX12_end 0 = .ok (.aload_n 0, 1) := by decide +kernel
theorem dX12_end_1 : decode cX12_end 1 = .ok (.getfield 328, 3) := by decide +kernel
theorem dX12_end_4 : decode cX12_end 4 = .ok (.ifCond .le 5, 3) := by decide +kernel
theorem dX12_end_7 : decode cX12_end 7 = .ok (.iconst (-1), 1) := by decide +kernel
theorem dX12_end_8 : decode cX12_end 8 = .ok (.ireturn, 1) := by decide +kernel
theorem dX12_end_9 : decode cX12_end 9 = .ok (.aload_n 0, 1) := by decide +kernel
theorem dX12_end_10 : decode cX12_end 10 = .ok (.iload_n 2, 1) := by decide +kernel
theorem dX12_end_11 : decode cX12_end 11 = .ok (.invokevirtual 344, 3) := by decide +kernel
theorem dX12_end_14 : decode cX12_end 14 = .ok (.ifCond .eq 10, 3) := by decide +kernel
theorem dX12_end_17 : decode cX12_end 17 = .ok (.aload_n 0, 1) := by decide +kernel
theorem dX12_end_18 : decode cX12_end 18 = .ok (.invokevirtual 341, 3) := by decide +kernel
theorem dX12_end_21 : decode cX12_end 21 = .ok (.bipush (-2), 2) := by decide +kernel
theorem dX12_end_23 : decode cX12_end 23 = .ok (.ireturn, 1) := by decide +kernel
theorem dX12_end_24 : decode cX12_end 24 = .ok (.aload_n 0, 1) := by decide +kernel
theorem dX12_end_25 : decode cX12_end 25 = .ok (.getfield 297, 3) := by decide +kernel
theorem dX12_end_28 : decode cX12_end 28 = .ok (.iconst 1, 1) := by decide +kernel
theorem dX12_end_29 : decode cX12_end 29 = .ok (.if_icmp .eq 11, 3) := by decide +kernel
theorem dX12_end_32 : decode cX12_end 32 = .ok (.aload_n 0, 1) := by decide +kernel
theorem dX12_end_33 : decode cX12_end 33 = .ok (.iconst 1, 1) := by decide +kernel
theorem dX12_end_34 : decode cX12_end 34 = .ok (.invokevirtual 338, 3) := by decide +kernel
theorem dX12_end_37 : decode cX12_end 37 = .ok (.pop, 1) := by decide +kernel
theorem dX12_end_38 : decode cX12_end 38 = .ok (.iconst (-1), 1) := by decide +kernel
theorem dX12_end_39 : decode cX12_end 39 = .ok (.ireturn, 1) := by decide +kernel
theorem dX12_end_40 : decode cX12_end 40 = .ok (.aload_n 0, 1) := by decide +kernel
theorem dX12_end_41 : decode cX12_end 41 = .ok (.invokevirtual 362, 3) := by decide +kernel
theorem dX12_end_44 : decode cX12_end 44 = .ok (.istore 4, 2) := by decide +kernel
theorem dX12_end_46 : decode cX12_end 46 = .ok (.iload 4, 2) := by decide +kernel
theorem dX12_end_48 : decode cX12_end 48 = .ok (.iconst (-1), 1) := by decide +kernel
theorem dX12_end_49 : decode cX12_end 49 = .ok (.if_icmp .ne 16, 3) := by decide +kernel
theorem dX12_end_52 : decode cX12_end 52 = .ok (.aload_n 0, 1) := by decide +kernel
theorem dX12_end_53 : decode cX12_end 53 = .ok (.bipush 6, 2) := by decide +kernel
theorem dX12_end_55 : decode cX12_end 55 = .ok (.aload_n 0, 1) := by decide +kernel
theorem dX12_end_56 : decode cX12_end 56 = .ok (.getfield 287, 3) := by decide +kernel
theorem dX12_end_59 : decode cX12_end 59 = .ok (.invokevirtual 331, 3) := by decide +kernel
theorem dX12_end_62 : decode cX12_end 62 = .ok (.pop, 1) := by decide +kernel
theorem dX12_end_63 : decode cX12_end 63 = .ok (.iconst (-1), 1) := by decide +kernel
theorem dX12_end_64 : decode cX12_end 64 = .ok (.ireturn, 1) := by decide +kernel
theorem dX12_end_65 : decode cX12_end 65 = .ok (.aload_n 0, 1) := by decide +kernel
theorem dX12_end_66 : decode cX12_end 66 = .ok (.invokevirtual 341, 3) := by decide +kernel
theorem dX12_end_69 : decode cX12_end 69 = .ok (.aload_n 0, 1) := by decide +kernel
theorem dX12_end_70 : decode cX12_end 70 = .ok (.bipush 46, 2) := by decide +kernel
theorem dX12_end_72 : decode cX12_end 72 = .ok (.invokevirtual 365, 3) := by decide +kernel
theorem dX12_end_75 : decode cX12_end 75 = .ok (.pop, 1) := by decide +kernel
theorem dX12_end_76 : decode cX12_end 76 = .ok (.aload_n 0, 1) := by decide +kernel
theorem dX12_end_77 : decode cX12_end 77 = .ok (.getfield 328, 3) := by decide +kernel
theorem dX12_end_80 : decode cX12_end 80 = .ok (.ifCond .le 5, 3) := by decide +kernel
theorem dX12_end_83 : decode cX12_end 83 = .ok (.iconst (-1), 1) := by decide +kernel
theorem dX12_end_84 : decode cX12_end 84 = .ok (.ireturn, 1) := by decide +kernel
theorem dX12_end_85 : decode cX12_end 85 = .ok (.aload_n 0, 1) := by decide +kernel
theorem dX12_end_86 : decode cX12_end 86 = .ok (.getfield 297, 3) := by decide +kernel
theorem dX12_end_89 : decode cX12_end 89 = .ok (.iconst 1, 1) := by decide +kernel
theorem dX12_end_90 : decode cX12_end 90 = .ok (.if_icmp .eq 11, 3) := by decide +kernel
theorem dX12_end_93 : decode cX12_end 93 = .ok (.aload_n 0, 1) := by decide +kernel
theorem dX12_end_94 : decode cX12_end 94 = .ok (.iconst 1, 1) := by decide +kernel
theorem dX12_end_95 : decode cX12_end 95 = .ok (.invokevirtual 338, 3) := by decide +kernel
theorem dX12_end_98 : decode cX12_end 98 = .ok (.pop, 1) := by decide +kernel
theorem dX12_end_99 : decode cX12_end 99 = .ok (.iconst (-1), 1) := by decide +kernel
theorem dX12_end_100 : decode cX12_end 100 = .ok (.ireturn, 1) := by decide +kernel
theorem dX12_end_101 : decode cX12_end 101 = .ok (.aload_n 0, 1) := by decide +kernel
theorem dX12_end_102 : decode cX12_end 102 = .ok (.iload 4, 2) := by decide +kernel
theorem dX12_end_104 : decode cX12_end 104 = .ok (.invokevirtual 356, 3) := by decide +kernel
theorem dX12_end_107 : decode cX12_end 107 = .ok (.istore 5, 2) := by decide +kernel
theorem dX12_end_109 : decode cX12_end 109 = .ok (.iload 5, 2) := by decide +kernel
theorem dX12_end_111 : decode cX12_end 111 = .ok (.iconst (-1), 1) := by decide +kernel
theorem dX12_end_112 : decode cX12_end 112 = .ok (.if_icmp .eq 14, 3) := by decide +kernel
theorem dX12_end_115 : decode cX12_end 115 = .ok (.aload_n 0, 1) := by decide +kernel
theorem dX12_end_116 : decode cX12_end 116 = .ok (.getfield 54, 3) := by decide +kernel
theorem dX12_end_119 : decode cX12_end 119 = .ok (.iload 5, 2) := by decide +kernel
theorem dX12_end_121 : decode cX12_end 121 = .ok (.iaload, 1) := by decide +kernel
theorem dX12_end_122 : decode cX12_end 122 = .ok (.iconst 4, 1) := by decide +kernel
theorem dX12_end_123 : decode cX12_end 123 = .ok (.if_icmp .eq 16, 3) := by decide +kernel
theorem dX12_end_126 : decode cX12_end 126 = .ok (.aload_n 0, 1) := by decide +kernel
theorem dX12_end_127 : decode cX12_end 127 = .ok (.bipush 6, 2) := by decide +kernel
theorem dX12_end_129 : decode cX12_end 129 = .ok (.aload_n 0, 1) := by decide +kernel
theorem dX12_end_130 : decode cX12_end 130 = .ok (.getfield 287, 3) := by decide +kernel
theorem dX12_end_133 : decode cX12_end 133 = .ok (.invokevirtual 331, 3) := by decide +kernel
theorem dX12_end_136 : decode cX12_end 136 = .ok (.pop, 1) := by decide +kernel
theorem dX12_end_137 : decode cX12_end 137 = .ok (.iconst (-1), 1) := by decide +kernel
theorem dX12_end_138 : decode cX12_end 138 = .ok (.ireturn, 1) := by decide +kernel
theorem dX12_end_139 : decode cX12_end 139 = .ok (.bipush 16, 2) := by decide +kernel
theorem dX12_end_141 : decode cX12_end 141 = .ok (.iload 4, 2) := by decide +kernel
theorem dX12_end_143 : decode cX12_end 143 = .ok (.imul, 1) := by decide +kernel
theorem dX12_end_144 : decode cX12_end 144 = .ok (.aload_n 0, 1) := by decide +kernel
theorem dX12_end_145 : decode cX12_end 145 = .ok (.getfield 57, 3) := by decide +kernel
theorem dX12_end_148 : decode cX12_end 148 = .ok (.iload 5, 2) := by decide +kernel
theorem dX12_end_150 : decode cX12_end 150 = .ok (.iaload, 1) := by decide +kernel
theorem dX12_end_151 : decode cX12_end 151 = .ok (.iadd, 1) := by decide +kernel
theorem dX12_end_152 : decode cX12_end 152 = .ok (.istore 6, 2) := by decide +kernel
theorem dX12_end_154 : decode cX12_end 154 = .ok (.aload_n 0, 1) := by decide +kernel
theorem dX12_end_155 : decode cX12_end 155 = .ok (.getfield 100, 3) := by decide +kernel
theorem dX12_end_158 : decode cX12_end 158 = .ok (.iload 6, 2) := by decide +kernel
theorem dX12_end_160 : decode cX12_end 160 = .ok (.baload, 1) := by decide +kernel
theorem dX12_end_161 : decode cX12_end 161 = .ok (.iload_n 3, 1) := by decide +kernel
theorem dX12_end_162 : decode cX12_end 162 = .ok (.if_icmp .ne 30, 3) := by decide +kernel
theorem dX12_end_165 : decode cX12_end 165 = .ok (.aload_n 0, 1) := by decide +kernel
theorem dX12_end_166 : decode cX12_end 166 = .ok (.getfield 103, 3) := by decide +kernel
theorem dX12_end_169 : decode cX12_end 169 = .ok (.iload 6, 2) := by decide +kernel
theorem dX12_end_171 : decode cX12_end 171 = .ok (.baload, 1) := by decide +kernel
theorem dX12_end_172 : decode cX12_end 172 = .ok (.aload_n 0, 1) := by decide +kernel
theorem dX12_end_173 : decode cX12_end 173 = .ok (.getfield 115, 3) := by decide +kernel
theorem dX12_end_176 : decode cX12_end 176 = .ok (.iload_n 1, 1) := by decide +kernel
theorem dX12_end_177 : decode cX12_end 177 = .ok (.baload, 1) := by decide +kernel
theorem dX12_end_178 : decode cX12_end 178 = .ok (.if_icmp .ne 14, 3) := by decide +kernel
theorem dX12_end_181 : decode cX12_end 181 = .ok (.aload_n 0, 1) := by decide +kernel
theorem dX12_end_182 : decode cX12_end 182 = .ok (.getfield 106, 3) := by decide +kernel
theorem dX12_end_185 : decode cX12_end 185 = .ok (.iload 6, 2) := by decide +kernel
theorem dX12_end_187 : decode cX12_end 187 = .ok (.iaload, 1) := by decide +kernel
theorem dX12_end_188 : decode cX12_end 188 = .ok (.iconst (-1), 1) := by decide +kernel
theorem dX12_end_189 : decode cX12_end 189 = .ok (.if_icmp .eq 16, 3) := by decide +kernel
theorem dX12_end_192 : decode cX12_end 192 = .ok (.aload_n 0, 1) := by decide +kernel
theorem dX12_end_193 : decode cX12_end 193 = .ok (.bipush 7, 2) := by decide +kernel
theorem dX12_end_195 : decode cX12_end 195 = .ok (.aload_n 0, 1) := by decide +kernel
theorem dX12_end_196 : decode cX12_end 196 = .ok (.getfield 287, 3) := by decide +kernel
theorem dX12_end_199 : decode cX12_end 199 = .ok (.invokevirtual 331, 3) := by decide +kernel
theorem dX12_end_202 : decode cX12_end 202 = .ok (.pop, 1) := by decide +kernel
theorem dX12_end_203 : decode cX12_end 203 = .ok (.iconst (-1), 1) := by decide +kernel
theorem dX12_end_204 : decode cX12_end 204 = .ok (.ireturn, 1) := by decide +kernel
theorem dX12_end_205 : decode cX12_end 205 = .ok (.aload_n 0, 1) := by decide +kernel
theorem dX12_end_206 : decode cX12_end 206 = .ok (.getfield 106, 3) := by decide +kernel
theorem dX12_end_209 : decode cX12_end 209 = .ok (.iload 6, 2) := by decide +kernel
theorem dX12_end_211 : decode cX12_end 211 = .ok (.iload_n 1, 1) := by decide +kernel
theorem dX12_end_212 : decode cX12_end 212 = .ok (.iastore, 1) := by decide +kernel
theorem dX12_end_213 : decode cX12_end 213 = .ok (.aload_n 0, 1) := by decide +kernel
theorem dX12_end_214 : decode cX12_end 214 = .ok (.invokevirtual 341, 3) := by decide +kernel
theorem dX12_end_217 : decode cX12_end 217 = .ok (.iload 6, 2) := by decide +kernel
theorem dX12_end_219 : decode cX12_end 219 = .ok (.ireturn, 1) := by decide +kernel
def wb_X12_end_126  (S : q_S) (a0 : Nat) (Q : Option Value → q_S → Prop) : Prop := q_K S a0 = 13 ∧ (wm_X12_fail S a0 (6 : Int32) (q_I S 2407 a0) (fun r2_ S3_ => ∃ x4_ : Int32, r2_ = some (.int x4_) ∧ (Q (some (.int (-1 : Int32))) S3_)))
set_option maxHeartbeats 4000000 in
set_option maxRecDepth 100000 in
theorem cb_X12_end_126 {p : Program} {l : Launch} {e : Env} {s : State} {m : MethodId} {args : Array Value} {below : List Frame} {meth : Method} {c : Code} {D : va_G} {cy : Nat → ClassId} {lo : Nat}  {S : q_S} {a0 : Nat} {Q : Option Value → q_S → Prop} {H : Heap} {locs : List Loc} {ls : Array Slot} (X : q_X p s m args meth c RX12 cX12_end 7 (some .int) D cy lo)  (Y : q_Y D cy lo s S H locs) (hl : lv_has ls 7 [(0, .ref a0)]) (h : wb_X12_end_126 S a0 Q) : W p l e ({ frames := 7, cells := 0, slots := 0, locals := 154 } : Room) s m args below meth c H locs 0 0 (MQ below (q_Q D cy lo Q) args s 0 0 (fun q => lo ≤ q)) (F0 m 126 ls []) := by
  have hx := X.1
  have hb := X.2.1
  unfold wb_X12_end_126 at h
  refine lv_aload_n hx hb dX12_end_126 rfl (lv_at hl 0 rfl) ?_
  refine lv_bipush (v := 6) hx hb dX12_end_127 (by decide) ?_
  refine lv_aload_n hx hb dX12_end_129 rfl (lv_at hl 0 rfl) ?_
  obtain ⟨k1_, h⟩ := h
  refine q_getI X Y kX12 7 rfl fl_X12_287 k1_ dX12_end_130 ?_
  refine q_callV X Y hl (cm_X12_fail h) mt_X12_fail mi_X12_fail ml_X12_331 (ci := 12) rfl k1_ (by decide) rfl rfl (by first | exact Nat.le_of_ble_eq_true rfl | simp [q_cat, q_catI, q_catJ, q_catR]) ⟨Nat.le_of_ble_eq_true rfl, Nat.le_of_ble_eq_true rfl⟩ ⟨Nat.le_of_ble_eq_true rfl, Nat.le_of_ble_eq_true rfl⟩ dX12_end_133 (fun r2_ S3_ H locs hp Y => ?_)
  obtain ⟨x4_, rfl, h⟩ := hp
  refine W.eq (g2 := F0 m 136 ls [.int x4_]) rfl ?_
  refine lv_pop hx hb dX12_end_136 rfl ?_
  refine lv_iconst (v := (-1)) hx hb dX12_end_137 (by decide) ?_
  exact q_iret X Y rfl (Nat.le_refl _) (Nat.le_refl _) h dX12_end_138
def wb_X12_end_192  (S : q_S) (a0 : Nat) (Q : Option Value → q_S → Prop) : Prop := q_K S a0 = 13 ∧ (wm_X12_fail S a0 (7 : Int32) (q_I S 2407 a0) (fun r6_ S7_ => ∃ x8_ : Int32, r6_ = some (.int x8_) ∧ (Q (some (.int (-1 : Int32))) S7_)))
set_option maxHeartbeats 4000000 in
set_option maxRecDepth 100000 in
theorem cb_X12_end_192 {p : Program} {l : Launch} {e : Env} {s : State} {m : MethodId} {args : Array Value} {below : List Frame} {meth : Method} {c : Code} {D : va_G} {cy : Nat → ClassId} {lo : Nat}  {S : q_S} {a0 : Nat} {Q : Option Value → q_S → Prop} {H : Heap} {locs : List Loc} {ls : Array Slot} (X : q_X p s m args meth c RX12 cX12_end 7 (some .int) D cy lo)  (Y : q_Y D cy lo s S H locs) (hl : lv_has ls 7 [(0, .ref a0)]) (h : wb_X12_end_192 S a0 Q) : W p l e ({ frames := 7, cells := 0, slots := 0, locals := 154 } : Room) s m args below meth c H locs 0 0 (MQ below (q_Q D cy lo Q) args s 0 0 (fun q => lo ≤ q)) (F0 m 192 ls []) := by
  have hx := X.1
  have hb := X.2.1
  unfold wb_X12_end_192 at h
  refine lv_aload_n hx hb dX12_end_192 rfl (lv_at hl 0 rfl) ?_
  refine lv_bipush (v := 7) hx hb dX12_end_193 (by decide) ?_
  refine lv_aload_n hx hb dX12_end_195 rfl (lv_at hl 0 rfl) ?_
  obtain ⟨k5_, h⟩ := h
  refine q_getI X Y kX12 7 rfl fl_X12_287 k5_ dX12_end_196 ?_
  refine q_callV X Y hl (cm_X12_fail h) mt_X12_fail mi_X12_fail ml_X12_331 (ci := 12) rfl k5_ (by decide) rfl rfl (by first | exact Nat.le_of_ble_eq_true rfl | simp [q_cat, q_catI, q_catJ, q_catR]) ⟨Nat.le_of_ble_eq_true rfl, Nat.le_of_ble_eq_true rfl⟩ ⟨Nat.le_of_ble_eq_true rfl, Nat.le_of_ble_eq_true rfl⟩ dX12_end_199 (fun r6_ S7_ H locs hp Y => ?_)
  obtain ⟨x8_, rfl, h⟩ := hp
  refine W.eq (g2 := F0 m 202 ls [.int x8_]) rfl ?_
  refine lv_pop hx hb dX12_end_202 rfl ?_
  refine lv_iconst (v := (-1)) hx hb dX12_end_203 (by decide) ?_
  exact q_iret X Y rfl (Nat.le_refl _) (Nat.le_refl _) h dX12_end_204
def wm_X12_end (S : q_S) (a0 : Nat) (x1 : Int32) (x2 : Int32) (x3 : Int32) (Q : Option Value → q_S → Prop) : Prop := q_K S a0 = 13 ∧ ((((q_I S 2411 a0) ≤ 0 → (wm_X12_isKey S a0 x2 (fun r11_ S12_ => ∃ x13_ : Int32, r11_ = some (.int x13_) ∧ (((x13_ = 0 → (q_K S12_ a0 = 13 ∧ ((((q_I S12_ 2406 a0) = (1 : Int32) → (wm_X12_partitionNamed S12_ a0 (fun r17_ S18_ => ∃ x19_ : Int32, r17_ = some (.int x19_) ∧ (((¬ x19_ = (-1 : Int32) → (q_K S18_ a0 = 13 ∧ (wm_X12_next S18_ a0 (fun r22_ S23_ => r22_ = none ∧ (q_K S23_ a0 = 13 ∧ (wm_X12_sign S23_ a0 (46 : Int32) (fun r25_ S26_ => ∃ x27_ : Int32, r25_ = some (.int x27_) ∧ (q_K S26_ a0 = 13 ∧ ((((q_I S26_ 2411 a0) ≤ 0 → ((((q_I S26_ 2406 a0) = (1 : Int32) → (wm_X12_thingNamed S26_ a0 x19_ (fun r31_ S32_ => ∃ x33_ : Int32, r31_ = some (.int x33_) ∧ (((x33_ = (-1 : Int32) → (wb_X12_end_126 S32_ a0 Q)) ∧ (¬ x33_ = (-1 : Int32) → (q_K S32_ a0 = 13 ∧ (∃ a36_ : Nat, (q_P S32_ 2433 a0) = some a36_ ∧ (q_K S32_ a36_ = 21 ∧ (vp_in x33_ (q_N S32_ a36_) ∧ ((((q_A S32_ a36_ x33_.toNatClampNeg) = (4 : Int32) → (∃ a41_ : Nat, (q_P S32_ 2434 a0) = some a41_ ∧ (q_K S32_ a41_ = 21 ∧ (vp_in x33_ (q_N S32_ a41_) ∧ (∃ a45_ : Nat, (q_P S32_ 2448 a0) = some a45_ ∧ (q_K S32_ a45_ = 22 ∧ (vp_in (((16 : Int32) * x19_) + (q_A S32_ a41_ x33_.toNatClampNeg)) (q_N S32_ a45_) ∧ (((¬ (q_A S32_ a45_ (((16 : Int32) * x19_) + (q_A S32_ a41_ x33_.toNatClampNeg)).toNatClampNeg) = x3 → (wb_X12_end_192 S32_ a0 Q)) ∧ ((q_A S32_ a45_ (((16 : Int32) * x19_) + (q_A S32_ a41_ x33_.toNatClampNeg)).toNatClampNeg) = x3 → (∃ a50_ : Nat, (q_P S32_ 2449 a0) = some a50_ ∧ (q_K S32_ a50_ = 22 ∧ (vp_in (((16 : Int32) * x19_) + (q_A S32_ a41_ x33_.toNatClampNeg)) (q_N S32_ a50_) ∧ (∃ a54_ : Nat, (q_P S32_ 2454 a0) = some a54_ ∧ (q_K S32_ a54_ = 22 ∧ (vp_in x1 (q_N S32_ a54_) ∧ (((¬ (q_A S32_ a50_ (((16 : Int32) * x19_) + (q_A S32_ a41_ x33_.toNatClampNeg)).toNatClampNeg) = (q_A S32_ a54_ x1.toNatClampNeg) → (wb_X12_end_192 S32_ a0 Q)) ∧ ((q_A S32_ a50_ (((16 : Int32) * x19_) + (q_A S32_ a41_ x33_.toNatClampNeg)).toNatClampNeg) = (q_A S32_ a54_ x1.toNatClampNeg) → (∃ a59_ : Nat, (q_P S32_ 2450 a0) = some a59_ ∧ (q_K S32_ a59_ = 21 ∧ (vp_in (((16 : Int32) * x19_) + (q_A S32_ a41_ x33_.toNatClampNeg)) (q_N S32_ a59_) ∧ ((((q_A S32_ a59_ (((16 : Int32) * x19_) + (q_A S32_ a41_ x33_.toNatClampNeg)).toNatClampNeg) = (-1 : Int32) → (vp_in (((16 : Int32) * x19_) + (q_A S32_ a41_ x33_.toNatClampNeg)) (q_N S32_ a59_) ∧ (wm_X12_next (qs_A S32_ a59_ (((16 : Int32) * x19_) + (q_A S32_ a41_ x33_.toNatClampNeg)).toNatClampNeg x1) a0 (fun r65_ S66_ => r65_ = none ∧ (Q (some (.int (((16 : Int32) * x19_) + (q_A S32_ a41_ x33_.toNatClampNeg)))) S66_))))) ∧ (¬ (q_A S32_ a59_ (((16 : Int32) * x19_) + (q_A S32_ a41_ x33_.toNatClampNeg)).toNatClampNeg) = (-1 : Int32) → (wb_X12_end_192 S32_ a0 Q)))))))))))))))))))))))))) ∧ (¬ (q_A S32_ a36_ x33_.toNatClampNeg) = (4 : Int32) → (wb_X12_end_126 S32_ a0 Q)))))))))))))) ∧ (¬ (q_I S26_ 2406 a0) = (1 : Int32) → (wm_X12_failHere S26_ a0 (1 : Int32) (fun r67_ S68_ => ∃ x69_ : Int32, r67_ = some (.int x69_) ∧ (Q (some (.int (-1 : Int32))) S68_))))))) ∧ (¬ (q_I S26_ 2411 a0) ≤ 0 → (Q (some (.int (-1 : Int32))) S26_)))))))))))) ∧ (x19_ = (-1 : Int32) → (q_K S18_ a0 = 13 ∧ (wm_X12_fail S18_ a0 (6 : Int32) (q_I S18_ 2407 a0) (fun r71_ S72_ => ∃ x73_ : Int32, r71_ = some (.int x73_) ∧ (Q (some (.int (-1 : Int32))) S72_)))))))))) ∧ (¬ (q_I S12_ 2406 a0) = (1 : Int32) → (wm_X12_failHere S12_ a0 (1 : Int32) (fun r74_ S75_ => ∃ x76_ : Int32, r74_ = some (.int x76_) ∧ (Q (some (.int (-1 : Int32))) S75_)))))))) ∧ (¬ x13_ = 0 → (q_K S12_ a0 = 13 ∧ (wm_X12_next S12_ a0 (fun r78_ S79_ => r78_ = none ∧ (Q (some (.int (-2 : Int32))) S79_)))))))))) ∧ (¬ (q_I S 2411 a0) ≤ 0 → (Q (some (.int (-1 : Int32))) S))))
set_option maxHeartbeats 4000000 in
set_option maxRecDepth 100000 in
theorem cm_X12_end {l : Launch} {D : va_G} {cy : Nat → ClassId} {lo : Nat} {S : q_S} {a0 : Nat} {x1 : Int32} {x2 : Int32} {x3 : Int32} {Q : Option Value → q_S → Prop} (h : wm_X12_end S a0 x1 x2 x3 Q) : q_Met l D cy lo yX12_end cX12_end 7 (some .int) 7 154 0 0 [.ref a0, .int x1, .int x2, .int x3] S Q := by
  refine q_body (by decide) (by first | exact Nat.le_of_ble_eq_true rfl | simp [lg_sl, q_cat, q_catI, q_catJ, q_catR]) ?_
  intro p e s m below meth c ls X hnm Y hl
  have hx := X.1
  have hb := X.2.1
  have hl : lv_has ls 7 [(0, .ref a0), (1, .int x1), (2, .int x2), (3, .int x3)] := by first | exact hl | simpa [lv_args, q_cat, q_catI, q_catJ, q_catR] using hl
  generalize hargs : ([.ref a0, .int x1, .int x2, .int x3] : List Value).toArray = args at X ⊢
  unfold wm_X12_end at h
  refine lv_aload_n hx hb dX12_end_0 rfl (lv_at hl 0 rfl) ?_
  obtain ⟨k9_, h⟩ := h
  refine q_getI X Y kX12 11 rfl fl_X12_328 k9_ dX12_end_1 ?_
  refine lv_if_le (tgt := 9) hx hb dX12_end_4 (by decide) (fun c10_ => ?_) (fun c10_ => ?_)
  · replace h := h.1 c10_
    refine lv_aload_n hx hb dX12_end_9 rfl (lv_at hl 0 rfl) ?_
    refine lv_iload_n hx hb dX12_end_10 rfl (lv_at hl 2 rfl) ?_
    refine q_callV X Y hl (cm_X12_isKey h) mt_X12_isKey mi_X12_isKey ml_X12_344 (ci := 12) rfl k9_ (by decide) rfl rfl (by first | exact Nat.le_of_ble_eq_true rfl | simp [q_cat, q_catI, q_catJ, q_catR]) ⟨Nat.le_of_ble_eq_true rfl, Nat.le_of_ble_eq_true rfl⟩ ⟨Nat.le_of_ble_eq_true rfl, Nat.le_of_ble_eq_true rfl⟩ dX12_end_11 (fun r11_ S12_ H locs hp Y => ?_)
    obtain ⟨x13_, rfl, h⟩ := hp
    refine W.eq (g2 := F0 m 14 ls [.int x13_]) rfl ?_
    refine lv_if_eq (tgt := 24) hx hb dX12_end_14 (by decide) (fun c14_ => ?_) (fun c14_ => ?_)
    · replace h := h.1 c14_
      refine lv_aload_n hx hb dX12_end_24 rfl (lv_at hl 0 rfl) ?_
      obtain ⟨k15_, h⟩ := h
      refine q_getI X Y kX12 6 rfl fl_X12_297 k15_ dX12_end_25 ?_
      refine lv_iconst (v := 1) hx hb dX12_end_28 (by decide) ?_
      refine lv_icmp_eq (tgt := 40) hx hb dX12_end_29 (by decide) (fun c16_ => ?_) (fun c16_ => ?_)
      · replace h := h.1 c16_
        refine lv_aload_n hx hb dX12_end_40 rfl (lv_at hl 0 rfl) ?_
        refine q_callV X Y hl (cm_X12_partitionNamed h) mt_X12_partitionNamed mi_X12_partitionNamed ml_X12_362 (ci := 12) rfl k15_ (by decide) rfl rfl (by first | exact Nat.le_of_ble_eq_true rfl | simp [q_cat, q_catI, q_catJ, q_catR]) ⟨Nat.le_of_ble_eq_true rfl, Nat.le_of_ble_eq_true rfl⟩ ⟨Nat.le_of_ble_eq_true rfl, Nat.le_of_ble_eq_true rfl⟩ dX12_end_41 (fun r17_ S18_ H locs hp Y => ?_)
        obtain ⟨x19_, rfl, h⟩ := hp
        refine W.eq (g2 := F0 m 44 ls [.int x19_]) rfl ?_
        refine lv_istore (i := 4) (lv' := [(4, .int x19_), (0, .ref a0), (1, .int x1), (2, .int x2), (3, .int x3)]) hx hb dX12_end_44 hl (by decide) (by first | rfl | simp [q_cat, q_catI, q_catJ, q_catR]) (fun ls hl => ?_)
        refine lv_iload hx hb dX12_end_46 (lv_at hl 0 rfl) ?_
        refine lv_iconst (v := (-1)) hx hb dX12_end_48 (by decide) ?_
        refine lv_icmp_ne (tgt := 65) hx hb dX12_end_49 (by decide) (fun c20_ => ?_) (fun c20_ => ?_)
        · replace h := h.1 c20_
          refine lv_aload_n hx hb dX12_end_65 rfl (lv_at hl 1 rfl) ?_
          obtain ⟨k21_, h⟩ := h
          refine q_callV X Y hl (cm_X12_next h) mt_X12_next mi_X12_next ml_X12_341 (ci := 12) rfl k21_ (by decide) rfl rfl (by first | exact Nat.le_of_ble_eq_true rfl | simp [q_cat, q_catI, q_catJ, q_catR]) ⟨Nat.le_of_ble_eq_true rfl, Nat.le_of_ble_eq_true rfl⟩ ⟨Nat.le_of_ble_eq_true rfl, Nat.le_of_ble_eq_true rfl⟩ dX12_end_66 (fun r22_ S23_ H locs hp Y => ?_)
          obtain ⟨rfl, h⟩ := hp
          refine W.eq (g2 := F0 m 69 ls []) rfl ?_
          refine lv_aload_n hx hb dX12_end_69 rfl (lv_at hl 1 rfl) ?_
          refine lv_bipush (v := 46) hx hb dX12_end_70 (by decide) ?_
          obtain ⟨k24_, h⟩ := h
          refine q_callV X Y hl (cm_X12_sign h) mt_X12_sign mi_X12_sign ml_X12_365 (ci := 12) rfl k24_ (by decide) rfl rfl (by first | exact Nat.le_of_ble_eq_true rfl | simp [q_cat, q_catI, q_catJ, q_catR]) ⟨Nat.le_of_ble_eq_true rfl, Nat.le_of_ble_eq_true rfl⟩ ⟨Nat.le_of_ble_eq_true rfl, Nat.le_of_ble_eq_true rfl⟩ dX12_end_72 (fun r25_ S26_ H locs hp Y => ?_)
          obtain ⟨x27_, rfl, h⟩ := hp
          refine W.eq (g2 := F0 m 75 ls [.int x27_]) rfl ?_
          refine lv_pop hx hb dX12_end_75 rfl ?_
          refine lv_aload_n hx hb dX12_end_76 rfl (lv_at hl 1 rfl) ?_
          obtain ⟨k28_, h⟩ := h
          refine q_getI X Y kX12 11 rfl fl_X12_328 k28_ dX12_end_77 ?_
          refine lv_if_le (tgt := 85) hx hb dX12_end_80 (by decide) (fun c29_ => ?_) (fun c29_ => ?_)
          · replace h := h.1 c29_
            refine lv_aload_n hx hb dX12_end_85 rfl (lv_at hl 1 rfl) ?_
            refine q_getI X Y kX12 6 rfl fl_X12_297 k28_ dX12_end_86 ?_
            refine lv_iconst (v := 1) hx hb dX12_end_89 (by decide) ?_
            refine lv_icmp_eq (tgt := 101) hx hb dX12_end_90 (by decide) (fun c30_ => ?_) (fun c30_ => ?_)
            · replace h := h.1 c30_
              refine lv_aload_n hx hb dX12_end_101 rfl (lv_at hl 1 rfl) ?_
              refine lv_iload hx hb dX12_end_102 (lv_at hl 0 rfl) ?_
              refine q_callV X Y hl (cm_X12_thingNamed h) mt_X12_thingNamed mi_X12_thingNamed ml_X12_356 (ci := 12) rfl k28_ (by decide) rfl rfl (by first | exact Nat.le_of_ble_eq_true rfl | simp [q_cat, q_catI, q_catJ, q_catR]) ⟨Nat.le_of_ble_eq_true rfl, Nat.le_of_ble_eq_true rfl⟩ ⟨Nat.le_of_ble_eq_true rfl, Nat.le_of_ble_eq_true rfl⟩ dX12_end_104 (fun r31_ S32_ H locs hp Y => ?_)
              obtain ⟨x33_, rfl, h⟩ := hp
              refine W.eq (g2 := F0 m 107 ls [.int x33_]) rfl ?_
              refine lv_istore (i := 5) (lv' := [(5, .int x33_), (4, .int x19_), (0, .ref a0), (1, .int x1), (2, .int x2), (3, .int x3)]) hx hb dX12_end_107 hl (by decide) (by first | rfl | simp [q_cat, q_catI, q_catJ, q_catR]) (fun ls hl => ?_)
              refine lv_iload hx hb dX12_end_109 (lv_at hl 0 rfl) ?_
              refine lv_iconst (v := (-1)) hx hb dX12_end_111 (by decide) ?_
              refine lv_icmp_eq (tgt := 126) hx hb dX12_end_112 (by decide) (fun c34_ => ?_) (fun c34_ => ?_)
              · replace h := h.1 c34_
                exact cb_X12_end_126 X Y (lv_sub hl [2] rfl) h
              · replace h := h.2 c34_
                refine lv_aload_n hx hb dX12_end_115 rfl (lv_at hl 2 rfl) ?_
                obtain ⟨k35_, h⟩ := h
                refine q_getP X Y kX12 33 rfl fl_X12_54 k35_ rfl dX12_end_116 ?_
                refine lv_iload hx hb dX12_end_119 (lv_at hl 0 rfl) ?_
                obtain ⟨a36_, e37_, h⟩ := h
                refine q_nn [.int x33_] e37_ ?_
                obtain ⟨k38_, h⟩ := h
                obtain ⟨i39_, h⟩ := h
                refine q_ild X Y k38_ i39_ dX12_end_121 ?_
                refine lv_iconst (v := 4) hx hb dX12_end_122 (by decide) ?_
                refine lv_icmp_eq (tgt := 139) hx hb dX12_end_123 (by decide) (fun c40_ => ?_) (fun c40_ => ?_)
                · replace h := h.1 c40_
                  refine lv_bipush (v := 16) hx hb dX12_end_139 (by decide) ?_
                  refine lv_iload hx hb dX12_end_141 (lv_at hl 1 rfl) ?_
                  refine lv_imul hx hb dX12_end_143 ?_
                  refine lv_aload_n hx hb dX12_end_144 rfl (lv_at hl 2 rfl) ?_
                  refine q_getP X Y kX12 34 rfl fl_X12_57 k35_ rfl dX12_end_145 ?_
                  refine lv_iload hx hb dX12_end_148 (lv_at hl 0 rfl) ?_
                  obtain ⟨a41_, e42_, h⟩ := h
                  refine q_nn [.int x33_] e42_ ?_
                  obtain ⟨k43_, h⟩ := h
                  obtain ⟨i44_, h⟩ := h
                  refine q_ild X Y k43_ i44_ dX12_end_150 ?_
                  refine lv_iadd hx hb dX12_end_151 ?_
                  refine lv_istore (i := 6) (lv' := [(6, .int (((16 : Int32) * x19_) + (q_A S32_ a41_ x33_.toNatClampNeg))), (5, .int x33_), (4, .int x19_), (0, .ref a0), (1, .int x1), (2, .int x2), (3, .int x3)]) hx hb dX12_end_152 hl (by decide) (by first | rfl | simp [q_cat, q_catI, q_catJ, q_catR]) (fun ls hl => ?_)
                  refine lv_aload_n hx hb dX12_end_154 rfl (lv_at hl 3 rfl) ?_
                  refine q_getP X Y kX12 48 rfl fl_X12_100 k35_ rfl dX12_end_155 ?_
                  refine lv_iload hx hb dX12_end_158 (lv_at hl 0 rfl) ?_
                  obtain ⟨a45_, e46_, h⟩ := h
                  refine q_nn [.int (((16 : Int32) * x19_) + (q_A S32_ a41_ x33_.toNatClampNeg))] e46_ ?_
                  obtain ⟨k47_, h⟩ := h
                  obtain ⟨i48_, h⟩ := h
                  refine q_zld X Y k47_ i48_ dX12_end_160 ?_
                  refine lv_iload_n hx hb dX12_end_161 rfl (lv_at hl 6 rfl) ?_
                  refine lv_icmp_ne (tgt := 192) hx hb dX12_end_162 (by decide) (fun c49_ => ?_) (fun c49_ => ?_)
                  · replace h := h.1 c49_
                    exact cb_X12_end_192 X Y (lv_sub hl [3] rfl) h
                  · replace h := h.2 c49_
                    refine lv_aload_n hx hb dX12_end_165 rfl (lv_at hl 3 rfl) ?_
                    refine q_getP X Y kX12 49 rfl fl_X12_103 k35_ rfl dX12_end_166 ?_
                    refine lv_iload hx hb dX12_end_169 (lv_at hl 0 rfl) ?_
                    obtain ⟨a50_, e51_, h⟩ := h
                    refine q_nn [.int (((16 : Int32) * x19_) + (q_A S32_ a41_ x33_.toNatClampNeg))] e51_ ?_
                    obtain ⟨k52_, h⟩ := h
                    obtain ⟨i53_, h⟩ := h
                    refine q_zld X Y k52_ i53_ dX12_end_171 ?_
                    refine lv_aload_n hx hb dX12_end_172 rfl (lv_at hl 3 rfl) ?_
                    refine q_getP X Y kX12 54 rfl fl_X12_115 k35_ rfl dX12_end_173 ?_
                    refine lv_iload_n hx hb dX12_end_176 rfl (lv_at hl 4 rfl) ?_
                    obtain ⟨a54_, e55_, h⟩ := h
                    refine q_nn [.int x1] e55_ ?_
                    obtain ⟨k56_, h⟩ := h
                    obtain ⟨i57_, h⟩ := h
                    refine q_zld X Y k56_ i57_ dX12_end_177 ?_
                    refine lv_icmp_ne (tgt := 192) hx hb dX12_end_178 (by decide) (fun c58_ => ?_) (fun c58_ => ?_)
                    · replace h := h.1 c58_
                      exact cb_X12_end_192 X Y (lv_sub hl [3] rfl) h
                    · replace h := h.2 c58_
                      refine lv_aload_n hx hb dX12_end_181 rfl (lv_at hl 3 rfl) ?_
                      refine q_getP X Y kX12 50 rfl fl_X12_106 k35_ rfl dX12_end_182 ?_
                      refine lv_iload hx hb dX12_end_185 (lv_at hl 0 rfl) ?_
                      obtain ⟨a59_, e60_, h⟩ := h
                      refine q_nn [.int (((16 : Int32) * x19_) + (q_A S32_ a41_ x33_.toNatClampNeg))] e60_ ?_
                      obtain ⟨k61_, h⟩ := h
                      obtain ⟨i62_, h⟩ := h
                      refine q_ild X Y k61_ i62_ dX12_end_187 ?_
                      refine lv_iconst (v := (-1)) hx hb dX12_end_188 (by decide) ?_
                      refine lv_icmp_eq (tgt := 205) hx hb dX12_end_189 (by decide) (fun c63_ => ?_) (fun c63_ => ?_)
                      · replace h := h.1 c63_
                        refine lv_aload_n hx hb dX12_end_205 rfl (lv_at hl 3 rfl) ?_
                        refine q_getR X Y kX12 50 rfl fl_X12_106 k35_ e60_ dX12_end_206 ?_
                        refine lv_iload hx hb dX12_end_209 (lv_at hl 0 rfl) ?_
                        refine lv_iload_n hx hb dX12_end_211 rfl (lv_at hl 4 rfl) ?_
                        obtain ⟨i64_, h⟩ := h
                        refine q_ist X Y k61_ i64_ dX12_end_212 (fun H locs Y => ?_)
                        refine lv_aload_n hx hb dX12_end_213 rfl (lv_at hl 3 rfl) ?_
                        refine q_callV X Y hl (cm_X12_next h) mt_X12_next mi_X12_next ml_X12_341 (ci := 12) rfl k35_ (by decide) rfl rfl (by first | exact Nat.le_of_ble_eq_true rfl | simp [q_cat, q_catI, q_catJ, q_catR]) ⟨Nat.le_of_ble_eq_true rfl, Nat.le_of_ble_eq_true rfl⟩ ⟨Nat.le_of_ble_eq_true rfl, Nat.le_of_ble_eq_true rfl⟩ dX12_end_214 (fun r65_ S66_ H locs hp Y => ?_)
                        obtain ⟨rfl, h⟩ := hp
                        refine W.eq (g2 := F0 m 217 ls []) rfl ?_
                        refine lv_iload hx hb dX12_end_217 (lv_at hl 0 rfl) ?_
                        exact q_iret X Y rfl (Nat.le_refl _) (Nat.le_refl _) h dX12_end_219
                      · replace h := h.2 c63_
                        exact cb_X12_end_192 X Y (lv_sub hl [3] rfl) h
                · replace h := h.2 c40_
                  exact cb_X12_end_126 X Y (lv_sub hl [2] rfl) h
            · replace h := h.2 c30_
              refine lv_aload_n hx hb dX12_end_93 rfl (lv_at hl 1 rfl) ?_
              refine lv_iconst (v := 1) hx hb dX12_end_94 (by decide) ?_
              refine q_callV X Y hl (cm_X12_failHere h) mt_X12_failHere mi_X12_failHere ml_X12_338 (ci := 12) rfl k28_ (by decide) rfl rfl (by first | exact Nat.le_of_ble_eq_true rfl | simp [q_cat, q_catI, q_catJ, q_catR]) ⟨Nat.le_of_ble_eq_true rfl, Nat.le_of_ble_eq_true rfl⟩ ⟨Nat.le_of_ble_eq_true rfl, Nat.le_of_ble_eq_true rfl⟩ dX12_end_95 (fun r67_ S68_ H locs hp Y => ?_)
              obtain ⟨x69_, rfl, h⟩ := hp
              refine W.eq (g2 := F0 m 98 ls [.int x69_]) rfl ?_
              refine lv_pop hx hb dX12_end_98 rfl ?_
              refine lv_iconst (v := (-1)) hx hb dX12_end_99 (by decide) ?_
              exact q_iret X Y rfl (Nat.le_refl _) (Nat.le_refl _) h dX12_end_100
          · replace h := h.2 c29_
            refine lv_iconst (v := (-1)) hx hb dX12_end_83 (by decide) ?_
            exact q_iret X Y rfl (Nat.le_refl _) (Nat.le_refl _) h dX12_end_84
        · replace h := h.2 c20_
          refine lv_aload_n hx hb dX12_end_52 rfl (lv_at hl 1 rfl) ?_
          refine lv_bipush (v := 6) hx hb dX12_end_53 (by decide) ?_
          refine lv_aload_n hx hb dX12_end_55 rfl (lv_at hl 1 rfl) ?_
          obtain ⟨k70_, h⟩ := h
          refine q_getI X Y kX12 7 rfl fl_X12_287 k70_ dX12_end_56 ?_
          refine q_callV X Y hl (cm_X12_fail h) mt_X12_fail mi_X12_fail ml_X12_331 (ci := 12) rfl k70_ (by decide) rfl rfl (by first | exact Nat.le_of_ble_eq_true rfl | simp [q_cat, q_catI, q_catJ, q_catR]) ⟨Nat.le_of_ble_eq_true rfl, Nat.le_of_ble_eq_true rfl⟩ ⟨Nat.le_of_ble_eq_true rfl, Nat.le_of_ble_eq_true rfl⟩ dX12_end_59 (fun r71_ S72_ H locs hp Y => ?_)
          obtain ⟨x73_, rfl, h⟩ := hp
          refine W.eq (g2 := F0 m 62 ls [.int x73_]) rfl ?_
          refine lv_pop hx hb dX12_end_62 rfl ?_
          refine lv_iconst (v := (-1)) hx hb dX12_end_63 (by decide) ?_
          exact q_iret X Y rfl (Nat.le_refl _) (Nat.le_refl _) h dX12_end_64
      · replace h := h.2 c16_
        refine lv_aload_n hx hb dX12_end_32 rfl (lv_at hl 0 rfl) ?_
        refine lv_iconst (v := 1) hx hb dX12_end_33 (by decide) ?_
        refine q_callV X Y hl (cm_X12_failHere h) mt_X12_failHere mi_X12_failHere ml_X12_338 (ci := 12) rfl k15_ (by decide) rfl rfl (by first | exact Nat.le_of_ble_eq_true rfl | simp [q_cat, q_catI, q_catJ, q_catR]) ⟨Nat.le_of_ble_eq_true rfl, Nat.le_of_ble_eq_true rfl⟩ ⟨Nat.le_of_ble_eq_true rfl, Nat.le_of_ble_eq_true rfl⟩ dX12_end_34 (fun r74_ S75_ H locs hp Y => ?_)
        obtain ⟨x76_, rfl, h⟩ := hp
        refine W.eq (g2 := F0 m 37 ls [.int x76_]) rfl ?_
        refine lv_pop hx hb dX12_end_37 rfl ?_
        refine lv_iconst (v := (-1)) hx hb dX12_end_38 (by decide) ?_
        exact q_iret X Y rfl (Nat.le_refl _) (Nat.le_refl _) h dX12_end_39
    · replace h := h.2 c14_
      refine lv_aload_n hx hb dX12_end_17 rfl (lv_at hl 0 rfl) ?_
      obtain ⟨k77_, h⟩ := h
      refine q_callV X Y hl (cm_X12_next h) mt_X12_next mi_X12_next ml_X12_341 (ci := 12) rfl k77_ (by decide) rfl rfl (by first | exact Nat.le_of_ble_eq_true rfl | simp [q_cat, q_catI, q_catJ, q_catR]) ⟨Nat.le_of_ble_eq_true rfl, Nat.le_of_ble_eq_true rfl⟩ ⟨Nat.le_of_ble_eq_true rfl, Nat.le_of_ble_eq_true rfl⟩ dX12_end_18 (fun r78_ S79_ H locs hp Y => ?_)
      obtain ⟨rfl, h⟩ := hp
      refine W.eq (g2 := F0 m 21 ls []) rfl ?_
      refine lv_bipush (v := (-2)) hx hb dX12_end_21 (by decide) ?_
      exact q_iret X Y rfl (Nat.le_refl _) (Nat.le_refl _) h dX12_end_23
  · replace h := h.2 c10_
    refine lv_iconst (v := (-1)) hx hb dX12_end_7 (by decide) ?_
    exact q_iret X Y rfl (Nat.le_refl _) (Nat.le_refl _) h dX12_end_8
