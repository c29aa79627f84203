set_option maxRecDepth 100000 in
set_option maxHeartbeats 4000000 in
theorem db_X7_leave_18 {L : c_L} (S : c_S) (a0 : Nat) (as0 : Nat) (xs1 : Int32) : dt1 (fun Q => kb_X7_leave_18 L  S a0 as0 xs1 Q) := by
  unfold kb_X7_leave_18
  exact (al1 fun S3_ => lf1)
set_option maxRecDepth 100000 in
set_option maxHeartbeats 4000000 in
theorem dm_X7_leave {L : c_L} (S : c_S) (a0 : Nat) (x1 : Int32) : dt1 (fun Q => km_X7_leave L  S a0 x1 Q) := by
  unfold km_X7_leave
  exact (ifn1 (db_X7_leave_18 _ _ _ _) (db_X7_leave_18 _ _ _ _))
set_option maxRecDepth 100000 in
set_option maxHeartbeats 4000000 in
theorem db_X5_unlockOf_21 {L : c_L} (S : c_S) : dt1 (fun Q => kb_X5_unlockOf_21 L  S Q) := by
  unfold kb_X5_unlockOf_21
  exact lf1
set_option maxRecDepth 100000 in
set_option maxHeartbeats 4000000 in
theorem dm_X5_unlockOf {L : c_L} (S : c_S) (a0 : Nat) (r1 : Option Nat) : dt1 (fun Q => km_X5_unlockOf L  S a0 r1 Q) := by
  unfold km_X5_unlockOf
  exact (ex1 fun a2_ => (gd1 (ifn1 (db_X5_unlockOf_21 _) (db_X5_unlockOf_21 _))))
set_option maxRecDepth 100000 in
set_option maxHeartbeats 4000000 in
theorem db_X5_processAt_22 {L : c_L} (S : c_S) (rs0 : Option Nat) : dt2 (fun Q => kb_X5_processAt_22 L  S rs0 Q) := by
  unfold kb_X5_processAt_22
  exact lf2
set_option maxRecDepth 100000 in
set_option maxHeartbeats 4000000 in
theorem db_X5_processAt_12 {L : c_L} (S : c_S) : dt2 (fun Q => kb_X5_processAt_12 L  S Q) := by
  unfold kb_X5_processAt_12
  exact (db_X5_processAt_22 _ _)
set_option maxRecDepth 100000 in
set_option maxHeartbeats 4000000 in
theorem dm_X5_processAt {L : c_L} (S : c_S) (a0 : Nat) (x1 : Int32) : dt2 (fun Q => km_X5_processAt L  S a0 x1 Q) := by
  unfold km_X5_processAt
  exact (if2 (db_X5_processAt_12 _) (if2 (gd2 (db_X5_processAt_22 _ _)) (db_X5_processAt_12 _)))
set_option maxRecDepth 100000 in
set_option maxHeartbeats 4000000 in
theorem db_X5_rest_56 {L : c_L} (S : c_S) : dt1 (fun Q => kb_X5_rest_56 L  S Q) := by
  unfold kb_X5_rest_56
  exact lf1
set_option maxRecDepth 100000 in
set_option maxHeartbeats 4000000 in
theorem db_X5_rest_26 {L : c_L} (S : c_S) (a0 : Nat) (r1 : Option Nat) : dt1 (fun Q => kb_X5_rest_26 L  S a0 r1 Q) := by
  unfold kb_X5_rest_26
  exact (b21 (dm_X5_processAt _ _ _) fun r4_ S3_ => (ex1 fun a5_ => (gd1 (if1 (db_X5_rest_56 _) (if1 (db_X5_rest_56 _) (ex1 fun a10_ => (gd1 (b11 (dm_X7_leave _ _ _) fun S14_ => (db_X5_rest_56 _)))))))))
set_option maxRecDepth 100000 in
set_option maxHeartbeats 4000000 in
theorem dm_X5_rest {L : c_L} (S : c_S) (a0 : Nat) (r1 : Option Nat) : dt1 (fun Q => km_X5_rest L  S a0 r1 Q) := by
  unfold km_X5_rest
  exact (ex1 fun a16_ => (gd1 (b11 (dm_X7_leave _ _ _) fun S20_ => (b11 (dm_X5_unlockOf _ _ _) fun S23_ => (ifn1 (db_X5_rest_26 _ _ _) (db_X5_rest_26 _ _ _))))))
set_option maxRecDepth 100000 in
set_option maxHeartbeats 4000000 in
theorem db_X0_mayNotWait_25 {L : c_L} (S : c_S) (xs0 : Int32) : dt2 (fun Q => kb_X0_mayNotWait_25 L  S xs0 Q) := by
  unfold kb_X0_mayNotWait_25
  exact (gd2 lf2)
set_option maxRecDepth 100000 in
set_option maxHeartbeats 4000000 in
theorem db_X0_mayNotWait_20 {L : c_L} (S : c_S) : dt2 (fun Q => kb_X0_mayNotWait_20 L  S Q) := by
  unfold kb_X0_mayNotWait_20
  exact (db_X0_mayNotWait_25 _ _)
set_option maxRecDepth 100000 in
set_option maxHeartbeats 4000000 in
theorem dm_X0_mayNotWait {L : c_L} (S : c_S) (a0 : Nat) : dt2 (fun Q => km_X0_mayNotWait L  S a0 Q) := by
  unfold km_X0_mayNotWait
  exact (ex2 fun a2_ => (gd2 (if2 (db_X0_mayNotWait_20 _) (ex2 fun a6_ => (gd2 (if2 (db_X0_mayNotWait_25 _ _) (db_X0_mayNotWait_20 _)))))))
set_option maxRecDepth 100000 in
set_option maxHeartbeats 4000000 in
theorem db_X7_setRelease_26 {L : c_L} (S : c_S) (as0 : Nat) (xs1 : Int32) : dt1 (fun Q => kb_X7_setRelease_26 L  S as0 xs1 Q) := by
  unfold kb_X7_setRelease_26
  exact lf1
set_option maxRecDepth 100000 in
set_option maxHeartbeats 4000000 in
theorem dm_X7_setRelease {L : c_L} (S : c_S) (a0 : Nat) (x1 : Int32) : dt1 (fun Q => km_X7_setRelease L  S a0 x1 Q) := by
  unfold km_X7_setRelease
  exact (if1 (db_X7_setRelease_26 _ _ _) (db_X7_setRelease_26 _ _ _))
set_option maxRecDepth 100000 in
set_option maxHeartbeats 4000000 in
theorem dm_X5_makeWait {L : c_L} (S : c_S) (a0 : Nat) (r1 : Option Nat) (x2 : Int32) (x3 : Int32) : dt1 (fun Q => km_X5_makeWait L  S a0 r1 x2 x3 Q) := by
  unfold km_X5_makeWait
  exact (ex1 fun a1_ => (gd1 (al1 fun S4_ => (al1 fun S6_ => lf1))))
set_option maxRecDepth 100000 in
set_option maxHeartbeats 4000000 in
theorem dm_X0_waitUntil {L : c_L} (S : c_S) (a0 : Nat) (x1 : Int32) : dt2 (fun Q => km_X0_waitUntil L  S a0 x1 Q) := by
  unfold km_X0_waitUntil
  exact (b22 (dm_X0_mayNotWait _ _) fun x4_ S3_ => (if2 (ex2 fun a7_ => (gd2 (b12 (dm_X5_makeWait _ _ _ _ _) fun S11_ => lf2))) lf2))
set_option maxRecDepth 100000 in
set_option maxHeartbeats 4000000 in
theorem db_X0_waitForPeriod_17 {L : c_L} (S : c_S) : dt2 (fun Q => kb_X0_waitForPeriod_17 L  S Q) := by
  unfold kb_X0_waitForPeriod_17
  exact lf2
set_option maxRecDepth 100000 in
set_option maxHeartbeats 4000000 in
theorem dm_X0_waitForPeriod {L : c_L} (S : c_S) (a0 : Nat) : dt2 (fun Q => km_X0_waitForPeriod L  S a0 Q) := by
  unfold km_X0_waitForPeriod
  exact (ex2 fun a2_ => (gd2 (if2 (db_X0_waitForPeriod_17 _) (b22 (dm_X0_mayNotWait _ _) fun x8_ S7_ => (if2 (ex2 fun a11_ => (gd2 (b12 (dm_X7_setRelease _ _ _) fun S15_ => (ex2 fun a17_ => (gd2 (b22 (dm_X0_waitUntil _ _ _) fun x22_ S21_ => lf2)))))) (db_X0_waitForPeriod_17 _))))))
set_option maxRecDepth 100000 in
set_option maxHeartbeats 4000000 in
theorem db_X0_isNoDelay_16 {L : c_L} (S : c_S) (xs0 : Int32) : dt2 (fun Q => kb_X0_isNoDelay_16 L  S xs0 Q) := by
  unfold kb_X0_isNoDelay_16
  exact (gd2 lf2)
set_option maxRecDepth 100000 in
set_option maxHeartbeats 4000000 in
theorem db_X0_isNoDelay_11 {L : c_L} (S : c_S) : dt2 (fun Q => kb_X0_isNoDelay_11 L  S Q) := by
  unfold kb_X0_isNoDelay_11
  exact (db_X0_isNoDelay_16 _ _)
set_option maxRecDepth 100000 in
set_option maxHeartbeats 4000000 in
theorem dm_X0_isNoDelay {L : c_L} (S : c_S) (a0 : Nat) (x1 : Int32) : dt2 (fun Q => km_X0_isNoDelay L  S a0 x1 Q) := by
  unfold km_X0_isNoDelay
  exact (if2 (db_X0_isNoDelay_11 _) (if2 (db_X0_isNoDelay_16 _ _) (db_X0_isNoDelay_11 _)))
set_option maxRecDepth 100000 in
set_option maxHeartbeats 4000000 in
theorem dm_X7_restart {L : c_L} (S : c_S) (a0 : Nat) : dt1 (fun Q => km_X7_restart L  S a0 Q) := by
  unfold km_X7_restart
  exact (b11 dm_J7_fill_53178 fun S3_ => lf1)
set_option maxRecDepth 100000 in
set_option maxHeartbeats 4000000 in
theorem dm_X5_makeReady {L : c_L} (S : c_S) (a0 : Nat) (r1 : Option Nat) : dt1 (fun Q => km_X5_makeReady L  S a0 r1 Q) := by
  unfold km_X5_makeReady
  exact (ex1 fun a1_ => (gd1 (al1 fun S4_ => (al1 fun S6_ => lf1))))
set_option maxRecDepth 100000 in
set_option maxHeartbeats 4000000 in
theorem db_X5_start_47 {L : c_L} (S : c_S) : dt1 (fun Q => kb_X5_start_47 L  S Q) := by
  unfold kb_X5_start_47
  exact lf1
set_option maxRecDepth 100000 in
set_option maxHeartbeats 4000000 in
theorem db_X5_start_25 {L : c_L} (S : c_S) (a0 : Nat) (r1 : Option Nat) (x2 : Int32) (x3 : Int32) : dt1 (fun Q => kb_X5_start_25 L  S a0 r1 x2 x3 Q) := by
  unfold kb_X5_start_25
  exact (if1 (b11 (dm_X5_makeReady _ _ _) fun S4_ => (db_X5_start_47 _)) (b11 (dm_X5_makeWait _ _ _ _ _) fun S7_ => (db_X5_start_47 _)))
set_option maxRecDepth 100000 in
set_option maxHeartbeats 4000000 in
theorem dm_X5_start {L : c_L} (S : c_S) (a0 : Nat) (r1 : Option Nat) (x2 : Int32) (x3 : Int32) : dt1 (fun Q => km_X5_start L  S a0 r1 x2 x3 Q) := by
  unfold km_X5_start
  exact (ex1 fun a8_ => (gd1 (b11 (dm_X7_restart _ _) fun S12_ => (b11 (dm_X7_setRelease _ _ _) fun S15_ => (ifn1 (db_X5_start_25 _ _ _ _ _) (db_X5_start_25 _ _ _ _ _))))))
set_option maxRecDepth 100000 in
set_option maxHeartbeats 4000000 in
theorem dm_X0_startOther {L : c_L} (S : c_S) (a0 : Nat) (x1 : Int32) (x2 : Int32) : dt2 (fun Q => km_X0_startOther L  S a0 x1 x2 Q) := by
  unfold km_X0_startOther
  exact (ex2 fun a2_ => (gd2 (b22 (dm_X5_processAt _ _ _) fun r7_ S6_ => (ifn2 (ex2 fun a9_ => (gd2 (if2 (if2 (ex2 fun a15_ => (gd2 (b12 (dm_X5_start _ _ _ _ _) fun S19_ => lf2))) lf2) lf2))) lf2))))
set_option maxRecDepth 100000 in
set_option maxHeartbeats 4000000 in
theorem db_X0_stopOther_20 {L : c_L} (S : c_S) : dt2 (fun Q => kb_X0_stopOther_20 L  S Q) := by
  unfold kb_X0_stopOther_20
  exact lf2
set_option maxRecDepth 100000 in
set_option maxHeartbeats 4000000 in
theorem db_X0_stopOther_52 {L : c_L} (S : c_S) (xs0 : Int32) : dt2 (fun Q => kb_X0_stopOther_52 L  S xs0 Q) := by
  unfold kb_X0_stopOther_52
  exact lf2
set_option maxRecDepth 100000 in
set_option maxHeartbeats 4000000 in
theorem dm_X0_stopOther {L : c_L} (S : c_S) (a0 : Nat) (x1 : Int32) : dt2 (fun Q => km_X0_stopOther L  S a0 x1 Q) := by
  unfold km_X0_stopOther
  exact (ex2 fun a2_ => (gd2 (b22 (dm_X5_processAt _ _ _) fun r7_ S6_ => (if2 (db_X0_stopOther_20 _) (ex2 fun a9_ => (gd2 (if2 (ifn2 (ex2 fun a15_ => (gd2 (b12 (dm_X5_rest _ _ _) fun S19_ => (gd2 (gd2 (ifn2 (db_X0_stopOther_52 _ _) (db_X0_stopOther_52 _ _))))))) lf2) (db_X0_stopOther_20 _))))))))
set_option maxRecDepth 100000 in
set_option maxHeartbeats 4000000 in
theorem db_X0_setPriority_23 {L : c_L} (S : c_S) : dt2 (fun Q => kb_X0_setPriority_23 L  S Q) := by
  unfold kb_X0_setPriority_23
  exact lf2
set_option maxRecDepth 100000 in
set_option maxHeartbeats 4000000 in
theorem dm_X0_setPriority {L : c_L} (S : c_S) (a0 : Nat) (x1 : Int32) (x2 : Int32) : dt2 (fun Q => km_X0_setPriority L  S a0 x1 x2 Q) := by
  unfold km_X0_setPriority
  exact (ex2 fun a2_ => (gd2 (b22 (dm_X5_processAt _ _ _) fun r7_ S6_ => (if2 (db_X0_setPriority_23 _) (if2 (db_X0_setPriority_23 _) (if2 (ex2 fun a11_ => (gd2 lf2)) (db_X0_setPriority_23 _)))))))
set_option maxRecDepth 100000 in
set_option maxHeartbeats 4000000 in
theorem dm_X5_toTheBack {L : c_L} (S : c_S) (a0 : Nat) (r1 : Option Nat) : dt1 (fun Q => km_X5_toTheBack L  S a0 r1 Q) := by
  unfold km_X5_toTheBack
  exact (ex1 fun a2_ => (gd1 (al1 fun S5_ => lf1)))
set_option maxRecDepth 100000 in
set_option maxHeartbeats 4000000 in
theorem db_X0_ofProcesses_84 {L : c_L} (S : c_S) (xs0 : Int32) : dt2 (fun Q => kb_X0_ofProcesses_84 L  S xs0 Q) := by
  unfold kb_X0_ofProcesses_84
  exact lf2
set_option maxRecDepth 100000 in
set_option maxHeartbeats 4000000 in
theorem dm_X0_ofProcesses {L : c_L} (S : c_S) (a0 : Nat) (x1 : Int32) (x2 : Int32) (x3 : Int32) : dt2 (fun Q => km_X0_ofProcesses L  S a0 x1 x2 x3 Q) := by
  unfold km_X0_ofProcesses
  exact (by
    have e0 : (x1 = (0 : Int32)) ↔ (x1).toInt = 0 := sw_iff (by decide)
    have e1 : (x1 = (1 : Int32)) ↔ (x1).toInt = 1 := sw_iff (by decide)
    have e2 : (x1 = (2 : Int32)) ↔ (x1).toInt = 2 := sw_iff (by decide)
    have e3 : (x1 = (3 : Int32)) ↔ (x1).toInt = 3 := sw_iff (by decide)
    have e4 : (x1 = (4 : Int32)) ↔ (x1).toInt = 4 := sw_iff (by decide)
    have e5 : (x1 = (5 : Int32)) ↔ (x1).toInt = 5 := sw_iff (by decide)
    have e6 : (x1 = (6 : Int32)) ↔ (x1).toInt = 6 := sw_iff (by decide)
    have ex : (x1.toInt < 0 ∨ 6 < x1.toInt) ∨ (x1 = (0 : Int32)) ∨ (x1 = (1 : Int32)) ∨ (x1 = (2 : Int32)) ∨ (x1 = (3 : Int32)) ∨ (x1 = (4 : Int32)) ∨ (x1 = (5 : Int32)) ∨ (x1 = (6 : Int32)) := by
      simp only [e0, e1, e2, e3, e4, e5, e6]; omega
    intro P h
    have t0 : dt2 (fun Q : Int32 → c_S → Prop => (∃ a2_ : Nat, (c_P S 1 a0) = some a2_ ∧ (c_mk L 5 a2_ ∧ (km_X5_toTheBack L S a2_ (c_P S 2 a0) (fun S6_ => (Q (0 : Int32) S6_)))))) := (ex2 fun a2_ => (gd2 (b12 (dm_X5_toTheBack _ _ _) fun S6_ => lf2)))
    have t1 : dt2 (fun Q : Int32 → c_S → Prop => (∃ a8_ : Nat, (c_P S 1 a0) = some a8_ ∧ (c_mk L 5 a8_ ∧ (km_X5_rest L S a8_ (c_P S 2 a0) (fun S12_ => (Q (-1 : Int32) S12_)))))) := (ex2 fun a8_ => (gd2 (b12 (dm_X5_rest _ _ _) fun S12_ => lf2)))
    have t2 : dt2 (fun Q : Int32 → c_S → Prop => (km_X0_waitForPeriod L S a0 (fun x16_ S15_ => (Q x16_ S15_)))) := (b22 (dm_X0_waitForPeriod _ _) fun x16_ S15_ => lf2)
    have t3 : dt2 (fun Q : Int32 → c_S → Prop => (km_X0_isNoDelay L S a0 x2 (fun x20_ S19_ => ((x20_ = 0 → (km_X0_waitUntil L S19_ a0 ((c_I S19_ 4 a0) + x2) (fun x25_ S24_ => (kb_X0_ofProcesses_84 L S24_ x25_ Q)))) ∧ (¬ x20_ = 0 → (kb_X0_ofProcesses_84 L S19_ (1 : Int32) Q)))))) := (b22 (dm_X0_isNoDelay _ _ _) fun x20_ S19_ => (if2 (b22 (dm_X0_waitUntil _ _ _) fun x25_ S24_ => (db_X0_ofProcesses_84 _ _)) (db_X0_ofProcesses_84 _ _)))
    have t4 : dt2 (fun Q : Int32 → c_S → Prop => (km_X0_startOther L S a0 x2 (0 : Int32) (fun x29_ S28_ => (Q x29_ S28_)))) := (b22 (dm_X0_startOther _ _ _ _) fun x29_ S28_ => lf2)
    have t5 : dt2 (fun Q : Int32 → c_S → Prop => (km_X0_stopOther L S a0 x2 (fun x33_ S32_ => (Q x33_ S32_)))) := (b22 (dm_X0_stopOther _ _ _) fun x33_ S32_ => lf2)
    have t6 : dt2 (fun Q : Int32 → c_S → Prop => (km_X0_setPriority L S a0 x2 x3 (fun x37_ S36_ => (Q x37_ S36_)))) := (b22 (dm_X0_setPriority _ _ _ _) fun x37_ S36_ => lf2)
    have t7 : dt2 (fun Q : Int32 → c_S → Prop => (Q (c_I S 4 a0) S)) := lf2
    rcases ex with hc | hc | hc | hc | hc | hc | hc | hc
    · obtain ⟨v, s, hp, hr⟩ := t0 P (h.1 hc)
      try simp only [e0, e1, e2, e3, e4, e5, e6] at hc
      exact ⟨v, s, hp, fun Q hq => ⟨fun _ => hr Q hq, fun h2 => absurd hc (by (try simp only [e0, e1, e2, e3, e4, e5, e6] at h2); omega), fun h2 => absurd hc (by (try simp only [e0, e1, e2, e3, e4, e5, e6] at h2); omega), fun h2 => absurd hc (by (try simp only [e0, e1, e2, e3, e4, e5, e6] at h2); omega), fun h2 => absurd hc (by (try simp only [e0, e1, e2, e3, e4, e5, e6] at h2); omega), fun h2 => absurd hc (by (try simp only [e0, e1, e2, e3, e4, e5, e6] at h2); omega), fun h2 => absurd hc (by (try simp only [e0, e1, e2, e3, e4, e5, e6] at h2); omega), fun h2 => absurd hc (by (try simp only [e0, e1, e2, e3, e4, e5, e6] at h2); omega)⟩⟩
    · obtain ⟨v, s, hp, hr⟩ := t1 P (h.2.1 hc)
      try simp only [e0, e1, e2, e3, e4, e5, e6] at hc
      exact ⟨v, s, hp, fun Q hq => ⟨fun h2 => absurd hc (by (try simp only [e0, e1, e2, e3, e4, e5, e6] at h2); omega), fun _ => hr Q hq, fun h2 => absurd hc (by (try simp only [e0, e1, e2, e3, e4, e5, e6] at h2); omega), fun h2 => absurd hc (by (try simp only [e0, e1, e2, e3, e4, e5, e6] at h2); omega), fun h2 => absurd hc (by (try simp only [e0, e1, e2, e3, e4, e5, e6] at h2); omega), fun h2 => absurd hc (by (try simp only [e0, e1, e2, e3, e4, e5, e6] at h2); omega), fun h2 => absurd hc (by (try simp only [e0, e1, e2, e3, e4, e5, e6] at h2); omega), fun h2 => absurd hc (by (try simp only [e0, e1, e2, e3, e4, e5, e6] at h2); omega)⟩⟩
    · obtain ⟨v, s, hp, hr⟩ := t2 P (h.2.2.1 hc)
      try simp only [e0, e1, e2, e3, e4, e5, e6] at hc
      exact ⟨v, s, hp, fun Q hq => ⟨fun h2 => absurd hc (by (try simp only [e0, e1, e2, e3, e4, e5, e6] at h2); omega), fun h2 => absurd hc (by (try simp only [e0, e1, e2, e3, e4, e5, e6] at h2); omega), fun _ => hr Q hq, fun h2 => absurd hc (by (try simp only [e0, e1, e2, e3, e4, e5, e6] at h2); omega), fun h2 => absurd hc (by (try simp only [e0, e1, e2, e3, e4, e5, e6] at h2); omega), fun h2 => absurd hc (by (try simp only [e0, e1, e2, e3, e4, e5, e6] at h2); omega), fun h2 => absurd hc (by (try simp only [e0, e1, e2, e3, e4, e5, e6] at h2); omega), fun h2 => absurd hc (by (try simp only [e0, e1, e2, e3, e4, e5, e6] at h2); omega)⟩⟩
    · obtain ⟨v, s, hp, hr⟩ := t3 P (h.2.2.2.1 hc)
      try simp only [e0, e1, e2, e3, e4, e5, e6] at hc
      exact ⟨v, s, hp, fun Q hq => ⟨fun h2 => absurd hc (by (try simp only [e0, e1, e2, e3, e4, e5, e6] at h2); omega), fun h2 => absurd hc (by (try simp only [e0, e1, e2, e3, e4, e5, e6] at h2); omega), fun h2 => absurd hc (by (try simp only [e0, e1, e2, e3, e4, e5, e6] at h2); omega), fun _ => hr Q hq, fun h2 => absurd hc (by (try simp only [e0, e1, e2, e3, e4, e5, e6] at h2); omega), fun h2 => absurd hc (by (try simp only [e0, e1, e2, e3, e4, e5, e6] at h2); omega), fun h2 => absurd hc (by (try simp only [e0, e1, e2, e3, e4, e5, e6] at h2); omega), fun h2 => absurd hc (by (try simp only [e0, e1, e2, e3, e4, e5, e6] at h2); omega)⟩⟩
    · obtain ⟨v, s, hp, hr⟩ := t4 P (h.2.2.2.2.1 hc)
      try simp only [e0, e1, e2, e3, e4, e5, e6] at hc
      exact ⟨v, s, hp, fun Q hq => ⟨fun h2 => absurd hc (by (try simp only [e0, e1, e2, e3, e4, e5, e6] at h2); omega), fun h2 => absurd hc (by (try simp only [e0, e1, e2, e3, e4, e5, e6] at h2); omega), fun h2 => absurd hc (by (try simp only [e0, e1, e2, e3, e4, e5, e6] at h2); omega), fun h2 => absurd hc (by (try simp only [e0, e1, e2, e3, e4, e5, e6] at h2); omega), fun _ => hr Q hq, fun h2 => absurd hc (by (try simp only [e0, e1, e2, e3, e4, e5, e6] at h2); omega), fun h2 => absurd hc (by (try simp only [e0, e1, e2, e3, e4, e5, e6] at h2); omega), fun h2 => absurd hc (by (try simp only [e0, e1, e2, e3, e4, e5, e6] at h2); omega)⟩⟩
    · obtain ⟨v, s, hp, hr⟩ := t5 P (h.2.2.2.2.2.1 hc)
      try simp only [e0, e1, e2, e3, e4, e5, e6] at hc
      exact ⟨v, s, hp, fun Q hq => ⟨fun h2 => absurd hc (by (try simp only [e0, e1, e2, e3, e4, e5, e6] at h2); omega), fun h2 => absurd hc (by (try simp only [e0, e1, e2, e3, e4, e5, e6] at h2); omega), fun h2 => absurd hc (by (try simp only [e0, e1, e2, e3, e4, e5, e6] at h2); omega), fun h2 => absurd hc (by (try simp only [e0, e1, e2, e3, e4, e5, e6] at h2); omega), fun h2 => absurd hc (by (try simp only [e0, e1, e2, e3, e4, e5, e6] at h2); omega), fun _ => hr Q hq, fun h2 => absurd hc (by (try simp only [e0, e1, e2, e3, e4, e5, e6] at h2); omega), fun h2 => absurd hc (by (try simp only [e0, e1, e2, e3, e4, e5, e6] at h2); omega)⟩⟩
    · obtain ⟨v, s, hp, hr⟩ := t6 P (h.2.2.2.2.2.2.1 hc)
      try simp only [e0, e1, e2, e3, e4, e5, e6] at hc
      exact ⟨v, s, hp, fun Q hq => ⟨fun h2 => absurd hc (by (try simp only [e0, e1, e2, e3, e4, e5, e6] at h2); omega), fun h2 => absurd hc (by (try simp only [e0, e1, e2, e3, e4, e5, e6] at h2); omega), fun h2 => absurd hc (by (try simp only [e0, e1, e2, e3, e4, e5, e6] at h2); omega), fun h2 => absurd hc (by (try simp only [e0, e1, e2, e3, e4, e5, e6] at h2); omega), fun h2 => absurd hc (by (try simp only [e0, e1, e2, e3, e4, e5, e6] at h2); omega), fun h2 => absurd hc (by (try simp only [e0, e1, e2, e3, e4, e5, e6] at h2); omega), fun _ => hr Q hq, fun h2 => absurd hc (by (try simp only [e0, e1, e2, e3, e4, e5, e6] at h2); omega)⟩⟩
    · obtain ⟨v, s, hp, hr⟩ := t7 P (h.2.2.2.2.2.2.2 hc)
      try simp only [e0, e1, e2, e3, e4, e5, e6] at hc
      exact ⟨v, s, hp, fun Q hq => ⟨fun h2 => absurd hc (by (try simp only [e0, e1, e2, e3, e4, e5, e6] at h2); omega), fun h2 => absurd hc (by (try simp only [e0, e1, e2, e3, e4, e5, e6] at h2); omega), fun h2 => absurd hc (by (try simp only [e0, e1, e2, e3, e4, e5, e6] at h2); omega), fun h2 => absurd hc (by (try simp only [e0, e1, e2, e3, e4, e5, e6] at h2); omega), fun h2 => absurd hc (by (try simp only [e0, e1, e2, e3, e4, e5, e6] at h2); omega), fun h2 => absurd hc (by (try simp only [e0, e1, e2, e3, e4, e5, e6] at h2); omega), fun h2 => absurd hc (by (try simp only [e0, e1, e2, e3, e4, e5, e6] at h2); omega), fun _ => hr Q hq⟩⟩)
set_option maxRecDepth 100000 in
set_option maxHeartbeats 4000000 in
theorem db_X5_thingAt_23 {L : c_L} (S : c_S) : dt2 (fun Q => kb_X5_thingAt_23 L  S Q) := by
  unfold kb_X5_thingAt_23
  exact lf2
set_option maxRecDepth 100000 in
set_option maxHeartbeats 4000000 in
theorem dm_X5_thingAt {L : c_L} (S : c_S) (a0 : Nat) (x1 : Int32) (x2 : Int32) : dt2 (fun Q => km_X5_thingAt L  S a0 x1 x2 Q) := by
  unfold km_X5_thingAt
  exact (if2 (db_X5_thingAt_23 _) (if2 (db_X5_thingAt_23 _) (if2 (db_X5_thingAt_23 _) (gd2 (if2 (gd2 lf2) (db_X5_thingAt_23 _))))))
set_option maxRecDepth 100000 in
set_option maxHeartbeats 4000000 in
theorem db_X0_isNoTime_16 {L : c_L} (S : c_S) (xs0 : Int32) : dt2 (fun Q => kb_X0_isNoTime_16 L  S xs0 Q) := by
  unfold kb_X0_isNoTime_16
  exact (gd2 lf2)
set_option maxRecDepth 100000 in
set_option maxHeartbeats 4000000 in
theorem db_X0_isNoTime_11 {L : c_L} (S : c_S) : dt2 (fun Q => kb_X0_isNoTime_11 L  S Q) := by
  unfold kb_X0_isNoTime_11
  exact (db_X0_isNoTime_16 _ _)
set_option maxRecDepth 100000 in
set_option maxHeartbeats 4000000 in
theorem dm_X0_isNoTime {L : c_L} (S : c_S) (a0 : Nat) (x1 : Int32) : dt2 (fun Q => km_X0_isNoTime L  S a0 x1 Q) := by
  unfold km_X0_isNoTime
  exact (if2 (db_X0_isNoTime_11 _) (if2 (db_X0_isNoTime_16 _ _) (db_X0_isNoTime_11 _)))
set_option maxRecDepth 100000 in
set_option maxHeartbeats 4000000 in
theorem db_X0_waitFor_38 {L : c_L} (S : c_S) (rs0 : Option Nat) (rs1 : Option Nat) (xs2 : Int32) (xs3 : Int32) : dt2 (fun Q => kb_X0_waitFor_38 L  S rs0 rs1 xs2 xs3 Q) := by
  unfold kb_X0_waitFor_38
  exact (ex2 fun a1_ => (gd2 (b12 (dm_X5_makeWait _ _ _ _ _) fun S5_ => lf2)))
set_option maxRecDepth 100000 in
set_option maxHeartbeats 4000000 in
theorem dm_X0_waitFor {L : c_L} (S : c_S) (a0 : Nat) (x1 : Int32) (x2 : Int32) : dt2 (fun Q => km_X0_waitFor L  S a0 x1 x2 Q) := by
  unfold km_X0_waitFor
  exact (ifn2 (b22 (dm_X0_mayNotWait _ _) fun x10_ S9_ => (if2 (if2 (db_X0_waitFor_38 _ _ _ _ _) (db_X0_waitFor_38 _ _ _ _ _)) lf2)) lf2)
set_option maxRecDepth 100000 in
set_option maxHeartbeats 4000000 in
theorem dm_X0_takeSemaphore {L : c_L} (S : c_S) (a0 : Nat) (r1 : Option Nat) (x2 : Int32) (x3 : Int32) : dt2 (fun Q => km_X0_takeSemaphore L  S a0 r1 x2 x3 Q) := by
  unfold km_X0_takeSemaphore
  exact (b22 (dm_X0_isNoTime _ _ _) fun x4_ S3_ => (if2 (ex2 fun a6_ => (gd2 (if2 lf2 (b22 (dm_X0_waitFor _ _ _ _) fun x13_ S12_ => lf2)))) lf2))
set_option maxRecDepth 100000 in
set_option maxHeartbeats 4000000 in
theorem db_X7_isAheadOf_31 {L : c_L} (S : c_S) (xs0 : Int32) : dt2 (fun Q => kb_X7_isAheadOf_31 L  S xs0 Q) := by
  unfold kb_X7_isAheadOf_31
  exact (gd2 lf2)
set_option maxRecDepth 100000 in
set_option maxHeartbeats 4000000 in
theorem db_X7_isAheadOf_48 {L : c_L} (S : c_S) (xs0 : Int32) : dt2 (fun Q => kb_X7_isAheadOf_48 L  S xs0 Q) := by
  unfold kb_X7_isAheadOf_48
  exact (gd2 lf2)
set_option maxRecDepth 100000 in
set_option maxHeartbeats 4000000 in
theorem db_X7_isAheadOf_32 {L : c_L} (S : c_S) (a0 : Nat) (r1 : Option Nat) : dt2 (fun Q => kb_X7_isAheadOf_32 L  S a0 r1 Q) := by
  unfold kb_X7_isAheadOf_32
  exact (ex2 fun a2_ => (gd2 (if2 (db_X7_isAheadOf_48 _ _) (db_X7_isAheadOf_48 _ _))))
set_option maxRecDepth 100000 in
set_option maxHeartbeats 4000000 in
theorem dm_X7_isAheadOf {L : c_L} (S : c_S) (a0 : Nat) (r1 : Option Nat) (x2 : Int32) : dt2 (fun Q => km_X7_isAheadOf L  S a0 r1 x2 Q) := by
  unfold km_X7_isAheadOf
  exact (ifn2 (db_X7_isAheadOf_32 _ _ _) (ex2 fun a8_ => (gd2 (if2 (db_X7_isAheadOf_32 _ _ _) (if2 (db_X7_isAheadOf_31 _ _) (db_X7_isAheadOf_31 _ _))))))
set_option maxRecDepth 100000 in
set_option maxHeartbeats 4000000 in
theorem db_X5_firstWaiting_49 {L : c_L} {B5 : (Option Nat → c_S → Prop) → c_S → Nat → Int32 → Int32 → Option Nat → Int32 → Prop} (hB5 : ∀ y0 y1 y2 y3 y4 y5, dt2 (fun Q => B5 Q y0 y1 y2 y3 y4 y5)) (S : c_S) (a0 : Nat) (x1 : Int32) (x2 : Int32) (r3 : Option Nat) (x4 : Int32) : dt2 (fun Q => kb_X5_firstWaiting_49 L (B5 Q) S a0 x1 x2 r3 x4 Q) := by
  unfold kb_X5_firstWaiting_49
  exact (hB5 _ _ _ _ _ _)
set_option maxRecDepth 100000 in
set_option maxHeartbeats 4000000 in
theorem db_X5_firstWaiting_46 {L : c_L} {B5 : (Option Nat → c_S → Prop) → c_S → Nat → Int32 → Int32 → Option Nat → Int32 → Prop} (hB5 : ∀ y0 y1 y2 y3 y4 y5, dt2 (fun Q => B5 Q y0 y1 y2 y3 y4 y5)) (S : c_S) (a0 : Nat) (x1 : Int32) (x2 : Int32) (x4 : Int32) (r5 : Option Nat) : dt2 (fun Q => kb_X5_firstWaiting_46 L (B5 Q) S a0 x1 x2 x4 r5 Q) := by
  unfold kb_X5_firstWaiting_46
  exact (db_X5_firstWaiting_49 hB5 _ _ _ _ _ _)
set_option maxRecDepth 100000 in
set_option maxHeartbeats 4000000 in
theorem db_X5_firstWaiting_5 {L : c_L} {B5 : (Option Nat → c_S → Prop) → c_S → Nat → Int32 → Int32 → Option Nat → Int32 → Prop} (hB5 : ∀ y0 y1 y2 y3 y4 y5, dt2 (fun Q => B5 Q y0 y1 y2 y3 y4 y5)) (S : c_S) (a0 : Nat) (x1 : Int32) (x2 : Int32) (r3 : Option Nat) (x4 : Int32) : dt2 (fun Q => kb_X5_firstWaiting_5 L (B5 Q) S a0 x1 x2 r3 x4 Q) := by
  unfold kb_X5_firstWaiting_5
  exact (if2 lf2 (gd2 (ex2 fun a7_ => (gd2 (ifn2 (db_X5_firstWaiting_49 hB5 _ _ _ _ _ _) (if2 (db_X5_firstWaiting_46 hB5 _ _ _ _ _ _) (b22 (dm_X7_isAheadOf _ _ _ _) fun x14_ S13_ => (if2 (db_X5_firstWaiting_49 hB5 _ _ _ _ _ _) (db_X5_firstWaiting_46 hB5 _ _ _ _ _ _)))))))))
theorem dl_X5_firstWaiting_5 {L : c_L} (n : Nat) (S : c_S) (a0 : Nat) (x1 : Int32) (x2 : Int32) (r3 : Option Nat) (x4 : Int32) : dt2 (fun Q => kl_X5_firstWaiting_5 L  n S a0 x1 x2 r3 x4 Q) := by
  induction n generalizing S a0 x1 x2 r3 x4 with
  | zero => exact fa2
  | succ n ih => exact db_X5_firstWaiting_5 (B5 := fun Q y0 y1 y2 y3 y4 y5 => kl_X5_firstWaiting_5 L  n y0 y1 y2 y3 y4 y5 Q) (fun y0 y1 y2 y3 y4 y5 => ih y0 y1 y2 y3 y4 y5) _ _ _ _ _ _
set_option maxRecDepth 100000 in
set_option maxHeartbeats 4000000 in
theorem dm_X5_firstWaiting {L : c_L} (S : c_S) (a0 : Nat) (x1 : Int32) (x2 : Int32) : dt2 (fun Q => km_X5_firstWaiting L  S a0 x1 x2 Q) := by
  unfold km_X5_firstWaiting
  exact (exn2 fun n16_ => (dl_X5_firstWaiting_5 _ _ _ _ _ _ _))
set_option maxRecDepth 100000 in
set_option maxHeartbeats 4000000 in
theorem dm_X5_answerWaiter {L : c_L} (S : c_S) (a0 : Nat) (r1 : Option Nat) (x2 : Int32) : dt1 (fun Q => km_X5_answerWaiter L  S a0 r1 x2 Q) := by
  unfold km_X5_answerWaiter
  exact (b11 (dm_X5_makeReady _ _ _) fun S3_ => (ex1 fun a4_ => (gd1 (gd1 lf1))))
set_option maxRecDepth 100000 in
set_option maxHeartbeats 4000000 in
theorem dm_X0_giveSemaphore {L : c_L} (S : c_S) (a0 : Nat) (r1 : Option Nat) (x2 : Int32) : dt2 (fun Q => km_X0_giveSemaphore L  S a0 r1 x2 Q) := by
  unfold km_X0_giveSemaphore
  exact (ex2 fun a2_ => (gd2 (ex2 fun a5_ => (gd2 (b22 (dm_X5_firstWaiting _ _ _ _) fun r10_ S9_ => (if2 (if2 lf2 lf2) (ex2 fun a15_ => (gd2 (b12 (dm_X5_answerWaiter _ _ _ _) fun S19_ => lf2)))))))))
set_option maxRecDepth 100000 in
set_option maxHeartbeats 4000000 in
theorem db_X5_wakeAll_34 {L : c_L} {B2 : (c_S → Prop) → c_S → Nat → Int32 → Int32 → Prop} (hB2 : ∀ y0 y1 y2 y3, dt1 (fun Q => B2 Q y0 y1 y2 y3)) (S : c_S) (a0 : Nat) (x1 : Int32) (x2 : Int32) : dt1 (fun Q => kb_X5_wakeAll_34 L (B2 Q) S a0 x1 x2 Q) := by
  unfold kb_X5_wakeAll_34
  exact (hB2 _ _ _ _)
set_option maxRecDepth 100000 in
set_option maxHeartbeats 4000000 in
theorem db_X5_wakeAll_2 {L : c_L} {B2 : (c_S → Prop) → c_S → Nat → Int32 → Int32 → Prop} (hB2 : ∀ y0 y1 y2 y3, dt1 (fun Q => B2 Q y0 y1 y2 y3)) (S : c_S) (a0 : Nat) (x1 : Int32) (x2 : Int32) : dt1 (fun Q => kb_X5_wakeAll_2 L (B2 Q) S a0 x1 x2 Q) := by
  unfold kb_X5_wakeAll_2
  exact (if1 lf1 (gd1 (ex1 fun a7_ => (gd1 (ifn1 (db_X5_wakeAll_34 hB2 _ _ _ _) (gd1 (b11 (dm_X5_answerWaiter _ _ _ _) fun S13_ => (db_X5_wakeAll_34 hB2 _ _ _ _))))))))
theorem dl_X5_wakeAll_2 {L : c_L} (n : Nat) (S : c_S) (a0 : Nat) (x1 : Int32) (x2 : Int32) : dt1 (fun Q => kl_X5_wakeAll_2 L  n S a0 x1 x2 Q) := by
  induction n generalizing S a0 x1 x2 with
  | zero => exact fa1
  | succ n ih => exact db_X5_wakeAll_2 (B2 := fun Q y0 y1 y2 y3 => kl_X5_wakeAll_2 L  n y0 y1 y2 y3 Q) (fun y0 y1 y2 y3 => ih y0 y1 y2 y3) _ _ _ _
set_option maxRecDepth 100000 in
set_option maxHeartbeats 4000000 in
theorem dm_X5_wakeAll {L : c_L} (S : c_S) (a0 : Nat) (x1 : Int32) : dt1 (fun Q => km_X5_wakeAll L  S a0 x1 Q) := by
  unfold km_X5_wakeAll
  exact (exn1 fun n14_ => (dl_X5_wakeAll_2 _ _ _ _ _))
set_option maxRecDepth 100000 in
set_option maxHeartbeats 4000000 in
theorem db_X0_ofSignals_135 {L : c_L} (S : c_S) (xs0 : Int32) : dt2 (fun Q => kb_X0_ofSignals_135 L  S xs0 Q) := by
  unfold kb_X0_ofSignals_135
  exact lf2
set_option maxRecDepth 100000 in
set_option maxHeartbeats 4000000 in
theorem db_X0_ofSignals_15 {L : c_L} (S : c_S) (a0 : Nat) (x1 : Int32) (x2 : Int32) (x3 : Int32) (rs0 : Option Nat) (xs1 : Int32) : dt2 (fun Q => kb_X0_ofSignals_15 L  S a0 x1 x2 x3 rs0 xs1 Q) := by
  unfold kb_X0_ofSignals_15
  exact (ex2 fun a1_ => (gd2 (b22 (dm_X5_thingAt _ _ _ _) fun r6_ S5_ => (ifn2 (by
    have e0 : (x1 = (10 : Int32)) ↔ (x1).toInt = 10 := sw_iff (by decide)
    have e1 : (x1 = (11 : Int32)) ↔ (x1).toInt = 11 := sw_iff (by decide)
    have e2 : (x1 = (8 : Int32)) ↔ (x1).toInt = 8 := sw_iff (by decide)
    have e3 : (x1 = (9 : Int32)) ↔ (x1).toInt = 9 := sw_iff (by decide)
    have ex : (x1.toInt < 8 ∨ 11 < x1.toInt) ∨ (x1 = (8 : Int32)) ∨ (x1 = (9 : Int32)) ∨ (x1 = (10 : Int32)) ∨ (x1 = (11 : Int32)) := by
      simp only [e0, e1, e2, e3]; omega
    intro P h
    have t0 : dt2 (fun Q : Int32 → c_S → Prop => (km_X0_isNoTime L S5_ a0 x3 (fun x11_ S10_ => ((x11_ = 0 → (∃ a13_ : Nat, r6_ = some a13_ ∧ (c_mk L 10 a13_ ∧ (((c_I S10_ 2001 a13_) = 0 → (km_X0_waitFor L S10_ a0 ((8 : Int32) + x2) x3 (fun x20_ S19_ => (kb_X0_ofSignals_135 L S19_ x20_ Q)))) ∧ (¬ (c_I S10_ 2001 a13_) = 0 → (kb_X0_ofSignals_135 L S10_ (0 : Int32) Q)))))) ∧ (¬ x11_ = 0 → (Q (1 : Int32) S10_)))))) := (b22 (dm_X0_isNoTime _ _ _) fun x11_ S10_ => (if2 (ex2 fun a13_ => (gd2 (if2 (b22 (dm_X0_waitFor _ _ _ _) fun x20_ S19_ => (db_X0_ofSignals_135 _ _)) (db_X0_ofSignals_135 _ _)))) lf2))
    have t1 : dt2 (fun Q : Int32 → c_S → Prop => (km_X0_takeSemaphore L S5_ a0 r6_ x2 x3 (fun x24_ S23_ => (Q x24_ S23_)))) := (b22 (dm_X0_takeSemaphore _ _ _ _ _) fun x24_ S23_ => lf2)
    have t2 : dt2 (fun Q : Int32 → c_S → Prop => (km_X0_giveSemaphore L S5_ a0 r6_ x2 (fun x28_ S27_ => (Q x28_ S27_)))) := (b22 (dm_X0_giveSemaphore _ _ _ _) fun x28_ S27_ => lf2)
    have t3 : dt2 (fun Q : Int32 → c_S → Prop => (∃ a29_ : Nat, r6_ = some a29_ ∧ (c_mk L 10 a29_ ∧ (∃ a33_ : Nat, (c_P (cs_I S5_ 2001 a29_ (1 : Int32)) 1 a0) = some a33_ ∧ (c_mk L 5 a33_ ∧ (km_X5_wakeAll L (cs_I S5_ 2001 a29_ (1 : Int32)) a33_ ((8 : Int32) + x2) (fun S37_ => (Q (0 : Int32) S37_)))))))) := (ex2 fun a29_ => (gd2 (ex2 fun a33_ => (gd2 (b12 (dm_X5_wakeAll _ _ _) fun S37_ => lf2)))))
    have t4 : dt2 (fun Q : Int32 → c_S → Prop => (∃ a38_ : Nat, r6_ = some a38_ ∧ (c_mk L 10 a38_ ∧ (Q (0 : Int32) (cs_I S5_ 2001 a38_ (0 : Int32)))))) := (ex2 fun a38_ => (gd2 lf2))
    rcases ex with hc | hc | hc | hc | hc
    · obtain ⟨v, s, hp, hr⟩ := t0 P (h.1 hc)
      try simp only [e0, e1, e2, e3] at hc
      exact ⟨v, s, hp, fun Q hq => ⟨fun _ => hr Q hq, fun h2 => absurd hc (by (try simp only [e0, e1, e2, e3] at h2); omega), fun h2 => absurd hc (by (try simp only [e0, e1, e2, e3] at h2); omega), fun h2 => absurd hc (by (try simp only [e0, e1, e2, e3] at h2); omega), fun h2 => absurd hc (by (try simp only [e0, e1, e2, e3] at h2); omega)⟩⟩
    · obtain ⟨v, s, hp, hr⟩ := t1 P (h.2.1 hc)
      try simp only [e0, e1, e2, e3] at hc
      exact ⟨v, s, hp, fun Q hq => ⟨fun h2 => absurd hc (by (try simp only [e0, e1, e2, e3] at h2); omega), fun _ => hr Q hq, fun h2 => absurd hc (by (try simp only [e0, e1, e2, e3] at h2); omega), fun h2 => absurd hc (by (try simp only [e0, e1, e2, e3] at h2); omega), fun h2 => absurd hc (by (try simp only [e0, e1, e2, e3] at h2); omega)⟩⟩
    · obtain ⟨v, s, hp, hr⟩ := t2 P (h.2.2.1 hc)
      try simp only [e0, e1, e2, e3] at hc
      exact ⟨v, s, hp, fun Q hq => ⟨fun h2 => absurd hc (by (try simp only [e0, e1, e2, e3] at h2); omega), fun h2 => absurd hc (by (try simp only [e0, e1, e2, e3] at h2); omega), fun _ => hr Q hq, fun h2 => absurd hc (by (try simp only [e0, e1, e2, e3] at h2); omega), fun h2 => absurd hc (by (try simp only [e0, e1, e2, e3] at h2); omega)⟩⟩
    · obtain ⟨v, s, hp, hr⟩ := t3 P (h.2.2.2.1 hc)
      try simp only [e0, e1, e2, e3] at hc
      exact ⟨v, s, hp, fun Q hq => ⟨fun h2 => absurd hc (by (try simp only [e0, e1, e2, e3] at h2); omega), fun h2 => absurd hc (by (try simp only [e0, e1, e2, e3] at h2); omega), fun h2 => absurd hc (by (try simp only [e0, e1, e2, e3] at h2); omega), fun _ => hr Q hq, fun h2 => absurd hc (by (try simp only [e0, e1, e2, e3] at h2); omega)⟩⟩
    · obtain ⟨v, s, hp, hr⟩ := t4 P (h.2.2.2.2 hc)
      try simp only [e0, e1, e2, e3] at hc
      exact ⟨v, s, hp, fun Q hq => ⟨fun h2 => absurd hc (by (try simp only [e0, e1, e2, e3] at h2); omega), fun h2 => absurd hc (by (try simp only [e0, e1, e2, e3] at h2); omega), fun h2 => absurd hc (by (try simp only [e0, e1, e2, e3] at h2); omega), fun h2 => absurd hc (by (try simp only [e0, e1, e2, e3] at h2); omega), fun _ => hr Q hq⟩⟩) lf2))))
set_option maxRecDepth 100000 in
set_option maxHeartbeats 4000000 in
theorem dm_X0_ofSignals {L : c_L} (S : c_S) (a0 : Nat) (x1 : Int32) (x2 : Int32) (x3 : Int32) : dt2 (fun Q => km_X0_ofSignals L  S a0 x1 x2 x3 Q) := by
  unfold km_X0_ofSignals
  exact (if2 (db_X0_ofSignals_15 _ _ _ _ _ _ _) (db_X0_ofSignals_15 _ _ _ _ _ _ _))
set_option maxRecDepth 100000 in
set_option maxHeartbeats 4000000 in
theorem dm_X5_giveTaker {L : c_L} (S : c_S) (a0 : Nat) (x1 : Int32) (x2 : Int32) (x3 : Int32) : dt2 (fun Q => km_X5_giveTaker L  S a0 x1 x2 x3 Q) := by
  unfold km_X5_giveTaker
  exact (b22 (dm_X5_firstWaiting _ _ _ _) fun r4_ S3_ => (ifn2 (b12 (dm_X5_answerWaiter _ _ _ _) fun S8_ => (ex2 fun a9_ => (gd2 (gd2 lf2)))) lf2))
set_option maxRecDepth 100000 in
set_option maxHeartbeats 4000000 in
theorem db_X8_indexOf_25 {L : c_L} (S : c_S) (xs0 : Int32) : dt2 (fun Q => kb_X8_indexOf_25 L  S xs0 Q) := by
  unfold kb_X8_indexOf_25
  exact lf2
set_option maxRecDepth 100000 in
set_option maxHeartbeats 4000000 in
theorem dm_X8_indexOf {L : c_L} (S : c_S) (a0 : Nat) (x1 : Int32) : dt2 (fun Q => km_X8_indexOf L  S a0 x1 Q) := by
  unfold km_X8_indexOf
  exact (if2 (db_X8_indexOf_25 _ _) (db_X8_indexOf_25 _ _))
set_option maxRecDepth 100000 in
set_option maxHeartbeats 4000000 in
theorem dm_X8_add {L : c_L} (S : c_S) (a0 : Nat) (x1 : Int32) : dt2 (fun Q => km_X8_add L  S a0 x1 Q) := by
  unfold km_X8_add
  exact (if2 (b22 (dm_X8_indexOf _ _ _) fun x5_ S4_ => (gd2 (al2 fun S11_ => lf2))) lf2)
set_option maxRecDepth 100000 in
set_option maxHeartbeats 4000000 in
theorem db_X0_waitWith_25 {L : c_L} (S : c_S) (x4 : Int32) : dt2 (fun Q => kb_X0_waitWith_25 L  S x4 Q) := by
  unfold kb_X0_waitWith_25
  exact lf2
set_option maxRecDepth 100000 in
set_option maxHeartbeats 4000000 in
theorem dm_X0_waitWith {L : c_L} (S : c_S) (a0 : Nat) (x1 : Int32) (x2 : Int32) (x3 : Int32) : dt2 (fun Q => km_X0_waitWith L  S a0 x1 x2 x3 Q) := by
  unfold km_X0_waitWith
  exact (b22 (dm_X0_waitFor _ _ _ _) fun x4_ S3_ => (ifn2 (db_X0_waitWith_25 _ _) (ex2 fun a7_ => (gd2 (db_X0_waitWith_25 _ _)))))
set_option maxRecDepth 100000 in
set_option maxHeartbeats 4000000 in
theorem db_X0_putIntoBuffer_45 {L : c_L} (S : c_S) : dt2 (fun Q => kb_X0_putIntoBuffer_45 L  S Q) := by
  unfold kb_X0_putIntoBuffer_45
  exact lf2
set_option maxRecDepth 100000 in
set_option maxHeartbeats 4000000 in
theorem db_X0_putIntoBuffer_47 {L : c_L} (S : c_S) (a0 : Nat) (x2 : Int32) (x3 : Int32) (x4 : Int32) : dt2 (fun Q => kb_X0_putIntoBuffer_47 L  S a0 x2 x3 x4 Q) := by
  unfold kb_X0_putIntoBuffer_47
  exact (b22 (dm_X0_waitWith _ _ _ _ _) fun x4_ S3_ => lf2)
set_option maxRecDepth 100000 in
set_option maxHeartbeats 4000000 in
theorem dm_X0_putIntoBuffer {L : c_L} (S : c_S) (a0 : Nat) (r1 : Option Nat) (x2 : Int32) (x3 : Int32) (x4 : Int32) : dt2 (fun Q => km_X0_putIntoBuffer L  S a0 r1 x2 x3 x4 Q) := by
  unfold km_X0_putIntoBuffer
  exact (b22 (dm_X0_isNoTime _ _ _) fun x8_ S7_ => (if2 (ex2 fun a11_ => (gd2 (ex2 fun a14_ => (gd2 (b22 (dm_X5_giveTaker _ _ _ _ _) fun x19_ S18_ => (ifn2 (db_X0_putIntoBuffer_45 _) (if2 (db_X0_putIntoBuffer_47 _ _ _ _ _) (ex2 fun a23_ => (gd2 (b22 (dm_X8_add _ _ _) fun x28_ S27_ => (if2 (db_X0_putIntoBuffer_47 _ _ _ _ _) (db_X0_putIntoBuffer_45 _)))))))))))) lf2))
set_option maxRecDepth 100000 in
set_option maxHeartbeats 4000000 in
theorem db_X8_at_26 {L : c_L} (S : c_S) (xs0 : Int32) : dt2 (fun Q => kb_X8_at_26 L  S xs0 Q) := by
  unfold kb_X8_at_26
  exact lf2
set_option maxRecDepth 100000 in
set_option maxHeartbeats 4000000 in
theorem db_X8_at_12 {L : c_L} (S : c_S) : dt2 (fun Q => kb_X8_at_12 L  S Q) := by
  unfold kb_X8_at_12
  exact (db_X8_at_26 _ _)
set_option maxRecDepth 100000 in
set_option maxHeartbeats 4000000 in
theorem dm_X8_at {L : c_L} (S : c_S) (a0 : Nat) (x1 : Int32) : dt2 (fun Q => km_X8_at L  S a0 x1 Q) := by
  unfold km_X8_at
  exact (if2 (db_X8_at_12 _) (if2 (b22 (dm_X8_indexOf _ _ _) fun x6_ S5_ => (gd2 (db_X8_at_26 _ _))) (db_X8_at_12 _)))
set_option maxRecDepth 100000 in
set_option maxHeartbeats 4000000 in
theorem db_X8_take_32 {L : c_L} (S : c_S) (x1 : Int32) : dt2 (fun Q => kb_X8_take_32 L  S x1 Q) := by
  unfold kb_X8_take_32
  exact lf2
set_option maxRecDepth 100000 in
set_option maxHeartbeats 4000000 in
theorem dm_X8_take {L : c_L} (S : c_S) (a0 : Nat) : dt2 (fun Q => km_X8_take L  S a0 Q) := by
  unfold km_X8_take
  exact (b22 (dm_X8_at _ _ _) fun x4_ S3_ => (if2 (db_X8_take_32 _ _) (b22 (dm_X8_indexOf _ _ _) fun x9_ S8_ => (al2 fun S11_ => (db_X8_take_32 _ _)))))
set_option maxRecDepth 100000 in
set_option maxHeartbeats 4000000 in
theorem db_X5_refill_35 {L : c_L} (S : c_S) : dt1 (fun Q => kb_X5_refill_35 L  S Q) := by
  unfold kb_X5_refill_35
  exact lf1
set_option maxRecDepth 100000 in
set_option maxHeartbeats 4000000 in
theorem dm_X5_refill {L : c_L} (S : c_S) (a0 : Nat) (r1 : Option Nat) (x2 : Int32) (x3 : Int32) : dt1 (fun Q => km_X5_refill L  S a0 r1 x2 x3 Q) := by
  unfold km_X5_refill
  exact (b21 (dm_X5_firstWaiting _ _ _ _) fun r4_ S3_ => (if1 (db_X5_refill_35 _) (ex1 fun a6_ => (gd1 (ex1 fun a9_ => (gd1 (b21 (dm_X8_add _ _ _) fun x14_ S13_ => (if1 (db_X5_refill_35 _) (b11 (dm_X5_answerWaiter _ _ _ _) fun S18_ => (db_X5_refill_35 _))))))))))
set_option maxRecDepth 100000 in
set_option maxHeartbeats 4000000 in
theorem db_X0_takeFrom_11 {L : c_L} (S : c_S) (a0 : Nat) (x2 : Int32) (x3 : Int32) : dt2 (fun Q => kb_X0_takeFrom_11 L  S a0 x2 x3 Q) := by
  unfold kb_X0_takeFrom_11
  exact (b22 (dm_X0_waitFor _ _ _ _) fun x4_ S3_ => lf2)
set_option maxRecDepth 100000 in
set_option maxHeartbeats 4000000 in
theorem db_X0_takeFrom_44 {L : c_L} (S : c_S) : dt2 (fun Q => kb_X0_takeFrom_44 L  S Q) := by
  unfold kb_X0_takeFrom_44
  exact lf2
set_option maxRecDepth 100000 in
set_option maxHeartbeats 4000000 in
theorem dm_X0_takeFrom {L : c_L} (S : c_S) (a0 : Nat) (r1 : Option Nat) (x2 : Int32) (x3 : Int32) (r4 : Option Nat) (x5 : Int32) (x6 : Int32) : dt2 (fun Q => km_X0_takeFrom L  S a0 r1 x2 x3 r4 x5 x6 Q) := by
  unfold km_X0_takeFrom
  exact (if2 (db_X0_takeFrom_11 _ _ _ _) (ex2 fun a6_ => (gd2 (ifn2 (b22 (dm_X8_take _ _) fun x13_ S12_ => (ex2 fun a14_ => (gd2 (gd2 (if2 (db_X0_takeFrom_44 _) (ex2 fun a19_ => (gd2 (b12 (dm_X5_refill _ _ _ _ _) fun S23_ => (db_X0_takeFrom_44 _))))))))) (db_X0_takeFrom_11 _ _ _ _)))))
set_option maxRecDepth 100000 in
set_option maxHeartbeats 4000000 in
theorem db_X5_showAll_36 {L : c_L} {B2 : (c_S → Prop) → c_S → Nat → Int32 → Int32 → Int32 → Prop} (hB2 : ∀ y0 y1 y2 y3 y4, dt1 (fun Q => B2 Q y0 y1 y2 y3 y4)) (S : c_S) (a0 : Nat) (x1 : Int32) (x2 : Int32) (x3 : Int32) : dt1 (fun Q => kb_X5_showAll_36 L (B2 Q) S a0 x1 x2 x3 Q) := by
  unfold kb_X5_showAll_36
  exact (hB2 _ _ _ _ _)
set_option maxRecDepth 100000 in
set_option maxHeartbeats 4000000 in
theorem db_X5_showAll_2 {L : c_L} {B2 : (c_S → Prop) → c_S → Nat → Int32 → Int32 → Int32 → Prop} (hB2 : ∀ y0 y1 y2 y3 y4, dt1 (fun Q => B2 Q y0 y1 y2 y3 y4)) (S : c_S) (a0 : Nat) (x1 : Int32) (x2 : Int32) (x3 : Int32) : dt1 (fun Q => kb_X5_showAll_2 L (B2 Q) S a0 x1 x2 x3 Q) := by
  unfold kb_X5_showAll_2
  exact (if1 (b11 (dm_X5_wakeAll _ _ _) fun S4_ => lf1) (gd1 (ex1 fun a9_ => (gd1 (ifn1 (db_X5_showAll_36 hB2 _ _ _ _ _) (gd1 (gd1 (db_X5_showAll_36 hB2 _ _ _ _ _))))))))
theorem dl_X5_showAll_2 {L : c_L} (n : Nat) (S : c_S) (a0 : Nat) (x1 : Int32) (x2 : Int32) (x3 : Int32) : dt1 (fun Q => kl_X5_showAll_2 L  n S a0 x1 x2 x3 Q) := by
  induction n generalizing S a0 x1 x2 x3 with
  | zero => exact fa1
  | succ n ih => exact db_X5_showAll_2 (B2 := fun Q y0 y1 y2 y3 y4 => kl_X5_showAll_2 L  n y0 y1 y2 y3 y4 Q) (fun y0 y1 y2 y3 y4 => ih y0 y1 y2 y3 y4) _ _ _ _ _
set_option maxRecDepth 100000 in
set_option maxHeartbeats 4000000 in
theorem dm_X5_showAll {L : c_L} (S : c_S) (a0 : Nat) (x1 : Int32) (x2 : Int32) : dt1 (fun Q => km_X5_showAll L  S a0 x1 x2 Q) := by
  unfold km_X5_showAll
  exact (exn1 fun n18_ => (dl_X5_showAll_2 _ _ _ _ _ _))
set_option maxRecDepth 100000 in
set_option maxHeartbeats 4000000 in
theorem dm_X0_readBoard {L : c_L} (S : c_S) (a0 : Nat) (r1 : Option Nat) (x2 : Int32) (x3 : Int32) : dt2 (fun Q => km_X0_readBoard L  S a0 r1 x2 x3 Q) := by
  unfold km_X0_readBoard
  exact (b22 (dm_X0_isNoTime _ _ _) fun x4_ S3_ => (if2 (ex2 fun a6_ => (gd2 (ifn2 (ex2 fun a11_ => (gd2 (gd2 lf2))) (b22 (dm_X0_waitFor _ _ _ _) fun x18_ S17_ => lf2)))) lf2))
set_option maxRecDepth 100000 in
set_option maxHeartbeats 4000000 in
theorem db_X0_ofWords_119 {L : c_L} (S : c_S) (xs0 : Int32) : dt2 (fun Q => kb_X0_ofWords_119 L  S xs0 Q) := by
  unfold kb_X0_ofWords_119
  exact lf2
set_option maxRecDepth 100000 in
set_option maxHeartbeats 4000000 in
theorem db_X0_ofWords_11 {L : c_L} (S : c_S) (a0 : Nat) (x1 : Int32) (x2 : Int32) (x3 : Int32) (x4 : Int32) (xs0 : Int32) : dt2 (fun Q => kb_X0_ofWords_11 L  S a0 x1 x2 x3 x4 xs0 Q) := by
  unfold kb_X0_ofWords_11
  exact (ex2 fun a2_ => (gd2 (b22 (dm_X5_thingAt _ _ _ _) fun r7_ S6_ => (ifn2 (by
    have e0 : (x1 = (13 : Int32)) ↔ (x1).toInt = 13 := sw_iff (by decide)
    have e1 : (x1 = (14 : Int32)) ↔ (x1).toInt = 14 := sw_iff (by decide)
    have e2 : (x1 = (15 : Int32)) ↔ (x1).toInt = 15 := sw_iff (by decide)
    have e3 : (x1 = (16 : Int32)) ↔ (x1).toInt = 16 := sw_iff (by decide)
    have ex : (x1.toInt < 13 ∨ 16 < x1.toInt) ∨ (x1 = (13 : Int32)) ∨ (x1 = (14 : Int32)) ∨ (x1 = (15 : Int32)) ∨ (x1 = (16 : Int32)) := by
      simp only [e0, e1, e2, e3]; omega
    intro P h
    have t0 : dt2 (fun Q : Int32 → c_S → Prop => (km_X0_readBoard L S6_ a0 r7_ ((xs0 * (8 : Int32)) + x2) x3 (fun x12_ S11_ => (Q x12_ S11_)))) := (b22 (dm_X0_readBoard _ _ _ _ _) fun x12_ S11_ => lf2)
    have t1 : dt2 (fun Q : Int32 → c_S → Prop => (km_X0_putIntoBuffer L S6_ a0 r7_ ((xs0 * (8 : Int32)) + x2) x3 x4 (fun x16_ S15_ => (Q x16_ S15_)))) := (b22 (dm_X0_putIntoBuffer _ _ _ _ _ _) fun x16_ S15_ => lf2)
    have t2 : dt2 (fun Q : Int32 → c_S → Prop => (km_X0_isNoTime L S6_ a0 x3 (fun x20_ S19_ => ((x20_ = 0 → (∃ a22_ : Nat, r7_ = some a22_ ∧ (c_mk L 10 a22_ ∧ (km_X0_takeFrom L S19_ a0 (c_qu a22_) ((xs0 * (8 : Int32)) + x2) x3 (c_P S19_ 1 a0) ((xs0 * (8 : Int32)) + x2) (c_I S19_ 2004 a22_) (fun x28_ S27_ => (kb_X0_ofWords_119 L S27_ x28_ Q)))))) ∧ (¬ x20_ = 0 → (kb_X0_ofWords_119 L S19_ (1 : Int32) Q)))))) := (b22 (dm_X0_isNoTime _ _ _) fun x20_ S19_ => (if2 (ex2 fun a22_ => (gd2 (b22 (dm_X0_takeFrom _ _ _ _ _ _ _ _) fun x28_ S27_ => (db_X0_ofWords_119 _ _)))) (db_X0_ofWords_119 _ _)))
    have t3 : dt2 (fun Q : Int32 → c_S → Prop => (∃ a29_ : Nat, r7_ = some a29_ ∧ (c_mk L 10 a29_ ∧ (∃ a33_ : Nat, (c_P (cs_I (cs_I S6_ 2001 a29_ (1 : Int32)) 2005 a29_ x3) 1 a0) = some a33_ ∧ (c_mk L 5 a33_ ∧ (km_X5_showAll L (cs_I (cs_I S6_ 2001 a29_ (1 : Int32)) 2005 a29_ x3) a33_ ((xs0 * (8 : Int32)) + x2) x3 (fun S37_ => (Q (0 : Int32) S37_)))))))) := (ex2 fun a29_ => (gd2 (ex2 fun a33_ => (gd2 (b12 (dm_X5_showAll _ _ _ _) fun S37_ => lf2)))))
    have t4 : dt2 (fun Q : Int32 → c_S → Prop => (∃ a38_ : Nat, r7_ = some a38_ ∧ (c_mk L 10 a38_ ∧ (Q (0 : Int32) (cs_I S6_ 2001 a38_ (0 : Int32)))))) := (ex2 fun a38_ => (gd2 lf2))
    rcases ex with hc | hc | hc | hc | hc
    · obtain ⟨v, s, hp, hr⟩ := t0 P (h.1 hc)
      try simp only [e0, e1, e2, e3] at hc
      exact ⟨v, s, hp, fun Q hq => ⟨fun _ => hr Q hq, fun h2 => absurd hc (by (try simp only [e0, e1, e2, e3] at h2); omega), fun h2 => absurd hc (by (try simp only [e0, e1, e2, e3] at h2); omega), fun h2 => absurd hc (by (try simp only [e0, e1, e2, e3] at h2); omega), fun h2 => absurd hc (by (try simp only [e0, e1, e2, e3] at h2); omega)⟩⟩
    · obtain ⟨v, s, hp, hr⟩ := t1 P (h.2.1 hc)
      try simp only [e0, e1, e2, e3] at hc
      exact ⟨v, s, hp, fun Q hq => ⟨fun h2 => absurd hc (by (try simp only [e0, e1, e2, e3] at h2); omega), fun _ => hr Q hq, fun h2 => absurd hc (by (try simp only [e0, e1, e2, e3] at h2); omega), fun h2 => absurd hc (by (try simp only [e0, e1, e2, e3] at h2); omega), fun h2 => absurd hc (by (try simp only [e0, e1, e2, e3] at h2); omega)⟩⟩
    · obtain ⟨v, s, hp, hr⟩ := t2 P (h.2.2.1 hc)
      try simp only [e0, e1, e2, e3] at hc
      exact ⟨v, s, hp, fun Q hq => ⟨fun h2 => absurd hc (by (try simp only [e0, e1, e2, e3] at h2); omega), fun h2 => absurd hc (by (try simp only [e0, e1, e2, e3] at h2); omega), fun _ => hr Q hq, fun h2 => absurd hc (by (try simp only [e0, e1, e2, e3] at h2); omega), fun h2 => absurd hc (by (try simp only [e0, e1, e2, e3] at h2); omega)⟩⟩
    · obtain ⟨v, s, hp, hr⟩ := t3 P (h.2.2.2.1 hc)
      try simp only [e0, e1, e2, e3] at hc
      exact ⟨v, s, hp, fun Q hq => ⟨fun h2 => absurd hc (by (try simp only [e0, e1, e2, e3] at h2); omega), fun h2 => absurd hc (by (try simp only [e0, e1, e2, e3] at h2); omega), fun h2 => absurd hc (by (try simp only [e0, e1, e2, e3] at h2); omega), fun _ => hr Q hq, fun h2 => absurd hc (by (try simp only [e0, e1, e2, e3] at h2); omega)⟩⟩
    · obtain ⟨v, s, hp, hr⟩ := t4 P (h.2.2.2.2 hc)
      try simp only [e0, e1, e2, e3] at hc
      exact ⟨v, s, hp, fun Q hq => ⟨fun h2 => absurd hc (by (try simp only [e0, e1, e2, e3] at h2); omega), fun h2 => absurd hc (by (try simp only [e0, e1, e2, e3] at h2); omega), fun h2 => absurd hc (by (try simp only [e0, e1, e2, e3] at h2); omega), fun h2 => absurd hc (by (try simp only [e0, e1, e2, e3] at h2); omega), fun _ => hr Q hq⟩⟩) lf2))))
set_option maxRecDepth 100000 in
set_option maxHeartbeats 4000000 in
theorem dm_X0_ofWords {L : c_L} (S : c_S) (a0 : Nat) (x1 : Int32) (x2 : Int32) (x3 : Int32) (x4 : Int32) : dt2 (fun Q => km_X0_ofWords L  S a0 x1 x2 x3 x4 Q) := by
  unfold km_X0_ofWords
  exact (if2 (db_X0_ofWords_11 _ _ _ _ _ _ _) (db_X0_ofWords_11 _ _ _ _ _ _ _))
set_option maxRecDepth 100000 in
set_option maxHeartbeats 4000000 in
theorem db_X6_channelAt_22 {L : c_L} (S : c_S) (rs0 : Option Nat) : dt2 (fun Q => kb_X6_channelAt_22 L  S rs0 Q) := by
  unfold kb_X6_channelAt_22
  exact lf2
set_option maxRecDepth 100000 in
set_option maxHeartbeats 4000000 in
theorem db_X6_channelAt_12 {L : c_L} (S : c_S) : dt2 (fun Q => kb_X6_channelAt_12 L  S Q) := by
  unfold kb_X6_channelAt_12
  exact (db_X6_channelAt_22 _ _)
set_option maxRecDepth 100000 in
set_option maxHeartbeats 4000000 in
theorem dm_X6_channelAt {L : c_L} (S : c_S) (a0 : Nat) (x1 : Int32) : dt2 (fun Q => km_X6_channelAt L  S a0 x1 Q) := by
  unfold km_X6_channelAt
  exact (if2 (db_X6_channelAt_12 _) (if2 (gd2 (db_X6_channelAt_22 _ _)) (db_X6_channelAt_12 _)))
set_option maxRecDepth 100000 in
set_option maxHeartbeats 4000000 in
theorem db_X2_show_46 {L : c_L} (S : c_S) (a0 : Nat) : dt1 (fun Q => kb_X2_show_46 L  S a0 Q) := by
  unfold kb_X2_show_46
  exact lf1
set_option maxRecDepth 100000 in
set_option maxHeartbeats 4000000 in
theorem dm_X2_show {L : c_L} (S : c_S) (a0 : Nat) (x1 : Int32) (x2 : Int32) (x3 : Int32) : dt1 (fun Q => km_X2_show L  S a0 x1 x2 x3 Q) := by
  unfold km_X2_show
  exact (if1 (db_X2_show_46 _ _) (gd1 (gd1 (gd1 (al1 fun S16_ => (db_X2_show_46 _ _))))))
set_option maxRecDepth 100000 in
set_option maxHeartbeats 4000000 in
theorem dm_X8_empty {L : c_L} (S : c_S) (a0 : Nat) : dt1 (fun Q => km_X8_empty L  S a0 Q) := by
  unfold km_X8_empty
  exact lf1
set_option maxRecDepth 100000 in
set_option maxHeartbeats 4000000 in
theorem dm_X1_sample {L : c_L} (S : c_S) (a0 : Nat) (x1 : Int32) (x2 : Int32) : dt1 (fun Q => km_X1_sample L  S a0 x1 x2 Q) := by
  unfold km_X1_sample
  exact (b11 (dm_X8_empty _ _) fun S6_ => (b21 (dm_X8_add _ _ _) fun x13_ S12_ => lf1))
set_option maxRecDepth 100000 in
set_option maxHeartbeats 4000000 in
theorem db_X6_carry_83 {L : c_L} (S : c_S) : dt2 (fun Q => kb_X6_carry_83 L  S Q) := by
  unfold kb_X6_carry_83
  exact lf2
set_option maxRecDepth 100000 in
set_option maxHeartbeats 4000000 in
theorem db_X6_carry_85 {L : c_L} (S : c_S) (r1 : Option Nat) (x2 : Int32) : dt2 (fun Q => kb_X6_carry_85 L  S r1 x2 Q) := by
  unfold kb_X6_carry_85
  exact (ex2 fun a1_ => (gd2 (b22 (dm_X8_add _ _ _) fun x9_ S8_ => (gd2 lf2))))
set_option maxRecDepth 100000 in
set_option maxHeartbeats 4000000 in
theorem db_X6_carry_2 {L : c_L} {B2 : (Int32 → c_S → Prop) → c_S → Nat → Option Nat → Int32 → Int32 → Prop} (hB2 : ∀ y0 y1 y2 y3 y4, dt2 (fun Q => B2 Q y0 y1 y2 y3 y4)) (S : c_S) (a0 : Nat) (r1 : Option Nat) (x2 : Int32) (x3 : Int32) : dt2 (fun Q => kb_X6_carry_2 L (B2 Q) S a0 r1 x2 x3 Q) := by
  unfold kb_X6_carry_2
  exact (ex2 fun a10_ => (gd2 (if2 (ifn2 (if2 (db_X6_carry_83 _) (if2 (db_X6_carry_85 _ _ _) (ex2 fun a17_ => (gd2 (b22 (dm_X5_giveTaker _ _ _ _ _) fun x22_ S21_ => (if2 (db_X6_carry_85 _ _ _) (db_X6_carry_83 _))))))) (b12 (dm_X1_sample _ _ _ _) fun S26_ => lf2)) (b12 (dm_X2_show _ _ _ _ _) fun S32_ => (hB2 _ _ _ _ _)))))
theorem dl_X6_carry_2 {L : c_L} (n : Nat) (S : c_S) (a0 : Nat) (r1 : Option Nat) (x2 : Int32) (x3 : Int32) : dt2 (fun Q => kl_X6_carry_2 L  n S a0 r1 x2 x3 Q) := by
  induction n generalizing S a0 r1 x2 x3 with
  | zero => exact fa2
  | succ n ih => exact db_X6_carry_2 (B2 := fun Q y0 y1 y2 y3 y4 => kl_X6_carry_2 L  n y0 y1 y2 y3 y4 Q) (fun y0 y1 y2 y3 y4 => ih y0 y1 y2 y3 y4) _ _ _ _ _
set_option maxRecDepth 100000 in
set_option maxHeartbeats 4000000 in
theorem dm_X6_carry {L : c_L} (S : c_S) (a0 : Nat) (r1 : Option Nat) (x2 : Int32) : dt2 (fun Q => km_X6_carry L  S a0 r1 x2 Q) := by
  unfold km_X6_carry
  exact (exn2 fun n33_ => (dl_X6_carry_2 _ _ _ _ _ _))
set_option maxRecDepth 100000 in
set_option maxHeartbeats 4000000 in
theorem db_X0_send_40 {L : c_L} (S : c_S) : dt2 (fun Q => kb_X0_send_40 L  S Q) := by
  unfold kb_X0_send_40
  exact lf2
set_option maxRecDepth 100000 in
set_option maxHeartbeats 4000000 in
theorem db_X0_send_90 {L : c_L} (S : c_S) (xs0 : Int32) : dt2 (fun Q => kb_X0_send_90 L  S xs0 Q) := by
  unfold kb_X0_send_90
  exact lf2
set_option maxRecDepth 100000 in
set_option maxHeartbeats 4000000 in
theorem db_X0_send_42 {L : c_L} (S : c_S) (a0 : Nat) (x1 : Int32) (x2 : Int32) (x3 : Int32) (r4 : Option Nat) : dt2 (fun Q => kb_X0_send_42 L  S a0 x1 x2 x3 r4 Q) := by
  unfold kb_X0_send_42
  exact (ex2 fun a2_ => (gd2 (ex2 fun a5_ => (gd2 (b22 (dm_X6_channelAt _ _ _) fun r10_ S9_ => (ifn2 (ex2 fun a13_ => (gd2 (b22 (dm_X6_carry _ _ _ _) fun x18_ S17_ => (if2 (b22 (dm_X0_waitWith _ _ _ _ _) fun x23_ S22_ => (db_X0_send_90 _ _)) (db_X0_send_90 _ _))))) lf2))))))
set_option maxRecDepth 100000 in
set_option maxHeartbeats 4000000 in
theorem dm_X0_send {L : c_L} (S : c_S) (a0 : Nat) (x1 : Int32) (x2 : Int32) (x3 : Int32) : dt2 (fun Q => km_X0_send L  S a0 x1 x2 x3 Q) := by
  unfold km_X0_send
  exact (ex2 fun a25_ => (gd2 (b22 (dm_X5_thingAt _ _ _ _) fun r30_ S29_ => (if2 (db_X0_send_40 _) (ex2 fun a32_ => (gd2 (if2 (db_X0_send_40 _) (if2 (db_X0_send_42 _ _ _ _ _ _) (b22 (dm_X0_isNoTime _ _ _) fun x40_ S39_ => (if2 (db_X0_send_42 _ _ _ _ _ _) (db_X0_send_40 _)))))))))))
set_option maxRecDepth 100000 in
set_option maxHeartbeats 4000000 in
theorem db_X0_receive_36 {L : c_L} (S : c_S) : dt2 (fun Q => kb_X0_receive_36 L  S Q) := by
  unfold kb_X0_receive_36
  exact lf2
set_option maxRecDepth 100000 in
set_option maxHeartbeats 4000000 in
theorem db_X0_receive_146 {L : c_L} (S : c_S) (xs0 : Int32) : dt2 (fun Q => kb_X0_receive_146 L  S xs0 Q) := by
  unfold kb_X0_receive_146
  exact lf2
set_option maxRecDepth 100000 in
set_option maxHeartbeats 4000000 in
theorem db_X0_receive_38 {L : c_L} (S : c_S) (a0 : Nat) (x1 : Int32) (x2 : Int32) (r3 : Option Nat) : dt2 (fun Q => kb_X0_receive_38 L  S a0 x1 x2 r3 Q) := by
  unfold kb_X0_receive_38
  exact (ex2 fun a2_ => (gd2 (ex2 fun a5_ => (gd2 (b22 (dm_X6_channelAt _ _ _) fun r10_ S9_ => (ifn2 (ex2 fun a12_ => (gd2 (if2 (ifn2 (b22 (dm_X8_at _ _ _) fun x23_ S22_ => (ex2 fun a24_ => (gd2 (gd2 (if2 (db_X0_receive_146 _ _) (db_X0_receive_146 _ _)))))) lf2) (b22 (dm_X0_takeFrom _ _ _ _ _ _ _ _) fun x34_ S33_ => lf2)))) lf2))))))
set_option maxRecDepth 100000 in
set_option maxHeartbeats 4000000 in
theorem dm_X0_receive {L : c_L} (S : c_S) (a0 : Nat) (x1 : Int32) (x2 : Int32) : dt2 (fun Q => km_X0_receive L  S a0 x1 x2 Q) := by
  unfold km_X0_receive
  exact (ex2 fun a36_ => (gd2 (b22 (dm_X5_thingAt _ _ _ _) fun r41_ S40_ => (if2 (db_X0_receive_36 _) (ex2 fun a43_ => (gd2 (ifn2 (db_X0_receive_36 _) (if2 (db_X0_receive_38 _ _ _ _ _) (b22 (dm_X0_isNoTime _ _ _) fun x51_ S50_ => (if2 (db_X0_receive_38 _ _ _ _ _) (db_X0_receive_36 _)))))))))))
set_option maxRecDepth 100000 in
set_option maxHeartbeats 4000000 in
theorem dm_X5_lockBy {L : c_L} (S : c_S) (a0 : Nat) (r1 : Option Nat) : dt1 (fun Q => km_X5_lockBy L  S a0 r1 Q) := by
  unfold km_X5_lockBy
  exact (ex1 fun a2_ => (gd1 (al1 fun S5_ => lf1)))
set_option maxRecDepth 100000 in
set_option maxHeartbeats 4000000 in
theorem dm_X0_lock {L : c_L} (S : c_S) (a0 : Nat) : dt2 (fun Q => km_X0_lock L  S a0 Q) := by
  unfold km_X0_lock
  exact (ex2 fun a2_ => (gd2 (if2 (ex2 fun a6_ => (gd2 (if2 (b12 (dm_X5_lockBy _ _ _) fun S11_ => lf2) lf2))) lf2)))
set_option maxRecDepth 100000 in
set_option maxHeartbeats 4000000 in
theorem db_X5_unlockOnce_22 {L : c_L} (S : c_S) : dt1 (fun Q => kb_X5_unlockOnce_22 L  S Q) := by
  unfold kb_X5_unlockOnce_22
  exact lf1
set_option maxRecDepth 100000 in
set_option maxHeartbeats 4000000 in
theorem dm_X5_unlockOnce {L : c_L} (S : c_S) (a0 : Nat) : dt1 (fun Q => km_X5_unlockOnce L  S a0 Q) := by
  unfold km_X5_unlockOnce
  exact (ifn1 (db_X5_unlockOnce_22 _) (db_X5_unlockOnce_22 _))
set_option maxRecDepth 100000 in
set_option maxHeartbeats 4000000 in
theorem dm_X0_unlock {L : c_L} (S : c_S) (a0 : Nat) : dt2 (fun Q => km_X0_unlock L  S a0 Q) := by
  unfold km_X0_unlock
  exact (ex2 fun a2_ => (gd2 (if2 (ex2 fun a6_ => (gd2 (if2 (b12 (dm_X5_unlockOnce _ _) fun S11_ => lf2) lf2))) lf2)))
set_option maxRecDepth 100000 in
set_option maxHeartbeats 4000000 in
theorem db_X5_allRest_2 {L : c_L} {B2 : (c_S → Prop) → c_S → Nat → Int32 → Prop} (hB2 : ∀ y0 y1 y2, dt1 (fun Q => B2 Q y0 y1 y2)) (S : c_S) (a0 : Nat) (x1 : Int32) : dt1 (fun Q => kb_X5_allRest_2 L (B2 Q) S a0 x1 Q) := by
  unfold kb_X5_allRest_2
  exact (if1 (al1 fun S3_ => lf1) (gd1 (ex1 fun a8_ => (gd1 (b11 (dm_X7_leave _ _ _) fun S12_ => (hB2 _ _ _))))))
theorem dl_X5_allRest_2 {L : c_L} (n : Nat) (S : c_S) (a0 : Nat) (x1 : Int32) : dt1 (fun Q => kl_X5_allRest_2 L  n S a0 x1 Q) := by
  induction n generalizing S a0 x1 with
  | zero => exact fa1
  | succ n ih => exact db_X5_allRest_2 (B2 := fun Q y0 y1 y2 => kl_X5_allRest_2 L  n y0 y1 y2 Q) (fun y0 y1 y2 => ih y0 y1 y2) _ _ _
set_option maxRecDepth 100000 in
set_option maxHeartbeats 4000000 in
theorem dm_X5_allRest {L : c_L} (S : c_S) (a0 : Nat) : dt1 (fun Q => km_X5_allRest L  S a0 Q) := by
  unfold km_X5_allRest
  exact (exn1 fun n13_ => (dl_X5_allRest_2 _ _ _ _))
set_option maxRecDepth 100000 in
set_option maxHeartbeats 4000000 in
theorem dm_X5_goIdle {L : c_L} (S : c_S) (a0 : Nat) : dt1 (fun Q => km_X5_goIdle L  S a0 Q) := by
  unfold km_X5_goIdle
  exact (b11 (dm_X5_allRest _ _) fun S3_ => lf1)
set_option maxRecDepth 100000 in
set_option maxHeartbeats 4000000 in
theorem db_X10_empty_22 {L : c_L} (S : c_S) : dt1 (fun Q => kb_X10_empty_22 L  S Q) := by
  unfold kb_X10_empty_22
  exact lf1
set_option maxRecDepth 100000 in
set_option maxHeartbeats 4000000 in
theorem dm_X10_empty {L : c_L} (S : c_S) (a0 : Nat) : dt1 (fun Q => km_X10_empty L  S a0 Q) := by
  unfold km_X10_empty
  exact (if1 (db_X10_empty_22 _) (ex1 fun a3_ => (gd1 (b11 (dm_X8_empty _ _) fun S7_ => (db_X10_empty_22 _)))))
set_option maxRecDepth 100000 in
set_option maxHeartbeats 4000000 in
theorem dm_X4_restore {L : c_L} (S : c_S) (a0 : Nat) : dt1 (fun Q => km_X4_restore L  S a0 Q) := by
  unfold km_X4_restore
  exact (gd1 (gd1 (gd1 (gd1 (gd1 lf1)))))
set_option maxRecDepth 100000 in
set_option maxHeartbeats 4000000 in
theorem db_X5_beginAnew_31 {L : c_L} {B22 : (c_S → Prop) → c_S → Nat → Int32 → Int32 → Int32 → Prop} (hB22 : ∀ y0 y1 y2 y3 y4, dt1 (fun Q => B22 Q y0 y1 y2 y3 y4)) {B31 : (c_S → Prop) → c_S → Nat → Int32 → Int32 → Int32 → Int32 → Prop} (hB31 : ∀ y0 y1 y2 y3 y4 y5, dt1 (fun Q => B31 Q y0 y1 y2 y3 y4 y5)) (S : c_S) (a0 : Nat) (x1 : Int32) (x3 : Int32) (x4 : Int32) (x5 : Int32) : dt1 (fun Q => kb_X5_beginAnew_31 L (B22 Q) (B31 Q) S a0 x1 x3 x4 x5 Q) := by
  unfold kb_X5_beginAnew_31
  exact (gd1 (if1 (hB22 _ _ _ _ _) (gd1 (ex1 fun a11_ => (gd1 (b11 (dm_X10_empty _ _) fun S15_ => (hB31 _ _ _ _ _ _)))))))
theorem dl_X5_beginAnew_31 {L : c_L} {B22 : (c_S → Prop) → c_S → Nat → Int32 → Int32 → Int32 → Prop} (hB22 : ∀ y0 y1 y2 y3 y4, dt1 (fun Q => B22 Q y0 y1 y2 y3 y4)) (n : Nat) (S : c_S) (a0 : Nat) (x1 : Int32) (x3 : Int32) (x4 : Int32) (x5 : Int32) : dt1 (fun Q => kl_X5_beginAnew_31 L (B22 Q) n S a0 x1 x3 x4 x5 Q) := by
  induction n generalizing S a0 x1 x3 x4 x5 with
  | zero => exact fa1
  | succ n ih => exact db_X5_beginAnew_31 (B22 := B22) (B31 := fun Q y0 y1 y2 y3 y4 y5 => kl_X5_beginAnew_31 L (B22 Q) n y0 y1 y2 y3 y4 y5 Q) hB22 (fun y0 y1 y2 y3 y4 y5 => ih y0 y1 y2 y3 y4 y5) _ _ _ _ _ _
set_option maxRecDepth 100000 in
set_option maxHeartbeats 4000000 in
theorem db_X5_beginAnew_133 {L : c_L} {B85 : (c_S → Prop) → c_S → Nat → Int32 → Int32 → Prop} (hB85 : ∀ y0 y1 y2 y3, dt1 (fun Q => B85 Q y0 y1 y2 y3)) (S : c_S) (a0 : Nat) (x3 : Int32) (x4 : Int32) : dt1 (fun Q => kb_X5_beginAnew_133 L (B85 Q) S a0 x3 x4 Q) := by
  unfold kb_X5_beginAnew_133
  exact (hB85 _ _ _ _)
set_option maxRecDepth 100000 in
set_option maxHeartbeats 4000000 in
theorem db_X5_beginAnew_85 {L : c_L} {B85 : (c_S → Prop) → c_S → Nat → Int32 → Int32 → Prop} (hB85 : ∀ y0 y1 y2 y3, dt1 (fun Q => B85 Q y0 y1 y2 y3)) (S : c_S) (a0 : Nat) (x3 : Int32) (x4 : Int32) : dt1 (fun Q => kb_X5_beginAnew_85 L (B85 Q) S a0 x3 x4 Q) := by
  unfold kb_X5_beginAnew_85
  exact (if1 lf1 (gd1 (ex1 fun a22_ => (gd1 (ifn1 (db_X5_beginAnew_133 hB85 _ _ _ _) (ifn1 (db_X5_beginAnew_133 hB85 _ _ _ _) (b11 (dm_X5_start _ _ _ _ _) fun S28_ => (db_X5_beginAnew_133 hB85 _ _ _ _))))))))
theorem dl_X5_beginAnew_85 {L : c_L} (n : Nat) (S : c_S) (a0 : Nat) (x3 : Int32) (x4 : Int32) : dt1 (fun Q => kl_X5_beginAnew_85 L  n S a0 x3 x4 Q) := by
  induction n generalizing S a0 x3 x4 with
  | zero => exact fa1
  | succ n ih => exact db_X5_beginAnew_85 (B85 := fun Q y0 y1 y2 y3 => kl_X5_beginAnew_85 L  n y0 y1 y2 y3 Q) (fun y0 y1 y2 y3 => ih y0 y1 y2 y3) _ _ _ _
set_option maxRecDepth 100000 in
set_option maxHeartbeats 4000000 in
theorem db_X5_beginAnew_82 {L : c_L} (S : c_S) (a0 : Nat) (x3 : Int32) : dt1 (fun Q => kb_X5_beginAnew_82 L  S a0 x3 Q) := by
  unfold kb_X5_beginAnew_82
  exact (exn1 fun n29_ => (dl_X5_beginAnew_85 _ _ _ _ _))
set_option maxRecDepth 100000 in
set_option maxHeartbeats 4000000 in
theorem db_X5_beginAnew_22 {L : c_L} {B22 : (c_S → Prop) → c_S → Nat → Int32 → Int32 → Int32 → Prop} (hB22 : ∀ y0 y1 y2 y3 y4, dt1 (fun Q => B22 Q y0 y1 y2 y3 y4)) (S : c_S) (a0 : Nat) (x1 : Int32) (x3 : Int32) (x4 : Int32) : dt1 (fun Q => kb_X5_beginAnew_22 L (B22 Q) S a0 x1 x3 x4 Q) := by
  unfold kb_X5_beginAnew_22
  exact (if1 (if1 (db_X5_beginAnew_82 _ _ _) (b11 (dm_X4_restore _ _) fun S37_ => (db_X5_beginAnew_82 _ _ _))) (exn1 fun n38_ => (dl_X5_beginAnew_31 hB22 _ _ _ _ _ _ _)))
theorem dl_X5_beginAnew_22 {L : c_L} (n : Nat) (S : c_S) (a0 : Nat) (x1 : Int32) (x3 : Int32) (x4 : Int32) : dt1 (fun Q => kl_X5_beginAnew_22 L  n S a0 x1 x3 x4 Q) := by
  induction n generalizing S a0 x1 x3 x4 with
  | zero => exact fa1
  | succ n ih => exact db_X5_beginAnew_22 (B22 := fun Q y0 y1 y2 y3 y4 => kl_X5_beginAnew_22 L  n y0 y1 y2 y3 y4 Q) (fun y0 y1 y2 y3 y4 => ih y0 y1 y2 y3 y4) _ _ _ _ _
set_option maxRecDepth 100000 in
set_option maxHeartbeats 4000000 in
theorem dm_X5_beginAnew {L : c_L} (S : c_S) (a0 : Nat) (x1 : Int32) (x2 : Int32) (x3 : Int32) : dt1 (fun Q => km_X5_beginAnew L  S a0 x1 x2 x3 Q) := by
  unfold km_X5_beginAnew
  exact (b11 (dm_X5_allRest _ _) fun S41_ => (al1 fun S43_ => (exn1 fun n44_ => (dl_X5_beginAnew_22 _ _ _ _ _ _))))
set_option maxRecDepth 100000 in
set_option maxHeartbeats 4000000 in
theorem db_X0_beginPartition_9 {L : c_L} (S : c_S) : dt2 (fun Q => kb_X0_beginPartition_9 L  S Q) := by
  unfold kb_X0_beginPartition_9
  exact lf2
set_option maxRecDepth 100000 in
set_option maxHeartbeats 4000000 in
theorem db_X0_beginPartition_57 {L : c_L} (S : c_S) : dt2 (fun Q => kb_X0_beginPartition_57 L  S Q) := by
  unfold kb_X0_beginPartition_57
  exact lf2
set_option maxRecDepth 100000 in
set_option maxHeartbeats 4000000 in
theorem db_X0_beginPartition_50 {L : c_L} (S : c_S) (a0 : Nat) (rs0 : Option Nat) (xs1 : Int32) (xs2 : Int32) : dt2 (fun Q => kb_X0_beginPartition_50 L  S a0 rs0 xs1 xs2 Q) := by
  unfold kb_X0_beginPartition_50
  exact (ex2 fun a2_ => (gd2 (b12 (dm_X5_beginAnew _ _ _ _ _) fun S6_ => (db_X0_beginPartition_57 _))))
set_option maxRecDepth 100000 in
set_option maxHeartbeats 4000000 in
theorem db_X0_beginPartition_40 {L : c_L} (S : c_S) (a0 : Nat) (x1 : Int32) (rs0 : Option Nat) (xs1 : Int32) : dt2 (fun Q => kb_X0_beginPartition_40 L  S a0 x1 rs0 xs1 Q) := by
  unfold kb_X0_beginPartition_40
  exact (ifn2 (db_X0_beginPartition_50 _ _ _ _ _) (db_X0_beginPartition_50 _ _ _ _ _))
set_option maxRecDepth 100000 in
set_option maxHeartbeats 4000000 in
theorem dm_X0_beginPartition {L : c_L} (S : c_S) (a0 : Nat) (x1 : Int32) : dt2 (fun Q => km_X0_beginPartition L  S a0 x1 Q) := by
  unfold km_X0_beginPartition
  exact (if2 (db_X0_beginPartition_9 _) (if2 (ifn2 (ifn2 (db_X0_beginPartition_40 _ _ _ _ _) (db_X0_beginPartition_40 _ _ _ _ _)) (ex2 fun a14_ => (gd2 (b12 (dm_X5_goIdle _ _) fun S18_ => (db_X0_beginPartition_57 _))))) (db_X0_beginPartition_9 _)))
set_option maxRecDepth 100000 in
set_option maxHeartbeats 4000000 in
theorem dm_X0_tellFault {L : c_L} (S : c_S) (a0 : Nat) : dt2 (fun Q => km_X0_tellFault L  S a0 Q) := by
  unfold km_X0_tellFault
  exact (ex2 fun a2_ => (gd2 (ifn2 (ex2 fun a6_ => (gd2 (b22 (dm_X5_processAt _ _ _) fun r11_ S10_ => (ifn2 (ex2 fun a14_ => (gd2 (ex2 fun a17_ => (gd2 (gd2 (ex2 fun a21_ => (gd2 (gd2 (al2 fun S25_ => (ex2 fun a26_ => (gd2 (ex2 fun a29_ => (gd2 (gd2 (ex2 fun a33_ => (gd2 lf2)))))))))))))))) lf2)))) lf2)))
set_option maxRecDepth 100000 in
set_option maxHeartbeats 4000000 in
theorem db_X0_decide_42 {L : c_L} (S : c_S) : dt2 (fun Q => kb_X0_decide_42 L  S Q) := by
  unfold kb_X0_decide_42
  exact lf2
set_option maxRecDepth 100000 in
set_option maxHeartbeats 4000000 in
theorem db_X0_decide_125 {L : c_L} (S : c_S) : dt2 (fun Q => kb_X0_decide_125 L  S Q) := by
  unfold kb_X0_decide_125
  exact lf2
set_option maxRecDepth 100000 in
set_option maxHeartbeats 4000000 in
theorem db_X0_decide_113 {L : c_L} (S : c_S) (a0 : Nat) (r2 : Option Nat) (rs0 : Option Nat) (xs1 : Int32) (xs2 : Int32) : dt2 (fun Q => kb_X0_decide_113 L  S a0 r2 rs0 xs1 xs2 Q) := by
  unfold kb_X0_decide_113
  exact (ex2 fun a1_ => (gd2 (ex2 fun a5_ => (gd2 (b12 (dm_X5_makeReady _ _ _) fun S9_ => (db_X0_decide_125 _))))))
set_option maxRecDepth 100000 in
set_option maxHeartbeats 4000000 in
theorem dm_X0_decide {L : c_L} (S : c_S) (a0 : Nat) (x1 : Int32) : dt2 (fun Q => km_X0_decide L  S a0 x1 Q) := by
  unfold km_X0_decide
  exact (ex2 fun a11_ => (gd2 (ifn2 (ex2 fun a15_ => (gd2 (b22 (dm_X5_processAt _ _ _) fun r20_ S19_ => (ifn2 (if2 (db_X0_decide_42 _) (if2 (ifn2 (ifn2 (ex2 fun a27_ => (gd2 (ex2 fun a30_ => (gd2 (ex2 fun a33_ => (gd2 (ifn2 (db_X0_decide_113 _ _ _ _ _ _) (db_X0_decide_113 _ _ _ _ _ _)))))))) (ex2 fun a38_ => (gd2 (b12 (dm_X5_start _ _ _ _ _) fun S42_ => (db_X0_decide_125 _))))) (ex2 fun a44_ => (gd2 (b12 (dm_X5_rest _ _ _) fun S48_ => (db_X0_decide_125 _))))) (db_X0_decide_42 _))) lf2)))) lf2)))
set_option maxRecDepth 100000 in
set_option maxHeartbeats 4000000 in
theorem dm_X0_ofPartition {L : c_L} (S : c_S) (a0 : Nat) (x1 : Int32) (x2 : Int32) : dt2 (fun Q => km_X0_ofPartition L  S a0 x1 x2 Q) := by
  unfold km_X0_ofPartition
  exact (by
    have e0 : (x1 = (21 : Int32)) ↔ (x1).toInt = 21 := sw_iff (by decide)
    have e1 : (x1 = (22 : Int32)) ↔ (x1).toInt = 22 := sw_iff (by decide)
    have e2 : (x1 = (23 : Int32)) ↔ (x1).toInt = 23 := sw_iff (by decide)
    have e3 : (x1 = (24 : Int32)) ↔ (x1).toInt = 24 := sw_iff (by decide)
    have ex : (x1.toInt < 21 ∨ 24 < x1.toInt) ∨ (x1 = (21 : Int32)) ∨ (x1 = (22 : Int32)) ∨ (x1 = (23 : Int32)) ∨ (x1 = (24 : Int32)) := by
      simp only [e0, e1, e2, e3]; omega
    intro P h
    have t0 : dt2 (fun Q : Int32 → c_S → Prop => (km_X0_decide L S a0 x2 (fun x4_ S3_ => (Q x4_ S3_)))) := (b22 (dm_X0_decide _ _ _) fun x4_ S3_ => lf2)
    have t1 : dt2 (fun Q : Int32 → c_S → Prop => (km_X0_lock L S a0 (fun x8_ S7_ => (Q x8_ S7_)))) := (b22 (dm_X0_lock _ _) fun x8_ S7_ => lf2)
    have t2 : dt2 (fun Q : Int32 → c_S → Prop => (km_X0_unlock L S a0 (fun x12_ S11_ => (Q x12_ S11_)))) := (b22 (dm_X0_unlock _ _) fun x12_ S11_ => lf2)
    have t3 : dt2 (fun Q : Int32 → c_S → Prop => (km_X0_beginPartition L S a0 x2 (fun x16_ S15_ => (Q x16_ S15_)))) := (b22 (dm_X0_beginPartition _ _ _) fun x16_ S15_ => lf2)
    have t4 : dt2 (fun Q : Int32 → c_S → Prop => (km_X0_tellFault L S a0 (fun x20_ S19_ => (Q x20_ S19_)))) := (b22 (dm_X0_tellFault _ _) fun x20_ S19_ => lf2)
    rcases ex with hc | hc | hc | hc | hc
    · obtain ⟨v, s, hp, hr⟩ := t0 P (h.1 hc)
      try simp only [e0, e1, e2, e3] at hc
      exact ⟨v, s, hp, fun Q hq => ⟨fun _ => hr Q hq, fun h2 => absurd hc (by (try simp only [e0, e1, e2, e3] at h2); omega), fun h2 => absurd hc (by (try simp only [e0, e1, e2, e3] at h2); omega), fun h2 => absurd hc (by (try simp only [e0, e1, e2, e3] at h2); omega), fun h2 => absurd hc (by (try simp only [e0, e1, e2, e3] at h2); omega)⟩⟩
    · obtain ⟨v, s, hp, hr⟩ := t1 P (h.2.1 hc)
      try simp only [e0, e1, e2, e3] at hc
      exact ⟨v, s, hp, fun Q hq => ⟨fun h2 => absurd hc (by (try simp only [e0, e1, e2, e3] at h2); omega), fun _ => hr Q hq, fun h2 => absurd hc (by (try simp only [e0, e1, e2, e3] at h2); omega), fun h2 => absurd hc (by (try simp only [e0, e1, e2, e3] at h2); omega), fun h2 => absurd hc (by (try simp only [e0, e1, e2, e3] at h2); omega)⟩⟩
    · obtain ⟨v, s, hp, hr⟩ := t2 P (h.2.2.1 hc)
      try simp only [e0, e1, e2, e3] at hc
      exact ⟨v, s, hp, fun Q hq => ⟨fun h2 => absurd hc (by (try simp only [e0, e1, e2, e3] at h2); omega), fun h2 => absurd hc (by (try simp only [e0, e1, e2, e3] at h2); omega), fun _ => hr Q hq, fun h2 => absurd hc (by (try simp only [e0, e1, e2, e3] at h2); omega), fun h2 => absurd hc (by (try simp only [e0, e1, e2, e3] at h2); omega)⟩⟩
    · obtain ⟨v, s, hp, hr⟩ := t3 P (h.2.2.2.1 hc)
      try simp only [e0, e1, e2, e3] at hc
      exact ⟨v, s, hp, fun Q hq => ⟨fun h2 => absurd hc (by (try simp only [e0, e1, e2, e3] at h2); omega), fun h2 => absurd hc (by (try simp only [e0, e1, e2, e3] at h2); omega), fun h2 => absurd hc (by (try simp only [e0, e1, e2, e3] at h2); omega), fun _ => hr Q hq, fun h2 => absurd hc (by (try simp only [e0, e1, e2, e3] at h2); omega)⟩⟩
    · obtain ⟨v, s, hp, hr⟩ := t4 P (h.2.2.2.2 hc)
      try simp only [e0, e1, e2, e3] at hc
      exact ⟨v, s, hp, fun Q hq => ⟨fun h2 => absurd hc (by (try simp only [e0, e1, e2, e3] at h2); omega), fun h2 => absurd hc (by (try simp only [e0, e1, e2, e3] at h2); omega), fun h2 => absurd hc (by (try simp only [e0, e1, e2, e3] at h2); omega), fun h2 => absurd hc (by (try simp only [e0, e1, e2, e3] at h2); omega), fun _ => hr Q hq⟩⟩)
set_option maxRecDepth 100000 in
set_option maxHeartbeats 4000000 in
theorem db_X0_waitToGoOn_32 {L : c_L} (S : c_S) (xs0 : Int32) : dt2 (fun Q => kb_X0_waitToGoOn_32 L  S xs0 Q) := by
  unfold kb_X0_waitToGoOn_32
  exact lf2
set_option maxRecDepth 100000 in
set_option maxHeartbeats 4000000 in
theorem dm_X0_waitToGoOn {L : c_L} (S : c_S) (a0 : Nat) (x1 : Int32) : dt2 (fun Q => km_X0_waitToGoOn L  S a0 x1 Q) := by
  unfold km_X0_waitToGoOn
  exact (b22 (dm_X0_isNoTime _ _ _) fun x4_ S3_ => (if2 (ex2 fun a7_ => (gd2 (if2 (b22 (dm_X0_waitFor _ _ _ _) fun x13_ S12_ => (db_X0_waitToGoOn_32 _ _)) (db_X0_waitToGoOn_32 _ _)))) lf2))
set_option maxRecDepth 100000 in
set_option maxHeartbeats 4000000 in
theorem db_X0_hold_28 {L : c_L} (S : c_S) : dt2 (fun Q => kb_X0_hold_28 L  S Q) := by
  unfold kb_X0_hold_28
  exact lf2
set_option maxRecDepth 100000 in
set_option maxHeartbeats 4000000 in
theorem db_X0_hold_58 {L : c_L} (S : c_S) : dt2 (fun Q => kb_X0_hold_58 L  S Q) := by
  unfold kb_X0_hold_58
  exact lf2
set_option maxRecDepth 100000 in
set_option maxHeartbeats 4000000 in
theorem db_X0_hold_82 {L : c_L} (S : c_S) : dt2 (fun Q => kb_X0_hold_82 L  S Q) := by
  unfold kb_X0_hold_82
  exact lf2
set_option maxRecDepth 100000 in
set_option maxHeartbeats 4000000 in
theorem db_X0_hold_60 {L : c_L} (S : c_S) (r2 : Option Nat) : dt2 (fun Q => kb_X0_hold_60 L  S r2 Q) := by
  unfold kb_X0_hold_60
  exact (ex2 fun a1_ => (gd2 (if2 (db_X0_hold_82 _) (if2 (db_X0_hold_82 _) (if2 lf2 (db_X0_hold_82 _))))))
set_option maxRecDepth 100000 in
set_option maxHeartbeats 4000000 in
theorem dm_X0_hold {L : c_L} (S : c_S) (a0 : Nat) (x1 : Int32) : dt2 (fun Q => km_X0_hold L  S a0 x1 Q) := by
  unfold km_X0_hold
  exact (ex2 fun a8_ => (gd2 (b22 (dm_X5_processAt _ _ _) fun r13_ S12_ => (if2 (db_X0_hold_28 _) (gd2 (gd2 (if2 (db_X0_hold_28 _) (ex2 fun a17_ => (gd2 (if2 (if2 (db_X0_hold_58 _) (ex2 fun a22_ => (gd2 (if2 (db_X0_hold_60 _ _) (ifn2 (db_X0_hold_60 _ _) (db_X0_hold_58 _)))))) (db_X0_hold_28 _)))))))))))
set_option maxRecDepth 100000 in
set_option maxHeartbeats 4000000 in
theorem db_X0_letGoOn_81 {L : c_L} (S : c_S) : dt2 (fun Q => kb_X0_letGoOn_81 L  S Q) := by
  unfold kb_X0_letGoOn_81
  exact lf2
set_option maxRecDepth 100000 in
set_option maxHeartbeats 4000000 in
theorem db_X0_letGoOn_44 {L : c_L} (S : c_S) (a0 : Nat) (r2 : Option Nat) (x3 : Int32) : dt2 (fun Q => kb_X0_letGoOn_44 L  S a0 r2 x3 Q) := by
  unfold kb_X0_letGoOn_44
  exact (ex2 fun a1_ => (gd2 (if2 (ifn2 (db_X0_letGoOn_81 _) (ex2 fun a7_ => (gd2 (b12 (dm_X5_toTheBack _ _ _) fun S11_ => (db_X0_letGoOn_81 _))))) (ex2 fun a13_ => (gd2 (b12 (dm_X5_answerWaiter _ _ _ _) fun S17_ => (db_X0_letGoOn_81 _)))))))
set_option maxRecDepth 100000 in
set_option maxHeartbeats 4000000 in
theorem db_X0_letGoOn_30 {L : c_L} (S : c_S) (a0 : Nat) (r2 : Option Nat) (xs0 : Int32) : dt2 (fun Q => kb_X0_letGoOn_30 L  S a0 r2 xs0 Q) := by
  unfold kb_X0_letGoOn_30
  exact (ifn2 (db_X0_letGoOn_44 _ _ _ _) (ex2 fun a19_ => (gd2 (ifn2 (db_X0_letGoOn_44 _ _ _ _) lf2))))
set_option maxRecDepth 100000 in
set_option maxHeartbeats 4000000 in
theorem dm_X0_letGoOn {L : c_L} (S : c_S) (a0 : Nat) (x1 : Int32) : dt2 (fun Q => km_X0_letGoOn L  S a0 x1 Q) := by
  unfold km_X0_letGoOn
  exact (ex2 fun a24_ => (gd2 (b22 (dm_X5_processAt _ _ _) fun r29_ S28_ => (ifn2 (ex2 fun a31_ => (gd2 (ifn2 (db_X0_letGoOn_30 _ _ _ _) (db_X0_letGoOn_30 _ _ _ _)))) lf2))))
set_option maxRecDepth 100000 in
set_option maxHeartbeats 4000000 in
theorem db_X0_setDue_54 {L : c_L} (S : c_S) : dt2 (fun Q => kb_X0_setDue_54 L  S Q) := by
  unfold kb_X0_setDue_54
  exact lf2
set_option maxRecDepth 100000 in
set_option maxHeartbeats 4000000 in
theorem db_X0_setDue_56 {L : c_L} (S : c_S) (a0 : Nat) (x1 : Int32) : dt2 (fun Q => kb_X0_setDue_56 L  S a0 x1 Q) := by
  unfold kb_X0_setDue_56
  exact (ex2 fun a2_ => (gd2 lf2))
set_option maxRecDepth 100000 in
set_option maxHeartbeats 4000000 in
theorem dm_X0_setDue {L : c_L} (S : c_S) (a0 : Nat) (x1 : Int32) : dt2 (fun Q => km_X0_setDue L  S a0 x1 Q) := by
  unfold km_X0_setDue
  exact (b22 (dm_X0_isNoDelay _ _ _) fun x8_ S7_ => (if2 (ex2 fun a11_ => (gd2 (if2 (db_X0_setDue_54 _) (if2 (db_X0_setDue_56 _ _ _) (if2 (db_X0_setDue_56 _ _ _) (db_X0_setDue_54 _)))))) lf2))
set_option maxRecDepth 100000 in
set_option maxHeartbeats 4000000 in
theorem dm_X0_tellProcess {L : c_L} (S : c_S) (a0 : Nat) (x1 : Int32) : dt2 (fun Q => km_X0_tellProcess L  S a0 x1 Q) := by
  unfold km_X0_tellProcess
  exact (ex2 fun a2_ => (gd2 (b22 (dm_X5_processAt _ _ _) fun r7_ S6_ => (ifn2 (ex2 fun a10_ => (gd2 (ex2 fun a13_ => (gd2 (gd2 (ex2 fun a17_ => (gd2 (gd2 (al2 fun S21_ => (ex2 fun a22_ => (gd2 (gd2 lf2)))))))))))) lf2))))
set_option maxRecDepth 100000 in
set_option maxHeartbeats 4000000 in
theorem dm_X0_ofOthers {L : c_L} (S : c_S) (a0 : Nat) (x1 : Int32) (x2 : Int32) : dt2 (fun Q => km_X0_ofOthers L  S a0 x1 x2 Q) := by
  unfold km_X0_ofOthers
  exact (by
    have e0 : (x1 = (26 : Int32)) ↔ (x1).toInt = 26 := sw_iff (by decide)
    have e1 : (x1 = (27 : Int32)) ↔ (x1).toInt = 27 := sw_iff (by decide)
    have e2 : (x1 = (28 : Int32)) ↔ (x1).toInt = 28 := sw_iff (by decide)
    have e3 : (x1 = (29 : Int32)) ↔ (x1).toInt = 29 := sw_iff (by decide)
    have e4 : (x1 = (30 : Int32)) ↔ (x1).toInt = 30 := sw_iff (by decide)
    have ex : (x1.toInt < 26 ∨ 30 < x1.toInt) ∨ (x1 = (26 : Int32)) ∨ (x1 = (27 : Int32)) ∨ (x1 = (28 : Int32)) ∨ (x1 = (29 : Int32)) ∨ (x1 = (30 : Int32)) := by
      simp only [e0, e1, e2, e3, e4]; omega
    intro P h
    have t0 : dt2 (fun Q : Int32 → c_S → Prop => (∃ a2_ : Nat, (c_P S 2 a0) = some a2_ ∧ (c_mk L 7 a2_ ∧ (Q (c_I S 1400 a2_) S)))) := (ex2 fun a2_ => (gd2 lf2))
    have t1 : dt2 (fun Q : Int32 → c_S → Prop => (km_X0_waitToGoOn L S a0 x2 (fun x8_ S7_ => (Q x8_ S7_)))) := (b22 (dm_X0_waitToGoOn _ _ _) fun x8_ S7_ => lf2)
    have t2 : dt2 (fun Q : Int32 → c_S → Prop => (km_X0_hold L S a0 x2 (fun x12_ S11_ => (Q x12_ S11_)))) := (b22 (dm_X0_hold _ _ _) fun x12_ S11_ => lf2)
    have t3 : dt2 (fun Q : Int32 → c_S → Prop => (km_X0_letGoOn L S a0 x2 (fun x16_ S15_ => (Q x16_ S15_)))) := (b22 (dm_X0_letGoOn _ _ _) fun x16_ S15_ => lf2)
    have t4 : dt2 (fun Q : Int32 → c_S → Prop => (km_X0_setDue L S a0 x2 (fun x20_ S19_ => (Q x20_ S19_)))) := (b22 (dm_X0_setDue _ _ _) fun x20_ S19_ => lf2)
    have t5 : dt2 (fun Q : Int32 → c_S → Prop => (km_X0_tellProcess L S a0 x2 (fun x24_ S23_ => (Q x24_ S23_)))) := (b22 (dm_X0_tellProcess _ _ _) fun x24_ S23_ => lf2)
    rcases ex with hc | hc | hc | hc | hc | hc
    · obtain ⟨v, s, hp, hr⟩ := t0 P (h.1 hc)
      try simp only [e0, e1, e2, e3, e4] at hc
      exact ⟨v, s, hp, fun Q hq => ⟨fun _ => hr Q hq, fun h2 => absurd hc (by (try simp only [e0, e1, e2, e3, e4] at h2); omega), fun h2 => absurd hc (by (try simp only [e0, e1, e2, e3, e4] at h2); omega), fun h2 => absurd hc (by (try simp only [e0, e1, e2, e3, e4] at h2); omega), fun h2 => absurd hc (by (try simp only [e0, e1, e2, e3, e4] at h2); omega), fun h2 => absurd hc (by (try simp only [e0, e1, e2, e3, e4] at h2); omega)⟩⟩
    · obtain ⟨v, s, hp, hr⟩ := t1 P (h.2.1 hc)
      try simp only [e0, e1, e2, e3, e4] at hc
      exact ⟨v, s, hp, fun Q hq => ⟨fun h2 => absurd hc (by (try simp only [e0, e1, e2, e3, e4] at h2); omega), fun _ => hr Q hq, fun h2 => absurd hc (by (try simp only [e0, e1, e2, e3, e4] at h2); omega), fun h2 => absurd hc (by (try simp only [e0, e1, e2, e3, e4] at h2); omega), fun h2 => absurd hc (by (try simp only [e0, e1, e2, e3, e4] at h2); omega), fun h2 => absurd hc (by (try simp only [e0, e1, e2, e3, e4] at h2); omega)⟩⟩
    · obtain ⟨v, s, hp, hr⟩ := t2 P (h.2.2.1 hc)
      try simp only [e0, e1, e2, e3, e4] at hc
      exact ⟨v, s, hp, fun Q hq => ⟨fun h2 => absurd hc (by (try simp only [e0, e1, e2, e3, e4] at h2); omega), fun h2 => absurd hc (by (try simp only [e0, e1, e2, e3, e4] at h2); omega), fun _ => hr Q hq, fun h2 => absurd hc (by (try simp only [e0, e1, e2, e3, e4] at h2); omega), fun h2 => absurd hc (by (try simp only [e0, e1, e2, e3, e4] at h2); omega), fun h2 => absurd hc (by (try simp only [e0, e1, e2, e3, e4] at h2); omega)⟩⟩
    · obtain ⟨v, s, hp, hr⟩ := t3 P (h.2.2.2.1 hc)
      try simp only [e0, e1, e2, e3, e4] at hc
      exact ⟨v, s, hp, fun Q hq => ⟨fun h2 => absurd hc (by (try simp only [e0, e1, e2, e3, e4] at h2); omega), fun h2 => absurd hc (by (try simp only [e0, e1, e2, e3, e4] at h2); omega), fun h2 => absurd hc (by (try simp only [e0, e1, e2, e3, e4] at h2); omega), fun _ => hr Q hq, fun h2 => absurd hc (by (try simp only [e0, e1, e2, e3, e4] at h2); omega), fun h2 => absurd hc (by (try simp only [e0, e1, e2, e3, e4] at h2); omega)⟩⟩
    · obtain ⟨v, s, hp, hr⟩ := t4 P (h.2.2.2.2.1 hc)
      try simp only [e0, e1, e2, e3, e4] at hc
      exact ⟨v, s, hp, fun Q hq => ⟨fun h2 => absurd hc (by (try simp only [e0, e1, e2, e3, e4] at h2); omega), fun h2 => absurd hc (by (try simp only [e0, e1, e2, e3, e4] at h2); omega), fun h2 => absurd hc (by (try simp only [e0, e1, e2, e3, e4] at h2); omega), fun h2 => absurd hc (by (try simp only [e0, e1, e2, e3, e4] at h2); omega), fun _ => hr Q hq, fun h2 => absurd hc (by (try simp only [e0, e1, e2, e3, e4] at h2); omega)⟩⟩
    · obtain ⟨v, s, hp, hr⟩ := t5 P (h.2.2.2.2.2 hc)
      try simp only [e0, e1, e2, e3, e4] at hc
      exact ⟨v, s, hp, fun Q hq => ⟨fun h2 => absurd hc (by (try simp only [e0, e1, e2, e3, e4] at h2); omega), fun h2 => absurd hc (by (try simp only [e0, e1, e2, e3, e4] at h2); omega), fun h2 => absurd hc (by (try simp only [e0, e1, e2, e3, e4] at h2); omega), fun h2 => absurd hc (by (try simp only [e0, e1, e2, e3, e4] at h2); omega), fun h2 => absurd hc (by (try simp only [e0, e1, e2, e3, e4] at h2); omega), fun _ => hr Q hq⟩⟩)
set_option maxRecDepth 100000 in
set_option maxHeartbeats 4000000 in
theorem db_X10_value_21 {L : c_L} (S : c_S) (xs0 : Int32) : dt2 (fun Q => kb_X10_value_21 L  S xs0 Q) := by
  unfold kb_X10_value_21
  exact lf2
set_option maxRecDepth 100000 in
set_option maxHeartbeats 4000000 in
theorem dm_X10_value {L : c_L} (S : c_S) (a0 : Nat) : dt2 (fun Q => km_X10_value L  S a0 Q) := by
  unfold km_X10_value
  exact (ifn2 (ex2 fun a3_ => (gd2 (db_X10_value_21 _ _))) (db_X10_value_21 _ _))
set_option maxRecDepth 100000 in
set_option maxHeartbeats 4000000 in
theorem db_X5_countWaiting_44 {L : c_L} {B4 : (Int32 → c_S → Prop) → c_S → Nat → Int32 → Int32 → Int32 → Prop} (hB4 : ∀ y0 y1 y2 y3 y4, dt2 (fun Q => B4 Q y0 y1 y2 y3 y4)) (S : c_S) (a0 : Nat) (x1 : Int32) (x3 : Int32) (xs0 : Int32) (xs1 : Int32) : dt2 (fun Q => kb_X5_countWaiting_44 L (B4 Q) S a0 x1 x3 xs0 xs1 Q) := by
  unfold kb_X5_countWaiting_44
  exact (hB4 _ _ _ _ _)
set_option maxRecDepth 100000 in
set_option maxHeartbeats 4000000 in
theorem db_X5_countWaiting_39 {L : c_L} {B4 : (Int32 → c_S → Prop) → c_S → Nat → Int32 → Int32 → Int32 → Prop} (hB4 : ∀ y0 y1 y2 y3 y4, dt2 (fun Q => B4 Q y0 y1 y2 y3 y4)) (S : c_S) (a0 : Nat) (x1 : Int32) (x3 : Int32) (xs0 : Int32) : dt2 (fun Q => kb_X5_countWaiting_39 L (B4 Q) S a0 x1 x3 xs0 Q) := by
  unfold kb_X5_countWaiting_39
  exact (db_X5_countWaiting_44 hB4 _ _ _ _ _ _)
set_option maxRecDepth 100000 in
set_option maxHeartbeats 4000000 in
theorem db_X5_countWaiting_4 {L : c_L} {B4 : (Int32 → c_S → Prop) → c_S → Nat → Int32 → Int32 → Int32 → Prop} (hB4 : ∀ y0 y1 y2 y3 y4, dt2 (fun Q => B4 Q y0 y1 y2 y3 y4)) (S : c_S) (a0 : Nat) (x1 : Int32) (x2 : Int32) (x3 : Int32) : dt2 (fun Q => kb_X5_countWaiting_4 L (B4 Q) S a0 x1 x2 x3 Q) := by
  unfold kb_X5_countWaiting_4
  exact (if2 lf2 (gd2 (ex2 fun a7_ => (gd2 (if2 (db_X5_countWaiting_39 hB4 _ _ _ _ _) (ifn2 (db_X5_countWaiting_44 hB4 _ _ _ _ _ _) (db_X5_countWaiting_39 hB4 _ _ _ _ _)))))))
theorem dl_X5_countWaiting_4 {L : c_L} (n : Nat) (S : c_S) (a0 : Nat) (x1 : Int32) (x2 : Int32) (x3 : Int32) : dt2 (fun Q => kl_X5_countWaiting_4 L  n S a0 x1 x2 x3 Q) := by
  induction n generalizing S a0 x1 x2 x3 with
  | zero => exact fa2
  | succ n ih => exact db_X5_countWaiting_4 (B4 := fun Q y0 y1 y2 y3 y4 => kl_X5_countWaiting_4 L  n y0 y1 y2 y3 y4 Q) (fun y0 y1 y2 y3 y4 => ih y0 y1 y2 y3 y4) _ _ _ _ _
set_option maxRecDepth 100000 in
set_option maxHeartbeats 4000000 in
theorem dm_X5_countWaiting {L : c_L} (S : c_S) (a0 : Nat) (x1 : Int32) : dt2 (fun Q => km_X5_countWaiting L  S a0 x1 Q) := by
  unfold km_X5_countWaiting
  exact (exn2 fun n12_ => (dl_X5_countWaiting_4 _ _ _ _ _ _))
set_option maxRecDepth 100000 in
set_option maxHeartbeats 4000000 in
theorem db_X0_tellThing_64 {L : c_L} (S : c_S) (a0 : Nat) (x1 : Int32) (x2 : Int32) (rs0 : Option Nat) (xs1 : Int32) (xs2 : Int32) : dt2 (fun Q => kb_X0_tellThing_64 L  S a0 x1 x2 rs0 xs1 xs2 Q) := by
  unfold kb_X0_tellThing_64
  exact (ex2 fun a1_ => (gd2 (gd2 (ex2 fun a6_ => (gd2 (b22 (dm_X5_countWaiting _ _ _) fun x11_ S10_ => (ex2 fun a12_ => (gd2 (gd2 lf2)))))))))
set_option maxRecDepth 100000 in
set_option maxHeartbeats 4000000 in
theorem db_X0_tellThing_36 {L : c_L} (S : c_S) (a0 : Nat) (x1 : Int32) (x2 : Int32) (r3 : Option Nat) (rs0 : Option Nat) : dt2 (fun Q => kb_X0_tellThing_36 L  S a0 x1 x2 r3 rs0 Q) := by
  unfold kb_X0_tellThing_36
  exact (ifn2 (ex2 fun a18_ => (gd2 (db_X0_tellThing_64 _ _ _ _ _ _ _))) (ex2 fun a24_ => (gd2 (b22 (dm_X10_value _ _) fun x29_ S28_ => (db_X0_tellThing_64 _ _ _ _ _ _ _)))))
set_option maxRecDepth 100000 in
set_option maxHeartbeats 4000000 in
theorem dm_X0_tellThing {L : c_L} (S : c_S) (a0 : Nat) (x1 : Int32) (x2 : Int32) : dt2 (fun Q => km_X0_tellThing L  S a0 x1 x2 Q) := by
  unfold km_X0_tellThing
  exact (ex2 fun a31_ => (gd2 (b22 (dm_X5_thingAt _ _ _ _) fun r36_ S35_ => (ifn2 (ifn2 (db_X0_tellThing_36 _ _ _ _ _ _) (ex2 fun a40_ => (gd2 (ex2 fun a43_ => (gd2 (b22 (dm_X6_channelAt _ _ _) fun r48_ S47_ => (db_X0_tellThing_36 _ _ _ _ _ _))))))) lf2))))
set_option maxRecDepth 100000 in
set_option maxHeartbeats 4000000 in
theorem db_X6_frameTicks_22 {L : c_L} (S : c_S) (xs0 : Int32) : dt2 (fun Q => kb_X6_frameTicks_22 L  S xs0 Q) := by
  unfold kb_X6_frameTicks_22
  exact lf2
set_option maxRecDepth 100000 in
set_option maxHeartbeats 4000000 in
theorem dm_X6_frameTicks {L : c_L} (S : c_S) (a0 : Nat) : dt2 (fun Q => km_X6_frameTicks L  S a0 Q) := by
  unfold km_X6_frameTicks
  exact (ifn2 (gd2 (db_X6_frameTicks_22 _ _)) (db_X6_frameTicks_22 _ _))
set_option maxRecDepth 100000 in
set_option maxHeartbeats 4000000 in
theorem db_X6_tickOfFrame_19 {L : c_L} (S : c_S) (xs0 : Int32) : dt2 (fun Q => kb_X6_tickOfFrame_19 L  S xs0 Q) := by
  unfold kb_X6_tickOfFrame_19
  exact lf2
set_option maxRecDepth 100000 in
set_option maxHeartbeats 4000000 in
theorem dm_X6_tickOfFrame {L : c_L} (S : c_S) (a0 : Nat) : dt2 (fun Q => km_X6_tickOfFrame L  S a0 Q) := by
  unfold km_X6_tickOfFrame
  exact (b22 (dm_X6_frameTicks _ _) fun x4_ S3_ => (if2 (gd2 (db_X6_tickOfFrame_19 _ _)) (db_X6_tickOfFrame_19 _ _)))
set_option maxRecDepth 100000 in
set_option maxHeartbeats 4000000 in
theorem db_X6_windowNow_7 {L : c_L} {B7 : (Int32 → c_S → Prop) → c_S → Nat → Int32 → Int32 → Prop} (hB7 : ∀ y0 y1 y2 y3, dt2 (fun Q => B7 Q y0 y1 y2 y3)) (S : c_S) (a0 : Nat) (x1 : Int32) (x2 : Int32) : dt2 (fun Q => kb_X6_windowNow_7 L (B7 Q) S a0 x1 x2 Q) := by
  unfold kb_X6_windowNow_7
  exact (if2 lf2 (gd2 (if2 (hB7 _ _ _ _) lf2)))
theorem dl_X6_windowNow_7 {L : c_L} (n : Nat) (S : c_S) (a0 : Nat) (x1 : Int32) (x2 : Int32) : dt2 (fun Q => kl_X6_windowNow_7 L  n S a0 x1 x2 Q) := by
  induction n generalizing S a0 x1 x2 with
  | zero => exact fa2
  | succ n ih => exact db_X6_windowNow_7 (B7 := fun Q y0 y1 y2 y3 => kl_X6_windowNow_7 L  n y0 y1 y2 y3 Q) (fun y0 y1 y2 y3 => ih y0 y1 y2 y3) _ _ _ _
set_option maxRecDepth 100000 in
set_option maxHeartbeats 4000000 in
theorem dm_X6_windowNow {L : c_L} (S : c_S) (a0 : Nat) : dt2 (fun Q => km_X6_windowNow L  S a0 Q) := by
  unfold km_X6_windowNow
  exact (b22 (dm_X6_tickOfFrame _ _) fun x11_ S10_ => (exn2 fun n12_ => (dl_X6_windowNow_7 _ _ _ _ _)))
set_option maxRecDepth 100000 in
set_option maxHeartbeats 4000000 in
theorem db_X6_ticksLeft_25 {L : c_L} (S : c_S) (xs0 : Int32) : dt2 (fun Q => kb_X6_ticksLeft_25 L  S xs0 Q) := by
  unfold kb_X6_ticksLeft_25
  exact lf2
set_option maxRecDepth 100000 in
set_option maxHeartbeats 4000000 in
theorem dm_X6_ticksLeft {L : c_L} (S : c_S) (a0 : Nat) : dt2 (fun Q => km_X6_ticksLeft L  S a0 Q) := by
  unfold km_X6_ticksLeft
  exact (b22 (dm_X6_windowNow _ _) fun x4_ S3_ => (ifn2 (gd2 (b22 (dm_X6_tickOfFrame _ _) fun x13_ S12_ => (db_X6_ticksLeft_25 _ _))) (db_X6_ticksLeft_25 _ _)))
set_option maxRecDepth 100000 in
set_option maxHeartbeats 4000000 in
theorem db_X6_ticksBetween_76 {L : c_L} {B9 : (Int32 → c_S → Prop) → c_S → Nat → Int32 → Int32 → Int32 → Prop} (hB9 : ∀ y0 y1 y2 y3 y4, dt2 (fun Q => B9 Q y0 y1 y2 y3 y4)) (S : c_S) (a0 : Nat) (x1 : Int32) (x3 : Int32) (xs0 : Int32) (xs1 : Int32) (xs2 : Int32) : dt2 (fun Q => kb_X6_ticksBetween_76 L (B9 Q) S a0 x1 x3 xs0 xs1 xs2 Q) := by
  unfold kb_X6_ticksBetween_76
  exact (hB9 _ _ _ _ _)
set_option maxRecDepth 100000 in
set_option maxHeartbeats 4000000 in
theorem db_X6_ticksBetween_85 {L : c_L} (S : c_S) (x2 : Int32) : dt2 (fun Q => kb_X6_ticksBetween_85 L  S x2 Q) := by
  unfold kb_X6_ticksBetween_85
  exact lf2
set_option maxRecDepth 100000 in
set_option maxHeartbeats 4000000 in
theorem db_X6_ticksBetween_9 {L : c_L} {B9 : (Int32 → c_S → Prop) → c_S → Nat → Int32 → Int32 → Int32 → Prop} (hB9 : ∀ y0 y1 y2 y3 y4, dt2 (fun Q => B9 Q y0 y1 y2 y3 y4)) (S : c_S) (a0 : Nat) (x1 : Int32) (x2 : Int32) (x3 : Int32) : dt2 (fun Q => kb_X6_ticksBetween_9 L (B9 Q) S a0 x1 x2 x3 Q) := by
  unfold kb_X6_ticksBetween_9
  exact (if2 (db_X6_ticksBetween_85 _ _) (if2 (db_X6_ticksBetween_85 _ _) (gd2 (gd2 (gd2 (ifn2 (gd2 (ifn2 (gd2 (db_X6_ticksBetween_76 hB9 _ _ _ _ _ _ _)) (db_X6_ticksBetween_76 hB9 _ _ _ _ _ _ _))) lf2))))))
theorem dl_X6_ticksBetween_9 {L : c_L} (n : Nat) (S : c_S) (a0 : Nat) (x1 : Int32) (x2 : Int32) (x3 : Int32) : dt2 (fun Q => kl_X6_ticksBetween_9 L  n S a0 x1 x2 x3 Q) := by
  induction n generalizing S a0 x1 x2 x3 with
  | zero => exact fa2
  | succ n ih => exact db_X6_ticksBetween_9 (B9 := fun Q y0 y1 y2 y3 y4 => kl_X6_ticksBetween_9 L  n y0 y1 y2 y3 y4 Q) (fun y0 y1 y2 y3 y4 => ih y0 y1 y2 y3 y4) _ _ _ _ _
set_option maxRecDepth 100000 in
set_option maxHeartbeats 4000000 in
theorem dm_X6_ticksBetween {L : c_L} (S : c_S) (a0 : Nat) : dt2 (fun Q => km_X6_ticksBetween L  S a0 Q) := by
  unfold km_X6_ticksBetween
  exact (b22 (dm_X6_windowNow _ _) fun x20_ S19_ => (exn2 fun n21_ => (dl_X6_ticksBetween_9 _ _ _ _ _ _)))
set_option maxRecDepth 100000 in
set_option maxHeartbeats 4000000 in
theorem db_X4_holds_17 {L : c_L} (S : c_S) (xs0 : Int32) : dt2 (fun Q => kb_X4_holds_17 L  S xs0 Q) := by
  unfold kb_X4_holds_17
  exact (gd2 lf2)
set_option maxRecDepth 100000 in
set_option maxHeartbeats 4000000 in
theorem db_X4_holds_16 {L : c_L} (S : c_S) : dt2 (fun Q => kb_X4_holds_16 L  S Q) := by
  unfold kb_X4_holds_16
  exact (db_X4_holds_17 _ _)
set_option maxRecDepth 100000 in
set_option maxHeartbeats 4000000 in
theorem dm_X4_holds {L : c_L} (S : c_S) (a0 : Nat) (x1 : Int32) : dt2 (fun Q => km_X4_holds L  S a0 x1 Q) := by
  unfold km_X4_holds
  exact (if2 (db_X4_holds_16 _) (if2 (db_X4_holds_16 _) (db_X4_holds_17 _ _)))
set_option maxRecDepth 100000 in
set_option maxHeartbeats 4000000 in
theorem db_X4_maskOf_17 {L : c_L} (S : c_S) (xs0 : Int32) : dt2 (fun Q => kb_X4_maskOf_17 L  S xs0 Q) := by
  unfold kb_X4_maskOf_17
  exact lf2
set_option maxRecDepth 100000 in
set_option maxHeartbeats 4000000 in
theorem dm_X4_maskOf {L : c_L} (S : c_S) (x0 : Int32) : dt2 (fun Q => km_X4_maskOf L  S x0 Q) := by
  unfold km_X4_maskOf
  exact (if2 (db_X4_maskOf_17 _ _) (db_X4_maskOf_17 _ _))
set_option maxRecDepth 100000 in
set_option maxHeartbeats 4000000 in
theorem db_X4_partAt_32 {L : c_L} (S : c_S) (xs0 : Int32) : dt2 (fun Q => kb_X4_partAt_32 L  S xs0 Q) := by
  unfold kb_X4_partAt_32
  exact lf2
set_option maxRecDepth 100000 in
set_option maxHeartbeats 4000000 in
theorem dm_X4_partAt {L : c_L} (S : c_S) (a0 : Nat) (x1 : Int32) (x2 : Int32) : dt2 (fun Q => km_X4_partAt L  S a0 x1 x2 Q) := by
  unfold km_X4_partAt
  exact (b22 (dm_X4_holds _ _ _) fun x4_ S3_ => (if2 (db_X4_partAt_32 _ _) (gd2 (b22 (dm_X4_maskOf _ _) fun x13_ S12_ => (db_X4_partAt_32 _ _)))))
set_option maxRecDepth 100000 in
set_option maxHeartbeats 4000000 in
theorem db_X11_nameDigit_42 {L : c_L} (S : c_S) (xs0 : Int32) : dt2 (fun Q => kb_X11_nameDigit_42 L  S xs0 Q) := by
  unfold kb_X11_nameDigit_42
  exact lf2
set_option maxRecDepth 100000 in
set_option maxHeartbeats 4000000 in
theorem db_X11_nameDigit_41 {L : c_L} (S : c_S) : dt2 (fun Q => kb_X11_nameDigit_41 L  S Q) := by
  unfold kb_X11_nameDigit_41
  exact (db_X11_nameDigit_42 _ _)
set_option maxRecDepth 100000 in
set_option maxHeartbeats 4000000 in
theorem db_X11_nameDigit_19 {L : c_L} (S : c_S) (x0 : Int32) : dt2 (fun Q => kb_X11_nameDigit_19 L  S x0 Q) := by
  unfold kb_X11_nameDigit_19
  exact (if2 (db_X11_nameDigit_41 _) (if2 (db_X11_nameDigit_41 _) (db_X11_nameDigit_42 _ _)))
set_option maxRecDepth 100000 in
set_option maxHeartbeats 4000000 in
theorem dm_X11_nameDigit {L : c_L} (S : c_S) (x0 : Int32) : dt2 (fun Q => km_X11_nameDigit L  S x0 Q) := by
  unfold km_X11_nameDigit
  exact (if2 (db_X11_nameDigit_19 _ _) (if2 (db_X11_nameDigit_19 _ _) lf2))
set_option maxRecDepth 100000 in
set_option maxHeartbeats 4000000 in
theorem db_X4_nameAt_5 {L : c_L} {B5 : (Int64 → c_S → Prop) → c_S → Nat → Int32 → Int32 → Int64 → Int32 → Prop} (hB5 : ∀ y0 y1 y2 y3 y4 y5, dt2 (fun Q => B5 Q y0 y1 y2 y3 y4 y5)) (S : c_S) (a0 : Nat) (x1 : Int32) (x2 : Int32) (z3 : Int64) (x5 : Int32) : dt2 (fun Q => kb_X4_nameAt_5 L (B5 Q) S a0 x1 x2 z3 x5 Q) := by
  unfold kb_X4_nameAt_5
  exact (if2 lf2 (b22 (dm_X4_partAt _ _ _ _) fun x5_ S4_ => (b22 (dm_X11_nameDigit _ _) fun x8_ S7_ => (ifn2 (hB5 _ _ _ _ _ _) lf2))))
theorem dl_X4_nameAt_5 {L : c_L} (n : Nat) (S : c_S) (a0 : Nat) (x1 : Int32) (x2 : Int32) (z3 : Int64) (x5 : Int32) : dt2 (fun Q => kl_X4_nameAt_5 L  n S a0 x1 x2 z3 x5 Q) := by
  induction n generalizing S a0 x1 x2 z3 x5 with
  | zero => exact fa2
  | succ n ih => exact db_X4_nameAt_5 (B5 := fun Q y0 y1 y2 y3 y4 y5 => kl_X4_nameAt_5 L  n y0 y1 y2 y3 y4 y5 Q) (fun y0 y1 y2 y3 y4 y5 => ih y0 y1 y2 y3 y4 y5) _ _ _ _ _ _
set_option maxRecDepth 100000 in
set_option maxHeartbeats 4000000 in
theorem dm_X4_nameAt {L : c_L} (S : c_S) (a0 : Nat) (x1 : Int32) (x2 : Int32) : dt2 (fun Q => km_X4_nameAt L  S a0 x1 x2 Q) := by
  unfold km_X4_nameAt
  exact (exn2 fun n10_ => (dl_X4_nameAt_5 _ _ _ _ _ _ _))
set_option maxRecDepth 100000 in
set_option maxHeartbeats 4000000 in
theorem db_X5_named_63 {L : c_L} {B23 : (Int32 → c_S → Prop) → c_S → Nat → Int32 → Int64 → Int32 → Int32 → Prop} (hB23 : ∀ y0 y1 y2 y3 y4 y5, dt2 (fun Q => B23 Q y0 y1 y2 y3 y4 y5)) (S : c_S) (a0 : Nat) (x1 : Int32) (z2 : Int64) (x4 : Int32) (x5 : Int32) (zs0 : Int64) : dt2 (fun Q => kb_X5_named_63 L (B23 Q) S a0 x1 z2 x4 x5 zs0 Q) := by
  unfold kb_X5_named_63
  exact (ifn2 (hB23 _ _ _ _ _ _) lf2)
set_option maxRecDepth 100000 in
set_option maxHeartbeats 4000000 in
theorem db_X5_named_23 {L : c_L} {B23 : (Int32 → c_S → Prop) → c_S → Nat → Int32 → Int64 → Int32 → Int32 → Prop} (hB23 : ∀ y0 y1 y2 y3 y4 y5, dt2 (fun Q => B23 Q y0 y1 y2 y3 y4 y5)) (S : c_S) (a0 : Nat) (x1 : Int32) (z2 : Int64) (x4 : Int32) (x5 : Int32) : dt2 (fun Q => kb_X5_named_23 L (B23 Q) S a0 x1 z2 x4 x5 Q) := by
  unfold kb_X5_named_23
  exact (if2 lf2 (ifn2 (gd2 (ex2 fun a9_ => (gd2 (db_X5_named_63 hB23 _ _ _ _ _ _ _)))) (gd2 (ex2 fun a17_ => (gd2 (db_X5_named_63 hB23 _ _ _ _ _ _ _))))))
theorem dl_X5_named_23 {L : c_L} (n : Nat) (S : c_S) (a0 : Nat) (x1 : Int32) (z2 : Int64) (x4 : Int32) (x5 : Int32) : dt2 (fun Q => kl_X5_named_23 L  n S a0 x1 z2 x4 x5 Q) := by
  induction n generalizing S a0 x1 z2 x4 x5 with
  | zero => exact fa2
  | succ n ih => exact db_X5_named_23 (B23 := fun Q y0 y1 y2 y3 y4 y5 => kl_X5_named_23 L  n y0 y1 y2 y3 y4 y5 Q) (fun y0 y1 y2 y3 y4 y5 => ih y0 y1 y2 y3 y4 y5) _ _ _ _ _ _
set_option maxRecDepth 100000 in
set_option maxHeartbeats 4000000 in
theorem db_X5_named_18 {L : c_L} (S : c_S) (a0 : Nat) (x1 : Int32) (z2 : Int64) (xs0 : Int32) : dt2 (fun Q => kb_X5_named_18 L  S a0 x1 z2 xs0 Q) := by
  unfold kb_X5_named_18
  exact (exn2 fun n20_ => (dl_X5_named_23 _ _ _ _ _ _ _))
set_option maxRecDepth 100000 in
set_option maxHeartbeats 4000000 in
theorem dm_X5_named {L : c_L} (S : c_S) (a0 : Nat) (x1 : Int32) (z2 : Int64) : dt2 (fun Q => km_X5_named L  S a0 x1 z2 Q) := by
  unfold km_X5_named
  exact (ifn2 (gd2 (db_X5_named_18 _ _ _ _ _)) (db_X5_named_18 _ _ _ _ _))
set_option maxRecDepth 100000 in
set_option maxHeartbeats 4000000 in
theorem db_X0_findNamed_20 {L : c_L} (S : c_S) : dt2 (fun Q => kb_X0_findNamed_20 L  S Q) := by
  unfold kb_X0_findNamed_20
  exact lf2
set_option maxRecDepth 100000 in
set_option maxHeartbeats 4000000 in
theorem db_X0_findNamed_42 {L : c_L} (S : c_S) : dt2 (fun Q => kb_X0_findNamed_42 L  S Q) := by
  unfold kb_X0_findNamed_42
  exact lf2
set_option maxRecDepth 100000 in
set_option maxHeartbeats 4000000 in
theorem dm_X0_findNamed {L : c_L} (S : c_S) (a0 : Nat) (x1 : Int32) (x2 : Int32) (x3 : Int32) : dt2 (fun Q => km_X0_findNamed L  S a0 x1 x2 x3 Q) := by
  unfold km_X0_findNamed
  exact (if2 (db_X0_findNamed_20 _) (if2 (db_X0_findNamed_20 _) (if2 (db_X0_findNamed_20 _) (if2 (if2 (db_X0_findNamed_42 _) (ex2 fun a7_ => (gd2 (if2 (b22 (dm_X4_nameAt _ _ _ _) fun z16_ S15_ => (b22 (dm_X5_named _ _ _ _) fun x20_ S19_ => (ifn2 (ex2 fun a23_ => (gd2 (gd2 lf2))) lf2))) (db_X0_findNamed_42 _))))) (db_X0_findNamed_20 _)))))
set_option maxRecDepth 100000 in
set_option maxHeartbeats 4000000 in
theorem db_X0_ofLooks_101 {L : c_L} (S : c_S) (xs0 : Int32) : dt2 (fun Q => kb_X0_ofLooks_101 L  S xs0 Q) := by
  unfold kb_X0_ofLooks_101
  exact lf2
set_option maxRecDepth 100000 in
set_option maxHeartbeats 4000000 in
theorem dm_X0_ofLooks {L : c_L} (S : c_S) (a0 : Nat) (x1 : Int32) (x2 : Int32) (x3 : Int32) (x4 : Int32) : dt2 (fun Q => km_X0_ofLooks L  S a0 x1 x2 x3 x4 Q) := by
  unfold km_X0_ofLooks
  exact (by
    have e0 : (x1 = (32 : Int32)) ↔ (x1).toInt = 32 := sw_iff (by decide)
    have e1 : (x1 = (33 : Int32)) ↔ (x1).toInt = 33 := sw_iff (by decide)
    have e2 : (x1 = (34 : Int32)) ↔ (x1).toInt = 34 := sw_iff (by decide)
    have e3 : (x1 = (35 : Int32)) ↔ (x1).toInt = 35 := sw_iff (by decide)
    have ex : (x1.toInt < 32 ∨ 35 < x1.toInt) ∨ (x1 = (32 : Int32)) ∨ (x1 = (33 : Int32)) ∨ (x1 = (34 : Int32)) ∨ (x1 = (35 : Int32)) := by
      simp only [e0, e1, e2, e3]; omega
    intro P h
    have t0 : dt2 (fun Q : Int32 → c_S → Prop => (km_X0_findNamed L S a0 x2 x3 x4 (fun x4_ S3_ => (Q x4_ S3_)))) := (b22 (dm_X0_findNamed _ _ _ _ _) fun x4_ S3_ => lf2)
    have t1 : dt2 (fun Q : Int32 → c_S → Prop => (∃ a6_ : Nat, (c_P S 1 a0) = some a6_ ∧ (c_mk L 5 a6_ ∧ (∃ a9_ : Nat, (c_P S 3 a0) = some a9_ ∧ (c_mk L 7 a9_ ∧ (vp_in (11 : Int32) 32 ∧ (∃ a13_ : Nat, (c_P (cs_A S 1411 a9_ (11 : Int32).toNatClampNeg (c_I S 1000 a6_)) 1 a0) = some a13_ ∧ (c_mk L 5 a13_ ∧ (∃ a16_ : Nat, (c_P (cs_A S 1411 a9_ (11 : Int32).toNatClampNeg (c_I S 1000 a6_)) 3 a0) = some a16_ ∧ (c_mk L 7 a16_ ∧ (vp_in (12 : Int32) 32 ∧ (∀ S20_ : c_S, S20_ = (cs_A (cs_A S 1411 a9_ (11 : Int32).toNatClampNeg (c_I S 1000 a6_)) 1411 a16_ (12 : Int32).toNatClampNeg (c_I (cs_A S 1411 a9_ (11 : Int32).toNatClampNeg (c_I S 1000 a6_)) 1010 a13_)) → (∃ a21_ : Nat, (c_P S20_ 1 a0) = some a21_ ∧ (c_mk L 5 a21_ ∧ (∃ a24_ : Nat, (c_P S20_ 3 a0) = some a24_ ∧ (c_mk L 7 a24_ ∧ (vp_in (13 : Int32) 32 ∧ (Q (0 : Int32) (cs_A S20_ 1411 a24_ (13 : Int32).toNatClampNeg (c_I S20_ 1013 a21_)))))))))))))))))))) := (ex2 fun a6_ => (gd2 (ex2 fun a9_ => (gd2 (gd2 (ex2 fun a13_ => (gd2 (ex2 fun a16_ => (gd2 (gd2 (al2 fun S20_ => (ex2 fun a21_ => (gd2 (ex2 fun a24_ => (gd2 (gd2 lf2))))))))))))))))
    have t2 : dt2 (fun Q : Int32 → c_S → Prop => (km_X0_tellThing L S a0 x2 x3 (fun x31_ S30_ => (Q x31_ S30_)))) := (b22 (dm_X0_tellThing _ _ _ _) fun x31_ S30_ => lf2)
    have t3 : dt2 (fun Q : Int32 → c_S → Prop => (km_X0_isNoDelay L S a0 x3 (fun x35_ S34_ => ((x35_ = 0 → (km_X0_startOther L S34_ a0 x2 x3 (fun x40_ S39_ => (kb_X0_ofLooks_101 L S39_ x40_ Q)))) ∧ (¬ x35_ = 0 → (kb_X0_ofLooks_101 L S34_ (1 : Int32) Q)))))) := (b22 (dm_X0_isNoDelay _ _ _) fun x35_ S34_ => (if2 (b22 (dm_X0_startOther _ _ _ _) fun x40_ S39_ => (db_X0_ofLooks_101 _ _)) (db_X0_ofLooks_101 _ _)))
    have t4 : dt2 (fun Q : Int32 → c_S → Prop => (∃ a42_ : Nat, (c_P S 0 a0) = some a42_ ∧ (c_mk L 6 a42_ ∧ (km_X6_ticksLeft L S a42_ (fun x47_ S46_ => (∃ a48_ : Nat, (c_P S 3 a0) = some a48_ ∧ (c_mk L 7 a48_ ∧ (vp_in (11 : Int32) 32 ∧ (∃ a53_ : Nat, (c_P (cs_A S46_ 1411 a48_ (11 : Int32).toNatClampNeg x47_) 0 a0) = some a53_ ∧ (c_mk L 6 a53_ ∧ (km_X6_ticksBetween L (cs_A S46_ 1411 a48_ (11 : Int32).toNatClampNeg x47_) a53_ (fun x58_ S57_ => (∃ a59_ : Nat, (c_P (cs_A S46_ 1411 a48_ (11 : Int32).toNatClampNeg x47_) 3 a0) = some a59_ ∧ (c_mk L 7 a59_ ∧ (vp_in (12 : Int32) 32 ∧ (∃ a64_ : Nat, (c_P (cs_A S57_ 1411 a59_ (12 : Int32).toNatClampNeg x58_) 0 a0) = some a64_ ∧ (c_mk L 6 a64_ ∧ (km_X6_frameTicks L (cs_A S57_ 1411 a59_ (12 : Int32).toNatClampNeg x58_) a64_ (fun x69_ S68_ => (∃ a70_ : Nat, (c_P (cs_A S57_ 1411 a59_ (12 : Int32).toNatClampNeg x58_) 3 a0) = some a70_ ∧ (c_mk L 7 a70_ ∧ (vp_in (13 : Int32) 32 ∧ (Q (0 : Int32) (cs_A S68_ 1411 a70_ (13 : Int32).toNatClampNeg x69_)))))))))))))))))))))))) := (ex2 fun a42_ => (gd2 (b22 (dm_X6_ticksLeft _ _) fun x47_ S46_ => (ex2 fun a48_ => (gd2 (gd2 (ex2 fun a53_ => (gd2 (b22 (dm_X6_ticksBetween _ _) fun x58_ S57_ => (ex2 fun a59_ => (gd2 (gd2 (ex2 fun a64_ => (gd2 (b22 (dm_X6_frameTicks _ _) fun x69_ S68_ => (ex2 fun a70_ => (gd2 (gd2 lf2))))))))))))))))))
    rcases ex with hc | hc | hc | hc | hc
    · obtain ⟨v, s, hp, hr⟩ := t0 P (h.1 hc)
      try simp only [e0, e1, e2, e3] at hc
      exact ⟨v, s, hp, fun Q hq => ⟨fun _ => hr Q hq, fun h2 => absurd hc (by (try simp only [e0, e1, e2, e3] at h2); omega), fun h2 => absurd hc (by (try simp only [e0, e1, e2, e3] at h2); omega), fun h2 => absurd hc (by (try simp only [e0, e1, e2, e3] at h2); omega), fun h2 => absurd hc (by (try simp only [e0, e1, e2, e3] at h2); omega)⟩⟩
    · obtain ⟨v, s, hp, hr⟩ := t1 P (h.2.1 hc)
      try simp only [e0, e1, e2, e3] at hc
      exact ⟨v, s, hp, fun Q hq => ⟨fun h2 => absurd hc (by (try simp only [e0, e1, e2, e3] at h2); omega), fun _ => hr Q hq, fun h2 => absurd hc (by (try simp only [e0, e1, e2, e3] at h2); omega), fun h2 => absurd hc (by (try simp only [e0, e1, e2, e3] at h2); omega), fun h2 => absurd hc (by (try simp only [e0, e1, e2, e3] at h2); omega)⟩⟩
    · obtain ⟨v, s, hp, hr⟩ := t2 P (h.2.2.1 hc)
      try simp only [e0, e1, e2, e3] at hc
      exact ⟨v, s, hp, fun Q hq => ⟨fun h2 => absurd hc (by (try simp only [e0, e1, e2, e3] at h2); omega), fun h2 => absurd hc (by (try simp only [e0, e1, e2, e3] at h2); omega), fun _ => hr Q hq, fun h2 => absurd hc (by (try simp only [e0, e1, e2, e3] at h2); omega), fun h2 => absurd hc (by (try simp only [e0, e1, e2, e3] at h2); omega)⟩⟩
    · obtain ⟨v, s, hp, hr⟩ := t3 P (h.2.2.2.1 hc)
      try simp only [e0, e1, e2, e3] at hc
      exact ⟨v, s, hp, fun Q hq => ⟨fun h2 => absurd hc (by (try simp only [e0, e1, e2, e3] at h2); omega), fun h2 => absurd hc (by (try simp only [e0, e1, e2, e3] at h2); omega), fun h2 => absurd hc (by (try simp only [e0, e1, e2, e3] at h2); omega), fun _ => hr Q hq, fun h2 => absurd hc (by (try simp only [e0, e1, e2, e3] at h2); omega)⟩⟩
    · obtain ⟨v, s, hp, hr⟩ := t4 P (h.2.2.2.2 hc)
      try simp only [e0, e1, e2, e3] at hc
      exact ⟨v, s, hp, fun Q hq => ⟨fun h2 => absurd hc (by (try simp only [e0, e1, e2, e3] at h2); omega), fun h2 => absurd hc (by (try simp only [e0, e1, e2, e3] at h2); omega), fun h2 => absurd hc (by (try simp only [e0, e1, e2, e3] at h2); omega), fun h2 => absurd hc (by (try simp only [e0, e1, e2, e3] at h2); omega), fun _ => hr Q hq⟩⟩)
set_option maxRecDepth 100000 in
set_option maxHeartbeats 4000000 in
theorem db_X0_answer_52 {L : c_L} (S : c_S) : dt2 (fun Q => kb_X0_answer_52 L  S Q) := by
  unfold kb_X0_answer_52
  exact lf2
set_option maxRecDepth 100000 in
set_option maxHeartbeats 4000000 in
theorem db_X0_answer_335 {L : c_L} (S : c_S) : dt2 (fun Q => kb_X0_answer_335 L  S Q) := by
  unfold kb_X0_answer_335
  exact lf2
set_option maxRecDepth 100000 in
set_option maxHeartbeats 4000000 in
theorem db_X0_answer_320 {L : c_L} (S : c_S) (a0 : Nat) (x5 : Int32) : dt2 (fun Q => kb_X0_answer_320 L  S a0 x5 Q) := by
  unfold kb_X0_answer_320
  exact (if2 (db_X0_answer_335 _) (ex2 fun a3_ => (gd2 (gd2 (db_X0_answer_335 _)))))
set_option maxRecDepth 100000 in
set_option maxHeartbeats 4000000 in
theorem db_X0_answer_236 {L : c_L} (S : c_S) (a0 : Nat) (xs0 : Int32) : dt2 (fun Q => kb_X0_answer_236 L  S a0 xs0 Q) := by
  unfold kb_X0_answer_236
  exact (db_X0_answer_320 _ _ _)
set_option maxRecDepth 100000 in
set_option maxHeartbeats 4000000 in
theorem dm_X0_answer {L : c_L} (S : c_S) (a0 : Nat) (r1 : Option Nat) (r2 : Option Nat) (r3 : Option Nat) : dt2 (fun Q => km_X0_answer L  S a0 r1 r2 r3 Q) := by
  unfold km_X0_answer
  exact (al2 fun S8_ => (ex2 fun a9_ => (gd2 (ex2 fun a12_ => (gd2 (al2 fun S15_ => (ex2 fun a16_ => (gd2 (gd2 (if2 (db_X0_answer_52 _) (if2 (ifn2 (if2 (if2 (if2 (if2 (if2 (if2 (ex2 fun a29_ => (gd2 (gd2 (gd2 (gd2 (b22 (dm_X0_ofLooks _ _ _ _ _ _) fun x37_ S36_ => (db_X0_answer_320 _ _ _))))))) (ex2 fun a38_ => (gd2 (gd2 (b22 (dm_X0_ofOthers _ _ _ _) fun x44_ S43_ => (db_X0_answer_320 _ _ _)))))) (ex2 fun a45_ => (gd2 (gd2 (b22 (dm_X0_ofPartition _ _ _ _) fun x51_ S50_ => (db_X0_answer_320 _ _ _)))))) (ifn2 (ex2 fun a53_ => (gd2 (gd2 (gd2 (b22 (dm_X0_receive _ _ _ _) fun x60_ S59_ => (db_X0_answer_236 _ _ _)))))) (ex2 fun a61_ => (gd2 (gd2 (gd2 (gd2 (b22 (dm_X0_send _ _ _ _ _) fun x69_ S68_ => (db_X0_answer_236 _ _ _))))))))) (ex2 fun a70_ => (gd2 (gd2 (gd2 (gd2 (b22 (dm_X0_ofWords _ _ _ _ _ _) fun x78_ S77_ => (db_X0_answer_320 _ _ _)))))))) (ex2 fun a79_ => (gd2 (gd2 (gd2 (b22 (dm_X0_ofSignals _ _ _ _ _) fun x86_ S85_ => (db_X0_answer_320 _ _ _))))))) (ex2 fun a87_ => (gd2 (gd2 (gd2 (b22 (dm_X0_ofProcesses _ _ _ _ _) fun x94_ S93_ => (db_X0_answer_320 _ _ _))))))) lf2) (db_X0_answer_52 _))))))))))))
set_option maxRecDepth 100000 in
set_option maxHeartbeats 4000000 in
theorem dm_X1_reset {L : c_L} (S : c_S) (a0 : Nat) (x1 : Int32) (x2 : Int32) : dt1 (fun Q => km_X1_reset L  S a0 x1 x2 Q) := by
  unfold km_X1_reset
  exact (gd1 (al1 fun S3_ => (al1 fun S4_ => (al1 fun S5_ => lf1))))
set_option maxRecDepth 100000 in
set_option maxHeartbeats 4000000 in
theorem db_X1_latestInput_34 {L : c_L} (S : c_S) (xs0 : Int32) : dt2 (fun Q => kb_X1_latestInput_34 L  S xs0 Q) := by
  unfold kb_X1_latestInput_34
  exact lf2
set_option maxRecDepth 100000 in
set_option maxHeartbeats 4000000 in
theorem db_X1_latestInput_19 {L : c_L} (S : c_S) : dt2 (fun Q => kb_X1_latestInput_19 L  S Q) := by
  unfold kb_X1_latestInput_19
  exact (db_X1_latestInput_34 _ _)
set_option maxRecDepth 100000 in
set_option maxHeartbeats 4000000 in
theorem dm_X1_latestInput {L : c_L} (S : c_S) (a0 : Nat) : dt2 (fun Q => km_X1_latestInput L  S a0 Q) := by
  unfold km_X1_latestInput
  exact (if2 (db_X1_latestInput_19 _) (if2 (gd2 (db_X1_latestInput_34 _ _)) (db_X1_latestInput_19 _)))
set_option maxRecDepth 100000 in
set_option maxHeartbeats 4000000 in
theorem db_X1_hasInputAt_29 {L : c_L} (S : c_S) (xs0 : Int32) : dt2 (fun Q => kb_X1_hasInputAt_29 L  S xs0 Q) := by
  unfold kb_X1_hasInputAt_29
  exact (gd2 lf2)
set_option maxRecDepth 100000 in
set_option maxHeartbeats 4000000 in
theorem db_X1_hasInputAt_28 {L : c_L} (S : c_S) : dt2 (fun Q => kb_X1_hasInputAt_28 L  S Q) := by
  unfold kb_X1_hasInputAt_28
  exact (db_X1_hasInputAt_29 _ _)
set_option maxRecDepth 100000 in
set_option maxHeartbeats 4000000 in
theorem dm_X1_hasInputAt {L : c_L} (S : c_S) (a0 : Nat) (x1 : Int32) : dt2 (fun Q => km_X1_hasInputAt L  S a0 x1 Q) := by
  unfold km_X1_hasInputAt
  exact (if2 (db_X1_hasInputAt_28 _) (gd2 (ifn2 (db_X1_hasInputAt_28 _) (db_X1_hasInputAt_29 _ _))))
set_option maxRecDepth 100000 in
set_option maxHeartbeats 4000000 in
theorem dm_X1_nextInput {L : c_L} (S : c_S) (a0 : Nat) : dt2 (fun Q => km_X1_nextInput L  S a0 Q) := by
  unfold km_X1_nextInput
  exact (if2 (gd2 lf2) lf2)
set_option maxRecDepth 100000 in
set_option maxHeartbeats 4000000 in
theorem dm_X2_clear {L : c_L} (S : c_S) (a0 : Nat) : dt1 (fun Q => km_X2_clear L  S a0 Q) := by
  unfold km_X2_clear
  exact lf1
set_option maxRecDepth 100000 in
set_option maxHeartbeats 4000000 in
theorem db_X2_shown_28 {L : c_L} (S : c_S) : dt2 (fun Q => kb_X2_shown_28 L  S Q) := by
  unfold kb_X2_shown_28
  exact lf2
set_option maxRecDepth 100000 in
set_option maxHeartbeats 4000000 in
theorem dm_X2_shown {L : c_L} (S : c_S) (a0 : Nat) (x1 : Int32) (x2 : Int32) : dt2 (fun Q => km_X2_shown L  S a0 x1 x2 Q) := by
  unfold km_X2_shown
  exact (if2 (db_X2_shown_28 _) (if2 (db_X2_shown_28 _) (if2 (db_X2_shown_28 _) (if2 (db_X2_shown_28 _) (if2 (gd2 lf2) (db_X2_shown_28 _))))))
set_option maxRecDepth 100000 in
set_option maxHeartbeats 4000000 in
theorem dm_X2_note {L : c_L} (S : c_S) (a0 : Nat) (x1 : Int32) (x2 : Int32) (x3 : Int32) (x4 : Int32) (x5 : Int32) (x6 : Int32) : dt1 (fun Q => km_X2_note L  S a0 x1 x2 x3 x4 x5 x6 Q) := by
  unfold km_X2_note
  exact (gd1 (gd1 (gd1 (al1 fun S14_ => (gd1 (gd1 (gd1 (al1 fun S27_ => lf1))))))))
set_option maxRecDepth 100000 in
set_option maxHeartbeats 4000000 in
theorem db_X2_noted_28 {L : c_L} (S : c_S) : dt2 (fun Q => kb_X2_noted_28 L  S Q) := by
  unfold kb_X2_noted_28
  exact lf2
set_option maxRecDepth 100000 in
set_option maxHeartbeats 4000000 in
theorem dm_X2_noted {L : c_L} (S : c_S) (a0 : Nat) (x1 : Int32) (x2 : Int32) : dt2 (fun Q => km_X2_noted L  S a0 x1 x2 Q) := by
  unfold km_X2_noted
  exact (if2 (db_X2_noted_28 _) (if2 (db_X2_noted_28 _) (if2 (db_X2_noted_28 _) (if2 (db_X2_noted_28 _) (if2 (gd2 lf2) (db_X2_noted_28 _))))))
set_option maxRecDepth 100000 in
set_option maxHeartbeats 4000000 in
theorem db_X4_sortAt_37 {L : c_L} (S : c_S) : dt2 (fun Q => kb_X4_sortAt_37 L  S Q) := by
  unfold kb_X4_sortAt_37
  exact lf2
set_option maxRecDepth 100000 in
set_option maxHeartbeats 4000000 in
theorem db_X4_sortAt_2 {L : c_L} {B2 : (Int32 → c_S → Prop) → c_S → Nat → Int32 → Int32 → Prop} (hB2 : ∀ y0 y1 y2 y3, dt2 (fun Q => B2 Q y0 y1 y2 y3)) (S : c_S) (a0 : Nat) (x1 : Int32) (x2 : Int32) : dt2 (fun Q => kb_X4_sortAt_2 L (B2 Q) S a0 x1 x2 Q) := by
  unfold kb_X4_sortAt_2
  exact (if2 (db_X4_sortAt_37 _) (if2 (db_X4_sortAt_37 _) (gd2 (if2 (hB2 _ _ _ _) (gd2 lf2)))))
theorem dl_X4_sortAt_2 {L : c_L} (n : Nat) (S : c_S) (a0 : Nat) (x1 : Int32) (x2 : Int32) : dt2 (fun Q => kl_X4_sortAt_2 L  n S a0 x1 x2 Q) := by
  induction n generalizing S a0 x1 x2 with
  | zero => exact fa2
  | succ n ih => exact db_X4_sortAt_2 (B2 := fun Q y0 y1 y2 y3 => kl_X4_sortAt_2 L  n y0 y1 y2 y3 Q) (fun y0 y1 y2 y3 => ih y0 y1 y2 y3) _ _ _ _
set_option maxRecDepth 100000 in
set_option maxHeartbeats 4000000 in
theorem dm_X4_sortAt {L : c_L} (S : c_S) (a0 : Nat) (x1 : Int32) : dt2 (fun Q => km_X4_sortAt L  S a0 x1 Q) := by
  unfold km_X4_sortAt
  exact (exn2 fun n13_ => (dl_X4_sortAt_2 _ _ _ _ _))
set_option maxRecDepth 100000 in
set_option maxHeartbeats 4000000 in
theorem db_X4_mayRun_20 {L : c_L} (S : c_S) (xs0 : Int32) : dt2 (fun Q => kb_X4_mayRun_20 L  S xs0 Q) := by
  unfold kb_X4_mayRun_20
  exact (gd2 lf2)
set_option maxRecDepth 100000 in
set_option maxHeartbeats 4000000 in
theorem db_X4_mayRun_15 {L : c_L} (S : c_S) : dt2 (fun Q => kb_X4_mayRun_15 L  S Q) := by
  unfold kb_X4_mayRun_15
  exact (db_X4_mayRun_20 _ _)
set_option maxRecDepth 100000 in
set_option maxHeartbeats 4000000 in
theorem dm_X4_mayRun {L : c_L} (S : c_S) (a0 : Nat) (x1 : Int32) : dt2 (fun Q => km_X4_mayRun L  S a0 x1 Q) := by
  unfold km_X4_mayRun
  exact (b22 (dm_X4_sortAt _ _ _) fun x4_ S3_ => (if2 (db_X4_mayRun_15 _) (ifn2 (db_X4_mayRun_20 _ _) (db_X4_mayRun_15 _))))
set_option maxRecDepth 100000 in
set_option maxHeartbeats 4000000 in
theorem db_X3_finish_22 {L : c_L} (S : c_S) (r1 : Option Nat) (x4 : Int32) : dt2 (fun Q => kb_X3_finish_22 L  S r1 x4 Q) := by
  unfold kb_X3_finish_22
  exact (ex2 fun a1_ => (gd2 lf2))
set_option maxRecDepth 100000 in
set_option maxHeartbeats 4000000 in
theorem dm_X3_finish {L : c_L} (S : c_S) (a0 : Nat) (r1 : Option Nat) (x2 : Int32) (x3 : Int32) (x4 : Int32) : dt2 (fun Q => km_X3_finish L  S a0 r1 x2 x3 x4 Q) := by
  unfold km_X3_finish
  exact (if2 (db_X3_finish_22 _ _ _) (ex2 fun a5_ => (gd2 (gd2 (db_X3_finish_22 _ _ _)))))
set_option maxRecDepth 100000 in
set_option maxHeartbeats 4000000 in
theorem dm_X3_jumpOf {L : c_L} (S : c_S) (a0 : Nat) (x1 : Int32) : dt2 (fun Q => km_X3_jumpOf L  S a0 x1 Q) := by
  unfold km_X3_jumpOf
  exact lf2
set_option maxRecDepth 100000 in
set_option maxHeartbeats 4000000 in
theorem dm_X3_branchOf {L : c_L} (S : c_S) (a0 : Nat) (x1 : Int32) : dt2 (fun Q => km_X3_branchOf L  S a0 x1 Q) := by
  unfold km_X3_branchOf
  exact lf2
set_option maxRecDepth 100000 in
set_option maxHeartbeats 4000000 in
theorem db_X3_branch_154 {L : c_L} (S : c_S) (rs0 : Option Nat) (xs1 : Int32) (xs2 : Int32) : dt2 (fun Q => kb_X3_branch_154 L  S rs0 xs1 xs2 Q) := by
  unfold kb_X3_branch_154
  exact (ex2 fun a1_ => (gd2 lf2))
set_option maxRecDepth 100000 in
set_option maxHeartbeats 4000000 in
theorem db_X3_branch_131 {L : c_L} (S : c_S) (a0 : Nat) (r1 : Option Nat) (x2 : Int32) (x5 : Int32) (xs0 : Int32) : dt2 (fun Q => kb_X3_branch_131 L  S a0 r1 x2 x5 xs0 Q) := by
  unfold kb_X3_branch_131
  exact (ex2 fun a4_ => (gd2 (if2 (db_X3_branch_154 _ _ _ _) (b22 (dm_X3_branchOf _ _ _) fun x11_ S10_ => (db_X3_branch_154 _ _ _ _)))))
set_option maxRecDepth 100000 in
set_option maxHeartbeats 4000000 in
theorem db_X3_branch_117 {L : c_L} (S : c_S) (a0 : Nat) (r1 : Option Nat) (x2 : Int32) (x5 : Int32) : dt2 (fun Q => kb_X3_branch_117 L  S a0 r1 x2 x5 Q) := by
  unfold kb_X3_branch_117
  exact (if2 (db_X3_branch_131 _ _ _ _ _ _) (db_X3_branch_131 _ _ _ _ _ _))
set_option maxRecDepth 100000 in
set_option maxHeartbeats 4000000 in
theorem db_X3_branch_110 {L : c_L} (S : c_S) (a0 : Nat) (r1 : Option Nat) (x2 : Int32) (xs0 : Int32) : dt2 (fun Q => kb_X3_branch_110 L  S a0 r1 x2 xs0 Q) := by
  unfold kb_X3_branch_110
  exact (db_X3_branch_117 _ _ _ _ _)
set_option maxRecDepth 100000 in
set_option maxHeartbeats 4000000 in
theorem db_X3_branch_91 {L : c_L} (S : c_S) (a0 : Nat) (r1 : Option Nat) (x2 : Int32) (xs0 : Int32) : dt2 (fun Q => kb_X3_branch_91 L  S a0 r1 x2 xs0 Q) := by
  unfold kb_X3_branch_91
  exact (db_X3_branch_117 _ _ _ _ _)
set_option maxRecDepth 100000 in
set_option maxHeartbeats 4000000 in
theorem db_X3_branch_75 {L : c_L} (S : c_S) (a0 : Nat) (r1 : Option Nat) (x2 : Int32) (xs0 : Int32) : dt2 (fun Q => kb_X3_branch_75 L  S a0 r1 x2 xs0 Q) := by
  unfold kb_X3_branch_75
  exact (db_X3_branch_117 _ _ _ _ _)
set_option maxRecDepth 100000 in
set_option maxHeartbeats 4000000 in
theorem dm_X3_branch {L : c_L} (S : c_S) (a0 : Nat) (r1 : Option Nat) (x2 : Int32) : dt2 (fun Q => km_X3_branch L  S a0 r1 x2 Q) := by
  unfold km_X3_branch
  exact (ex2 fun a13_ => (gd2 (gd2 (gd2 (by
    have e0 : (((x2 >>> ((13 : Int32) &&& 31)) &&& (3 : Int32)) = (0 : Int32)) ↔ (((x2 >>> ((13 : Int32) &&& 31)) &&& (3 : Int32))).toInt = 0 := sw_iff (by decide)
    have e1 : (((x2 >>> ((13 : Int32) &&& 31)) &&& (3 : Int32)) = (1 : Int32)) ↔ (((x2 >>> ((13 : Int32) &&& 31)) &&& (3 : Int32))).toInt = 1 := sw_iff (by decide)
    have e2 : (((x2 >>> ((13 : Int32) &&& 31)) &&& (3 : Int32)) = (2 : Int32)) ↔ (((x2 >>> ((13 : Int32) &&& 31)) &&& (3 : Int32))).toInt = 2 := sw_iff (by decide)
    have e3 : (((x2 >>> ((13 : Int32) &&& 31)) &&& (3 : Int32)) = (3 : Int32)) ↔ (((x2 >>> ((13 : Int32) &&& 31)) &&& (3 : Int32))).toInt = 3 := sw_iff (by decide)
    have ex : (((x2 >>> ((13 : Int32) &&& 31)) &&& (3 : Int32)).toInt < 0 ∨ 3 < ((x2 >>> ((13 : Int32) &&& 31)) &&& (3 : Int32)).toInt) ∨ (((x2 >>> ((13 : Int32) &&& 31)) &&& (3 : Int32)) = (0 : Int32)) ∨ (((x2 >>> ((13 : Int32) &&& 31)) &&& (3 : Int32)) = (1 : Int32)) ∨ (((x2 >>> ((13 : Int32) &&& 31)) &&& (3 : Int32)) = (2 : Int32)) ∨ (((x2 >>> ((13 : Int32) &&& 31)) &&& (3 : Int32)) = (3 : Int32)) := by
      simp only [e0, e1, e2, e3]; omega
    intro P h
    have t0 : dt2 (fun Q : Int32 → c_S → Prop => (Q (0 : Int32) S)) := lf2
    have t1 : dt2 (fun Q : Int32 → c_S → Prop => ((¬ (c_A S 1411 a13_ ((x2 >>> ((15 : Int32) &&& 31)) &&& (31 : Int32)).toNatClampNeg) = (c_A S 1411 a13_ ((x2 >>> ((20 : Int32) &&& 31)) &&& (31 : Int32)).toNatClampNeg) → (kb_X3_branch_75 L S a0 r1 x2 (0 : Int32) Q)) ∧ ((c_A S 1411 a13_ ((x2 >>> ((15 : Int32) &&& 31)) &&& (31 : Int32)).toNatClampNeg) = (c_A S 1411 a13_ ((x2 >>> ((20 : Int32) &&& 31)) &&& (31 : Int32)).toNatClampNeg) → (kb_X3_branch_75 L S a0 r1 x2 (1 : Int32) Q)))) := (ifn2 (db_X3_branch_75 _ _ _ _ _) (db_X3_branch_75 _ _ _ _ _))
    have t2 : dt2 (fun Q : Int32 → c_S → Prop => (Q (0 : Int32) S)) := lf2
    have t3 : dt2 (fun Q : Int32 → c_S → Prop => (((c_A S 1411 a13_ ((x2 >>> ((20 : Int32) &&& 31)) &&& (31 : Int32)).toNatClampNeg) ≤ (c_A S 1411 a13_ ((x2 >>> ((15 : Int32) &&& 31)) &&& (31 : Int32)).toNatClampNeg) → (kb_X3_branch_91 L S a0 r1 x2 (0 : Int32) Q)) ∧ (¬ (c_A S 1411 a13_ ((x2 >>> ((20 : Int32) &&& 31)) &&& (31 : Int32)).toNatClampNeg) ≤ (c_A S 1411 a13_ ((x2 >>> ((15 : Int32) &&& 31)) &&& (31 : Int32)).toNatClampNeg) → (kb_X3_branch_91 L S a0 r1 x2 (1 : Int32) Q)))) := (if2 (db_X3_branch_91 _ _ _ _ _) (db_X3_branch_91 _ _ _ _ _))
    have t4 : dt2 (fun Q : Int32 → c_S → Prop => (km_J6_compareUnsigned_7cf53 L S (c_A S 1411 a13_ ((x2 >>> ((15 : Int32) &&& 31)) &&& (31 : Int32)).toNatClampNeg) (c_A S 1411 a13_ ((x2 >>> ((20 : Int32) &&& 31)) &&& (31 : Int32)).toNatClampNeg) (fun x25_ S24_ => ((0 ≤ x25_ → (kb_X3_branch_110 L S24_ a0 r1 x2 (0 : Int32) Q)) ∧ (¬ 0 ≤ x25_ → (kb_X3_branch_110 L S24_ a0 r1 x2 (1 : Int32) Q)))))) := (b22 dm_J6_compareUnsigned_7cf53 fun x25_ S24_ => (if2 (db_X3_branch_110 _ _ _ _ _) (db_X3_branch_110 _ _ _ _ _)))
    rcases ex with hc | hc | hc | hc | hc
    · obtain ⟨v, s, hp, hr⟩ := t0 P (h.1 hc)
      try simp only [e0, e1, e2, e3] at hc
      exact ⟨v, s, hp, fun Q hq => ⟨fun _ => hr Q hq, fun h2 => absurd hc (by (try simp only [e0, e1, e2, e3] at h2); omega), fun h2 => absurd hc (by (try simp only [e0, e1, e2, e3] at h2); omega), fun h2 => absurd hc (by (try simp only [e0, e1, e2, e3] at h2); omega), fun h2 => absurd hc (by (try simp only [e0, e1, e2, e3] at h2); omega)⟩⟩
    · obtain ⟨v, s, hp, hr⟩ := t1 P (h.2.1 hc)
      try simp only [e0, e1, e2, e3] at hc
      exact ⟨v, s, hp, fun Q hq => ⟨fun h2 => absurd hc (by (try simp only [e0, e1, e2, e3] at h2); omega), fun _ => hr Q hq, fun h2 => absurd hc (by (try simp only [e0, e1, e2, e3] at h2); omega), fun h2 => absurd hc (by (try simp only [e0, e1, e2, e3] at h2); omega), fun h2 => absurd hc (by (try simp only [e0, e1, e2, e3] at h2); omega)⟩⟩
    · obtain ⟨v, s, hp, hr⟩ := t2 P (h.2.2.1 hc)
      try simp only [e0, e1, e2, e3] at hc
      exact ⟨v, s, hp, fun Q hq => ⟨fun h2 => absurd hc (by (try simp only [e0, e1, e2, e3] at h2); omega), fun h2 => absurd hc (by (try simp only [e0, e1, e2, e3] at h2); omega), fun _ => hr Q hq, fun h2 => absurd hc (by (try simp only [e0, e1, e2, e3] at h2); omega), fun h2 => absurd hc (by (try simp only [e0, e1, e2, e3] at h2); omega)⟩⟩
    · obtain ⟨v, s, hp, hr⟩ := t3 P (h.2.2.2.1 hc)
      try simp only [e0, e1, e2, e3] at hc
      exact ⟨v, s, hp, fun Q hq => ⟨fun h2 => absurd hc (by (try simp only [e0, e1, e2, e3] at h2); omega), fun h2 => absurd hc (by (try simp only [e0, e1, e2, e3] at h2); omega), fun h2 => absurd hc (by (try simp only [e0, e1, e2, e3] at h2); omega), fun _ => hr Q hq, fun h2 => absurd hc (by (try simp only [e0, e1, e2, e3] at h2); omega)⟩⟩
    · obtain ⟨v, s, hp, hr⟩ := t4 P (h.2.2.2.2 hc)
      try simp only [e0, e1, e2, e3] at hc
      exact ⟨v, s, hp, fun Q hq => ⟨fun h2 => absurd hc (by (try simp only [e0, e1, e2, e3] at h2); omega), fun h2 => absurd hc (by (try simp only [e0, e1, e2, e3] at h2); omega), fun h2 => absurd hc (by (try simp only [e0, e1, e2, e3] at h2); omega), fun h2 => absurd hc (by (try simp only [e0, e1, e2, e3] at h2); omega), fun _ => hr Q hq⟩⟩)))))
set_option maxRecDepth 100000 in
set_option maxHeartbeats 4000000 in
theorem db_X3_wrongPlace_32 {L : c_L} (S : c_S) (xs0 : Int32) : dt2 (fun Q => kb_X3_wrongPlace_32 L  S xs0 Q) := by
  unfold kb_X3_wrongPlace_32
  exact lf2
set_option maxRecDepth 100000 in
set_option maxHeartbeats 4000000 in
theorem db_X3_wrongPlace_14 {L : c_L} (S : c_S) (a0 : Nat) (x1 : Int32) (x2 : Int32) : dt2 (fun Q => kb_X3_wrongPlace_14 L  S a0 x1 x2 Q) := by
  unfold kb_X3_wrongPlace_14
  exact (if2 (db_X3_wrongPlace_32 _ _) (db_X3_wrongPlace_32 _ _))
set_option maxRecDepth 100000 in
set_option maxHeartbeats 4000000 in
theorem dm_X3_wrongPlace {L : c_L} (S : c_S) (a0 : Nat) (x1 : Int32) (x2 : Int32) (x3 : Int32) : dt2 (fun Q => km_X3_wrongPlace L  S a0 x1 x2 x3 Q) := by
  unfold km_X3_wrongPlace
  exact (ifn2 (db_X3_wrongPlace_14 _ _ _ _) (if2 (db_X3_wrongPlace_14 _ _ _ _) lf2))
set_option maxRecDepth 100000 in
set_option maxHeartbeats 4000000 in
theorem db_X3_fetch_21 {L : c_L} (S : c_S) : dt2 (fun Q => kb_X3_fetch_21 L  S Q) := by
  unfold kb_X3_fetch_21
  exact lf2
set_option maxRecDepth 100000 in
set_option maxHeartbeats 4000000 in
theorem db_X3_fetch_109 {L : c_L} (S : c_S) (a0 : Nat) (r1 : Option Nat) (x3 : Int32) (x8 : Int32) : dt2 (fun Q => kb_X3_fetch_109 L  S a0 r1 x3 x8 Q) := by
  unfold kb_X3_fetch_109
  exact (ex2 fun a1_ => (gd2 (b22 (dm_X3_finish _ _ _ _ _ _) fun x7_ S6_ => lf2)))
set_option maxRecDepth 100000 in
set_option maxHeartbeats 4000000 in
theorem dm_X3_fetch {L : c_L} (S : c_S) (a0 : Nat) (r1 : Option Nat) (r2 : Option Nat) (x3 : Int32) : dt2 (fun Q => km_X3_fetch L  S a0 r1 r2 x3 Q) := by
  unfold km_X3_fetch
  exact (if2 (db_X3_fetch_21 _) (if2 (ex2 fun a10_ => (gd2 (gd2 (ex2 fun a17_ => (gd2 (b22 (dm_X4_holds _ _ _) fun x22_ S21_ => (b22 (dm_X3_wrongPlace _ _ _ _ _) fun x26_ S25_ => (if2 (b22 (dm_X4_partAt _ _ _ _) fun x31_ S30_ => (ifn2 (ifn2 (db_X3_fetch_109 _ _ _ _ _) (db_X3_fetch_109 _ _ _ _ _)) (db_X3_fetch_109 _ _ _ _ _))) lf2)))))))) (db_X3_fetch_21 _)))
set_option maxRecDepth 100000 in
set_option maxHeartbeats 4000000 in
theorem db_X4_mayStore_21 {L : c_L} (S : c_S) (xs0 : Int32) : dt2 (fun Q => kb_X4_mayStore_21 L  S xs0 Q) := by
  unfold kb_X4_mayStore_21
  exact (gd2 lf2)
set_option maxRecDepth 100000 in
set_option maxHeartbeats 4000000 in
theorem db_X4_mayStore_16 {L : c_L} (S : c_S) : dt2 (fun Q => kb_X4_mayStore_16 L  S Q) := by
  unfold kb_X4_mayStore_16
  exact (db_X4_mayStore_21 _ _)
set_option maxRecDepth 100000 in
set_option maxHeartbeats 4000000 in
theorem dm_X4_mayStore {L : c_L} (S : c_S) (a0 : Nat) (x1 : Int32) : dt2 (fun Q => km_X4_mayStore L  S a0 x1 Q) := by
  unfold km_X4_mayStore
  exact (b22 (dm_X4_sortAt _ _ _) fun x4_ S3_ => (if2 (db_X4_mayStore_16 _) (ifn2 (db_X4_mayStore_21 _ _) (db_X4_mayStore_16 _))))
set_option maxRecDepth 100000 in
set_option maxHeartbeats 4000000 in
theorem db_X4_put_54 {L : c_L} (S : c_S) : dt1 (fun Q => kb_X4_put_54 L  S Q) := by
  unfold kb_X4_put_54
  exact lf1
set_option maxRecDepth 100000 in
set_option maxHeartbeats 4000000 in
theorem dm_X4_put {L : c_L} (S : c_S) (a0 : Nat) (x1 : Int32) (x2 : Int32) (x3 : Int32) : dt1 (fun Q => km_X4_put L  S a0 x1 x2 x3 Q) := by
  unfold km_X4_put
  exact (b21 (dm_X4_holds _ _ _) fun x4_ S3_ => (if1 (db_X4_put_54 _) (b21 (dm_X4_maskOf _ _) fun x8_ S7_ => (gd1 (gd1 (db_X4_put_54 _))))))
set_option maxRecDepth 100000 in
set_option maxHeartbeats 4000000 in
theorem db_X3_store_104 {L : c_L} (S : c_S) (x7 : Int32) : dt2 (fun Q => kb_X3_store_104 L  S x7 Q) := by
  unfold kb_X3_store_104
  exact lf2
set_option maxRecDepth 100000 in
set_option maxHeartbeats 4000000 in
theorem dm_X3_store {L : c_L} (S : c_S) (a0 : Nat) (r1 : Option Nat) (r2 : Option Nat) (x3 : Int32) : dt2 (fun Q => km_X3_store L  S a0 r1 r2 x3 Q) := by
  unfold km_X3_store
  exact (if2 (ex2 fun a2_ => (gd2 (gd2 (ex2 fun a9_ => (gd2 (b22 (dm_X4_mayStore _ _ _) fun x14_ S13_ => (b22 (dm_X3_wrongPlace _ _ _ _ _) fun x18_ S17_ => (ifn2 (db_X3_store_104 _ _) (gd2 (b12 (dm_X4_put _ _ _ _ _) fun S27_ => (db_X3_store_104 _ _))))))))))) lf2)
set_option maxRecDepth 100000 in
set_option maxHeartbeats 4000000 in
theorem db_X3_reckon_121 {L : c_L} (S : c_S) (xs0 : Int32) : dt2 (fun Q => kb_X3_reckon_121 L  S xs0 Q) := by
  unfold kb_X3_reckon_121
  exact lf2
set_option maxRecDepth 100000 in
set_option maxHeartbeats 4000000 in
theorem db_X3_reckon_94 {L : c_L} (S : c_S) (xs0 : Int32) : dt2 (fun Q => kb_X3_reckon_94 L  S xs0 Q) := by
  unfold kb_X3_reckon_94
  exact lf2
set_option maxRecDepth 100000 in
set_option maxHeartbeats 4000000 in
theorem db_X3_reckon_79 {L : c_L} (S : c_S) (xs0 : Int32) : dt2 (fun Q => kb_X3_reckon_79 L  S xs0 Q) := by
  unfold kb_X3_reckon_79
  exact lf2
set_option maxRecDepth 100000 in
set_option maxHeartbeats 4000000 in
theorem db_X3_reckon_59 {L : c_L} (S : c_S) (xs0 : Int32) : dt2 (fun Q => kb_X3_reckon_59 L  S xs0 Q) := by
  unfold kb_X3_reckon_59
  exact lf2
set_option maxRecDepth 100000 in
set_option maxHeartbeats 4000000 in
theorem dm_X3_reckon {L : c_L} (S : c_S) (a0 : Nat) (x1 : Int32) (x2 : Int32) (x3 : Int32) (x4 : Int32) : dt2 (fun Q => km_X3_reckon L  S a0 x1 x2 x3 x4 Q) := by
  unfold km_X3_reckon
  exact (by
    have e0 : (x1 = (0 : Int32)) ↔ (x1).toInt = 0 := sw_iff (by decide)
    have e1 : (x1 = (1 : Int32)) ↔ (x1).toInt = 1 := sw_iff (by decide)
    have e2 : (x1 = (2 : Int32)) ↔ (x1).toInt = 2 := sw_iff (by decide)
    have e3 : (x1 = (3 : Int32)) ↔ (x1).toInt = 3 := sw_iff (by decide)
    have e4 : (x1 = (4 : Int32)) ↔ (x1).toInt = 4 := sw_iff (by decide)
    have e5 : (x1 = (5 : Int32)) ↔ (x1).toInt = 5 := sw_iff (by decide)
    have e6 : (x1 = (6 : Int32)) ↔ (x1).toInt = 6 := sw_iff (by decide)
    have ex : (x1.toInt < 0 ∨ 6 < x1.toInt) ∨ (x1 = (0 : Int32)) ∨ (x1 = (1 : Int32)) ∨ (x1 = (2 : Int32)) ∨ (x1 = (3 : Int32)) ∨ (x1 = (4 : Int32)) ∨ (x1 = (5 : Int32)) ∨ (x1 = (6 : Int32)) := by
      simp only [e0, e1, e2, e3, e4, e5, e6]; omega
    intro P h
    have t0 : dt2 (fun Q : Int32 → c_S → Prop => (Q (x3 &&& x4) S)) := lf2
    have t1 : dt2 (fun Q : Int32 → c_S → Prop => ((x2 = 0 → (kb_X3_reckon_59 L S (x3 + x4) Q)) ∧ (¬ x2 = 0 → (kb_X3_reckon_59 L S (x3 - x4) Q)))) := (if2 (db_X3_reckon_59 _ _) (db_X3_reckon_59 _ _))
    have t2 : dt2 (fun Q : Int32 → c_S → Prop => (Q (x3 <<< ((x4 &&& (31 : Int32)) &&& 31)) S)) := lf2
    have t3 : dt2 (fun Q : Int32 → c_S → Prop => ((x4 ≤ x3 → (kb_X3_reckon_79 L S (0 : Int32) Q)) ∧ (¬ x4 ≤ x3 → (kb_X3_reckon_79 L S (1 : Int32) Q)))) := (if2 (db_X3_reckon_79 _ _) (db_X3_reckon_79 _ _))
    have t4 : dt2 (fun Q : Int32 → c_S → Prop => (km_J6_compareUnsigned_7cf53 L S x3 x4 (fun x5_ S4_ => ((0 ≤ x5_ → (kb_X3_reckon_94 L S4_ (0 : Int32) Q)) ∧ (¬ 0 ≤ x5_ → (kb_X3_reckon_94 L S4_ (1 : Int32) Q)))))) := (b22 dm_J6_compareUnsigned_7cf53 fun x5_ S4_ => (if2 (db_X3_reckon_94 _ _) (db_X3_reckon_94 _ _)))
    have t5 : dt2 (fun Q : Int32 → c_S → Prop => (Q (x3 ^^^ x4) S)) := lf2
    have t6 : dt2 (fun Q : Int32 → c_S → Prop => ((x2 = 0 → (kb_X3_reckon_121 L S ((x3.toUInt32 >>> ((x4 &&& (31 : Int32)).toUInt32 &&& Int32.toUInt32 31)).toInt32) Q)) ∧ (¬ x2 = 0 → (kb_X3_reckon_121 L S (x3 >>> ((x4 &&& (31 : Int32)) &&& 31)) Q)))) := (if2 (db_X3_reckon_121 _ _) (db_X3_reckon_121 _ _))
    have t7 : dt2 (fun Q : Int32 → c_S → Prop => (Q (x3 ||| x4) S)) := lf2
    rcases ex with hc | hc | hc | hc | hc | hc | hc | hc
    · obtain ⟨v, s, hp, hr⟩ := t0 P (h.1 hc)
      try simp only [e0, e1, e2, e3, e4, e5, e6] at hc
      exact ⟨v, s, hp, fun Q hq => ⟨fun _ => hr Q hq, fun h2 => absurd hc (by (try simp only [e0, e1, e2, e3, e4, e5, e6] at h2); omega), fun h2 => absurd hc (by (try simp only [e0, e1, e2, e3, e4, e5, e6] at h2); omega), fun h2 => absurd hc (by (try simp only [e0, e1, e2, e3, e4, e5, e6] at h2); omega), fun h2 => absurd hc (by (try simp only [e0, e1, e2, e3, e4, e5, e6] at h2); omega), fun h2 => absurd hc (by (try simp only [e0, e1, e2, e3, e4, e5, e6] at h2); omega), fun h2 => absurd hc (by (try simp only [e0, e1, e2, e3, e4, e5, e6] at h2); omega), fun h2 => absurd hc (by (try simp only [e0, e1, e2, e3, e4, e5, e6] at h2); omega)⟩⟩
    · obtain ⟨v, s, hp, hr⟩ := t1 P (h.2.1 hc)
      try simp only [e0, e1, e2, e3, e4, e5, e6] at hc
      exact ⟨v, s, hp, fun Q hq => ⟨fun h2 => absurd hc (by (try simp only [e0, e1, e2, e3, e4, e5, e6] at h2); omega), fun _ => hr Q hq, fun h2 => absurd hc (by (try simp only [e0, e1, e2, e3, e4, e5, e6] at h2); omega), fun h2 => absurd hc (by (try simp only [e0, e1, e2, e3, e4, e5, e6] at h2); omega), fun h2 => absurd hc (by (try simp only [e0, e1, e2, e3, e4, e5, e6] at h2); omega), fun h2 => absurd hc (by (try simp only [e0, e1, e2, e3, e4, e5, e6] at h2); omega), fun h2 => absurd hc (by (try simp only [e0, e1, e2, e3, e4, e5, e6] at h2); omega), fun h2 => absurd hc (by (try simp only [e0, e1, e2, e3, e4, e5, e6] at h2); omega)⟩⟩
    · obtain ⟨v, s, hp, hr⟩ := t2 P (h.2.2.1 hc)
      try simp only [e0, e1, e2, e3, e4, e5, e6] at hc
      exact ⟨v, s, hp, fun Q hq => ⟨fun h2 => absurd hc (by (try simp only [e0, e1, e2, e3, e4, e5, e6] at h2); omega), fun h2 => absurd hc (by (try simp only [e0, e1, e2, e3, e4, e5, e6] at h2); omega), fun _ => hr Q hq, fun h2 => absurd hc (by (try simp only [e0, e1, e2, e3, e4, e5, e6] at h2); omega), fun h2 => absurd hc (by (try simp only [e0, e1, e2, e3, e4, e5, e6] at h2); omega), fun h2 => absurd hc (by (try simp only [e0, e1, e2, e3, e4, e5, e6] at h2); omega), fun h2 => absurd hc (by (try simp only [e0, e1, e2, e3, e4, e5, e6] at h2); omega), fun h2 => absurd hc (by (try simp only [e0, e1, e2, e3, e4, e5, e6] at h2); omega)⟩⟩
    · obtain ⟨v, s, hp, hr⟩ := t3 P (h.2.2.2.1 hc)
      try simp only [e0, e1, e2, e3, e4, e5, e6] at hc
      exact ⟨v, s, hp, fun Q hq => ⟨fun h2 => absurd hc (by (try simp only [e0, e1, e2, e3, e4, e5, e6] at h2); omega), fun h2 => absurd hc (by (try simp only [e0, e1, e2, e3, e4, e5, e6] at h2); omega), fun h2 => absurd hc (by (try simp only [e0, e1, e2, e3, e4, e5, e6] at h2); omega), fun _ => hr Q hq, fun h2 => absurd hc (by (try simp only [e0, e1, e2, e3, e4, e5, e6] at h2); omega), fun h2 => absurd hc (by (try simp only [e0, e1, e2, e3, e4, e5, e6] at h2); omega), fun h2 => absurd hc (by (try simp only [e0, e1, e2, e3, e4, e5, e6] at h2); omega), fun h2 => absurd hc (by (try simp only [e0, e1, e2, e3, e4, e5, e6] at h2); omega)⟩⟩
    · obtain ⟨v, s, hp, hr⟩ := t4 P (h.2.2.2.2.1 hc)
      try simp only [e0, e1, e2, e3, e4, e5, e6] at hc
      exact ⟨v, s, hp, fun Q hq => ⟨fun h2 => absurd hc (by (try simp only [e0, e1, e2, e3, e4, e5, e6] at h2); omega), fun h2 => absurd hc (by (try simp only [e0, e1, e2, e3, e4, e5, e6] at h2); omega), fun h2 => absurd hc (by (try simp only [e0, e1, e2, e3, e4, e5, e6] at h2); omega), fun h2 => absurd hc (by (try simp only [e0, e1, e2, e3, e4, e5, e6] at h2); omega), fun _ => hr Q hq, fun h2 => absurd hc (by (try simp only [e0, e1, e2, e3, e4, e5, e6] at h2); omega), fun h2 => absurd hc (by (try simp only [e0, e1, e2, e3, e4, e5, e6] at h2); omega), fun h2 => absurd hc (by (try simp only [e0, e1, e2, e3, e4, e5, e6] at h2); omega)⟩⟩
    · obtain ⟨v, s, hp, hr⟩ := t5 P (h.2.2.2.2.2.1 hc)
      try simp only [e0, e1, e2, e3, e4, e5, e6] at hc
      exact ⟨v, s, hp, fun Q hq => ⟨fun h2 => absurd hc (by (try simp only [e0, e1, e2, e3, e4, e5, e6] at h2); omega), fun h2 => absurd hc (by (try simp only [e0, e1, e2, e3, e4, e5, e6] at h2); omega), fun h2 => absurd hc (by (try simp only [e0, e1, e2, e3, e4, e5, e6] at h2); omega), fun h2 => absurd hc (by (try simp only [e0, e1, e2, e3, e4, e5, e6] at h2); omega), fun h2 => absurd hc (by (try simp only [e0, e1, e2, e3, e4, e5, e6] at h2); omega), fun _ => hr Q hq, fun h2 => absurd hc (by (try simp only [e0, e1, e2, e3, e4, e5, e6] at h2); omega), fun h2 => absurd hc (by (try simp only [e0, e1, e2, e3, e4, e5, e6] at h2); omega)⟩⟩
    · obtain ⟨v, s, hp, hr⟩ := t6 P (h.2.2.2.2.2.2.1 hc)
      try simp only [e0, e1, e2, e3, e4, e5, e6] at hc
      exact ⟨v, s, hp, fun Q hq => ⟨fun h2 => absurd hc (by (try simp only [e0, e1, e2, e3, e4, e5, e6] at h2); omega), fun h2 => absurd hc (by (try simp only [e0, e1, e2, e3, e4, e5, e6] at h2); omega), fun h2 => absurd hc (by (try simp only [e0, e1, e2, e3, e4, e5, e6] at h2); omega), fun h2 => absurd hc (by (try simp only [e0, e1, e2, e3, e4, e5, e6] at h2); omega), fun h2 => absurd hc (by (try simp only [e0, e1, e2, e3, e4, e5, e6] at h2); omega), fun h2 => absurd hc (by (try simp only [e0, e1, e2, e3, e4, e5, e6] at h2); omega), fun _ => hr Q hq, fun h2 => absurd hc (by (try simp only [e0, e1, e2, e3, e4, e5, e6] at h2); omega)⟩⟩
    · obtain ⟨v, s, hp, hr⟩ := t7 P (h.2.2.2.2.2.2.2 hc)
      try simp only [e0, e1, e2, e3, e4, e5, e6] at hc
      exact ⟨v, s, hp, fun Q hq => ⟨fun h2 => absurd hc (by (try simp only [e0, e1, e2, e3, e4, e5, e6] at h2); omega), fun h2 => absurd hc (by (try simp only [e0, e1, e2, e3, e4, e5, e6] at h2); omega), fun h2 => absurd hc (by (try simp only [e0, e1, e2, e3, e4, e5, e6] at h2); omega), fun h2 => absurd hc (by (try simp only [e0, e1, e2, e3, e4, e5, e6] at h2); omega), fun h2 => absurd hc (by (try simp only [e0, e1, e2, e3, e4, e5, e6] at h2); omega), fun h2 => absurd hc (by (try simp only [e0, e1, e2, e3, e4, e5, e6] at h2); omega), fun h2 => absurd hc (by (try simp only [e0, e1, e2, e3, e4, e5, e6] at h2); omega), fun _ => hr Q hq⟩⟩)
set_option maxRecDepth 100000 in
set_option maxHeartbeats 4000000 in
theorem db_X3_reckonWithNumber_55 {L : c_L} (S : c_S) (a0 : Nat) (r1 : Option Nat) (x2 : Int32) (x3 : Int32) (x5 : Int32) : dt2 (fun Q => kb_X3_reckonWithNumber_55 L  S a0 r1 x2 x3 x5 Q) := by
  unfold kb_X3_reckonWithNumber_55
  exact (ex2 fun a1_ => (gd2 (gd2 (b22 (dm_X3_reckon _ _ _ _ _ _) fun x11_ S10_ => (b22 (dm_X3_finish _ _ _ _ _ _) fun x16_ S15_ => lf2)))))
set_option maxRecDepth 100000 in
set_option maxHeartbeats 4000000 in
theorem db_X3_reckonWithNumber_43 {L : c_L} (S : c_S) (a0 : Nat) (r1 : Option Nat) (x2 : Int32) (x3 : Int32) (x4 : Int32) (x5 : Int32) : dt2 (fun Q => kb_X3_reckonWithNumber_43 L  S a0 r1 x2 x3 x4 x5 Q) := by
  unfold kb_X3_reckonWithNumber_43
  exact (if2 (db_X3_reckonWithNumber_55 _ _ _ _ _ _) (ifn2 (db_X3_reckonWithNumber_55 _ _ _ _ _ _) lf2))
set_option maxRecDepth 100000 in
set_option maxHeartbeats 4000000 in
theorem db_X3_reckonWithNumber_31 {L : c_L} (S : c_S) (a0 : Nat) (r1 : Option Nat) (x2 : Int32) (x3 : Int32) (x4 : Int32) (xs0 : Int32) : dt2 (fun Q => kb_X3_reckonWithNumber_31 L  S a0 r1 x2 x3 x4 xs0 Q) := by
  unfold kb_X3_reckonWithNumber_31
  exact (if2 (db_X3_reckonWithNumber_43 _ _ _ _ _ _ _) (ifn2 (db_X3_reckonWithNumber_55 _ _ _ _ _ _) (db_X3_reckonWithNumber_43 _ _ _ _ _ _ _)))
set_option maxRecDepth 100000 in
set_option maxHeartbeats 4000000 in
theorem db_X3_reckonWithNumber_30 {L : c_L} (S : c_S) (a0 : Nat) (r1 : Option Nat) (x2 : Int32) (x3 : Int32) (x4 : Int32) : dt2 (fun Q => kb_X3_reckonWithNumber_30 L  S a0 r1 x2 x3 x4 Q) := by
  unfold kb_X3_reckonWithNumber_30
  exact (db_X3_reckonWithNumber_31 _ _ _ _ _ _ _)
set_option maxRecDepth 100000 in
set_option maxHeartbeats 4000000 in
theorem dm_X3_reckonWithNumber {L : c_L} (S : c_S) (a0 : Nat) (r1 : Option Nat) (x2 : Int32) : dt2 (fun Q => km_X3_reckonWithNumber L  S a0 r1 x2 Q) := by
  unfold km_X3_reckonWithNumber
  exact (ifn2 (db_X3_reckonWithNumber_30 _ _ _ _ _ _) (ifn2 (db_X3_reckonWithNumber_30 _ _ _ _ _ _) (db_X3_reckonWithNumber_31 _ _ _ _ _ _ _)))
set_option maxRecDepth 100000 in
set_option maxHeartbeats 4000000 in
theorem db_X3_reckonWithRegister_49 {L : c_L} (S : c_S) (a0 : Nat) (r1 : Option Nat) (x2 : Int32) (x3 : Int32) (x5 : Int32) : dt2 (fun Q => kb_X3_reckonWithRegister_49 L  S a0 r1 x2 x3 x5 Q) := by
  unfold kb_X3_reckonWithRegister_49
  exact (ex2 fun a1_ => (gd2 (gd2 (gd2 (b22 (dm_X3_reckon _ _ _ _ _ _) fun x12_ S11_ => (b22 (dm_X3_finish _ _ _ _ _ _) fun x17_ S16_ => lf2))))))
set_option maxRecDepth 100000 in
set_option maxHeartbeats 4000000 in
theorem db_X3_reckonWithRegister_35 {L : c_L} (S : c_S) (a0 : Nat) (r1 : Option Nat) (x2 : Int32) (x3 : Int32) (x4 : Int32) (xs0 : Int32) : dt2 (fun Q => kb_X3_reckonWithRegister_35 L  S a0 r1 x2 x3 x4 xs0 Q) := by
  unfold kb_X3_reckonWithRegister_35
  exact (if2 (db_X3_reckonWithRegister_49 _ _ _ _ _ _) (ifn2 (db_X3_reckonWithRegister_49 _ _ _ _ _ _) lf2))
set_option maxRecDepth 100000 in
set_option maxHeartbeats 4000000 in
theorem db_X3_reckonWithRegister_30 {L : c_L} (S : c_S) (a0 : Nat) (r1 : Option Nat) (x2 : Int32) (x3 : Int32) (x4 : Int32) : dt2 (fun Q => kb_X3_reckonWithRegister_30 L  S a0 r1 x2 x3 x4 Q) := by
  unfold kb_X3_reckonWithRegister_30
  exact (db_X3_reckonWithRegister_35 _ _ _ _ _ _ _)
set_option maxRecDepth 100000 in
set_option maxHeartbeats 4000000 in
theorem db_X3_reckonWithRegister_34 {L : c_L} (S : c_S) (a0 : Nat) (r1 : Option Nat) (x2 : Int32) (x3 : Int32) (x4 : Int32) : dt2 (fun Q => kb_X3_reckonWithRegister_34 L  S a0 r1 x2 x3 x4 Q) := by
  unfold kb_X3_reckonWithRegister_34
  exact (db_X3_reckonWithRegister_35 _ _ _ _ _ _ _)
set_option maxRecDepth 100000 in
set_option maxHeartbeats 4000000 in
theorem dm_X3_reckonWithRegister {L : c_L} (S : c_S) (a0 : Nat) (r1 : Option Nat) (x2 : Int32) : dt2 (fun Q => km_X3_reckonWithRegister L  S a0 r1 x2 Q) := by
  unfold km_X3_reckonWithRegister
  exact (ifn2 (db_X3_reckonWithRegister_34 _ _ _ _ _ _) (if2 (db_X3_reckonWithRegister_30 _ _ _ _ _ _) (ifn2 (db_X3_reckonWithRegister_34 _ _ _ _ _ _) (db_X3_reckonWithRegister_30 _ _ _ _ _ _))))
set_option maxRecDepth 100000 in
set_option maxHeartbeats 4000000 in
theorem db_X3_step_293 {L : c_L} (S : c_S) (xs0 : Int32) : dt2 (fun Q => kb_X3_step_293 L  S xs0 Q) := by
  unfold kb_X3_step_293
  exact lf2
set_option maxRecDepth 100000 in
set_option maxHeartbeats 4000000 in
theorem db_X3_step_244 {L : c_L} (S : c_S) (xs0 : Int32) : dt2 (fun Q => kb_X3_step_244 L  S xs0 Q) := by
  unfold kb_X3_step_244
  exact lf2
set_option maxRecDepth 100000 in
set_option maxHeartbeats 4000000 in
theorem dm_X3_step {L : c_L} (S : c_S) (a0 : Nat) (r1 : Option Nat) (r2 : Option Nat) : dt2 (fun Q => km_X3_step L  S a0 r1 r2 Q) := by
  unfold km_X3_step
  exact (ex2 fun a1_ => (gd2 (if2 (ex2 fun a6_ => (gd2 (b22 (dm_X4_mayRun _ _ _) fun x11_ S10_ => (ifn2 (b22 (dm_X4_partAt _ _ _ _) fun x17_ S16_ => (by
    have e0 : ((x17_ &&& (127 : Int32)) = (103 : Int32)) ↔ ((x17_ &&& (127 : Int32))).toInt = 103 := sw_iff (by decide)
    have e1 : ((x17_ &&& (127 : Int32)) = (111 : Int32)) ↔ ((x17_ &&& (127 : Int32))).toInt = 111 := sw_iff (by decide)
    have e2 : ((x17_ &&& (127 : Int32)) = (19 : Int32)) ↔ ((x17_ &&& (127 : Int32))).toInt = 19 := sw_iff (by decide)
    have e3 : ((x17_ &&& (127 : Int32)) = (23 : Int32)) ↔ ((x17_ &&& (127 : Int32))).toInt = 23 := sw_iff (by decide)
    have e4 : ((x17_ &&& (127 : Int32)) = (3 : Int32)) ↔ ((x17_ &&& (127 : Int32))).toInt = 3 := sw_iff (by decide)
    have e5 : ((x17_ &&& (127 : Int32)) = (35 : Int32)) ↔ ((x17_ &&& (127 : Int32))).toInt = 35 := sw_iff (by decide)
    have e6 : ((x17_ &&& (127 : Int32)) = (51 : Int32)) ↔ ((x17_ &&& (127 : Int32))).toInt = 51 := sw_iff (by decide)
    have e7 : ((x17_ &&& (127 : Int32)) = (55 : Int32)) ↔ ((x17_ &&& (127 : Int32))).toInt = 55 := sw_iff (by decide)
    have e8 : ((x17_ &&& (127 : Int32)) = (99 : Int32)) ↔ ((x17_ &&& (127 : Int32))).toInt = 99 := sw_iff (by decide)
    have ex : ((x17_ &&& (127 : Int32)) = (3 : Int32)) ∨ ((x17_ &&& (127 : Int32)) = (19 : Int32)) ∨ ((x17_ &&& (127 : Int32)) = (23 : Int32)) ∨ ((x17_ &&& (127 : Int32)) = (35 : Int32)) ∨ ((x17_ &&& (127 : Int32)) = (51 : Int32)) ∨ ((x17_ &&& (127 : Int32)) = (55 : Int32)) ∨ ((x17_ &&& (127 : Int32)) = (99 : Int32)) ∨ ((x17_ &&& (127 : Int32)) = (103 : Int32)) ∨ ((x17_ &&& (127 : Int32)) = (111 : Int32)) ∨ (¬ (x17_ &&& (127 : Int32)) = (3 : Int32) ∧ ¬ (x17_ &&& (127 : Int32)) = (19 : Int32) ∧ ¬ (x17_ &&& (127 : Int32)) = (23 : Int32) ∧ ¬ (x17_ &&& (127 : Int32)) = (35 : Int32) ∧ ¬ (x17_ &&& (127 : Int32)) = (51 : Int32) ∧ ¬ (x17_ &&& (127 : Int32)) = (55 : Int32) ∧ ¬ (x17_ &&& (127 : Int32)) = (99 : Int32) ∧ ¬ (x17_ &&& (127 : Int32)) = (103 : Int32) ∧ ¬ (x17_ &&& (127 : Int32)) = (111 : Int32)) := by
      simp only [e0, e1, e2, e3, e4, e5, e6, e7, e8]; omega
    intro P h
    have t0 : dt2 (fun Q : Int32 → c_S → Prop => (km_X3_fetch L (cs_I S16_ 600 a0 x17_) a0 r1 r2 x17_ (fun x21_ S20_ => (Q x21_ S20_)))) := (b22 (dm_X3_fetch _ _ _ _ _) fun x21_ S20_ => lf2)
    have t1 : dt2 (fun Q : Int32 → c_S → Prop => (km_X3_reckonWithNumber L (cs_I S16_ 600 a0 x17_) a0 r1 x17_ (fun x24_ S23_ => (Q x24_ S23_)))) := (b22 (dm_X3_reckonWithNumber _ _ _ _) fun x24_ S23_ => lf2)
    have t2 : dt2 (fun Q : Int32 → c_S → Prop => (km_X3_finish L (cs_I S16_ 600 a0 x17_) a0 r1 x17_ ((c_I (cs_I S16_ 600 a0 x17_) 1410 a1_) + (x17_ &&& (-4096 : Int32))) ((c_I (cs_I S16_ 600 a0 x17_) 1410 a1_) + (4 : Int32)) (fun x28_ S27_ => (Q x28_ S27_)))) := (b22 (dm_X3_finish _ _ _ _ _ _) fun x28_ S27_ => lf2)
    have t3 : dt2 (fun Q : Int32 → c_S → Prop => (km_X3_store L (cs_I S16_ 600 a0 x17_) a0 r1 r2 x17_ (fun x31_ S30_ => (Q x31_ S30_)))) := (b22 (dm_X3_store _ _ _ _ _) fun x31_ S30_ => lf2)
    have t4 : dt2 (fun Q : Int32 → c_S → Prop => (km_X3_reckonWithRegister L (cs_I S16_ 600 a0 x17_) a0 r1 x17_ (fun x34_ S33_ => (Q x34_ S33_)))) := (b22 (dm_X3_reckonWithRegister _ _ _ _) fun x34_ S33_ => lf2)
    have t5 : dt2 (fun Q : Int32 → c_S → Prop => (km_X3_finish L (cs_I S16_ 600 a0 x17_) a0 r1 x17_ (x17_ &&& (-4096 : Int32)) ((c_I (cs_I S16_ 600 a0 x17_) 1410 a1_) + (4 : Int32)) (fun x38_ S37_ => (Q x38_ S37_)))) := (b22 (dm_X3_finish _ _ _ _ _ _) fun x38_ S37_ => lf2)
    have t6 : dt2 (fun Q : Int32 → c_S → Prop => (km_X3_branch L (cs_I S16_ 600 a0 x17_) a0 r1 x17_ (fun x41_ S40_ => (Q x41_ S40_)))) := (b22 (dm_X3_branch _ _ _ _) fun x41_ S40_ => lf2)
    have t7 : dt2 (fun Q : Int32 → c_S → Prop => ((((x17_ >>> ((12 : Int32) &&& 31)) &&& (7 : Int32)) = 0 → (vp_in ((x17_ >>> ((15 : Int32) &&& 31)) &&& (31 : Int32)) 32 ∧ (km_X3_finish L (cs_I S16_ 600 a0 x17_) a0 r1 x17_ ((c_I (cs_I S16_ 600 a0 x17_) 1410 a1_) + (4 : Int32)) (((c_A (cs_I S16_ 600 a0 x17_) 1411 a1_ ((x17_ >>> ((15 : Int32) &&& 31)) &&& (31 : Int32)).toNatClampNeg) + (x17_ >>> ((20 : Int32) &&& 31))) &&& (-2 : Int32)) (fun x50_ S49_ => (kb_X3_step_244 L S49_ x50_ Q))))) ∧ (¬ ((x17_ >>> ((12 : Int32) &&& 31)) &&& (7 : Int32)) = 0 → (kb_X3_step_244 L (cs_I S16_ 600 a0 x17_) (0 : Int32) Q)))) := (if2 (gd2 (b22 (dm_X3_finish _ _ _ _ _ _) fun x50_ S49_ => (db_X3_step_244 _ _))) (db_X3_step_244 _ _))
    have t8 : dt2 (fun Q : Int32 → c_S → Prop => (km_X3_jumpOf L (cs_I S16_ 600 a0 x17_) a0 x17_ (fun x54_ S53_ => (km_X3_finish L S53_ a0 r1 x17_ ((c_I (cs_I S16_ 600 a0 x17_) 1410 a1_) + (4 : Int32)) ((c_I (cs_I S16_ 600 a0 x17_) 1410 a1_) + x54_) (fun x58_ S57_ => (Q x58_ S57_)))))) := (b22 (dm_X3_jumpOf _ _ _) fun x54_ S53_ => (b22 (dm_X3_finish _ _ _ _ _ _) fun x58_ S57_ => lf2))
    have t9 : dt2 (fun Q : Int32 → c_S → Prop => ((¬ x17_ = (115 : Int32) → (kb_X3_step_293 L (cs_I S16_ 600 a0 x17_) (0 : Int32) Q)) ∧ (x17_ = (115 : Int32) → (kb_X3_step_293 L (cs_I S16_ 600 a0 x17_) (5 : Int32) Q)))) := (ifn2 (db_X3_step_293 _ _) (db_X3_step_293 _ _))
    rcases ex with hc | hc | hc | hc | hc | hc | hc | hc | hc | hc
    · obtain ⟨v, s, hp, hr⟩ := t0 P (h.1 hc)
      try simp only [e0, e1, e2, e3, e4, e5, e6, e7, e8] at hc
      exact ⟨v, s, hp, fun Q hq => ⟨fun _ => hr Q hq, fun h2 => absurd hc (by (try simp only [e0, e1, e2, e3, e4, e5, e6, e7, e8] at h2); omega), fun h2 => absurd hc (by (try simp only [e0, e1, e2, e3, e4, e5, e6, e7, e8] at h2); omega), fun h2 => absurd hc (by (try simp only [e0, e1, e2, e3, e4, e5, e6, e7, e8] at h2); omega), fun h2 => absurd hc (by (try simp only [e0, e1, e2, e3, e4, e5, e6, e7, e8] at h2); omega), fun h2 => absurd hc (by (try simp only [e0, e1, e2, e3, e4, e5, e6, e7, e8] at h2); omega), fun h2 => absurd hc (by (try simp only [e0, e1, e2, e3, e4, e5, e6, e7, e8] at h2); omega), fun h2 => absurd hc (by (try simp only [e0, e1, e2, e3, e4, e5, e6, e7, e8] at h2); omega), fun h2 => absurd hc (by (try simp only [e0, e1, e2, e3, e4, e5, e6, e7, e8] at h2); omega), fun h2 => absurd hc (by (try simp only [e0, e1, e2, e3, e4, e5, e6, e7, e8] at h2); omega)⟩⟩
    · obtain ⟨v, s, hp, hr⟩ := t1 P (h.2.1 hc)
      try simp only [e0, e1, e2, e3, e4, e5, e6, e7, e8] at hc
      exact ⟨v, s, hp, fun Q hq => ⟨fun h2 => absurd hc (by (try simp only [e0, e1, e2, e3, e4, e5, e6, e7, e8] at h2); omega), fun _ => hr Q hq, fun h2 => absurd hc (by (try simp only [e0, e1, e2, e3, e4, e5, e6, e7, e8] at h2); omega), fun h2 => absurd hc (by (try simp only [e0, e1, e2, e3, e4, e5, e6, e7, e8] at h2); omega), fun h2 => absurd hc (by (try simp only [e0, e1, e2, e3, e4, e5, e6, e7, e8] at h2); omega), fun h2 => absurd hc (by (try simp only [e0, e1, e2, e3, e4, e5, e6, e7, e8] at h2); omega), fun h2 => absurd hc (by (try simp only [e0, e1, e2, e3, e4, e5, e6, e7, e8] at h2); omega), fun h2 => absurd hc (by (try simp only [e0, e1, e2, e3, e4, e5, e6, e7, e8] at h2); omega), fun h2 => absurd hc (by (try simp only [e0, e1, e2, e3, e4, e5, e6, e7, e8] at h2); omega), fun h2 => absurd hc (by (try simp only [e0, e1, e2, e3, e4, e5, e6, e7, e8] at h2); omega)⟩⟩
    · obtain ⟨v, s, hp, hr⟩ := t2 P (h.2.2.1 hc)
      try simp only [e0, e1, e2, e3, e4, e5, e6, e7, e8] at hc
      exact ⟨v, s, hp, fun Q hq => ⟨fun h2 => absurd hc (by (try simp only [e0, e1, e2, e3, e4, e5, e6, e7, e8] at h2); omega), fun h2 => absurd hc (by (try simp only [e0, e1, e2, e3, e4, e5, e6, e7, e8] at h2); omega), fun _ => hr Q hq, fun h2 => absurd hc (by (try simp only [e0, e1, e2, e3, e4, e5, e6, e7, e8] at h2); omega), fun h2 => absurd hc (by (try simp only [e0, e1, e2, e3, e4, e5, e6, e7, e8] at h2); omega), fun h2 => absurd hc (by (try simp only [e0, e1, e2, e3, e4, e5, e6, e7, e8] at h2); omega), fun h2 => absurd hc (by (try simp only [e0, e1, e2, e3, e4, e5, e6, e7, e8] at h2); omega), fun h2 => absurd hc (by (try simp only [e0, e1, e2, e3, e4, e5, e6, e7, e8] at h2); omega), fun h2 => absurd hc (by (try simp only [e0, e1, e2, e3, e4, e5, e6, e7, e8] at h2); omega), fun h2 => absurd hc (by (try simp only [e0, e1, e2, e3, e4, e5, e6, e7, e8] at h2); omega)⟩⟩
    · obtain ⟨v, s, hp, hr⟩ := t3 P (h.2.2.2.1 hc)
      try simp only [e0, e1, e2, e3, e4, e5, e6, e7, e8] at hc
      exact ⟨v, s, hp, fun Q hq => ⟨fun h2 => absurd hc (by (try simp only [e0, e1, e2, e3, e4, e5, e6, e7, e8] at h2); omega), fun h2 => absurd hc (by (try simp only [e0, e1, e2, e3, e4, e5, e6, e7, e8] at h2); omega), fun h2 => absurd hc (by (try simp only [e0, e1, e2, e3, e4, e5, e6, e7, e8] at h2); omega), fun _ => hr Q hq, fun h2 => absurd hc (by (try simp only [e0, e1, e2, e3, e4, e5, e6, e7, e8] at h2); omega), fun h2 => absurd hc (by (try simp only [e0, e1, e2, e3, e4, e5, e6, e7, e8] at h2); omega), fun h2 => absurd hc (by (try simp only [e0, e1, e2, e3, e4, e5, e6, e7, e8] at h2); omega), fun h2 => absurd hc (by (try simp only [e0, e1, e2, e3, e4, e5, e6, e7, e8] at h2); omega), fun h2 => absurd hc (by (try simp only [e0, e1, e2, e3, e4, e5, e6, e7, e8] at h2); omega), fun h2 => absurd hc (by (try simp only [e0, e1, e2, e3, e4, e5, e6, e7, e8] at h2); omega)⟩⟩
    · obtain ⟨v, s, hp, hr⟩ := t4 P (h.2.2.2.2.1 hc)
      try simp only [e0, e1, e2, e3, e4, e5, e6, e7, e8] at hc
      exact ⟨v, s, hp, fun Q hq => ⟨fun h2 => absurd hc (by (try simp only [e0, e1, e2, e3, e4, e5, e6, e7, e8] at h2); omega), fun h2 => absurd hc (by (try simp only [e0, e1, e2, e3, e4, e5, e6, e7, e8] at h2); omega), fun h2 => absurd hc (by (try simp only [e0, e1, e2, e3, e4, e5, e6, e7, e8] at h2); omega), fun h2 => absurd hc (by (try simp only [e0, e1, e2, e3, e4, e5, e6, e7, e8] at h2); omega), fun _ => hr Q hq, fun h2 => absurd hc (by (try simp only [e0, e1, e2, e3, e4, e5, e6, e7, e8] at h2); omega), fun h2 => absurd hc (by (try simp only [e0, e1, e2, e3, e4, e5, e6, e7, e8] at h2); omega), fun h2 => absurd hc (by (try simp only [e0, e1, e2, e3, e4, e5, e6, e7, e8] at h2); omega), fun h2 => absurd hc (by (try simp only [e0, e1, e2, e3, e4, e5, e6, e7, e8] at h2); omega), fun h2 => absurd hc (by (try simp only [e0, e1, e2, e3, e4, e5, e6, e7, e8] at h2); omega)⟩⟩
    · obtain ⟨v, s, hp, hr⟩ := t5 P (h.2.2.2.2.2.1 hc)
      try simp only [e0, e1, e2, e3, e4, e5, e6, e7, e8] at hc
      exact ⟨v, s, hp, fun Q hq => ⟨fun h2 => absurd hc (by (try simp only [e0, e1, e2, e3, e4, e5, e6, e7, e8] at h2); omega), fun h2 => absurd hc (by (try simp only [e0, e1, e2, e3, e4, e5, e6, e7, e8] at h2); omega), fun h2 => absurd hc (by (try simp only [e0, e1, e2, e3, e4, e5, e6, e7, e8] at h2); omega), fun h2 => absurd hc (by (try simp only [e0, e1, e2, e3, e4, e5, e6, e7, e8] at h2); omega), fun h2 => absurd hc (by (try simp only [e0, e1, e2, e3, e4, e5, e6, e7, e8] at h2); omega), fun _ => hr Q hq, fun h2 => absurd hc (by (try simp only [e0, e1, e2, e3, e4, e5, e6, e7, e8] at h2); omega), fun h2 => absurd hc (by (try simp only [e0, e1, e2, e3, e4, e5, e6, e7, e8] at h2); omega), fun h2 => absurd hc (by (try simp only [e0, e1, e2, e3, e4, e5, e6, e7, e8] at h2); omega), fun h2 => absurd hc (by (try simp only [e0, e1, e2, e3, e4, e5, e6, e7, e8] at h2); omega)⟩⟩
    · obtain ⟨v, s, hp, hr⟩ := t6 P (h.2.2.2.2.2.2.1 hc)
      try simp only [e0, e1, e2, e3, e4, e5, e6, e7, e8] at hc
      exact ⟨v, s, hp, fun Q hq => ⟨fun h2 => absurd hc (by (try simp only [e0, e1, e2, e3, e4, e5, e6, e7, e8] at h2); omega), fun h2 => absurd hc (by (try simp only [e0, e1, e2, e3, e4, e5, e6, e7, e8] at h2); omega), fun h2 => absurd hc (by (try simp only [e0, e1, e2, e3, e4, e5, e6, e7, e8] at h2); omega), fun h2 => absurd hc (by (try simp only [e0, e1, e2, e3, e4, e5, e6, e7, e8] at h2); omega), fun h2 => absurd hc (by (try simp only [e0, e1, e2, e3, e4, e5, e6, e7, e8] at h2); omega), fun h2 => absurd hc (by (try simp only [e0, e1, e2, e3, e4, e5, e6, e7, e8] at h2); omega), fun _ => hr Q hq, fun h2 => absurd hc (by (try simp only [e0, e1, e2, e3, e4, e5, e6, e7, e8] at h2); omega), fun h2 => absurd hc (by (try simp only [e0, e1, e2, e3, e4, e5, e6, e7, e8] at h2); omega), fun h2 => absurd hc (by (try simp only [e0, e1, e2, e3, e4, e5, e6, e7, e8] at h2); omega)⟩⟩
    · obtain ⟨v, s, hp, hr⟩ := t7 P (h.2.2.2.2.2.2.2.1 hc)
      try simp only [e0, e1, e2, e3, e4, e5, e6, e7, e8] at hc
      exact ⟨v, s, hp, fun Q hq => ⟨fun h2 => absurd hc (by (try simp only [e0, e1, e2, e3, e4, e5, e6, e7, e8] at h2); omega), fun h2 => absurd hc (by (try simp only [e0, e1, e2, e3, e4, e5, e6, e7, e8] at h2); omega), fun h2 => absurd hc (by (try simp only [e0, e1, e2, e3, e4, e5, e6, e7, e8] at h2); omega), fun h2 => absurd hc (by (try simp only [e0, e1, e2, e3, e4, e5, e6, e7, e8] at h2); omega), fun h2 => absurd hc (by (try simp only [e0, e1, e2, e3, e4, e5, e6, e7, e8] at h2); omega), fun h2 => absurd hc (by (try simp only [e0, e1, e2, e3, e4, e5, e6, e7, e8] at h2); omega), fun h2 => absurd hc (by (try simp only [e0, e1, e2, e3, e4, e5, e6, e7, e8] at h2); omega), fun _ => hr Q hq, fun h2 => absurd hc (by (try simp only [e0, e1, e2, e3, e4, e5, e6, e7, e8] at h2); omega), fun h2 => absurd hc (by (try simp only [e0, e1, e2, e3, e4, e5, e6, e7, e8] at h2); omega)⟩⟩
    · obtain ⟨v, s, hp, hr⟩ := t8 P (h.2.2.2.2.2.2.2.2.1 hc)
      try simp only [e0, e1, e2, e3, e4, e5, e6, e7, e8] at hc
      exact ⟨v, s, hp, fun Q hq => ⟨fun h2 => absurd hc (by (try simp only [e0, e1, e2, e3, e4, e5, e6, e7, e8] at h2); omega), fun h2 => absurd hc (by (try simp only [e0, e1, e2, e3, e4, e5, e6, e7, e8] at h2); omega), fun h2 => absurd hc (by (try simp only [e0, e1, e2, e3, e4, e5, e6, e7, e8] at h2); omega), fun h2 => absurd hc (by (try simp only [e0, e1, e2, e3, e4, e5, e6, e7, e8] at h2); omega), fun h2 => absurd hc (by (try simp only [e0, e1, e2, e3, e4, e5, e6, e7, e8] at h2); omega), fun h2 => absurd hc (by (try simp only [e0, e1, e2, e3, e4, e5, e6, e7, e8] at h2); omega), fun h2 => absurd hc (by (try simp only [e0, e1, e2, e3, e4, e5, e6, e7, e8] at h2); omega), fun h2 => absurd hc (by (try simp only [e0, e1, e2, e3, e4, e5, e6, e7, e8] at h2); omega), fun _ => hr Q hq, fun h2 => absurd hc (by (try simp only [e0, e1, e2, e3, e4, e5, e6, e7, e8] at h2); omega)⟩⟩
    · obtain ⟨v, s, hp, hr⟩ := t9 P (h.2.2.2.2.2.2.2.2.2 hc)
      try simp only [e0, e1, e2, e3, e4, e5, e6, e7, e8] at hc
      exact ⟨v, s, hp, fun Q hq => ⟨fun h2 => absurd hc (by (try simp only [e0, e1, e2, e3, e4, e5, e6, e7, e8] at h2); omega), fun h2 => absurd hc (by (try simp only [e0, e1, e2, e3, e4, e5, e6, e7, e8] at h2); omega), fun h2 => absurd hc (by (try simp only [e0, e1, e2, e3, e4, e5, e6, e7, e8] at h2); omega), fun h2 => absurd hc (by (try simp only [e0, e1, e2, e3, e4, e5, e6, e7, e8] at h2); omega), fun h2 => absurd hc (by (try simp only [e0, e1, e2, e3, e4, e5, e6, e7, e8] at h2); omega), fun h2 => absurd hc (by (try simp only [e0, e1, e2, e3, e4, e5, e6, e7, e8] at h2); omega), fun h2 => absurd hc (by (try simp only [e0, e1, e2, e3, e4, e5, e6, e7, e8] at h2); omega), fun h2 => absurd hc (by (try simp only [e0, e1, e2, e3, e4, e5, e6, e7, e8] at h2); omega), fun h2 => absurd hc (by (try simp only [e0, e1, e2, e3, e4, e5, e6, e7, e8] at h2); omega), fun _ => hr Q hq⟩⟩)) lf2)))) lf2)))
set_option maxRecDepth 100000 in
set_option maxHeartbeats 4000000 in
theorem db_X4_covered_22 {L : c_L} (S : c_S) (xs0 : Int32) : dt2 (fun Q => kb_X4_covered_22 L  S xs0 Q) := by
  unfold kb_X4_covered_22
  exact lf2
set_option maxRecDepth 100000 in
set_option maxHeartbeats 4000000 in
theorem dm_X4_covered {L : c_L} (S : c_S) (a0 : Nat) : dt2 (fun Q => km_X4_covered L  S a0 Q) := by
  unfold km_X4_covered
  exact (ifn2 (gd2 (db_X4_covered_22 _ _)) (db_X4_covered_22 _ _))
set_option maxRecDepth 100000 in
set_option maxHeartbeats 4000000 in
theorem db_X4_addRegion_44 {L : c_L} (S : c_S) : dt1 (fun Q => kb_X4_addRegion_44 L  S Q) := by
  unfold kb_X4_addRegion_44
  exact lf1
set_option maxRecDepth 100000 in
set_option maxHeartbeats 4000000 in
theorem dm_X4_addRegion {L : c_L} (S : c_S) (a0 : Nat) (x1 : Int32) (x2 : Int32) : dt1 (fun Q => km_X4_addRegion L  S a0 x1 x2 Q) := by
  unfold km_X4_addRegion
  exact (if1 (db_X4_addRegion_44 _) (b21 (dm_X4_covered _ _) fun x5_ S4_ => (gd1 (gd1 (al1 fun S15_ => (db_X4_addRegion_44 _))))))
set_option maxRecDepth 100000 in
set_option maxHeartbeats 4000000 in
theorem db_X4_firstOf_24 {L : c_L} (S : c_S) (xs0 : Int32) : dt2 (fun Q => kb_X4_firstOf_24 L  S xs0 Q) := by
  unfold kb_X4_firstOf_24
  exact lf2
set_option maxRecDepth 100000 in
set_option maxHeartbeats 4000000 in
theorem db_X4_firstOf_12 {L : c_L} (S : c_S) : dt2 (fun Q => kb_X4_firstOf_12 L  S Q) := by
  unfold kb_X4_firstOf_12
  exact (db_X4_firstOf_24 _ _)
set_option maxRecDepth 100000 in
set_option maxHeartbeats 4000000 in
theorem dm_X4_firstOf {L : c_L} (S : c_S) (a0 : Nat) (x1 : Int32) : dt2 (fun Q => km_X4_firstOf L  S a0 x1 Q) := by
  unfold km_X4_firstOf
  exact (if2 (db_X4_firstOf_12 _) (if2 (gd2 (db_X4_firstOf_24 _ _)) (db_X4_firstOf_12 _)))
set_option maxRecDepth 100000 in
set_option maxHeartbeats 4000000 in
theorem db_X4_hasWord_23 {L : c_L} (S : c_S) (xs0 : Int32) : dt2 (fun Q => kb_X4_hasWord_23 L  S xs0 Q) := by
  unfold kb_X4_hasWord_23
  exact (gd2 lf2)
set_option maxRecDepth 100000 in
set_option maxHeartbeats 4000000 in
theorem db_X4_hasWord_22 {L : c_L} (S : c_S) : dt2 (fun Q => kb_X4_hasWord_22 L  S Q) := by
  unfold kb_X4_hasWord_22
  exact (db_X4_hasWord_23 _ _)
set_option maxRecDepth 100000 in
set_option maxHeartbeats 4000000 in
theorem dm_X4_hasWord {L : c_L} (S : c_S) (a0 : Nat) (x1 : Int32) : dt2 (fun Q => km_X4_hasWord L  S a0 x1 Q) := by
  unfold km_X4_hasWord
  exact (if2 (db_X4_hasWord_22 _) (if2 (db_X4_hasWord_22 _) (ifn2 (db_X4_hasWord_22 _) (db_X4_hasWord_23 _ _))))
set_option maxRecDepth 100000 in
set_option maxHeartbeats 4000000 in
theorem dm_X5_reset {L : c_L} (S : c_S) (a0 : Nat) (x1 : Int32) (z2 : Int64) : dt1 (fun Q => km_X5_reset L  S a0 x1 z2 Q) := by
  unfold km_X5_reset
  exact (al1 fun S2_ => (b11 dm_J7_fill_53178 fun S4_ => (b11 dm_J7_fill_53178 fun S7_ => (al1 fun S9_ => (al1 fun S10_ => (al1 fun S11_ => lf1))))))
set_option maxRecDepth 100000 in
set_option maxHeartbeats 4000000 in
theorem db_X5_isFull_19 {L : c_L} (S : c_S) (xs0 : Int32) : dt2 (fun Q => kb_X5_isFull_19 L  S xs0 Q) := by
  unfold kb_X5_isFull_19
  exact (gd2 lf2)
set_option maxRecDepth 100000 in
set_option maxHeartbeats 4000000 in
theorem db_X5_isFull_46 {L : c_L} (S : c_S) (xs0 : Int32) : dt2 (fun Q => kb_X5_isFull_46 L  S xs0 Q) := by
  unfold kb_X5_isFull_46
  exact (gd2 lf2)
set_option maxRecDepth 100000 in
set_option maxHeartbeats 4000000 in
theorem db_X5_isFull_38 {L : c_L} (S : c_S) (xs0 : Int32) (xs1 : Int32) : dt2 (fun Q => kb_X5_isFull_38 L  S xs0 xs1 Q) := by
  unfold kb_X5_isFull_38
  exact (if2 (db_X5_isFull_46 _ _) (db_X5_isFull_46 _ _))
set_option maxRecDepth 100000 in
set_option maxHeartbeats 4000000 in
theorem dm_X5_isFull {L : c_L} (S : c_S) (a0 : Nat) (x1 : Int32) : dt2 (fun Q => km_X5_isFull L  S a0 x1 Q) := by
  unfold km_X5_isFull
  exact (ifn2 (gd2 (ifn2 (db_X5_isFull_38 _ _ _) (db_X5_isFull_38 _ _ _))) (if2 (db_X5_isFull_19 _ _) (db_X5_isFull_19 _ _)))
set_option maxRecDepth 100000 in
set_option maxHeartbeats 4000000 in
theorem dm_X7_reset {L : c_L} (S : c_S) (a0 : Nat) (x1 : Int32) (z2 : Int64) : dt1 (fun Q => km_X7_reset L  S a0 x1 z2 Q) := by
  unfold km_X7_reset
  exact (al1 fun S2_ => (al1 fun S3_ => (b11 dm_J7_fill_53178 fun S5_ => (b11 (dm_X7_leave _ _ _) fun S8_ => lf1))))
set_option maxRecDepth 100000 in
set_option maxHeartbeats 4000000 in
theorem dm_X10_reset {L : c_L} (S : c_S) (a0 : Nat) (z1 : Int64) : dt1 (fun Q => km_X10_reset L  S a0 z1 Q) := by
  unfold km_X10_reset
  exact (al1 fun S2_ => (al1 fun S3_ => lf1))
set_option maxRecDepth 100000 in
set_option maxHeartbeats 4000000 in
theorem db_X5_knows_2 {L : c_L} {B2 : (Int32 → c_S → Prop) → c_S → Nat → Int64 → Int32 → Prop} (hB2 : ∀ y0 y1 y2 y3, dt2 (fun Q => B2 Q y0 y1 y2 y3)) (S : c_S) (a0 : Nat) (z1 : Int64) (x3 : Int32) : dt2 (fun Q => kb_X5_knows_2 L (B2 Q) S a0 z1 x3 Q) := by
  unfold kb_X5_knows_2
  exact (if2 lf2 (b22 (dm_X5_named _ _ _ _) fun x5_ S4_ => (if2 (hB2 _ _ _ _) lf2)))
theorem dl_X5_knows_2 {L : c_L} (n : Nat) (S : c_S) (a0 : Nat) (z1 : Int64) (x3 : Int32) : dt2 (fun Q => kl_X5_knows_2 L  n S a0 z1 x3 Q) := by
  induction n generalizing S a0 z1 x3 with
  | zero => exact fa2
  | succ n ih => exact db_X5_knows_2 (B2 := fun Q y0 y1 y2 y3 => kl_X5_knows_2 L  n y0 y1 y2 y3 Q) (fun y0 y1 y2 y3 => ih y0 y1 y2 y3) _ _ _ _
set_option maxRecDepth 100000 in
set_option maxHeartbeats 4000000 in
theorem dm_X5_knows {L : c_L} (S : c_S) (a0 : Nat) (z1 : Int64) : dt2 (fun Q => km_X5_knows L  S a0 z1 Q) := by
  unfold km_X5_knows
  exact (exn2 fun n7_ => (dl_X5_knows_2 _ _ _ _ _))
set_option maxRecDepth 100000 in
set_option maxHeartbeats 4000000 in
theorem db_X5_setAction_16 {L : c_L} (S : c_S) : dt1 (fun Q => kb_X5_setAction_16 L  S Q) := by
  unfold kb_X5_setAction_16
  exact lf1
set_option maxRecDepth 100000 in
set_option maxHeartbeats 4000000 in
theorem dm_X5_setAction {L : c_L} (S : c_S) (a0 : Nat) (x1 : Int32) (x2 : Int32) : dt1 (fun Q => km_X5_setAction L  S a0 x1 x2 Q) := by
  unfold km_X5_setAction
  exact (if1 (db_X5_setAction_16 _) (if1 (db_X5_setAction_16 _) (gd1 (db_X5_setAction_16 _))))
set_option maxRecDepth 100000 in
set_option maxHeartbeats 4000000 in
theorem db_X5_actionFor_63 {L : c_L} (S : c_S) (xs0 : Int32) : dt2 (fun Q => kb_X5_actionFor_63 L  S xs0 Q) := by
  unfold kb_X5_actionFor_63
  exact lf2
set_option maxRecDepth 100000 in
set_option maxHeartbeats 4000000 in
theorem db_X5_actionFor_58 {L : c_L} (S : c_S) : dt2 (fun Q => kb_X5_actionFor_58 L  S Q) := by
  unfold kb_X5_actionFor_58
  exact (db_X5_actionFor_63 _ _)
set_option maxRecDepth 100000 in
set_option maxHeartbeats 4000000 in
theorem db_X5_actionFor_62 {L : c_L} (S : c_S) (x3 : Int32) : dt2 (fun Q => kb_X5_actionFor_62 L  S x3 Q) := by
  unfold kb_X5_actionFor_62
  exact (db_X5_actionFor_63 _ _)
set_option maxRecDepth 100000 in
set_option maxHeartbeats 4000000 in
theorem db_X5_actionFor_28 {L : c_L} (S : c_S) (a0 : Nat) (xs0 : Int32) : dt2 (fun Q => kb_X5_actionFor_28 L  S a0 xs0 Q) := by
  unfold kb_X5_actionFor_28
  exact (b22 (dm_X5_processAt _ _ _) fun r4_ S3_ => (ifn2 (db_X5_actionFor_62 _ _) (if2 (db_X5_actionFor_58 _) (ex2 fun a7_ => (gd2 (if2 (db_X5_actionFor_62 _ _) (db_X5_actionFor_58 _)))))))
set_option maxRecDepth 100000 in
set_option maxHeartbeats 4000000 in
theorem db_X5_actionFor_18 {L : c_L} (S : c_S) (a0 : Nat) : dt2 (fun Q => kb_X5_actionFor_18 L  S a0 Q) := by
  unfold kb_X5_actionFor_18
  exact (db_X5_actionFor_28 _ _ _)
set_option maxRecDepth 100000 in
set_option maxHeartbeats 4000000 in
theorem dm_X5_actionFor {L : c_L} (S : c_S) (a0 : Nat) (r1 : Option Nat) (x2 : Int32) : dt2 (fun Q => km_X5_actionFor L  S a0 r1 x2 Q) := by
  unfold km_X5_actionFor
  exact (ex2 fun a11_ => (gd2 (if2 (if2 (db_X5_actionFor_18 _ _) (if2 (gd2 (db_X5_actionFor_28 _ _ _)) (db_X5_actionFor_18 _ _))) lf2)))
set_option maxRecDepth 100000 in
set_option maxHeartbeats 4000000 in
theorem db_X5_handOver_53 {L : c_L} (S : c_S) : dt1 (fun Q => kb_X5_handOver_53 L  S Q) := by
  unfold kb_X5_handOver_53
  exact lf1
set_option maxRecDepth 100000 in
set_option maxHeartbeats 4000000 in
theorem dm_X5_handOver {L : c_L} (S : c_S) (a0 : Nat) (r1 : Option Nat) (x2 : Int32) (x3 : Int32) (x4 : Int32) : dt1 (fun Q => km_X5_handOver L  S a0 r1 x2 x3 x4 Q) := by
  unfold km_X5_handOver
  exact (ex1 fun a1_ => (gd1 (b11 (dm_X7_leave _ _ _) fun S5_ => (b11 (dm_X5_unlockOf _ _ _) fun S8_ => (al1 fun S11_ => (b21 (dm_X5_processAt _ _ _) fun r14_ S13_ => (if1 (db_X5_handOver_53 _) (b11 (dm_X5_start _ _ _ _ _) fun S18_ => (db_X5_handOver_53 _)))))))))
set_option maxRecDepth 100000 in
set_option maxHeartbeats 4000000 in
theorem db_X5_firstToWake_57 {L : c_L} {B4 : (Option Nat → c_S → Prop) → c_S → Nat → Int32 → Option Nat → Int32 → Prop} (hB4 : ∀ y0 y1 y2 y3 y4, dt2 (fun Q => B4 Q y0 y1 y2 y3 y4)) (S : c_S) (a0 : Nat) (x1 : Int32) (r2 : Option Nat) (x3 : Int32) : dt2 (fun Q => kb_X5_firstToWake_57 L (B4 Q) S a0 x1 r2 x3 Q) := by
  unfold kb_X5_firstToWake_57
  exact (hB4 _ _ _ _ _)
set_option maxRecDepth 100000 in
set_option maxHeartbeats 4000000 in
theorem db_X5_firstToWake_54 {L : c_L} {B4 : (Option Nat → c_S → Prop) → c_S → Nat → Int32 → Option Nat → Int32 → Prop} (hB4 : ∀ y0 y1 y2 y3 y4, dt2 (fun Q => B4 Q y0 y1 y2 y3 y4)) (S : c_S) (a0 : Nat) (x1 : Int32) (x3 : Int32) (r4 : Option Nat) : dt2 (fun Q => kb_X5_firstToWake_54 L (B4 Q) S a0 x1 x3 r4 Q) := by
  unfold kb_X5_firstToWake_54
  exact (db_X5_firstToWake_57 hB4 _ _ _ _ _)
set_option maxRecDepth 100000 in
set_option maxHeartbeats 4000000 in
theorem db_X5_firstToWake_4 {L : c_L} {B4 : (Option Nat → c_S → Prop) → c_S → Nat → Int32 → Option Nat → Int32 → Prop} (hB4 : ∀ y0 y1 y2 y3 y4, dt2 (fun Q => B4 Q y0 y1 y2 y3 y4)) (S : c_S) (a0 : Nat) (x1 : Int32) (r2 : Option Nat) (x3 : Int32) : dt2 (fun Q => kb_X5_firstToWake_4 L (B4 Q) S a0 x1 r2 x3 Q) := by
  unfold kb_X5_firstToWake_4
  exact (if2 lf2 (gd2 (ex2 fun a7_ => (gd2 (if2 (db_X5_firstToWake_57 hB4 _ _ _ _ _) (if2 (db_X5_firstToWake_57 hB4 _ _ _ _ _) (if2 (db_X5_firstToWake_54 hB4 _ _ _ _ _) (ex2 fun a13_ => (gd2 (if2 (db_X5_firstToWake_57 hB4 _ _ _ _ _) (db_X5_firstToWake_54 hB4 _ _ _ _ _)))))))))))
theorem dl_X5_firstToWake_4 {L : c_L} (n : Nat) (S : c_S) (a0 : Nat) (x1 : Int32) (r2 : Option Nat) (x3 : Int32) : dt2 (fun Q => kl_X5_firstToWake_4 L  n S a0 x1 r2 x3 Q) := by
  induction n generalizing S a0 x1 r2 x3 with
  | zero => exact fa2
  | succ n ih => exact db_X5_firstToWake_4 (B4 := fun Q y0 y1 y2 y3 y4 => kl_X5_firstToWake_4 L  n y0 y1 y2 y3 y4 Q) (fun y0 y1 y2 y3 y4 => ih y0 y1 y2 y3 y4) _ _ _ _ _
set_option maxRecDepth 100000 in
set_option maxHeartbeats 4000000 in
theorem dm_X5_firstToWake {L : c_L} (S : c_S) (a0 : Nat) (x1 : Int32) : dt2 (fun Q => km_X5_firstToWake L  S a0 x1 Q) := by
  unfold km_X5_firstToWake
  exact (exn2 fun n17_ => (dl_X5_firstToWake_4 _ _ _ _ _ _))
set_option maxRecDepth 100000 in
set_option maxHeartbeats 4000000 in
theorem db_X5_wakeUntil_45 {L : c_L} {B2 : (c_S → Prop) → c_S → Nat → Int32 → Int32 → Prop} (hB2 : ∀ y0 y1 y2 y3, dt1 (fun Q => B2 Q y0 y1 y2 y3)) (S : c_S) (a0 : Nat) (x1 : Int32) (x2 : Int32) : dt1 (fun Q => kb_X5_wakeUntil_45 L (B2 Q) S a0 x1 x2 Q) := by
  unfold kb_X5_wakeUntil_45
  exact (hB2 _ _ _ _)
set_option maxRecDepth 100000 in
set_option maxHeartbeats 4000000 in
theorem db_X5_wakeUntil_2 {L : c_L} {B2 : (c_S → Prop) → c_S → Nat → Int32 → Int32 → Prop} (hB2 : ∀ y0 y1 y2 y3, dt1 (fun Q => B2 Q y0 y1 y2 y3)) (S : c_S) (a0 : Nat) (x1 : Int32) (x2 : Int32) : dt1 (fun Q => kb_X5_wakeUntil_2 L (B2 Q) S a0 x1 x2 Q) := by
  unfold kb_X5_wakeUntil_2
  exact (if1 lf1 (b21 (dm_X5_firstToWake _ _ _) fun r5_ S4_ => (ifn1 (ex1 fun a7_ => (gd1 (ifn1 (b11 (dm_X5_answerWaiter _ _ _ _) fun S13_ => (db_X5_wakeUntil_45 hB2 _ _ _ _)) (b11 (dm_X5_makeReady _ _ _) fun S16_ => (db_X5_wakeUntil_45 hB2 _ _ _ _))))) lf1)))
theorem dl_X5_wakeUntil_2 {L : c_L} (n : Nat) (S : c_S) (a0 : Nat) (x1 : Int32) (x2 : Int32) : dt1 (fun Q => kl_X5_wakeUntil_2 L  n S a0 x1 x2 Q) := by
  induction n generalizing S a0 x1 x2 with
  | zero => exact fa1
  | succ n ih => exact db_X5_wakeUntil_2 (B2 := fun Q y0 y1 y2 y3 => kl_X5_wakeUntil_2 L  n y0 y1 y2 y3 Q) (fun y0 y1 y2 y3 => ih y0 y1 y2 y3) _ _ _ _
set_option maxRecDepth 100000 in
set_option maxHeartbeats 4000000 in
theorem dm_X5_wakeUntil {L : c_L} (S : c_S) (a0 : Nat) (x1 : Int32) : dt1 (fun Q => km_X5_wakeUntil L  S a0 x1 Q) := by
  unfold km_X5_wakeUntil
  exact (exn1 fun n17_ => (dl_X5_wakeUntil_2 _ _ _ _ _))
set_option maxRecDepth 100000 in
set_option maxHeartbeats 4000000 in
theorem db_X5_chosen_114 {L : c_L} {B62 : (Option Nat → c_S → Prop) → c_S → Nat → Option Nat → Int32 → Prop} (hB62 : ∀ y0 y1 y2 y3, dt2 (fun Q => B62 Q y0 y1 y2 y3)) (S : c_S) (a0 : Nat) (r3 : Option Nat) (x4 : Int32) : dt2 (fun Q => kb_X5_chosen_114 L (B62 Q) S a0 r3 x4 Q) := by
  unfold kb_X5_chosen_114
  exact (hB62 _ _ _ _)
set_option maxRecDepth 100000 in
set_option maxHeartbeats 4000000 in
theorem db_X5_chosen_111 {L : c_L} {B62 : (Option Nat → c_S → Prop) → c_S → Nat → Option Nat → Int32 → Prop} (hB62 : ∀ y0 y1 y2 y3, dt2 (fun Q => B62 Q y0 y1 y2 y3)) (S : c_S) (a0 : Nat) (x4 : Int32) (r5 : Option Nat) : dt2 (fun Q => kb_X5_chosen_111 L (B62 Q) S a0 x4 r5 Q) := by
  unfold kb_X5_chosen_111
  exact (db_X5_chosen_114 hB62 _ _ _ _)
set_option maxRecDepth 100000 in
set_option maxHeartbeats 4000000 in
theorem db_X5_chosen_62 {L : c_L} {B62 : (Option Nat → c_S → Prop) → c_S → Nat → Option Nat → Int32 → Prop} (hB62 : ∀ y0 y1 y2 y3, dt2 (fun Q => B62 Q y0 y1 y2 y3)) (S : c_S) (a0 : Nat) (r3 : Option Nat) (x4 : Int32) : dt2 (fun Q => kb_X5_chosen_62 L (B62 Q) S a0 r3 x4 Q) := by
  unfold kb_X5_chosen_62
  exact (if2 lf2 (gd2 (ex2 fun a7_ => (gd2 (ifn2 (db_X5_chosen_114 hB62 _ _ _ _) (ifn2 (db_X5_chosen_114 hB62 _ _ _ _) (if2 (db_X5_chosen_111 hB62 _ _ _ _) (b22 (dm_X7_isAheadOf _ _ _ _) fun x15_ S14_ => (if2 (db_X5_chosen_114 hB62 _ _ _ _) (db_X5_chosen_111 hB62 _ _ _ _))))))))))
theorem dl_X5_chosen_62 {L : c_L} (n : Nat) (S : c_S) (a0 : Nat) (r3 : Option Nat) (x4 : Int32) : dt2 (fun Q => kl_X5_chosen_62 L  n S a0 r3 x4 Q) := by
  induction n generalizing S a0 r3 x4 with
  | zero => exact fa2
  | succ n ih => exact db_X5_chosen_62 (B62 := fun Q y0 y1 y2 y3 => kl_X5_chosen_62 L  n y0 y1 y2 y3 Q) (fun y0 y1 y2 y3 => ih y0 y1 y2 y3) _ _ _ _
set_option maxRecDepth 100000 in
set_option maxHeartbeats 4000000 in
theorem db_X5_chosen_57 {L : c_L} (S : c_S) (a0 : Nat) : dt2 (fun Q => kb_X5_chosen_57 L  S a0 Q) := by
  unfold kb_X5_chosen_57
  exact (exn2 fun n17_ => (dl_X5_chosen_62 _ _ _ _ _))
set_option maxRecDepth 100000 in
set_option maxHeartbeats 4000000 in
theorem db_X5_chosen_42 {L : c_L} (S : c_S) (a0 : Nat) (rs0 : Option Nat) : dt2 (fun Q => kb_X5_chosen_42 L  S a0 rs0 Q) := by
  unfold kb_X5_chosen_42
  exact (if2 (db_X5_chosen_57 _ _) (ex2 fun a19_ => (gd2 (ifn2 (db_X5_chosen_57 _ _) lf2))))
set_option maxRecDepth 100000 in
set_option maxHeartbeats 4000000 in
theorem db_X5_chosen_23 {L : c_L} (S : c_S) (a0 : Nat) : dt2 (fun Q => kb_X5_chosen_23 L  S a0 Q) := by
  unfold kb_X5_chosen_23
  exact (if2 (db_X5_chosen_42 _ _ _) (b22 (dm_X5_processAt _ _ _) fun r27_ S26_ => (db_X5_chosen_42 _ _ _)))
set_option maxRecDepth 100000 in
set_option maxHeartbeats 4000000 in
theorem dm_X5_chosen {L : c_L} (S : c_S) (a0 : Nat) : dt2 (fun Q => km_X5_chosen L  S a0 Q) := by
  unfold km_X5_chosen
  exact (b22 (dm_X5_processAt _ _ _) fun r31_ S30_ => (if2 (db_X5_chosen_23 _ _) (ex2 fun a33_ => (gd2 (ifn2 (db_X5_chosen_23 _ _) lf2)))))
set_option maxRecDepth 100000 in
set_option maxHeartbeats 4000000 in
theorem dm_X6_forget {L : c_L} (S : c_S) (a0 : Nat) : dt1 (fun Q => km_X6_forget L  S a0 Q) := by
  unfold km_X6_forget
  exact (al1 fun S2_ => (al1 fun S3_ => lf1))
set_option maxRecDepth 100000 in
set_option maxHeartbeats 4000000 in
theorem dm_X6_clear {L : c_L} (S : c_S) (a0 : Nat) : dt1 (fun Q => km_X6_clear L  S a0 Q) := by
  unfold km_X6_clear
  exact (b11 (dm_X6_forget _ _) fun S3_ => (al1 fun S5_ => (b11 (dm_X2_clear _ _) fun S10_ => lf1)))
set_option maxRecDepth 100000 in
set_option maxHeartbeats 4000000 in
theorem db_X6_addInput_32 {L : c_L} (S : c_S) : dt1 (fun Q => kb_X6_addInput_32 L  S Q) := by
  unfold kb_X6_addInput_32
  exact lf1
set_option maxRecDepth 100000 in
set_option maxHeartbeats 4000000 in
theorem dm_X6_addInput {L : c_L} (S : c_S) (a0 : Nat) (r1 : Option Nat) : dt1 (fun Q => km_X6_addInput L  S a0 r1 Q) := by
  unfold km_X6_addInput
  exact (if1 (db_X6_addInput_32 _) (ex1 fun a3_ => (gd1 (gd1 (al1 fun S10_ => (db_X6_addInput_32 _))))))
set_option maxRecDepth 100000 in
set_option maxHeartbeats 4000000 in
theorem db_X6_addOutput_17 {L : c_L} (S : c_S) (r1 : Option Nat) : dt1 (fun Q => kb_X6_addOutput_17 L  S r1 Q) := by
  unfold kb_X6_addOutput_17
  exact (ex1 fun a1_ => (gd1 lf1))
set_option maxRecDepth 100000 in
set_option maxHeartbeats 4000000 in
theorem dm_X6_addOutput {L : c_L} (S : c_S) (a0 : Nat) (r1 : Option Nat) : dt1 (fun Q => km_X6_addOutput L  S a0 r1 Q) := by
  unfold km_X6_addOutput
  exact (ex1 fun a4_ => (gd1 (ifn1 (db_X6_addOutput_17 _ _) (db_X6_addOutput_17 _ _))))
set_option maxRecDepth 100000 in
set_option maxHeartbeats 4000000 in
theorem db_X6_addWindow_44 {L : c_L} (S : c_S) : dt1 (fun Q => kb_X6_addWindow_44 L  S Q) := by
  unfold kb_X6_addWindow_44
  exact lf1
set_option maxRecDepth 100000 in
set_option maxHeartbeats 4000000 in
theorem dm_X6_addWindow {L : c_L} (S : c_S) (a0 : Nat) (x1 : Int32) (x2 : Int32) : dt1 (fun Q => km_X6_addWindow L  S a0 x1 x2 Q) := by
  unfold km_X6_addWindow
  exact (if1 (db_X6_addWindow_44 _) (gd1 (b21 (dm_X6_frameTicks _ _) fun x9_ S8_ => (gd1 (al1 fun S15_ => (db_X6_addWindow_44 _))))))
set_option maxRecDepth 100000 in
set_option maxHeartbeats 4000000 in
theorem db_X6_partitionNamed_2 {L : c_L} {B2 : (Int32 → c_S → Prop) → c_S → Nat → Int64 → Int32 → Prop} (hB2 : ∀ y0 y1 y2 y3, dt2 (fun Q => B2 Q y0 y1 y2 y3)) (S : c_S) (a0 : Nat) (z1 : Int64) (x3 : Int32) : dt2 (fun Q => kb_X6_partitionNamed_2 L (B2 Q) S a0 z1 x3 Q) := by
  unfold kb_X6_partitionNamed_2
  exact (if2 lf2 (gd2 (ex2 fun a7_ => (gd2 (ifn2 (hB2 _ _ _ _) lf2)))))
theorem dl_X6_partitionNamed_2 {L : c_L} (n : Nat) (S : c_S) (a0 : Nat) (z1 : Int64) (x3 : Int32) : dt2 (fun Q => kl_X6_partitionNamed_2 L  n S a0 z1 x3 Q) := by
  induction n generalizing S a0 z1 x3 with
  | zero => exact fa2
  | succ n ih => exact db_X6_partitionNamed_2 (B2 := fun Q y0 y1 y2 y3 => kl_X6_partitionNamed_2 L  n y0 y1 y2 y3 Q) (fun y0 y1 y2 y3 => ih y0 y1 y2 y3) _ _ _ _
set_option maxRecDepth 100000 in
set_option maxHeartbeats 4000000 in
theorem dm_X6_partitionNamed {L : c_L} (S : c_S) (a0 : Nat) (z1 : Int64) : dt2 (fun Q => km_X6_partitionNamed L  S a0 z1 Q) := by
  unfold km_X6_partitionNamed
  exact (exn2 fun n11_ => (dl_X6_partitionNamed_2 _ _ _ _ _))
set_option maxRecDepth 100000 in
set_option maxHeartbeats 4000000 in
theorem db_X6_partitionAt_22 {L : c_L} (S : c_S) (rs0 : Option Nat) : dt2 (fun Q => kb_X6_partitionAt_22 L  S rs0 Q) := by
  unfold kb_X6_partitionAt_22
  exact lf2
set_option maxRecDepth 100000 in
set_option maxHeartbeats 4000000 in
theorem db_X6_partitionAt_12 {L : c_L} (S : c_S) : dt2 (fun Q => kb_X6_partitionAt_12 L  S Q) := by
  unfold kb_X6_partitionAt_12
  exact (db_X6_partitionAt_22 _ _)
set_option maxRecDepth 100000 in
set_option maxHeartbeats 4000000 in
theorem dm_X6_partitionAt {L : c_L} (S : c_S) (a0 : Nat) (x1 : Int32) : dt2 (fun Q => km_X6_partitionAt L  S a0 x1 Q) := by
  unfold km_X6_partitionAt
  exact (if2 (db_X6_partitionAt_12 _) (if2 (gd2 (db_X6_partitionAt_22 _ _)) (db_X6_partitionAt_12 _)))
set_option maxRecDepth 100000 in
set_option maxHeartbeats 4000000 in
theorem db_X6_processAt_19 {L : c_L} (S : c_S) (rs0 : Option Nat) : dt2 (fun Q => kb_X6_processAt_19 L  S rs0 Q) := by
  unfold kb_X6_processAt_19
  exact lf2
set_option maxRecDepth 100000 in
set_option maxHeartbeats 4000000 in
theorem dm_X6_processAt {L : c_L} (S : c_S) (a0 : Nat) (x1 : Int32) (x2 : Int32) : dt2 (fun Q => km_X6_processAt L  S a0 x1 x2 Q) := by
  unfold km_X6_processAt
  exact (b22 (dm_X6_partitionAt _ _ _) fun r4_ S3_ => (ifn2 (ex2 fun a6_ => (gd2 (b22 (dm_X5_processAt _ _ _) fun r11_ S10_ => (db_X6_processAt_19 _ _)))) (db_X6_processAt_19 _ _)))
set_option maxRecDepth 100000 in
set_option maxHeartbeats 4000000 in
theorem db_X6_thingAt_23 {L : c_L} (S : c_S) (rs0 : Option Nat) : dt2 (fun Q => kb_X6_thingAt_23 L  S rs0 Q) := by
  unfold kb_X6_thingAt_23
  exact lf2
set_option maxRecDepth 100000 in
set_option maxHeartbeats 4000000 in
theorem dm_X6_thingAt {L : c_L} (S : c_S) (a0 : Nat) (x1 : Int32) (x2 : Int32) (x3 : Int32) : dt2 (fun Q => km_X6_thingAt L  S a0 x1 x2 x3 Q) := by
  unfold km_X6_thingAt
  exact (b22 (dm_X6_partitionAt _ _ _) fun r4_ S3_ => (ifn2 (ex2 fun a6_ => (gd2 (b22 (dm_X5_thingAt _ _ _ _) fun r11_ S10_ => (db_X6_thingAt_23 _ _)))) (db_X6_thingAt_23 _ _)))
set_option maxRecDepth 100000 in
set_option maxHeartbeats 4000000 in
theorem db_X6_inputAt_26 {L : c_L} (S : c_S) (rs0 : Option Nat) : dt2 (fun Q => kb_X6_inputAt_26 L  S rs0 Q) := by
  unfold kb_X6_inputAt_26
  exact lf2
set_option maxRecDepth 100000 in
set_option maxHeartbeats 4000000 in
theorem db_X6_inputAt_12 {L : c_L} (S : c_S) : dt2 (fun Q => kb_X6_inputAt_12 L  S Q) := by
  unfold kb_X6_inputAt_12
  exact (db_X6_inputAt_26 _ _)
set_option maxRecDepth 100000 in
set_option maxHeartbeats 4000000 in
theorem dm_X6_inputAt {L : c_L} (S : c_S) (a0 : Nat) (x1 : Int32) : dt2 (fun Q => km_X6_inputAt L  S a0 x1 Q) := by
  unfold km_X6_inputAt
  exact (if2 (db_X6_inputAt_12 _) (if2 (gd2 (b22 (dm_X6_channelAt _ _ _) fun r10_ S9_ => (db_X6_inputAt_26 _ _))) (db_X6_inputAt_12 _)))
set_option maxRecDepth 100000 in
set_option maxHeartbeats 4000000 in
theorem db_X6_partitionNow_20 {L : c_L} (S : c_S) (xs0 : Int32) : dt2 (fun Q => kb_X6_partitionNow_20 L  S xs0 Q) := by
  unfold kb_X6_partitionNow_20
  exact lf2
set_option maxRecDepth 100000 in
set_option maxHeartbeats 4000000 in
theorem dm_X6_partitionNow {L : c_L} (S : c_S) (a0 : Nat) : dt2 (fun Q => km_X6_partitionNow L  S a0 Q) := by
  unfold km_X6_partitionNow
  exact (b22 (dm_X6_windowNow _ _) fun x4_ S3_ => (ifn2 (gd2 (db_X6_partitionNow_20 _ _)) (db_X6_partitionNow_20 _ _)))
set_option maxRecDepth 100000 in
set_option maxHeartbeats 4000000 in
theorem db_X6_takeInputs_58 {L : c_L} {B2 : (c_S → Prop) → c_S → Nat → Int32 → Prop} (hB2 : ∀ y0 y1 y2, dt1 (fun Q => B2 Q y0 y1 y2)) (S : c_S) (a0 : Nat) (x1 : Int32) : dt1 (fun Q => kb_X6_takeInputs_58 L (B2 Q) S a0 x1 Q) := by
  unfold kb_X6_takeInputs_58
  exact (hB2 _ _ _)
set_option maxRecDepth 100000 in
set_option maxHeartbeats 4000000 in
theorem db_X6_takeInputs_2 {L : c_L} {B2 : (c_S → Prop) → c_S → Nat → Int32 → Prop} (hB2 : ∀ y0 y1 y2, dt1 (fun Q => B2 Q y0 y1 y2)) (S : c_S) (a0 : Nat) (x1 : Int32) : dt1 (fun Q => kb_X6_takeInputs_2 L (B2 Q) S a0 x1 Q) := by
  unfold kb_X6_takeInputs_2
  exact (if1 lf1 (gd1 (b21 (dm_X6_channelAt _ _ _) fun r9_ S8_ => (if1 (db_X6_takeInputs_58 hB2 _ _ _) (ex1 fun a12_ => (gd1 (b21 (dm_X1_hasInputAt _ _ _) fun x17_ S16_ => (if1 (db_X6_takeInputs_58 hB2 _ _ _) (b21 (dm_X1_nextInput _ _) fun x22_ S21_ => (b21 (dm_X6_carry _ _ _ _) fun x26_ S25_ => (ifn1 (db_X6_takeInputs_58 hB2 _ _ _) (db_X6_takeInputs_58 hB2 _ _ _))))))))))))
theorem dl_X6_takeInputs_2 {L : c_L} (n : Nat) (S : c_S) (a0 : Nat) (x1 : Int32) : dt1 (fun Q => kl_X6_takeInputs_2 L  n S a0 x1 Q) := by
  induction n generalizing S a0 x1 with
  | zero => exact fa1
  | succ n ih => exact db_X6_takeInputs_2 (B2 := fun Q y0 y1 y2 => kl_X6_takeInputs_2 L  n y0 y1 y2 Q) (fun y0 y1 y2 => ih y0 y1 y2) _ _ _
set_option maxRecDepth 100000 in
set_option maxHeartbeats 4000000 in
theorem dm_X6_takeInputs {L : c_L} (S : c_S) (a0 : Nat) : dt1 (fun Q => km_X6_takeInputs L  S a0 Q) := by
  unfold km_X6_takeInputs
  exact (exn1 fun n29_ => (dl_X6_takeInputs_2 _ _ _ _))
set_option maxRecDepth 100000 in
set_option maxHeartbeats 4000000 in
theorem db_X9_takeIn_22 {L : c_L} (S : c_S) : dt2 (fun Q => kb_X9_takeIn_22 L  S Q) := by
  unfold kb_X9_takeIn_22
  exact lf2
set_option maxRecDepth 100000 in
set_option maxHeartbeats 4000000 in
theorem db_X9_scanName_144 {L : c_L} {B104 : (c_S → Prop) → c_S → Nat → Int32 → Prop} (hB104 : ∀ y0 y1 y2, dt1 (fun Q => B104 Q y0 y1 y2)) (S : c_S) (a0 : Nat) (x1 : Int32) : dt1 (fun Q => kb_X9_scanName_144 L (B104 Q) S a0 x1 Q) := by
  unfold kb_X9_scanName_144
  exact (hB104 _ _ _)
set_option maxRecDepth 100000 in
set_option maxHeartbeats 4000000 in
theorem db_X9_scanName_141 {L : c_L} {B104 : (c_S → Prop) → c_S → Nat → Int32 → Prop} (hB104 : ∀ y0 y1 y2, dt1 (fun Q => B104 Q y0 y1 y2)) (S : c_S) (a0 : Nat) (x1 : Int32) (as0 : Nat) (xs1 : Int32) : dt1 (fun Q => kb_X9_scanName_141 L (B104 Q) S a0 x1 as0 xs1 Q) := by
  unfold kb_X9_scanName_141
  exact (db_X9_scanName_144 hB104 _ _ _)
set_option maxRecDepth 100000 in
set_option maxHeartbeats 4000000 in
theorem db_X9_scanName_104 {L : c_L} {B104 : (c_S → Prop) → c_S → Nat → Int32 → Prop} (hB104 : ∀ y0 y1 y2, dt1 (fun Q => B104 Q y0 y1 y2)) (S : c_S) (a0 : Nat) (x1 : Int32) : dt1 (fun Q => kb_X9_scanName_104 L (B104 Q) S a0 x1 Q) := by
  unfold kb_X9_scanName_104
  exact (if1 lf1 (gd1 (ifn1 (db_X9_scanName_144 hB104 _ _ _) (if1 (db_X9_scanName_141 hB104 _ _ _ _ _) (db_X9_scanName_141 hB104 _ _ _ _ _)))))
theorem dl_X9_scanName_104 {L : c_L} (n : Nat) (S : c_S) (a0 : Nat) (x1 : Int32) : dt1 (fun Q => kl_X9_scanName_104 L  n S a0 x1 Q) := by
  induction n generalizing S a0 x1 with
  | zero => exact fa1
  | succ n ih => exact db_X9_scanName_104 (B104 := fun Q y0 y1 y2 => kl_X9_scanName_104 L  n y0 y1 y2 Q) (fun y0 y1 y2 => ih y0 y1 y2) _ _ _
set_option maxRecDepth 100000 in
set_option maxHeartbeats 4000000 in
theorem db_X9_scanName_90 {L : c_L} (S : c_S) (a0 : Nat) (as0 : Nat) (xs1 : Int32) : dt1 (fun Q => kb_X9_scanName_90 L  S a0 as0 xs1 Q) := by
  unfold kb_X9_scanName_90
  exact (ifn1 (exn1 fun n13_ => (dl_X9_scanName_104 _ _ _ _)) lf1)
set_option maxRecDepth 100000 in
set_option maxHeartbeats 4000000 in
theorem db_X9_scanName_70 {L : c_L} (S : c_S) (a0 : Nat) : dt1 (fun Q => kb_X9_scanName_70 L  S a0 Q) := by
  unfold kb_X9_scanName_70
  exact (if1 (db_X9_scanName_90 _ _ _ _) (db_X9_scanName_90 _ _ _ _))
set_option maxRecDepth 100000 in
set_option maxHeartbeats 4000000 in
theorem db_X9_scanName_5 {L : c_L} {B5 : (c_S → Prop) → c_S → Nat → Prop} (hB5 : ∀ y0 y1, dt1 (fun Q => B5 Q y0 y1)) (S : c_S) (a0 : Nat) : dt1 (fun Q => kb_X9_scanName_5 L (B5 Q) S a0 Q) := by
  unfold kb_X9_scanName_5
  exact (if1 (db_X9_scanName_70 _ _) (gd1 (b21 (dm_X11_nameDigit _ _) fun x24_ S23_ => (if1 (db_X9_scanName_70 _ _) (gd1 (b21 (dm_X11_nameDigit _ _) fun x33_ S32_ => (al1 fun S35_ => (hB5 _ _))))))))
theorem dl_X9_scanName_5 {L : c_L} (n : Nat) (S : c_S) (a0 : Nat) : dt1 (fun Q => kl_X9_scanName_5 L  n S a0 Q) := by
  induction n generalizing S a0 with
  | zero => exact fa1
  | succ n ih => exact db_X9_scanName_5 (B5 := fun Q y0 y1 => kl_X9_scanName_5 L  n y0 y1 Q) (fun y0 y1 => ih y0 y1) _ _
set_option maxRecDepth 100000 in
set_option maxHeartbeats 4000000 in
theorem dm_X9_scanName {L : c_L} (S : c_S) (a0 : Nat) : dt1 (fun Q => km_X9_scanName L  S a0 Q) := by
  unfold km_X9_scanName
  exact (exn1 fun n37_ => (dl_X9_scanName_5 _ _ _))
set_option maxRecDepth 100000 in
set_option maxHeartbeats 4000000 in
theorem db_X9_scanNumber_86 {L : c_L} {B5 : (c_S → Prop) → c_S → Nat → Prop} (hB5 : ∀ y0 y1, dt1 (fun Q => B5 Q y0 y1)) (S : c_S) (a0 : Nat) (as0 : Nat) (xs1 : Int32) : dt1 (fun Q => kb_X9_scanNumber_86 L (B5 Q) S a0 as0 xs1 Q) := by
  unfold kb_X9_scanNumber_86
  exact (al1 fun S3_ => (hB5 _ _))
set_option maxRecDepth 100000 in
set_option maxHeartbeats 4000000 in
theorem db_X9_scanNumber_122 {L : c_L} (S : c_S) (as0 : Nat) (xs1 : Int32) : dt1 (fun Q => kb_X9_scanNumber_122 L  S as0 xs1 Q) := by
  unfold kb_X9_scanNumber_122
  exact lf1
set_option maxRecDepth 100000 in
set_option maxHeartbeats 4000000 in
theorem db_X9_scanNumber_102 {L : c_L} (S : c_S) (a0 : Nat) : dt1 (fun Q => kb_X9_scanNumber_102 L  S a0 Q) := by
  unfold kb_X9_scanNumber_102
  exact (if1 (db_X9_scanNumber_122 _ _ _) (db_X9_scanNumber_122 _ _ _))
set_option maxRecDepth 100000 in
set_option maxHeartbeats 4000000 in
theorem db_X9_scanNumber_5 {L : c_L} {B5 : (c_S → Prop) → c_S → Nat → Prop} (hB5 : ∀ y0 y1, dt1 (fun Q => B5 Q y0 y1)) (S : c_S) (a0 : Nat) : dt1 (fun Q => kb_X9_scanNumber_5 L (B5 Q) S a0 Q) := by
  unfold kb_X9_scanNumber_5
  exact (if1 (db_X9_scanNumber_102 _ _) (gd1 (if1 (db_X9_scanNumber_102 _ _) (gd1 (if1 (db_X9_scanNumber_102 _ _) (if1 (db_X9_scanNumber_86 hB5 _ _ _ _) (gd1 (db_X9_scanNumber_86 hB5 _ _ _ _))))))))
theorem dl_X9_scanNumber_5 {L : c_L} (n : Nat) (S : c_S) (a0 : Nat) : dt1 (fun Q => kl_X9_scanNumber_5 L  n S a0 Q) := by
  induction n generalizing S a0 with
  | zero => exact fa1
  | succ n ih => exact db_X9_scanNumber_5 (B5 := fun Q y0 y1 => kl_X9_scanNumber_5 L  n y0 y1 Q) (fun y0 y1 => ih y0 y1) _ _
set_option maxRecDepth 100000 in
set_option maxHeartbeats 4000000 in
theorem dm_X9_scanNumber {L : c_L} (S : c_S) (a0 : Nat) : dt1 (fun Q => km_X9_scanNumber L  S a0 Q) := by
  unfold km_X9_scanNumber
  exact (exn1 fun n19_ => (dl_X9_scanNumber_5 _ _ _))
set_option maxRecDepth 100000 in
set_option maxHeartbeats 4000000 in
theorem db_X9_sees_21 {L : c_L} (S : c_S) (xs0 : Int32) : dt2 (fun Q => kb_X9_sees_21 L  S xs0 Q) := by
  unfold kb_X9_sees_21
  exact (gd2 lf2)
set_option maxRecDepth 100000 in
set_option maxHeartbeats 4000000 in
theorem db_X9_sees_20 {L : c_L} (S : c_S) : dt2 (fun Q => kb_X9_sees_20 L  S Q) := by
  unfold kb_X9_sees_20
  exact (db_X9_sees_21 _ _)
set_option maxRecDepth 100000 in
set_option maxHeartbeats 4000000 in
theorem dm_X9_sees {L : c_L} (S : c_S) (a0 : Nat) (x1 : Int32) : dt2 (fun Q => km_X9_sees L  S a0 x1 Q) := by
  unfold km_X9_sees
  exact (ifn2 (db_X9_sees_20 _) (ifn2 (db_X9_sees_20 _) (db_X9_sees_21 _ _)))
set_option maxRecDepth 100000 in
set_option maxHeartbeats 4000000 in
theorem db_X9_seesSign_21 {L : c_L} (S : c_S) (xs0 : Int32) : dt2 (fun Q => kb_X9_seesSign_21 L  S xs0 Q) := by
  unfold kb_X9_seesSign_21
  exact (gd2 lf2)
set_option maxRecDepth 100000 in
set_option maxHeartbeats 4000000 in
theorem db_X9_seesSign_20 {L : c_L} (S : c_S) : dt2 (fun Q => kb_X9_seesSign_20 L  S Q) := by
  unfold kb_X9_seesSign_20
  exact (db_X9_seesSign_21 _ _)
set_option maxRecDepth 100000 in
set_option maxHeartbeats 4000000 in
theorem dm_X9_seesSign {L : c_L} (S : c_S) (a0 : Nat) (x1 : Int32) : dt2 (fun Q => km_X9_seesSign L  S a0 x1 Q) := by
  unfold km_X9_seesSign
  exact (ifn2 (db_X9_seesSign_20 _) (ifn2 (db_X9_seesSign_20 _) (db_X9_seesSign_21 _ _)))
set_option maxRecDepth 100000 in
set_option maxHeartbeats 4000000 in
theorem db_X9_errorKind_26 {L : c_L} (S : c_S) (xs0 : Int32) : dt2 (fun Q => kb_X9_errorKind_26 L  S xs0 Q) := by
  unfold kb_X9_errorKind_26
  exact (by
    have e0 : (xs0 = (30 : Int32)) ↔ (xs0).toInt = 30 := sw_iff (by decide)
    have e1 : (xs0 = (31 : Int32)) ↔ (xs0).toInt = 31 := sw_iff (by decide)
    have e2 : (xs0 = (32 : Int32)) ↔ (xs0).toInt = 32 := sw_iff (by decide)
    have e3 : (xs0 = (33 : Int32)) ↔ (xs0).toInt = 33 := sw_iff (by decide)
    have ex : (xs0.toInt < 30 ∨ 33 < xs0.toInt) ∨ (xs0 = (30 : Int32)) ∨ (xs0 = (31 : Int32)) ∨ (xs0 = (32 : Int32)) ∨ (xs0 = (33 : Int32)) := by
      simp only [e0, e1, e2, e3]; omega
    intro P h
    have t0 : dt2 (fun Q : Int32 → c_S → Prop => (Q (-1 : Int32) S)) := lf2
    have t1 : dt2 (fun Q : Int32 → c_S → Prop => (Q (0 : Int32) S)) := lf2
    have t2 : dt2 (fun Q : Int32 → c_S → Prop => (Q (2 : Int32) S)) := lf2
    have t3 : dt2 (fun Q : Int32 → c_S → Prop => (Q (3 : Int32) S)) := lf2
    have t4 : dt2 (fun Q : Int32 → c_S → Prop => (Q (4 : Int32) S)) := lf2
    rcases ex with hc | hc | hc | hc | hc
    · obtain ⟨v, s, hp, hr⟩ := t0 P (h.1 hc)
      try simp only [e0, e1, e2, e3] at hc
      exact ⟨v, s, hp, fun Q hq => ⟨fun _ => hr Q hq, fun h2 => absurd hc (by (try simp only [e0, e1, e2, e3] at h2); omega), fun h2 => absurd hc (by (try simp only [e0, e1, e2, e3] at h2); omega), fun h2 => absurd hc (by (try simp only [e0, e1, e2, e3] at h2); omega), fun h2 => absurd hc (by (try simp only [e0, e1, e2, e3] at h2); omega)⟩⟩
    · obtain ⟨v, s, hp, hr⟩ := t1 P (h.2.1 hc)
      try simp only [e0, e1, e2, e3] at hc
      exact ⟨v, s, hp, fun Q hq => ⟨fun h2 => absurd hc (by (try simp only [e0, e1, e2, e3] at h2); omega), fun _ => hr Q hq, fun h2 => absurd hc (by (try simp only [e0, e1, e2, e3] at h2); omega), fun h2 => absurd hc (by (try simp only [e0, e1, e2, e3] at h2); omega), fun h2 => absurd hc (by (try simp only [e0, e1, e2, e3] at h2); omega)⟩⟩
    · obtain ⟨v, s, hp, hr⟩ := t2 P (h.2.2.1 hc)
      try simp only [e0, e1, e2, e3] at hc
      exact ⟨v, s, hp, fun Q hq => ⟨fun h2 => absurd hc (by (try simp only [e0, e1, e2, e3] at h2); omega), fun h2 => absurd hc (by (try simp only [e0, e1, e2, e3] at h2); omega), fun _ => hr Q hq, fun h2 => absurd hc (by (try simp only [e0, e1, e2, e3] at h2); omega), fun h2 => absurd hc (by (try simp only [e0, e1, e2, e3] at h2); omega)⟩⟩
    · obtain ⟨v, s, hp, hr⟩ := t3 P (h.2.2.2.1 hc)
      try simp only [e0, e1, e2, e3] at hc
      exact ⟨v, s, hp, fun Q hq => ⟨fun h2 => absurd hc (by (try simp only [e0, e1, e2, e3] at h2); omega), fun h2 => absurd hc (by (try simp only [e0, e1, e2, e3] at h2); omega), fun h2 => absurd hc (by (try simp only [e0, e1, e2, e3] at h2); omega), fun _ => hr Q hq, fun h2 => absurd hc (by (try simp only [e0, e1, e2, e3] at h2); omega)⟩⟩
    · obtain ⟨v, s, hp, hr⟩ := t4 P (h.2.2.2.2 hc)
      try simp only [e0, e1, e2, e3] at hc
      exact ⟨v, s, hp, fun Q hq => ⟨fun h2 => absurd hc (by (try simp only [e0, e1, e2, e3] at h2); omega), fun h2 => absurd hc (by (try simp only [e0, e1, e2, e3] at h2); omega), fun h2 => absurd hc (by (try simp only [e0, e1, e2, e3] at h2); omega), fun h2 => absurd hc (by (try simp only [e0, e1, e2, e3] at h2); omega), fun _ => hr Q hq⟩⟩)
set_option maxRecDepth 100000 in
set_option maxHeartbeats 4000000 in
theorem dm_X9_errorKind {L : c_L} (S : c_S) (a0 : Nat) : dt2 (fun Q => km_X9_errorKind L  S a0 Q) := by
  unfold km_X9_errorKind
  exact (b22 (dm_X9_sees _ _ _) fun x6_ S5_ => (if2 (ifn2 (db_X9_errorKind_26 _ _) (db_X9_errorKind_26 _ _)) lf2))
set_option maxRecDepth 100000 in
set_option maxHeartbeats 4000000 in
theorem db_X11_putReady_37 {L : c_L} {B2 : (c_S → Prop) → c_S → Nat → Int32 → Int32 → Int32 → Prop} (hB2 : ∀ y0 y1 y2 y3 y4, dt1 (fun Q => B2 Q y0 y1 y2 y3 y4)) (S : c_S) (a0 : Nat) (x1 : Int32) (x2 : Int32) (x3 : Int32) : dt1 (fun Q => kb_X11_putReady_37 L (B2 Q) S a0 x1 x2 x3 Q) := by
  unfold kb_X11_putReady_37
  exact (hB2 _ _ _ _ _)
set_option maxRecDepth 100000 in
set_option maxHeartbeats 4000000 in
theorem db_X11_putReady_2 {L : c_L} {B2 : (c_S → Prop) → c_S → Nat → Int32 → Int32 → Int32 → Prop} (hB2 : ∀ y0 y1 y2 y3 y4, dt1 (fun Q => B2 Q y0 y1 y2 y3 y4)) (S : c_S) (a0 : Nat) (x1 : Int32) (x2 : Int32) (x3 : Int32) : dt1 (fun Q => kb_X11_putReady_2 L (B2 Q) S a0 x1 x2 x3 Q) := by
  unfold kb_X11_putReady_2
  exact (if1 lf1 (if1 (db_X11_putReady_37 hB2 _ _ _ _ _) (if1 (db_X11_putReady_37 hB2 _ _ _ _ _) (gd1 (db_X11_putReady_37 hB2 _ _ _ _ _)))))
theorem dl_X11_putReady_2 {L : c_L} (n : Nat) (S : c_S) (a0 : Nat) (x1 : Int32) (x2 : Int32) (x3 : Int32) : dt1 (fun Q => kl_X11_putReady_2 L  n S a0 x1 x2 x3 Q) := by
  induction n generalizing S a0 x1 x2 x3 with
  | zero => exact fa1
  | succ n ih => exact db_X11_putReady_2 (B2 := fun Q y0 y1 y2 y3 y4 => kl_X11_putReady_2 L  n y0 y1 y2 y3 y4 Q) (fun y0 y1 y2 y3 y4 => ih y0 y1 y2 y3 y4) _ _ _ _ _
set_option maxRecDepth 100000 in
set_option maxHeartbeats 4000000 in
theorem dm_X11_putReady {L : c_L} (S : c_S) (a0 : Nat) (x1 : Int32) (x2 : Int32) : dt1 (fun Q => km_X11_putReady L  S a0 x1 x2 Q) := by
  unfold km_X11_putReady
  exact (exn1 fun n9_ => (dl_X11_putReady_2 _ _ _ _ _ _))
set_option maxRecDepth 100000 in
set_option maxHeartbeats 4000000 in
theorem dm_X11_feed {L : c_L} (S : c_S) (a0 : Nat) (x1 : Int32) (x2 : Int32) (x3 : Int32) (x4 : Int32) (x5 : Int32) : dt1 (fun Q => km_X11_feed L  S a0 x1 x2 x3 x4 x5 Q) := by
  unfold km_X11_feed
  exact (b11 (dm_X11_putReady _ _ _ _) fun S3_ => (b11 (dm_X11_putReady _ _ _ _) fun S6_ => (b11 (dm_X11_putReady _ _ _ _) fun S9_ => (b11 (dm_X11_putReady _ _ _ _) fun S12_ => (b11 (dm_X11_putReady _ _ _ _) fun S15_ => lf1)))))
set_option maxRecDepth 100000 in
set_option maxHeartbeats 4000000 in
theorem db_X11_end_25 {L : c_L} (S : c_S) : dt2 (fun Q => kb_X11_end_25 L  S Q) := by
  unfold kb_X11_end_25
  exact lf2
set_option maxRecDepth 100000 in
set_option maxHeartbeats 4000000 in
theorem db_X11_fault_28 {L : c_L} (S : c_S) (xs0 : Int32) : dt2 (fun Q => kb_X11_fault_28 L  S xs0 Q) := by
  unfold kb_X11_fault_28
  exact lf2
set_option maxRecDepth 100000 in
set_option maxHeartbeats 4000000 in
theorem dm_X11_fault {L : c_L} (S : c_S) (a0 : Nat) (x1 : Int32) : dt2 (fun Q => km_X11_fault L  S a0 x1 Q) := by
  unfold km_X11_fault
  exact (ifn2 (ifn2 (db_X11_fault_28 _ _) (db_X11_fault_28 _ _)) lf2)
set_option maxRecDepth 100000 in
set_option maxHeartbeats 4000000 in
theorem db_X11_goWrong_176 {L : c_L} (S : c_S) (x5 : Int32) : dt2 (fun Q => kb_X11_goWrong_176 L  S x5 Q) := by
  unfold kb_X11_goWrong_176
  exact lf2
set_option maxRecDepth 100000 in
set_option maxHeartbeats 4000000 in
theorem db_X11_goWrong_122 {L : c_L} (S : c_S) (a0 : Nat) (x5 : Int32) (rs0 : Option Nat) (xs1 : Int32) : dt2 (fun Q => kb_X11_goWrong_122 L  S a0 x5 rs0 xs1 Q) := by
  unfold kb_X11_goWrong_122
  exact (ex2 fun a5_ => (gd2 (b12 (dm_X5_beginAnew _ _ _ _ _) fun S9_ => (db_X11_goWrong_176 _ _))))
set_option maxRecDepth 100000 in
set_option maxHeartbeats 4000000 in
theorem dm_X11_goWrong {L : c_L} (S : c_S) (a0 : Nat) (r1 : Option Nat) (r2 : Option Nat) (x3 : Int32) (x4 : Int32) : dt2 (fun Q => km_X11_goWrong L  S a0 r1 r2 x3 x4 Q) := by
  unfold km_X11_goWrong
  exact (ex2 fun a10_ => (gd2 (b22 (dm_X5_actionFor _ _ _ _) fun x15_ S14_ => (ex2 fun a21_ => (gd2 (b12 (dm_X2_note _ _ _ _ _ _ _ _) fun S28_ => (by
    have e0 : (x15_ = (1 : Int32)) ↔ (x15_).toInt = 1 := sw_iff (by decide)
    have e1 : (x15_ = (2 : Int32)) ↔ (x15_).toInt = 2 := sw_iff (by decide)
    have e2 : (x15_ = (3 : Int32)) ↔ (x15_).toInt = 3 := sw_iff (by decide)
    have e3 : (x15_ = (4 : Int32)) ↔ (x15_).toInt = 4 := sw_iff (by decide)
    have e4 : (x15_ = (5 : Int32)) ↔ (x15_).toInt = 5 := sw_iff (by decide)
    have e5 : (x15_ = (6 : Int32)) ↔ (x15_).toInt = 6 := sw_iff (by decide)
    have ex : (x15_.toInt < 1 ∨ 6 < x15_.toInt) ∨ (x15_ = (1 : Int32)) ∨ (x15_ = (2 : Int32)) ∨ (x15_ = (3 : Int32) ∨ x15_ = (4 : Int32)) ∨ (x15_ = (5 : Int32)) ∨ (x15_ = (6 : Int32)) := by
      simp only [e0, e1, e2, e3, e4, e5]; omega
    intro P h
    have t0 : dt2 (fun Q : Int32 → c_S → Prop => ((x3 = (2 : Int32) → (kb_X11_goWrong_176 L S28_ x15_ Q)) ∧ (¬ x3 = (2 : Int32) → (kb_X11_goWrong_176 L (cs_I S28_ 1410 a21_ ((c_I S28_ 1410 a21_) + (4 : Int32))) x15_ Q)))) := (if2 (db_X11_goWrong_176 _ _) (db_X11_goWrong_176 _ _))
    have t1 : dt2 (fun Q : Int32 → c_S → Prop => (km_X5_rest L S28_ a10_ r2 (fun S33_ => (kb_X11_goWrong_176 L S33_ x15_ Q)))) := (b12 (dm_X5_rest _ _ _) fun S33_ => (db_X11_goWrong_176 _ _))
    have t2 : dt2 (fun Q : Int32 → c_S → Prop => (km_X5_start L S28_ a10_ r2 (c_I S28_ 1211 a0) (c_I S28_ 1211 a0) (fun S40_ => (kb_X11_goWrong_176 L S40_ x15_ Q)))) := (b12 (dm_X5_start _ _ _ _ _) fun S40_ => (db_X11_goWrong_176 _ _))
    have t3 : dt2 (fun Q : Int32 → c_S → Prop => ((¬ x15_ = (4 : Int32) → (kb_X11_goWrong_122 L S28_ a0 x15_ r1 (0 : Int32) Q)) ∧ (x15_ = (4 : Int32) → (kb_X11_goWrong_122 L S28_ a0 x15_ r1 (1 : Int32) Q)))) := (ifn2 (db_X11_goWrong_122 _ _ _ _ _) (db_X11_goWrong_122 _ _ _ _ _))
    have t4 : dt2 (fun Q : Int32 → c_S → Prop => (km_X5_goIdle L S28_ a10_ (fun S44_ => (kb_X11_goWrong_176 L S44_ x15_ Q)))) := (b12 (dm_X5_goIdle _ _) fun S44_ => (db_X11_goWrong_176 _ _))
    have t5 : dt2 (fun Q : Int32 → c_S → Prop => (km_X5_handOver L S28_ a10_ r2 x3 x4 (c_I S28_ 1211 a0) (fun S51_ => (kb_X11_goWrong_176 L S51_ x15_ Q)))) := (b12 (dm_X5_handOver _ _ _ _ _ _) fun S51_ => (db_X11_goWrong_176 _ _))
    rcases ex with hc | hc | hc | hc | hc | hc
    · obtain ⟨v, s, hp, hr⟩ := t0 P (h.1 hc)
      try simp only [e0, e1, e2, e3, e4, e5] at hc
      exact ⟨v, s, hp, fun Q hq => ⟨fun _ => hr Q hq, fun h2 => absurd hc (by (try simp only [e0, e1, e2, e3, e4, e5] at h2); omega), fun h2 => absurd hc (by (try simp only [e0, e1, e2, e3, e4, e5] at h2); omega), fun h2 => absurd hc (by (try simp only [e0, e1, e2, e3, e4, e5] at h2); omega), fun h2 => absurd hc (by (try simp only [e0, e1, e2, e3, e4, e5] at h2); omega), fun h2 => absurd hc (by (try simp only [e0, e1, e2, e3, e4, e5] at h2); omega)⟩⟩
    · obtain ⟨v, s, hp, hr⟩ := t1 P (h.2.1 hc)
      try simp only [e0, e1, e2, e3, e4, e5] at hc
      exact ⟨v, s, hp, fun Q hq => ⟨fun h2 => absurd hc (by (try simp only [e0, e1, e2, e3, e4, e5] at h2); omega), fun _ => hr Q hq, fun h2 => absurd hc (by (try simp only [e0, e1, e2, e3, e4, e5] at h2); omega), fun h2 => absurd hc (by (try simp only [e0, e1, e2, e3, e4, e5] at h2); omega), fun h2 => absurd hc (by (try simp only [e0, e1, e2, e3, e4, e5] at h2); omega), fun h2 => absurd hc (by (try simp only [e0, e1, e2, e3, e4, e5] at h2); omega)⟩⟩
    · obtain ⟨v, s, hp, hr⟩ := t2 P (h.2.2.1 hc)
      try simp only [e0, e1, e2, e3, e4, e5] at hc
      exact ⟨v, s, hp, fun Q hq => ⟨fun h2 => absurd hc (by (try simp only [e0, e1, e2, e3, e4, e5] at h2); omega), fun h2 => absurd hc (by (try simp only [e0, e1, e2, e3, e4, e5] at h2); omega), fun _ => hr Q hq, fun h2 => absurd hc (by (try simp only [e0, e1, e2, e3, e4, e5] at h2); omega), fun h2 => absurd hc (by (try simp only [e0, e1, e2, e3, e4, e5] at h2); omega), fun h2 => absurd hc (by (try simp only [e0, e1, e2, e3, e4, e5] at h2); omega)⟩⟩
    · obtain ⟨v, s, hp, hr⟩ := t3 P (h.2.2.2.1 hc)
      try simp only [e0, e1, e2, e3, e4, e5] at hc
      exact ⟨v, s, hp, fun Q hq => ⟨fun h2 => absurd hc (by (try simp only [e0, e1, e2, e3, e4, e5] at h2); omega), fun h2 => absurd hc (by (try simp only [e0, e1, e2, e3, e4, e5] at h2); omega), fun h2 => absurd hc (by (try simp only [e0, e1, e2, e3, e4, e5] at h2); omega), fun _ => hr Q hq, fun h2 => absurd hc (by (try simp only [e0, e1, e2, e3, e4, e5] at h2); omega), fun h2 => absurd hc (by (try simp only [e0, e1, e2, e3, e4, e5] at h2); omega)⟩⟩
    · obtain ⟨v, s, hp, hr⟩ := t4 P (h.2.2.2.2.1 hc)
      try simp only [e0, e1, e2, e3, e4, e5] at hc
      exact ⟨v, s, hp, fun Q hq => ⟨fun h2 => absurd hc (by (try simp only [e0, e1, e2, e3, e4, e5] at h2); omega), fun h2 => absurd hc (by (try simp only [e0, e1, e2, e3, e4, e5] at h2); omega), fun h2 => absurd hc (by (try simp only [e0, e1, e2, e3, e4, e5] at h2); omega), fun h2 => absurd hc (by (try simp only [e0, e1, e2, e3, e4, e5] at h2); omega), fun _ => hr Q hq, fun h2 => absurd hc (by (try simp only [e0, e1, e2, e3, e4, e5] at h2); omega)⟩⟩
    · obtain ⟨v, s, hp, hr⟩ := t5 P (h.2.2.2.2.2 hc)
      try simp only [e0, e1, e2, e3, e4, e5] at hc
      exact ⟨v, s, hp, fun Q hq => ⟨fun h2 => absurd hc (by (try simp only [e0, e1, e2, e3, e4, e5] at h2); omega), fun h2 => absurd hc (by (try simp only [e0, e1, e2, e3, e4, e5] at h2); omega), fun h2 => absurd hc (by (try simp only [e0, e1, e2, e3, e4, e5] at h2); omega), fun h2 => absurd hc (by (try simp only [e0, e1, e2, e3, e4, e5] at h2); omega), fun h2 => absurd hc (by (try simp only [e0, e1, e2, e3, e4, e5] at h2); omega), fun _ => hr Q hq⟩⟩)))))))
set_option maxRecDepth 100000 in
set_option maxHeartbeats 4000000 in
theorem db_X11_lateOnesDealtWith_75 {L : c_L} {B2 : (Int32 → c_S → Prop) → c_S → Nat → Option Nat → Int32 → Prop} (hB2 : ∀ y0 y1 y2 y3, dt2 (fun Q => B2 Q y0 y1 y2 y3)) (S : c_S) (a0 : Nat) (r1 : Option Nat) (x2 : Int32) : dt2 (fun Q => kb_X11_lateOnesDealtWith_75 L (B2 Q) S a0 r1 x2 Q) := by
  unfold kb_X11_lateOnesDealtWith_75
  exact (hB2 _ _ _ _)
set_option maxRecDepth 100000 in
set_option maxHeartbeats 4000000 in
theorem db_X11_lateOnesDealtWith_2 {L : c_L} {B2 : (Int32 → c_S → Prop) → c_S → Nat → Option Nat → Int32 → Prop} (hB2 : ∀ y0 y1 y2 y3, dt2 (fun Q => B2 Q y0 y1 y2 y3)) (S : c_S) (a0 : Nat) (r1 : Option Nat) (x2 : Int32) : dt2 (fun Q => kb_X11_lateOnesDealtWith_2 L (B2 Q) S a0 r1 x2 Q) := by
  unfold kb_X11_lateOnesDealtWith_2
  exact (ex2 fun a1_ => (gd2 (if2 lf2 (gd2 (ex2 fun a9_ => (gd2 (if2 (db_X11_lateOnesDealtWith_75 hB2 _ _ _ _) (if2 (db_X11_lateOnesDealtWith_75 hB2 _ _ _ _) (b22 (dm_X11_goWrong _ _ _ _ _ _) fun x20_ S19_ => (if2 (db_X11_lateOnesDealtWith_75 hB2 _ _ _ _) (if2 (db_X11_lateOnesDealtWith_75 hB2 _ _ _ _) lf2)))))))))))
theorem dl_X11_lateOnesDealtWith_2 {L : c_L} (n : Nat) (S : c_S) (a0 : Nat) (r1 : Option Nat) (x2 : Int32) : dt2 (fun Q => kl_X11_lateOnesDealtWith_2 L  n S a0 r1 x2 Q) := by
  induction n generalizing S a0 r1 x2 with
  | zero => exact fa2
  | succ n ih => exact db_X11_lateOnesDealtWith_2 (B2 := fun Q y0 y1 y2 y3 => kl_X11_lateOnesDealtWith_2 L  n y0 y1 y2 y3 Q) (fun y0 y1 y2 y3 => ih y0 y1 y2 y3) _ _ _ _
set_option maxRecDepth 100000 in
set_option maxHeartbeats 4000000 in
theorem dm_X11_lateOnesDealtWith {L : c_L} (S : c_S) (a0 : Nat) (r1 : Option Nat) : dt2 (fun Q => km_X11_lateOnesDealtWith L  S a0 r1 Q) := by
  unfold km_X11_lateOnesDealtWith
  exact (exn2 fun n23_ => (dl_X11_lateOnesDealtWith_2 _ _ _ _ _))
set_option maxRecDepth 100000 in
set_option maxHeartbeats 4000000 in
theorem db_X11_turn_11 {L : c_L} (S : c_S) : dt1 (fun Q => kb_X11_turn_11 L  S Q) := by
  unfold kb_X11_turn_11
  exact lf1
set_option maxRecDepth 100000 in
set_option maxHeartbeats 4000000 in
theorem db_X11_turn_150 {L : c_L} (S : c_S) : dt1 (fun Q => kb_X11_turn_150 L  S Q) := by
  unfold kb_X11_turn_150
  exact lf1
set_option maxRecDepth 100000 in
set_option maxHeartbeats 4000000 in
theorem db_X11_turn_135 {L : c_L} (S : c_S) (a0 : Nat) (r1 : Option Nat) (r2 : Option Nat) (x3 : Int32) (x4 : Int32) : dt1 (fun Q => kb_X11_turn_135 L  S a0 r1 r2 x3 x4 Q) := by
  unfold kb_X11_turn_135
  exact (if1 (db_X11_turn_150 _) (b21 (dm_X11_goWrong _ _ _ _ _ _) fun x5_ S4_ => (db_X11_turn_150 _)))
set_option maxRecDepth 100000 in
set_option maxHeartbeats 4000000 in
theorem db_X11_turn_133 {L : c_L} (S : c_S) (a0 : Nat) (r1 : Option Nat) (r2 : Option Nat) (x3 : Int32) (xs0 : Int32) : dt1 (fun Q => kb_X11_turn_133 L  S a0 r1 r2 x3 xs0 Q) := by
  unfold kb_X11_turn_133
  exact (db_X11_turn_135 _ _ _ _ _ _)
set_option maxRecDepth 100000 in
set_option maxHeartbeats 4000000 in
theorem dm_X11_turn {L : c_L} (S : c_S) (a0 : Nat) (r1 : Option Nat) : dt1 (fun Q => km_X11_turn L  S a0 r1 Q) := by
  unfold km_X11_turn
  exact (if1 (db_X11_turn_11 _) (ex1 fun a7_ => (gd1 (if1 (b11 (dm_X5_wakeUntil _ _ _) fun S16_ => (b21 (dm_X11_lateOnesDealtWith _ _ _) fun x20_ S19_ => (ifn1 (b21 (dm_X5_chosen _ _) fun r25_ S24_ => (ifn1 (ex1 fun a27_ => (gd1 (al1 fun S31_ => (b21 (dm_X3_step _ _ _ _) fun x41_ S40_ => (ifn1 (db_X11_turn_135 _ _ _ _ _ _) (b21 (dm_X0_answer _ _ _ _ _) fun x52_ S51_ => (ifn1 (db_X11_turn_133 _ _ _ _ _ _) (gd1 (db_X11_turn_133 _ _ _ _ _ _))))))))) lf1)) lf1))) (db_X11_turn_11 _)))))
set_option maxRecDepth 100000 in
set_option maxHeartbeats 4000000 in
theorem db_X11_peek_24 {L : c_L} (S : c_S) : dt2 (fun Q => kb_X11_peek_24 L  S Q) := by
  unfold kb_X11_peek_24
  exact lf2
set_option maxRecDepth 100000 in
set_option maxHeartbeats 4000000 in
theorem db_X11_peek_61 {L : c_L} (S : c_S) (xs0 : Int32) : dt2 (fun Q => kb_X11_peek_61 L  S xs0 Q) := by
  unfold kb_X11_peek_61
  exact lf2
set_option maxRecDepth 100000 in
set_option maxHeartbeats 4000000 in
theorem dm_X11_peek {L : c_L} (S : c_S) (a0 : Nat) (x1 : Int32) (x2 : Int32) : dt2 (fun Q => km_X11_peek L  S a0 x1 x2 Q) := by
  unfold km_X11_peek
  exact (b22 (dm_X6_partitionAt _ _ _) fun r7_ S6_ => (if2 (db_X11_peek_24 _) (ex2 fun a9_ => (gd2 (b22 (dm_X4_hasWord _ _ _) fun x17_ S16_ => (ifn2 (if2 (gd2 (db_X11_peek_61 _ _)) (gd2 (db_X11_peek_61 _ _))) (db_X11_peek_24 _)))))))
set_option maxRecDepth 100000 in
set_option maxHeartbeats 4000000 in
theorem db_X11_register_37 {L : c_L} (S : c_S) (xs0 : Int32) : dt2 (fun Q => kb_X11_register_37 L  S xs0 Q) := by
  unfold kb_X11_register_37
  exact lf2
set_option maxRecDepth 100000 in
set_option maxHeartbeats 4000000 in
theorem db_X11_register_26 {L : c_L} (S : c_S) : dt2 (fun Q => kb_X11_register_26 L  S Q) := by
  unfold kb_X11_register_26
  exact (db_X11_register_37 _ _)
set_option maxRecDepth 100000 in
set_option maxHeartbeats 4000000 in
theorem dm_X11_register {L : c_L} (S : c_S) (a0 : Nat) (x1 : Int32) (x2 : Int32) (x3 : Int32) : dt2 (fun Q => km_X11_register L  S a0 x1 x2 x3 Q) := by
  unfold km_X11_register
  exact (b22 (dm_X6_processAt _ _ _ _) fun r7_ S6_ => (if2 (db_X11_register_26 _) (if2 (db_X11_register_26 _) (if2 (ex2 fun a11_ => (gd2 (gd2 (db_X11_register_37 _ _)))) (db_X11_register_26 _)))))
set_option maxRecDepth 100000 in
set_option maxHeartbeats 4000000 in
theorem db_X11_state_137 {L : c_L} (S : c_S) (xs0 : Int32) : dt2 (fun Q => kb_X11_state_137 L  S xs0 Q) := by
  unfold kb_X11_state_137
  exact lf2
set_option maxRecDepth 100000 in
set_option maxHeartbeats 4000000 in
theorem db_X11_state_123 {L : c_L} (S : c_S) (xs0 : Int32) : dt2 (fun Q => kb_X11_state_123 L  S xs0 Q) := by
  unfold kb_X11_state_123
  exact lf2
set_option maxRecDepth 100000 in
set_option maxHeartbeats 4000000 in
theorem dm_X11_state {L : c_L} (S : c_S) (a0 : Nat) (x1 : Int32) (x2 : Int32) (x3 : Int32) : dt2 (fun Q => km_X11_state L  S a0 x1 x2 x3 Q) := by
  unfold km_X11_state
  exact (b22 (dm_X6_processAt _ _ _ _) fun r7_ S6_ => (ifn2 (by
    have e0 : (x3 = (0 : Int32)) ↔ (x3).toInt = 0 := sw_iff (by decide)
    have e1 : (x3 = (1 : Int32)) ↔ (x3).toInt = 1 := sw_iff (by decide)
    have e2 : (x3 = (2 : Int32)) ↔ (x3).toInt = 2 := sw_iff (by decide)
    have e3 : (x3 = (3 : Int32)) ↔ (x3).toInt = 3 := sw_iff (by decide)
    have e4 : (x3 = (4 : Int32)) ↔ (x3).toInt = 4 := sw_iff (by decide)
    have e5 : (x3 = (5 : Int32)) ↔ (x3).toInt = 5 := sw_iff (by decide)
    have e6 : (x3 = (6 : Int32)) ↔ (x3).toInt = 6 := sw_iff (by decide)
    have e7 : (x3 = (7 : Int32)) ↔ (x3).toInt = 7 := sw_iff (by decide)
    have e8 : (x3 = (8 : Int32)) ↔ (x3).toInt = 8 := sw_iff (by decide)
    have ex : (x3.toInt < 0 ∨ 8 < x3.toInt) ∨ (x3 = (0 : Int32)) ∨ (x3 = (1 : Int32)) ∨ (x3 = (2 : Int32)) ∨ (x3 = (3 : Int32)) ∨ (x3 = (4 : Int32)) ∨ (x3 = (5 : Int32)) ∨ (x3 = (6 : Int32)) ∨ (x3 = (7 : Int32)) ∨ (x3 = (8 : Int32)) := by
      simp only [e0, e1, e2, e3, e4, e5, e6, e7, e8]; omega
    intro P h
    have t0 : dt2 (fun Q : Int32 → c_S → Prop => (Q (-1 : Int32) S6_)) := lf2
    have t1 : dt2 (fun Q : Int32 → c_S → Prop => (∃ a9_ : Nat, r7_ = some a9_ ∧ (c_mk L 7 a9_ ∧ (Q (c_I S6_ 1409 a9_) S6_)))) := (ex2 fun a9_ => (gd2 lf2))
    have t2 : dt2 (fun Q : Int32 → c_S → Prop => (∃ a12_ : Nat, r7_ = some a12_ ∧ (c_mk L 7 a12_ ∧ (Q (c_I S6_ 1410 a12_) S6_)))) := (ex2 fun a12_ => (gd2 lf2))
    have t3 : dt2 (fun Q : Int32 → c_S → Prop => (∃ a15_ : Nat, r7_ = some a15_ ∧ (c_mk L 7 a15_ ∧ (Q (c_I S6_ 1403 a15_) S6_)))) := (ex2 fun a15_ => (gd2 lf2))
    have t4 : dt2 (fun Q : Int32 → c_S → Prop => (∃ a18_ : Nat, r7_ = some a18_ ∧ (c_mk L 7 a18_ ∧ (Q (c_I S6_ 1412 a18_) S6_)))) := (ex2 fun a18_ => (gd2 lf2))
    have t5 : dt2 (fun Q : Int32 → c_S → Prop => (∃ a21_ : Nat, r7_ = some a21_ ∧ (c_mk L 7 a21_ ∧ (Q (c_I S6_ 1413 a21_) S6_)))) := (ex2 fun a21_ => (gd2 lf2))
    have t6 : dt2 (fun Q : Int32 → c_S → Prop => (∃ a24_ : Nat, r7_ = some a24_ ∧ (c_mk L 7 a24_ ∧ (Q (c_I S6_ 1414 a24_) S6_)))) := (ex2 fun a24_ => (gd2 lf2))
    have t7 : dt2 (fun Q : Int32 → c_S → Prop => (∃ a27_ : Nat, r7_ = some a27_ ∧ (c_mk L 7 a27_ ∧ (Q (c_I S6_ 1415 a27_) S6_)))) := (ex2 fun a27_ => (gd2 lf2))
    have t8 : dt2 (fun Q : Int32 → c_S → Prop => (∃ a30_ : Nat, r7_ = some a30_ ∧ (c_mk L 7 a30_ ∧ (((c_I S6_ 1407 a30_) = 0 → (kb_X11_state_123 L S6_ (0 : Int32) Q)) ∧ (¬ (c_I S6_ 1407 a30_) = 0 → (kb_X11_state_123 L S6_ (1 : Int32) Q)))))) := (ex2 fun a30_ => (gd2 (if2 (db_X11_state_123 _ _) (db_X11_state_123 _ _))))
    have t9 : dt2 (fun Q : Int32 → c_S → Prop => (∃ a34_ : Nat, r7_ = some a34_ ∧ (c_mk L 7 a34_ ∧ (((c_I S6_ 1416 a34_) = 0 → (kb_X11_state_137 L S6_ (0 : Int32) Q)) ∧ (¬ (c_I S6_ 1416 a34_) = 0 → (kb_X11_state_137 L S6_ (1 : Int32) Q)))))) := (ex2 fun a34_ => (gd2 (if2 (db_X11_state_137 _ _) (db_X11_state_137 _ _))))
    rcases ex with hc | hc | hc | hc | hc | hc | hc | hc | hc | hc
    · obtain ⟨v, s, hp, hr⟩ := t0 P (h.1 hc)
      try simp only [e0, e1, e2, e3, e4, e5, e6, e7, e8] at hc
      exact ⟨v, s, hp, fun Q hq => ⟨fun _ => hr Q hq, fun h2 => absurd hc (by (try simp only [e0, e1, e2, e3, e4, e5, e6, e7, e8] at h2); omega), fun h2 => absurd hc (by (try simp only [e0, e1, e2, e3, e4, e5, e6, e7, e8] at h2); omega), fun h2 => absurd hc (by (try simp only [e0, e1, e2, e3, e4, e5, e6, e7, e8] at h2); omega), fun h2 => absurd hc (by (try simp only [e0, e1, e2, e3, e4, e5, e6, e7, e8] at h2); omega), fun h2 => absurd hc (by (try simp only [e0, e1, e2, e3, e4, e5, e6, e7, e8] at h2); omega), fun h2 => absurd hc (by (try simp only [e0, e1, e2, e3, e4, e5, e6, e7, e8] at h2); omega), fun h2 => absurd hc (by (try simp only [e0, e1, e2, e3, e4, e5, e6, e7, e8] at h2); omega), fun h2 => absurd hc (by (try simp only [e0, e1, e2, e3, e4, e5, e6, e7, e8] at h2); omega), fun h2 => absurd hc (by (try simp only [e0, e1, e2, e3, e4, e5, e6, e7, e8] at h2); omega)⟩⟩
    · obtain ⟨v, s, hp, hr⟩ := t1 P (h.2.1 hc)
      try simp only [e0, e1, e2, e3, e4, e5, e6, e7, e8] at hc
      exact ⟨v, s, hp, fun Q hq => ⟨fun h2 => absurd hc (by (try simp only [e0, e1, e2, e3, e4, e5, e6, e7, e8] at h2); omega), fun _ => hr Q hq, fun h2 => absurd hc (by (try simp only [e0, e1, e2, e3, e4, e5, e6, e7, e8] at h2); omega), fun h2 => absurd hc (by (try simp only [e0, e1, e2, e3, e4, e5, e6, e7, e8] at h2); omega), fun h2 => absurd hc (by (try simp only [e0, e1, e2, e3, e4, e5, e6, e7, e8] at h2); omega), fun h2 => absurd hc (by (try simp only [e0, e1, e2, e3, e4, e5, e6, e7, e8] at h2); omega), fun h2 => absurd hc (by (try simp only [e0, e1, e2, e3, e4, e5, e6, e7, e8] at h2); omega), fun h2 => absurd hc (by (try simp only [e0, e1, e2, e3, e4, e5, e6, e7, e8] at h2); omega), fun h2 => absurd hc (by (try simp only [e0, e1, e2, e3, e4, e5, e6, e7, e8] at h2); omega), fun h2 => absurd hc (by (try simp only [e0, e1, e2, e3, e4, e5, e6, e7, e8] at h2); omega)⟩⟩
    · obtain ⟨v, s, hp, hr⟩ := t2 P (h.2.2.1 hc)
      try simp only [e0, e1, e2, e3, e4, e5, e6, e7, e8] at hc
      exact ⟨v, s, hp, fun Q hq => ⟨fun h2 => absurd hc (by (try simp only [e0, e1, e2, e3, e4, e5, e6, e7, e8] at h2); omega), fun h2 => absurd hc (by (try simp only [e0, e1, e2, e3, e4, e5, e6, e7, e8] at h2); omega), fun _ => hr Q hq, fun h2 => absurd hc (by (try simp only [e0, e1, e2, e3, e4, e5, e6, e7, e8] at h2); omega), fun h2 => absurd hc (by (try simp only [e0, e1, e2, e3, e4, e5, e6, e7, e8] at h2); omega), fun h2 => absurd hc (by (try simp only [e0, e1, e2, e3, e4, e5, e6, e7, e8] at h2); omega), fun h2 => absurd hc (by (try simp only [e0, e1, e2, e3, e4, e5, e6, e7, e8] at h2); omega), fun h2 => absurd hc (by (try simp only [e0, e1, e2, e3, e4, e5, e6, e7, e8] at h2); omega), fun h2 => absurd hc (by (try simp only [e0, e1, e2, e3, e4, e5, e6, e7, e8] at h2); omega), fun h2 => absurd hc (by (try simp only [e0, e1, e2, e3, e4, e5, e6, e7, e8] at h2); omega)⟩⟩
    · obtain ⟨v, s, hp, hr⟩ := t3 P (h.2.2.2.1 hc)
      try simp only [e0, e1, e2, e3, e4, e5, e6, e7, e8] at hc
      exact ⟨v, s, hp, fun Q hq => ⟨fun h2 => absurd hc (by (try simp only [e0, e1, e2, e3, e4, e5, e6, e7, e8] at h2); omega), fun h2 => absurd hc (by (try simp only [e0, e1, e2, e3, e4, e5, e6, e7, e8] at h2); omega), fun h2 => absurd hc (by (try simp only [e0, e1, e2, e3, e4, e5, e6, e7, e8] at h2); omega), fun _ => hr Q hq, fun h2 => absurd hc (by (try simp only [e0, e1, e2, e3, e4, e5, e6, e7, e8] at h2); omega), fun h2 => absurd hc (by (try simp only [e0, e1, e2, e3, e4, e5, e6, e7, e8] at h2); omega), fun h2 => absurd hc (by (try simp only [e0, e1, e2, e3, e4, e5, e6, e7, e8] at h2); omega), fun h2 => absurd hc (by (try simp only [e0, e1, e2, e3, e4, e5, e6, e7, e8] at h2); omega), fun h2 => absurd hc (by (try simp only [e0, e1, e2, e3, e4, e5, e6, e7, e8] at h2); omega), fun h2 => absurd hc (by (try simp only [e0, e1, e2, e3, e4, e5, e6, e7, e8] at h2); omega)⟩⟩
    · obtain ⟨v, s, hp, hr⟩ := t4 P (h.2.2.2.2.1 hc)
      try simp only [e0, e1, e2, e3, e4, e5, e6, e7, e8] at hc
      exact ⟨v, s, hp, fun Q hq => ⟨fun h2 => absurd hc (by (try simp only [e0, e1, e2, e3, e4, e5, e6, e7, e8] at h2); omega), fun h2 => absurd hc (by (try simp only [e0, e1, e2, e3, e4, e5, e6, e7, e8] at h2); omega), fun h2 => absurd hc (by (try simp only [e0, e1, e2, e3, e4, e5, e6, e7, e8] at h2); omega), fun h2 => absurd hc (by (try simp only [e0, e1, e2, e3, e4, e5, e6, e7, e8] at h2); omega), fun _ => hr Q hq, fun h2 => absurd hc (by (try simp only [e0, e1, e2, e3, e4, e5, e6, e7, e8] at h2); omega), fun h2 => absurd hc (by (try simp only [e0, e1, e2, e3, e4, e5, e6, e7, e8] at h2); omega), fun h2 => absurd hc (by (try simp only [e0, e1, e2, e3, e4, e5, e6, e7, e8] at h2); omega), fun h2 => absurd hc (by (try simp only [e0, e1, e2, e3, e4, e5, e6, e7, e8] at h2); omega), fun h2 => absurd hc (by (try simp only [e0, e1, e2, e3, e4, e5, e6, e7, e8] at h2); omega)⟩⟩
    · obtain ⟨v, s, hp, hr⟩ := t5 P (h.2.2.2.2.2.1 hc)
      try simp only [e0, e1, e2, e3, e4, e5, e6, e7, e8] at hc
      exact ⟨v, s, hp, fun Q hq => ⟨fun h2 => absurd hc (by (try simp only [e0, e1, e2, e3, e4, e5, e6, e7, e8] at h2); omega), fun h2 => absurd hc (by (try simp only [e0, e1, e2, e3, e4, e5, e6, e7, e8] at h2); omega), fun h2 => absurd hc (by (try simp only [e0, e1, e2, e3, e4, e5, e6, e7, e8] at h2); omega), fun h2 => absurd hc (by (try simp only [e0, e1, e2, e3, e4, e5, e6, e7, e8] at h2); omega), fun h2 => absurd hc (by (try simp only [e0, e1, e2, e3, e4, e5, e6, e7, e8] at h2); omega), fun _ => hr Q hq, fun h2 => absurd hc (by (try simp only [e0, e1, e2, e3, e4, e5, e6, e7, e8] at h2); omega), fun h2 => absurd hc (by (try simp only [e0, e1, e2, e3, e4, e5, e6, e7, e8] at h2); omega), fun h2 => absurd hc (by (try simp only [e0, e1, e2, e3, e4, e5, e6, e7, e8] at h2); omega), fun h2 => absurd hc (by (try simp only [e0, e1, e2, e3, e4, e5, e6, e7, e8] at h2); omega)⟩⟩
    · obtain ⟨v, s, hp, hr⟩ := t6 P (h.2.2.2.2.2.2.1 hc)
      try simp only [e0, e1, e2, e3, e4, e5, e6, e7, e8] at hc
      exact ⟨v, s, hp, fun Q hq => ⟨fun h2 => absurd hc (by (try simp only [e0, e1, e2, e3, e4, e5, e6, e7, e8] at h2); omega), fun h2 => absurd hc (by (try simp only [e0, e1, e2, e3, e4, e5, e6, e7, e8] at h2); omega), fun h2 => absurd hc (by (try simp only [e0, e1, e2, e3, e4, e5, e6, e7, e8] at h2); omega), fun h2 => absurd hc (by (try simp only [e0, e1, e2, e3, e4, e5, e6, e7, e8] at h2); omega), fun h2 => absurd hc (by (try simp only [e0, e1, e2, e3, e4, e5, e6, e7, e8] at h2); omega), fun h2 => absurd hc (by (try simp only [e0, e1, e2, e3, e4, e5, e6, e7, e8] at h2); omega), fun _ => hr Q hq, fun h2 => absurd hc (by (try simp only [e0, e1, e2, e3, e4, e5, e6, e7, e8] at h2); omega), fun h2 => absurd hc (by (try simp only [e0, e1, e2, e3, e4, e5, e6, e7, e8] at h2); omega), fun h2 => absurd hc (by (try simp only [e0, e1, e2, e3, e4, e5, e6, e7, e8] at h2); omega)⟩⟩
    · obtain ⟨v, s, hp, hr⟩ := t7 P (h.2.2.2.2.2.2.2.1 hc)
      try simp only [e0, e1, e2, e3, e4, e5, e6, e7, e8] at hc
      exact ⟨v, s, hp, fun Q hq => ⟨fun h2 => absurd hc (by (try simp only [e0, e1, e2, e3, e4, e5, e6, e7, e8] at h2); omega), fun h2 => absurd hc (by (try simp only [e0, e1, e2, e3, e4, e5, e6, e7, e8] at h2); omega), fun h2 => absurd hc (by (try simp only [e0, e1, e2, e3, e4, e5, e6, e7, e8] at h2); omega), fun h2 => absurd hc (by (try simp only [e0, e1, e2, e3, e4, e5, e6, e7, e8] at h2); omega), fun h2 => absurd hc (by (try simp only [e0, e1, e2, e3, e4, e5, e6, e7, e8] at h2); omega), fun h2 => absurd hc (by (try simp only [e0, e1, e2, e3, e4, e5, e6, e7, e8] at h2); omega), fun h2 => absurd hc (by (try simp only [e0, e1, e2, e3, e4, e5, e6, e7, e8] at h2); omega), fun _ => hr Q hq, fun h2 => absurd hc (by (try simp only [e0, e1, e2, e3, e4, e5, e6, e7, e8] at h2); omega), fun h2 => absurd hc (by (try simp only [e0, e1, e2, e3, e4, e5, e6, e7, e8] at h2); omega)⟩⟩
    · obtain ⟨v, s, hp, hr⟩ := t8 P (h.2.2.2.2.2.2.2.2.1 hc)
      try simp only [e0, e1, e2, e3, e4, e5, e6, e7, e8] at hc
      exact ⟨v, s, hp, fun Q hq => ⟨fun h2 => absurd hc (by (try simp only [e0, e1, e2, e3, e4, e5, e6, e7, e8] at h2); omega), fun h2 => absurd hc (by (try simp only [e0, e1, e2, e3, e4, e5, e6, e7, e8] at h2); omega), fun h2 => absurd hc (by (try simp only [e0, e1, e2, e3, e4, e5, e6, e7, e8] at h2); omega), fun h2 => absurd hc (by (try simp only [e0, e1, e2, e3, e4, e5, e6, e7, e8] at h2); omega), fun h2 => absurd hc (by (try simp only [e0, e1, e2, e3, e4, e5, e6, e7, e8] at h2); omega), fun h2 => absurd hc (by (try simp only [e0, e1, e2, e3, e4, e5, e6, e7, e8] at h2); omega), fun h2 => absurd hc (by (try simp only [e0, e1, e2, e3, e4, e5, e6, e7, e8] at h2); omega), fun h2 => absurd hc (by (try simp only [e0, e1, e2, e3, e4, e5, e6, e7, e8] at h2); omega), fun _ => hr Q hq, fun h2 => absurd hc (by (try simp only [e0, e1, e2, e3, e4, e5, e6, e7, e8] at h2); omega)⟩⟩
    · obtain ⟨v, s, hp, hr⟩ := t9 P (h.2.2.2.2.2.2.2.2.2 hc)
      try simp only [e0, e1, e2, e3, e4, e5, e6, e7, e8] at hc
      exact ⟨v, s, hp, fun Q hq => ⟨fun h2 => absurd hc (by (try simp only [e0, e1, e2, e3, e4, e5, e6, e7, e8] at h2); omega), fun h2 => absurd hc (by (try simp only [e0, e1, e2, e3, e4, e5, e6, e7, e8] at h2); omega), fun h2 => absurd hc (by (try simp only [e0, e1, e2, e3, e4, e5, e6, e7, e8] at h2); omega), fun h2 => absurd hc (by (try simp only [e0, e1, e2, e3, e4, e5, e6, e7, e8] at h2); omega), fun h2 => absurd hc (by (try simp only [e0, e1, e2, e3, e4, e5, e6, e7, e8] at h2); omega), fun h2 => absurd hc (by (try simp only [e0, e1, e2, e3, e4, e5, e6, e7, e8] at h2); omega), fun h2 => absurd hc (by (try simp only [e0, e1, e2, e3, e4, e5, e6, e7, e8] at h2); omega), fun h2 => absurd hc (by (try simp only [e0, e1, e2, e3, e4, e5, e6, e7, e8] at h2); omega), fun h2 => absurd hc (by (try simp only [e0, e1, e2, e3, e4, e5, e6, e7, e8] at h2); omega), fun _ => hr Q hq⟩⟩) lf2))
set_option maxRecDepth 100000 in
set_option maxHeartbeats 4000000 in
theorem db_X11_partition_156 {L : c_L} (S : c_S) (xs0 : Int32) : dt2 (fun Q => kb_X11_partition_156 L  S xs0 Q) := by
  unfold kb_X11_partition_156
  exact lf2
set_option maxRecDepth 100000 in
set_option maxHeartbeats 4000000 in
theorem db_X11_partition_35 {L : c_L} (S : c_S) (x2 : Int32) (r3 : Option Nat) : dt2 (fun Q => kb_X11_partition_35 L  S x2 r3 Q) := by
  unfold kb_X11_partition_35
  exact (by
    have e0 : (x2 = (0 : Int32)) ↔ (x2).toInt = 0 := sw_iff (by decide)
    have e1 : (x2 = (1 : Int32)) ↔ (x2).toInt = 1 := sw_iff (by decide)
    have e2 : (x2 = (10 : Int32)) ↔ (x2).toInt = 10 := sw_iff (by decide)
    have e3 : (x2 = (11 : Int32)) ↔ (x2).toInt = 11 := sw_iff (by decide)
    have e4 : (x2 = (12 : Int32)) ↔ (x2).toInt = 12 := sw_iff (by decide)
    have e5 : (x2 = (13 : Int32)) ↔ (x2).toInt = 13 := sw_iff (by decide)
    have e6 : (x2 = (2 : Int32)) ↔ (x2).toInt = 2 := sw_iff (by decide)
    have e7 : (x2 = (3 : Int32)) ↔ (x2).toInt = 3 := sw_iff (by decide)
    have e8 : (x2 = (4 : Int32)) ↔ (x2).toInt = 4 := sw_iff (by decide)
    have e9 : (x2 = (5 : Int32)) ↔ (x2).toInt = 5 := sw_iff (by decide)
    have e10 : (x2 = (6 : Int32)) ↔ (x2).toInt = 6 := sw_iff (by decide)
    have e11 : (x2 = (7 : Int32)) ↔ (x2).toInt = 7 := sw_iff (by decide)
    have e12 : (x2 = (8 : Int32)) ↔ (x2).toInt = 8 := sw_iff (by decide)
    have e13 : (x2 = (9 : Int32)) ↔ (x2).toInt = 9 := sw_iff (by decide)
    have ex : (x2.toInt < 0 ∨ 13 < x2.toInt) ∨ (x2 = (0 : Int32)) ∨ (x2 = (1 : Int32)) ∨ (x2 = (2 : Int32)) ∨ (x2 = (3 : Int32) ∨ x2 = (4 : Int32) ∨ x2 = (5 : Int32) ∨ x2 = (6 : Int32) ∨ x2 = (7 : Int32)) ∨ (x2 = (8 : Int32)) ∨ (x2 = (9 : Int32)) ∨ (x2 = (10 : Int32)) ∨ (x2 = (11 : Int32)) ∨ (x2 = (12 : Int32)) ∨ (x2 = (13 : Int32)) := by
      simp only [e0, e1, e2, e3, e4, e5, e6, e7, e8, e9, e10, e11, e12, e13]; omega
    intro P h
    have t0 : dt2 (fun Q : Int32 → c_S → Prop => (Q (-1 : Int32) S)) := lf2
    have t1 : dt2 (fun Q : Int32 → c_S → Prop => (∃ a1_ : Nat, r3 = some a1_ ∧ (c_mk L 5 a1_ ∧ (Q (c_I S 1009 a1_) S)))) := (ex2 fun a1_ => (gd2 lf2))
    have t2 : dt2 (fun Q : Int32 → c_S → Prop => (∃ a4_ : Nat, r3 = some a4_ ∧ (c_mk L 5 a4_ ∧ (Q (c_I S 800 a4_) S)))) := (ex2 fun a4_ => (gd2 lf2))
    have t3 : dt2 (fun Q : Int32 → c_S → Prop => (∃ a10_ : Nat, r3 = some a10_ ∧ (c_mk L 5 a10_ ∧ (Q (c_I S 1004 a10_) S)))) := (ex2 fun a10_ => (gd2 lf2))
    have t4 : dt2 (fun Q : Int32 → c_S → Prop => (Q (-1 : Int32) S)) := lf2
    have t5 : dt2 (fun Q : Int32 → c_S → Prop => (∃ a13_ : Nat, r3 = some a13_ ∧ (c_mk L 5 a13_ ∧ (Q (c_I S 1011 a13_) S)))) := (ex2 fun a13_ => (gd2 lf2))
    have t6 : dt2 (fun Q : Int32 → c_S → Prop => (∃ a16_ : Nat, r3 = some a16_ ∧ (c_mk L 5 a16_ ∧ (Q (c_I S 1013 a16_) S)))) := (ex2 fun a16_ => (gd2 lf2))
    have t7 : dt2 (fun Q : Int32 → c_S → Prop => (∃ a19_ : Nat, r3 = some a19_ ∧ (c_mk L 5 a19_ ∧ (km_X5_chosen L S a19_ (fun r24_ S23_ => ((¬ r24_ = none → (∃ a26_ : Nat, r24_ = some a26_ ∧ (c_mk L 7 a26_ ∧ (kb_X11_partition_156 L S23_ (c_I S23_ 1400 a26_) Q)))) ∧ (r24_ = none → (kb_X11_partition_156 L S23_ (-1 : Int32) Q)))))))) := (ex2 fun a19_ => (gd2 (b22 (dm_X5_chosen _ _) fun r24_ S23_ => (ifn2 (ex2 fun a26_ => (gd2 (db_X11_partition_156 _ _))) (db_X11_partition_156 _ _)))))
    have t8 : dt2 (fun Q : Int32 → c_S → Prop => (∃ a29_ : Nat, r3 = some a29_ ∧ (c_mk L 5 a29_ ∧ (Q (c_I S 1010 a29_) S)))) := (ex2 fun a29_ => (gd2 lf2))
    have t9 : dt2 (fun Q : Int32 → c_S → Prop => (∃ a32_ : Nat, r3 = some a32_ ∧ (c_mk L 5 a32_ ∧ (Q (c_I S 803 a32_) S)))) := (ex2 fun a32_ => (gd2 lf2))
    have t10 : dt2 (fun Q : Int32 → c_S → Prop => (∃ a38_ : Nat, r3 = some a38_ ∧ (c_mk L 5 a38_ ∧ (Q (c_I S 1012 a38_) S)))) := (ex2 fun a38_ => (gd2 lf2))
    rcases ex with hc | hc | hc | hc | hc | hc | hc | hc | hc | hc | hc
    · obtain ⟨v, s, hp, hr⟩ := t0 P (h.1 hc)
      try simp only [e0, e1, e2, e3, e4, e5, e6, e7, e8, e9, e10, e11, e12, e13] at hc
      exact ⟨v, s, hp, fun Q hq => ⟨fun _ => hr Q hq, fun h2 => absurd hc (by (try simp only [e0, e1, e2, e3, e4, e5, e6, e7, e8, e9, e10, e11, e12, e13] at h2); omega), fun h2 => absurd hc (by (try simp only [e0, e1, e2, e3, e4, e5, e6, e7, e8, e9, e10, e11, e12, e13] at h2); omega), fun h2 => absurd hc (by (try simp only [e0, e1, e2, e3, e4, e5, e6, e7, e8, e9, e10, e11, e12, e13] at h2); omega), fun h2 => absurd hc (by (try simp only [e0, e1, e2, e3, e4, e5, e6, e7, e8, e9, e10, e11, e12, e13] at h2); omega), fun h2 => absurd hc (by (try simp only [e0, e1, e2, e3, e4, e5, e6, e7, e8, e9, e10, e11, e12, e13] at h2); omega), fun h2 => absurd hc (by (try simp only [e0, e1, e2, e3, e4, e5, e6, e7, e8, e9, e10, e11, e12, e13] at h2); omega), fun h2 => absurd hc (by (try simp only [e0, e1, e2, e3, e4, e5, e6, e7, e8, e9, e10, e11, e12, e13] at h2); omega), fun h2 => absurd hc (by (try simp only [e0, e1, e2, e3, e4, e5, e6, e7, e8, e9, e10, e11, e12, e13] at h2); omega), fun h2 => absurd hc (by (try simp only [e0, e1, e2, e3, e4, e5, e6, e7, e8, e9, e10, e11, e12, e13] at h2); omega), fun h2 => absurd hc (by (try simp only [e0, e1, e2, e3, e4, e5, e6, e7, e8, e9, e10, e11, e12, e13] at h2); omega)⟩⟩
    · obtain ⟨v, s, hp, hr⟩ := t1 P (h.2.1 hc)
      try simp only [e0, e1, e2, e3, e4, e5, e6, e7, e8, e9, e10, e11, e12, e13] at hc
      exact ⟨v, s, hp, fun Q hq => ⟨fun h2 => absurd hc (by (try simp only [e0, e1, e2, e3, e4, e5, e6, e7, e8, e9, e10, e11, e12, e13] at h2); omega), fun _ => hr Q hq, fun h2 => absurd hc (by (try simp only [e0, e1, e2, e3, e4, e5, e6, e7, e8, e9, e10, e11, e12, e13] at h2); omega), fun h2 => absurd hc (by (try simp only [e0, e1, e2, e3, e4, e5, e6, e7, e8, e9, e10, e11, e12, e13] at h2); omega), fun h2 => absurd hc (by (try simp only [e0, e1, e2, e3, e4, e5, e6, e7, e8, e9, e10, e11, e12, e13] at h2); omega), fun h2 => absurd hc (by (try simp only [e0, e1, e2, e3, e4, e5, e6, e7, e8, e9, e10, e11, e12, e13] at h2); omega), fun h2 => absurd hc (by (try simp only [e0, e1, e2, e3, e4, e5, e6, e7, e8, e9, e10, e11, e12, e13] at h2); omega), fun h2 => absurd hc (by (try simp only [e0, e1, e2, e3, e4, e5, e6, e7, e8, e9, e10, e11, e12, e13] at h2); omega), fun h2 => absurd hc (by (try simp only [e0, e1, e2, e3, e4, e5, e6, e7, e8, e9, e10, e11, e12, e13] at h2); omega), fun h2 => absurd hc (by (try simp only [e0, e1, e2, e3, e4, e5, e6, e7, e8, e9, e10, e11, e12, e13] at h2); omega), fun h2 => absurd hc (by (try simp only [e0, e1, e2, e3, e4, e5, e6, e7, e8, e9, e10, e11, e12, e13] at h2); omega)⟩⟩
    · obtain ⟨v, s, hp, hr⟩ := t2 P (h.2.2.1 hc)
      try simp only [e0, e1, e2, e3, e4, e5, e6, e7, e8, e9, e10, e11, e12, e13] at hc
      exact ⟨v, s, hp, fun Q hq => ⟨fun h2 => absurd hc (by (try simp only [e0, e1, e2, e3, e4, e5, e6, e7, e8, e9, e10, e11, e12, e13] at h2); omega), fun h2 => absurd hc (by (try simp only [e0, e1, e2, e3, e4, e5, e6, e7, e8, e9, e10, e11, e12, e13] at h2); omega), fun _ => hr Q hq, fun h2 => absurd hc (by (try simp only [e0, e1, e2, e3, e4, e5, e6, e7, e8, e9, e10, e11, e12, e13] at h2); omega), fun h2 => absurd hc (by (try simp only [e0, e1, e2, e3, e4, e5, e6, e7, e8, e9, e10, e11, e12, e13] at h2); omega), fun h2 => absurd hc (by (try simp only [e0, e1, e2, e3, e4, e5, e6, e7, e8, e9, e10, e11, e12, e13] at h2); omega), fun h2 => absurd hc (by (try simp only [e0, e1, e2, e3, e4, e5, e6, e7, e8, e9, e10, e11, e12, e13] at h2); omega), fun h2 => absurd hc (by (try simp only [e0, e1, e2, e3, e4, e5, e6, e7, e8, e9, e10, e11, e12, e13] at h2); omega), fun h2 => absurd hc (by (try simp only [e0, e1, e2, e3, e4, e5, e6, e7, e8, e9, e10, e11, e12, e13] at h2); omega), fun h2 => absurd hc (by (try simp only [e0, e1, e2, e3, e4, e5, e6, e7, e8, e9, e10, e11, e12, e13] at h2); omega), fun h2 => absurd hc (by (try simp only [e0, e1, e2, e3, e4, e5, e6, e7, e8, e9, e10, e11, e12, e13] at h2); omega)⟩⟩
    · obtain ⟨v, s, hp, hr⟩ := t3 P (h.2.2.2.1 hc)
      try simp only [e0, e1, e2, e3, e4, e5, e6, e7, e8, e9, e10, e11, e12, e13] at hc
      exact ⟨v, s, hp, fun Q hq => ⟨fun h2 => absurd hc (by (try simp only [e0, e1, e2, e3, e4, e5, e6, e7, e8, e9, e10, e11, e12, e13] at h2); omega), fun h2 => absurd hc (by (try simp only [e0, e1, e2, e3, e4, e5, e6, e7, e8, e9, e10, e11, e12, e13] at h2); omega), fun h2 => absurd hc (by (try simp only [e0, e1, e2, e3, e4, e5, e6, e7, e8, e9, e10, e11, e12, e13] at h2); omega), fun _ => hr Q hq, fun h2 => absurd hc (by (try simp only [e0, e1, e2, e3, e4, e5, e6, e7, e8, e9, e10, e11, e12, e13] at h2); omega), fun h2 => absurd hc (by (try simp only [e0, e1, e2, e3, e4, e5, e6, e7, e8, e9, e10, e11, e12, e13] at h2); omega), fun h2 => absurd hc (by (try simp only [e0, e1, e2, e3, e4, e5, e6, e7, e8, e9, e10, e11, e12, e13] at h2); omega), fun h2 => absurd hc (by (try simp only [e0, e1, e2, e3, e4, e5, e6, e7, e8, e9, e10, e11, e12, e13] at h2); omega), fun h2 => absurd hc (by (try simp only [e0, e1, e2, e3, e4, e5, e6, e7, e8, e9, e10, e11, e12, e13] at h2); omega), fun h2 => absurd hc (by (try simp only [e0, e1, e2, e3, e4, e5, e6, e7, e8, e9, e10, e11, e12, e13] at h2); omega), fun h2 => absurd hc (by (try simp only [e0, e1, e2, e3, e4, e5, e6, e7, e8, e9, e10, e11, e12, e13] at h2); omega)⟩⟩
    · obtain ⟨v, s, hp, hr⟩ := t4 P (h.2.2.2.2.1 hc)
      try simp only [e0, e1, e2, e3, e4, e5, e6, e7, e8, e9, e10, e11, e12, e13] at hc
      exact ⟨v, s, hp, fun Q hq => ⟨fun h2 => absurd hc (by (try simp only [e0, e1, e2, e3, e4, e5, e6, e7, e8, e9, e10, e11, e12, e13] at h2); omega), fun h2 => absurd hc (by (try simp only [e0, e1, e2, e3, e4, e5, e6, e7, e8, e9, e10, e11, e12, e13] at h2); omega), fun h2 => absurd hc (by (try simp only [e0, e1, e2, e3, e4, e5, e6, e7, e8, e9, e10, e11, e12, e13] at h2); omega), fun h2 => absurd hc (by (try simp only [e0, e1, e2, e3, e4, e5, e6, e7, e8, e9, e10, e11, e12, e13] at h2); omega), fun _ => hr Q hq, fun h2 => absurd hc (by (try simp only [e0, e1, e2, e3, e4, e5, e6, e7, e8, e9, e10, e11, e12, e13] at h2); omega), fun h2 => absurd hc (by (try simp only [e0, e1, e2, e3, e4, e5, e6, e7, e8, e9, e10, e11, e12, e13] at h2); omega), fun h2 => absurd hc (by (try simp only [e0, e1, e2, e3, e4, e5, e6, e7, e8, e9, e10, e11, e12, e13] at h2); omega), fun h2 => absurd hc (by (try simp only [e0, e1, e2, e3, e4, e5, e6, e7, e8, e9, e10, e11, e12, e13] at h2); omega), fun h2 => absurd hc (by (try simp only [e0, e1, e2, e3, e4, e5, e6, e7, e8, e9, e10, e11, e12, e13] at h2); omega), fun h2 => absurd hc (by (try simp only [e0, e1, e2, e3, e4, e5, e6, e7, e8, e9, e10, e11, e12, e13] at h2); omega)⟩⟩
    · obtain ⟨v, s, hp, hr⟩ := t5 P (h.2.2.2.2.2.1 hc)
      try simp only [e0, e1, e2, e3, e4, e5, e6, e7, e8, e9, e10, e11, e12, e13] at hc
      exact ⟨v, s, hp, fun Q hq => ⟨fun h2 => absurd hc (by (try simp only [e0, e1, e2, e3, e4, e5, e6, e7, e8, e9, e10, e11, e12, e13] at h2); omega), fun h2 => absurd hc (by (try simp only [e0, e1, e2, e3, e4, e5, e6, e7, e8, e9, e10, e11, e12, e13] at h2); omega), fun h2 => absurd hc (by (try simp only [e0, e1, e2, e3, e4, e5, e6, e7, e8, e9, e10, e11, e12, e13] at h2); omega), fun h2 => absurd hc (by (try simp only [e0, e1, e2, e3, e4, e5, e6, e7, e8, e9, e10, e11, e12, e13] at h2); omega), fun h2 => absurd hc (by (try simp only [e0, e1, e2, e3, e4, e5, e6, e7, e8, e9, e10, e11, e12, e13] at h2); omega), fun _ => hr Q hq, fun h2 => absurd hc (by (try simp only [e0, e1, e2, e3, e4, e5, e6, e7, e8, e9, e10, e11, e12, e13] at h2); omega), fun h2 => absurd hc (by (try simp only [e0, e1, e2, e3, e4, e5, e6, e7, e8, e9, e10, e11, e12, e13] at h2); omega), fun h2 => absurd hc (by (try simp only [e0, e1, e2, e3, e4, e5, e6, e7, e8, e9, e10, e11, e12, e13] at h2); omega), fun h2 => absurd hc (by (try simp only [e0, e1, e2, e3, e4, e5, e6, e7, e8, e9, e10, e11, e12, e13] at h2); omega), fun h2 => absurd hc (by (try simp only [e0, e1, e2, e3, e4, e5, e6, e7, e8, e9, e10, e11, e12, e13] at h2); omega)⟩⟩
    · obtain ⟨v, s, hp, hr⟩ := t6 P (h.2.2.2.2.2.2.1 hc)
      try simp only [e0, e1, e2, e3, e4, e5, e6, e7, e8, e9, e10, e11, e12, e13] at hc
      exact ⟨v, s, hp, fun Q hq => ⟨fun h2 => absurd hc (by (try simp only [e0, e1, e2, e3, e4, e5, e6, e7, e8, e9, e10, e11, e12, e13] at h2); omega), fun h2 => absurd hc (by (try simp only [e0, e1, e2, e3, e4, e5, e6, e7, e8, e9, e10, e11, e12, e13] at h2); omega), fun h2 => absurd hc (by (try simp only [e0, e1, e2, e3, e4, e5, e6, e7, e8, e9, e10, e11, e12, e13] at h2); omega), fun h2 => absurd hc (by (try simp only [e0, e1, e2, e3, e4, e5, e6, e7, e8, e9, e10, e11, e12, e13] at h2); omega), fun h2 => absurd hc (by (try simp only [e0, e1, e2, e3, e4, e5, e6, e7, e8, e9, e10, e11, e12, e13] at h2); omega), fun h2 => absurd hc (by (try simp only [e0, e1, e2, e3, e4, e5, e6, e7, e8, e9, e10, e11, e12, e13] at h2); omega), fun _ => hr Q hq, fun h2 => absurd hc (by (try simp only [e0, e1, e2, e3, e4, e5, e6, e7, e8, e9, e10, e11, e12, e13] at h2); omega), fun h2 => absurd hc (by (try simp only [e0, e1, e2, e3, e4, e5, e6, e7, e8, e9, e10, e11, e12, e13] at h2); omega), fun h2 => absurd hc (by (try simp only [e0, e1, e2, e3, e4, e5, e6, e7, e8, e9, e10, e11, e12, e13] at h2); omega), fun h2 => absurd hc (by (try simp only [e0, e1, e2, e3, e4, e5, e6, e7, e8, e9, e10, e11, e12, e13] at h2); omega)⟩⟩
    · obtain ⟨v, s, hp, hr⟩ := t7 P (h.2.2.2.2.2.2.2.1 hc)
      try simp only [e0, e1, e2, e3, e4, e5, e6, e7, e8, e9, e10, e11, e12, e13] at hc
      exact ⟨v, s, hp, fun Q hq => ⟨fun h2 => absurd hc (by (try simp only [e0, e1, e2, e3, e4, e5, e6, e7, e8, e9, e10, e11, e12, e13] at h2); omega), fun h2 => absurd hc (by (try simp only [e0, e1, e2, e3, e4, e5, e6, e7, e8, e9, e10, e11, e12, e13] at h2); omega), fun h2 => absurd hc (by (try simp only [e0, e1, e2, e3, e4, e5, e6, e7, e8, e9, e10, e11, e12, e13] at h2); omega), fun h2 => absurd hc (by (try simp only [e0, e1, e2, e3, e4, e5, e6, e7, e8, e9, e10, e11, e12, e13] at h2); omega), fun h2 => absurd hc (by (try simp only [e0, e1, e2, e3, e4, e5, e6, e7, e8, e9, e10, e11, e12, e13] at h2); omega), fun h2 => absurd hc (by (try simp only [e0, e1, e2, e3, e4, e5, e6, e7, e8, e9, e10, e11, e12, e13] at h2); omega), fun h2 => absurd hc (by (try simp only [e0, e1, e2, e3, e4, e5, e6, e7, e8, e9, e10, e11, e12, e13] at h2); omega), fun _ => hr Q hq, fun h2 => absurd hc (by (try simp only [e0, e1, e2, e3, e4, e5, e6, e7, e8, e9, e10, e11, e12, e13] at h2); omega), fun h2 => absurd hc (by (try simp only [e0, e1, e2, e3, e4, e5, e6, e7, e8, e9, e10, e11, e12, e13] at h2); omega), fun h2 => absurd hc (by (try simp only [e0, e1, e2, e3, e4, e5, e6, e7, e8, e9, e10, e11, e12, e13] at h2); omega)⟩⟩
    · obtain ⟨v, s, hp, hr⟩ := t8 P (h.2.2.2.2.2.2.2.2.1 hc)
      try simp only [e0, e1, e2, e3, e4, e5, e6, e7, e8, e9, e10, e11, e12, e13] at hc
      exact ⟨v, s, hp, fun Q hq => ⟨fun h2 => absurd hc (by (try simp only [e0, e1, e2, e3, e4, e5, e6, e7, e8, e9, e10, e11, e12, e13] at h2); omega), fun h2 => absurd hc (by (try simp only [e0, e1, e2, e3, e4, e5, e6, e7, e8, e9, e10, e11, e12, e13] at h2); omega), fun h2 => absurd hc (by (try simp only [e0, e1, e2, e3, e4, e5, e6, e7, e8, e9, e10, e11, e12, e13] at h2); omega), fun h2 => absurd hc (by (try simp only [e0, e1, e2, e3, e4, e5, e6, e7, e8, e9, e10, e11, e12, e13] at h2); omega), fun h2 => absurd hc (by (try simp only [e0, e1, e2, e3, e4, e5, e6, e7, e8, e9, e10, e11, e12, e13] at h2); omega), fun h2 => absurd hc (by (try simp only [e0, e1, e2, e3, e4, e5, e6, e7, e8, e9, e10, e11, e12, e13] at h2); omega), fun h2 => absurd hc (by (try simp only [e0, e1, e2, e3, e4, e5, e6, e7, e8, e9, e10, e11, e12, e13] at h2); omega), fun h2 => absurd hc (by (try simp only [e0, e1, e2, e3, e4, e5, e6, e7, e8, e9, e10, e11, e12, e13] at h2); omega), fun _ => hr Q hq, fun h2 => absurd hc (by (try simp only [e0, e1, e2, e3, e4, e5, e6, e7, e8, e9, e10, e11, e12, e13] at h2); omega), fun h2 => absurd hc (by (try simp only [e0, e1, e2, e3, e4, e5, e6, e7, e8, e9, e10, e11, e12, e13] at h2); omega)⟩⟩
    · obtain ⟨v, s, hp, hr⟩ := t9 P (h.2.2.2.2.2.2.2.2.2.1 hc)
      try simp only [e0, e1, e2, e3, e4, e5, e6, e7, e8, e9, e10, e11, e12, e13] at hc
      exact ⟨v, s, hp, fun Q hq => ⟨fun h2 => absurd hc (by (try simp only [e0, e1, e2, e3, e4, e5, e6, e7, e8, e9, e10, e11, e12, e13] at h2); omega), fun h2 => absurd hc (by (try simp only [e0, e1, e2, e3, e4, e5, e6, e7, e8, e9, e10, e11, e12, e13] at h2); omega), fun h2 => absurd hc (by (try simp only [e0, e1, e2, e3, e4, e5, e6, e7, e8, e9, e10, e11, e12, e13] at h2); omega), fun h2 => absurd hc (by (try simp only [e0, e1, e2, e3, e4, e5, e6, e7, e8, e9, e10, e11, e12, e13] at h2); omega), fun h2 => absurd hc (by (try simp only [e0, e1, e2, e3, e4, e5, e6, e7, e8, e9, e10, e11, e12, e13] at h2); omega), fun h2 => absurd hc (by (try simp only [e0, e1, e2, e3, e4, e5, e6, e7, e8, e9, e10, e11, e12, e13] at h2); omega), fun h2 => absurd hc (by (try simp only [e0, e1, e2, e3, e4, e5, e6, e7, e8, e9, e10, e11, e12, e13] at h2); omega), fun h2 => absurd hc (by (try simp only [e0, e1, e2, e3, e4, e5, e6, e7, e8, e9, e10, e11, e12, e13] at h2); omega), fun h2 => absurd hc (by (try simp only [e0, e1, e2, e3, e4, e5, e6, e7, e8, e9, e10, e11, e12, e13] at h2); omega), fun _ => hr Q hq, fun h2 => absurd hc (by (try simp only [e0, e1, e2, e3, e4, e5, e6, e7, e8, e9, e10, e11, e12, e13] at h2); omega)⟩⟩
    · obtain ⟨v, s, hp, hr⟩ := t10 P (h.2.2.2.2.2.2.2.2.2.2 hc)
      try simp only [e0, e1, e2, e3, e4, e5, e6, e7, e8, e9, e10, e11, e12, e13] at hc
      exact ⟨v, s, hp, fun Q hq => ⟨fun h2 => absurd hc (by (try simp only [e0, e1, e2, e3, e4, e5, e6, e7, e8, e9, e10, e11, e12, e13] at h2); omega), fun h2 => absurd hc (by (try simp only [e0, e1, e2, e3, e4, e5, e6, e7, e8, e9, e10, e11, e12, e13] at h2); omega), fun h2 => absurd hc (by (try simp only [e0, e1, e2, e3, e4, e5, e6, e7, e8, e9, e10, e11, e12, e13] at h2); omega), fun h2 => absurd hc (by (try simp only [e0, e1, e2, e3, e4, e5, e6, e7, e8, e9, e10, e11, e12, e13] at h2); omega), fun h2 => absurd hc (by (try simp only [e0, e1, e2, e3, e4, e5, e6, e7, e8, e9, e10, e11, e12, e13] at h2); omega), fun h2 => absurd hc (by (try simp only [e0, e1, e2, e3, e4, e5, e6, e7, e8, e9, e10, e11, e12, e13] at h2); omega), fun h2 => absurd hc (by (try simp only [e0, e1, e2, e3, e4, e5, e6, e7, e8, e9, e10, e11, e12, e13] at h2); omega), fun h2 => absurd hc (by (try simp only [e0, e1, e2, e3, e4, e5, e6, e7, e8, e9, e10, e11, e12, e13] at h2); omega), fun h2 => absurd hc (by (try simp only [e0, e1, e2, e3, e4, e5, e6, e7, e8, e9, e10, e11, e12, e13] at h2); omega), fun h2 => absurd hc (by (try simp only [e0, e1, e2, e3, e4, e5, e6, e7, e8, e9, e10, e11, e12, e13] at h2); omega), fun _ => hr Q hq⟩⟩)
set_option maxRecDepth 100000 in
set_option maxHeartbeats 4000000 in
theorem dm_X11_partition {L : c_L} (S : c_S) (a0 : Nat) (x1 : Int32) (x2 : Int32) : dt2 (fun Q => km_X11_partition L  S a0 x1 x2 Q) := by
  unfold km_X11_partition
  exact (b22 (dm_X6_partitionAt _ _ _) fun r49_ S48_ => (ifn2 (if2 (db_X11_partition_35 _ _ _) (if2 (db_X11_partition_35 _ _ _) (ex2 fun a53_ => (gd2 (gd2 lf2))))) lf2))
set_option maxRecDepth 100000 in
set_option maxHeartbeats 4000000 in
theorem db_X11_thing_37 {L : c_L} (S : c_S) (xs0 : Int32) : dt2 (fun Q => kb_X11_thing_37 L  S xs0 Q) := by
  unfold kb_X11_thing_37
  exact lf2
set_option maxRecDepth 100000 in
set_option maxHeartbeats 4000000 in
theorem dm_X11_thing {L : c_L} (S : c_S) (a0 : Nat) (x1 : Int32) (x2 : Int32) (x3 : Int32) : dt2 (fun Q => km_X11_thing L  S a0 x1 x2 x3 Q) := by
  unfold km_X11_thing
  exact (b22 (dm_X6_thingAt _ _ _ _ _) fun r7_ S6_ => (ifn2 (ifn2 (ex2 fun a10_ => (gd2 (b22 (dm_X10_value _ _) fun x15_ S14_ => (db_X11_thing_37 _ _)))) (ex2 fun a16_ => (gd2 (db_X11_thing_37 _ _)))) lf2))
set_option maxRecDepth 100000 in
set_option maxHeartbeats 4000000 in
theorem db_X11_waiting_25 {L : c_L} (S : c_S) : dt2 (fun Q => kb_X11_waiting_25 L  S Q) := by
  unfold kb_X11_waiting_25
  exact lf2
set_option maxRecDepth 100000 in
set_option maxHeartbeats 4000000 in
theorem dm_X11_waiting {L : c_L} (S : c_S) (a0 : Nat) (x1 : Int32) (x2 : Int32) (x3 : Int32) : dt2 (fun Q => km_X11_waiting L  S a0 x1 x2 x3 Q) := by
  unfold km_X11_waiting
  exact (b22 (dm_X6_partitionAt _ _ _) fun r7_ S6_ => (if2 (db_X11_waiting_25 _) (ex2 fun a9_ => (gd2 (b22 (dm_X5_thingAt _ _ _ _) fun r14_ S13_ => (ifn2 (b22 (dm_X5_countWaiting _ _ _) fun x19_ S18_ => lf2) (db_X11_waiting_25 _)))))))
set_option maxRecDepth 100000 in
set_option maxHeartbeats 4000000 in
theorem db_X11_region_31 {L : c_L} (S : c_S) : dt2 (fun Q => kb_X11_region_31 L  S Q) := by
  unfold kb_X11_region_31
  exact lf2
set_option maxRecDepth 100000 in
set_option maxHeartbeats 4000000 in
theorem dm_X11_region {L : c_L} (S : c_S) (a0 : Nat) (x1 : Int32) (x2 : Int32) (x3 : Int32) : dt2 (fun Q => km_X11_region L  S a0 x1 x2 x3 Q) := by
  unfold km_X11_region
  exact (b22 (dm_X6_partitionAt _ _ _) fun r7_ S6_ => (if2 (db_X11_region_31 _) (if2 (db_X11_region_31 _) (ex2 fun a10_ => (gd2 (if2 (by
    have e0 : (x3 = (0 : Int32)) ↔ (x3).toInt = 0 := sw_iff (by decide)
    have e1 : (x3 = (1 : Int32)) ↔ (x3).toInt = 1 := sw_iff (by decide)
    have e2 : (x3 = (2 : Int32)) ↔ (x3).toInt = 2 := sw_iff (by decide)
    have ex : (x3.toInt < 0 ∨ 2 < x3.toInt) ∨ (x3 = (0 : Int32)) ∨ (x3 = (1 : Int32)) ∨ (x3 = (2 : Int32)) := by
      simp only [e0, e1, e2]; omega
    intro P h
    have t0 : dt2 (fun Q : Int32 → c_S → Prop => (Q (-1 : Int32) S6_)) := lf2
    have t1 : dt2 (fun Q : Int32 → c_S → Prop => (km_X4_firstOf L S6_ a10_ x2 (fun x19_ S18_ => (Q x19_ S18_)))) := (b22 (dm_X4_firstOf _ _ _) fun x19_ S18_ => lf2)
    have t2 : dt2 (fun Q : Int32 → c_S → Prop => (vp_in x2 6 ∧ (km_X4_firstOf L S6_ a10_ x2 (fun x26_ S25_ => (Q ((c_A S6_ 804 a10_ x2.toNatClampNeg) - x26_) S25_))))) := (gd2 (b22 (dm_X4_firstOf _ _ _) fun x26_ S25_ => lf2))
    have t3 : dt2 (fun Q : Int32 → c_S → Prop => (vp_in x2 6 ∧ (Q (c_A S6_ 805 a10_ x2.toNatClampNeg) S6_))) := (gd2 lf2)
    rcases ex with hc | hc | hc | hc
    · obtain ⟨v, s, hp, hr⟩ := t0 P (h.1 hc)
      try simp only [e0, e1, e2] at hc
      exact ⟨v, s, hp, fun Q hq => ⟨fun _ => hr Q hq, fun h2 => absurd hc (by (try simp only [e0, e1, e2] at h2); omega), fun h2 => absurd hc (by (try simp only [e0, e1, e2] at h2); omega), fun h2 => absurd hc (by (try simp only [e0, e1, e2] at h2); omega)⟩⟩
    · obtain ⟨v, s, hp, hr⟩ := t1 P (h.2.1 hc)
      try simp only [e0, e1, e2] at hc
      exact ⟨v, s, hp, fun Q hq => ⟨fun h2 => absurd hc (by (try simp only [e0, e1, e2] at h2); omega), fun _ => hr Q hq, fun h2 => absurd hc (by (try simp only [e0, e1, e2] at h2); omega), fun h2 => absurd hc (by (try simp only [e0, e1, e2] at h2); omega)⟩⟩
    · obtain ⟨v, s, hp, hr⟩ := t2 P (h.2.2.1 hc)
      try simp only [e0, e1, e2] at hc
      exact ⟨v, s, hp, fun Q hq => ⟨fun h2 => absurd hc (by (try simp only [e0, e1, e2] at h2); omega), fun h2 => absurd hc (by (try simp only [e0, e1, e2] at h2); omega), fun _ => hr Q hq, fun h2 => absurd hc (by (try simp only [e0, e1, e2] at h2); omega)⟩⟩
    · obtain ⟨v, s, hp, hr⟩ := t3 P (h.2.2.2 hc)
      try simp only [e0, e1, e2] at hc
      exact ⟨v, s, hp, fun Q hq => ⟨fun h2 => absurd hc (by (try simp only [e0, e1, e2] at h2); omega), fun h2 => absurd hc (by (try simp only [e0, e1, e2] at h2); omega), fun h2 => absurd hc (by (try simp only [e0, e1, e2] at h2); omega), fun _ => hr Q hq⟩⟩) (db_X11_region_31 _)))))))
set_option maxRecDepth 100000 in
set_option maxHeartbeats 4000000 in
theorem db_X11_wordOf_65 {L : c_L} (S : c_S) (xs0 : Int32) : dt2 (fun Q => kb_X11_wordOf_65 L  S xs0 Q) := by
  unfold kb_X11_wordOf_65
  exact lf2
set_option maxRecDepth 100000 in
set_option maxHeartbeats 4000000 in
theorem db_X11_wordOf_64 {L : c_L} (S : c_S) : dt2 (fun Q => kb_X11_wordOf_64 L  S Q) := by
  unfold kb_X11_wordOf_64
  exact (db_X11_wordOf_65 _ _)
set_option maxRecDepth 100000 in
set_option maxHeartbeats 4000000 in
theorem dm_X11_wordOf {L : c_L} (S : c_S) (a0 : Nat) (x1 : Int32) (x2 : Int32) (x3 : Int32) (x4 : Int32) : dt2 (fun Q => km_X11_wordOf L  S a0 x1 x2 x3 x4 Q) := by
  unfold km_X11_wordOf
  exact (b22 (dm_X6_thingAt _ _ _ _ _) fun r7_ S6_ => (ifn2 (ex2 fun a9_ => (gd2 (if2 (ifn2 (db_X11_wordOf_64 _) (if2 (db_X11_wordOf_64 _) (ifn2 (db_X11_wordOf_64 _) (db_X11_wordOf_65 _ _)))) (ex2 fun a16_ => (gd2 (b22 (dm_X8_at _ _ _) fun x21_ S20_ => lf2)))))) lf2))
set_option maxRecDepth 100000 in
set_option maxHeartbeats 4000000 in
theorem db_X11_channel_68 {L : c_L} (S : c_S) (xs0 : Int32) : dt2 (fun Q => kb_X11_channel_68 L  S xs0 Q) := by
  unfold kb_X11_channel_68
  exact lf2
set_option maxRecDepth 100000 in
set_option maxHeartbeats 4000000 in
theorem dm_X11_channel {L : c_L} (S : c_S) (a0 : Nat) (x1 : Int32) (x2 : Int32) : dt2 (fun Q => km_X11_channel L  S a0 x1 x2 Q) := by
  unfold km_X11_channel
  exact (b22 (dm_X6_channelAt _ _ _) fun r7_ S6_ => (ifn2 (by
    have e0 : (x2 = (0 : Int32)) ↔ (x2).toInt = 0 := sw_iff (by decide)
    have e1 : (x2 = (1 : Int32)) ↔ (x2).toInt = 1 := sw_iff (by decide)
    have e2 : (x2 = (2 : Int32)) ↔ (x2).toInt = 2 := sw_iff (by decide)
    have e3 : (x2 = (3 : Int32)) ↔ (x2).toInt = 3 := sw_iff (by decide)
    have e4 : (x2 = (4 : Int32)) ↔ (x2).toInt = 4 := sw_iff (by decide)
    have e5 : (x2 = (5 : Int32)) ↔ (x2).toInt = 5 := sw_iff (by decide)
    have ex : (x2.toInt < 0 ∨ 5 < x2.toInt) ∨ (x2 = (0 : Int32)) ∨ (x2 = (1 : Int32)) ∨ (x2 = (2 : Int32)) ∨ (x2 = (3 : Int32)) ∨ (x2 = (4 : Int32)) ∨ (x2 = (5 : Int32)) := by
      simp only [e0, e1, e2, e3, e4, e5]; omega
    intro P h
    have t0 : dt2 (fun Q : Int32 → c_S → Prop => (Q (-1 : Int32) S6_)) := lf2
    have t1 : dt2 (fun Q : Int32 → c_S → Prop => (∃ a9_ : Nat, r7_ = some a9_ ∧ (c_mk L 1 a9_ ∧ (((c_I S6_ 201 a9_) = 0 → (kb_X11_channel_68 L S6_ (0 : Int32) Q)) ∧ (¬ (c_I S6_ 201 a9_) = 0 → (kb_X11_channel_68 L S6_ (1 : Int32) Q)))))) := (ex2 fun a9_ => (gd2 (if2 (db_X11_channel_68 _ _) (db_X11_channel_68 _ _))))
    have t2 : dt2 (fun Q : Int32 → c_S → Prop => (∃ a13_ : Nat, r7_ = some a13_ ∧ (c_mk L 1 a13_ ∧ (Q (c_I S6_ 1603 (1000 + a13_)) S6_)))) := (ex2 fun a13_ => (gd2 lf2))
    have t3 : dt2 (fun Q : Int32 → c_S → Prop => (∃ a19_ : Nat, r7_ = some a19_ ∧ (c_mk L 1 a19_ ∧ (Q (c_I S6_ 203 a19_) S6_)))) := (ex2 fun a19_ => (gd2 lf2))
    have t4 : dt2 (fun Q : Int32 → c_S → Prop => (∃ a22_ : Nat, r7_ = some a22_ ∧ (c_mk L 1 a22_ ∧ (Q (c_I S6_ 205 a22_) S6_)))) := (ex2 fun a22_ => (gd2 lf2))
    have t5 : dt2 (fun Q : Int32 → c_S → Prop => (∃ a25_ : Nat, r7_ = some a25_ ∧ (c_mk L 1 a25_ ∧ (Q (c_I S6_ 206 a25_) S6_)))) := (ex2 fun a25_ => (gd2 lf2))
    have t6 : dt2 (fun Q : Int32 → c_S → Prop => (∃ a28_ : Nat, r7_ = some a28_ ∧ (c_mk L 1 a28_ ∧ (Q (c_I S6_ 207 a28_) S6_)))) := (ex2 fun a28_ => (gd2 lf2))
    rcases ex with hc | hc | hc | hc | hc | hc | hc
    · obtain ⟨v, s, hp, hr⟩ := t0 P (h.1 hc)
      try simp only [e0, e1, e2, e3, e4, e5] at hc
      exact ⟨v, s, hp, fun Q hq => ⟨fun _ => hr Q hq, fun h2 => absurd hc (by (try simp only [e0, e1, e2, e3, e4, e5] at h2); omega), fun h2 => absurd hc (by (try simp only [e0, e1, e2, e3, e4, e5] at h2); omega), fun h2 => absurd hc (by (try simp only [e0, e1, e2, e3, e4, e5] at h2); omega), fun h2 => absurd hc (by (try simp only [e0, e1, e2, e3, e4, e5] at h2); omega), fun h2 => absurd hc (by (try simp only [e0, e1, e2, e3, e4, e5] at h2); omega), fun h2 => absurd hc (by (try simp only [e0, e1, e2, e3, e4, e5] at h2); omega)⟩⟩
    · obtain ⟨v, s, hp, hr⟩ := t1 P (h.2.1 hc)
      try simp only [e0, e1, e2, e3, e4, e5] at hc
      exact ⟨v, s, hp, fun Q hq => ⟨fun h2 => absurd hc (by (try simp only [e0, e1, e2, e3, e4, e5] at h2); omega), fun _ => hr Q hq, fun h2 => absurd hc (by (try simp only [e0, e1, e2, e3, e4, e5] at h2); omega), fun h2 => absurd hc (by (try simp only [e0, e1, e2, e3, e4, e5] at h2); omega), fun h2 => absurd hc (by (try simp only [e0, e1, e2, e3, e4, e5] at h2); omega), fun h2 => absurd hc (by (try simp only [e0, e1, e2, e3, e4, e5] at h2); omega), fun h2 => absurd hc (by (try simp only [e0, e1, e2, e3, e4, e5] at h2); omega)⟩⟩
    · obtain ⟨v, s, hp, hr⟩ := t2 P (h.2.2.1 hc)
      try simp only [e0, e1, e2, e3, e4, e5] at hc
      exact ⟨v, s, hp, fun Q hq => ⟨fun h2 => absurd hc (by (try simp only [e0, e1, e2, e3, e4, e5] at h2); omega), fun h2 => absurd hc (by (try simp only [e0, e1, e2, e3, e4, e5] at h2); omega), fun _ => hr Q hq, fun h2 => absurd hc (by (try simp only [e0, e1, e2, e3, e4, e5] at h2); omega), fun h2 => absurd hc (by (try simp only [e0, e1, e2, e3, e4, e5] at h2); omega), fun h2 => absurd hc (by (try simp only [e0, e1, e2, e3, e4, e5] at h2); omega), fun h2 => absurd hc (by (try simp only [e0, e1, e2, e3, e4, e5] at h2); omega)⟩⟩
    · obtain ⟨v, s, hp, hr⟩ := t3 P (h.2.2.2.1 hc)
      try simp only [e0, e1, e2, e3, e4, e5] at hc
      exact ⟨v, s, hp, fun Q hq => ⟨fun h2 => absurd hc (by (try simp only [e0, e1, e2, e3, e4, e5] at h2); omega), fun h2 => absurd hc (by (try simp only [e0, e1, e2, e3, e4, e5] at h2); omega), fun h2 => absurd hc (by (try simp only [e0, e1, e2, e3, e4, e5] at h2); omega), fun _ => hr Q hq, fun h2 => absurd hc (by (try simp only [e0, e1, e2, e3, e4, e5] at h2); omega), fun h2 => absurd hc (by (try simp only [e0, e1, e2, e3, e4, e5] at h2); omega), fun h2 => absurd hc (by (try simp only [e0, e1, e2, e3, e4, e5] at h2); omega)⟩⟩
    · obtain ⟨v, s, hp, hr⟩ := t4 P (h.2.2.2.2.1 hc)
      try simp only [e0, e1, e2, e3, e4, e5] at hc
      exact ⟨v, s, hp, fun Q hq => ⟨fun h2 => absurd hc (by (try simp only [e0, e1, e2, e3, e4, e5] at h2); omega), fun h2 => absurd hc (by (try simp only [e0, e1, e2, e3, e4, e5] at h2); omega), fun h2 => absurd hc (by (try simp only [e0, e1, e2, e3, e4, e5] at h2); omega), fun h2 => absurd hc (by (try simp only [e0, e1, e2, e3, e4, e5] at h2); omega), fun _ => hr Q hq, fun h2 => absurd hc (by (try simp only [e0, e1, e2, e3, e4, e5] at h2); omega), fun h2 => absurd hc (by (try simp only [e0, e1, e2, e3, e4, e5] at h2); omega)⟩⟩
    · obtain ⟨v, s, hp, hr⟩ := t5 P (h.2.2.2.2.2.1 hc)
      try simp only [e0, e1, e2, e3, e4, e5] at hc
      exact ⟨v, s, hp, fun Q hq => ⟨fun h2 => absurd hc (by (try simp only [e0, e1, e2, e3, e4, e5] at h2); omega), fun h2 => absurd hc (by (try simp only [e0, e1, e2, e3, e4, e5] at h2); omega), fun h2 => absurd hc (by (try simp only [e0, e1, e2, e3, e4, e5] at h2); omega), fun h2 => absurd hc (by (try simp only [e0, e1, e2, e3, e4, e5] at h2); omega), fun h2 => absurd hc (by (try simp only [e0, e1, e2, e3, e4, e5] at h2); omega), fun _ => hr Q hq, fun h2 => absurd hc (by (try simp only [e0, e1, e2, e3, e4, e5] at h2); omega)⟩⟩
    · obtain ⟨v, s, hp, hr⟩ := t6 P (h.2.2.2.2.2.2 hc)
      try simp only [e0, e1, e2, e3, e4, e5] at hc
      exact ⟨v, s, hp, fun Q hq => ⟨fun h2 => absurd hc (by (try simp only [e0, e1, e2, e3, e4, e5] at h2); omega), fun h2 => absurd hc (by (try simp only [e0, e1, e2, e3, e4, e5] at h2); omega), fun h2 => absurd hc (by (try simp only [e0, e1, e2, e3, e4, e5] at h2); omega), fun h2 => absurd hc (by (try simp only [e0, e1, e2, e3, e4, e5] at h2); omega), fun h2 => absurd hc (by (try simp only [e0, e1, e2, e3, e4, e5] at h2); omega), fun h2 => absurd hc (by (try simp only [e0, e1, e2, e3, e4, e5] at h2); omega), fun _ => hr Q hq⟩⟩) lf2))
set_option maxRecDepth 100000 in
set_option maxHeartbeats 4000000 in
theorem db_X11_wordAt_25 {L : c_L} (S : c_S) (xs0 : Int32) : dt2 (fun Q => kb_X11_wordAt_25 L  S xs0 Q) := by
  unfold kb_X11_wordAt_25
  exact lf2
set_option maxRecDepth 100000 in
set_option maxHeartbeats 4000000 in
theorem dm_X11_wordAt {L : c_L} (S : c_S) (a0 : Nat) (x1 : Int32) (x2 : Int32) : dt2 (fun Q => km_X11_wordAt L  S a0 x1 x2 Q) := by
  unfold km_X11_wordAt
  exact (b22 (dm_X6_channelAt _ _ _) fun r7_ S6_ => (ifn2 (ex2 fun a9_ => (gd2 (b22 (dm_X8_at _ _ _) fun x17_ S16_ => (db_X11_wordAt_25 _ _)))) (db_X11_wordAt_25 _ _)))
set_option maxRecDepth 100000 in
set_option maxHeartbeats 4000000 in
theorem dm_X11_trace {L : c_L} (S : c_S) (a0 : Nat) (x1 : Int32) (x2 : Int32) : dt2 (fun Q => km_X11_trace L  S a0 x1 x2 Q) := by
  unfold km_X11_trace
  exact (b22 (dm_X2_shown _ _ _ _) fun x10_ S9_ => lf2)
set_option maxRecDepth 100000 in
set_option maxHeartbeats 4000000 in
theorem dm_X11_error {L : c_L} (S : c_S) (a0 : Nat) (x1 : Int32) (x2 : Int32) : dt2 (fun Q => km_X11_error L  S a0 x1 x2 Q) := by
  unfold km_X11_error
  exact (b22 (dm_X2_noted _ _ _ _) fun x10_ S9_ => lf2)
set_option maxRecDepth 100000 in
set_option maxHeartbeats 4000000 in
theorem db_X11_about_104 {L : c_L} (S : c_S) (xs0 : Int32) : dt2 (fun Q => kb_X11_about_104 L  S xs0 Q) := by
  unfold kb_X11_about_104
  exact lf2
set_option maxRecDepth 100000 in
set_option maxHeartbeats 4000000 in
theorem dm_X11_about {L : c_L} (S : c_S) (a0 : Nat) (x1 : Int32) : dt2 (fun Q => km_X11_about L  S a0 x1 Q) := by
  unfold km_X11_about
  exact (by
    have e0 : (x1 = (0 : Int32)) ↔ (x1).toInt = 0 := sw_iff (by decide)
    have e1 : (x1 = (1 : Int32)) ↔ (x1).toInt = 1 := sw_iff (by decide)
    have e2 : (x1 = (2 : Int32)) ↔ (x1).toInt = 2 := sw_iff (by decide)
    have e3 : (x1 = (3 : Int32)) ↔ (x1).toInt = 3 := sw_iff (by decide)
    have e4 : (x1 = (4 : Int32)) ↔ (x1).toInt = 4 := sw_iff (by decide)
    have e5 : (x1 = (5 : Int32)) ↔ (x1).toInt = 5 := sw_iff (by decide)
    have e6 : (x1 = (6 : Int32)) ↔ (x1).toInt = 6 := sw_iff (by decide)
    have e7 : (x1 = (7 : Int32)) ↔ (x1).toInt = 7 := sw_iff (by decide)
    have e8 : (x1 = (8 : Int32)) ↔ (x1).toInt = 8 := sw_iff (by decide)
    have e9 : (x1 = (9 : Int32)) ↔ (x1).toInt = 9 := sw_iff (by decide)
    have ex : (x1.toInt < 0 ∨ 9 < x1.toInt) ∨ (x1 = (0 : Int32)) ∨ (x1 = (1 : Int32)) ∨ (x1 = (2 : Int32)) ∨ (x1 = (3 : Int32)) ∨ (x1 = (4 : Int32)) ∨ (x1 = (5 : Int32)) ∨ (x1 = (6 : Int32)) ∨ (x1 = (7 : Int32)) ∨ (x1 = (8 : Int32)) ∨ (x1 = (9 : Int32)) := by
      simp only [e0, e1, e2, e3, e4, e5, e6, e7, e8, e9]; omega
    intro P h
    have t0 : dt2 (fun Q : Int32 → c_S → Prop => (Q (-1 : Int32) S)) := lf2
    have t1 : dt2 (fun Q : Int32 → c_S → Prop => (Q (c_I S 1211 a0) S)) := lf2
    have t2 : dt2 (fun Q : Int32 → c_S → Prop => (Q (c_I S 403 a0) S)) := lf2
    have t3 : dt2 (fun Q : Int32 → c_S → Prop => (Q (c_I S 1212 a0) S)) := lf2
    have t4 : dt2 (fun Q : Int32 → c_S → Prop => (((c_I S 1214 a0) = 0 → (kb_X11_about_104 L S (-1 : Int32) Q)) ∧ (¬ (c_I S 1214 a0) = 0 → (km_X6_partitionNow L S a0 (fun x23_ S22_ => (kb_X11_about_104 L S22_ x23_ Q)))))) := (if2 (db_X11_about_104 _ _) (b22 (dm_X6_partitionNow _ _) fun x23_ S22_ => (db_X11_about_104 _ _)))
    have t5 : dt2 (fun Q : Int32 → c_S → Prop => (Q (c_I S 402 a0) S)) := lf2
    have t6 : dt2 (fun Q : Int32 → c_S → Prop => (Q (c_I S 1201 a0) S)) := lf2
    have t7 : dt2 (fun Q : Int32 → c_S → Prop => (Q (c_I S 1203 a0) S)) := lf2
    have t8 : dt2 (fun Q : Int32 → c_S → Prop => (Q (c_I S 1209 a0) S)) := lf2
    have t9 : dt2 (fun Q : Int32 → c_S → Prop => (Q (c_I S 1205 a0) S)) := lf2
    have t10 : dt2 (fun Q : Int32 → c_S → Prop => (Q (c_I S 1206 a0) S)) := lf2
    rcases ex with hc | hc | hc | hc | hc | hc | hc | hc | hc | hc | hc
    · obtain ⟨v, s, hp, hr⟩ := t0 P (h.1 hc)
      try simp only [e0, e1, e2, e3, e4, e5, e6, e7, e8, e9] at hc
      exact ⟨v, s, hp, fun Q hq => ⟨fun _ => hr Q hq, fun h2 => absurd hc (by (try simp only [e0, e1, e2, e3, e4, e5, e6, e7, e8, e9] at h2); omega), fun h2 => absurd hc (by (try simp only [e0, e1, e2, e3, e4, e5, e6, e7, e8, e9] at h2); omega), fun h2 => absurd hc (by (try simp only [e0, e1, e2, e3, e4, e5, e6, e7, e8, e9] at h2); omega), fun h2 => absurd hc (by (try simp only [e0, e1, e2, e3, e4, e5, e6, e7, e8, e9] at h2); omega), fun h2 => absurd hc (by (try simp only [e0, e1, e2, e3, e4, e5, e6, e7, e8, e9] at h2); omega), fun h2 => absurd hc (by (try simp only [e0, e1, e2, e3, e4, e5, e6, e7, e8, e9] at h2); omega), fun h2 => absurd hc (by (try simp only [e0, e1, e2, e3, e4, e5, e6, e7, e8, e9] at h2); omega), fun h2 => absurd hc (by (try simp only [e0, e1, e2, e3, e4, e5, e6, e7, e8, e9] at h2); omega), fun h2 => absurd hc (by (try simp only [e0, e1, e2, e3, e4, e5, e6, e7, e8, e9] at h2); omega), fun h2 => absurd hc (by (try simp only [e0, e1, e2, e3, e4, e5, e6, e7, e8, e9] at h2); omega)⟩⟩
    · obtain ⟨v, s, hp, hr⟩ := t1 P (h.2.1 hc)
      try simp only [e0, e1, e2, e3, e4, e5, e6, e7, e8, e9] at hc
      exact ⟨v, s, hp, fun Q hq => ⟨fun h2 => absurd hc (by (try simp only [e0, e1, e2, e3, e4, e5, e6, e7, e8, e9] at h2); omega), fun _ => hr Q hq, fun h2 => absurd hc (by (try simp only [e0, e1, e2, e3, e4, e5, e6, e7, e8, e9] at h2); omega), fun h2 => absurd hc (by (try simp only [e0, e1, e2, e3, e4, e5, e6, e7, e8, e9] at h2); omega), fun h2 => absurd hc (by (try simp only [e0, e1, e2, e3, e4, e5, e6, e7, e8, e9] at h2); omega), fun h2 => absurd hc (by (try simp only [e0, e1, e2, e3, e4, e5, e6, e7, e8, e9] at h2); omega), fun h2 => absurd hc (by (try simp only [e0, e1, e2, e3, e4, e5, e6, e7, e8, e9] at h2); omega), fun h2 => absurd hc (by (try simp only [e0, e1, e2, e3, e4, e5, e6, e7, e8, e9] at h2); omega), fun h2 => absurd hc (by (try simp only [e0, e1, e2, e3, e4, e5, e6, e7, e8, e9] at h2); omega), fun h2 => absurd hc (by (try simp only [e0, e1, e2, e3, e4, e5, e6, e7, e8, e9] at h2); omega), fun h2 => absurd hc (by (try simp only [e0, e1, e2, e3, e4, e5, e6, e7, e8, e9] at h2); omega)⟩⟩
    · obtain ⟨v, s, hp, hr⟩ := t2 P (h.2.2.1 hc)
      try simp only [e0, e1, e2, e3, e4, e5, e6, e7, e8, e9] at hc
      exact ⟨v, s, hp, fun Q hq => ⟨fun h2 => absurd hc (by (try simp only [e0, e1, e2, e3, e4, e5, e6, e7, e8, e9] at h2); omega), fun h2 => absurd hc (by (try simp only [e0, e1, e2, e3, e4, e5, e6, e7, e8, e9] at h2); omega), fun _ => hr Q hq, fun h2 => absurd hc (by (try simp only [e0, e1, e2, e3, e4, e5, e6, e7, e8, e9] at h2); omega), fun h2 => absurd hc (by (try simp only [e0, e1, e2, e3, e4, e5, e6, e7, e8, e9] at h2); omega), fun h2 => absurd hc (by (try simp only [e0, e1, e2, e3, e4, e5, e6, e7, e8, e9] at h2); omega), fun h2 => absurd hc (by (try simp only [e0, e1, e2, e3, e4, e5, e6, e7, e8, e9] at h2); omega), fun h2 => absurd hc (by (try simp only [e0, e1, e2, e3, e4, e5, e6, e7, e8, e9] at h2); omega), fun h2 => absurd hc (by (try simp only [e0, e1, e2, e3, e4, e5, e6, e7, e8, e9] at h2); omega), fun h2 => absurd hc (by (try simp only [e0, e1, e2, e3, e4, e5, e6, e7, e8, e9] at h2); omega), fun h2 => absurd hc (by (try simp only [e0, e1, e2, e3, e4, e5, e6, e7, e8, e9] at h2); omega)⟩⟩
    · obtain ⟨v, s, hp, hr⟩ := t3 P (h.2.2.2.1 hc)
      try simp only [e0, e1, e2, e3, e4, e5, e6, e7, e8, e9] at hc
      exact ⟨v, s, hp, fun Q hq => ⟨fun h2 => absurd hc (by (try simp only [e0, e1, e2, e3, e4, e5, e6, e7, e8, e9] at h2); omega), fun h2 => absurd hc (by (try simp only [e0, e1, e2, e3, e4, e5, e6, e7, e8, e9] at h2); omega), fun h2 => absurd hc (by (try simp only [e0, e1, e2, e3, e4, e5, e6, e7, e8, e9] at h2); omega), fun _ => hr Q hq, fun h2 => absurd hc (by (try simp only [e0, e1, e2, e3, e4, e5, e6, e7, e8, e9] at h2); omega), fun h2 => absurd hc (by (try simp only [e0, e1, e2, e3, e4, e5, e6, e7, e8, e9] at h2); omega), fun h2 => absurd hc (by (try simp only [e0, e1, e2, e3, e4, e5, e6, e7, e8, e9] at h2); omega), fun h2 => absurd hc (by (try simp only [e0, e1, e2, e3, e4, e5, e6, e7, e8, e9] at h2); omega), fun h2 => absurd hc (by (try simp only [e0, e1, e2, e3, e4, e5, e6, e7, e8, e9] at h2); omega), fun h2 => absurd hc (by (try simp only [e0, e1, e2, e3, e4, e5, e6, e7, e8, e9] at h2); omega), fun h2 => absurd hc (by (try simp only [e0, e1, e2, e3, e4, e5, e6, e7, e8, e9] at h2); omega)⟩⟩
    · obtain ⟨v, s, hp, hr⟩ := t4 P (h.2.2.2.2.1 hc)
      try simp only [e0, e1, e2, e3, e4, e5, e6, e7, e8, e9] at hc
      exact ⟨v, s, hp, fun Q hq => ⟨fun h2 => absurd hc (by (try simp only [e0, e1, e2, e3, e4, e5, e6, e7, e8, e9] at h2); omega), fun h2 => absurd hc (by (try simp only [e0, e1, e2, e3, e4, e5, e6, e7, e8, e9] at h2); omega), fun h2 => absurd hc (by (try simp only [e0, e1, e2, e3, e4, e5, e6, e7, e8, e9] at h2); omega), fun h2 => absurd hc (by (try simp only [e0, e1, e2, e3, e4, e5, e6, e7, e8, e9] at h2); omega), fun _ => hr Q hq, fun h2 => absurd hc (by (try simp only [e0, e1, e2, e3, e4, e5, e6, e7, e8, e9] at h2); omega), fun h2 => absurd hc (by (try simp only [e0, e1, e2, e3, e4, e5, e6, e7, e8, e9] at h2); omega), fun h2 => absurd hc (by (try simp only [e0, e1, e2, e3, e4, e5, e6, e7, e8, e9] at h2); omega), fun h2 => absurd hc (by (try simp only [e0, e1, e2, e3, e4, e5, e6, e7, e8, e9] at h2); omega), fun h2 => absurd hc (by (try simp only [e0, e1, e2, e3, e4, e5, e6, e7, e8, e9] at h2); omega), fun h2 => absurd hc (by (try simp only [e0, e1, e2, e3, e4, e5, e6, e7, e8, e9] at h2); omega)⟩⟩
    · obtain ⟨v, s, hp, hr⟩ := t5 P (h.2.2.2.2.2.1 hc)
      try simp only [e0, e1, e2, e3, e4, e5, e6, e7, e8, e9] at hc
      exact ⟨v, s, hp, fun Q hq => ⟨fun h2 => absurd hc (by (try simp only [e0, e1, e2, e3, e4, e5, e6, e7, e8, e9] at h2); omega), fun h2 => absurd hc (by (try simp only [e0, e1, e2, e3, e4, e5, e6, e7, e8, e9] at h2); omega), fun h2 => absurd hc (by (try simp only [e0, e1, e2, e3, e4, e5, e6, e7, e8, e9] at h2); omega), fun h2 => absurd hc (by (try simp only [e0, e1, e2, e3, e4, e5, e6, e7, e8, e9] at h2); omega), fun h2 => absurd hc (by (try simp only [e0, e1, e2, e3, e4, e5, e6, e7, e8, e9] at h2); omega), fun _ => hr Q hq, fun h2 => absurd hc (by (try simp only [e0, e1, e2, e3, e4, e5, e6, e7, e8, e9] at h2); omega), fun h2 => absurd hc (by (try simp only [e0, e1, e2, e3, e4, e5, e6, e7, e8, e9] at h2); omega), fun h2 => absurd hc (by (try simp only [e0, e1, e2, e3, e4, e5, e6, e7, e8, e9] at h2); omega), fun h2 => absurd hc (by (try simp only [e0, e1, e2, e3, e4, e5, e6, e7, e8, e9] at h2); omega), fun h2 => absurd hc (by (try simp only [e0, e1, e2, e3, e4, e5, e6, e7, e8, e9] at h2); omega)⟩⟩
    · obtain ⟨v, s, hp, hr⟩ := t6 P (h.2.2.2.2.2.2.1 hc)
      try simp only [e0, e1, e2, e3, e4, e5, e6, e7, e8, e9] at hc
      exact ⟨v, s, hp, fun Q hq => ⟨fun h2 => absurd hc (by (try simp only [e0, e1, e2, e3, e4, e5, e6, e7, e8, e9] at h2); omega), fun h2 => absurd hc (by (try simp only [e0, e1, e2, e3, e4, e5, e6, e7, e8, e9] at h2); omega), fun h2 => absurd hc (by (try simp only [e0, e1, e2, e3, e4, e5, e6, e7, e8, e9] at h2); omega), fun h2 => absurd hc (by (try simp only [e0, e1, e2, e3, e4, e5, e6, e7, e8, e9] at h2); omega), fun h2 => absurd hc (by (try simp only [e0, e1, e2, e3, e4, e5, e6, e7, e8, e9] at h2); omega), fun h2 => absurd hc (by (try simp only [e0, e1, e2, e3, e4, e5, e6, e7, e8, e9] at h2); omega), fun _ => hr Q hq, fun h2 => absurd hc (by (try simp only [e0, e1, e2, e3, e4, e5, e6, e7, e8, e9] at h2); omega), fun h2 => absurd hc (by (try simp only [e0, e1, e2, e3, e4, e5, e6, e7, e8, e9] at h2); omega), fun h2 => absurd hc (by (try simp only [e0, e1, e2, e3, e4, e5, e6, e7, e8, e9] at h2); omega), fun h2 => absurd hc (by (try simp only [e0, e1, e2, e3, e4, e5, e6, e7, e8, e9] at h2); omega)⟩⟩
    · obtain ⟨v, s, hp, hr⟩ := t7 P (h.2.2.2.2.2.2.2.1 hc)
      try simp only [e0, e1, e2, e3, e4, e5, e6, e7, e8, e9] at hc
      exact ⟨v, s, hp, fun Q hq => ⟨fun h2 => absurd hc (by (try simp only [e0, e1, e2, e3, e4, e5, e6, e7, e8, e9] at h2); omega), fun h2 => absurd hc (by (try simp only [e0, e1, e2, e3, e4, e5, e6, e7, e8, e9] at h2); omega), fun h2 => absurd hc (by (try simp only [e0, e1, e2, e3, e4, e5, e6, e7, e8, e9] at h2); omega), fun h2 => absurd hc (by (try simp only [e0, e1, e2, e3, e4, e5, e6, e7, e8, e9] at h2); omega), fun h2 => absurd hc (by (try simp only [e0, e1, e2, e3, e4, e5, e6, e7, e8, e9] at h2); omega), fun h2 => absurd hc (by (try simp only [e0, e1, e2, e3, e4, e5, e6, e7, e8, e9] at h2); omega), fun h2 => absurd hc (by (try simp only [e0, e1, e2, e3, e4, e5, e6, e7, e8, e9] at h2); omega), fun _ => hr Q hq, fun h2 => absurd hc (by (try simp only [e0, e1, e2, e3, e4, e5, e6, e7, e8, e9] at h2); omega), fun h2 => absurd hc (by (try simp only [e0, e1, e2, e3, e4, e5, e6, e7, e8, e9] at h2); omega), fun h2 => absurd hc (by (try simp only [e0, e1, e2, e3, e4, e5, e6, e7, e8, e9] at h2); omega)⟩⟩
    · obtain ⟨v, s, hp, hr⟩ := t8 P (h.2.2.2.2.2.2.2.2.1 hc)
      try simp only [e0, e1, e2, e3, e4, e5, e6, e7, e8, e9] at hc
      exact ⟨v, s, hp, fun Q hq => ⟨fun h2 => absurd hc (by (try simp only [e0, e1, e2, e3, e4, e5, e6, e7, e8, e9] at h2); omega), fun h2 => absurd hc (by (try simp only [e0, e1, e2, e3, e4, e5, e6, e7, e8, e9] at h2); omega), fun h2 => absurd hc (by (try simp only [e0, e1, e2, e3, e4, e5, e6, e7, e8, e9] at h2); omega), fun h2 => absurd hc (by (try simp only [e0, e1, e2, e3, e4, e5, e6, e7, e8, e9] at h2); omega), fun h2 => absurd hc (by (try simp only [e0, e1, e2, e3, e4, e5, e6, e7, e8, e9] at h2); omega), fun h2 => absurd hc (by (try simp only [e0, e1, e2, e3, e4, e5, e6, e7, e8, e9] at h2); omega), fun h2 => absurd hc (by (try simp only [e0, e1, e2, e3, e4, e5, e6, e7, e8, e9] at h2); omega), fun h2 => absurd hc (by (try simp only [e0, e1, e2, e3, e4, e5, e6, e7, e8, e9] at h2); omega), fun _ => hr Q hq, fun h2 => absurd hc (by (try simp only [e0, e1, e2, e3, e4, e5, e6, e7, e8, e9] at h2); omega), fun h2 => absurd hc (by (try simp only [e0, e1, e2, e3, e4, e5, e6, e7, e8, e9] at h2); omega)⟩⟩
    · obtain ⟨v, s, hp, hr⟩ := t9 P (h.2.2.2.2.2.2.2.2.2.1 hc)
      try simp only [e0, e1, e2, e3, e4, e5, e6, e7, e8, e9] at hc
      exact ⟨v, s, hp, fun Q hq => ⟨fun h2 => absurd hc (by (try simp only [e0, e1, e2, e3, e4, e5, e6, e7, e8, e9] at h2); omega), fun h2 => absurd hc (by (try simp only [e0, e1, e2, e3, e4, e5, e6, e7, e8, e9] at h2); omega), fun h2 => absurd hc (by (try simp only [e0, e1, e2, e3, e4, e5, e6, e7, e8, e9] at h2); omega), fun h2 => absurd hc (by (try simp only [e0, e1, e2, e3, e4, e5, e6, e7, e8, e9] at h2); omega), fun h2 => absurd hc (by (try simp only [e0, e1, e2, e3, e4, e5, e6, e7, e8, e9] at h2); omega), fun h2 => absurd hc (by (try simp only [e0, e1, e2, e3, e4, e5, e6, e7, e8, e9] at h2); omega), fun h2 => absurd hc (by (try simp only [e0, e1, e2, e3, e4, e5, e6, e7, e8, e9] at h2); omega), fun h2 => absurd hc (by (try simp only [e0, e1, e2, e3, e4, e5, e6, e7, e8, e9] at h2); omega), fun h2 => absurd hc (by (try simp only [e0, e1, e2, e3, e4, e5, e6, e7, e8, e9] at h2); omega), fun _ => hr Q hq, fun h2 => absurd hc (by (try simp only [e0, e1, e2, e3, e4, e5, e6, e7, e8, e9] at h2); omega)⟩⟩
    · obtain ⟨v, s, hp, hr⟩ := t10 P (h.2.2.2.2.2.2.2.2.2.2 hc)
      try simp only [e0, e1, e2, e3, e4, e5, e6, e7, e8, e9] at hc
      exact ⟨v, s, hp, fun Q hq => ⟨fun h2 => absurd hc (by (try simp only [e0, e1, e2, e3, e4, e5, e6, e7, e8, e9] at h2); omega), fun h2 => absurd hc (by (try simp only [e0, e1, e2, e3, e4, e5, e6, e7, e8, e9] at h2); omega), fun h2 => absurd hc (by (try simp only [e0, e1, e2, e3, e4, e5, e6, e7, e8, e9] at h2); omega), fun h2 => absurd hc (by (try simp only [e0, e1, e2, e3, e4, e5, e6, e7, e8, e9] at h2); omega), fun h2 => absurd hc (by (try simp only [e0, e1, e2, e3, e4, e5, e6, e7, e8, e9] at h2); omega), fun h2 => absurd hc (by (try simp only [e0, e1, e2, e3, e4, e5, e6, e7, e8, e9] at h2); omega), fun h2 => absurd hc (by (try simp only [e0, e1, e2, e3, e4, e5, e6, e7, e8, e9] at h2); omega), fun h2 => absurd hc (by (try simp only [e0, e1, e2, e3, e4, e5, e6, e7, e8, e9] at h2); omega), fun h2 => absurd hc (by (try simp only [e0, e1, e2, e3, e4, e5, e6, e7, e8, e9] at h2); omega), fun h2 => absurd hc (by (try simp only [e0, e1, e2, e3, e4, e5, e6, e7, e8, e9] at h2); omega), fun _ => hr Q hq⟩⟩)
