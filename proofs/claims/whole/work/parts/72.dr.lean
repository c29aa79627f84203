set_option maxRecDepth 100000 in
set_option maxHeartbeats 4000000 in
theorem drm_X12_thrown (S : r_S) : dt2 (fun Q => rm_X12_thrown   S Q) := by
  unfold rm_X12_thrown
  exact lf2
set_option maxRecDepth 100000 in
set_option maxHeartbeats 4000000 in
theorem drb_X12_isLetter_17 (S : r_S) (xs0 : Int32) : dt2 (fun Q => rb_X12_isLetter_17   S xs0 Q) := by
  unfold rb_X12_isLetter_17
  exact (gd2 lf2)
set_option maxRecDepth 100000 in
set_option maxHeartbeats 4000000 in
theorem drb_X12_isLetter_16 (S : r_S) : dt2 (fun Q => rb_X12_isLetter_16   S Q) := by
  unfold rb_X12_isLetter_16
  exact (drb_X12_isLetter_17 _ _)
set_option maxRecDepth 100000 in
set_option maxHeartbeats 4000000 in
theorem drm_X12_isLetter (S : r_S) (x1 : Int32) : dt2 (fun Q => rm_X12_isLetter   S x1 Q) := by
  unfold rm_X12_isLetter
  exact (if2 (drb_X12_isLetter_16 _) (if2 (drb_X12_isLetter_16 _) (drb_X12_isLetter_17 _ _)))
set_option maxRecDepth 100000 in
set_option maxHeartbeats 4000000 in
theorem drb_X12_isDigit_17 (S : r_S) (xs0 : Int32) : dt2 (fun Q => rb_X12_isDigit_17   S xs0 Q) := by
  unfold rb_X12_isDigit_17
  exact (gd2 lf2)
set_option maxRecDepth 100000 in
set_option maxHeartbeats 4000000 in
theorem drb_X12_isDigit_16 (S : r_S) : dt2 (fun Q => rb_X12_isDigit_16   S Q) := by
  unfold rb_X12_isDigit_16
  exact (drb_X12_isDigit_17 _ _)
set_option maxRecDepth 100000 in
set_option maxHeartbeats 4000000 in
theorem drm_X12_isDigit (S : r_S) (x1 : Int32) : dt2 (fun Q => rm_X12_isDigit   S x1 Q) := by
  unfold rm_X12_isDigit
  exact (if2 (drb_X12_isDigit_16 _) (if2 (drb_X12_isDigit_16 _) (drb_X12_isDigit_17 _ _)))
set_option maxRecDepth 100000 in
set_option maxHeartbeats 4000000 in
theorem drb_X12_byteAt_18 (S : r_S) (xs0 : Int32) : dt2 (fun Q => rb_X12_byteAt_18   S xs0 Q) := by
  unfold rb_X12_byteAt_18
  exact lf2
set_option maxRecDepth 100000 in
set_option maxHeartbeats 4000000 in
theorem drm_X12_byteAt (S : r_S) (x1 : Int32) : dt2 (fun Q => rm_X12_byteAt   S x1 Q) := by
  unfold rm_X12_byteAt
  exact (if2 (drb_X12_byteAt_18 _ _) (gd2 (drb_X12_byteAt_18 _ _)))
set_option maxRecDepth 100000 in
set_option maxHeartbeats 4000000 in
theorem drb_X12_numberOf_95 {B4 : (Option Value → r_S → Prop) → r_S → Nat → Int32 → Int32 → Prop} (hB4 : ∀ y0 y1 y2 y3, dt2 (fun Q => B4 Q y0 y1 y2 y3)) {B53 : (Option Value → r_S → Prop) → r_S → Nat → Int32 → Int32 → Int32 → Int32 → Int32 → Prop} (hB53 : ∀ y0 y1 y2 y3 y4 y5 y6, dt2 (fun Q => B53 Q y0 y1 y2 y3 y4 y5 y6)) (S : r_S) (k1 : Nat) (x2 : Int32) (x3 : Int32) (x4 : Int32) (x6 : Int32) (xs0 : Int32) : dt2 (fun Q => rb_X12_numberOf_95  (B4 Q) (B53 Q) S k1 x2 x3 x4 x6 xs0 Q) := by
  unfold rb_X12_numberOf_95
  exact (hB53 _ _ _ _ _ _ _)
set_option maxRecDepth 100000 in
set_option maxHeartbeats 4000000 in
theorem drb_X12_numberOf_103 {B4 : (Option Value → r_S → Prop) → r_S → Nat → Int32 → Int32 → Prop} (hB4 : ∀ y0 y1 y2 y3, dt2 (fun Q => B4 Q y0 y1 y2 y3)) (S : r_S) (k1 : Nat) (x2 : Int32) (x4 : Int32) (x5 : Int32) : dt2 (fun Q => rb_X12_numberOf_103  (B4 Q) S k1 x2 x4 x5 Q) := by
  unfold rb_X12_numberOf_103
  exact (if2 (hB4 _ _ _ _) lf2)
set_option maxRecDepth 100000 in
set_option maxHeartbeats 4000000 in
theorem drb_X12_numberOf_53 {B4 : (Option Value → r_S → Prop) → r_S → Nat → Int32 → Int32 → Prop} (hB4 : ∀ y0 y1 y2 y3, dt2 (fun Q => B4 Q y0 y1 y2 y3)) {B53 : (Option Value → r_S → Prop) → r_S → Nat → Int32 → Int32 → Int32 → Int32 → Int32 → Prop} (hB53 : ∀ y0 y1 y2 y3 y4 y5 y6, dt2 (fun Q => B53 Q y0 y1 y2 y3 y4 y5 y6)) (S : r_S) (k1 : Nat) (x2 : Int32) (x3 : Int32) (x4 : Int32) (x5 : Int32) (x6 : Int32) : dt2 (fun Q => rb_X12_numberOf_53  (B4 Q) (B53 Q) S k1 x2 x3 x4 x5 x6 Q) := by
  unfold rb_X12_numberOf_53
  exact (if2 (drb_X12_numberOf_103 hB4 _ _ _ _ _) (if2 (drb_X12_numberOf_103 hB4 _ _ _ _ _) (b22 (dr_ch k1 S (x3 + x6)) fun r8_ S9_ => (exi2 fun x10_ => (gd2 (ifn2 (drb_X12_numberOf_95 hB4 hB53 _ _ _ _ _ _ _) (drb_X12_numberOf_95 hB4 hB53 _ _ _ _ _ _ _)))))))
theorem drl_X12_numberOf_53 {B4 : (Option Value → r_S → Prop) → r_S → Nat → Int32 → Int32 → Prop} (hB4 : ∀ y0 y1 y2 y3, dt2 (fun Q => B4 Q y0 y1 y2 y3)) (n : Nat) (S : r_S) (k1 : Nat) (x2 : Int32) (x3 : Int32) (x4 : Int32) (x5 : Int32) (x6 : Int32) : dt2 (fun Q => rl_X12_numberOf_53  (B4 Q) n S k1 x2 x3 x4 x5 x6 Q) := by
  induction n generalizing S k1 x2 x3 x4 x5 x6 with
  | zero => exact fa2
  | succ n ih => exact drb_X12_numberOf_53 (B4 := B4) (B53 := fun Q y0 y1 y2 y3 y4 y5 y6 => rl_X12_numberOf_53  (B4 Q) n y0 y1 y2 y3 y4 y5 y6 Q) hB4 (fun y0 y1 y2 y3 y4 y5 y6 => ih y0 y1 y2 y3 y4 y5 y6) _ _ _ _ _ _ _
set_option maxRecDepth 100000 in
set_option maxHeartbeats 4000000 in
theorem drb_X12_numberOf_48 {B4 : (Option Value → r_S → Prop) → r_S → Nat → Int32 → Int32 → Prop} (hB4 : ∀ y0 y1 y2 y3, dt2 (fun Q => B4 Q y0 y1 y2 y3)) (S : r_S) (k1 : Nat) (x2 : Int32) (x3 : Int32) (x4 : Int32) (xs0 : Int32) : dt2 (fun Q => rb_X12_numberOf_48  (B4 Q) S k1 x2 x3 x4 xs0 Q) := by
  unfold rb_X12_numberOf_48
  exact (exn2 fun n17_ => (drl_X12_numberOf_53 hB4 _ _ _ _ _ _ _ _))
set_option maxRecDepth 100000 in
set_option maxHeartbeats 4000000 in
theorem drb_X12_numberOf_15 {B4 : (Option Value → r_S → Prop) → r_S → Nat → Int32 → Int32 → Prop} (hB4 : ∀ y0 y1 y2 y3, dt2 (fun Q => B4 Q y0 y1 y2 y3)) {B15 : (Option Value → r_S → Prop) → r_S → Nat → Int32 → Int32 → Int32 → Prop} (hB15 : ∀ y0 y1 y2 y3 y4, dt2 (fun Q => B15 Q y0 y1 y2 y3 y4)) (S : r_S) (k1 : Nat) (x2 : Int32) (x3 : Int32) (x4 : Int32) : dt2 (fun Q => rb_X12_numberOf_15  (B4 Q) (B15 Q) S k1 x2 x3 x4 Q) := by
  unfold rb_X12_numberOf_15
  exact (b22 (dr_ch k1 S x4) fun r21_ S22_ => (exi2 fun x23_ => (if2 (ifn2 (drb_X12_numberOf_48 hB4 _ _ _ _ _ _) (drb_X12_numberOf_48 hB4 _ _ _ _ _ _)) (hB15 _ _ _ _ _))))
theorem drl_X12_numberOf_15 {B4 : (Option Value → r_S → Prop) → r_S → Nat → Int32 → Int32 → Prop} (hB4 : ∀ y0 y1 y2 y3, dt2 (fun Q => B4 Q y0 y1 y2 y3)) (n : Nat) (S : r_S) (k1 : Nat) (x2 : Int32) (x3 : Int32) (x4 : Int32) : dt2 (fun Q => rl_X12_numberOf_15  (B4 Q) n S k1 x2 x3 x4 Q) := by
  induction n generalizing S k1 x2 x3 x4 with
  | zero => exact fa2
  | succ n ih => exact drb_X12_numberOf_15 (B4 := B4) (B15 := fun Q y0 y1 y2 y3 y4 => rl_X12_numberOf_15  (B4 Q) n y0 y1 y2 y3 y4 Q) hB4 (fun y0 y1 y2 y3 y4 => ih y0 y1 y2 y3 y4) _ _ _ _ _
set_option maxRecDepth 100000 in
set_option maxHeartbeats 4000000 in
theorem drb_X12_numberOf_4 {B4 : (Option Value → r_S → Prop) → r_S → Nat → Int32 → Int32 → Prop} (hB4 : ∀ y0 y1 y2 y3, dt2 (fun Q => B4 Q y0 y1 y2 y3)) (S : r_S) (k1 : Nat) (x2 : Int32) (x3 : Int32) : dt2 (fun Q => rb_X12_numberOf_4  (B4 Q) S k1 x2 x3 Q) := by
  unfold rb_X12_numberOf_4
  exact (b22 (dr_ln k1 S) fun r30_ S31_ => (exi2 fun x32_ => (if2 lf2 (exn2 fun n34_ => (drl_X12_numberOf_15 hB4 _ _ _ _ _ _)))))
theorem drl_X12_numberOf_4 (n : Nat) (S : r_S) (k1 : Nat) (x2 : Int32) (x3 : Int32) : dt2 (fun Q => rl_X12_numberOf_4   n S k1 x2 x3 Q) := by
  induction n generalizing S k1 x2 x3 with
  | zero => exact fa2
  | succ n ih => exact drb_X12_numberOf_4 (B4 := fun Q y0 y1 y2 y3 => rl_X12_numberOf_4   n y0 y1 y2 y3 Q) (fun y0 y1 y2 y3 => ih y0 y1 y2 y3) _ _ _ _
set_option maxRecDepth 100000 in
set_option maxHeartbeats 4000000 in
theorem drm_X12_numberOf (S : r_S) (k1 : Nat) : dt2 (fun Q => rm_X12_numberOf   S k1 Q) := by
  unfold rm_X12_numberOf
  exact (exn2 fun n35_ => (drl_X12_numberOf_4 _ _ _ _ _))
set_option maxRecDepth 100000 in
set_option maxHeartbeats 4000000 in
theorem drb_X12_next_39 {B0 : (Option Value → r_S → Prop) → r_S → Prop} (hB0 : ∀ y0, dt2 (fun Q => B0 Q y0)) (S : r_S) : dt2 (fun Q => rb_X12_next_39  (B0 Q) S Q) := by
  unfold rb_X12_next_39
  exact (hB0 _)
set_option maxRecDepth 100000 in
set_option maxHeartbeats 4000000 in
theorem drb_X12_next_390 (S : r_S) : dt2 (fun Q => rb_X12_next_390   S Q) := by
  unfold rb_X12_next_390
  exact lf2
set_option maxRecDepth 100000 in
set_option maxHeartbeats 4000000 in
theorem drb_X12_next_134 {B104 : (Option Value → r_S → Prop) → r_S → Prop} (hB104 : ∀ y0, dt2 (fun Q => B104 Q y0)) (S : r_S) : dt2 (fun Q => rb_X12_next_134  (B104 Q) S Q) := by
  unfold rb_X12_next_134
  exact (hB104 _)
set_option maxRecDepth 100000 in
set_option maxHeartbeats 4000000 in
theorem drb_X12_next_197 (S : r_S) (xs1 : Int32) : dt2 (fun Q => rb_X12_next_197   S xs1 Q) := by
  unfold rb_X12_next_197
  exact (drb_X12_next_390 _)
set_option maxRecDepth 100000 in
set_option maxHeartbeats 4000000 in
theorem drb_X12_next_104 {B104 : (Option Value → r_S → Prop) → r_S → Prop} (hB104 : ∀ y0, dt2 (fun Q => B104 Q y0)) (S : r_S) : dt2 (fun Q => rb_X12_next_104  (B104 Q) S Q) := by
  unfold rb_X12_next_104
  exact (b22 (drm_X12_byteAt _ _) fun r5_ S6_ => (exi2 fun x7_ => (b22 (drm_X12_isLetter _ _) fun r9_ S10_ => (exi2 fun x11_ => (ifn2 (drb_X12_next_134 hB104 _) (b22 (drm_X12_byteAt _ _) fun r14_ S15_ => (exi2 fun x16_ => (b22 (drm_X12_isDigit _ _) fun r18_ S19_ => (exi2 fun x20_ => (if2 (b22 (drm_X12_numberOf _ _) fun r26_ S27_ => (exi2 fun x28_ => (if2 (if2 (drb_X12_next_197 _ _) (drb_X12_next_197 _ _)) (drb_X12_next_197 _ _)))) (drb_X12_next_134 hB104 _)))))))))))
theorem drl_X12_next_104 (n : Nat) (S : r_S) : dt2 (fun Q => rl_X12_next_104   n S Q) := by
  induction n generalizing S with
  | zero => exact fa2
  | succ n ih => exact drb_X12_next_104 (B104 := fun Q y0 => rl_X12_next_104   n y0 Q) (fun y0 => ih y0) _
set_option maxRecDepth 100000 in
set_option maxHeartbeats 4000000 in
theorem drb_X12_next_272 {B216 : (Option Value → r_S → Prop) → r_S → Prop} (hB216 : ∀ y0, dt2 (fun Q => B216 Q y0)) (S : r_S) (xs1 : Int32) : dt2 (fun Q => rb_X12_next_272  (B216 Q) S xs1 Q) := by
  unfold rb_X12_next_272
  exact (al2 fun S34_ => (hB216 _))
set_option maxRecDepth 100000 in
set_option maxHeartbeats 4000000 in
theorem drb_X12_next_308 (S : r_S) (xs1 : Int32) : dt2 (fun Q => rb_X12_next_308   S xs1 Q) := by
  unfold rb_X12_next_308
  exact (drb_X12_next_390 _)
set_option maxRecDepth 100000 in
set_option maxHeartbeats 4000000 in
theorem drb_X12_next_216 {B216 : (Option Value → r_S → Prop) → r_S → Prop} (hB216 : ∀ y0, dt2 (fun Q => B216 Q y0)) (S : r_S) : dt2 (fun Q => rb_X12_next_216  (B216 Q) S Q) := by
  unfold rb_X12_next_216
  exact (b22 (drm_X12_byteAt _ _) fun r37_ S38_ => (exi2 fun x39_ => (b22 (drm_X12_isDigit _ _) fun r41_ S42_ => (exi2 fun x43_ => (if2 (if2 (drb_X12_next_308 _ _) (drb_X12_next_308 _ _)) (if2 (drb_X12_next_272 hB216 _ _) (b22 (drm_X12_byteAt _ _) fun r49_ S50_ => (exi2 fun x51_ => (drb_X12_next_272 hB216 _ _)))))))))
theorem drl_X12_next_216 (n : Nat) (S : r_S) : dt2 (fun Q => rl_X12_next_216   n S Q) := by
  induction n generalizing S with
  | zero => exact fa2
  | succ n ih => exact drb_X12_next_216 (B216 := fun Q y0 => rl_X12_next_216   n y0 Q) (fun y0 => ih y0) _
set_option maxRecDepth 100000 in
set_option maxHeartbeats 4000000 in
theorem drb_X12_next_372 (S : r_S) (x1 : Int32) (xs1 : Int32) : dt2 (fun Q => rb_X12_next_372   S x1 xs1 Q) := by
  unfold rb_X12_next_372
  exact (al2 fun S54_ => (drb_X12_next_390 _))
set_option maxRecDepth 100000 in
set_option maxHeartbeats 4000000 in
theorem drb_X12_next_361 (S : r_S) (x1 : Int32) (xs0 : Int32) : dt2 (fun Q => rb_X12_next_361   S x1 xs0 Q) := by
  unfold rb_X12_next_361
  exact (if2 (drb_X12_next_372 _ _ _) (drb_X12_next_372 _ _ _))
set_option maxRecDepth 100000 in
set_option maxHeartbeats 4000000 in
theorem drb_X12_next_356 (S : r_S) (x1 : Int32) : dt2 (fun Q => rb_X12_next_356   S x1 Q) := by
  unfold rb_X12_next_356
  exact (drb_X12_next_361 _ _ _)
set_option maxRecDepth 100000 in
set_option maxHeartbeats 4000000 in
theorem drb_X12_next_52 (S : r_S) : dt2 (fun Q => rb_X12_next_52   S Q) := by
  unfold rb_X12_next_52
  exact (al2 fun S57_ => (b22 (drm_X12_byteAt _ _) fun r58_ S59_ => (exi2 fun x60_ => (if2 (b22 (drm_X12_isLetter _ _) fun r63_ S64_ => (exi2 fun x65_ => (if2 (b22 (drm_X12_isDigit _ _) fun r68_ S69_ => (exi2 fun x70_ => (if2 (if2 (drb_X12_next_356 _ _) (if2 (drb_X12_next_356 _ _) (if2 (drb_X12_next_356 _ _) (if2 (drb_X12_next_356 _ _) (if2 (drb_X12_next_356 _ _) (if2 (drb_X12_next_356 _ _) (ifn2 (drb_X12_next_361 _ _ _) (drb_X12_next_356 _ _)))))))) (exn2 fun n80_ => (drl_X12_next_216 _ _))))) (exn2 fun n81_ => (drl_X12_next_104 _ _))))) (drb_X12_next_390 _)))))
set_option maxRecDepth 100000 in
set_option maxHeartbeats 4000000 in
theorem drb_X12_next_0 {B0 : (Option Value → r_S → Prop) → r_S → Prop} (hB0 : ∀ y0, dt2 (fun Q => B0 Q y0)) (S : r_S) : dt2 (fun Q => rb_X12_next_0  (B0 Q) S Q) := by
  unfold rb_X12_next_0
  exact (if2 (drb_X12_next_52 _) (gd2 (if2 (drb_X12_next_39 hB0 _) (gd2 (ifn2 (drb_X12_next_52 _) (drb_X12_next_39 hB0 _))))))
theorem drl_X12_next_0 (n : Nat) (S : r_S) : dt2 (fun Q => rl_X12_next_0   n S Q) := by
  induction n generalizing S with
  | zero => exact fa2
  | succ n ih => exact drb_X12_next_0 (B0 := fun Q y0 => rl_X12_next_0   n y0 Q) (fun y0 => ih y0) _
set_option maxRecDepth 100000 in
set_option maxHeartbeats 4000000 in
theorem drm_X12_next (S : r_S) : dt2 (fun Q => rm_X12_next   S Q) := by
  unfold rm_X12_next
  exact (exn2 fun n91_ => (drl_X12_next_0 _ _))
set_option maxRecDepth 100000 in
set_option maxHeartbeats 4000000 in
theorem drb_X12_fail_17 (S : r_S) : dt2 (fun Q => rb_X12_fail_17   S Q) := by
  unfold rb_X12_fail_17
  exact lf2
set_option maxRecDepth 100000 in
set_option maxHeartbeats 4000000 in
theorem drm_X12_fail (S : r_S) (x1 : Int32) (x2 : Int32) : dt2 (fun Q => rm_X12_fail   S x1 x2 Q) := by
  unfold rm_X12_fail
  exact (ifn2 (drb_X12_fail_17 _) (drb_X12_fail_17 _))
set_option maxRecDepth 100000 in
set_option maxHeartbeats 4000000 in
theorem drb_X12_failHere_14 (S : r_S) (xs1 : Int32) : dt2 (fun Q => rb_X12_failHere_14   S xs1 Q) := by
  unfold rb_X12_failHere_14
  exact (b22 (drm_X12_fail _ _ _) fun r3_ S4_ => (exi2 fun x5_ => (gd2 lf2)))
set_option maxRecDepth 100000 in
set_option maxHeartbeats 4000000 in
theorem drm_X12_failHere (S : r_S) (x1 : Int32) : dt2 (fun Q => rm_X12_failHere   S x1 Q) := by
  unfold rm_X12_failHere
  exact (ifn2 (drb_X12_failHere_14 _ _) (drb_X12_failHere_14 _ _))
set_option maxRecDepth 100000 in
set_option maxHeartbeats 4000000 in
theorem drb_X12_isKey_28 (S : r_S) (xs0 : Int32) : dt2 (fun Q => rb_X12_isKey_28   S xs0 Q) := by
  unfold rb_X12_isKey_28
  exact (gd2 lf2)
set_option maxRecDepth 100000 in
set_option maxHeartbeats 4000000 in
theorem drb_X12_isKey_27 (S : r_S) : dt2 (fun Q => rb_X12_isKey_27   S Q) := by
  unfold rb_X12_isKey_27
  exact (drb_X12_isKey_28 _ _)
set_option maxRecDepth 100000 in
set_option maxHeartbeats 4000000 in
theorem drm_X12_isKey (S : r_S) (x1 : Int32) : dt2 (fun Q => rm_X12_isKey   S x1 Q) := by
  unfold rm_X12_isKey
  exact (ifn2 (drb_X12_isKey_27 _) (ifn2 (drb_X12_isKey_27 _) (ifn2 (drb_X12_isKey_27 _) (drb_X12_isKey_28 _ _))))
set_option maxRecDepth 100000 in
set_option maxHeartbeats 4000000 in
theorem drb_X12_isSign_28 (S : r_S) (xs0 : Int32) : dt2 (fun Q => rb_X12_isSign_28   S xs0 Q) := by
  unfold rb_X12_isSign_28
  exact (gd2 lf2)
set_option maxRecDepth 100000 in
set_option maxHeartbeats 4000000 in
theorem drb_X12_isSign_27 (S : r_S) : dt2 (fun Q => rb_X12_isSign_27   S Q) := by
  unfold rb_X12_isSign_27
  exact (drb_X12_isSign_28 _ _)
set_option maxRecDepth 100000 in
set_option maxHeartbeats 4000000 in
theorem drm_X12_isSign (S : r_S) (x1 : Int32) : dt2 (fun Q => rm_X12_isSign   S x1 Q) := by
  unfold rm_X12_isSign
  exact (ifn2 (drb_X12_isSign_27 _) (ifn2 (drb_X12_isSign_27 _) (ifn2 (drb_X12_isSign_27 _) (drb_X12_isSign_28 _ _))))
set_option maxRecDepth 100000 in
set_option maxHeartbeats 4000000 in
theorem drm_X12_sign (S : r_S) (x1 : Int32) : dt2 (fun Q => rm_X12_sign   S x1 Q) := by
  unfold rm_X12_sign
  exact (if2 (b22 (drm_X12_isSign _ _) fun r3_ S4_ => (exi2 fun x5_ => (ifn2 (b22 (drm_X12_next _) fun r8_ S9_ => (gd2 lf2)) (b22 (drm_X12_failHere _ _) fun r11_ S12_ => (exi2 fun x13_ => (gd2 lf2)))))) lf2)
set_option maxRecDepth 100000 in
set_option maxHeartbeats 4000000 in
theorem drm_X12_key (S : r_S) (x1 : Int32) : dt2 (fun Q => rm_X12_key   S x1 Q) := by
  unfold rm_X12_key
  exact (if2 (b22 (drm_X12_isKey _ _) fun r3_ S4_ => (exi2 fun x5_ => (ifn2 (b22 (drm_X12_next _) fun r8_ S9_ => (gd2 lf2)) (b22 (drm_X12_failHere _ _) fun r11_ S12_ => (exi2 fun x13_ => (gd2 lf2)))))) lf2)
set_option maxRecDepth 100000 in
set_option maxHeartbeats 4000000 in
theorem drb_X12_number_67 (S : r_S) (x4 : Int32) : dt2 (fun Q => rb_X12_number_67   S x4 Q) := by
  unfold rb_X12_number_67
  exact lf2
set_option maxRecDepth 100000 in
set_option maxHeartbeats 4000000 in
theorem drb_X12_number_50 (S : r_S) (x4 : Int32) : dt2 (fun Q => rb_X12_number_50   S x4 Q) := by
  unfold rb_X12_number_50
  exact (b22 (drm_X12_fail _ _ _) fun r2_ S3_ => (exi2 fun x4_ => (drb_X12_number_67 _ _)))
set_option maxRecDepth 100000 in
set_option maxHeartbeats 4000000 in
theorem drm_X12_number (S : r_S) (x1 : Int32) (x2 : Int32) (x3 : Int32) : dt2 (fun Q => rm_X12_number   S x1 x2 x3 Q) := by
  unfold rm_X12_number
  exact (if2 (if2 (if2 (drb_X12_number_50 _ _) (if2 (drb_X12_number_50 _ _) (gd2 (if2 (b22 (drm_X12_next _) fun r12_ S13_ => (gd2 (drb_X12_number_67 _ _))) (drb_X12_number_50 _ _))))) (b22 (drm_X12_failHere _ _) fun r14_ S15_ => (exi2 fun x16_ => lf2))) lf2)
set_option maxRecDepth 100000 in
set_option maxHeartbeats 4000000 in
theorem drb_X12_isLike_56 {B17 : (Option Value → r_S → Prop) → r_S → Int32 → Int32 → Int32 → Int32 → Prop} (hB17 : ∀ y0 y1 y2 y3 y4, dt2 (fun Q => B17 Q y0 y1 y2 y3 y4)) (S : r_S) (x1 : Int32) (x2 : Int32) (x4 : Int32) (xs0 : Int32) : dt2 (fun Q => rb_X12_isLike_56  (B17 Q) S x1 x2 x4 xs0 Q) := by
  unfold rb_X12_isLike_56
  exact (hB17 _ _ _ _ _)
set_option maxRecDepth 100000 in
set_option maxHeartbeats 4000000 in
theorem drb_X12_isLike_63 (S : r_S) (x3 : Int32) : dt2 (fun Q => rb_X12_isLike_63   S x3 Q) := by
  unfold rb_X12_isLike_63
  exact (gd2 lf2)
set_option maxRecDepth 100000 in
set_option maxHeartbeats 4000000 in
theorem drb_X12_isLike_17 {B17 : (Option Value → r_S → Prop) → r_S → Int32 → Int32 → Int32 → Int32 → Prop} (hB17 : ∀ y0 y1 y2 y3 y4, dt2 (fun Q => B17 Q y0 y1 y2 y3 y4)) (S : r_S) (x1 : Int32) (x2 : Int32) (x3 : Int32) (x4 : Int32) : dt2 (fun Q => rb_X12_isLike_17  (B17 Q) S x1 x2 x3 x4 Q) := by
  unfold rb_X12_isLike_17
  exact (if2 (drb_X12_isLike_63 _ _) (if2 (drb_X12_isLike_63 _ _) (gd2 (gd2 (ifn2 (drb_X12_isLike_56 hB17 _ _ _ _ _) (drb_X12_isLike_56 hB17 _ _ _ _ _))))))
theorem drl_X12_isLike_17 (n : Nat) (S : r_S) (x1 : Int32) (x2 : Int32) (x3 : Int32) (x4 : Int32) : dt2 (fun Q => rl_X12_isLike_17   n S x1 x2 x3 x4 Q) := by
  induction n generalizing S x1 x2 x3 x4 with
  | zero => exact fa2
  | succ n ih => exact drb_X12_isLike_17 (B17 := fun Q y0 y1 y2 y3 y4 => rl_X12_isLike_17   n y0 y1 y2 y3 y4 Q) (fun y0 y1 y2 y3 y4 => ih y0 y1 y2 y3 y4) _ _ _ _ _
set_option maxRecDepth 100000 in
set_option maxHeartbeats 4000000 in
theorem drb_X12_isLike_13 (S : r_S) (x1 : Int32) (x2 : Int32) (xs0 : Int32) : dt2 (fun Q => rb_X12_isLike_13   S x1 x2 xs0 Q) := by
  unfold rb_X12_isLike_13
  exact (exn2 fun n13_ => (drl_X12_isLike_17 _ _ _ _ _ _))
set_option maxRecDepth 100000 in
set_option maxHeartbeats 4000000 in
theorem drm_X12_isLike (S : r_S) (x1 : Int32) (x2 : Int32) : dt2 (fun Q => rm_X12_isLike   S x1 x2 Q) := by
  unfold rm_X12_isLike
  exact (ifn2 (drb_X12_isLike_13 _ _ _ _) (drb_X12_isLike_13 _ _ _ _))
set_option maxRecDepth 100000 in
set_option maxHeartbeats 4000000 in
theorem drb_X12_keep_2 {B2 : (Option Value → r_S → Prop) → r_S → Int32 → Prop} (hB2 : ∀ y0 y1, dt2 (fun Q => B2 Q y0 y1)) (S : r_S) (x1 : Int32) : dt2 (fun Q => rb_X12_keep_2  (B2 Q) S x1 Q) := by
  unfold rb_X12_keep_2
  exact (if2 lf2 (gd2 (gd2 (hB2 _ _))))
theorem drl_X12_keep_2 (n : Nat) (S : r_S) (x1 : Int32) : dt2 (fun Q => rl_X12_keep_2   n S x1 Q) := by
  induction n generalizing S x1 with
  | zero => exact fa2
  | succ n ih => exact drb_X12_keep_2 (B2 := fun Q y0 y1 => rl_X12_keep_2   n y0 y1 Q) (fun y0 y1 => ih y0 y1) _ _
set_option maxRecDepth 100000 in
set_option maxHeartbeats 4000000 in
theorem drm_X12_keep (S : r_S) : dt2 (fun Q => rm_X12_keep   S Q) := by
  unfold rm_X12_keep
  exact (exn2 fun n11_ => (drl_X12_keep_2 _ _ _))
set_option maxRecDepth 100000 in
set_option maxHeartbeats 4000000 in
theorem drb_X12_partitionNamed_2 {B2 : (Option Value → r_S → Prop) → r_S → Int32 → Prop} (hB2 : ∀ y0 y1, dt2 (fun Q => B2 Q y0 y1)) (S : r_S) (x1 : Int32) : dt2 (fun Q => rb_X12_partitionNamed_2  (B2 Q) S x1 Q) := by
  unfold rb_X12_partitionNamed_2
  exact (if2 lf2 (gd2 (gd2 (b22 (drm_X12_isLike _ _ _) fun r11_ S12_ => (exi2 fun x13_ => (if2 (hB2 _ _) lf2))))))
theorem drl_X12_partitionNamed_2 (n : Nat) (S : r_S) (x1 : Int32) : dt2 (fun Q => rl_X12_partitionNamed_2   n S x1 Q) := by
  induction n generalizing S x1 with
  | zero => exact fa2
  | succ n ih => exact drb_X12_partitionNamed_2 (B2 := fun Q y0 y1 => rl_X12_partitionNamed_2   n y0 y1 Q) (fun y0 y1 => ih y0 y1) _ _
set_option maxRecDepth 100000 in
set_option maxHeartbeats 4000000 in
theorem drm_X12_partitionNamed (S : r_S) : dt2 (fun Q => rm_X12_partitionNamed   S Q) := by
  unfold rm_X12_partitionNamed
  exact (exn2 fun n15_ => (drl_X12_partitionNamed_2 _ _ _))
set_option maxRecDepth 100000 in
set_option maxHeartbeats 4000000 in
theorem drb_X12_thingNamed_5 {B5 : (Option Value → r_S → Prop) → r_S → Int32 → Int32 → Prop} (hB5 : ∀ y0 y1 y2, dt2 (fun Q => B5 Q y0 y1 y2)) (S : r_S) (x1 : Int32) (x2 : Int32) : dt2 (fun Q => rb_X12_thingNamed_5  (B5 Q) S x1 x2 Q) := by
  unfold rb_X12_thingNamed_5
  exact (gd2 (if2 lf2 (gd2 (gd2 (b22 (drm_X12_isLike _ _ _) fun r15_ S16_ => (exi2 fun x17_ => (if2 (hB5 _ _ _) lf2)))))))
theorem drl_X12_thingNamed_5 (n : Nat) (S : r_S) (x1 : Int32) (x2 : Int32) : dt2 (fun Q => rl_X12_thingNamed_5   n S x1 x2 Q) := by
  induction n generalizing S x1 x2 with
  | zero => exact fa2
  | succ n ih => exact drb_X12_thingNamed_5 (B5 := fun Q y0 y1 y2 => rl_X12_thingNamed_5   n y0 y1 y2 Q) (fun y0 y1 y2 => ih y0 y1 y2) _ _ _
set_option maxRecDepth 100000 in
set_option maxHeartbeats 4000000 in
theorem drm_X12_thingNamed (S : r_S) (x1 : Int32) : dt2 (fun Q => rm_X12_thingNamed   S x1 Q) := by
  unfold rm_X12_thingNamed
  exact (exn2 fun n19_ => (drl_X12_thingNamed_5 _ _ _ _))
set_option maxRecDepth 100000 in
set_option maxHeartbeats 4000000 in
theorem drm_X12_newThing (S : r_S) (x1 : Int32) (x2 : Int32) (x3 : Int32) : dt2 (fun Q => rm_X12_newThing   S x1 x2 x3 Q) := by
  unfold rm_X12_newThing
  exact (if2 (b22 (drm_X12_next _) fun r3_ S4_ => (gd2 (gd2 (ifn2 (if2 (b22 (drm_X12_thingNamed _ _) fun r12_ S13_ => (exi2 fun x14_ => (if2 (gd2 (b22 (drm_X12_keep _) fun r21_ S22_ => (exi2 fun x23_ => (gd2 (gd2 (al2 fun S33_ => (gd2 (gd2 (gd2 (gd2 (al2 fun S47_ => (gd2 (gd2 (b22 (drm_X12_next _) fun r53_ S54_ => (gd2 lf2))))))))))))))) (b22 (drm_X12_fail _ _ _) fun r56_ S57_ => (exi2 fun x58_ => lf2))))) (b22 (drm_X12_failHere _ _) fun r59_ S60_ => (exi2 fun x61_ => lf2))) (b22 (drm_X12_failHere _ _) fun r62_ S63_ => (exi2 fun x64_ => lf2)))))) lf2)
set_option maxRecDepth 100000 in
set_option maxHeartbeats 4000000 in
theorem drb_X12_readRegions_188 {B76 : (Option Value → r_S → Prop) → r_S → Int32 → Int32 → Int32 → Prop} (hB76 : ∀ y0 y1 y2 y3, dt2 (fun Q => B76 Q y0 y1 y2 y3)) (S : r_S) (x1 : Int32) (x2 : Int32) (x3 : Int32) (x4 : Int32) (x5 : Int32) : dt2 (fun Q => rb_X12_readRegions_188  (B76 Q) S x1 x2 x3 x4 x5 Q) := by
  unfold rb_X12_readRegions_188
  exact (if2 (gd2 (gd2 (gd2 (al2 fun S15_ => (gd2 (gd2 (b22 (drm_X12_next _) fun r21_ S22_ => (gd2 (b22 (drm_X12_sign _ _) fun r24_ S25_ => (exi2 fun x26_ => (hB76 _ _ _ _))))))))))) lf2)
set_option maxRecDepth 100000 in
set_option maxHeartbeats 4000000 in
theorem drb_X12_readRegions_182 {B76 : (Option Value → r_S → Prop) → r_S → Int32 → Int32 → Int32 → Prop} (hB76 : ∀ y0 y1 y2 y3, dt2 (fun Q => B76 Q y0 y1 y2 y3)) (S : r_S) (x1 : Int32) (x2 : Int32) (x3 : Int32) (x4 : Int32) (x5 : Int32) : dt2 (fun Q => rb_X12_readRegions_182  (B76 Q) S x1 x2 x3 x4 x5 Q) := by
  unfold rb_X12_readRegions_182
  exact (b22 (drm_X12_failHere _ _) fun r28_ S29_ => (exi2 fun x30_ => (drb_X12_readRegions_188 hB76 _ _ _ _ _ _)))
set_option maxRecDepth 100000 in
set_option maxHeartbeats 4000000 in
theorem drb_X12_readRegions_101 {B76 : (Option Value → r_S → Prop) → r_S → Int32 → Int32 → Int32 → Prop} (hB76 : ∀ y0 y1 y2 y3, dt2 (fun Q => B76 Q y0 y1 y2 y3)) (S : r_S) (x1 : Int32) (x2 : Int32) (x3 : Int32) : dt2 (fun Q => rb_X12_readRegions_101  (B76 Q) S x1 x2 x3 Q) := by
  unfold rb_X12_readRegions_101
  exact (gd2 (ifn2 (gd2 (gd2 (b22 (drm_X12_number _ _ _ _) fun r42_ S43_ => (exi2 fun x44_ => (ifn2 (drb_X12_readRegions_188 hB76 _ _ _ _ _ _) (ifn2 (drb_X12_readRegions_182 hB76 _ _ _ _ _ _) (if2 (drb_X12_readRegions_182 hB76 _ _ _ _ _ _) (if2 (drb_X12_readRegions_188 hB76 _ _ _ _ _ _) (drb_X12_readRegions_182 hB76 _ _ _ _ _ _))))))))) (b22 (drm_X12_failHere _ _) fun r50_ S51_ => (exi2 fun x52_ => lf2))))
set_option maxRecDepth 100000 in
set_option maxHeartbeats 4000000 in
theorem drb_X12_readRegions_280 (S : r_S) : dt2 (fun Q => rb_X12_readRegions_280   S Q) := by
  unfold rb_X12_readRegions_280
  exact (b22 (drm_X12_sign _ _) fun r54_ S55_ => (exi2 fun x56_ => lf2))
set_option maxRecDepth 100000 in
set_option maxHeartbeats 4000000 in
theorem drb_X12_readRegions_255 (S : r_S) (x1 : Int32) (x2 : Int32) (x3 : Int32) : dt2 (fun Q => rb_X12_readRegions_255   S x1 x2 x3 Q) := by
  unfold rb_X12_readRegions_255
  exact (ifn2 (drb_X12_readRegions_280 _) (gd2 (if2 (drb_X12_readRegions_280 _) (b22 (drm_X12_fail _ _ _) fun r64_ S65_ => (exi2 fun x66_ => (drb_X12_readRegions_280 _))))))
set_option maxRecDepth 100000 in
set_option maxHeartbeats 4000000 in
theorem drb_X12_readRegions_76 {B76 : (Option Value → r_S → Prop) → r_S → Int32 → Int32 → Int32 → Prop} (hB76 : ∀ y0 y1 y2 y3, dt2 (fun Q => B76 Q y0 y1 y2 y3)) (S : r_S) (x1 : Int32) (x2 : Int32) (x3 : Int32) : dt2 (fun Q => rb_X12_readRegions_76  (B76 Q) S x1 x2 x3 Q) := by
  unfold rb_X12_readRegions_76
  exact (ifn2 (drb_X12_readRegions_255 _ _ _ _) (gd2 (if2 (drb_X12_readRegions_101 hB76 _ _ _ _) (b22 (drm_X12_isSign _ _) fun r74_ S75_ => (exi2 fun x76_ => (ifn2 (drb_X12_readRegions_255 _ _ _ _) (drb_X12_readRegions_101 hB76 _ _ _ _)))))))
theorem drl_X12_readRegions_76 (n : Nat) (S : r_S) (x1 : Int32) (x2 : Int32) (x3 : Int32) : dt2 (fun Q => rl_X12_readRegions_76   n S x1 x2 x3 Q) := by
  induction n generalizing S x1 x2 x3 with
  | zero => exact fa2
  | succ n ih => exact drb_X12_readRegions_76 (B76 := fun Q y0 y1 y2 y3 => rl_X12_readRegions_76   n y0 y1 y2 y3 Q) (fun y0 y1 y2 y3 => ih y0 y1 y2 y3) _ _ _ _
set_option maxRecDepth 100000 in
set_option maxHeartbeats 4000000 in
theorem drm_X12_readRegions (S : r_S) (x1 : Int32) : dt2 (fun Q => rm_X12_readRegions   S x1 Q) := by
  unfold rm_X12_readRegions
  exact (gd2 (b22 (drm_X12_isKey _ _) fun r83_ S84_ => (exi2 fun x85_ => (ifn2 (b22 (drm_X12_next _) fun r88_ S89_ => (gd2 (b22 (drm_X12_sign _ _) fun r91_ S92_ => (exi2 fun x93_ => (exn2 fun n94_ => (drl_X12_readRegions_76 _ _ _ _ _)))))) (gd2 (gd2 (gd2 (gd2 (al2 fun S112_ => (gd2 lf2))))))))))
set_option maxRecDepth 100000 in
set_option maxHeartbeats 4000000 in
theorem drm_X12_perhaps (S : r_S) (x1 : Int32) : dt2 (fun Q => rm_X12_perhaps   S x1 Q) := by
  unfold rm_X12_perhaps
  exact (b22 (drm_X12_isKey _ _) fun r2_ S3_ => (exi2 fun x4_ => (ifn2 (b22 (drm_X12_next _) fun r7_ S8_ => (gd2 (b22 (drm_X12_number _ _ _ _) fun r10_ S11_ => (exi2 fun x12_ => (b22 (drm_X12_sign _ _) fun r14_ S15_ => (exi2 fun x16_ => lf2)))))) lf2)))
set_option maxRecDepth 100000 in
set_option maxHeartbeats 4000000 in
theorem drb_X12_readProcess_202 (S : r_S) : dt2 (fun Q => rb_X12_readProcess_202   S Q) := by
  unfold rb_X12_readProcess_202
  exact (b22 (drm_X12_sign _ _) fun r2_ S3_ => (exi2 fun x4_ => lf2))
set_option maxRecDepth 100000 in
set_option maxHeartbeats 4000000 in
theorem drb_X12_readProcess_170 (S : r_S) (x3 : Int32) : dt2 (fun Q => rb_X12_readProcess_170   S x3 Q) := by
  unfold rb_X12_readProcess_170
  exact (b22 (drm_X12_isKey _ _) fun r6_ S7_ => (exi2 fun x8_ => (gd2 (gd2 (if2 (drb_X12_readProcess_202 _) (b22 (drm_X12_next _) fun r19_ S20_ => (gd2 (b22 (drm_X12_sign _ _) fun r22_ S23_ => (exi2 fun x24_ => (drb_X12_readProcess_202 _))))))))))
set_option maxRecDepth 100000 in
set_option maxHeartbeats 4000000 in
theorem drm_X12_readProcess (S : r_S) (x1 : Int32) : dt2 (fun Q => rm_X12_readProcess   S x1 Q) := by
  unfold rm_X12_readProcess
  exact (b22 (drm_X12_newThing _ _ _ _) fun r26_ S27_ => (exi2 fun x28_ => (b22 (drm_X12_sign _ _) fun r30_ S31_ => (exi2 fun x32_ => (b22 (drm_X12_key _ _) fun r34_ S35_ => (exi2 fun x36_ => (gd2 (b22 (drm_X12_number _ _ _ _) fun r42_ S43_ => (exi2 fun x44_ => (gd2 (b22 (drm_X12_sign _ _) fun r50_ S51_ => (exi2 fun x52_ => (b22 (drm_X12_key _ _) fun r54_ S55_ => (exi2 fun x56_ => (b22 (drm_X12_number _ _ _ _) fun r58_ S59_ => (exi2 fun x60_ => (gd2 (b22 (drm_X12_sign _ _) fun r66_ S67_ => (exi2 fun x68_ => (b22 (drm_X12_perhaps _ _) fun r70_ S71_ => (exi2 fun x72_ => (gd2 (b22 (drm_X12_perhaps _ _) fun r78_ S79_ => (exi2 fun x80_ => (gd2 (b22 (drm_X12_perhaps _ _) fun r86_ S87_ => (exi2 fun x88_ => (gd2 (b22 (drm_X12_isKey _ _) fun r94_ S95_ => (exi2 fun x96_ => (if2 (drb_X12_readProcess_170 _ _) (gd2 (if2 (gd2 (b22 (drm_X12_next _) fun r105_ S106_ => (gd2 (b22 (drm_X12_sign _ _) fun r108_ S109_ => (exi2 fun x110_ => (drb_X12_readProcess_170 _ _)))))) (b22 (drm_X12_fail _ _ _) fun r111_ S112_ => (exi2 fun x113_ => lf2)))))))))))))))))))))))))))))))))))
set_option maxRecDepth 100000 in
set_option maxHeartbeats 4000000 in
theorem drm_X12_isFifo (S : r_S) : dt2 (fun Q => rm_X12_isFifo   S Q) := by
  unfold rm_X12_isFifo
  exact (b22 (drm_X12_isKey _ _) fun r2_ S3_ => (exi2 fun x4_ => (ifn2 (b22 (drm_X12_next _) fun r7_ S8_ => (gd2 lf2)) lf2)))
set_option maxRecDepth 100000 in
set_option maxHeartbeats 4000000 in
theorem drb_X12_either_33 (S : r_S) (x3 : Int32) : dt2 (fun Q => rb_X12_either_33   S x3 Q) := by
  unfold rb_X12_either_33
  exact (b22 (drm_X12_next _) fun r2_ S3_ => (gd2 (gd2 lf2)))
set_option maxRecDepth 100000 in
set_option maxHeartbeats 4000000 in
theorem drm_X12_either (S : r_S) (x1 : Int32) (x2 : Int32) : dt2 (fun Q => rm_X12_either   S x1 x2 Q) := by
  unfold rm_X12_either
  exact (if2 (b22 (drm_X12_isKey _ _) fun r6_ S7_ => (exi2 fun x8_ => (ifn2 (drb_X12_either_33 _ _) (b22 (drm_X12_isKey _ _) fun r11_ S12_ => (exi2 fun x13_ => (ifn2 (drb_X12_either_33 _ _) (b22 (drm_X12_failHere _ _) fun r16_ S17_ => (exi2 fun x18_ => (gd2 lf2))))))))) lf2)
set_option maxRecDepth 100000 in
set_option maxHeartbeats 4000000 in
theorem drb_X12_readErrors_202 {B41 : (Option Value → r_S → Prop) → r_S → Int32 → Int32 → Prop} (hB41 : ∀ y0 y1 y2, dt2 (fun Q => B41 Q y0 y1 y2)) (S : r_S) (x1 : Int32) (x2 : Int32) (x3 : Int32) (x4 : Int32) : dt2 (fun Q => rb_X12_readErrors_202  (B41 Q) S x1 x2 x3 x4 Q) := by
  unfold rb_X12_readErrors_202
  exact (gd2 (b22 (drm_X12_next _) fun r6_ S7_ => (gd2 (b22 (drm_X12_sign _ _) fun r9_ S10_ => (exi2 fun x11_ => (hB41 _ _ _))))))
set_option maxRecDepth 100000 in
set_option maxHeartbeats 4000000 in
theorem drb_X12_readErrors_165 {B41 : (Option Value → r_S → Prop) → r_S → Int32 → Int32 → Prop} (hB41 : ∀ y0 y1 y2, dt2 (fun Q => B41 Q y0 y1 y2)) (S : r_S) (x1 : Int32) (x2 : Int32) (x3 : Int32) (xs0 : Int32) : dt2 (fun Q => rb_X12_readErrors_165  (B41 Q) S x1 x2 x3 xs0 Q) := by
  unfold rb_X12_readErrors_165
  exact (if2 (ifn2 (drb_X12_readErrors_202 hB41 _ _ _ _ _) (ifn2 (drb_X12_readErrors_202 hB41 _ _ _ _ _) (drb_X12_readErrors_202 hB41 _ _ _ _ _))) (b22 (drm_X12_failHere _ _) fun r17_ S18_ => (exi2 fun x19_ => lf2)))
set_option maxRecDepth 100000 in
set_option maxHeartbeats 4000000 in
theorem drb_X12_readErrors_88 {B41 : (Option Value → r_S → Prop) → r_S → Int32 → Int32 → Prop} (hB41 : ∀ y0 y1 y2, dt2 (fun Q => B41 Q y0 y1 y2)) (S : r_S) (x1 : Int32) (x2 : Int32) (xs0 : Int32) : dt2 (fun Q => rb_X12_readErrors_88  (B41 Q) S x1 x2 xs0 Q) := by
  unfold rb_X12_readErrors_88
  exact (if2 (ifn2 (b22 (drm_X12_next _) fun r23_ S24_ => (gd2 (b22 (drm_X12_sign _ _) fun r26_ S27_ => (exi2 fun x28_ => (if2 (ifn2 (drb_X12_readErrors_165 hB41 _ _ _ _ _) (b22 (drm_X12_numberOf _ _) fun r35_ S36_ => (exi2 fun x37_ => (drb_X12_readErrors_165 hB41 _ _ _ _ _)))) lf2))))) (b22 (drm_X12_fail _ _ _) fun r39_ S40_ => (exi2 fun x41_ => lf2))) (b22 (drm_X12_failHere _ _) fun r43_ S44_ => (exi2 fun x45_ => lf2)))
set_option maxRecDepth 100000 in
set_option maxHeartbeats 4000000 in
theorem drb_X12_readErrors_77 {B41 : (Option Value → r_S → Prop) → r_S → Int32 → Int32 → Prop} (hB41 : ∀ y0 y1 y2, dt2 (fun Q => B41 Q y0 y1 y2)) (S : r_S) (x1 : Int32) (x2 : Int32) : dt2 (fun Q => rb_X12_readErrors_77  (B41 Q) S x1 x2 Q) := by
  unfold rb_X12_readErrors_77
  exact (b22 (drm_X12_numberOf _ _) fun r50_ S51_ => (exi2 fun x52_ => (drb_X12_readErrors_88 hB41 _ _ _ _)))
set_option maxRecDepth 100000 in
set_option maxHeartbeats 4000000 in
theorem drb_X12_readErrors_61 {B41 : (Option Value → r_S → Prop) → r_S → Int32 → Int32 → Prop} (hB41 : ∀ y0 y1 y2, dt2 (fun Q => B41 Q y0 y1 y2)) (S : r_S) (x1 : Int32) (x2 : Int32) : dt2 (fun Q => rb_X12_readErrors_61  (B41 Q) S x1 x2 Q) := by
  unfold rb_X12_readErrors_61
  exact (if2 (drb_X12_readErrors_77 hB41 _ _ _) (ifn2 (drb_X12_readErrors_88 hB41 _ _ _ _) (drb_X12_readErrors_77 hB41 _ _ _)))
set_option maxRecDepth 100000 in
set_option maxHeartbeats 4000000 in
theorem drb_X12_readErrors_228 (S : r_S) : dt2 (fun Q => rb_X12_readErrors_228   S Q) := by
  unfold rb_X12_readErrors_228
  exact (b22 (drm_X12_sign _ _) fun r57_ S58_ => (exi2 fun x59_ => lf2))
set_option maxRecDepth 100000 in
set_option maxHeartbeats 4000000 in
theorem drb_X12_readErrors_41 {B41 : (Option Value → r_S → Prop) → r_S → Int32 → Int32 → Prop} (hB41 : ∀ y0 y1 y2, dt2 (fun Q => B41 Q y0 y1 y2)) (S : r_S) (x1 : Int32) (x2 : Int32) : dt2 (fun Q => rb_X12_readErrors_41  (B41 Q) S x1 x2 Q) := by
  unfold rb_X12_readErrors_41
  exact (ifn2 (drb_X12_readErrors_228 _) (if2 (drb_X12_readErrors_61 hB41 _ _ _) (b22 (drm_X12_isSign _ _) fun r63_ S64_ => (exi2 fun x65_ => (ifn2 (drb_X12_readErrors_228 _) (drb_X12_readErrors_61 hB41 _ _ _))))))
theorem drl_X12_readErrors_41 (n : Nat) (S : r_S) (x1 : Int32) (x2 : Int32) : dt2 (fun Q => rl_X12_readErrors_41   n S x1 x2 Q) := by
  induction n generalizing S x1 x2 with
  | zero => exact fa2
  | succ n ih => exact drb_X12_readErrors_41 (B41 := fun Q y0 y1 y2 => rl_X12_readErrors_41   n y0 y1 y2 Q) (fun y0 y1 y2 => ih y0 y1 y2) _ _ _
set_option maxRecDepth 100000 in
set_option maxHeartbeats 4000000 in
theorem drm_X12_readErrors (S : r_S) (x1 : Int32) : dt2 (fun Q => rm_X12_readErrors   S x1 Q) := by
  unfold rm_X12_readErrors
  exact (gd2 (if2 (gd2 (b22 (drm_X12_next _) fun r74_ S75_ => (gd2 (b22 (drm_X12_sign _ _) fun r77_ S78_ => (exi2 fun x79_ => (exn2 fun n80_ => (drl_X12_readErrors_41 _ _ _ _))))))) (b22 (drm_X12_fail _ _ _) fun r81_ S82_ => (exi2 fun x83_ => lf2))))
set_option maxRecDepth 100000 in
set_option maxHeartbeats 4000000 in
theorem drb_X12_readThing_167 (S : r_S) (x2 : Int32) (xs1 : Int32) (xs3 : Int32) : dt2 (fun Q => rb_X12_readThing_167   S x2 xs1 xs3 Q) := by
  unfold rb_X12_readThing_167
  exact (b22 (drm_X12_number _ _ _ _) fun r2_ S3_ => (exi2 fun x4_ => (gd2 (b22 (drm_X12_isFifo _) fun r10_ S11_ => (exi2 fun x12_ => (gd2 (b22 (drm_X12_sign _ _) fun r18_ S19_ => (exi2 fun x20_ => lf2))))))))
set_option maxRecDepth 100000 in
set_option maxHeartbeats 4000000 in
theorem drm_X12_readThing (S : r_S) (x1 : Int32) : dt2 (fun Q => rm_X12_readThing   S x1 Q) := by
  unfold rm_X12_readThing
  exact (if2 (by
    have e0 : ((r_I S 2408) = (10 : Int32)) ↔ ((r_I S 2408)).toInt = 10 := sw_iff (by decide)
    have e1 : ((r_I S 2408) = (11 : Int32)) ↔ ((r_I S 2408)).toInt = 11 := sw_iff (by decide)
    have e2 : ((r_I S 2408) = (12 : Int32)) ↔ ((r_I S 2408)).toInt = 12 := sw_iff (by decide)
    have e3 : ((r_I S 2408) = (13 : Int32)) ↔ ((r_I S 2408)).toInt = 13 := sw_iff (by decide)
    have e4 : ((r_I S 2408) = (14 : Int32)) ↔ ((r_I S 2408)).toInt = 14 := sw_iff (by decide)
    have e5 : ((r_I S 2408) = (15 : Int32)) ↔ ((r_I S 2408)).toInt = 15 := sw_iff (by decide)
    have e6 : ((r_I S 2408) = (16 : Int32)) ↔ ((r_I S 2408)).toInt = 16 := sw_iff (by decide)
    have e7 : ((r_I S 2408) = (17 : Int32)) ↔ ((r_I S 2408)).toInt = 17 := sw_iff (by decide)
    have e8 : ((r_I S 2408) = (18 : Int32)) ↔ ((r_I S 2408)).toInt = 18 := sw_iff (by decide)
    have e9 : ((r_I S 2408) = (19 : Int32)) ↔ ((r_I S 2408)).toInt = 19 := sw_iff (by decide)
    have e10 : ((r_I S 2408) = (20 : Int32)) ↔ ((r_I S 2408)).toInt = 20 := sw_iff (by decide)
    have e11 : ((r_I S 2408) = (21 : Int32)) ↔ ((r_I S 2408)).toInt = 21 := sw_iff (by decide)
    have e12 : ((r_I S 2408) = (22 : Int32)) ↔ ((r_I S 2408)).toInt = 22 := sw_iff (by decide)
    have e13 : ((r_I S 2408) = (23 : Int32)) ↔ ((r_I S 2408)).toInt = 23 := sw_iff (by decide)
    have e14 : ((r_I S 2408) = (7 : Int32)) ↔ ((r_I S 2408)).toInt = 7 := sw_iff (by decide)
    have e15 : ((r_I S 2408) = (8 : Int32)) ↔ ((r_I S 2408)).toInt = 8 := sw_iff (by decide)
    have e16 : ((r_I S 2408) = (9 : Int32)) ↔ ((r_I S 2408)).toInt = 9 := sw_iff (by decide)
    have ex : (((r_I S 2408).toInt < 7 ∨ 23 < (r_I S 2408).toInt)) ∨ (((r_I S 2408) = (7 : Int32))) ∨ (((r_I S 2408) = (8 : Int32) ∨ (r_I S 2408) = (9 : Int32) ∨ (r_I S 2408) = (10 : Int32) ∨ (r_I S 2408) = (11 : Int32) ∨ (r_I S 2408) = (12 : Int32) ∨ (r_I S 2408) = (13 : Int32) ∨ (r_I S 2408) = (14 : Int32) ∨ (r_I S 2408) = (18 : Int32) ∨ (r_I S 2408) = (21 : Int32) ∨ (r_I S 2408) = (22 : Int32))) ∨ (((r_I S 2408) = (15 : Int32))) ∨ (((r_I S 2408) = (16 : Int32))) ∨ (((r_I S 2408) = (17 : Int32))) ∨ (((r_I S 2408) = (19 : Int32))) ∨ (((r_I S 2408) = (20 : Int32))) ∨ (((r_I S 2408) = (23 : Int32))) := by
      simp only [e0, e1, e2, e3, e4, e5, e6, e7, e8, e9, e10, e11, e12, e13, e14, e15, e16]; omega
    intro P h
    have t0 : dt2 (fun Q : Option Value → r_S → Prop => (rm_X12_failHere S (1 : Int32) (fun r23_ S24_ => ∃ x25_ : Int32, r23_ = some (.int x25_) ∧ (Q none S24_)))) := (b22 (drm_X12_failHere _ _) fun r23_ S24_ => (exi2 fun x25_ => lf2))
    have t1 : dt2 (fun Q : Option Value → r_S → Prop => (rm_X12_readProcess S x1 (fun r26_ S27_ => r26_ = none ∧ (Q none S27_)))) := (b22 (drm_X12_readProcess _ _) fun r26_ S27_ => (gd2 lf2))
    have t2 : dt2 (fun Q : Option Value → r_S → Prop => (rm_X12_failHere S (1 : Int32) (fun r28_ S29_ => ∃ x30_ : Int32, r28_ = some (.int x30_) ∧ (Q none S29_)))) := (b22 (drm_X12_failHere _ _) fun r28_ S29_ => (exi2 fun x30_ => lf2))
    have t3 : dt2 (fun Q : Option Value → r_S → Prop => (rm_X12_newThing S x1 (0 : Int32) (8 : Int32) (fun r31_ S32_ => ∃ x33_ : Int32, r31_ = some (.int x33_) ∧ (rm_X12_number S32_ (0 : Int32) (100 : Int32) (1 : Int32) (fun r35_ S36_ => ∃ x37_ : Int32, r35_ = some (.int x37_) ∧ (vp_in (((8 : Int32) * x1) + x33_) (r_N 2443) ∧ (rm_X12_sign (rs_A S36_ 2443 (((8 : Int32) * x1) + x33_).toNatClampNeg x37_) (58 : Int32) (fun r43_ S44_ => ∃ x45_ : Int32, r43_ = some (.int x45_) ∧ (vp_in (((8 : Int32) * x1) + x33_) (r_N 2443) ∧ (((r_A S44_ 2443 (((8 : Int32) * x1) + x33_).toNatClampNeg) ≤ (1 : Int32) → (rb_X12_readThing_167 S44_ (((8 : Int32) * x1) + x33_) (((8 : Int32) * x1) + x33_) (1 : Int32) Q)) ∧ (¬ (r_A S44_ 2443 (((8 : Int32) * x1) + x33_).toNatClampNeg) ≤ (1 : Int32) → (vp_in (((8 : Int32) * x1) + x33_) (r_N 2443) ∧ (rb_X12_readThing_167 S44_ (((8 : Int32) * x1) + x33_) (((8 : Int32) * x1) + x33_) (r_A S44_ 2443 (((8 : Int32) * x1) + x33_).toNatClampNeg) Q))))))))))))) := (b22 (drm_X12_newThing _ _ _ _) fun r31_ S32_ => (exi2 fun x33_ => (b22 (drm_X12_number _ _ _ _) fun r35_ S36_ => (exi2 fun x37_ => (gd2 (b22 (drm_X12_sign _ _) fun r43_ S44_ => (exi2 fun x45_ => (gd2 (if2 (drb_X12_readThing_167 _ _ _ _) (gd2 (drb_X12_readThing_167 _ _ _ _)))))))))))
    have t4 : dt2 (fun Q : Option Value → r_S → Prop => (rm_X12_newThing S x1 (1 : Int32) (8 : Int32) (fun r53_ S54_ => ∃ x55_ : Int32, r53_ = some (.int x55_) ∧ (rm_X12_sign S54_ (59 : Int32) (fun r57_ S58_ => ∃ x59_ : Int32, r57_ = some (.int x59_) ∧ (Q none S58_)))))) := (b22 (drm_X12_newThing _ _ _ _) fun r53_ S54_ => (exi2 fun x55_ => (b22 (drm_X12_sign _ _) fun r57_ S58_ => (exi2 fun x59_ => lf2))))
    have t5 : dt2 (fun Q : Option Value → r_S → Prop => (rm_X12_newThing S x1 (2 : Int32) (8 : Int32) (fun r60_ S61_ => ∃ x62_ : Int32, r60_ = some (.int x62_) ∧ (rm_X12_number S61_ (1 : Int32) (16 : Int32) (1 : Int32) (fun r64_ S65_ => ∃ x66_ : Int32, r64_ = some (.int x66_) ∧ (vp_in (((8 : Int32) * x1) + x62_) (r_N 2446) ∧ (rm_X12_isFifo (rs_A S65_ 2446 (((8 : Int32) * x1) + x62_).toNatClampNeg x66_) (fun r72_ S73_ => ∃ x74_ : Int32, r72_ = some (.int x74_) ∧ (vp_in (((8 : Int32) * x1) + x62_) (r_N 2447) ∧ (rm_X12_sign (rs_A S73_ 2447 (((8 : Int32) * x1) + x62_).toNatClampNeg (vp_nar .boolean x74_)) (59 : Int32) (fun r80_ S81_ => ∃ x82_ : Int32, r80_ = some (.int x82_) ∧ (Q none S81_)))))))))))) := (b22 (drm_X12_newThing _ _ _ _) fun r60_ S61_ => (exi2 fun x62_ => (b22 (drm_X12_number _ _ _ _) fun r64_ S65_ => (exi2 fun x66_ => (gd2 (b22 (drm_X12_isFifo _) fun r72_ S73_ => (exi2 fun x74_ => (gd2 (b22 (drm_X12_sign _ _) fun r80_ S81_ => (exi2 fun x82_ => lf2))))))))))
    have t6 : dt2 (fun Q : Option Value → r_S → Prop => (rm_X12_newThing S x1 (3 : Int32) (8 : Int32) (fun r83_ S84_ => ∃ x85_ : Int32, r83_ = some (.int x85_) ∧ (rm_X12_sign S84_ (59 : Int32) (fun r87_ S88_ => ∃ x89_ : Int32, r87_ = some (.int x89_) ∧ (Q none S88_)))))) := (b22 (drm_X12_newThing _ _ _ _) fun r83_ S84_ => (exi2 fun x85_ => (b22 (drm_X12_sign _ _) fun r87_ S88_ => (exi2 fun x89_ => lf2))))
    have t7 : dt2 (fun Q : Option Value → r_S → Prop => (rm_X12_newThing S x1 (4 : Int32) (16 : Int32) (fun r90_ S91_ => ∃ x92_ : Int32, r90_ = some (.int x92_) ∧ (rm_X12_either S91_ (21 : Int32) (22 : Int32) (fun r94_ S95_ => ∃ x96_ : Int32, r94_ = some (.int x96_) ∧ (vp_in (((16 : Int32) * x1) + x92_) (r_N 2448) ∧ (rm_X12_either (rs_A S95_ 2448 (((16 : Int32) * x1) + x92_).toNatClampNeg (vp_nar .boolean x96_)) (25 : Int32) (26 : Int32) (fun r102_ S103_ => ∃ x104_ : Int32, r102_ = some (.int x104_) ∧ (vp_in (((16 : Int32) * x1) + x92_) (r_N 2449) ∧ (vp_in (((16 : Int32) * x1) + x92_) (r_N 2450) ∧ (rm_X12_sign (rs_A (rs_A S103_ 2449 (((16 : Int32) * x1) + x92_).toNatClampNeg (vp_nar .boolean x104_)) 2450 (((16 : Int32) * x1) + x92_).toNatClampNeg (-1 : Int32)) (59 : Int32) (fun r114_ S115_ => ∃ x116_ : Int32, r114_ = some (.int x116_) ∧ (Q none S115_))))))))))))) := (b22 (drm_X12_newThing _ _ _ _) fun r90_ S91_ => (exi2 fun x92_ => (b22 (drm_X12_either _ _ _) fun r94_ S95_ => (exi2 fun x96_ => (gd2 (b22 (drm_X12_either _ _ _) fun r102_ S103_ => (exi2 fun x104_ => (gd2 (gd2 (b22 (drm_X12_sign _ _) fun r114_ S115_ => (exi2 fun x116_ => lf2)))))))))))
    have t8 : dt2 (fun Q : Option Value → r_S → Prop => (rm_X12_readErrors S x1 (fun r117_ S118_ => r117_ = none ∧ (Q none S118_)))) := (b22 (drm_X12_readErrors _ _) fun r117_ S118_ => (gd2 lf2))
    rcases ex with hc | hc | hc | hc | hc | hc | hc | hc | hc
    · obtain ⟨v, s, hp, hr⟩ := t0 P (h.1 hc)
      try simp only [e0, e1, e2, e3, e4, e5, e6, e7, e8, e9, e10, e11, e12, e13, e14, e15, e16] at hc
      exact ⟨v, s, hp, fun Q hq => ⟨fun _ => hr Q hq, fun h2 => absurd hc (by (try simp only [e0, e1, e2, e3, e4, e5, e6, e7, e8, e9, e10, e11, e12, e13, e14, e15, e16] at h2); omega), fun h2 => absurd hc (by (try simp only [e0, e1, e2, e3, e4, e5, e6, e7, e8, e9, e10, e11, e12, e13, e14, e15, e16] at h2); omega), fun h2 => absurd hc (by (try simp only [e0, e1, e2, e3, e4, e5, e6, e7, e8, e9, e10, e11, e12, e13, e14, e15, e16] at h2); omega), fun h2 => absurd hc (by (try simp only [e0, e1, e2, e3, e4, e5, e6, e7, e8, e9, e10, e11, e12, e13, e14, e15, e16] at h2); omega), fun h2 => absurd hc (by (try simp only [e0, e1, e2, e3, e4, e5, e6, e7, e8, e9, e10, e11, e12, e13, e14, e15, e16] at h2); omega), fun h2 => absurd hc (by (try simp only [e0, e1, e2, e3, e4, e5, e6, e7, e8, e9, e10, e11, e12, e13, e14, e15, e16] at h2); omega), fun h2 => absurd hc (by (try simp only [e0, e1, e2, e3, e4, e5, e6, e7, e8, e9, e10, e11, e12, e13, e14, e15, e16] at h2); omega), fun h2 => absurd hc (by (try simp only [e0, e1, e2, e3, e4, e5, e6, e7, e8, e9, e10, e11, e12, e13, e14, e15, e16] at h2); omega)⟩⟩
    · obtain ⟨v, s, hp, hr⟩ := t1 P (h.2.1 hc)
      try simp only [e0, e1, e2, e3, e4, e5, e6, e7, e8, e9, e10, e11, e12, e13, e14, e15, e16] at hc
      exact ⟨v, s, hp, fun Q hq => ⟨fun h2 => absurd hc (by (try simp only [e0, e1, e2, e3, e4, e5, e6, e7, e8, e9, e10, e11, e12, e13, e14, e15, e16] at h2); omega), fun _ => hr Q hq, fun h2 => absurd hc (by (try simp only [e0, e1, e2, e3, e4, e5, e6, e7, e8, e9, e10, e11, e12, e13, e14, e15, e16] at h2); omega), fun h2 => absurd hc (by (try simp only [e0, e1, e2, e3, e4, e5, e6, e7, e8, e9, e10, e11, e12, e13, e14, e15, e16] at h2); omega), fun h2 => absurd hc (by (try simp only [e0, e1, e2, e3, e4, e5, e6, e7, e8, e9, e10, e11, e12, e13, e14, e15, e16] at h2); omega), fun h2 => absurd hc (by (try simp only [e0, e1, e2, e3, e4, e5, e6, e7, e8, e9, e10, e11, e12, e13, e14, e15, e16] at h2); omega), fun h2 => absurd hc (by (try simp only [e0, e1, e2, e3, e4, e5, e6, e7, e8, e9, e10, e11, e12, e13, e14, e15, e16] at h2); omega), fun h2 => absurd hc (by (try simp only [e0, e1, e2, e3, e4, e5, e6, e7, e8, e9, e10, e11, e12, e13, e14, e15, e16] at h2); omega), fun h2 => absurd hc (by (try simp only [e0, e1, e2, e3, e4, e5, e6, e7, e8, e9, e10, e11, e12, e13, e14, e15, e16] at h2); omega)⟩⟩
    · obtain ⟨v, s, hp, hr⟩ := t2 P (h.2.2.1 hc)
      try simp only [e0, e1, e2, e3, e4, e5, e6, e7, e8, e9, e10, e11, e12, e13, e14, e15, e16] at hc
      exact ⟨v, s, hp, fun Q hq => ⟨fun h2 => absurd hc (by (try simp only [e0, e1, e2, e3, e4, e5, e6, e7, e8, e9, e10, e11, e12, e13, e14, e15, e16] at h2); omega), fun h2 => absurd hc (by (try simp only [e0, e1, e2, e3, e4, e5, e6, e7, e8, e9, e10, e11, e12, e13, e14, e15, e16] at h2); omega), fun _ => hr Q hq, fun h2 => absurd hc (by (try simp only [e0, e1, e2, e3, e4, e5, e6, e7, e8, e9, e10, e11, e12, e13, e14, e15, e16] at h2); omega), fun h2 => absurd hc (by (try simp only [e0, e1, e2, e3, e4, e5, e6, e7, e8, e9, e10, e11, e12, e13, e14, e15, e16] at h2); omega), fun h2 => absurd hc (by (try simp only [e0, e1, e2, e3, e4, e5, e6, e7, e8, e9, e10, e11, e12, e13, e14, e15, e16] at h2); omega), fun h2 => absurd hc (by (try simp only [e0, e1, e2, e3, e4, e5, e6, e7, e8, e9, e10, e11, e12, e13, e14, e15, e16] at h2); omega), fun h2 => absurd hc (by (try simp only [e0, e1, e2, e3, e4, e5, e6, e7, e8, e9, e10, e11, e12, e13, e14, e15, e16] at h2); omega), fun h2 => absurd hc (by (try simp only [e0, e1, e2, e3, e4, e5, e6, e7, e8, e9, e10, e11, e12, e13, e14, e15, e16] at h2); omega)⟩⟩
    · obtain ⟨v, s, hp, hr⟩ := t3 P (h.2.2.2.1 hc)
      try simp only [e0, e1, e2, e3, e4, e5, e6, e7, e8, e9, e10, e11, e12, e13, e14, e15, e16] at hc
      exact ⟨v, s, hp, fun Q hq => ⟨fun h2 => absurd hc (by (try simp only [e0, e1, e2, e3, e4, e5, e6, e7, e8, e9, e10, e11, e12, e13, e14, e15, e16] at h2); omega), fun h2 => absurd hc (by (try simp only [e0, e1, e2, e3, e4, e5, e6, e7, e8, e9, e10, e11, e12, e13, e14, e15, e16] at h2); omega), fun h2 => absurd hc (by (try simp only [e0, e1, e2, e3, e4, e5, e6, e7, e8, e9, e10, e11, e12, e13, e14, e15, e16] at h2); omega), fun _ => hr Q hq, fun h2 => absurd hc (by (try simp only [e0, e1, e2, e3, e4, e5, e6, e7, e8, e9, e10, e11, e12, e13, e14, e15, e16] at h2); omega), fun h2 => absurd hc (by (try simp only [e0, e1, e2, e3, e4, e5, e6, e7, e8, e9, e10, e11, e12, e13, e14, e15, e16] at h2); omega), fun h2 => absurd hc (by (try simp only [e0, e1, e2, e3, e4, e5, e6, e7, e8, e9, e10, e11, e12, e13, e14, e15, e16] at h2); omega), fun h2 => absurd hc (by (try simp only [e0, e1, e2, e3, e4, e5, e6, e7, e8, e9, e10, e11, e12, e13, e14, e15, e16] at h2); omega), fun h2 => absurd hc (by (try simp only [e0, e1, e2, e3, e4, e5, e6, e7, e8, e9, e10, e11, e12, e13, e14, e15, e16] at h2); omega)⟩⟩
    · obtain ⟨v, s, hp, hr⟩ := t4 P (h.2.2.2.2.1 hc)
      try simp only [e0, e1, e2, e3, e4, e5, e6, e7, e8, e9, e10, e11, e12, e13, e14, e15, e16] at hc
      exact ⟨v, s, hp, fun Q hq => ⟨fun h2 => absurd hc (by (try simp only [e0, e1, e2, e3, e4, e5, e6, e7, e8, e9, e10, e11, e12, e13, e14, e15, e16] at h2); omega), fun h2 => absurd hc (by (try simp only [e0, e1, e2, e3, e4, e5, e6, e7, e8, e9, e10, e11, e12, e13, e14, e15, e16] at h2); omega), fun h2 => absurd hc (by (try simp only [e0, e1, e2, e3, e4, e5, e6, e7, e8, e9, e10, e11, e12, e13, e14, e15, e16] at h2); omega), fun h2 => absurd hc (by (try simp only [e0, e1, e2, e3, e4, e5, e6, e7, e8, e9, e10, e11, e12, e13, e14, e15, e16] at h2); omega), fun _ => hr Q hq, fun h2 => absurd hc (by (try simp only [e0, e1, e2, e3, e4, e5, e6, e7, e8, e9, e10, e11, e12, e13, e14, e15, e16] at h2); omega), fun h2 => absurd hc (by (try simp only [e0, e1, e2, e3, e4, e5, e6, e7, e8, e9, e10, e11, e12, e13, e14, e15, e16] at h2); omega), fun h2 => absurd hc (by (try simp only [e0, e1, e2, e3, e4, e5, e6, e7, e8, e9, e10, e11, e12, e13, e14, e15, e16] at h2); omega), fun h2 => absurd hc (by (try simp only [e0, e1, e2, e3, e4, e5, e6, e7, e8, e9, e10, e11, e12, e13, e14, e15, e16] at h2); omega)⟩⟩
    · obtain ⟨v, s, hp, hr⟩ := t5 P (h.2.2.2.2.2.1 hc)
      try simp only [e0, e1, e2, e3, e4, e5, e6, e7, e8, e9, e10, e11, e12, e13, e14, e15, e16] at hc
      exact ⟨v, s, hp, fun Q hq => ⟨fun h2 => absurd hc (by (try simp only [e0, e1, e2, e3, e4, e5, e6, e7, e8, e9, e10, e11, e12, e13, e14, e15, e16] at h2); omega), fun h2 => absurd hc (by (try simp only [e0, e1, e2, e3, e4, e5, e6, e7, e8, e9, e10, e11, e12, e13, e14, e15, e16] at h2); omega), fun h2 => absurd hc (by (try simp only [e0, e1, e2, e3, e4, e5, e6, e7, e8, e9, e10, e11, e12, e13, e14, e15, e16] at h2); omega), fun h2 => absurd hc (by (try simp only [e0, e1, e2, e3, e4, e5, e6, e7, e8, e9, e10, e11, e12, e13, e14, e15, e16] at h2); omega), fun h2 => absurd hc (by (try simp only [e0, e1, e2, e3, e4, e5, e6, e7, e8, e9, e10, e11, e12, e13, e14, e15, e16] at h2); omega), fun _ => hr Q hq, fun h2 => absurd hc (by (try simp only [e0, e1, e2, e3, e4, e5, e6, e7, e8, e9, e10, e11, e12, e13, e14, e15, e16] at h2); omega), fun h2 => absurd hc (by (try simp only [e0, e1, e2, e3, e4, e5, e6, e7, e8, e9, e10, e11, e12, e13, e14, e15, e16] at h2); omega), fun h2 => absurd hc (by (try simp only [e0, e1, e2, e3, e4, e5, e6, e7, e8, e9, e10, e11, e12, e13, e14, e15, e16] at h2); omega)⟩⟩
    · obtain ⟨v, s, hp, hr⟩ := t6 P (h.2.2.2.2.2.2.1 hc)
      try simp only [e0, e1, e2, e3, e4, e5, e6, e7, e8, e9, e10, e11, e12, e13, e14, e15, e16] at hc
      exact ⟨v, s, hp, fun Q hq => ⟨fun h2 => absurd hc (by (try simp only [e0, e1, e2, e3, e4, e5, e6, e7, e8, e9, e10, e11, e12, e13, e14, e15, e16] at h2); omega), fun h2 => absurd hc (by (try simp only [e0, e1, e2, e3, e4, e5, e6, e7, e8, e9, e10, e11, e12, e13, e14, e15, e16] at h2); omega), fun h2 => absurd hc (by (try simp only [e0, e1, e2, e3, e4, e5, e6, e7, e8, e9, e10, e11, e12, e13, e14, e15, e16] at h2); omega), fun h2 => absurd hc (by (try simp only [e0, e1, e2, e3, e4, e5, e6, e7, e8, e9, e10, e11, e12, e13, e14, e15, e16] at h2); omega), fun h2 => absurd hc (by (try simp only [e0, e1, e2, e3, e4, e5, e6, e7, e8, e9, e10, e11, e12, e13, e14, e15, e16] at h2); omega), fun h2 => absurd hc (by (try simp only [e0, e1, e2, e3, e4, e5, e6, e7, e8, e9, e10, e11, e12, e13, e14, e15, e16] at h2); omega), fun _ => hr Q hq, fun h2 => absurd hc (by (try simp only [e0, e1, e2, e3, e4, e5, e6, e7, e8, e9, e10, e11, e12, e13, e14, e15, e16] at h2); omega), fun h2 => absurd hc (by (try simp only [e0, e1, e2, e3, e4, e5, e6, e7, e8, e9, e10, e11, e12, e13, e14, e15, e16] at h2); omega)⟩⟩
    · obtain ⟨v, s, hp, hr⟩ := t7 P (h.2.2.2.2.2.2.2.1 hc)
      try simp only [e0, e1, e2, e3, e4, e5, e6, e7, e8, e9, e10, e11, e12, e13, e14, e15, e16] at hc
      exact ⟨v, s, hp, fun Q hq => ⟨fun h2 => absurd hc (by (try simp only [e0, e1, e2, e3, e4, e5, e6, e7, e8, e9, e10, e11, e12, e13, e14, e15, e16] at h2); omega), fun h2 => absurd hc (by (try simp only [e0, e1, e2, e3, e4, e5, e6, e7, e8, e9, e10, e11, e12, e13, e14, e15, e16] at h2); omega), fun h2 => absurd hc (by (try simp only [e0, e1, e2, e3, e4, e5, e6, e7, e8, e9, e10, e11, e12, e13, e14, e15, e16] at h2); omega), fun h2 => absurd hc (by (try simp only [e0, e1, e2, e3, e4, e5, e6, e7, e8, e9, e10, e11, e12, e13, e14, e15, e16] at h2); omega), fun h2 => absurd hc (by (try simp only [e0, e1, e2, e3, e4, e5, e6, e7, e8, e9, e10, e11, e12, e13, e14, e15, e16] at h2); omega), fun h2 => absurd hc (by (try simp only [e0, e1, e2, e3, e4, e5, e6, e7, e8, e9, e10, e11, e12, e13, e14, e15, e16] at h2); omega), fun h2 => absurd hc (by (try simp only [e0, e1, e2, e3, e4, e5, e6, e7, e8, e9, e10, e11, e12, e13, e14, e15, e16] at h2); omega), fun _ => hr Q hq, fun h2 => absurd hc (by (try simp only [e0, e1, e2, e3, e4, e5, e6, e7, e8, e9, e10, e11, e12, e13, e14, e15, e16] at h2); omega)⟩⟩
    · obtain ⟨v, s, hp, hr⟩ := t8 P (h.2.2.2.2.2.2.2.2 hc)
      try simp only [e0, e1, e2, e3, e4, e5, e6, e7, e8, e9, e10, e11, e12, e13, e14, e15, e16] at hc
      exact ⟨v, s, hp, fun Q hq => ⟨fun h2 => absurd hc (by (try simp only [e0, e1, e2, e3, e4, e5, e6, e7, e8, e9, e10, e11, e12, e13, e14, e15, e16] at h2); omega), fun h2 => absurd hc (by (try simp only [e0, e1, e2, e3, e4, e5, e6, e7, e8, e9, e10, e11, e12, e13, e14, e15, e16] at h2); omega), fun h2 => absurd hc (by (try simp only [e0, e1, e2, e3, e4, e5, e6, e7, e8, e9, e10, e11, e12, e13, e14, e15, e16] at h2); omega), fun h2 => absurd hc (by (try simp only [e0, e1, e2, e3, e4, e5, e6, e7, e8, e9, e10, e11, e12, e13, e14, e15, e16] at h2); omega), fun h2 => absurd hc (by (try simp only [e0, e1, e2, e3, e4, e5, e6, e7, e8, e9, e10, e11, e12, e13, e14, e15, e16] at h2); omega), fun h2 => absurd hc (by (try simp only [e0, e1, e2, e3, e4, e5, e6, e7, e8, e9, e10, e11, e12, e13, e14, e15, e16] at h2); omega), fun h2 => absurd hc (by (try simp only [e0, e1, e2, e3, e4, e5, e6, e7, e8, e9, e10, e11, e12, e13, e14, e15, e16] at h2); omega), fun h2 => absurd hc (by (try simp only [e0, e1, e2, e3, e4, e5, e6, e7, e8, e9, e10, e11, e12, e13, e14, e15, e16] at h2); omega), fun _ => hr Q hq⟩⟩) (b22 (drm_X12_failHere _ _) fun r121_ S122_ => (exi2 fun x123_ => lf2)))
set_option maxRecDepth 100000 in
set_option maxHeartbeats 4000000 in
theorem drb_X12_readPartition_210 (S : r_S) : dt2 (fun Q => rb_X12_readPartition_210   S Q) := by
  unfold rb_X12_readPartition_210
  exact (b22 (drm_X12_sign _ _) fun r2_ S3_ => (exi2 fun x4_ => lf2))
set_option maxRecDepth 100000 in
set_option maxHeartbeats 4000000 in
theorem drb_X12_readPartition_174 (S : r_S) (x1 : Int32) : dt2 (fun Q => rb_X12_readPartition_174   S x1 Q) := by
  unfold rb_X12_readPartition_174
  exact (ifn2 (drb_X12_readPartition_210 _) (if2 (drb_X12_readPartition_210 _) (gd2 (ifn2 (drb_X12_readPartition_210 _) (b22 (drm_X12_fail _ _ _) fun r13_ S14_ => (exi2 fun x15_ => (drb_X12_readPartition_210 _)))))))
set_option maxRecDepth 100000 in
set_option maxHeartbeats 4000000 in
theorem drb_X12_readPartition_150 {B150 : (Option Value → r_S → Prop) → r_S → Int32 → Prop} (hB150 : ∀ y0 y1, dt2 (fun Q => B150 Q y0 y1)) (S : r_S) (x1 : Int32) : dt2 (fun Q => rb_X12_readPartition_150  (B150 Q) S x1 Q) := by
  unfold rb_X12_readPartition_150
  exact (ifn2 (drb_X12_readPartition_174 _ _) (b22 (drm_X12_isSign _ _) fun r18_ S19_ => (exi2 fun x20_ => (ifn2 (drb_X12_readPartition_174 _ _) (b22 (drm_X12_readThing _ _) fun r23_ S24_ => (gd2 (hB150 _ _)))))))
theorem drl_X12_readPartition_150 (n : Nat) (S : r_S) (x1 : Int32) : dt2 (fun Q => rl_X12_readPartition_150   n S x1 Q) := by
  induction n generalizing S x1 with
  | zero => exact fa2
  | succ n ih => exact drb_X12_readPartition_150 (B150 := fun Q y0 y1 => rl_X12_readPartition_150   n y0 y1 Q) (fun y0 y1 => ih y0 y1) _ _
set_option maxRecDepth 100000 in
set_option maxHeartbeats 4000000 in
theorem drm_X12_readPartition (S : r_S) : dt2 (fun Q => rm_X12_readPartition   S Q) := by
  unfold rm_X12_readPartition
  exact (b22 (drm_X12_next _) fun r26_ S27_ => (gd2 (ifn2 (if2 (b22 (drm_X12_partitionNamed _) fun r31_ S32_ => (exi2 fun x33_ => (if2 (b22 (drm_X12_keep _) fun r36_ S37_ => (exi2 fun x38_ => (gd2 (gd2 (al2 fun S48_ => (b22 (drm_X12_next _) fun r49_ S50_ => (gd2 (b22 (drm_X12_sign _ _) fun r52_ S53_ => (exi2 fun x54_ => (b22 (drm_X12_key _ _) fun r56_ S57_ => (exi2 fun x58_ => (b22 (drm_X12_number _ _ _ _) fun r60_ S61_ => (exi2 fun x62_ => (gd2 (b22 (drm_X12_sign _ _) fun r68_ S69_ => (exi2 fun x70_ => (if2 (b22 (drm_X12_readRegions _ _) fun r73_ S74_ => (gd2 (exn2 fun n76_ => (drl_X12_readPartition_150 _ _ _)))) lf2))))))))))))))))) (b22 (drm_X12_fail _ _ _) fun r78_ S79_ => (exi2 fun x80_ => lf2))))) (b22 (drm_X12_failHere _ _) fun r81_ S82_ => (exi2 fun x83_ => lf2))) (b22 (drm_X12_failHere _ _) fun r84_ S85_ => (exi2 fun x86_ => lf2)))))
set_option maxRecDepth 100000 in
set_option maxHeartbeats 4000000 in
theorem drb_X12_end_126 (S : r_S) : dt2 (fun Q => rb_X12_end_126   S Q) := by
  unfold rb_X12_end_126
  exact (b22 (drm_X12_fail _ _ _) fun r2_ S3_ => (exi2 fun x4_ => lf2))
set_option maxRecDepth 100000 in
set_option maxHeartbeats 4000000 in
theorem drb_X12_end_192 (S : r_S) : dt2 (fun Q => rb_X12_end_192   S Q) := by
  unfold rb_X12_end_192
  exact (b22 (drm_X12_fail _ _ _) fun r6_ S7_ => (exi2 fun x8_ => lf2))
set_option maxRecDepth 100000 in
set_option maxHeartbeats 4000000 in
theorem drm_X12_end (S : r_S) (x1 : Int32) (x2 : Int32) (x3 : Int32) : dt2 (fun Q => rm_X12_end   S x1 x2 x3 Q) := by
  unfold rm_X12_end
  exact (if2 (b22 (drm_X12_isKey _ _) fun r11_ S12_ => (exi2 fun x13_ => (if2 (if2 (b22 (drm_X12_partitionNamed _) fun r17_ S18_ => (exi2 fun x19_ => (ifn2 (b22 (drm_X12_next _) fun r22_ S23_ => (gd2 (b22 (drm_X12_sign _ _) fun r25_ S26_ => (exi2 fun x27_ => (if2 (if2 (b22 (drm_X12_thingNamed _ _) fun r31_ S32_ => (exi2 fun x33_ => (if2 (drb_X12_end_126 _) (gd2 (if2 (gd2 (gd2 (ifn2 (drb_X12_end_192 _) (gd2 (gd2 (ifn2 (drb_X12_end_192 _) (gd2 (if2 (gd2 (b22 (drm_X12_next _) fun r65_ S66_ => (gd2 lf2))) (drb_X12_end_192 _))))))))) (drb_X12_end_126 _)))))) (b22 (drm_X12_failHere _ _) fun r67_ S68_ => (exi2 fun x69_ => lf2))) lf2))))) (b22 (drm_X12_fail _ _ _) fun r71_ S72_ => (exi2 fun x73_ => lf2))))) (b22 (drm_X12_failHere _ _) fun r74_ S75_ => (exi2 fun x76_ => lf2))) (b22 (drm_X12_next _) fun r78_ S79_ => (gd2 lf2))))) lf2)
set_option maxRecDepth 100000 in
set_option maxHeartbeats 4000000 in
theorem drb_X12_readChannel_301 {B203 : (Option Value → r_S → Prop) → r_S → Int32 → Int32 → Int32 → Prop} (hB203 : ∀ y0 y1 y2 y3, dt2 (fun Q => B203 Q y0 y1 y2 y3)) (S : r_S) (x1 : Int32) (x2 : Int32) (xs0 : Int32) : dt2 (fun Q => rb_X12_readChannel_301  (B203 Q) S x1 x2 xs0 Q) := by
  unfold rb_X12_readChannel_301
  exact (ifn2 (b22 (drm_X12_next _) fun r3_ S4_ => (gd2 (gd2 (ifn2 (hB203 _ _ _ _) (b22 (drm_X12_failHere _ _) fun r11_ S12_ => (exi2 fun x13_ => lf2)))))) (hB203 _ _ _ _))
set_option maxRecDepth 100000 in
set_option maxHeartbeats 4000000 in
theorem drb_X12_readChannel_300 {B203 : (Option Value → r_S → Prop) → r_S → Int32 → Int32 → Int32 → Prop} (hB203 : ∀ y0 y1 y2 y3, dt2 (fun Q => B203 Q y0 y1 y2 y3)) (S : r_S) (x1 : Int32) (x2 : Int32) : dt2 (fun Q => rb_X12_readChannel_300  (B203 Q) S x1 x2 Q) := by
  unfold rb_X12_readChannel_300
  exact (drb_X12_readChannel_301 hB203 _ _ _ _)
set_option maxRecDepth 100000 in
set_option maxHeartbeats 4000000 in
theorem drb_X12_readChannel_267 {B203 : (Option Value → r_S → Prop) → r_S → Int32 → Int32 → Int32 → Prop} (hB203 : ∀ y0 y1 y2 y3, dt2 (fun Q => B203 Q y0 y1 y2 y3)) (S : r_S) (x1 : Int32) (xs0 : Int32) : dt2 (fun Q => rb_X12_readChannel_267  (B203 Q) S x1 xs0 Q) := by
  unfold rb_X12_readChannel_267
  exact (gd2 (gd2 (gd2 (ifn2 (drb_X12_readChannel_300 hB203 _ _ _) (b22 (drm_X12_isSign _ _) fun r25_ S26_ => (exi2 fun x27_ => (if2 (drb_X12_readChannel_300 hB203 _ _ _) (drb_X12_readChannel_301 hB203 _ _ _ _))))))))
set_option maxRecDepth 100000 in
set_option maxHeartbeats 4000000 in
theorem drb_X12_readChannel_262 {B203 : (Option Value → r_S → Prop) → r_S → Int32 → Int32 → Int32 → Prop} (hB203 : ∀ y0 y1 y2 y3, dt2 (fun Q => B203 Q y0 y1 y2 y3)) (S : r_S) (x1 : Int32) : dt2 (fun Q => rb_X12_readChannel_262  (B203 Q) S x1 Q) := by
  unfold rb_X12_readChannel_262
  exact (drb_X12_readChannel_267 hB203 _ _ _)
set_option maxRecDepth 100000 in
set_option maxHeartbeats 4000000 in
theorem drb_X12_readChannel_344 (S : r_S) (xs1 : Int32) (xs2 : Int32) : dt2 (fun Q => rb_X12_readChannel_344   S xs1 xs2 Q) := by
  unfold rb_X12_readChannel_344
  exact (b22 (drm_X12_sign _ _) fun r31_ S32_ => (exi2 fun x33_ => lf2))
set_option maxRecDepth 100000 in
set_option maxHeartbeats 4000000 in
theorem drb_X12_readChannel_203 {B203 : (Option Value → r_S → Prop) → r_S → Int32 → Int32 → Int32 → Prop} (hB203 : ∀ y0 y1 y2 y3, dt2 (fun Q => B203 Q y0 y1 y2 y3)) (S : r_S) (x1 : Int32) (x2 : Int32) (x3 : Int32) : dt2 (fun Q => rb_X12_readChannel_203  (B203 Q) S x1 x2 x3 Q) := by
  unfold rb_X12_readChannel_203
  exact (if2 (if2 (drb_X12_readChannel_344 _ _ _) (drb_X12_readChannel_344 _ _ _)) (gd2 (b22 (drm_X12_end _ _ _ _) fun r42_ S43_ => (exi2 fun x44_ => (gd2 (if2 (ifn2 (drb_X12_readChannel_262 hB203 _ _) (gd2 (gd2 (ifn2 (drb_X12_readChannel_267 hB203 _ _ _) (drb_X12_readChannel_262 hB203 _ _))))) lf2))))))
theorem drl_X12_readChannel_203 (n : Nat) (S : r_S) (x1 : Int32) (x2 : Int32) (x3 : Int32) : dt2 (fun Q => rl_X12_readChannel_203   n S x1 x2 x3 Q) := by
  induction n generalizing S x1 x2 x3 with
  | zero => exact fa2
  | succ n ih => exact drb_X12_readChannel_203 (B203 := fun Q y0 y1 y2 y3 => rl_X12_readChannel_203   n y0 y1 y2 y3 Q) (fun y0 y1 y2 y3 => ih y0 y1 y2 y3) _ _ _ _
set_option maxRecDepth 100000 in
set_option maxHeartbeats 4000000 in
theorem drb_X12_readChannel_202 (S : r_S) (x1 : Int32) (x2 : Int32) (xs0 : Int32) : dt2 (fun Q => rb_X12_readChannel_202   S x1 x2 xs0 Q) := by
  unfold rb_X12_readChannel_202
  exact (exn2 fun n61_ => (drl_X12_readChannel_203 _ _ _ _ _))
set_option maxRecDepth 100000 in
set_option maxHeartbeats 4000000 in
theorem drb_X12_readChannel_181 (S : r_S) (x1 : Int32) : dt2 (fun Q => rb_X12_readChannel_181   S x1 Q) := by
  unfold rb_X12_readChannel_181
  exact (b22 (drm_X12_sign _ _) fun r63_ S64_ => (exi2 fun x65_ => (ifn2 (drb_X12_readChannel_202 _ _ _ _) (drb_X12_readChannel_202 _ _ _ _))))
set_option maxRecDepth 100000 in
set_option maxHeartbeats 4000000 in
theorem drb_X12_readChannel_114 (S : r_S) (x1 : Int32) (xs1 : Int32) (xs2 : Int32) : dt2 (fun Q => rb_X12_readChannel_114   S x1 xs1 xs2 Q) := by
  unfold rb_X12_readChannel_114
  exact (gd2 (gd2 (b22 (drm_X12_sign _ _) fun r77_ S78_ => (exi2 fun x79_ => (b22 (drm_X12_end _ _ _ _) fun r81_ S82_ => (exi2 fun x83_ => (gd2 (ifn2 (drb_X12_readChannel_181 _ _) (gd2 (ifn2 (drb_X12_readChannel_181 _ _) (gd2 (al2 fun S99_ => (drb_X12_readChannel_181 _ _)))))))))))))
set_option maxRecDepth 100000 in
set_option maxHeartbeats 4000000 in
theorem drb_X12_readChannel_113 (S : r_S) (x1 : Int32) (xs1 : Int32) : dt2 (fun Q => rb_X12_readChannel_113   S x1 xs1 Q) := by
  unfold rb_X12_readChannel_113
  exact (drb_X12_readChannel_114 _ _ _ _)
set_option maxRecDepth 100000 in
set_option maxHeartbeats 4000000 in
theorem drb_X12_readChannel_87 (S : r_S) (x1 : Int32) (xs1 : Int32) (xs2 : Int32) : dt2 (fun Q => rb_X12_readChannel_87   S x1 xs1 xs2 Q) := by
  unfold rb_X12_readChannel_87
  exact (gd2 (gd2 (if2 (drb_X12_readChannel_113 _ _ _) (b22 (drm_X12_isFifo _) fun r110_ S111_ => (exi2 fun x112_ => (if2 (drb_X12_readChannel_113 _ _ _) (drb_X12_readChannel_114 _ _ _ _)))))))
set_option maxRecDepth 100000 in
set_option maxHeartbeats 4000000 in
theorem drm_X12_readChannel (S : r_S) : dt2 (fun Q => rm_X12_readChannel   S Q) := by
  unfold rm_X12_readChannel
  exact (ifn2 (b22 (drm_X12_next _) fun r116_ S117_ => (gd2 (b22 (drm_X12_either _ _ _) fun r119_ S120_ => (exi2 fun x121_ => (gd2 (gd2 (if2 (b22 (drm_X12_number _ _ _ _) fun r132_ S133_ => (exi2 fun x134_ => (drb_X12_readChannel_87 _ _ _ _))) (b22 (drm_X12_number _ _ _ _) fun r135_ S136_ => (exi2 fun x137_ => (drb_X12_readChannel_87 _ _ _ _)))))))))) (b22 (drm_X12_fail _ _ _) fun r138_ S139_ => (exi2 fun x140_ => lf2)))
set_option maxRecDepth 100000 in
set_option maxHeartbeats 4000000 in
theorem drb_X12_readFrame_37 {B14 : (Option Value → r_S → Prop) → r_S → Prop} (hB14 : ∀ y0, dt2 (fun Q => B14 Q y0)) (S : r_S) : dt2 (fun Q => rb_X12_readFrame_37  (B14 Q) S Q) := by
  unfold rb_X12_readFrame_37
  exact (ifn2 (if2 (b22 (drm_X12_partitionNamed _) fun r4_ S5_ => (exi2 fun x6_ => (ifn2 (gd2 (b22 (drm_X12_next _) fun r13_ S14_ => (gd2 (b22 (drm_X12_number _ _ _ _) fun r16_ S17_ => (exi2 fun x18_ => (gd2 (gd2 (al2 fun S28_ => (b22 (drm_X12_sign _ _) fun r29_ S30_ => (exi2 fun x31_ => (hB14 _))))))))))) (b22 (drm_X12_fail _ _ _) fun r33_ S34_ => (exi2 fun x35_ => lf2))))) (b22 (drm_X12_failHere _ _) fun r36_ S37_ => (exi2 fun x38_ => lf2))) (b22 (drm_X12_failHere _ _) fun r39_ S40_ => (exi2 fun x41_ => lf2)))
set_option maxRecDepth 100000 in
set_option maxHeartbeats 4000000 in
theorem drb_X12_readFrame_187 (S : r_S) : dt2 (fun Q => rb_X12_readFrame_187   S Q) := by
  unfold rb_X12_readFrame_187
  exact lf2
set_option maxRecDepth 100000 in
set_option maxHeartbeats 4000000 in
theorem drb_X12_readFrame_160 (S : r_S) : dt2 (fun Q => rb_X12_readFrame_160   S Q) := by
  unfold rb_X12_readFrame_160
  exact (b22 (drm_X12_sign _ _) fun r43_ S44_ => (exi2 fun x45_ => (ifn2 (drb_X12_readFrame_187 _) (if2 (drb_X12_readFrame_187 _) (b22 (drm_X12_failHere _ _) fun r49_ S50_ => (exi2 fun x51_ => (drb_X12_readFrame_187 _)))))))
set_option maxRecDepth 100000 in
set_option maxHeartbeats 4000000 in
theorem drb_X12_readFrame_14 {B14 : (Option Value → r_S → Prop) → r_S → Prop} (hB14 : ∀ y0, dt2 (fun Q => B14 Q y0)) (S : r_S) : dt2 (fun Q => rb_X12_readFrame_14  (B14 Q) S Q) := by
  unfold rb_X12_readFrame_14
  exact (ifn2 (drb_X12_readFrame_160 _) (if2 (drb_X12_readFrame_37 hB14 _) (b22 (drm_X12_isSign _ _) fun r55_ S56_ => (exi2 fun x57_ => (ifn2 (drb_X12_readFrame_160 _) (drb_X12_readFrame_37 hB14 _))))))
theorem drl_X12_readFrame_14 (n : Nat) (S : r_S) : dt2 (fun Q => rl_X12_readFrame_14   n S Q) := by
  induction n generalizing S with
  | zero => exact fa2
  | succ n ih => exact drb_X12_readFrame_14 (B14 := fun Q y0 => rl_X12_readFrame_14   n y0 Q) (fun y0 => ih y0) _
set_option maxRecDepth 100000 in
set_option maxHeartbeats 4000000 in
theorem drm_X12_readFrame (S : r_S) : dt2 (fun Q => rm_X12_readFrame   S Q) := by
  unfold rm_X12_readFrame
  exact (b22 (drm_X12_key _ _) fun r60_ S61_ => (exi2 fun x62_ => (b22 (drm_X12_sign _ _) fun r64_ S65_ => (exi2 fun x66_ => (exn2 fun n67_ => (drl_X12_readFrame_14 _ _))))))
set_option maxRecDepth 100000 in
set_option maxHeartbeats 4000000 in
theorem drb_X12_feed_61 {B8 : (Option Value → r_S → Prop) → r_S → Int32 → Int32 → Int32 → Int32 → Int32 → Int32 → Prop} (hB8 : ∀ y0 y1 y2 y3 y4 y5 y6, dt2 (fun Q => B8 Q y0 y1 y2 y3 y4 y5 y6)) (S : r_S) (x1 : Int32) (x2 : Int32) (x3 : Int32) (x4 : Int32) (x5 : Int32) (x6 : Int32) (xs0 : Int32) : dt2 (fun Q => rb_X12_feed_61  (B8 Q) S x1 x2 x3 x4 x5 x6 xs0 Q) := by
  unfold rb_X12_feed_61
  exact (gd2 (hB8 _ _ _ _ _ _ _))
set_option maxRecDepth 100000 in
set_option maxHeartbeats 4000000 in
theorem drb_X12_feed_8 {B8 : (Option Value → r_S → Prop) → r_S → Int32 → Int32 → Int32 → Int32 → Int32 → Int32 → Prop} (hB8 : ∀ y0 y1 y2 y3 y4 y5 y6, dt2 (fun Q => B8 Q y0 y1 y2 y3 y4 y5 y6)) (S : r_S) (x1 : Int32) (x2 : Int32) (x3 : Int32) (x4 : Int32) (x5 : Int32) (x6 : Int32) : dt2 (fun Q => rb_X12_feed_8  (B8 Q) S x1 x2 x3 x4 x5 x6 Q) := by
  unfold rb_X12_feed_8
  exact (if2 lf2 (if2 (if2 (if2 (if2 (drb_X12_feed_61 hB8 _ _ _ _ _ _ _ _) (drb_X12_feed_61 hB8 _ _ _ _ _ _ _ _)) (drb_X12_feed_61 hB8 _ _ _ _ _ _ _ _)) (drb_X12_feed_61 hB8 _ _ _ _ _ _ _ _)) (drb_X12_feed_61 hB8 _ _ _ _ _ _ _ _)))
theorem drl_X12_feed_8 (n : Nat) (S : r_S) (x1 : Int32) (x2 : Int32) (x3 : Int32) (x4 : Int32) (x5 : Int32) (x6 : Int32) : dt2 (fun Q => rl_X12_feed_8   n S x1 x2 x3 x4 x5 x6 Q) := by
  induction n generalizing S x1 x2 x3 x4 x5 x6 with
  | zero => exact fa2
  | succ n ih => exact drb_X12_feed_8 (B8 := fun Q y0 y1 y2 y3 y4 y5 y6 => rl_X12_feed_8   n y0 y1 y2 y3 y4 y5 y6 Q) (fun y0 y1 y2 y3 y4 y5 y6 => ih y0 y1 y2 y3 y4 y5 y6) _ _ _ _ _ _ _
set_option maxRecDepth 100000 in
set_option maxHeartbeats 4000000 in
theorem drm_X12_feed (S : r_S) (x1 : Int32) (x2 : Int32) (x3 : Int32) (x4 : Int32) (x5 : Int32) : dt2 (fun Q => rm_X12_feed   S x1 x2 x3 x4 x5 Q) := by
  unfold rm_X12_feed
  exact (exn2 fun n12_ => (drl_X12_feed_8 _ _ _ _ _ _ _ _))
set_option maxRecDepth 100000 in
set_option maxHeartbeats 4000000 in
theorem drb_X12_end__27 (S : r_S) : dt2 (fun Q => rb_X12_end__27   S Q) := by
  unfold rb_X12_end__27
  exact lf2
set_option maxRecDepth 100000 in
set_option maxHeartbeats 4000000 in
theorem drb_X12_end__71 {B71 : (Option Value → r_S → Prop) → r_S → Int32 → Prop} (hB71 : ∀ y0 y1, dt2 (fun Q => B71 Q y0 y1)) (S : r_S) (x2 : Int32) : dt2 (fun Q => rb_X12_end__71  (B71 Q) S x2 Q) := by
  unfold rb_X12_end__71
  exact (if2 lf2 (gd2 (hB71 _ _)))
theorem drl_X12_end__71 (n : Nat) (S : r_S) (x2 : Int32) : dt2 (fun Q => rl_X12_end__71   n S x2 Q) := by
  induction n generalizing S x2 with
  | zero => exact fa2
  | succ n ih => exact drb_X12_end__71 (B71 := fun Q y0 y1 => rl_X12_end__71   n y0 y1 Q) (fun y0 y1 => ih y0 y1) _ _
set_option maxRecDepth 100000 in
set_option maxHeartbeats 4000000 in
theorem drb_X12_end__31 {B31 : (Option Value → r_S → Prop) → r_S → Int32 → Int32 → Prop} (hB31 : ∀ y0 y1 y2, dt2 (fun Q => B31 Q y0 y1 y2)) (S : r_S) (x1 : Int32) (x2 : Int32) : dt2 (fun Q => rb_X12_end__31  (B31 Q) S x1 x2 Q) := by
  unfold rb_X12_end__31
  exact (if2 (exn2 fun n10_ => (drl_X12_end__71 _ _ _)) (gd2 (gd2 (hB31 _ _ _))))
theorem drl_X12_end__31 (n : Nat) (S : r_S) (x1 : Int32) (x2 : Int32) : dt2 (fun Q => rl_X12_end__31   n S x1 x2 Q) := by
  induction n generalizing S x1 x2 with
  | zero => exact fa2
  | succ n ih => exact drb_X12_end__31 (B31 := fun Q y0 y1 y2 => rl_X12_end__31   n y0 y1 y2 Q) (fun y0 y1 y2 => ih y0 y1 y2) _ _ _
set_option maxRecDepth 100000 in
set_option maxHeartbeats 4000000 in
theorem drm_X12_end_ (S : r_S) (x1 : Int32) : dt2 (fun Q => rm_X12_end_   S x1 Q) := by
  unfold rm_X12_end_
  exact (if2 (drb_X12_end__27 _) (if2 (drb_X12_end__27 _) (if2 (exn2 fun n24_ => (drl_X12_end__31 _ _ _ _)) (drb_X12_end__27 _))))
set_option maxRecDepth 100000 in
set_option maxHeartbeats 4000000 in
theorem drb_X12_forget_317 {B317 : (Option Value → r_S → Prop) → r_S → Int32 → Prop} (hB317 : ∀ y0 y1, dt2 (fun Q => B317 Q y0 y1)) (S : r_S) (x1 : Int32) : dt2 (fun Q => rb_X12_forget_317  (B317 Q) S x1 Q) := by
  unfold rb_X12_forget_317
  exact (if2 lf2 (gd2 (gd2 (gd2 (al2 fun S15_ => (gd2 (gd2 (hB317 _ _))))))))
theorem drl_X12_forget_317 (n : Nat) (S : r_S) (x1 : Int32) : dt2 (fun Q => rl_X12_forget_317   n S x1 Q) := by
  induction n generalizing S x1 with
  | zero => exact fa2
  | succ n ih => exact drb_X12_forget_317 (B317 := fun Q y0 y1 => rl_X12_forget_317   n y0 y1 Q) (fun y0 y1 => ih y0 y1) _ _
set_option maxRecDepth 100000 in
set_option maxHeartbeats 4000000 in
theorem drb_X12_forget_246 {B246 : (Option Value → r_S → Prop) → r_S → Int32 → Prop} (hB246 : ∀ y0 y1, dt2 (fun Q => B246 Q y0 y1)) (S : r_S) (x1 : Int32) : dt2 (fun Q => rb_X12_forget_246  (B246 Q) S x1 Q) := by
  unfold rb_X12_forget_246
  exact (if2 (exn2 fun n25_ => (drl_X12_forget_317 _ _ _)) (gd2 (gd2 (gd2 (al2 fun S39_ => (gd2 (gd2 (gd2 (al2 fun S52_ => (gd2 (gd2 (hB246 _ _))))))))))))
theorem drl_X12_forget_246 (n : Nat) (S : r_S) (x1 : Int32) : dt2 (fun Q => rl_X12_forget_246   n S x1 Q) := by
  induction n generalizing S x1 with
  | zero => exact fa2
  | succ n ih => exact drb_X12_forget_246 (B246 := fun Q y0 y1 => rl_X12_forget_246   n y0 y1 Q) (fun y0 y1 => ih y0 y1) _ _
set_option maxRecDepth 100000 in
set_option maxHeartbeats 4000000 in
theorem drb_X12_forget_225 {B225 : (Option Value → r_S → Prop) → r_S → Int32 → Prop} (hB225 : ∀ y0 y1, dt2 (fun Q => B225 Q y0 y1)) (S : r_S) (x1 : Int32) : dt2 (fun Q => rb_X12_forget_225  (B225 Q) S x1 Q) := by
  unfold rb_X12_forget_225
  exact (if2 (exn2 fun n62_ => (drl_X12_forget_246 _ _ _)) (gd2 (hB225 _ _)))
theorem drl_X12_forget_225 (n : Nat) (S : r_S) (x1 : Int32) : dt2 (fun Q => rl_X12_forget_225   n S x1 Q) := by
  induction n generalizing S x1 with
  | zero => exact fa2
  | succ n ih => exact drb_X12_forget_225 (B225 := fun Q y0 y1 => rl_X12_forget_225   n y0 y1 Q) (fun y0 y1 => ih y0 y1) _ _
set_option maxRecDepth 100000 in
set_option maxHeartbeats 4000000 in
theorem drb_X12_forget_204 {B204 : (Option Value → r_S → Prop) → r_S → Int32 → Prop} (hB204 : ∀ y0 y1, dt2 (fun Q => B204 Q y0 y1)) (S : r_S) (x1 : Int32) : dt2 (fun Q => rb_X12_forget_204  (B204 Q) S x1 Q) := by
  unfold rb_X12_forget_204
  exact (if2 (exn2 fun n69_ => (drl_X12_forget_225 _ _ _)) (gd2 (hB204 _ _)))
theorem drl_X12_forget_204 (n : Nat) (S : r_S) (x1 : Int32) : dt2 (fun Q => rl_X12_forget_204   n S x1 Q) := by
  induction n generalizing S x1 with
  | zero => exact fa2
  | succ n ih => exact drb_X12_forget_204 (B204 := fun Q y0 y1 => rl_X12_forget_204   n y0 y1 Q) (fun y0 y1 => ih y0 y1) _ _
set_option maxRecDepth 100000 in
set_option maxHeartbeats 4000000 in
theorem drb_X12_forget_120 {B120 : (Option Value → r_S → Prop) → r_S → Int32 → Prop} (hB120 : ∀ y0 y1, dt2 (fun Q => B120 Q y0 y1)) (S : r_S) (x1 : Int32) : dt2 (fun Q => rb_X12_forget_120  (B120 Q) S x1 Q) := by
  unfold rb_X12_forget_120
  exact (if2 (exn2 fun n76_ => (drl_X12_forget_204 _ _ _)) (gd2 (gd2 (gd2 (al2 fun S90_ => (gd2 (gd2 (gd2 (al2 fun S103_ => (gd2 (gd2 (gd2 (al2 fun S116_ => (gd2 (hB120 _ _)))))))))))))))
theorem drl_X12_forget_120 (n : Nat) (S : r_S) (x1 : Int32) : dt2 (fun Q => rl_X12_forget_120   n S x1 Q) := by
  induction n generalizing S x1 with
  | zero => exact fa2
  | succ n ih => exact drb_X12_forget_120 (B120 := fun Q y0 y1 => rl_X12_forget_120   n y0 y1 Q) (fun y0 y1 => ih y0 y1) _ _
set_option maxRecDepth 100000 in
set_option maxHeartbeats 4000000 in
theorem drb_X12_forget_98 {B98 : (Option Value → r_S → Prop) → r_S → Int32 → Prop} (hB98 : ∀ y0 y1, dt2 (fun Q => B98 Q y0 y1)) (S : r_S) (x1 : Int32) : dt2 (fun Q => rb_X12_forget_98  (B98 Q) S x1 Q) := by
  unfold rb_X12_forget_98
  exact (if2 (exn2 fun n122_ => (drl_X12_forget_120 _ _ _)) (gd2 (hB98 _ _)))
theorem drl_X12_forget_98 (n : Nat) (S : r_S) (x1 : Int32) : dt2 (fun Q => rl_X12_forget_98   n S x1 Q) := by
  induction n generalizing S x1 with
  | zero => exact fa2
  | succ n ih => exact drb_X12_forget_98 (B98 := fun Q y0 y1 => rl_X12_forget_98   n y0 y1 Q) (fun y0 y1 => ih y0 y1) _ _
set_option maxRecDepth 100000 in
set_option maxHeartbeats 4000000 in
theorem drb_X12_forget_77 {B77 : (Option Value → r_S → Prop) → r_S → Int32 → Prop} (hB77 : ∀ y0 y1, dt2 (fun Q => B77 Q y0 y1)) (S : r_S) (x1 : Int32) : dt2 (fun Q => rb_X12_forget_77  (B77 Q) S x1 Q) := by
  unfold rb_X12_forget_77
  exact (if2 (exn2 fun n129_ => (drl_X12_forget_98 _ _ _)) (gd2 (hB77 _ _)))
theorem drl_X12_forget_77 (n : Nat) (S : r_S) (x1 : Int32) : dt2 (fun Q => rl_X12_forget_77   n S x1 Q) := by
  induction n generalizing S x1 with
  | zero => exact fa2
  | succ n ih => exact drb_X12_forget_77 (B77 := fun Q y0 y1 => rl_X12_forget_77   n y0 y1 Q) (fun y0 y1 => ih y0 y1) _ _
set_option maxRecDepth 100000 in
set_option maxHeartbeats 4000000 in
theorem drm_X12_forget (S : r_S) : dt2 (fun Q => rm_X12_forget   S Q) := by
  unfold rm_X12_forget
  exact (al2 fun S136_ => (al2 fun S137_ => (al2 fun S138_ => (al2 fun S139_ => (al2 fun S140_ => (exn2 fun n141_ => (drl_X12_forget_77 _ _ _)))))))
set_option maxRecDepth 100000 in
set_option maxHeartbeats 4000000 in
theorem drb_X12_things_49 {B5 : (Option Value → r_S → Prop) → r_S → Int32 → Int32 → Prop} (hB5 : ∀ y0 y1 y2, dt2 (fun Q => B5 Q y0 y1 y2)) (S : r_S) (x1 : Int32) (x2 : Int32) (xs1 : Int32) (xs2 : Int32) : dt2 (fun Q => rb_X12_things_49  (B5 Q) S x1 x2 xs1 xs2 Q) := by
  unfold rb_X12_things_49
  exact (gd2 (gd2 (gd2 (al2 fun S14_ => (gd2 (hB5 _ _ _))))))
set_option maxRecDepth 100000 in
set_option maxHeartbeats 4000000 in
theorem drb_X12_things_5 {B5 : (Option Value → r_S → Prop) → r_S → Int32 → Int32 → Prop} (hB5 : ∀ y0 y1 y2, dt2 (fun Q => B5 Q y0 y1 y2)) (S : r_S) (x1 : Int32) (x2 : Int32) : dt2 (fun Q => rb_X12_things_5  (B5 Q) S x1 x2 Q) := by
  unfold rb_X12_things_5
  exact (if2 lf2 (gd2 (if2 (drb_X12_things_49 hB5 _ _ _ _ _) (gd2 (drb_X12_things_49 hB5 _ _ _ _ _)))))
theorem drl_X12_things_5 (n : Nat) (S : r_S) (x1 : Int32) (x2 : Int32) : dt2 (fun Q => rl_X12_things_5   n S x1 x2 Q) := by
  induction n generalizing S x1 x2 with
  | zero => exact fa2
  | succ n ih => exact drb_X12_things_5 (B5 := fun Q y0 y1 y2 => rl_X12_things_5   n y0 y1 y2 Q) (fun y0 y1 y2 => ih y0 y1 y2) _ _ _
set_option maxRecDepth 100000 in
set_option maxHeartbeats 4000000 in
theorem drm_X12_things (S : r_S) (x1 : Int32) : dt2 (fun Q => rm_X12_things   S x1 Q) := by
  unfold rm_X12_things
  exact (exn2 fun n30_ => (drl_X12_things_5 _ _ _ _))
set_option maxRecDepth 100000 in
set_option maxHeartbeats 4000000 in
theorem drb_X12_load_143 {B125 : (Option Value → r_S → Prop) → r_S → Int32 → Prop} (hB125 : ∀ y0 y1, dt2 (fun Q => B125 Q y0 y1)) {B143 : (Option Value → r_S → Prop) → r_S → Int32 → Int32 → Prop} (hB143 : ∀ y0 y1 y2, dt2 (fun Q => B143 Q y0 y1 y2)) (S : r_S) (x1 : Int32) (x2 : Int32) : dt2 (fun Q => rb_X12_load_143  (B125 Q) (B143 Q) S x1 x2 Q) := by
  unfold rb_X12_load_143
  exact (gd2 (if2 (hB125 _ _) (gd2 (gd2 (hB143 _ _ _)))))
theorem drl_X12_load_143 {B125 : (Option Value → r_S → Prop) → r_S → Int32 → Prop} (hB125 : ∀ y0 y1, dt2 (fun Q => B125 Q y0 y1)) (n : Nat) (S : r_S) (x1 : Int32) (x2 : Int32) : dt2 (fun Q => rl_X12_load_143  (B125 Q) n S x1 x2 Q) := by
  induction n generalizing S x1 x2 with
  | zero => exact fa2
  | succ n ih => exact drb_X12_load_143 (B125 := B125) (B143 := fun Q y0 y1 y2 => rl_X12_load_143  (B125 Q) n y0 y1 y2 Q) hB125 (fun y0 y1 y2 => ih y0 y1 y2) _ _ _
set_option maxRecDepth 100000 in
set_option maxHeartbeats 4000000 in
theorem drb_X12_load_218 (S : r_S) (xs0 : Int32) : dt2 (fun Q => rb_X12_load_218   S xs0 Q) := by
  unfold rb_X12_load_218
  exact lf2
set_option maxRecDepth 100000 in
set_option maxHeartbeats 4000000 in
theorem drb_X12_load_200 (S : r_S) (xs1 : Int32) : dt2 (fun Q => rb_X12_load_200   S xs1 Q) := by
  unfold rb_X12_load_200
  exact (if2 (drb_X12_load_218 _ _) (drb_X12_load_218 _ _))
set_option maxRecDepth 100000 in
set_option maxHeartbeats 4000000 in
theorem drb_X12_load_125 {B125 : (Option Value → r_S → Prop) → r_S → Int32 → Prop} (hB125 : ∀ y0 y1, dt2 (fun Q => B125 Q y0 y1)) (S : r_S) (x1 : Int32) : dt2 (fun Q => rb_X12_load_125  (B125 Q) S x1 Q) := by
  unfold rb_X12_load_125
  exact (if2 (if2 (drb_X12_load_200 _ _) (drb_X12_load_200 _ _)) (b22 (drm_X12_things _ _) fun r21_ S22_ => (gd2 (exn2 fun n23_ => (drl_X12_load_143 hB125 _ _ _ _)))))
theorem drl_X12_load_125 (n : Nat) (S : r_S) (x1 : Int32) : dt2 (fun Q => rl_X12_load_125   n S x1 Q) := by
  induction n generalizing S x1 with
  | zero => exact fa2
  | succ n ih => exact drb_X12_load_125 (B125 := fun Q y0 y1 => rl_X12_load_125   n y0 y1 Q) (fun y0 y1 => ih y0 y1) _ _
set_option maxRecDepth 100000 in
set_option maxHeartbeats 4000000 in
theorem drb_X12_load_123 (S : r_S) : dt2 (fun Q => rb_X12_load_123   S Q) := by
  unfold rb_X12_load_123
  exact (exn2 fun n24_ => (drl_X12_load_125 _ _ _))
set_option maxRecDepth 100000 in
set_option maxHeartbeats 4000000 in
theorem drb_X12_load_88 (S : r_S) (xs1 : Int32) : dt2 (fun Q => rb_X12_load_88   S xs1 Q) := by
  unfold rb_X12_load_88
  exact (gd2 (ifn2 (drb_X12_load_123 _) (al2 fun S29_ => (al2 fun S30_ => (drb_X12_load_123 _)))))
set_option maxRecDepth 100000 in
set_option maxHeartbeats 4000000 in
theorem drb_X12_load_55 {B55 : (Option Value → r_S → Prop) → r_S → Prop} (hB55 : ∀ y0, dt2 (fun Q => B55 Q y0)) (S : r_S) : dt2 (fun Q => rb_X12_load_55  (B55 Q) S Q) := by
  unfold rb_X12_load_55
  exact (b22 (drm_X12_isKey _ _) fun r32_ S33_ => (exi2 fun x34_ => (if2 (b22 (drm_X12_readFrame _) fun r37_ S38_ => (gd2 (ifn2 (drb_X12_load_88 _ _) (drb_X12_load_88 _ _)))) (b22 (drm_X12_readChannel _) fun r42_ S43_ => (gd2 (hB55 _))))))
theorem drl_X12_load_55 (n : Nat) (S : r_S) : dt2 (fun Q => rl_X12_load_55   n S Q) := by
  induction n generalizing S with
  | zero => exact fa2
  | succ n ih => exact drb_X12_load_55 (B55 := fun Q y0 => rl_X12_load_55   n y0 Q) (fun y0 => ih y0) _
set_option maxRecDepth 100000 in
set_option maxHeartbeats 4000000 in
theorem drb_X12_load_47 {B26 : (Option Value → r_S → Prop) → r_S → Prop} (hB26 : ∀ y0, dt2 (fun Q => B26 Q y0)) (S : r_S) : dt2 (fun Q => rb_X12_load_47  (B26 Q) S Q) := by
  unfold rb_X12_load_47
  exact (b22 (drm_X12_isKey _ _) fun r45_ S46_ => (exi2 fun x47_ => (ifn2 (hB26 _) (exn2 fun n49_ => (drl_X12_load_55 _ _)))))
set_option maxRecDepth 100000 in
set_option maxHeartbeats 4000000 in
theorem drb_X12_load_26 {B26 : (Option Value → r_S → Prop) → r_S → Prop} (hB26 : ∀ y0, dt2 (fun Q => B26 Q y0)) (S : r_S) : dt2 (fun Q => rb_X12_load_26  (B26 Q) S Q) := by
  unfold rb_X12_load_26
  exact (b22 (drm_X12_isKey _ _) fun r51_ S52_ => (exi2 fun x53_ => (if2 (b22 (drm_X12_failHere _ _) fun r56_ S57_ => (exi2 fun x58_ => (drb_X12_load_47 hB26 _))) (b22 (drm_X12_readPartition _) fun r60_ S61_ => (gd2 (drb_X12_load_47 hB26 _))))))
theorem drl_X12_load_26 (n : Nat) (S : r_S) : dt2 (fun Q => rl_X12_load_26   n S Q) := by
  induction n generalizing S with
  | zero => exact fa2
  | succ n ih => exact drb_X12_load_26 (B26 := fun Q y0 => rl_X12_load_26   n y0 Q) (fun y0 => ih y0) _
set_option maxRecDepth 100000 in
set_option maxHeartbeats 4000000 in
theorem drm_X12_load (S : r_S) : dt2 (fun Q => rm_X12_load   S Q) := by
  unfold rm_X12_load
  exact (b22 (drm_X12_forget _) fun r63_ S64_ => (gd2 (b22 (drm_X12_next _) fun r66_ S67_ => (gd2 (exn2 fun n68_ => (drl_X12_load_26 _ _))))))
set_option maxRecDepth 100000 in
set_option maxHeartbeats 4000000 in
theorem drb_X12_fault_29 (S : r_S) (xs0 : Int32) : dt2 (fun Q => rb_X12_fault_29   S xs0 Q) := by
  unfold rb_X12_fault_29
  exact lf2
set_option maxRecDepth 100000 in
set_option maxHeartbeats 4000000 in
theorem drm_X12_fault (S : r_S) (x1 : Int32) : dt2 (fun Q => rm_X12_fault   S x1 Q) := by
  unfold rm_X12_fault
  exact (ifn2 (ifn2 (drb_X12_fault_29 _ _) (drb_X12_fault_29 _ _)) (drb_X12_fault_29 _ _))
set_option maxRecDepth 100000 in
set_option maxHeartbeats 4000000 in
theorem drb_X12_isPartition_17 (S : r_S) (xs0 : Int32) : dt2 (fun Q => rb_X12_isPartition_17   S xs0 Q) := by
  unfold rb_X12_isPartition_17
  exact (gd2 lf2)
set_option maxRecDepth 100000 in
set_option maxHeartbeats 4000000 in
theorem drb_X12_isPartition_16 (S : r_S) : dt2 (fun Q => rb_X12_isPartition_16   S Q) := by
  unfold rb_X12_isPartition_16
  exact (drb_X12_isPartition_17 _ _)
set_option maxRecDepth 100000 in
set_option maxHeartbeats 4000000 in
theorem drm_X12_isPartition (S : r_S) (x1 : Int32) : dt2 (fun Q => rm_X12_isPartition   S x1 Q) := by
  unfold rm_X12_isPartition
  exact (if2 (drb_X12_isPartition_16 _) (if2 (drb_X12_isPartition_16 _) (drb_X12_isPartition_17 _ _)))
set_option maxRecDepth 100000 in
set_option maxHeartbeats 4000000 in
theorem drb_X12_isPlace_33 (S : r_S) (xs0 : Int32) : dt2 (fun Q => rb_X12_isPlace_33   S xs0 Q) := by
  unfold rb_X12_isPlace_33
  exact (gd2 lf2)
set_option maxRecDepth 100000 in
set_option maxHeartbeats 4000000 in
theorem drb_X12_isPlace_32 (S : r_S) : dt2 (fun Q => rb_X12_isPlace_32   S Q) := by
  unfold rb_X12_isPlace_32
  exact (drb_X12_isPlace_33 _ _)
set_option maxRecDepth 100000 in
set_option maxHeartbeats 4000000 in
theorem drm_X12_isPlace (S : r_S) (x1 : Int32) (x2 : Int32) : dt2 (fun Q => rm_X12_isPlace   S x1 x2 Q) := by
  unfold rm_X12_isPlace
  exact (b22 (drm_X12_isPartition _ _) fun r2_ S3_ => (exi2 fun x4_ => (if2 (drb_X12_isPlace_32 _) (if2 (drb_X12_isPlace_32 _) (gd2 (if2 (drb_X12_isPlace_32 _) (ifn2 (drb_X12_isPlace_32 _) (drb_X12_isPlace_33 _ _))))))))
set_option maxRecDepth 100000 in
set_option maxHeartbeats 4000000 in
theorem drb_X12_image_47 {B47 : (Option Value → r_S → Prop) → r_S → Int32 → Int32 → Int32 → Int32 → Prop} (hB47 : ∀ y0 y1 y2 y3 y4, dt2 (fun Q => B47 Q y0 y1 y2 y3 y4)) (S : r_S) (x1 : Int32) (x2 : Int32) (x3 : Int32) (x4 : Int32) : dt2 (fun Q => rb_X12_image_47  (B47 Q) S x1 x2 x3 x4 Q) := by
  unfold rb_X12_image_47
  exact (if2 lf2 (gd2 (hB47 _ _ _ _ _)))
theorem drl_X12_image_47 (n : Nat) (S : r_S) (x1 : Int32) (x2 : Int32) (x3 : Int32) (x4 : Int32) : dt2 (fun Q => rl_X12_image_47   n S x1 x2 x3 x4 Q) := by
  induction n generalizing S x1 x2 x3 x4 with
  | zero => exact fa2
  | succ n ih => exact drb_X12_image_47 (B47 := fun Q y0 y1 y2 y3 y4 => rl_X12_image_47   n y0 y1 y2 y3 y4 Q) (fun y0 y1 y2 y3 y4 => ih y0 y1 y2 y3 y4) _ _ _ _ _
set_option maxRecDepth 100000 in
set_option maxHeartbeats 4000000 in
theorem drb_X12_image_33 (S : r_S) (x1 : Int32) (x2 : Int32) (x3 : Int32) (xs1 : Int32) : dt2 (fun Q => rb_X12_image_33   S x1 x2 x3 xs1 Q) := by
  unfold rb_X12_image_33
  exact (if2 (exn2 fun n10_ => (drl_X12_image_47 _ _ _ _ _ _)) lf2)
set_option maxRecDepth 100000 in
set_option maxHeartbeats 4000000 in
theorem drb_X12_image_15 (S : r_S) (x1 : Int32) (x2 : Int32) (x3 : Int32) : dt2 (fun Q => rb_X12_image_15   S x1 x2 x3 Q) := by
  unfold rb_X12_image_15
  exact (drb_X12_image_33 _ _ _ _ _)
set_option maxRecDepth 100000 in
set_option maxHeartbeats 4000000 in
theorem drm_X12_image (S : r_S) (x1 : Int32) (x2 : Int32) (x3 : Int32) : dt2 (fun Q => rm_X12_image   S x1 x2 x3 Q) := by
  unfold rm_X12_image
  exact (if2 (drb_X12_image_15 _ _ _ _) (if2 (b22 (drm_X12_isPlace _ _ _) fun r14_ S15_ => (exi2 fun x16_ => (ifn2 (drb_X12_image_33 _ _ _ _ _) (drb_X12_image_33 _ _ _ _ _)))) (drb_X12_image_15 _ _ _ _)))
set_option maxRecDepth 100000 in
set_option maxHeartbeats 4000000 in
theorem drb_X12_input_99 (S : r_S) (x1 : Int32) (x2 : Int32) (x3 : Int32) (x4 : Int32) (xs1 : Int32) : dt2 (fun Q => rb_X12_input_99   S x1 x2 x3 x4 xs1 Q) := by
  unfold rb_X12_input_99
  exact (if2 (gd2 (gd2 (al2 fun S12_ => (gd2 (gd2 lf2))))) lf2)
set_option maxRecDepth 100000 in
set_option maxHeartbeats 4000000 in
theorem drb_X12_input_83 (S : r_S) (x1 : Int32) (x2 : Int32) (x3 : Int32) (x4 : Int32) : dt2 (fun Q => rb_X12_input_83   S x1 x2 x3 x4 Q) := by
  unfold rb_X12_input_83
  exact (drb_X12_input_99 _ _ _ _ _ _)
set_option maxRecDepth 100000 in
set_option maxHeartbeats 4000000 in
theorem drb_X12_input_87 (S : r_S) (x1 : Int32) (x2 : Int32) (x3 : Int32) (x4 : Int32) : dt2 (fun Q => rb_X12_input_87   S x1 x2 x3 x4 Q) := by
  unfold rb_X12_input_87
  exact (ifn2 (drb_X12_input_99 _ _ _ _ _ _) (drb_X12_input_99 _ _ _ _ _ _))
set_option maxRecDepth 100000 in
set_option maxHeartbeats 4000000 in
theorem drb_X12_input_36 (S : r_S) (x1 : Int32) (x2 : Int32) (x3 : Int32) (xs1 : Int32) : dt2 (fun Q => rb_X12_input_36   S x1 x2 x3 xs1 Q) := by
  unfold rb_X12_input_36
  exact (if2 (gd2 (if2 (drb_X12_input_83 _ _ _ _ _) (if2 (drb_X12_input_87 _ _ _ _ _) (gd2 (if2 (drb_X12_input_87 _ _ _ _ _) (drb_X12_input_83 _ _ _ _ _)))))) lf2)
set_option maxRecDepth 100000 in
set_option maxHeartbeats 4000000 in
theorem drb_X12_input_15 (S : r_S) (x1 : Int32) (x2 : Int32) (x3 : Int32) : dt2 (fun Q => rb_X12_input_15   S x1 x2 x3 Q) := by
  unfold rb_X12_input_15
  exact (drb_X12_input_36 _ _ _ _ _)
set_option maxRecDepth 100000 in
set_option maxHeartbeats 4000000 in
theorem drb_X12_input_31 (S : r_S) (x1 : Int32) (x2 : Int32) (x3 : Int32) : dt2 (fun Q => rb_X12_input_31   S x1 x2 x3 Q) := by
  unfold rb_X12_input_31
  exact (drb_X12_input_36 _ _ _ _ _)
set_option maxRecDepth 100000 in
set_option maxHeartbeats 4000000 in
theorem drm_X12_input (S : r_S) (x1 : Int32) (x2 : Int32) (x3 : Int32) : dt2 (fun Q => rm_X12_input   S x1 x2 x3 Q) := by
  unfold rm_X12_input
  exact (if2 (drb_X12_input_15 _ _ _ _) (if2 (if2 (drb_X12_input_31 _ _ _ _) (if2 (drb_X12_input_36 _ _ _ _ _) (drb_X12_input_31 _ _ _ _))) (drb_X12_input_15 _ _ _ _)))
set_option maxRecDepth 100000 in
set_option maxHeartbeats 4000000 in
theorem drm_X12_lastOf (S : r_S) (x1 : Int32) : dt2 (fun Q => rm_X12_lastOf   S x1 Q) := by
  unfold rm_X12_lastOf
  exact (gd2 lf2)
set_option maxRecDepth 100000 in
set_option maxHeartbeats 4000000 in
theorem drm_X12_partitionOf (S : r_S) (x1 : Int32) : dt2 (fun Q => rm_X12_partitionOf   S x1 Q) := by
  unfold rm_X12_partitionOf
  exact lf2
set_option maxRecDepth 100000 in
set_option maxHeartbeats 4000000 in
theorem drb_X12_unlock_31 (S : r_S) : dt2 (fun Q => rb_X12_unlock_31   S Q) := by
  unfold rb_X12_unlock_31
  exact lf2
set_option maxRecDepth 100000 in
set_option maxHeartbeats 4000000 in
theorem drm_X12_unlock (S : r_S) (x1 : Int32) : dt2 (fun Q => rm_X12_unlock   S x1 Q) := by
  unfold rm_X12_unlock
  exact (gd2 (if2 (drb_X12_unlock_31 _) (gd2 (gd2 (if2 (drb_X12_unlock_31 _) (gd2 (drb_X12_unlock_31 _)))))))
set_option maxRecDepth 100000 in
set_option maxHeartbeats 4000000 in
theorem drm_X12_sleeps (S : r_S) (x1 : Int32) : dt2 (fun Q => rm_X12_sleeps   S x1 Q) := by
  unfold rm_X12_sleeps
  exact (gd2 (gd2 (gd2 (al2 fun S14_ => (gd2 (gd2 (b22 (drm_X12_partitionOf _ _) fun r23_ S24_ => (exi2 fun x25_ => (b22 (drm_X12_unlock _ _) fun r27_ S28_ => (gd2 lf2))))))))))
set_option maxRecDepth 100000 in
set_option maxHeartbeats 4000000 in
theorem drb_X12_isHandler_19 (S : r_S) (xs0 : Int32) : dt2 (fun Q => rb_X12_isHandler_19   S xs0 Q) := by
  unfold rb_X12_isHandler_19
  exact (gd2 lf2)
set_option maxRecDepth 100000 in
set_option maxHeartbeats 4000000 in
theorem drm_X12_isHandler (S : r_S) (x1 : Int32) : dt2 (fun Q => rm_X12_isHandler   S x1 Q) := by
  unfold rm_X12_isHandler
  exact (b22 (drm_X12_partitionOf _ _) fun r2_ S3_ => (exi2 fun x4_ => (gd2 (ifn2 (drb_X12_isHandler_19 _ _) (drb_X12_isHandler_19 _ _)))))
set_option maxRecDepth 100000 in
set_option maxHeartbeats 4000000 in
theorem drm_X12_isReady (S : r_S) (x1 : Int32) : dt2 (fun Q => rm_X12_isReady   S x1 Q) := by
  unfold rm_X12_isReady
  exact (gd2 (gd2 (gd2 (al2 fun S14_ => (gd2 (al2 fun S19_ => lf2))))))
set_option maxRecDepth 100000 in
set_option maxHeartbeats 4000000 in
theorem drb_X12_startsAt_113 (S : r_S) (x1 : Int32) : dt2 (fun Q => rb_X12_startsAt_113   S x1 Q) := by
  unfold rb_X12_startsAt_113
  exact (b22 (drm_X12_partitionOf _ _) fun r2_ S3_ => (exi2 fun x4_ => (b22 (drm_X12_unlock _ _) fun r6_ S7_ => (gd2 lf2))))
set_option maxRecDepth 100000 in
set_option maxHeartbeats 4000000 in
theorem drb_X12_startsAt_71 (S : r_S) (x1 : Int32) (x2 : Int32) (xs1 : Int32) (xs2 : Int32) : dt2 (fun Q => rb_X12_startsAt_71   S x1 x2 xs1 xs2 Q) := by
  unfold rb_X12_startsAt_71
  exact (gd2 (gd2 (gd2 (al2 fun S21_ => (b22 (drm_X12_isReady _ _) fun r22_ S23_ => (gd2 (if2 (drb_X12_startsAt_113 _ _) (gd2 (gd2 (drb_X12_startsAt_113 _ _))))))))))
set_option maxRecDepth 100000 in
set_option maxHeartbeats 4000000 in
theorem drb_X12_startsAt_2 {B2 : (Option Value → r_S → Prop) → r_S → Int32 → Int32 → Int32 → Prop} (hB2 : ∀ y0 y1 y2 y3, dt2 (fun Q => B2 Q y0 y1 y2 y3)) (S : r_S) (x1 : Int32) (x2 : Int32) (x3 : Int32) : dt2 (fun Q => rb_X12_startsAt_2  (B2 Q) S x1 x2 x3 Q) := by
  unfold rb_X12_startsAt_2
  exact (if2 (gd2 (gd2 (gd2 (gd2 (al2 fun S52_ => (gd2 (if2 (drb_X12_startsAt_71 _ _ _ _ _) (drb_X12_startsAt_71 _ _ _ _ _)))))))) (gd2 (hB2 _ _ _ _)))
theorem drl_X12_startsAt_2 (n : Nat) (S : r_S) (x1 : Int32) (x2 : Int32) (x3 : Int32) : dt2 (fun Q => rl_X12_startsAt_2   n S x1 x2 x3 Q) := by
  induction n generalizing S x1 x2 x3 with
  | zero => exact fa2
  | succ n ih => exact drb_X12_startsAt_2 (B2 := fun Q y0 y1 y2 y3 => rl_X12_startsAt_2   n y0 y1 y2 y3 Q) (fun y0 y1 y2 y3 => ih y0 y1 y2 y3) _ _ _ _
set_option maxRecDepth 100000 in
set_option maxHeartbeats 4000000 in
theorem drm_X12_startsAt (S : r_S) (x1 : Int32) (x2 : Int32) : dt2 (fun Q => rm_X12_startsAt   S x1 x2 Q) := by
  unfold rm_X12_startsAt
  exact (exn2 fun n63_ => (drl_X12_startsAt_2 _ _ _ _ _))
set_option maxRecDepth 100000 in
set_option maxHeartbeats 4000000 in
theorem drb_X12_begins_174 {B127 : (Option Value → r_S → Prop) → r_S → Int32 → Int32 → Prop} (hB127 : ∀ y0 y1 y2, dt2 (fun Q => B127 Q y0 y1 y2)) (S : r_S) (x1 : Int32) (x4 : Int32) : dt2 (fun Q => rb_X12_begins_174  (B127 Q) S x1 x4 Q) := by
  unfold rb_X12_begins_174
  exact (hB127 _ _ _)
set_option maxRecDepth 100000 in
set_option maxHeartbeats 4000000 in
theorem drb_X12_begins_127 {B127 : (Option Value → r_S → Prop) → r_S → Int32 → Int32 → Prop} (hB127 : ∀ y0 y1 y2, dt2 (fun Q => B127 Q y0 y1 y2)) (S : r_S) (x1 : Int32) (x4 : Int32) : dt2 (fun Q => rb_X12_begins_127  (B127 Q) S x1 x4 Q) := by
  unfold rb_X12_begins_127
  exact (b22 (drm_X12_lastOf _ _) fun r2_ S3_ => (exi2 fun x4_ => (if2 lf2 (b22 (drm_X12_isHandler _ _) fun r7_ S8_ => (exi2 fun x9_ => (ifn2 (drb_X12_begins_174 hB127 _ _ _) (gd2 (ifn2 (drb_X12_begins_174 hB127 _ _ _) (gd2 (b22 (drm_X12_startsAt _ _ _) fun r21_ S22_ => (gd2 (drb_X12_begins_174 hB127 _ _ _))))))))))))
theorem drl_X12_begins_127 (n : Nat) (S : r_S) (x1 : Int32) (x4 : Int32) : dt2 (fun Q => rl_X12_begins_127   n S x1 x4 Q) := by
  induction n generalizing S x1 x4 with
  | zero => exact fa2
  | succ n ih => exact drb_X12_begins_127 (B127 := fun Q y0 y1 y2 => rl_X12_begins_127   n y0 y1 y2 Q) (fun y0 y1 y2 => ih y0 y1 y2) _ _ _
set_option maxRecDepth 100000 in
set_option maxHeartbeats 4000000 in
theorem drb_X12_begins_99 {B99 : (Option Value → r_S → Prop) → r_S → Int32 → Int32 → Prop} (hB99 : ∀ y0 y1 y2, dt2 (fun Q => B99 Q y0 y1 y2)) (S : r_S) (x1 : Int32) (x4 : Int32) : dt2 (fun Q => rb_X12_begins_99  (B99 Q) S x1 x4 Q) := by
  unfold rb_X12_begins_99
  exact (b22 (drm_X12_lastOf _ _) fun r24_ S25_ => (exi2 fun x26_ => (if2 (exn2 fun n28_ => (drl_X12_begins_127 _ _ _ _)) (b22 (drm_X12_sleeps _ _) fun r30_ S31_ => (gd2 (hB99 _ _ _))))))
theorem drl_X12_begins_99 (n : Nat) (S : r_S) (x1 : Int32) (x4 : Int32) : dt2 (fun Q => rl_X12_begins_99   n S x1 x4 Q) := by
  induction n generalizing S x1 x4 with
  | zero => exact fa2
  | succ n ih => exact drb_X12_begins_99 (B99 := fun Q y0 y1 y2 => rl_X12_begins_99   n y0 y1 y2 Q) (fun y0 y1 y2 => ih y0 y1 y2) _ _ _
set_option maxRecDepth 100000 in
set_option maxHeartbeats 4000000 in
theorem drb_X12_begins_93 (S : r_S) (x1 : Int32) : dt2 (fun Q => rb_X12_begins_93   S x1 Q) := by
  unfold rb_X12_begins_93
  exact (exn2 fun n32_ => (drl_X12_begins_99 _ _ _ _))
set_option maxRecDepth 100000 in
set_option maxHeartbeats 4000000 in
theorem drb_X12_begins_46 {B46 : (Option Value → r_S → Prop) → r_S → Int32 → Int32 → Int32 → Prop} (hB46 : ∀ y0 y1 y2 y3, dt2 (fun Q => B46 Q y0 y1 y2 y3)) (S : r_S) (x1 : Int32) (x3 : Int32) (x4 : Int32) : dt2 (fun Q => rb_X12_begins_46  (B46 Q) S x1 x3 x4 Q) := by
  unfold rb_X12_begins_46
  exact (gd2 (if2 (drb_X12_begins_93 _ _) (if2 (drb_X12_begins_93 _ _) (gd2 (gd2 (hB46 _ _ _ _))))))
theorem drl_X12_begins_46 (n : Nat) (S : r_S) (x1 : Int32) (x3 : Int32) (x4 : Int32) : dt2 (fun Q => rl_X12_begins_46   n S x1 x3 x4 Q) := by
  induction n generalizing S x1 x3 x4 with
  | zero => exact fa2
  | succ n ih => exact drb_X12_begins_46 (B46 := fun Q y0 y1 y2 y3 => rl_X12_begins_46   n y0 y1 y2 y3 Q) (fun y0 y1 y2 y3 => ih y0 y1 y2 y3) _ _ _ _
set_option maxRecDepth 100000 in
set_option maxHeartbeats 4000000 in
theorem drm_X12_begins (S : r_S) (x1 : Int32) (x2 : Int32) (x3 : Int32) : dt2 (fun Q => rm_X12_begins   S x1 x2 x3 Q) := by
  unfold rm_X12_begins
  exact (gd2 (gd2 (gd2 (gd2 (al2 fun S62_ => (gd2 (gd2 (b22 (drm_X12_things _ _) fun r71_ S72_ => (gd2 (exn2 fun n73_ => (drl_X12_begins_46 _ _ _ _ _)))))))))))
set_option maxRecDepth 100000 in
set_option maxHeartbeats 4000000 in
theorem drb_X12_begin_38 {B38 : (Option Value → r_S → Prop) → r_S → Int32 → Prop} (hB38 : ∀ y0 y1, dt2 (fun Q => B38 Q y0 y1)) (S : r_S) (x1 : Int32) : dt2 (fun Q => rb_X12_begin_38  (B38 Q) S x1 Q) := by
  unfold rb_X12_begin_38
  exact (if2 lf2 (b22 (drm_X12_begins _ _ _ _) fun r3_ S4_ => (gd2 (hB38 _ _))))
theorem drl_X12_begin_38 (n : Nat) (S : r_S) (x1 : Int32) : dt2 (fun Q => rl_X12_begin_38   n S x1 Q) := by
  induction n generalizing S x1 with
  | zero => exact fa2
  | succ n ih => exact drb_X12_begin_38 (B38 := fun Q y0 y1 => rl_X12_begin_38   n y0 y1 Q) (fun y0 y1 => ih y0 y1) _ _
set_option maxRecDepth 100000 in
set_option maxHeartbeats 4000000 in
theorem drb_X12_begin_20 (S : r_S) (xs1 : Int32) : dt2 (fun Q => rb_X12_begin_20   S xs1 Q) := by
  unfold rb_X12_begin_20
  exact (if2 (exn2 fun n8_ => (drl_X12_begin_38 _ _ _)) lf2)
set_option maxRecDepth 100000 in
set_option maxHeartbeats 4000000 in
theorem drb_X12_begin_15 (S : r_S) : dt2 (fun Q => rb_X12_begin_15   S Q) := by
  unfold rb_X12_begin_15
  exact (drb_X12_begin_20 _ _)
set_option maxRecDepth 100000 in
set_option maxHeartbeats 4000000 in
theorem drm_X12_begin (S : r_S) : dt2 (fun Q => rm_X12_begin   S Q) := by
  unfold rm_X12_begin
  exact (if2 (drb_X12_begin_15 _) (if2 (drb_X12_begin_20 _ _) (drb_X12_begin_15 _)))
set_option maxRecDepth 100000 in
set_option maxHeartbeats 4000000 in
theorem drb_X12_traced_93 {B2 : (Option Value → r_S → Prop) → r_S → Int32 → Int32 → Int32 → Prop} (hB2 : ∀ y0 y1 y2 y3, dt2 (fun Q => B2 Q y0 y1 y2 y3)) (S : r_S) (x1 : Int32) (x2 : Int32) (x3 : Int32) : dt2 (fun Q => rb_X12_traced_93  (B2 Q) S x1 x2 x3 Q) := by
  unfold rb_X12_traced_93
  exact (hB2 _ _ _ _)
set_option maxRecDepth 100000 in
set_option maxHeartbeats 4000000 in
theorem drb_X12_traced_83 {B2 : (Option Value → r_S → Prop) → r_S → Int32 → Int32 → Int32 → Prop} (hB2 : ∀ y0 y1 y2 y3, dt2 (fun Q => B2 Q y0 y1 y2 y3)) (S : r_S) (x1 : Int32) (x2 : Int32) (x3 : Int32) : dt2 (fun Q => rb_X12_traced_83  (B2 Q) S x1 x2 x3 Q) := by
  unfold rb_X12_traced_83
  exact (drb_X12_traced_93 hB2 _ _ _ _)
set_option maxRecDepth 100000 in
set_option maxHeartbeats 4000000 in
theorem drb_X12_traced_2 {B2 : (Option Value → r_S → Prop) → r_S → Int32 → Int32 → Int32 → Prop} (hB2 : ∀ y0 y1 y2 y3, dt2 (fun Q => B2 Q y0 y1 y2 y3)) (S : r_S) (x1 : Int32) (x2 : Int32) (x3 : Int32) : dt2 (fun Q => rb_X12_traced_2  (B2 Q) S x1 x2 x3 Q) := by
  unfold rb_X12_traced_2
  exact (gd2 (if2 lf2 (gd2 (if2 (if2 (drb_X12_traced_83 hB2 _ _ _ _) (gd2 (gd2 (al2 fun S22_ => (gd2 (drb_X12_traced_83 hB2 _ _ _ _)))))) (drb_X12_traced_93 hB2 _ _ _ _)))))
theorem drl_X12_traced_2 (n : Nat) (S : r_S) (x1 : Int32) (x2 : Int32) (x3 : Int32) : dt2 (fun Q => rl_X12_traced_2   n S x1 x2 x3 Q) := by
  induction n generalizing S x1 x2 x3 with
  | zero => exact fa2
  | succ n ih => exact drb_X12_traced_2 (B2 := fun Q y0 y1 y2 y3 => rl_X12_traced_2   n y0 y1 y2 y3 Q) (fun y0 y1 y2 y3 => ih y0 y1 y2 y3) _ _ _ _
set_option maxRecDepth 100000 in
set_option maxHeartbeats 4000000 in
theorem drm_X12_traced (S : r_S) (x1 : Int32) (x2 : Int32) : dt2 (fun Q => rm_X12_traced   S x1 x2 Q) := by
  unfold rm_X12_traced
  exact (exn2 fun n27_ => (drl_X12_traced_2 _ _ _ _ _))
set_option maxRecDepth 100000 in
set_option maxHeartbeats 4000000 in
theorem drm_X12_sample (S : r_S) (x1 : Int32) (x2 : Int32) : dt2 (fun Q => rm_X12_sample   S x1 x2 Q) := by
  unfold rm_X12_sample
  exact (gd2 (gd2 (gd2 (al2 fun S14_ => lf2))))
set_option maxRecDepth 100000 in
set_option maxHeartbeats 4000000 in
theorem drb_X12_waiter_130 {B6 : (Option Value → r_S → Prop) → r_S → Int32 → Int32 → Int32 → Int32 → Int32 → Prop} (hB6 : ∀ y0 y1 y2 y3 y4 y5, dt2 (fun Q => B6 Q y0 y1 y2 y3 y4 y5)) (S : r_S) (x1 : Int32) (x2 : Int32) (x3 : Int32) (x4 : Int32) (x5 : Int32) : dt2 (fun Q => rb_X12_waiter_130  (B6 Q) S x1 x2 x3 x4 x5 Q) := by
  unfold rb_X12_waiter_130
  exact (hB6 _ _ _ _ _ _)
set_option maxRecDepth 100000 in
set_option maxHeartbeats 4000000 in
theorem drb_X12_waiter_119 {B6 : (Option Value → r_S → Prop) → r_S → Int32 → Int32 → Int32 → Int32 → Int32 → Prop} (hB6 : ∀ y0 y1 y2 y3 y4 y5, dt2 (fun Q => B6 Q y0 y1 y2 y3 y4 y5)) (S : r_S) (x1 : Int32) (x2 : Int32) (x3 : Int32) (x4 : Int32) (x5 : Int32) (xs0 : Int32) : dt2 (fun Q => rb_X12_waiter_119  (B6 Q) S x1 x2 x3 x4 x5 xs0 Q) := by
  unfold rb_X12_waiter_119
  exact (if2 (drb_X12_waiter_130 hB6 _ _ _ _ _ _) (drb_X12_waiter_130 hB6 _ _ _ _ _ _))
set_option maxRecDepth 100000 in
set_option maxHeartbeats 4000000 in
theorem drb_X12_waiter_114 {B6 : (Option Value → r_S → Prop) → r_S → Int32 → Int32 → Int32 → Int32 → Int32 → Prop} (hB6 : ∀ y0 y1 y2 y3 y4 y5, dt2 (fun Q => B6 Q y0 y1 y2 y3 y4 y5)) (S : r_S) (x1 : Int32) (x2 : Int32) (x3 : Int32) (x4 : Int32) (x5 : Int32) : dt2 (fun Q => rb_X12_waiter_114  (B6 Q) S x1 x2 x3 x4 x5 Q) := by
  unfold rb_X12_waiter_114
  exact (drb_X12_waiter_119 hB6 _ _ _ _ _ _ _)
set_option maxRecDepth 100000 in
set_option maxHeartbeats 4000000 in
theorem drb_X12_waiter_118 {B6 : (Option Value → r_S → Prop) → r_S → Int32 → Int32 → Int32 → Int32 → Int32 → Prop} (hB6 : ∀ y0 y1 y2 y3 y4 y5, dt2 (fun Q => B6 Q y0 y1 y2 y3 y4 y5)) (S : r_S) (x1 : Int32) (x2 : Int32) (x3 : Int32) (x4 : Int32) (x5 : Int32) : dt2 (fun Q => rb_X12_waiter_118  (B6 Q) S x1 x2 x3 x4 x5 Q) := by
  unfold rb_X12_waiter_118
  exact (drb_X12_waiter_119 hB6 _ _ _ _ _ _ _)
set_option maxRecDepth 100000 in
set_option maxHeartbeats 4000000 in
theorem drb_X12_waiter_77 {B6 : (Option Value → r_S → Prop) → r_S → Int32 → Int32 → Int32 → Int32 → Int32 → Prop} (hB6 : ∀ y0 y1 y2 y3 y4 y5, dt2 (fun Q => B6 Q y0 y1 y2 y3 y4 y5)) (S : r_S) (x1 : Int32) (x2 : Int32) (x3 : Int32) (x4 : Int32) (x5 : Int32) : dt2 (fun Q => rb_X12_waiter_77  (B6 Q) S x1 x2 x3 x4 x5 Q) := by
  unfold rb_X12_waiter_77
  exact (gd2 (gd2 (if2 (drb_X12_waiter_118 hB6 _ _ _ _ _ _) (drb_X12_waiter_114 hB6 _ _ _ _ _ _))))
set_option maxRecDepth 100000 in
set_option maxHeartbeats 4000000 in
theorem drb_X12_waiter_6 {B6 : (Option Value → r_S → Prop) → r_S → Int32 → Int32 → Int32 → Int32 → Int32 → Prop} (hB6 : ∀ y0 y1 y2 y3 y4 y5, dt2 (fun Q => B6 Q y0 y1 y2 y3 y4 y5)) (S : r_S) (x1 : Int32) (x2 : Int32) (x3 : Int32) (x4 : Int32) (x5 : Int32) : dt2 (fun Q => rb_X12_waiter_6  (B6 Q) S x1 x2 x3 x4 x5 Q) := by
  unfold rb_X12_waiter_6
  exact (if2 lf2 (gd2 (ifn2 (drb_X12_waiter_130 hB6 _ _ _ _ _ _) (gd2 (ifn2 (drb_X12_waiter_130 hB6 _ _ _ _ _ _) (gd2 (if2 (if2 (drb_X12_waiter_114 hB6 _ _ _ _ _ _) (ifn2 (drb_X12_waiter_77 hB6 _ _ _ _ _ _) (gd2 (gd2 (ifn2 (gd2 (gd2 (if2 (drb_X12_waiter_118 hB6 _ _ _ _ _ _) (drb_X12_waiter_114 hB6 _ _ _ _ _ _)))) (drb_X12_waiter_77 hB6 _ _ _ _ _ _)))))) (drb_X12_waiter_130 hB6 _ _ _ _ _ _))))))))
theorem drl_X12_waiter_6 (n : Nat) (S : r_S) (x1 : Int32) (x2 : Int32) (x3 : Int32) (x4 : Int32) (x5 : Int32) : dt2 (fun Q => rl_X12_waiter_6   n S x1 x2 x3 x4 x5 Q) := by
  induction n generalizing S x1 x2 x3 x4 x5 with
  | zero => exact fa2
  | succ n ih => exact drb_X12_waiter_6 (B6 := fun Q y0 y1 y2 y3 y4 y5 => rl_X12_waiter_6   n y0 y1 y2 y3 y4 y5 Q) (fun y0 y1 y2 y3 y4 y5 => ih y0 y1 y2 y3 y4 y5) _ _ _ _ _ _
set_option maxRecDepth 100000 in
set_option maxHeartbeats 4000000 in
theorem drm_X12_waiter (S : r_S) (x1 : Int32) (x2 : Int32) (x3 : Int32) : dt2 (fun Q => rm_X12_waiter   S x1 x2 x3 Q) := by
  unfold rm_X12_waiter
  exact (exn2 fun n37_ => (drl_X12_waiter_6 _ _ _ _ _ _ _))
set_option maxRecDepth 100000 in
set_option maxHeartbeats 4000000 in
theorem drm_X12_answer (S : r_S) (x1 : Int32) (x2 : Int32) : dt2 (fun Q => rm_X12_answer   S x1 x2 Q) := by
  unfold rm_X12_answer
  exact (gd2 lf2)
set_option maxRecDepth 100000 in
set_option maxHeartbeats 4000000 in
theorem drm_X12_gets (S : r_S) (x1 : Int32) : dt2 (fun Q => rm_X12_gets   S x1 Q) := by
  unfold rm_X12_gets
  exact (b22 (drm_X12_answer _ _ _) fun r2_ S3_ => (gd2 (b22 (drm_X12_isReady _ _) fun r5_ S6_ => (gd2 lf2))))
set_option maxRecDepth 100000 in
set_option maxHeartbeats 4000000 in
theorem drm_X12_passes (S : r_S) (x1 : Int32) (x2 : Int32) : dt2 (fun Q => rm_X12_passes   S x1 x2 Q) := by
  unfold rm_X12_passes
  exact (gd2 (b22 (drm_X12_waiter _ _ _ _) fun r6_ S7_ => (exi2 fun x8_ => (if2 (gd2 (gd2 (ifn2 (gd2 (gd2 (gd2 (gd2 (al2 fun S30_ => lf2))))) lf2))) (gd2 (b22 (drm_X12_gets _ _) fun r36_ S37_ => (gd2 lf2)))))))
set_option maxRecDepth 100000 in
set_option maxHeartbeats 4000000 in
theorem drb_X12_comes_55 (S : r_S) : dt2 (fun Q => rb_X12_comes_55   S Q) := by
  unfold rb_X12_comes_55
  exact lf2
set_option maxRecDepth 100000 in
set_option maxHeartbeats 4000000 in
theorem drm_X12_comes (S : r_S) (x1 : Int32) (x2 : Int32) : dt2 (fun Q => rm_X12_comes   S x1 x2 Q) := by
  unfold rm_X12_comes
  exact (b22 (drm_X12_traced _ _ _) fun r2_ S3_ => (gd2 (gd2 (ifn2 (gd2 (ifn2 (b22 (drm_X12_passes _ _ _) fun r15_ S16_ => (exi2 fun x17_ => (ifn2 (drb_X12_comes_55 _) (gd2 (gd2 (drb_X12_comes_55 _)))))) lf2)) (b22 (drm_X12_sample _ _ _) fun r25_ S26_ => (gd2 lf2))))))
set_option maxRecDepth 100000 in
set_option maxHeartbeats 4000000 in
theorem drb_X12_window_12 {B12 : (Option Value → r_S → Prop) → r_S → Int32 → Int32 → Prop} (hB12 : ∀ y0 y1 y2, dt2 (fun Q => B12 Q y0 y1 y2)) (S : r_S) (x1 : Int32) (x2 : Int32) : dt2 (fun Q => rb_X12_window_12  (B12 Q) S x1 x2 Q) := by
  unfold rb_X12_window_12
  exact (gd2 (if2 lf2 (gd2 (hB12 _ _ _))))
theorem drl_X12_window_12 (n : Nat) (S : r_S) (x1 : Int32) (x2 : Int32) : dt2 (fun Q => rl_X12_window_12   n S x1 x2 Q) := by
  induction n generalizing S x1 x2 with
  | zero => exact fa2
  | succ n ih => exact drb_X12_window_12 (B12 := fun Q y0 y1 y2 => rl_X12_window_12   n y0 y1 y2 Q) (fun y0 y1 y2 => ih y0 y1 y2) _ _ _
set_option maxRecDepth 100000 in
set_option maxHeartbeats 4000000 in
theorem drm_X12_window (S : r_S) : dt2 (fun Q => rm_X12_window   S Q) := by
  unfold rm_X12_window
  exact (gd2 (exn2 fun n10_ => (drl_X12_window_12 _ _ _ _)))
set_option maxRecDepth 100000 in
set_option maxHeartbeats 4000000 in
theorem drb_X12_isFaulted_30 (S : r_S) (xs0 : Int32) : dt2 (fun Q => rb_X12_isFaulted_30   S xs0 Q) := by
  unfold rb_X12_isFaulted_30
  exact (gd2 lf2)
set_option maxRecDepth 100000 in
set_option maxHeartbeats 4000000 in
theorem drb_X12_isFaulted_29 (S : r_S) : dt2 (fun Q => rb_X12_isFaulted_29   S Q) := by
  unfold rb_X12_isFaulted_29
  exact (drb_X12_isFaulted_30 _ _)
set_option maxRecDepth 100000 in
set_option maxHeartbeats 4000000 in
theorem drm_X12_isFaulted (S : r_S) (x1 : Int32) : dt2 (fun Q => rm_X12_isFaulted   S x1 Q) := by
  unfold rm_X12_isFaulted
  exact (gd2 (if2 (drb_X12_isFaulted_29 _) (gd2 (gd2 (ifn2 (drb_X12_isFaulted_29 _) (drb_X12_isFaulted_30 _ _))))))
set_option maxRecDepth 100000 in
set_option maxHeartbeats 4000000 in
theorem drb_X12_dormant_37 (S : r_S) : dt2 (fun Q => rb_X12_dormant_37   S Q) := by
  unfold rb_X12_dormant_37
  exact lf2
set_option maxRecDepth 100000 in
set_option maxHeartbeats 4000000 in
theorem drm_X12_dormant (S : r_S) (x1 : Int32) : dt2 (fun Q => rm_X12_dormant   S x1 Q) := by
  unfold rm_X12_dormant
  exact (b22 (drm_X12_partitionOf _ _) fun r2_ S3_ => (exi2 fun x4_ => (b22 (drm_X12_sleeps _ _) fun r6_ S7_ => (gd2 (b22 (drm_X12_isHandler _ _) fun r9_ S10_ => (exi2 fun x11_ => (if2 (drb_X12_dormant_37 _) (b22 (drm_X12_isFaulted _ _) fun r14_ S15_ => (exi2 fun x16_ => (if2 (drb_X12_dormant_37 _) (gd2 (b22 (drm_X12_sleeps _ _) fun r23_ S24_ => (gd2 (drb_X12_dormant_37 _))))))))))))))
set_option maxRecDepth 100000 in
set_option maxHeartbeats 4000000 in
theorem drb_X12_idle_5 {B5 : (Option Value → r_S → Prop) → r_S → Int32 → Int32 → Prop} (hB5 : ∀ y0 y1 y2, dt2 (fun Q => B5 Q y0 y1 y2)) (S : r_S) (x1 : Int32) (x2 : Int32) : dt2 (fun Q => rb_X12_idle_5  (B5 Q) S x1 x2 Q) := by
  unfold rb_X12_idle_5
  exact (b22 (drm_X12_lastOf _ _) fun r2_ S3_ => (exi2 fun x4_ => (if2 (gd2 lf2) (b22 (drm_X12_sleeps _ _) fun r12_ S13_ => (gd2 (hB5 _ _ _))))))
theorem drl_X12_idle_5 (n : Nat) (S : r_S) (x1 : Int32) (x2 : Int32) : dt2 (fun Q => rl_X12_idle_5   n S x1 x2 Q) := by
  induction n generalizing S x1 x2 with
  | zero => exact fa2
  | succ n ih => exact drb_X12_idle_5 (B5 := fun Q y0 y1 y2 => rl_X12_idle_5   n y0 y1 y2 Q) (fun y0 y1 y2 => ih y0 y1 y2) _ _ _
set_option maxRecDepth 100000 in
set_option maxHeartbeats 4000000 in
theorem drm_X12_idle (S : r_S) (x1 : Int32) : dt2 (fun Q => rm_X12_idle   S x1 Q) := by
  unfold rm_X12_idle
  exact (exn2 fun n14_ => (drl_X12_idle_5 _ _ _ _))
set_option maxRecDepth 100000 in
set_option maxHeartbeats 4000000 in
theorem drb_X12_fails_231 (S : r_S) (xs1 : Int32) (xs2 : Int32) (xs3 : Int32) : dt2 (fun Q => rb_X12_fails_231   S xs1 xs2 xs3 Q) := by
  unfold rb_X12_fails_231
  exact (b22 (drm_X12_begins _ _ _ _) fun r2_ S3_ => (gd2 lf2))
set_option maxRecDepth 100000 in
set_option maxHeartbeats 4000000 in
theorem drb_X12_fails_199 (S : r_S) : dt2 (fun Q => rb_X12_fails_199   S Q) := by
  unfold rb_X12_fails_199
  exact lf2
set_option maxRecDepth 100000 in
set_option maxHeartbeats 4000000 in
theorem drb_X12_fails_57 (S : r_S) (x1 : Int32) (x2 : Int32) (x3 : Int32) (x4 : Int32) (x5 : Int32) : dt2 (fun Q => rb_X12_fails_57   S x1 x2 x3 x4 x5 Q) := by
  unfold rb_X12_fails_57
  exact (gd2 (gd2 (gd2 (al2 fun S18_ => (gd2 (gd2 (gd2 (al2 fun S31_ => (by
    have e0 : (x5 = (0 : Int32)) ↔ (x5).toInt = 0 := sw_iff (by decide)
    have e1 : (x5 = (1 : Int32)) ↔ (x5).toInt = 1 := sw_iff (by decide)
    have e2 : (x5 = (2 : Int32)) ↔ (x5).toInt = 2 := sw_iff (by decide)
    have e3 : (x5 = (3 : Int32)) ↔ (x5).toInt = 3 := sw_iff (by decide)
    have e4 : (x5 = (4 : Int32)) ↔ (x5).toInt = 4 := sw_iff (by decide)
    have e5 : (x5 = (5 : Int32)) ↔ (x5).toInt = 5 := sw_iff (by decide)
    have ex : ((x5.toInt < 0 ∨ 5 < x5.toInt)) ∨ ((x5 = (0 : Int32))) ∨ ((x5 = (1 : Int32))) ∨ ((x5 = (2 : Int32))) ∨ ((x5 = (3 : Int32) ∨ x5 = (4 : Int32))) ∨ ((x5 = (5 : Int32))) := by
      simp only [e0, e1, e2, e3, e4, e5]; omega
    intro P h
    have t0 : dt2 (fun Q : Option Value → r_S → Prop => (vp_in x1 (r_N 2467) ∧ (vp_in x1 (r_N 2472) ∧ (∀ S40_ : r_S, S40_ = (rs_A (rs_A (rs_I S31_ 2509 ((r_I S31_ 2509) + (1 : Int32))) 2467 x1.toNatClampNeg (3 : Int32)) 2472 x1.toNatClampNeg (-1 : Int32)) → (vp_in x1 (r_N 2478) ∧ (vp_in x1 (r_N 2475) ∧ (vp_in x4 (r_N 2488) ∧ (∀ S53_ : r_S, S53_ = (rs_A (rs_A (rs_A S40_ 2478 x1.toNatClampNeg (0 : Int32)) 2475 x1.toNatClampNeg (vp_nar .boolean (0 : Int32))) 2488 x4.toNatClampNeg x1) → (vp_in x4 (r_N 2489) ∧ (vp_in x4 (r_N 2490) ∧ (rm_X12_unlock (rs_A (rs_A S53_ 2489 x4.toNatClampNeg x2) 2490 x4.toNatClampNeg x3) x4 (fun r62_ S63_ => r62_ = none ∧ (vp_in x4 (r_N 2442) ∧ (rm_X12_startsAt S63_ (r_A S63_ 2442 x4.toNatClampNeg) (r_I S63_ 2463) (fun r69_ S70_ => r69_ = none ∧ (Q none S70_)))))))))))))))) := (gd2 (gd2 (al2 fun S40_ => (gd2 (gd2 (gd2 (al2 fun S53_ => (gd2 (gd2 (b22 (drm_X12_unlock _ _) fun r62_ S63_ => (gd2 (gd2 (b22 (drm_X12_startsAt _ _ _) fun r69_ S70_ => (gd2 lf2))))))))))))))
    have t1 : dt2 (fun Q : Option Value → r_S → Prop => ((x2 = (2 : Int32) → (rb_X12_fails_199 (rs_I S31_ 2509 ((r_I S31_ 2509) + (1 : Int32))) Q)) ∧ (¬ x2 = (2 : Int32) → (vp_in x1 (r_N 2468) ∧ (vp_in x1 (r_N 2468) ∧ (∀ S77_ : r_S, S77_ = (rs_A (rs_I S31_ 2509 ((r_I S31_ 2509) + (1 : Int32))) 2468 x1.toNatClampNeg ((r_A (rs_I S31_ 2509 ((r_I S31_ 2509) + (1 : Int32))) 2468 x1.toNatClampNeg) + (4 : Int32))) → (rb_X12_fails_199 S77_ Q))))))) := (if2 (drb_X12_fails_199 _) (gd2 (gd2 (al2 fun S77_ => (drb_X12_fails_199 _)))))
    have t2 : dt2 (fun Q : Option Value → r_S → Prop => (rm_X12_dormant (rs_I S31_ 2509 ((r_I S31_ 2509) + (1 : Int32))) x1 (fun r78_ S79_ => r78_ = none ∧ (Q none S79_)))) := (b22 (drm_X12_dormant _ _) fun r78_ S79_ => (gd2 lf2))
    have t3 : dt2 (fun Q : Option Value → r_S → Prop => (rm_X12_startsAt (rs_I S31_ 2509 ((r_I S31_ 2509) + (1 : Int32))) x1 (r_I (rs_I S31_ 2509 ((r_I S31_ 2509) + (1 : Int32))) 2463) (fun r80_ S81_ => r80_ = none ∧ (Q none S81_)))) := (b22 (drm_X12_startsAt _ _ _) fun r80_ S81_ => (gd2 lf2))
    have t4 : dt2 (fun Q : Option Value → r_S → Prop => ((¬ x5 = (4 : Int32) → (rb_X12_fails_231 (rs_I S31_ 2509 ((r_I S31_ 2509) + (1 : Int32))) x4 (3 : Int32) (0 : Int32) Q)) ∧ (x5 = (4 : Int32) → (rb_X12_fails_231 (rs_I S31_ 2509 ((r_I S31_ 2509) + (1 : Int32))) x4 (3 : Int32) (1 : Int32) Q)))) := (ifn2 (drb_X12_fails_231 _ _ _ _) (drb_X12_fails_231 _ _ _ _))
    have t5 : dt2 (fun Q : Option Value → r_S → Prop => (rm_X12_idle (rs_I S31_ 2509 ((r_I S31_ 2509) + (1 : Int32))) x4 (fun r83_ S84_ => r83_ = none ∧ (Q none (rs_I S84_ 2513 (1 : Int32)))))) := (b22 (drm_X12_idle _ _) fun r83_ S84_ => (gd2 lf2))
    rcases ex with hc | hc | hc | hc | hc | hc
    · obtain ⟨v, s, hp, hr⟩ := t0 P (h.1 hc)
      try simp only [e0, e1, e2, e3, e4, e5] at hc
      exact ⟨v, s, hp, fun Q hq => ⟨fun _ => hr Q hq, fun h2 => absurd hc (by (try simp only [e0, e1, e2, e3, e4, e5] at h2); omega), fun h2 => absurd hc (by (try simp only [e0, e1, e2, e3, e4, e5] at h2); omega), fun h2 => absurd hc (by (try simp only [e0, e1, e2, e3, e4, e5] at h2); omega), fun h2 => absurd hc (by (try simp only [e0, e1, e2, e3, e4, e5] at h2); omega), fun h2 => absurd hc (by (try simp only [e0, e1, e2, e3, e4, e5] at h2); omega)⟩⟩
    · obtain ⟨v, s, hp, hr⟩ := t1 P (h.2.1 hc)
      try simp only [e0, e1, e2, e3, e4, e5] at hc
      exact ⟨v, s, hp, fun Q hq => ⟨fun h2 => absurd hc (by (try simp only [e0, e1, e2, e3, e4, e5] at h2); omega), fun _ => hr Q hq, fun h2 => absurd hc (by (try simp only [e0, e1, e2, e3, e4, e5] at h2); omega), fun h2 => absurd hc (by (try simp only [e0, e1, e2, e3, e4, e5] at h2); omega), fun h2 => absurd hc (by (try simp only [e0, e1, e2, e3, e4, e5] at h2); omega), fun h2 => absurd hc (by (try simp only [e0, e1, e2, e3, e4, e5] at h2); omega)⟩⟩
    · obtain ⟨v, s, hp, hr⟩ := t2 P (h.2.2.1 hc)
      try simp only [e0, e1, e2, e3, e4, e5] at hc
      exact ⟨v, s, hp, fun Q hq => ⟨fun h2 => absurd hc (by (try simp only [e0, e1, e2, e3, e4, e5] at h2); omega), fun h2 => absurd hc (by (try simp only [e0, e1, e2, e3, e4, e5] at h2); omega), fun _ => hr Q hq, fun h2 => absurd hc (by (try simp only [e0, e1, e2, e3, e4, e5] at h2); omega), fun h2 => absurd hc (by (try simp only [e0, e1, e2, e3, e4, e5] at h2); omega), fun h2 => absurd hc (by (try simp only [e0, e1, e2, e3, e4, e5] at h2); omega)⟩⟩
    · obtain ⟨v, s, hp, hr⟩ := t3 P (h.2.2.2.1 hc)
      try simp only [e0, e1, e2, e3, e4, e5] at hc
      exact ⟨v, s, hp, fun Q hq => ⟨fun h2 => absurd hc (by (try simp only [e0, e1, e2, e3, e4, e5] at h2); omega), fun h2 => absurd hc (by (try simp only [e0, e1, e2, e3, e4, e5] at h2); omega), fun h2 => absurd hc (by (try simp only [e0, e1, e2, e3, e4, e5] at h2); omega), fun _ => hr Q hq, fun h2 => absurd hc (by (try simp only [e0, e1, e2, e3, e4, e5] at h2); omega), fun h2 => absurd hc (by (try simp only [e0, e1, e2, e3, e4, e5] at h2); omega)⟩⟩
    · obtain ⟨v, s, hp, hr⟩ := t4 P (h.2.2.2.2.1 hc)
      try simp only [e0, e1, e2, e3, e4, e5] at hc
      exact ⟨v, s, hp, fun Q hq => ⟨fun h2 => absurd hc (by (try simp only [e0, e1, e2, e3, e4, e5] at h2); omega), fun h2 => absurd hc (by (try simp only [e0, e1, e2, e3, e4, e5] at h2); omega), fun h2 => absurd hc (by (try simp only [e0, e1, e2, e3, e4, e5] at h2); omega), fun h2 => absurd hc (by (try simp only [e0, e1, e2, e3, e4, e5] at h2); omega), fun _ => hr Q hq, fun h2 => absurd hc (by (try simp only [e0, e1, e2, e3, e4, e5] at h2); omega)⟩⟩
    · obtain ⟨v, s, hp, hr⟩ := t5 P (h.2.2.2.2.2 hc)
      try simp only [e0, e1, e2, e3, e4, e5] at hc
      exact ⟨v, s, hp, fun Q hq => ⟨fun h2 => absurd hc (by (try simp only [e0, e1, e2, e3, e4, e5] at h2); omega), fun h2 => absurd hc (by (try simp only [e0, e1, e2, e3, e4, e5] at h2); omega), fun h2 => absurd hc (by (try simp only [e0, e1, e2, e3, e4, e5] at h2); omega), fun h2 => absurd hc (by (try simp only [e0, e1, e2, e3, e4, e5] at h2); omega), fun h2 => absurd hc (by (try simp only [e0, e1, e2, e3, e4, e5] at h2); omega), fun _ => hr Q hq⟩⟩)))))))))
set_option maxRecDepth 100000 in
set_option maxHeartbeats 4000000 in
theorem drb_X12_fails_30 (S : r_S) (x1 : Int32) (x2 : Int32) (x3 : Int32) (x4 : Int32) (xs0 : Int32) : dt2 (fun Q => rb_X12_fails_30   S x1 x2 x3 x4 xs0 Q) := by
  unfold rb_X12_fails_30
  exact (ifn2 (drb_X12_fails_57 _ _ _ _ _ _) (gd2 (gd2 (if2 (drb_X12_fails_57 _ _ _ _ _ _) (drb_X12_fails_57 _ _ _ _ _ _)))))
set_option maxRecDepth 100000 in
set_option maxHeartbeats 4000000 in
theorem drm_X12_fails (S : r_S) (x1 : Int32) (x2 : Int32) (x3 : Int32) : dt2 (fun Q => rm_X12_fails   S x1 x2 x3 Q) := by
  unfold rm_X12_fails
  exact (b22 (drm_X12_partitionOf _ _) fun r100_ S101_ => (exi2 fun x102_ => (b22 (drm_X12_isHandler _ _) fun r104_ S105_ => (exi2 fun x106_ => (if2 (gd2 (drb_X12_fails_30 _ _ _ _ _ _)) (drb_X12_fails_30 _ _ _ _ _ _))))))
set_option maxRecDepth 100000 in
set_option maxHeartbeats 4000000 in
theorem drb_X12_nextOf_16 (S : r_S) : dt2 (fun Q => rb_X12_nextOf_16   S Q) := by
  unfold rb_X12_nextOf_16
  exact lf2
set_option maxRecDepth 100000 in
set_option maxHeartbeats 4000000 in
theorem drb_X12_nextOf_156 {B73 : (Option Value → r_S → Prop) → r_S → Int32 → Int32 → Int32 → Prop} (hB73 : ∀ y0 y1 y2 y3, dt2 (fun Q => B73 Q y0 y1 y2 y3)) (S : r_S) (x1 : Int32) (x2 : Int32) (x3 : Int32) : dt2 (fun Q => rb_X12_nextOf_156  (B73 Q) S x1 x2 x3 Q) := by
  unfold rb_X12_nextOf_156
  exact (hB73 _ _ _ _)
set_option maxRecDepth 100000 in
set_option maxHeartbeats 4000000 in
theorem drb_X12_nextOf_154 {B73 : (Option Value → r_S → Prop) → r_S → Int32 → Int32 → Int32 → Prop} (hB73 : ∀ y0 y1 y2 y3, dt2 (fun Q => B73 Q y0 y1 y2 y3)) (S : r_S) (x1 : Int32) (x3 : Int32) : dt2 (fun Q => rb_X12_nextOf_154  (B73 Q) S x1 x3 Q) := by
  unfold rb_X12_nextOf_154
  exact (drb_X12_nextOf_156 hB73 _ _ _ _)
set_option maxRecDepth 100000 in
set_option maxHeartbeats 4000000 in
theorem drb_X12_nextOf_73 {B73 : (Option Value → r_S → Prop) → r_S → Int32 → Int32 → Int32 → Prop} (hB73 : ∀ y0 y1 y2 y3, dt2 (fun Q => B73 Q y0 y1 y2 y3)) (S : r_S) (x1 : Int32) (x2 : Int32) (x3 : Int32) : dt2 (fun Q => rb_X12_nextOf_73  (B73 Q) S x1 x2 x3 Q) := by
  unfold rb_X12_nextOf_73
  exact (b22 (drm_X12_lastOf _ _) fun r2_ S3_ => (exi2 fun x4_ => (if2 lf2 (gd2 (ifn2 (drb_X12_nextOf_156 hB73 _ _ _ _) (gd2 (if2 (if2 (drb_X12_nextOf_154 hB73 _ _ _) (gd2 (gd2 (if2 (drb_X12_nextOf_154 hB73 _ _ _) (gd2 (gd2 (ifn2 (drb_X12_nextOf_156 hB73 _ _ _ _) (gd2 (gd2 (if2 (drb_X12_nextOf_156 hB73 _ _ _ _) (drb_X12_nextOf_154 hB73 _ _ _))))))))))) (drb_X12_nextOf_156 hB73 _ _ _ _))))))))
theorem drl_X12_nextOf_73 (n : Nat) (S : r_S) (x1 : Int32) (x2 : Int32) (x3 : Int32) : dt2 (fun Q => rl_X12_nextOf_73   n S x1 x2 x3 Q) := by
  induction n generalizing S x1 x2 x3 with
  | zero => exact fa2
  | succ n ih => exact drb_X12_nextOf_73 (B73 := fun Q y0 y1 y2 y3 => rl_X12_nextOf_73   n y0 y1 y2 y3 Q) (fun y0 y1 y2 y3 => ih y0 y1 y2 y3) _ _ _ _
set_option maxRecDepth 100000 in
set_option maxHeartbeats 4000000 in
theorem drb_X12_nextOf_50 (S : r_S) (x1 : Int32) : dt2 (fun Q => rb_X12_nextOf_50   S x1 Q) := by
  unfold rb_X12_nextOf_50
  exact (gd2 (if2 (exn2 fun n39_ => (drl_X12_nextOf_73 _ _ _ _ _)) (gd2 lf2)))
set_option maxRecDepth 100000 in
set_option maxHeartbeats 4000000 in
theorem drm_X12_nextOf (S : r_S) (x1 : Int32) : dt2 (fun Q => rm_X12_nextOf   S x1 Q) := by
  unfold rm_X12_nextOf
  exact (if2 (drb_X12_nextOf_16 _) (gd2 (if2 (gd2 (if2 (drb_X12_nextOf_50 _ _) (gd2 (gd2 (ifn2 (drb_X12_nextOf_50 _ _) (gd2 lf2)))))) (drb_X12_nextOf_16 _))))
set_option maxRecDepth 100000 in
set_option maxHeartbeats 4000000 in
theorem drb_X12_isWithin_21 (S : r_S) (xs0 : Int32) : dt2 (fun Q => rb_X12_isWithin_21   S xs0 Q) := by
  unfold rb_X12_isWithin_21
  exact (gd2 lf2)
set_option maxRecDepth 100000 in
set_option maxHeartbeats 4000000 in
theorem drb_X12_isWithin_20 (S : r_S) : dt2 (fun Q => rb_X12_isWithin_20   S Q) := by
  unfold rb_X12_isWithin_20
  exact (drb_X12_isWithin_21 _ _)
set_option maxRecDepth 100000 in
set_option maxHeartbeats 4000000 in
theorem drm_X12_isWithin (S : r_S) (x1 : Int32) (x2 : Int32) (x3 : Int32) : dt2 (fun Q => rm_X12_isWithin   S x1 x2 x3 Q) := by
  unfold rm_X12_isWithin
  exact (if2 (drb_X12_isWithin_20 _) (gd2 (if2 (drb_X12_isWithin_20 _) (drb_X12_isWithin_21 _ _))))
set_option maxRecDepth 100000 in
set_option maxHeartbeats 4000000 in
theorem drb_X12_isIn_87 {B9 : (Option Value → r_S → Prop) → r_S → Int32 → Int32 → Int32 → Int32 → Int32 → Prop} (hB9 : ∀ y0 y1 y2 y3 y4 y5, dt2 (fun Q => B9 Q y0 y1 y2 y3 y4 y5)) (S : r_S) (x1 : Int32) (x2 : Int32) (x3 : Int32) (x5 : Int32) (xs0 : Int32) : dt2 (fun Q => rb_X12_isIn_87  (B9 Q) S x1 x2 x3 x5 xs0 Q) := by
  unfold rb_X12_isIn_87
  exact (hB9 _ _ _ _ _ _)
set_option maxRecDepth 100000 in
set_option maxHeartbeats 4000000 in
theorem drb_X12_isIn_82 {B9 : (Option Value → r_S → Prop) → r_S → Int32 → Int32 → Int32 → Int32 → Int32 → Prop} (hB9 : ∀ y0 y1 y2 y3 y4 y5, dt2 (fun Q => B9 Q y0 y1 y2 y3 y4 y5)) (S : r_S) (x1 : Int32) (x2 : Int32) (x3 : Int32) (x5 : Int32) : dt2 (fun Q => rb_X12_isIn_82  (B9 Q) S x1 x2 x3 x5 Q) := by
  unfold rb_X12_isIn_82
  exact (drb_X12_isIn_87 hB9 _ _ _ _ _ _)
set_option maxRecDepth 100000 in
set_option maxHeartbeats 4000000 in
theorem drb_X12_isIn_86 {B9 : (Option Value → r_S → Prop) → r_S → Int32 → Int32 → Int32 → Int32 → Int32 → Prop} (hB9 : ∀ y0 y1 y2 y3 y4 y5, dt2 (fun Q => B9 Q y0 y1 y2 y3 y4 y5)) (S : r_S) (x1 : Int32) (x2 : Int32) (x3 : Int32) (x5 : Int32) : dt2 (fun Q => rb_X12_isIn_86  (B9 Q) S x1 x2 x3 x5 Q) := by
  unfold rb_X12_isIn_86
  exact (drb_X12_isIn_87 hB9 _ _ _ _ _ _)
set_option maxRecDepth 100000 in
set_option maxHeartbeats 4000000 in
theorem drb_X12_isIn_9 {B9 : (Option Value → r_S → Prop) → r_S → Int32 → Int32 → Int32 → Int32 → Int32 → Prop} (hB9 : ∀ y0 y1 y2 y3 y4 y5, dt2 (fun Q => B9 Q y0 y1 y2 y3 y4 y5)) (S : r_S) (x1 : Int32) (x2 : Int32) (x3 : Int32) (x4 : Int32) (x5 : Int32) : dt2 (fun Q => rb_X12_isIn_9  (B9 Q) S x1 x2 x3 x4 x5 Q) := by
  unfold rb_X12_isIn_9
  exact (gd2 (if2 (gd2 lf2) (ifn2 (drb_X12_isIn_82 hB9 _ _ _ _ _) (gd2 (if2 (drb_X12_isIn_86 hB9 _ _ _ _ _) (gd2 (gd2 (if2 (drb_X12_isIn_86 hB9 _ _ _ _ _) (gd2 (if2 (drb_X12_isIn_82 hB9 _ _ _ _ _) (gd2 (ifn2 (drb_X12_isIn_86 hB9 _ _ _ _ _) (drb_X12_isIn_82 hB9 _ _ _ _ _)))))))))))))
theorem drl_X12_isIn_9 (n : Nat) (S : r_S) (x1 : Int32) (x2 : Int32) (x3 : Int32) (x4 : Int32) (x5 : Int32) : dt2 (fun Q => rl_X12_isIn_9   n S x1 x2 x3 x4 x5 Q) := by
  induction n generalizing S x1 x2 x3 x4 x5 with
  | zero => exact fa2
  | succ n ih => exact drb_X12_isIn_9 (B9 := fun Q y0 y1 y2 y3 y4 y5 => rl_X12_isIn_9   n y0 y1 y2 y3 y4 y5 Q) (fun y0 y1 y2 y3 y4 y5 => ih y0 y1 y2 y3 y4 y5) _ _ _ _ _ _
set_option maxRecDepth 100000 in
set_option maxHeartbeats 4000000 in
theorem drm_X12_isIn (S : r_S) (x1 : Int32) (x2 : Int32) (x3 : Int32) : dt2 (fun Q => rm_X12_isIn   S x1 x2 x3 Q) := by
  unfold rm_X12_isIn
  exact (exn2 fun n26_ => (drl_X12_isIn_9 _ _ _ _ _ _ _))
set_option maxRecDepth 100000 in
set_option maxHeartbeats 4000000 in
theorem drb_X12_read_8 {B8 : (Option Value → r_S → Prop) → r_S → Int32 → Int32 → Int32 → Int32 → Prop} (hB8 : ∀ y0 y1 y2 y3 y4, dt2 (fun Q => B8 Q y0 y1 y2 y3 y4)) (S : r_S) (x1 : Int32) (x2 : Int32) (x4 : Int32) (x5 : Int32) : dt2 (fun Q => rb_X12_read_8  (B8 Q) S x1 x2 x4 x5 Q) := by
  unfold rb_X12_read_8
  exact (if2 lf2 (gd2 (hB8 _ _ _ _ _)))
theorem drl_X12_read_8 (n : Nat) (S : r_S) (x1 : Int32) (x2 : Int32) (x4 : Int32) (x5 : Int32) : dt2 (fun Q => rl_X12_read_8   n S x1 x2 x4 x5 Q) := by
  induction n generalizing S x1 x2 x4 x5 with
  | zero => exact fa2
  | succ n ih => exact drb_X12_read_8 (B8 := fun Q y0 y1 y2 y3 y4 => rl_X12_read_8   n y0 y1 y2 y3 y4 Q) (fun y0 y1 y2 y3 y4 => ih y0 y1 y2 y3 y4) _ _ _ _ _
set_option maxRecDepth 100000 in
set_option maxHeartbeats 4000000 in
theorem drm_X12_read (S : r_S) (x1 : Int32) (x2 : Int32) (x3 : Int32) : dt2 (fun Q => rm_X12_read   S x1 x2 x3 Q) := by
  unfold rm_X12_read
  exact (exn2 fun n7_ => (drl_X12_read_8 _ _ _ _ _ _))
set_option maxRecDepth 100000 in
set_option maxHeartbeats 4000000 in
theorem drb_X12_set_16 (S : r_S) : dt2 (fun Q => rb_X12_set_16   S Q) := by
  unfold rb_X12_set_16
  exact lf2
set_option maxRecDepth 100000 in
set_option maxHeartbeats 4000000 in
theorem drm_X12_set (S : r_S) (x1 : Int32) (x2 : Int32) (x3 : Int32) : dt2 (fun Q => rm_X12_set   S x1 x2 x3 Q) := by
  unfold rm_X12_set
  exact (if2 (drb_X12_set_16 _) (gd2 (drb_X12_set_16 _)))
set_option maxRecDepth 100000 in
set_option maxHeartbeats 4000000 in
theorem drb_X12_isBelow_18 (S : r_S) (xs0 : Int32) : dt2 (fun Q => rb_X12_isBelow_18   S xs0 Q) := by
  unfold rb_X12_isBelow_18
  exact (gd2 lf2)
set_option maxRecDepth 100000 in
set_option maxHeartbeats 4000000 in
theorem drm_X12_isBelow (S : r_S) (x1 : Int32) (x2 : Int32) : dt2 (fun Q => rm_X12_isBelow   S x1 x2 Q) := by
  unfold rm_X12_isBelow
  exact (if2 (drb_X12_isBelow_18 _ _) (drb_X12_isBelow_18 _ _))
set_option maxRecDepth 100000 in
set_option maxHeartbeats 4000000 in
theorem drb_X12_load__95 (S : r_S) (x2 : Int32) (xs1 : Int32) (xs2 : Int32) (xs3 : Int32) : dt2 (fun Q => rb_X12_load__95   S x2 xs1 xs2 xs3 Q) := by
  unfold rb_X12_load__95
  exact (b22 (drm_X12_set _ _ _ _) fun r2_ S3_ => (gd2 (gd2 (gd2 lf2))))
set_option maxRecDepth 100000 in
set_option maxHeartbeats 4000000 in
theorem drm_X12_load_ (S : r_S) (x1 : Int32) (x2 : Int32) (x3 : Int32) (x4 : Int32) (x5 : Int32) : dt2 (fun Q => rm_X12_load_   S x1 x2 x3 x4 x5 Q) := by
  unfold rm_X12_load_
  exact (gd2 (if2 (b22 (drm_X12_isWithin _ _ _ _) fun r13_ S14_ => (exi2 fun x15_ => (ifn2 (b22 (drm_X12_read _ _ _ _) fun r18_ S19_ => (exi2 fun x20_ => (ifn2 (ifn2 (drb_X12_load__95 _ _ _ _ _) (drb_X12_load__95 _ _ _ _ _)) (drb_X12_load__95 _ _ _ _ _)))) (b22 (drm_X12_fails _ _ _ _) fun r24_ S25_ => (gd2 lf2))))) (b22 (drm_X12_fails _ _ _ _) fun r27_ S28_ => (gd2 lf2))))
set_option maxRecDepth 100000 in
set_option maxHeartbeats 4000000 in
theorem drb_X12_store_45 (S : r_S) (x2 : Int32) (x4 : Int32) : dt2 (fun Q => rb_X12_store_45   S x2 x4 Q) := by
  unfold rb_X12_store_45
  exact (b22 (drm_X12_fails _ _ _ _) fun r2_ S3_ => (gd2 lf2))
set_option maxRecDepth 100000 in
set_option maxHeartbeats 4000000 in
theorem drb_X12_store_57 {B57 : (Option Value → r_S → Prop) → r_S → Int32 → Int32 → Int32 → Int32 → Int32 → Int32 → Prop} (hB57 : ∀ y0 y1 y2 y3 y4 y5 y6, dt2 (fun Q => B57 Q y0 y1 y2 y3 y4 y5 y6)) (S : r_S) (x1 : Int32) (x2 : Int32) (x4 : Int32) (x5 : Int32) (x6 : Int32) (x7 : Int32) : dt2 (fun Q => rb_X12_store_57  (B57 Q) S x1 x2 x4 x5 x6 x7 Q) := by
  unfold rb_X12_store_57
  exact (if2 (gd2 (gd2 lf2)) (gd2 (hB57 _ _ _ _ _ _ _)))
theorem drl_X12_store_57 (n : Nat) (S : r_S) (x1 : Int32) (x2 : Int32) (x4 : Int32) (x5 : Int32) (x6 : Int32) (x7 : Int32) : dt2 (fun Q => rl_X12_store_57   n S x1 x2 x4 x5 x6 x7 Q) := by
  induction n generalizing S x1 x2 x4 x5 x6 x7 with
  | zero => exact fa2
  | succ n ih => exact drb_X12_store_57 (B57 := fun Q y0 y1 y2 y3 y4 y5 y6 => rl_X12_store_57   n y0 y1 y2 y3 y4 y5 y6 Q) (fun y0 y1 y2 y3 y4 y5 y6 => ih y0 y1 y2 y3 y4 y5 y6) _ _ _ _ _ _ _
set_option maxRecDepth 100000 in
set_option maxHeartbeats 4000000 in
theorem drm_X12_store (S : r_S) (x1 : Int32) (x2 : Int32) (x3 : Int32) (x4 : Int32) (x5 : Int32) : dt2 (fun Q => rm_X12_store   S x1 x2 x3 x4 x5 Q) := by
  unfold rm_X12_store
  exact (gd2 (if2 (b22 (drm_X12_isWithin _ _ _ _) fun r19_ S20_ => (exi2 fun x21_ => (if2 (drb_X12_store_45 _ _ _) (b22 (drm_X12_isIn _ _ _ _) fun r24_ S25_ => (exi2 fun x26_ => (ifn2 (exn2 fun n28_ => (drl_X12_store_57 _ _ _ _ _ _ _ _)) (drb_X12_store_45 _ _ _))))))) (b22 (drm_X12_fails _ _ _ _) fun r30_ S31_ => (gd2 lf2))))
set_option maxRecDepth 100000 in
set_option maxHeartbeats 4000000 in
theorem drb_X12_reckoned_105 (S : r_S) (xs0 : Int32) : dt2 (fun Q => rb_X12_reckoned_105   S xs0 Q) := by
  unfold rb_X12_reckoned_105
  exact lf2
set_option maxRecDepth 100000 in
set_option maxHeartbeats 4000000 in
theorem drb_X12_reckoned_80 (S : r_S) (xs0 : Int32) : dt2 (fun Q => rb_X12_reckoned_80   S xs0 Q) := by
  unfold rb_X12_reckoned_80
  exact lf2
set_option maxRecDepth 100000 in
set_option maxHeartbeats 4000000 in
theorem drb_X12_reckoned_65 (S : r_S) (xs0 : Int32) : dt2 (fun Q => rb_X12_reckoned_65   S xs0 Q) := by
  unfold rb_X12_reckoned_65
  exact lf2
set_option maxRecDepth 100000 in
set_option maxHeartbeats 4000000 in
theorem drm_X12_reckoned (S : r_S) (x1 : Int32) (x2 : Int32) (x3 : Int32) (x4 : Int32) : dt2 (fun Q => rm_X12_reckoned   S x1 x2 x3 x4 Q) := by
  unfold rm_X12_reckoned
  exact (by
    have e0 : (x1 = (0 : Int32)) ↔ (x1).toInt = 0 := sw_iff (by decide)
    have e1 : (x1 = (1 : Int32)) ↔ (x1).toInt = 1 := sw_iff (by decide)
    have e2 : (x1 = (2 : Int32)) ↔ (x1).toInt = 2 := sw_iff (by decide)
    have e3 : (x1 = (3 : Int32)) ↔ (x1).toInt = 3 := sw_iff (by decide)
    have e4 : (x1 = (4 : Int32)) ↔ (x1).toInt = 4 := sw_iff (by decide)
    have e5 : (x1 = (5 : Int32)) ↔ (x1).toInt = 5 := sw_iff (by decide)
    have e6 : (x1 = (6 : Int32)) ↔ (x1).toInt = 6 := sw_iff (by decide)
    have ex : ((x1.toInt < 0 ∨ 6 < x1.toInt)) ∨ ((x1 = (0 : Int32))) ∨ ((x1 = (1 : Int32))) ∨ ((x1 = (2 : Int32))) ∨ ((x1 = (3 : Int32))) ∨ ((x1 = (4 : Int32))) ∨ ((x1 = (5 : Int32))) ∨ ((x1 = (6 : Int32))) := by
      simp only [e0, e1, e2, e3, e4, e5, e6]; omega
    intro P h
    have t0 : dt2 (fun Q : Option Value → r_S → Prop => (Q (some (.int (x2 &&& x3))) S)) := lf2
    have t1 : dt2 (fun Q : Option Value → r_S → Prop => (Q (some (.int (x2 + x3))) S)) := lf2
    have t2 : dt2 (fun Q : Option Value → r_S → Prop => (Q (some (.int (x2 <<< ((x3 &&& (31 : Int32)) &&& 31)))) S)) := lf2
    have t3 : dt2 (fun Q : Option Value → r_S → Prop => ((x3 ≤ x2 → (rb_X12_reckoned_65 S (0 : Int32) Q)) ∧ (¬ x3 ≤ x2 → (rb_X12_reckoned_65 S (1 : Int32) Q)))) := (if2 (drb_X12_reckoned_65 _ _) (drb_X12_reckoned_65 _ _))
    have t4 : dt2 (fun Q : Option Value → r_S → Prop => (rm_X12_isBelow S x2 x3 (fun r3_ S4_ => ∃ x5_ : Int32, r3_ = some (.int x5_) ∧ ((x5_ = 0 → (rb_X12_reckoned_80 S4_ (0 : Int32) Q)) ∧ (¬ x5_ = 0 → (rb_X12_reckoned_80 S4_ (1 : Int32) Q)))))) := (b22 (drm_X12_isBelow _ _ _) fun r3_ S4_ => (exi2 fun x5_ => (if2 (drb_X12_reckoned_80 _ _) (drb_X12_reckoned_80 _ _))))
    have t5 : dt2 (fun Q : Option Value → r_S → Prop => (Q (some (.int (x2 ^^^ x3))) S)) := lf2
    have t6 : dt2 (fun Q : Option Value → r_S → Prop => ((x4 = 0 → (rb_X12_reckoned_105 S (x2.toUInt32 >>> ((x3 &&& (31 : Int32)).toUInt32 &&& Int32.toUInt32 31)).toInt32 Q)) ∧ (¬ x4 = 0 → (rb_X12_reckoned_105 S (x2 >>> ((x3 &&& (31 : Int32)) &&& 31)) Q)))) := (if2 (drb_X12_reckoned_105 _ _) (drb_X12_reckoned_105 _ _))
    have t7 : dt2 (fun Q : Option Value → r_S → Prop => (Q (some (.int (x2 ||| x3))) S)) := lf2
    rcases ex with hc | hc | hc | hc | hc | hc | hc | hc
    · obtain ⟨v, s, hp, hr⟩ := t0 P (h.1 hc)
      try simp only [e0, e1, e2, e3, e4, e5, e6] at hc
      exact ⟨v, s, hp, fun Q hq => ⟨fun _ => hr Q hq, fun h2 => absurd hc (by (try simp only [e0, e1, e2, e3, e4, e5, e6] at h2); omega), fun h2 => absurd hc (by (try simp only [e0, e1, e2, e3, e4, e5, e6] at h2); omega), fun h2 => absurd hc (by (try simp only [e0, e1, e2, e3, e4, e5, e6] at h2); omega), fun h2 => absurd hc (by (try simp only [e0, e1, e2, e3, e4, e5, e6] at h2); omega), fun h2 => absurd hc (by (try simp only [e0, e1, e2, e3, e4, e5, e6] at h2); omega), fun h2 => absurd hc (by (try simp only [e0, e1, e2, e3, e4, e5, e6] at h2); omega), fun h2 => absurd hc (by (try simp only [e0, e1, e2, e3, e4, e5, e6] at h2); omega)⟩⟩
    · obtain ⟨v, s, hp, hr⟩ := t1 P (h.2.1 hc)
      try simp only [e0, e1, e2, e3, e4, e5, e6] at hc
      exact ⟨v, s, hp, fun Q hq => ⟨fun h2 => absurd hc (by (try simp only [e0, e1, e2, e3, e4, e5, e6] at h2); omega), fun _ => hr Q hq, fun h2 => absurd hc (by (try simp only [e0, e1, e2, e3, e4, e5, e6] at h2); omega), fun h2 => absurd hc (by (try simp only [e0, e1, e2, e3, e4, e5, e6] at h2); omega), fun h2 => absurd hc (by (try simp only [e0, e1, e2, e3, e4, e5, e6] at h2); omega), fun h2 => absurd hc (by (try simp only [e0, e1, e2, e3, e4, e5, e6] at h2); omega), fun h2 => absurd hc (by (try simp only [e0, e1, e2, e3, e4, e5, e6] at h2); omega), fun h2 => absurd hc (by (try simp only [e0, e1, e2, e3, e4, e5, e6] at h2); omega)⟩⟩
    · obtain ⟨v, s, hp, hr⟩ := t2 P (h.2.2.1 hc)
      try simp only [e0, e1, e2, e3, e4, e5, e6] at hc
      exact ⟨v, s, hp, fun Q hq => ⟨fun h2 => absurd hc (by (try simp only [e0, e1, e2, e3, e4, e5, e6] at h2); omega), fun h2 => absurd hc (by (try simp only [e0, e1, e2, e3, e4, e5, e6] at h2); omega), fun _ => hr Q hq, fun h2 => absurd hc (by (try simp only [e0, e1, e2, e3, e4, e5, e6] at h2); omega), fun h2 => absurd hc (by (try simp only [e0, e1, e2, e3, e4, e5, e6] at h2); omega), fun h2 => absurd hc (by (try simp only [e0, e1, e2, e3, e4, e5, e6] at h2); omega), fun h2 => absurd hc (by (try simp only [e0, e1, e2, e3, e4, e5, e6] at h2); omega), fun h2 => absurd hc (by (try simp only [e0, e1, e2, e3, e4, e5, e6] at h2); omega)⟩⟩
    · obtain ⟨v, s, hp, hr⟩ := t3 P (h.2.2.2.1 hc)
      try simp only [e0, e1, e2, e3, e4, e5, e6] at hc
      exact ⟨v, s, hp, fun Q hq => ⟨fun h2 => absurd hc (by (try simp only [e0, e1, e2, e3, e4, e5, e6] at h2); omega), fun h2 => absurd hc (by (try simp only [e0, e1, e2, e3, e4, e5, e6] at h2); omega), fun h2 => absurd hc (by (try simp only [e0, e1, e2, e3, e4, e5, e6] at h2); omega), fun _ => hr Q hq, fun h2 => absurd hc (by (try simp only [e0, e1, e2, e3, e4, e5, e6] at h2); omega), fun h2 => absurd hc (by (try simp only [e0, e1, e2, e3, e4, e5, e6] at h2); omega), fun h2 => absurd hc (by (try simp only [e0, e1, e2, e3, e4, e5, e6] at h2); omega), fun h2 => absurd hc (by (try simp only [e0, e1, e2, e3, e4, e5, e6] at h2); omega)⟩⟩
    · obtain ⟨v, s, hp, hr⟩ := t4 P (h.2.2.2.2.1 hc)
      try simp only [e0, e1, e2, e3, e4, e5, e6] at hc
      exact ⟨v, s, hp, fun Q hq => ⟨fun h2 => absurd hc (by (try simp only [e0, e1, e2, e3, e4, e5, e6] at h2); omega), fun h2 => absurd hc (by (try simp only [e0, e1, e2, e3, e4, e5, e6] at h2); omega), fun h2 => absurd hc (by (try simp only [e0, e1, e2, e3, e4, e5, e6] at h2); omega), fun h2 => absurd hc (by (try simp only [e0, e1, e2, e3, e4, e5, e6] at h2); omega), fun _ => hr Q hq, fun h2 => absurd hc (by (try simp only [e0, e1, e2, e3, e4, e5, e6] at h2); omega), fun h2 => absurd hc (by (try simp only [e0, e1, e2, e3, e4, e5, e6] at h2); omega), fun h2 => absurd hc (by (try simp only [e0, e1, e2, e3, e4, e5, e6] at h2); omega)⟩⟩
    · obtain ⟨v, s, hp, hr⟩ := t5 P (h.2.2.2.2.2.1 hc)
      try simp only [e0, e1, e2, e3, e4, e5, e6] at hc
      exact ⟨v, s, hp, fun Q hq => ⟨fun h2 => absurd hc (by (try simp only [e0, e1, e2, e3, e4, e5, e6] at h2); omega), fun h2 => absurd hc (by (try simp only [e0, e1, e2, e3, e4, e5, e6] at h2); omega), fun h2 => absurd hc (by (try simp only [e0, e1, e2, e3, e4, e5, e6] at h2); omega), fun h2 => absurd hc (by (try simp only [e0, e1, e2, e3, e4, e5, e6] at h2); omega), fun h2 => absurd hc (by (try simp only [e0, e1, e2, e3, e4, e5, e6] at h2); omega), fun _ => hr Q hq, fun h2 => absurd hc (by (try simp only [e0, e1, e2, e3, e4, e5, e6] at h2); omega), fun h2 => absurd hc (by (try simp only [e0, e1, e2, e3, e4, e5, e6] at h2); omega)⟩⟩
    · obtain ⟨v, s, hp, hr⟩ := t6 P (h.2.2.2.2.2.2.1 hc)
      try simp only [e0, e1, e2, e3, e4, e5, e6] at hc
      exact ⟨v, s, hp, fun Q hq => ⟨fun h2 => absurd hc (by (try simp only [e0, e1, e2, e3, e4, e5, e6] at h2); omega), fun h2 => absurd hc (by (try simp only [e0, e1, e2, e3, e4, e5, e6] at h2); omega), fun h2 => absurd hc (by (try simp only [e0, e1, e2, e3, e4, e5, e6] at h2); omega), fun h2 => absurd hc (by (try simp only [e0, e1, e2, e3, e4, e5, e6] at h2); omega), fun h2 => absurd hc (by (try simp only [e0, e1, e2, e3, e4, e5, e6] at h2); omega), fun h2 => absurd hc (by (try simp only [e0, e1, e2, e3, e4, e5, e6] at h2); omega), fun _ => hr Q hq, fun h2 => absurd hc (by (try simp only [e0, e1, e2, e3, e4, e5, e6] at h2); omega)⟩⟩
    · obtain ⟨v, s, hp, hr⟩ := t7 P (h.2.2.2.2.2.2.2 hc)
      try simp only [e0, e1, e2, e3, e4, e5, e6] at hc
      exact ⟨v, s, hp, fun Q hq => ⟨fun h2 => absurd hc (by (try simp only [e0, e1, e2, e3, e4, e5, e6] at h2); omega), fun h2 => absurd hc (by (try simp only [e0, e1, e2, e3, e4, e5, e6] at h2); omega), fun h2 => absurd hc (by (try simp only [e0, e1, e2, e3, e4, e5, e6] at h2); omega), fun h2 => absurd hc (by (try simp only [e0, e1, e2, e3, e4, e5, e6] at h2); omega), fun h2 => absurd hc (by (try simp only [e0, e1, e2, e3, e4, e5, e6] at h2); omega), fun h2 => absurd hc (by (try simp only [e0, e1, e2, e3, e4, e5, e6] at h2); omega), fun h2 => absurd hc (by (try simp only [e0, e1, e2, e3, e4, e5, e6] at h2); omega), fun _ => hr Q hq⟩⟩)
set_option maxRecDepth 100000 in
set_option maxHeartbeats 4000000 in
theorem drb_X12_waitsUntil_21 (S : r_S) : dt2 (fun Q => rb_X12_waitsUntil_21   S Q) := by
  unfold rb_X12_waitsUntil_21
  exact lf2
set_option maxRecDepth 100000 in
set_option maxHeartbeats 4000000 in
theorem drm_X12_waitsUntil (S : r_S) (x1 : Int32) (x2 : Int32) : dt2 (fun Q => rm_X12_waitsUntil   S x1 x2 Q) := by
  unfold rm_X12_waitsUntil
  exact (b22 (drm_X12_partitionOf _ _) fun r2_ S3_ => (exi2 fun x4_ => (gd2 (if2 (drb_X12_waitsUntil_21 _) (b22 (drm_X12_isHandler _ _) fun r11_ S12_ => (exi2 fun x13_ => (if2 (gd2 (gd2 (gd2 (al2 fun S28_ => lf2)))) (drb_X12_waitsUntil_21 _))))))))
set_option maxRecDepth 100000 in
set_option maxHeartbeats 4000000 in
theorem drb_X12_periodic_75 (S : r_S) : dt2 (fun Q => rb_X12_periodic_75   S Q) := by
  unfold rb_X12_periodic_75
  exact lf2
set_option maxRecDepth 100000 in
set_option maxHeartbeats 4000000 in
theorem drm_X12_periodic (S : r_S) (x1 : Int32) : dt2 (fun Q => rm_X12_periodic   S x1 Q) := by
  unfold rm_X12_periodic
  exact (gd2 (gd2 (b22 (drm_X12_waitsUntil _ _ _) fun r10_ S11_ => (exi2 fun x12_ => (if2 (gd2 (gd2 (gd2 (gd2 (if2 (drb_X12_periodic_75 _) (gd2 (gd2 (gd2 (gd2 (al2 fun S45_ => (drb_X12_periodic_75 _))))))))))) lf2)))))
set_option maxRecDepth 100000 in
set_option maxHeartbeats 4000000 in
theorem drb_X12_isProcess_24 (S : r_S) (xs0 : Int32) : dt2 (fun Q => rb_X12_isProcess_24   S xs0 Q) := by
  unfold rb_X12_isProcess_24
  exact (gd2 lf2)
set_option maxRecDepth 100000 in
set_option maxHeartbeats 4000000 in
theorem drb_X12_isProcess_23 (S : r_S) : dt2 (fun Q => rb_X12_isProcess_23   S Q) := by
  unfold rb_X12_isProcess_23
  exact (drb_X12_isProcess_24 _ _)
set_option maxRecDepth 100000 in
set_option maxHeartbeats 4000000 in
theorem drm_X12_isProcess (S : r_S) (x1 : Int32) (x2 : Int32) : dt2 (fun Q => rm_X12_isProcess   S x1 x2 Q) := by
  unfold rm_X12_isProcess
  exact (if2 (drb_X12_isProcess_23 _) (gd2 (if2 (drb_X12_isProcess_23 _) (drb_X12_isProcess_24 _ _))))
set_option maxRecDepth 100000 in
set_option maxHeartbeats 4000000 in
theorem drm_X12_starts (S : r_S) (x1 : Int32) (x2 : Int32) (x3 : Int32) : dt2 (fun Q => rm_X12_starts   S x1 x2 x3 Q) := by
  unfold rm_X12_starts
  exact (b22 (drm_X12_isProcess _ _ _) fun r2_ S3_ => (exi2 fun x4_ => (ifn2 (gd2 (if2 (b22 (drm_X12_isHandler _ _) fun r12_ S13_ => (exi2 fun x14_ => (if2 (b22 (drm_X12_startsAt _ _ _) fun r17_ S18_ => (gd2 lf2)) lf2))) lf2)) lf2)))
set_option maxRecDepth 100000 in
set_option maxHeartbeats 4000000 in
theorem drb_X12_stops_22 (S : r_S) : dt2 (fun Q => rb_X12_stops_22   S Q) := by
  unfold rb_X12_stops_22
  exact lf2
set_option maxRecDepth 100000 in
set_option maxHeartbeats 4000000 in
theorem drb_X12_stops_65 (S : r_S) (xs0 : Int32) : dt2 (fun Q => rb_X12_stops_65   S xs0 Q) := by
  unfold rb_X12_stops_65
  exact lf2
set_option maxRecDepth 100000 in
set_option maxHeartbeats 4000000 in
theorem drm_X12_stops (S : r_S) (x1 : Int32) (x2 : Int32) (x3 : Int32) : dt2 (fun Q => rm_X12_stops   S x1 x2 x3 Q) := by
  unfold rm_X12_stops
  exact (b22 (drm_X12_isProcess _ _ _) fun r2_ S3_ => (exi2 fun x4_ => (if2 (drb_X12_stops_22 _) (b22 (drm_X12_isHandler _ _) fun r7_ S8_ => (exi2 fun x9_ => (if2 (gd2 (ifn2 (b22 (drm_X12_dormant _ _) fun r17_ S18_ => (gd2 (ifn2 (drb_X12_stops_65 _ _) (drb_X12_stops_65 _ _)))) lf2)) (drb_X12_stops_22 _)))))))
set_option maxRecDepth 100000 in
set_option maxHeartbeats 4000000 in
theorem drb_X12_ofProcesses_140 (S : r_S) : dt2 (fun Q => rb_X12_ofProcesses_140   S Q) := by
  unfold rb_X12_ofProcesses_140
  exact lf2
set_option maxRecDepth 100000 in
set_option maxHeartbeats 4000000 in
theorem drb_X12_ofProcesses_82 (S : r_S) : dt2 (fun Q => rb_X12_ofProcesses_82   S Q) := by
  unfold rb_X12_ofProcesses_82
  exact lf2
set_option maxRecDepth 100000 in
set_option maxHeartbeats 4000000 in
theorem drm_X12_ofProcesses (S : r_S) (x1 : Int32) (x2 : Int32) (x3 : Int32) (x4 : Int32) (x5 : Int32) : dt2 (fun Q => rm_X12_ofProcesses   S x1 x2 x3 x4 x5 Q) := by
  unfold rm_X12_ofProcesses
  exact (by
    have e0 : (x1 = (0 : Int32)) ↔ (x1).toInt = 0 := sw_iff (by decide)
    have e1 : (x1 = (1 : Int32)) ↔ (x1).toInt = 1 := sw_iff (by decide)
    have e2 : (x1 = (2 : Int32)) ↔ (x1).toInt = 2 := sw_iff (by decide)
    have e3 : (x1 = (3 : Int32)) ↔ (x1).toInt = 3 := sw_iff (by decide)
    have e4 : (x1 = (4 : Int32)) ↔ (x1).toInt = 4 := sw_iff (by decide)
    have e5 : (x1 = (5 : Int32)) ↔ (x1).toInt = 5 := sw_iff (by decide)
    have e6 : (x1 = (6 : Int32)) ↔ (x1).toInt = 6 := sw_iff (by decide)
    have ex : ((x1.toInt < 0 ∨ 6 < x1.toInt)) ∨ ((x1 = (0 : Int32))) ∨ ((x1 = (1 : Int32))) ∨ ((x1 = (2 : Int32))) ∨ ((x1 = (3 : Int32))) ∨ ((x1 = (4 : Int32))) ∨ ((x1 = (5 : Int32))) ∨ ((x1 = (6 : Int32))) := by
      simp only [e0, e1, e2, e3, e4, e5, e6]; omega
    intro P h
    have t0 : dt2 (fun Q : Option Value → r_S → Prop => (vp_in x3 (r_N 2476) ∧ (∀ S6_ : r_S, S6_ = (rs_A (rs_I S 2464 ((r_I S 2464) + (1 : Int32))) 2476 x3.toNatClampNeg (r_I (rs_I S 2464 ((r_I S 2464) + (1 : Int32))) 2464)) → (Q (some (.int (0 : Int32))) S6_)))) := (gd2 (al2 fun S6_ => lf2))
    have t1 : dt2 (fun Q : Option Value → r_S → Prop => (rm_X12_dormant S x3 (fun r8_ S9_ => r8_ = none ∧ (Q (some (.int (-1 : Int32))) S9_)))) := (b22 (drm_X12_dormant _ _) fun r8_ S9_ => (gd2 lf2))
    have t2 : dt2 (fun Q : Option Value → r_S → Prop => (vp_in x3 (r_N 2438) ∧ ((¬ (r_A S 2438 x3.toNatClampNeg) = 0 → (rm_X12_periodic S x3 (fun r16_ S17_ => ∃ x18_ : Int32, r16_ = some (.int x18_) ∧ (Q (some (.int x18_)) S17_)))) ∧ ((r_A S 2438 x3.toNatClampNeg) = 0 → (Q (some (.int (3 : Int32))) S))))) := (gd2 (ifn2 (b22 (drm_X12_periodic _ _) fun r16_ S17_ => (exi2 fun x18_ => lf2)) lf2))
    have t3 : dt2 (fun Q : Option Value → r_S → Prop => ((x4 < (1 : Int32) → (rb_X12_ofProcesses_82 S Q)) ∧ (¬ x4 < (1 : Int32) → ((x4 ≤ (100000 : Int32) → (rm_X12_waitsUntil S x3 ((r_I S 2463) + x4) (fun r22_ S23_ => ∃ x24_ : Int32, r22_ = some (.int x24_) ∧ (Q (some (.int x24_)) S23_)))) ∧ (¬ x4 ≤ (100000 : Int32) → (rb_X12_ofProcesses_82 S Q)))))) := (if2 (drb_X12_ofProcesses_82 _) (if2 (b22 (drm_X12_waitsUntil _ _ _) fun r22_ S23_ => (exi2 fun x24_ => lf2)) (drb_X12_ofProcesses_82 _)))
    have t4 : dt2 (fun Q : Option Value → r_S → Prop => (rm_X12_starts S x2 x4 (r_I S 2463) (fun r26_ S27_ => ∃ x28_ : Int32, r26_ = some (.int x28_) ∧ (Q (some (.int x28_)) S27_)))) := (b22 (drm_X12_starts _ _ _ _) fun r26_ S27_ => (exi2 fun x28_ => lf2))
    have t5 : dt2 (fun Q : Option Value → r_S → Prop => (rm_X12_stops S x2 x3 x4 (fun r30_ S31_ => ∃ x32_ : Int32, r30_ = some (.int x32_) ∧ (Q (some (.int x32_)) S31_)))) := (b22 (drm_X12_stops _ _ _ _) fun r30_ S31_ => (exi2 fun x32_ => lf2))
    have t6 : dt2 (fun Q : Option Value → r_S → Prop => (rm_X12_isProcess S x2 x4 (fun r34_ S35_ => ∃ x36_ : Int32, r34_ = some (.int x36_) ∧ ((x36_ = 0 → (rb_X12_ofProcesses_140 S35_ Q)) ∧ (¬ x36_ = 0 → ((x5 < 0 → (rb_X12_ofProcesses_140 S35_ Q)) ∧ (¬ x5 < 0 → ((x5 ≤ (15 : Int32) → (vp_in (((16 : Int32) * x2) + x4) (r_N 2469) ∧ (Q (some (.int (0 : Int32))) (rs_A S35_ 2469 (((16 : Int32) * x2) + x4).toNatClampNeg x5)))) ∧ (¬ x5 ≤ (15 : Int32) → (rb_X12_ofProcesses_140 S35_ Q)))))))))) := (b22 (drm_X12_isProcess _ _ _) fun r34_ S35_ => (exi2 fun x36_ => (if2 (drb_X12_ofProcesses_140 _) (if2 (drb_X12_ofProcesses_140 _) (if2 (gd2 lf2) (drb_X12_ofProcesses_140 _))))))
    have t7 : dt2 (fun Q : Option Value → r_S → Prop => (rm_X12_answer S x3 (r_I S 2463) (fun r46_ S47_ => r46_ = none ∧ (Q (some (.int (-1 : Int32))) S47_)))) := (b22 (drm_X12_answer _ _ _) fun r46_ S47_ => (gd2 lf2))
    rcases ex with hc | hc | hc | hc | hc | hc | hc | hc
    · obtain ⟨v, s, hp, hr⟩ := t0 P (h.1 hc)
      try simp only [e0, e1, e2, e3, e4, e5, e6] at hc
      exact ⟨v, s, hp, fun Q hq => ⟨fun _ => hr Q hq, fun h2 => absurd hc (by (try simp only [e0, e1, e2, e3, e4, e5, e6] at h2); omega), fun h2 => absurd hc (by (try simp only [e0, e1, e2, e3, e4, e5, e6] at h2); omega), fun h2 => absurd hc (by (try simp only [e0, e1, e2, e3, e4, e5, e6] at h2); omega), fun h2 => absurd hc (by (try simp only [e0, e1, e2, e3, e4, e5, e6] at h2); omega), fun h2 => absurd hc (by (try simp only [e0, e1, e2, e3, e4, e5, e6] at h2); omega), fun h2 => absurd hc (by (try simp only [e0, e1, e2, e3, e4, e5, e6] at h2); omega), fun h2 => absurd hc (by (try simp only [e0, e1, e2, e3, e4, e5, e6] at h2); omega)⟩⟩
    · obtain ⟨v, s, hp, hr⟩ := t1 P (h.2.1 hc)
      try simp only [e0, e1, e2, e3, e4, e5, e6] at hc
      exact ⟨v, s, hp, fun Q hq => ⟨fun h2 => absurd hc (by (try simp only [e0, e1, e2, e3, e4, e5, e6] at h2); omega), fun _ => hr Q hq, fun h2 => absurd hc (by (try simp only [e0, e1, e2, e3, e4, e5, e6] at h2); omega), fun h2 => absurd hc (by (try simp only [e0, e1, e2, e3, e4, e5, e6] at h2); omega), fun h2 => absurd hc (by (try simp only [e0, e1, e2, e3, e4, e5, e6] at h2); omega), fun h2 => absurd hc (by (try simp only [e0, e1, e2, e3, e4, e5, e6] at h2); omega), fun h2 => absurd hc (by (try simp only [e0, e1, e2, e3, e4, e5, e6] at h2); omega), fun h2 => absurd hc (by (try simp only [e0, e1, e2, e3, e4, e5, e6] at h2); omega)⟩⟩
    · obtain ⟨v, s, hp, hr⟩ := t2 P (h.2.2.1 hc)
      try simp only [e0, e1, e2, e3, e4, e5, e6] at hc
      exact ⟨v, s, hp, fun Q hq => ⟨fun h2 => absurd hc (by (try simp only [e0, e1, e2, e3, e4, e5, e6] at h2); omega), fun h2 => absurd hc (by (try simp only [e0, e1, e2, e3, e4, e5, e6] at h2); omega), fun _ => hr Q hq, fun h2 => absurd hc (by (try simp only [e0, e1, e2, e3, e4, e5, e6] at h2); omega), fun h2 => absurd hc (by (try simp only [e0, e1, e2, e3, e4, e5, e6] at h2); omega), fun h2 => absurd hc (by (try simp only [e0, e1, e2, e3, e4, e5, e6] at h2); omega), fun h2 => absurd hc (by (try simp only [e0, e1, e2, e3, e4, e5, e6] at h2); omega), fun h2 => absurd hc (by (try simp only [e0, e1, e2, e3, e4, e5, e6] at h2); omega)⟩⟩
    · obtain ⟨v, s, hp, hr⟩ := t3 P (h.2.2.2.1 hc)
      try simp only [e0, e1, e2, e3, e4, e5, e6] at hc
      exact ⟨v, s, hp, fun Q hq => ⟨fun h2 => absurd hc (by (try simp only [e0, e1, e2, e3, e4, e5, e6] at h2); omega), fun h2 => absurd hc (by (try simp only [e0, e1, e2, e3, e4, e5, e6] at h2); omega), fun h2 => absurd hc (by (try simp only [e0, e1, e2, e3, e4, e5, e6] at h2); omega), fun _ => hr Q hq, fun h2 => absurd hc (by (try simp only [e0, e1, e2, e3, e4, e5, e6] at h2); omega), fun h2 => absurd hc (by (try simp only [e0, e1, e2, e3, e4, e5, e6] at h2); omega), fun h2 => absurd hc (by (try simp only [e0, e1, e2, e3, e4, e5, e6] at h2); omega), fun h2 => absurd hc (by (try simp only [e0, e1, e2, e3, e4, e5, e6] at h2); omega)⟩⟩
    · obtain ⟨v, s, hp, hr⟩ := t4 P (h.2.2.2.2.1 hc)
      try simp only [e0, e1, e2, e3, e4, e5, e6] at hc
      exact ⟨v, s, hp, fun Q hq => ⟨fun h2 => absurd hc (by (try simp only [e0, e1, e2, e3, e4, e5, e6] at h2); omega), fun h2 => absurd hc (by (try simp only [e0, e1, e2, e3, e4, e5, e6] at h2); omega), fun h2 => absurd hc (by (try simp only [e0, e1, e2, e3, e4, e5, e6] at h2); omega), fun h2 => absurd hc (by (try simp only [e0, e1, e2, e3, e4, e5, e6] at h2); omega), fun _ => hr Q hq, fun h2 => absurd hc (by (try simp only [e0, e1, e2, e3, e4, e5, e6] at h2); omega), fun h2 => absurd hc (by (try simp only [e0, e1, e2, e3, e4, e5, e6] at h2); omega), fun h2 => absurd hc (by (try simp only [e0, e1, e2, e3, e4, e5, e6] at h2); omega)⟩⟩
    · obtain ⟨v, s, hp, hr⟩ := t5 P (h.2.2.2.2.2.1 hc)
      try simp only [e0, e1, e2, e3, e4, e5, e6] at hc
      exact ⟨v, s, hp, fun Q hq => ⟨fun h2 => absurd hc (by (try simp only [e0, e1, e2, e3, e4, e5, e6] at h2); omega), fun h2 => absurd hc (by (try simp only [e0, e1, e2, e3, e4, e5, e6] at h2); omega), fun h2 => absurd hc (by (try simp only [e0, e1, e2, e3, e4, e5, e6] at h2); omega), fun h2 => absurd hc (by (try simp only [e0, e1, e2, e3, e4, e5, e6] at h2); omega), fun h2 => absurd hc (by (try simp only [e0, e1, e2, e3, e4, e5, e6] at h2); omega), fun _ => hr Q hq, fun h2 => absurd hc (by (try simp only [e0, e1, e2, e3, e4, e5, e6] at h2); omega), fun h2 => absurd hc (by (try simp only [e0, e1, e2, e3, e4, e5, e6] at h2); omega)⟩⟩
    · obtain ⟨v, s, hp, hr⟩ := t6 P (h.2.2.2.2.2.2.1 hc)
      try simp only [e0, e1, e2, e3, e4, e5, e6] at hc
      exact ⟨v, s, hp, fun Q hq => ⟨fun h2 => absurd hc (by (try simp only [e0, e1, e2, e3, e4, e5, e6] at h2); omega), fun h2 => absurd hc (by (try simp only [e0, e1, e2, e3, e4, e5, e6] at h2); omega), fun h2 => absurd hc (by (try simp only [e0, e1, e2, e3, e4, e5, e6] at h2); omega), fun h2 => absurd hc (by (try simp only [e0, e1, e2, e3, e4, e5, e6] at h2); omega), fun h2 => absurd hc (by (try simp only [e0, e1, e2, e3, e4, e5, e6] at h2); omega), fun h2 => absurd hc (by (try simp only [e0, e1, e2, e3, e4, e5, e6] at h2); omega), fun _ => hr Q hq, fun h2 => absurd hc (by (try simp only [e0, e1, e2, e3, e4, e5, e6] at h2); omega)⟩⟩
    · obtain ⟨v, s, hp, hr⟩ := t7 P (h.2.2.2.2.2.2.2 hc)
      try simp only [e0, e1, e2, e3, e4, e5, e6] at hc
      exact ⟨v, s, hp, fun Q hq => ⟨fun h2 => absurd hc (by (try simp only [e0, e1, e2, e3, e4, e5, e6] at h2); omega), fun h2 => absurd hc (by (try simp only [e0, e1, e2, e3, e4, e5, e6] at h2); omega), fun h2 => absurd hc (by (try simp only [e0, e1, e2, e3, e4, e5, e6] at h2); omega), fun h2 => absurd hc (by (try simp only [e0, e1, e2, e3, e4, e5, e6] at h2); omega), fun h2 => absurd hc (by (try simp only [e0, e1, e2, e3, e4, e5, e6] at h2); omega), fun h2 => absurd hc (by (try simp only [e0, e1, e2, e3, e4, e5, e6] at h2); omega), fun h2 => absurd hc (by (try simp only [e0, e1, e2, e3, e4, e5, e6] at h2); omega), fun _ => hr Q hq⟩⟩)
set_option maxRecDepth 100000 in
set_option maxHeartbeats 4000000 in
theorem drb_X12_isThing_24 (S : r_S) (xs0 : Int32) : dt2 (fun Q => rb_X12_isThing_24   S xs0 Q) := by
  unfold rb_X12_isThing_24
  exact (gd2 lf2)
set_option maxRecDepth 100000 in
set_option maxHeartbeats 4000000 in
theorem drb_X12_isThing_23 (S : r_S) : dt2 (fun Q => rb_X12_isThing_23   S Q) := by
  unfold rb_X12_isThing_23
  exact (drb_X12_isThing_24 _ _)
set_option maxRecDepth 100000 in
set_option maxHeartbeats 4000000 in
theorem drm_X12_isThing (S : r_S) (x1 : Int32) (x2 : Int32) (x3 : Int32) : dt2 (fun Q => rm_X12_isThing   S x1 x2 x3 Q) := by
  unfold rm_X12_isThing
  exact (if2 (drb_X12_isThing_23 _) (gd2 (if2 (drb_X12_isThing_23 _) (drb_X12_isThing_24 _ _))))
set_option maxRecDepth 100000 in
set_option maxHeartbeats 4000000 in
theorem drb_X12_isTime_17 (S : r_S) (xs0 : Int32) : dt2 (fun Q => rb_X12_isTime_17   S xs0 Q) := by
  unfold rb_X12_isTime_17
  exact (gd2 lf2)
set_option maxRecDepth 100000 in
set_option maxHeartbeats 4000000 in
theorem drb_X12_isTime_16 (S : r_S) : dt2 (fun Q => rb_X12_isTime_16   S Q) := by
  unfold rb_X12_isTime_16
  exact (drb_X12_isTime_17 _ _)
set_option maxRecDepth 100000 in
set_option maxHeartbeats 4000000 in
theorem drm_X12_isTime (S : r_S) (x1 : Int32) : dt2 (fun Q => rm_X12_isTime   S x1 Q) := by
  unfold rm_X12_isTime
  exact (if2 (drb_X12_isTime_16 _) (if2 (drb_X12_isTime_16 _) (drb_X12_isTime_17 _ _)))
set_option maxRecDepth 100000 in
set_option maxHeartbeats 4000000 in
theorem drb_X12_waits_28 (S : r_S) : dt2 (fun Q => rb_X12_waits_28   S Q) := by
  unfold rb_X12_waits_28
  exact lf2
set_option maxRecDepth 100000 in
set_option maxHeartbeats 4000000 in
theorem drb_X12_waits_72 (S : r_S) (x1 : Int32) (xs1 : Int32) (xs2 : Int32) : dt2 (fun Q => rb_X12_waits_72   S x1 xs1 xs2 Q) := by
  unfold rb_X12_waits_72
  exact (gd2 (al2 fun S6_ => (gd2 lf2)))
set_option maxRecDepth 100000 in
set_option maxHeartbeats 4000000 in
theorem drm_X12_waits (S : r_S) (x1 : Int32) (x2 : Int32) (x3 : Int32) (x4 : Int32) : dt2 (fun Q => rm_X12_waits   S x1 x2 x3 x4 Q) := by
  unfold rm_X12_waits
  exact (ifn2 (b22 (drm_X12_partitionOf _ _) fun r13_ S14_ => (exi2 fun x15_ => (gd2 (if2 (drb_X12_waits_28 _) (b22 (drm_X12_isHandler _ _) fun r22_ S23_ => (exi2 fun x24_ => (if2 (gd2 (gd2 (gd2 (al2 fun S39_ => (if2 (drb_X12_waits_72 _ _ _ _) (drb_X12_waits_72 _ _ _ _)))))) (drb_X12_waits_28 _)))))))) lf2)
set_option maxRecDepth 100000 in
set_option maxHeartbeats 4000000 in
theorem drb_X12_allGet_78 {B6 : (Option Value → r_S → Prop) → r_S → Int32 → Int32 → Int32 → Int32 → Int32 → Int32 → Prop} (hB6 : ∀ y0 y1 y2 y3 y4 y5 y6, dt2 (fun Q => B6 Q y0 y1 y2 y3 y4 y5 y6)) (S : r_S) (x1 : Int32) (x2 : Int32) (x3 : Int32) (x4 : Int32) (x5 : Int32) (x6 : Int32) : dt2 (fun Q => rb_X12_allGet_78  (B6 Q) S x1 x2 x3 x4 x5 x6 Q) := by
  unfold rb_X12_allGet_78
  exact (hB6 _ _ _ _ _ _ _)
set_option maxRecDepth 100000 in
set_option maxHeartbeats 4000000 in
theorem drb_X12_allGet_72 {B6 : (Option Value → r_S → Prop) → r_S → Int32 → Int32 → Int32 → Int32 → Int32 → Int32 → Prop} (hB6 : ∀ y0 y1 y2 y3 y4 y5 y6, dt2 (fun Q => B6 Q y0 y1 y2 y3 y4 y5 y6)) (S : r_S) (x1 : Int32) (x2 : Int32) (x3 : Int32) (x4 : Int32) (x5 : Int32) (x6 : Int32) : dt2 (fun Q => rb_X12_allGet_72  (B6 Q) S x1 x2 x3 x4 x5 x6 Q) := by
  unfold rb_X12_allGet_72
  exact (b22 (drm_X12_gets _ _) fun r2_ S3_ => (gd2 (drb_X12_allGet_78 hB6 _ _ _ _ _ _ _)))
set_option maxRecDepth 100000 in
set_option maxHeartbeats 4000000 in
theorem drb_X12_allGet_6 {B6 : (Option Value → r_S → Prop) → r_S → Int32 → Int32 → Int32 → Int32 → Int32 → Int32 → Prop} (hB6 : ∀ y0 y1 y2 y3 y4 y5 y6, dt2 (fun Q => B6 Q y0 y1 y2 y3 y4 y5 y6)) (S : r_S) (x1 : Int32) (x2 : Int32) (x3 : Int32) (x4 : Int32) (x5 : Int32) (x6 : Int32) : dt2 (fun Q => rb_X12_allGet_6  (B6 Q) S x1 x2 x3 x4 x5 x6 Q) := by
  unfold rb_X12_allGet_6
  exact (b22 (drm_X12_lastOf _ _) fun r5_ S6_ => (exi2 fun x7_ => (if2 lf2 (gd2 (ifn2 (drb_X12_allGet_78 hB6 _ _ _ _ _ _ _) (gd2 (ifn2 (drb_X12_allGet_78 hB6 _ _ _ _ _ _ _) (gd2 (if2 (if2 (drb_X12_allGet_72 hB6 _ _ _ _ _ _ _) (gd2 (drb_X12_allGet_72 hB6 _ _ _ _ _ _ _))) (drb_X12_allGet_78 hB6 _ _ _ _ _ _ _))))))))))
theorem drl_X12_allGet_6 (n : Nat) (S : r_S) (x1 : Int32) (x2 : Int32) (x3 : Int32) (x4 : Int32) (x5 : Int32) (x6 : Int32) : dt2 (fun Q => rl_X12_allGet_6   n S x1 x2 x3 x4 x5 x6 Q) := by
  induction n generalizing S x1 x2 x3 x4 x5 x6 with
  | zero => exact fa2
  | succ n ih => exact drb_X12_allGet_6 (B6 := fun Q y0 y1 y2 y3 y4 y5 y6 => rl_X12_allGet_6   n y0 y1 y2 y3 y4 y5 y6 Q) (fun y0 y1 y2 y3 y4 y5 y6 => ih y0 y1 y2 y3 y4 y5 y6) _ _ _ _ _ _ _
set_option maxRecDepth 100000 in
set_option maxHeartbeats 4000000 in
theorem drm_X12_allGet (S : r_S) (x1 : Int32) (x2 : Int32) (x3 : Int32) (x4 : Int32) (x5 : Int32) : dt2 (fun Q => rm_X12_allGet   S x1 x2 x3 x4 x5 Q) := by
  unfold rm_X12_allGet
  exact (exn2 fun n30_ => (drl_X12_allGet_6 _ _ _ _ _ _ _ _))
set_option maxRecDepth 100000 in
set_option maxHeartbeats 4000000 in
theorem drm_X12_puts (S : r_S) (x1 : Int32) (x2 : Int32) (x3 : Int32) (x4 : Int32) : dt2 (fun Q => rm_X12_puts   S x1 x2 x3 x4 Q) := by
  unfold rm_X12_puts
  exact (gd2 (b22 (drm_X12_waiter _ _ _ _) fun r6_ S7_ => (exi2 fun x8_ => (if2 (gd2 (gd2 (ifn2 (gd2 (gd2 (gd2 (gd2 (al2 fun S30_ => lf2))))) (b22 (drm_X12_waits _ _ _ _ _) fun r31_ S32_ => (exi2 fun x33_ => (gd2 lf2)))))) (gd2 (b22 (drm_X12_gets _ _) fun r44_ S45_ => (gd2 lf2)))))))
set_option maxRecDepth 100000 in
set_option maxHeartbeats 4000000 in
theorem drb_X12_takes_52 {B52 : (Option Value → r_S → Prop) → r_S → Int32 → Int32 → Prop} (hB52 : ∀ y0 y1 y2, dt2 (fun Q => B52 Q y0 y1 y2)) (S : r_S) (x2 : Int32) (x4 : Int32) : dt2 (fun Q => rb_X12_takes_52  (B52 Q) S x2 x4 Q) := by
  unfold rb_X12_takes_52
  exact (gd2 (if2 (gd2 (b22 (drm_X12_waiter _ _ _ _) fun r11_ S12_ => (exi2 fun x13_ => (ifn2 (gd2 (gd2 (gd2 (gd2 (gd2 (al2 fun S33_ => (b22 (drm_X12_gets _ _) fun r34_ S35_ => (gd2 lf2)))))))) lf2)))) (gd2 (gd2 (hB52 _ _ _)))))
theorem drl_X12_takes_52 (n : Nat) (S : r_S) (x2 : Int32) (x4 : Int32) : dt2 (fun Q => rl_X12_takes_52   n S x2 x4 Q) := by
  induction n generalizing S x2 x4 with
  | zero => exact fa2
  | succ n ih => exact drb_X12_takes_52 (B52 := fun Q y0 y1 y2 => rl_X12_takes_52   n y0 y1 y2 Q) (fun y0 y1 y2 => ih y0 y1 y2) _ _ _
set_option maxRecDepth 100000 in
set_option maxHeartbeats 4000000 in
theorem drm_X12_takes (S : r_S) (x1 : Int32) (x2 : Int32) (x3 : Int32) : dt2 (fun Q => rm_X12_takes   S x1 x2 x3 Q) := by
  unfold rm_X12_takes
  exact (gd2 (ifn2 (gd2 (gd2 (gd2 (gd2 (al2 fun S60_ => (exn2 fun n61_ => (drl_X12_takes_52 _ _ _ _))))))) (b22 (drm_X12_waits _ _ _ _ _) fun r62_ S63_ => (exi2 fun x64_ => lf2))))
set_option maxRecDepth 100000 in
set_option maxHeartbeats 4000000 in
theorem drb_X12_ofThings_327 (S : r_S) (xs0 : Int32) : dt2 (fun Q => rb_X12_ofThings_327   S xs0 Q) := by
  unfold rb_X12_ofThings_327
  exact lf2
set_option maxRecDepth 100000 in
set_option maxHeartbeats 4000000 in
theorem drb_X12_ofThings_271 (S : r_S) : dt2 (fun Q => rb_X12_ofThings_271   S Q) := by
  unfold rb_X12_ofThings_271
  exact lf2
set_option maxRecDepth 100000 in
set_option maxHeartbeats 4000000 in
theorem drb_X12_ofThings_124 (S : r_S) (x1 : Int32) (x2 : Int32) (x3 : Int32) (x5 : Int32) (x8 : Int32) (x9 : Int32) : dt2 (fun Q => rb_X12_ofThings_124   S x1 x2 x3 x5 x8 x9 Q) := by
  unfold rb_X12_ofThings_124
  exact (by
    have e0 : (x1 = (10 : Int32)) ↔ (x1).toInt = 10 := sw_iff (by decide)
    have e1 : (x1 = (11 : Int32)) ↔ (x1).toInt = 11 := sw_iff (by decide)
    have e2 : (x1 = (12 : Int32)) ↔ (x1).toInt = 12 := sw_iff (by decide)
    have e3 : (x1 = (13 : Int32)) ↔ (x1).toInt = 13 := sw_iff (by decide)
    have e4 : (x1 = (14 : Int32)) ↔ (x1).toInt = 14 := sw_iff (by decide)
    have e5 : (x1 = (15 : Int32)) ↔ (x1).toInt = 15 := sw_iff (by decide)
    have e6 : (x1 = (16 : Int32)) ↔ (x1).toInt = 16 := sw_iff (by decide)
    have e7 : (x1 = (8 : Int32)) ↔ (x1).toInt = 8 := sw_iff (by decide)
    have e8 : (x1 = (9 : Int32)) ↔ (x1).toInt = 9 := sw_iff (by decide)
    have ex : ((x1.toInt < 8 ∨ 16 < x1.toInt)) ∨ ((x1 = (8 : Int32))) ∨ ((x1 = (9 : Int32))) ∨ ((x1 = (10 : Int32))) ∨ ((x1 = (11 : Int32))) ∨ ((x1 = (12 : Int32))) ∨ ((x1 = (13 : Int32))) ∨ ((x1 = (14 : Int32))) ∨ ((x1 = (15 : Int32))) ∨ ((x1 = (16 : Int32))) := by
      simp only [e0, e1, e2, e3, e4, e5, e6, e7, e8]; omega
    intro P h
    have t0 : dt2 (fun Q : Option Value → r_S → Prop => (vp_in x8 (r_N 2496) ∧ ((¬ (r_A S 2496 x8.toNatClampNeg) = 0 → (vp_in x8 (r_N 2497) ∧ (vp_in (((32 : Int32) * x3) + (11 : Int32)) (r_N 2477) ∧ (Q (some (.int (0 : Int32))) (rs_A S 2477 (((32 : Int32) * x3) + (11 : Int32)).toNatClampNeg (r_A S 2497 x8.toNatClampNeg)))))) ∧ ((r_A S 2496 x8.toNatClampNeg) = 0 → (rm_X12_waits S x3 (5 : Int32) x8 x9 (fun r15_ S16_ => ∃ x17_ : Int32, r15_ = some (.int x17_) ∧ (Q (some (.int x17_)) S16_))))))) := (gd2 (ifn2 (gd2 (gd2 lf2)) (b22 (drm_X12_waits _ _ _ _ _) fun r15_ S16_ => (exi2 fun x17_ => lf2))))
    have t1 : dt2 (fun Q : Option Value → r_S → Prop => (vp_in x8 (r_N 2492) ∧ ((¬ (r_A S 2492 x8.toNatClampNeg) = 0 → (vp_in x8 (r_N 2492) ∧ (vp_in x8 (r_N 2492) ∧ (Q (some (.int (0 : Int32))) (rs_A S 2492 x8.toNatClampNeg ((r_A S 2492 x8.toNatClampNeg) - (1 : Int32))))))) ∧ ((r_A S 2492 x8.toNatClampNeg) = 0 → (rm_X12_waits S x3 (1 : Int32) x8 x9 (fun r26_ S27_ => ∃ x28_ : Int32, r26_ = some (.int x28_) ∧ (Q (some (.int x28_)) S27_))))))) := (gd2 (ifn2 (gd2 (gd2 lf2)) (b22 (drm_X12_waits _ _ _ _ _) fun r26_ S27_ => (exi2 fun x28_ => lf2))))
    have t2 : dt2 (fun Q : Option Value → r_S → Prop => (vp_in x8 (r_N 2445) ∧ (rm_X12_waiter S (1 : Int32) x8 (r_A S 2445 x8.toNatClampNeg) (fun r34_ S35_ => ∃ x36_ : Int32, r34_ = some (.int x36_) ∧ ((x36_ = (-1 : Int32) → (vp_in x8 (r_N 2492) ∧ (vp_in x8 (r_N 2444) ∧ ((¬ (r_A S35_ 2492 x8.toNatClampNeg) = (r_A S35_ 2444 x8.toNatClampNeg) → (vp_in x8 (r_N 2492) ∧ (vp_in x8 (r_N 2492) ∧ (rb_X12_ofThings_271 (rs_A S35_ 2492 x8.toNatClampNeg ((r_A S35_ 2492 x8.toNatClampNeg) + (1 : Int32))) Q)))) ∧ ((r_A S35_ 2492 x8.toNatClampNeg) = (r_A S35_ 2444 x8.toNatClampNeg) → (Q (some (.int (2 : Int32))) S35_)))))) ∧ (¬ x36_ = (-1 : Int32) → (rm_X12_gets S35_ x36_ (fun r51_ S52_ => r51_ = none ∧ (rb_X12_ofThings_271 S52_ Q))))))))) := (gd2 (b22 (drm_X12_waiter _ _ _ _) fun r34_ S35_ => (exi2 fun x36_ => (if2 (gd2 (gd2 (ifn2 (gd2 (gd2 (drb_X12_ofThings_271 _))) lf2))) (b22 (drm_X12_gets _ _) fun r51_ S52_ => (gd2 (drb_X12_ofThings_271 _)))))))
    have t3 : dt2 (fun Q : Option Value → r_S → Prop => (vp_in x8 (r_N 2493) ∧ (rm_X12_allGet (rs_A S 2493 x8.toNatClampNeg (vp_nar .boolean (1 : Int32))) x2 (2 : Int32) x8 (0 : Int32) (0 : Int32) (fun r58_ S59_ => r58_ = none ∧ (Q (some (.int (0 : Int32))) S59_))))) := (gd2 (b22 (drm_X12_allGet _ _ _ _ _ _) fun r58_ S59_ => (gd2 lf2)))
    have t4 : dt2 (fun Q : Option Value → r_S → Prop => (vp_in x8 (r_N 2493) ∧ (Q (some (.int (0 : Int32))) (rs_A S 2493 x8.toNatClampNeg (vp_nar .boolean (0 : Int32)))))) := (gd2 lf2)
    have t5 : dt2 (fun Q : Option Value → r_S → Prop => (vp_in x8 (r_N 2493) ∧ (((r_A S 2493 x8.toNatClampNeg) = 0 → (rm_X12_waits S x3 (2 : Int32) x8 x9 (fun r71_ S72_ => ∃ x73_ : Int32, r71_ = some (.int x73_) ∧ (rb_X12_ofThings_327 S72_ x73_ Q)))) ∧ (¬ (r_A S 2493 x8.toNatClampNeg) = 0 → (rb_X12_ofThings_327 S (0 : Int32) Q))))) := (gd2 (if2 (b22 (drm_X12_waits _ _ _ _ _) fun r71_ S72_ => (exi2 fun x73_ => (drb_X12_ofThings_327 _ _))) (drb_X12_ofThings_327 _ _)))
    have t6 : dt2 (fun Q : Option Value → r_S → Prop => (rm_X12_puts S x3 x8 x5 x9 (fun r75_ S76_ => ∃ x77_ : Int32, r75_ = some (.int x77_) ∧ (Q (some (.int x77_)) S76_)))) := (b22 (drm_X12_puts _ _ _ _ _) fun r75_ S76_ => (exi2 fun x77_ => lf2))
    have t7 : dt2 (fun Q : Option Value → r_S → Prop => (rm_X12_takes S x3 x8 x9 (fun r79_ S80_ => ∃ x81_ : Int32, r79_ = some (.int x81_) ∧ (Q (some (.int x81_)) S80_)))) := (b22 (drm_X12_takes _ _ _ _) fun r79_ S80_ => (exi2 fun x81_ => lf2))
    have t8 : dt2 (fun Q : Option Value → r_S → Prop => (vp_in x8 (r_N 2496) ∧ (vp_in x8 (r_N 2497) ∧ (rm_X12_allGet (rs_A (rs_A S 2496 x8.toNatClampNeg (vp_nar .boolean (1 : Int32))) 2497 x8.toNatClampNeg x5) x2 (5 : Int32) x8 (1 : Int32) x5 (fun r91_ S92_ => r91_ = none ∧ (Q (some (.int (0 : Int32))) S92_)))))) := (gd2 (gd2 (b22 (drm_X12_allGet _ _ _ _ _ _) fun r91_ S92_ => (gd2 lf2))))
    have t9 : dt2 (fun Q : Option Value → r_S → Prop => (vp_in x8 (r_N 2496) ∧ (Q (some (.int (0 : Int32))) (rs_A S 2496 x8.toNatClampNeg (vp_nar .boolean (0 : Int32)))))) := (gd2 lf2)
    rcases ex with hc | hc | hc | hc | hc | hc | hc | hc | hc | hc
    · obtain ⟨v, s, hp, hr⟩ := t0 P (h.1 hc)
      try simp only [e0, e1, e2, e3, e4, e5, e6, e7, e8] at hc
      exact ⟨v, s, hp, fun Q hq => ⟨fun _ => hr Q hq, fun h2 => absurd hc (by (try simp only [e0, e1, e2, e3, e4, e5, e6, e7, e8] at h2); omega), fun h2 => absurd hc (by (try simp only [e0, e1, e2, e3, e4, e5, e6, e7, e8] at h2); omega), fun h2 => absurd hc (by (try simp only [e0, e1, e2, e3, e4, e5, e6, e7, e8] at h2); omega), fun h2 => absurd hc (by (try simp only [e0, e1, e2, e3, e4, e5, e6, e7, e8] at h2); omega), fun h2 => absurd hc (by (try simp only [e0, e1, e2, e3, e4, e5, e6, e7, e8] at h2); omega), fun h2 => absurd hc (by (try simp only [e0, e1, e2, e3, e4, e5, e6, e7, e8] at h2); omega), fun h2 => absurd hc (by (try simp only [e0, e1, e2, e3, e4, e5, e6, e7, e8] at h2); omega), fun h2 => absurd hc (by (try simp only [e0, e1, e2, e3, e4, e5, e6, e7, e8] at h2); omega), fun h2 => absurd hc (by (try simp only [e0, e1, e2, e3, e4, e5, e6, e7, e8] at h2); omega)⟩⟩
    · obtain ⟨v, s, hp, hr⟩ := t1 P (h.2.1 hc)
      try simp only [e0, e1, e2, e3, e4, e5, e6, e7, e8] at hc
      exact ⟨v, s, hp, fun Q hq => ⟨fun h2 => absurd hc (by (try simp only [e0, e1, e2, e3, e4, e5, e6, e7, e8] at h2); omega), fun _ => hr Q hq, fun h2 => absurd hc (by (try simp only [e0, e1, e2, e3, e4, e5, e6, e7, e8] at h2); omega), fun h2 => absurd hc (by (try simp only [e0, e1, e2, e3, e4, e5, e6, e7, e8] at h2); omega), fun h2 => absurd hc (by (try simp only [e0, e1, e2, e3, e4, e5, e6, e7, e8] at h2); omega), fun h2 => absurd hc (by (try simp only [e0, e1, e2, e3, e4, e5, e6, e7, e8] at h2); omega), fun h2 => absurd hc (by (try simp only [e0, e1, e2, e3, e4, e5, e6, e7, e8] at h2); omega), fun h2 => absurd hc (by (try simp only [e0, e1, e2, e3, e4, e5, e6, e7, e8] at h2); omega), fun h2 => absurd hc (by (try simp only [e0, e1, e2, e3, e4, e5, e6, e7, e8] at h2); omega), fun h2 => absurd hc (by (try simp only [e0, e1, e2, e3, e4, e5, e6, e7, e8] at h2); omega)⟩⟩
    · obtain ⟨v, s, hp, hr⟩ := t2 P (h.2.2.1 hc)
      try simp only [e0, e1, e2, e3, e4, e5, e6, e7, e8] at hc
      exact ⟨v, s, hp, fun Q hq => ⟨fun h2 => absurd hc (by (try simp only [e0, e1, e2, e3, e4, e5, e6, e7, e8] at h2); omega), fun h2 => absurd hc (by (try simp only [e0, e1, e2, e3, e4, e5, e6, e7, e8] at h2); omega), fun _ => hr Q hq, fun h2 => absurd hc (by (try simp only [e0, e1, e2, e3, e4, e5, e6, e7, e8] at h2); omega), fun h2 => absurd hc (by (try simp only [e0, e1, e2, e3, e4, e5, e6, e7, e8] at h2); omega), fun h2 => absurd hc (by (try simp only [e0, e1, e2, e3, e4, e5, e6, e7, e8] at h2); omega), fun h2 => absurd hc (by (try simp only [e0, e1, e2, e3, e4, e5, e6, e7, e8] at h2); omega), fun h2 => absurd hc (by (try simp only [e0, e1, e2, e3, e4, e5, e6, e7, e8] at h2); omega), fun h2 => absurd hc (by (try simp only [e0, e1, e2, e3, e4, e5, e6, e7, e8] at h2); omega), fun h2 => absurd hc (by (try simp only [e0, e1, e2, e3, e4, e5, e6, e7, e8] at h2); omega)⟩⟩
    · obtain ⟨v, s, hp, hr⟩ := t3 P (h.2.2.2.1 hc)
      try simp only [e0, e1, e2, e3, e4, e5, e6, e7, e8] at hc
      exact ⟨v, s, hp, fun Q hq => ⟨fun h2 => absurd hc (by (try simp only [e0, e1, e2, e3, e4, e5, e6, e7, e8] at h2); omega), fun h2 => absurd hc (by (try simp only [e0, e1, e2, e3, e4, e5, e6, e7, e8] at h2); omega), fun h2 => absurd hc (by (try simp only [e0, e1, e2, e3, e4, e5, e6, e7, e8] at h2); omega), fun _ => hr Q hq, fun h2 => absurd hc (by (try simp only [e0, e1, e2, e3, e4, e5, e6, e7, e8] at h2); omega), fun h2 => absurd hc (by (try simp only [e0, e1, e2, e3, e4, e5, e6, e7, e8] at h2); omega), fun h2 => absurd hc (by (try simp only [e0, e1, e2, e3, e4, e5, e6, e7, e8] at h2); omega), fun h2 => absurd hc (by (try simp only [e0, e1, e2, e3, e4, e5, e6, e7, e8] at h2); omega), fun h2 => absurd hc (by (try simp only [e0, e1, e2, e3, e4, e5, e6, e7, e8] at h2); omega), fun h2 => absurd hc (by (try simp only [e0, e1, e2, e3, e4, e5, e6, e7, e8] at h2); omega)⟩⟩
    · obtain ⟨v, s, hp, hr⟩ := t4 P (h.2.2.2.2.1 hc)
      try simp only [e0, e1, e2, e3, e4, e5, e6, e7, e8] at hc
      exact ⟨v, s, hp, fun Q hq => ⟨fun h2 => absurd hc (by (try simp only [e0, e1, e2, e3, e4, e5, e6, e7, e8] at h2); omega), fun h2 => absurd hc (by (try simp only [e0, e1, e2, e3, e4, e5, e6, e7, e8] at h2); omega), fun h2 => absurd hc (by (try simp only [e0, e1, e2, e3, e4, e5, e6, e7, e8] at h2); omega), fun h2 => absurd hc (by (try simp only [e0, e1, e2, e3, e4, e5, e6, e7, e8] at h2); omega), fun _ => hr Q hq, fun h2 => absurd hc (by (try simp only [e0, e1, e2, e3, e4, e5, e6, e7, e8] at h2); omega), fun h2 => absurd hc (by (try simp only [e0, e1, e2, e3, e4, e5, e6, e7, e8] at h2); omega), fun h2 => absurd hc (by (try simp only [e0, e1, e2, e3, e4, e5, e6, e7, e8] at h2); omega), fun h2 => absurd hc (by (try simp only [e0, e1, e2, e3, e4, e5, e6, e7, e8] at h2); omega), fun h2 => absurd hc (by (try simp only [e0, e1, e2, e3, e4, e5, e6, e7, e8] at h2); omega)⟩⟩
    · obtain ⟨v, s, hp, hr⟩ := t5 P (h.2.2.2.2.2.1 hc)
      try simp only [e0, e1, e2, e3, e4, e5, e6, e7, e8] at hc
      exact ⟨v, s, hp, fun Q hq => ⟨fun h2 => absurd hc (by (try simp only [e0, e1, e2, e3, e4, e5, e6, e7, e8] at h2); omega), fun h2 => absurd hc (by (try simp only [e0, e1, e2, e3, e4, e5, e6, e7, e8] at h2); omega), fun h2 => absurd hc (by (try simp only [e0, e1, e2, e3, e4, e5, e6, e7, e8] at h2); omega), fun h2 => absurd hc (by (try simp only [e0, e1, e2, e3, e4, e5, e6, e7, e8] at h2); omega), fun h2 => absurd hc (by (try simp only [e0, e1, e2, e3, e4, e5, e6, e7, e8] at h2); omega), fun _ => hr Q hq, fun h2 => absurd hc (by (try simp only [e0, e1, e2, e3, e4, e5, e6, e7, e8] at h2); omega), fun h2 => absurd hc (by (try simp only [e0, e1, e2, e3, e4, e5, e6, e7, e8] at h2); omega), fun h2 => absurd hc (by (try simp only [e0, e1, e2, e3, e4, e5, e6, e7, e8] at h2); omega), fun h2 => absurd hc (by (try simp only [e0, e1, e2, e3, e4, e5, e6, e7, e8] at h2); omega)⟩⟩
    · obtain ⟨v, s, hp, hr⟩ := t6 P (h.2.2.2.2.2.2.1 hc)
      try simp only [e0, e1, e2, e3, e4, e5, e6, e7, e8] at hc
      exact ⟨v, s, hp, fun Q hq => ⟨fun h2 => absurd hc (by (try simp only [e0, e1, e2, e3, e4, e5, e6, e7, e8] at h2); omega), fun h2 => absurd hc (by (try simp only [e0, e1, e2, e3, e4, e5, e6, e7, e8] at h2); omega), fun h2 => absurd hc (by (try simp only [e0, e1, e2, e3, e4, e5, e6, e7, e8] at h2); omega), fun h2 => absurd hc (by (try simp only [e0, e1, e2, e3, e4, e5, e6, e7, e8] at h2); omega), fun h2 => absurd hc (by (try simp only [e0, e1, e2, e3, e4, e5, e6, e7, e8] at h2); omega), fun h2 => absurd hc (by (try simp only [e0, e1, e2, e3, e4, e5, e6, e7, e8] at h2); omega), fun _ => hr Q hq, fun h2 => absurd hc (by (try simp only [e0, e1, e2, e3, e4, e5, e6, e7, e8] at h2); omega), fun h2 => absurd hc (by (try simp only [e0, e1, e2, e3, e4, e5, e6, e7, e8] at h2); omega), fun h2 => absurd hc (by (try simp only [e0, e1, e2, e3, e4, e5, e6, e7, e8] at h2); omega)⟩⟩
    · obtain ⟨v, s, hp, hr⟩ := t7 P (h.2.2.2.2.2.2.2.1 hc)
      try simp only [e0, e1, e2, e3, e4, e5, e6, e7, e8] at hc
      exact ⟨v, s, hp, fun Q hq => ⟨fun h2 => absurd hc (by (try simp only [e0, e1, e2, e3, e4, e5, e6, e7, e8] at h2); omega), fun h2 => absurd hc (by (try simp only [e0, e1, e2, e3, e4, e5, e6, e7, e8] at h2); omega), fun h2 => absurd hc (by (try simp only [e0, e1, e2, e3, e4, e5, e6, e7, e8] at h2); omega), fun h2 => absurd hc (by (try simp only [e0, e1, e2, e3, e4, e5, e6, e7, e8] at h2); omega), fun h2 => absurd hc (by (try simp only [e0, e1, e2, e3, e4, e5, e6, e7, e8] at h2); omega), fun h2 => absurd hc (by (try simp only [e0, e1, e2, e3, e4, e5, e6, e7, e8] at h2); omega), fun h2 => absurd hc (by (try simp only [e0, e1, e2, e3, e4, e5, e6, e7, e8] at h2); omega), fun _ => hr Q hq, fun h2 => absurd hc (by (try simp only [e0, e1, e2, e3, e4, e5, e6, e7, e8] at h2); omega), fun h2 => absurd hc (by (try simp only [e0, e1, e2, e3, e4, e5, e6, e7, e8] at h2); omega)⟩⟩
    · obtain ⟨v, s, hp, hr⟩ := t8 P (h.2.2.2.2.2.2.2.2.1 hc)
      try simp only [e0, e1, e2, e3, e4, e5, e6, e7, e8] at hc
      exact ⟨v, s, hp, fun Q hq => ⟨fun h2 => absurd hc (by (try simp only [e0, e1, e2, e3, e4, e5, e6, e7, e8] at h2); omega), fun h2 => absurd hc (by (try simp only [e0, e1, e2, e3, e4, e5, e6, e7, e8] at h2); omega), fun h2 => absurd hc (by (try simp only [e0, e1, e2, e3, e4, e5, e6, e7, e8] at h2); omega), fun h2 => absurd hc (by (try simp only [e0, e1, e2, e3, e4, e5, e6, e7, e8] at h2); omega), fun h2 => absurd hc (by (try simp only [e0, e1, e2, e3, e4, e5, e6, e7, e8] at h2); omega), fun h2 => absurd hc (by (try simp only [e0, e1, e2, e3, e4, e5, e6, e7, e8] at h2); omega), fun h2 => absurd hc (by (try simp only [e0, e1, e2, e3, e4, e5, e6, e7, e8] at h2); omega), fun h2 => absurd hc (by (try simp only [e0, e1, e2, e3, e4, e5, e6, e7, e8] at h2); omega), fun _ => hr Q hq, fun h2 => absurd hc (by (try simp only [e0, e1, e2, e3, e4, e5, e6, e7, e8] at h2); omega)⟩⟩
    · obtain ⟨v, s, hp, hr⟩ := t9 P (h.2.2.2.2.2.2.2.2.2 hc)
      try simp only [e0, e1, e2, e3, e4, e5, e6, e7, e8] at hc
      exact ⟨v, s, hp, fun Q hq => ⟨fun h2 => absurd hc (by (try simp only [e0, e1, e2, e3, e4, e5, e6, e7, e8] at h2); omega), fun h2 => absurd hc (by (try simp only [e0, e1, e2, e3, e4, e5, e6, e7, e8] at h2); omega), fun h2 => absurd hc (by (try simp only [e0, e1, e2, e3, e4, e5, e6, e7, e8] at h2); omega), fun h2 => absurd hc (by (try simp only [e0, e1, e2, e3, e4, e5, e6, e7, e8] at h2); omega), fun h2 => absurd hc (by (try simp only [e0, e1, e2, e3, e4, e5, e6, e7, e8] at h2); omega), fun h2 => absurd hc (by (try simp only [e0, e1, e2, e3, e4, e5, e6, e7, e8] at h2); omega), fun h2 => absurd hc (by (try simp only [e0, e1, e2, e3, e4, e5, e6, e7, e8] at h2); omega), fun h2 => absurd hc (by (try simp only [e0, e1, e2, e3, e4, e5, e6, e7, e8] at h2); omega), fun h2 => absurd hc (by (try simp only [e0, e1, e2, e3, e4, e5, e6, e7, e8] at h2); omega), fun _ => hr Q hq⟩⟩)
set_option maxRecDepth 100000 in
set_option maxHeartbeats 4000000 in
theorem drb_X12_ofThings_106 (S : r_S) (x1 : Int32) (x2 : Int32) (x3 : Int32) (x5 : Int32) (x8 : Int32) (x9 : Int32) (xs0 : Int32) : dt2 (fun Q => rb_X12_ofThings_106   S x1 x2 x3 x5 x8 x9 xs0 Q) := by
  unfold rb_X12_ofThings_106
  exact (if2 (drb_X12_ofThings_124 _ _ _ _ _ _ _) (b22 (drm_X12_isTime _ _) fun r102_ S103_ => (exi2 fun x104_ => (ifn2 (drb_X12_ofThings_124 _ _ _ _ _ _ _) lf2))))
set_option maxRecDepth 100000 in
set_option maxHeartbeats 4000000 in
theorem drb_X12_ofThings_101 (S : r_S) (x1 : Int32) (x2 : Int32) (x3 : Int32) (x5 : Int32) (x8 : Int32) (x9 : Int32) : dt2 (fun Q => rb_X12_ofThings_101   S x1 x2 x3 x5 x8 x9 Q) := by
  unfold rb_X12_ofThings_101
  exact (drb_X12_ofThings_106 _ _ _ _ _ _ _ _)
set_option maxRecDepth 100000 in
set_option maxHeartbeats 4000000 in
theorem drb_X12_ofThings_69 (S : r_S) (x1 : Int32) (x2 : Int32) (x3 : Int32) (x5 : Int32) (x8 : Int32) (xs0 : Int32) : dt2 (fun Q => rb_X12_ofThings_69   S x1 x2 x3 x5 x8 xs0 Q) := by
  unfold rb_X12_ofThings_69
  exact (if2 (drb_X12_ofThings_101 _ _ _ _ _ _ _) (if2 (drb_X12_ofThings_101 _ _ _ _ _ _ _) (if2 (drb_X12_ofThings_101 _ _ _ _ _ _ _) (if2 (drb_X12_ofThings_101 _ _ _ _ _ _ _) (ifn2 (drb_X12_ofThings_106 _ _ _ _ _ _ _ _) (drb_X12_ofThings_101 _ _ _ _ _ _ _))))))
set_option maxRecDepth 100000 in
set_option maxHeartbeats 4000000 in
theorem drb_X12_ofThings_31 (S : r_S) (x1 : Int32) (x2 : Int32) (x3 : Int32) (x4 : Int32) (x5 : Int32) (x6 : Int32) (xs0 : Int32) : dt2 (fun Q => rb_X12_ofThings_31   S x1 x2 x3 x4 x5 x6 xs0 Q) := by
  unfold rb_X12_ofThings_31
  exact (b22 (drm_X12_isThing _ _ _ _) fun r112_ S113_ => (exi2 fun x114_ => (ifn2 (ifn2 (drb_X12_ofThings_69 _ _ _ _ _ _ _) (drb_X12_ofThings_69 _ _ _ _ _ _ _)) lf2)))
set_option maxRecDepth 100000 in
set_option maxHeartbeats 4000000 in
theorem drm_X12_ofThings (S : r_S) (x1 : Int32) (x2 : Int32) (x3 : Int32) (x4 : Int32) (x5 : Int32) (x6 : Int32) : dt2 (fun Q => rm_X12_ofThings   S x1 x2 x3 x4 x5 x6 Q) := by
  unfold rm_X12_ofThings
  exact (if2 (if2 (if2 (drb_X12_ofThings_31 _ _ _ _ _ _ _ _) (drb_X12_ofThings_31 _ _ _ _ _ _ _ _)) (drb_X12_ofThings_31 _ _ _ _ _ _ _ _)) (drb_X12_ofThings_31 _ _ _ _ _ _ _ _))
set_option maxRecDepth 100000 in
set_option maxHeartbeats 4000000 in
theorem drb_X12_sends_24 (S : r_S) : dt2 (fun Q => rb_X12_sends_24   S Q) := by
  unfold rb_X12_sends_24
  exact lf2
set_option maxRecDepth 100000 in
set_option maxHeartbeats 4000000 in
theorem drb_X12_sends_125 (S : r_S) : dt2 (fun Q => rb_X12_sends_125   S Q) := by
  unfold rb_X12_sends_125
  exact lf2
set_option maxRecDepth 100000 in
set_option maxHeartbeats 4000000 in
theorem drb_X12_sends_55 (S : r_S) (x2 : Int32) (x3 : Int32) (x4 : Int32) (x5 : Int32) (x6 : Int32) : dt2 (fun Q => rb_X12_sends_55   S x2 x3 x4 x5 x6 Q) := by
  unfold rb_X12_sends_55
  exact (gd2 (ifn2 (b22 (drm_X12_traced _ _ _) fun r7_ S8_ => (gd2 (gd2 (ifn2 (gd2 (if2 (drb_X12_sends_125 _) (b22 (drm_X12_passes _ _ _) fun r20_ S21_ => (exi2 fun x22_ => (if2 (b22 (drm_X12_waits _ _ _ _ _) fun r25_ S26_ => (exi2 fun x27_ => (gd2 (gd2 lf2)))) (drb_X12_sends_125 _)))))) (b22 (drm_X12_sample _ _ _) fun r37_ S38_ => (gd2 lf2)))))) lf2))
set_option maxRecDepth 100000 in
set_option maxHeartbeats 4000000 in
theorem drm_X12_sends (S : r_S) (x1 : Int32) (x2 : Int32) (x3 : Int32) (x4 : Int32) (x5 : Int32) : dt2 (fun Q => rm_X12_sends   S x1 x2 x3 x4 x5 Q) := by
  unfold rm_X12_sends
  exact (b22 (drm_X12_isThing _ _ _ _) fun r40_ S41_ => (exi2 fun x42_ => (if2 (drb_X12_sends_24 _) (gd2 (ifn2 (gd2 (if2 (drb_X12_sends_55 _ _ _ _ _ _) (b22 (drm_X12_isTime _ _) fun r55_ S56_ => (exi2 fun x57_ => (ifn2 (drb_X12_sends_55 _ _ _ _ _ _) lf2))))) (drb_X12_sends_24 _))))))
set_option maxRecDepth 100000 in
set_option maxHeartbeats 4000000 in
theorem drb_X12_receives_24 (S : r_S) : dt2 (fun Q => rb_X12_receives_24   S Q) := by
  unfold rb_X12_receives_24
  exact lf2
set_option maxRecDepth 100000 in
set_option maxHeartbeats 4000000 in
theorem drb_X12_receives_140 (S : r_S) (xs0 : Int32) : dt2 (fun Q => rb_X12_receives_140   S xs0 Q) := by
  unfold rb_X12_receives_140
  exact lf2
set_option maxRecDepth 100000 in
set_option maxHeartbeats 4000000 in
theorem drb_X12_receives_206 {B206 : (Option Value → r_S → Prop) → r_S → Int32 → Int32 → Prop} (hB206 : ∀ y0 y1 y2, dt2 (fun Q => B206 Q y0 y1 y2)) (S : r_S) (x6 : Int32) (x7 : Int32) : dt2 (fun Q => rb_X12_receives_206  (B206 Q) S x6 x7 Q) := by
  unfold rb_X12_receives_206
  exact (gd2 (if2 (gd2 (b22 (drm_X12_waiter _ _ _ _) fun r11_ S12_ => (exi2 fun x13_ => (ifn2 (gd2 (gd2 (gd2 (gd2 (gd2 (al2 fun S33_ => (b22 (drm_X12_gets _ _) fun r34_ S35_ => (gd2 lf2)))))))) lf2)))) (gd2 (gd2 (hB206 _ _ _)))))
theorem drl_X12_receives_206 (n : Nat) (S : r_S) (x6 : Int32) (x7 : Int32) : dt2 (fun Q => rl_X12_receives_206   n S x6 x7 Q) := by
  induction n generalizing S x6 x7 with
  | zero => exact fa2
  | succ n ih => exact drb_X12_receives_206 (B206 := fun Q y0 y1 y2 => rl_X12_receives_206   n y0 y1 y2 Q) (fun y0 y1 y2 => ih y0 y1 y2) _ _ _
set_option maxRecDepth 100000 in
set_option maxHeartbeats 4000000 in
theorem drb_X12_receives_55 (S : r_S) (x2 : Int32) (x3 : Int32) (x4 : Int32) (x5 : Int32) : dt2 (fun Q => rb_X12_receives_55   S x2 x3 x4 x5 Q) := by
  unfold rb_X12_receives_55
  exact (gd2 (ifn2 (gd2 (ifn2 (gd2 (ifn2 (gd2 (gd2 (gd2 (gd2 (al2 fun S70_ => (exn2 fun n71_ => (drl_X12_receives_206 _ _ _ _))))))) (gd2 (b22 (drm_X12_waits _ _ _ _ _) fun r76_ S77_ => (exi2 fun x78_ => lf2))))) (gd2 (ifn2 (gd2 (gd2 (gd2 (gd2 (if2 (drb_X12_receives_140 _ _) (drb_X12_receives_140 _ _)))))) lf2)))) lf2))
set_option maxRecDepth 100000 in
set_option maxHeartbeats 4000000 in
theorem drm_X12_receives (S : r_S) (x1 : Int32) (x2 : Int32) (x3 : Int32) (x4 : Int32) : dt2 (fun Q => rm_X12_receives   S x1 x2 x3 x4 Q) := by
  unfold rm_X12_receives
  exact (b22 (drm_X12_isThing _ _ _ _) fun r102_ S103_ => (exi2 fun x104_ => (if2 (drb_X12_receives_24 _) (gd2 (if2 (gd2 (if2 (drb_X12_receives_55 _ _ _ _ _) (b22 (drm_X12_isTime _ _) fun r117_ S118_ => (exi2 fun x119_ => (ifn2 (drb_X12_receives_55 _ _ _ _ _) lf2))))) (drb_X12_receives_24 _))))))
set_option maxRecDepth 100000 in
set_option maxHeartbeats 4000000 in
theorem drb_X12_decides_29 (S : r_S) : dt2 (fun Q => rb_X12_decides_29   S Q) := by
  unfold rb_X12_decides_29
  exact lf2
set_option maxRecDepth 100000 in
set_option maxHeartbeats 4000000 in
theorem drb_X12_decides_97 (S : r_S) (x1 : Int32) : dt2 (fun Q => rb_X12_decides_97   S x1 Q) := by
  unfold rb_X12_decides_97
  exact (gd2 lf2)
set_option maxRecDepth 100000 in
set_option maxHeartbeats 4000000 in
theorem drb_X12_decides_64 (S : r_S) (x1 : Int32) (x4 : Int32) : dt2 (fun Q => rb_X12_decides_64   S x1 x4 Q) := by
  unfold rb_X12_decides_64
  exact (b22 (drm_X12_isReady _ _) fun r7_ S8_ => (gd2 (drb_X12_decides_97 _ _)))
set_option maxRecDepth 100000 in
set_option maxHeartbeats 4000000 in
theorem drm_X12_decides (S : r_S) (x1 : Int32) (x2 : Int32) (x3 : Int32) : dt2 (fun Q => rm_X12_decides   S x1 x2 x3 Q) := by
  unfold rm_X12_decides
  exact (b22 (drm_X12_isHandler _ _) fun r10_ S11_ => (exi2 fun x12_ => (ifn2 (b22 (drm_X12_isFaulted _ _) fun r15_ S16_ => (exi2 fun x17_ => (ifn2 (if2 (drb_X12_decides_29 _) (if2 (gd2 (ifn2 (ifn2 (b22 (drm_X12_startsAt _ _ _) fun r28_ S29_ => (gd2 (drb_X12_decides_97 _ _))) (b22 (drm_X12_dormant _ _) fun r30_ S31_ => (gd2 (drb_X12_decides_97 _ _)))) (gd2 (if2 (drb_X12_decides_64 _ _ _) (gd2 (gd2 (drb_X12_decides_64 _ _ _))))))) (drb_X12_decides_29 _))) lf2))) lf2)))
set_option maxRecDepth 100000 in
set_option maxHeartbeats 4000000 in
theorem drb_X12_ofPorts_279 (S : r_S) (x2 : Int32) (x3 : Int32) : dt2 (fun Q => rb_X12_ofPorts_279   S x2 x3 Q) := by
  unfold rb_X12_ofPorts_279
  exact (gd2 (gd2 lf2))
set_option maxRecDepth 100000 in
set_option maxHeartbeats 4000000 in
theorem drb_X12_ofPorts_235 (S : r_S) (x2 : Int32) (x3 : Int32) : dt2 (fun Q => rb_X12_ofPorts_235   S x2 x3 Q) := by
  unfold rb_X12_ofPorts_235
  exact (gd2 (gd2 (gd2 (gd2 (gd2 (al2 fun S31_ => (drb_X12_ofPorts_279 _ _ _)))))))
set_option maxRecDepth 100000 in
set_option maxHeartbeats 4000000 in
theorem drb_X12_ofPorts_197 (S : r_S) (x2 : Int32) (x3 : Int32) : dt2 (fun Q => rb_X12_ofPorts_197   S x2 x3 Q) := by
  unfold rb_X12_ofPorts_197
  exact (b22 (drm_X12_isHandler _ _) fun r33_ S34_ => (exi2 fun x35_ => (ifn2 (b22 (drm_X12_isFaulted _ _) fun r38_ S39_ => (exi2 fun x40_ => (ifn2 (gd2 (gd2 (drb_X12_ofPorts_235 _ _ _))) lf2))) lf2)))
set_option maxRecDepth 100000 in
set_option maxHeartbeats 4000000 in
theorem drb_X12_ofPorts_154 (S : r_S) : dt2 (fun Q => rb_X12_ofPorts_154   S Q) := by
  unfold rb_X12_ofPorts_154
  exact lf2
set_option maxRecDepth 100000 in
set_option maxHeartbeats 4000000 in
theorem drb_X12_ofPorts_190 (S : r_S) : dt2 (fun Q => rb_X12_ofPorts_190   S Q) := by
  unfold rb_X12_ofPorts_190
  exact lf2
set_option maxRecDepth 100000 in
set_option maxHeartbeats 4000000 in
theorem drb_X12_ofPorts_187 (S : r_S) (xs1 : Int32) (xs2 : Int32) (xs3 : Int32) : dt2 (fun Q => rb_X12_ofPorts_187   S xs1 xs2 xs3 Q) := by
  unfold rb_X12_ofPorts_187
  exact (b22 (drm_X12_begins _ _ _ _) fun r53_ S54_ => (gd2 (drb_X12_ofPorts_190 _)))
set_option maxRecDepth 100000 in
set_option maxHeartbeats 4000000 in
theorem drb_X12_ofPorts_143 (S : r_S) (x2 : Int32) (x4 : Int32) : dt2 (fun Q => rb_X12_ofPorts_143   S x2 x4 Q) := by
  unfold rb_X12_ofPorts_143
  exact (if2 (drb_X12_ofPorts_154 _) (if2 (ifn2 (ifn2 (drb_X12_ofPorts_187 _ _ _ _) (drb_X12_ofPorts_187 _ _ _ _)) (b22 (drm_X12_idle _ _) fun r60_ S61_ => (gd2 (drb_X12_ofPorts_190 _)))) (drb_X12_ofPorts_154 _)))
set_option maxRecDepth 100000 in
set_option maxHeartbeats 4000000 in
theorem drb_X12_ofPorts_141 (S : r_S) : dt2 (fun Q => rb_X12_ofPorts_141   S Q) := by
  unfold rb_X12_ofPorts_141
  exact lf2
set_option maxRecDepth 100000 in
set_option maxHeartbeats 4000000 in
theorem drb_X12_ofPorts_110 (S : r_S) (x2 : Int32) (x3 : Int32) : dt2 (fun Q => rb_X12_ofPorts_110   S x2 x3 Q) := by
  unfold rb_X12_ofPorts_110
  exact (b22 (drm_X12_isHandler _ _) fun r63_ S64_ => (exi2 fun x65_ => (if2 (gd2 (ifn2 (gd2 (gd2 (drb_X12_ofPorts_141 _))) lf2)) lf2)))
set_option maxRecDepth 100000 in
set_option maxHeartbeats 4000000 in
theorem drb_X12_ofPorts_101 (S : r_S) (x2 : Int32) (x3 : Int32) : dt2 (fun Q => rb_X12_ofPorts_101   S x2 x3 Q) := by
  unfold rb_X12_ofPorts_101
  exact (gd2 lf2)
set_option maxRecDepth 100000 in
set_option maxHeartbeats 4000000 in
theorem drb_X12_ofPorts_68 (S : r_S) (x2 : Int32) (x3 : Int32) : dt2 (fun Q => rb_X12_ofPorts_68   S x2 x3 Q) := by
  unfold rb_X12_ofPorts_68
  exact (b22 (drm_X12_isHandler _ _) fun r81_ S82_ => (exi2 fun x83_ => (if2 (gd2 (ifn2 (gd2 (gd2 (drb_X12_ofPorts_101 _ _ _))) lf2)) lf2)))
set_option maxRecDepth 100000 in
set_option maxHeartbeats 4000000 in
theorem drb_X12_ofPorts_299 (S : r_S) (x2 : Int32) (x3 : Int32) (x4 : Int32) : dt2 (fun Q => rb_X12_ofPorts_299   S x2 x3 x4 Q) := by
  unfold rb_X12_ofPorts_299
  exact (b22 (drm_X12_decides _ _ _ _) fun r94_ S95_ => (exi2 fun x96_ => lf2))
set_option maxRecDepth 100000 in
set_option maxHeartbeats 4000000 in
theorem drb_X12_ofPorts_57 (S : r_S) (x2 : Int32) (x3 : Int32) (x4 : Int32) (x5 : Int32) : dt2 (fun Q => rb_X12_ofPorts_57   S x2 x3 x4 x5 Q) := by
  unfold rb_X12_ofPorts_57
  exact (b22 (drm_X12_receives _ _ _ _ _) fun r98_ S99_ => (exi2 fun x100_ => lf2))
set_option maxRecDepth 100000 in
set_option maxHeartbeats 4000000 in
theorem drb_X12_ofPorts_44 (S : r_S) (x2 : Int32) (x3 : Int32) (x4 : Int32) (x5 : Int32) (x6 : Int32) : dt2 (fun Q => rb_X12_ofPorts_44   S x2 x3 x4 x5 x6 Q) := by
  unfold rb_X12_ofPorts_44
  exact (b22 (drm_X12_sends _ _ _ _ _ _) fun r102_ S103_ => (exi2 fun x104_ => lf2))
set_option maxRecDepth 100000 in
set_option maxHeartbeats 4000000 in
theorem drm_X12_ofPorts (S : r_S) (x1 : Int32) (x2 : Int32) (x3 : Int32) (x4 : Int32) (x5 : Int32) (x6 : Int32) : dt2 (fun Q => rm_X12_ofPorts   S x1 x2 x3 x4 x5 x6 Q) := by
  unfold rm_X12_ofPorts
  exact (by
    have e0 : (x1 = (18 : Int32)) ↔ (x1).toInt = 18 := sw_iff (by decide)
    have e1 : (x1 = (19 : Int32)) ↔ (x1).toInt = 19 := sw_iff (by decide)
    have e2 : (x1 = (20 : Int32)) ↔ (x1).toInt = 20 := sw_iff (by decide)
    have e3 : (x1 = (21 : Int32)) ↔ (x1).toInt = 21 := sw_iff (by decide)
    have e4 : (x1 = (22 : Int32)) ↔ (x1).toInt = 22 := sw_iff (by decide)
    have e5 : (x1 = (23 : Int32)) ↔ (x1).toInt = 23 := sw_iff (by decide)
    have e6 : (x1 = (24 : Int32)) ↔ (x1).toInt = 24 := sw_iff (by decide)
    have ex : ((x1.toInt < 18 ∨ 24 < x1.toInt)) ∨ ((x1 = (18 : Int32))) ∨ ((x1 = (19 : Int32))) ∨ ((x1 = (20 : Int32))) ∨ ((x1 = (21 : Int32))) ∨ ((x1 = (22 : Int32))) ∨ ((x1 = (23 : Int32))) ∨ ((x1 = (24 : Int32))) := by
      simp only [e0, e1, e2, e3, e4, e5, e6]; omega
    intro P h
    have t0 : dt2 (fun Q : Option Value → r_S → Prop => (rb_X12_ofPorts_299 S x2 x3 x4 Q)) := (drb_X12_ofPorts_299 _ _ _ _)
    have t1 : dt2 (fun Q : Option Value → r_S → Prop => (rb_X12_ofPorts_44 S x2 x3 x4 x5 x6 Q)) := (drb_X12_ofPorts_44 _ _ _ _ _ _)
    have t2 : dt2 (fun Q : Option Value → r_S → Prop => (rb_X12_ofPorts_57 S x2 x3 x4 x5 Q)) := (drb_X12_ofPorts_57 _ _ _ _ _)
    have t3 : dt2 (fun Q : Option Value → r_S → Prop => (rb_X12_ofPorts_299 S x2 x3 x4 Q)) := (drb_X12_ofPorts_299 _ _ _ _)
    have t4 : dt2 (fun Q : Option Value → r_S → Prop => (rb_X12_ofPorts_68 S x2 x3 Q)) := (drb_X12_ofPorts_68 _ _ _)
    have t5 : dt2 (fun Q : Option Value → r_S → Prop => (rb_X12_ofPorts_110 S x2 x3 Q)) := (drb_X12_ofPorts_110 _ _ _)
    have t6 : dt2 (fun Q : Option Value → r_S → Prop => (rb_X12_ofPorts_143 S x2 x4 Q)) := (drb_X12_ofPorts_143 _ _ _)
    have t7 : dt2 (fun Q : Option Value → r_S → Prop => (rb_X12_ofPorts_197 S x2 x3 Q)) := (drb_X12_ofPorts_197 _ _ _)
    rcases ex with hc | hc | hc | hc | hc | hc | hc | hc
    · obtain ⟨v, s, hp, hr⟩ := t0 P (h.1 hc)
      try simp only [e0, e1, e2, e3, e4, e5, e6] at hc
      exact ⟨v, s, hp, fun Q hq => ⟨fun _ => hr Q hq, fun h2 => absurd hc (by (try simp only [e0, e1, e2, e3, e4, e5, e6] at h2); omega), fun h2 => absurd hc (by (try simp only [e0, e1, e2, e3, e4, e5, e6] at h2); omega), fun h2 => absurd hc (by (try simp only [e0, e1, e2, e3, e4, e5, e6] at h2); omega), fun h2 => absurd hc (by (try simp only [e0, e1, e2, e3, e4, e5, e6] at h2); omega), fun h2 => absurd hc (by (try simp only [e0, e1, e2, e3, e4, e5, e6] at h2); omega), fun h2 => absurd hc (by (try simp only [e0, e1, e2, e3, e4, e5, e6] at h2); omega), fun h2 => absurd hc (by (try simp only [e0, e1, e2, e3, e4, e5, e6] at h2); omega)⟩⟩
    · obtain ⟨v, s, hp, hr⟩ := t1 P (h.2.1 hc)
      try simp only [e0, e1, e2, e3, e4, e5, e6] at hc
      exact ⟨v, s, hp, fun Q hq => ⟨fun h2 => absurd hc (by (try simp only [e0, e1, e2, e3, e4, e5, e6] at h2); omega), fun _ => hr Q hq, fun h2 => absurd hc (by (try simp only [e0, e1, e2, e3, e4, e5, e6] at h2); omega), fun h2 => absurd hc (by (try simp only [e0, e1, e2, e3, e4, e5, e6] at h2); omega), fun h2 => absurd hc (by (try simp only [e0, e1, e2, e3, e4, e5, e6] at h2); omega), fun h2 => absurd hc (by (try simp only [e0, e1, e2, e3, e4, e5, e6] at h2); omega), fun h2 => absurd hc (by (try simp only [e0, e1, e2, e3, e4, e5, e6] at h2); omega), fun h2 => absurd hc (by (try simp only [e0, e1, e2, e3, e4, e5, e6] at h2); omega)⟩⟩
    · obtain ⟨v, s, hp, hr⟩ := t2 P (h.2.2.1 hc)
      try simp only [e0, e1, e2, e3, e4, e5, e6] at hc
      exact ⟨v, s, hp, fun Q hq => ⟨fun h2 => absurd hc (by (try simp only [e0, e1, e2, e3, e4, e5, e6] at h2); omega), fun h2 => absurd hc (by (try simp only [e0, e1, e2, e3, e4, e5, e6] at h2); omega), fun _ => hr Q hq, fun h2 => absurd hc (by (try simp only [e0, e1, e2, e3, e4, e5, e6] at h2); omega), fun h2 => absurd hc (by (try simp only [e0, e1, e2, e3, e4, e5, e6] at h2); omega), fun h2 => absurd hc (by (try simp only [e0, e1, e2, e3, e4, e5, e6] at h2); omega), fun h2 => absurd hc (by (try simp only [e0, e1, e2, e3, e4, e5, e6] at h2); omega), fun h2 => absurd hc (by (try simp only [e0, e1, e2, e3, e4, e5, e6] at h2); omega)⟩⟩
    · obtain ⟨v, s, hp, hr⟩ := t3 P (h.2.2.2.1 hc)
      try simp only [e0, e1, e2, e3, e4, e5, e6] at hc
      exact ⟨v, s, hp, fun Q hq => ⟨fun h2 => absurd hc (by (try simp only [e0, e1, e2, e3, e4, e5, e6] at h2); omega), fun h2 => absurd hc (by (try simp only [e0, e1, e2, e3, e4, e5, e6] at h2); omega), fun h2 => absurd hc (by (try simp only [e0, e1, e2, e3, e4, e5, e6] at h2); omega), fun _ => hr Q hq, fun h2 => absurd hc (by (try simp only [e0, e1, e2, e3, e4, e5, e6] at h2); omega), fun h2 => absurd hc (by (try simp only [e0, e1, e2, e3, e4, e5, e6] at h2); omega), fun h2 => absurd hc (by (try simp only [e0, e1, e2, e3, e4, e5, e6] at h2); omega), fun h2 => absurd hc (by (try simp only [e0, e1, e2, e3, e4, e5, e6] at h2); omega)⟩⟩
    · obtain ⟨v, s, hp, hr⟩ := t4 P (h.2.2.2.2.1 hc)
      try simp only [e0, e1, e2, e3, e4, e5, e6] at hc
      exact ⟨v, s, hp, fun Q hq => ⟨fun h2 => absurd hc (by (try simp only [e0, e1, e2, e3, e4, e5, e6] at h2); omega), fun h2 => absurd hc (by (try simp only [e0, e1, e2, e3, e4, e5, e6] at h2); omega), fun h2 => absurd hc (by (try simp only [e0, e1, e2, e3, e4, e5, e6] at h2); omega), fun h2 => absurd hc (by (try simp only [e0, e1, e2, e3, e4, e5, e6] at h2); omega), fun _ => hr Q hq, fun h2 => absurd hc (by (try simp only [e0, e1, e2, e3, e4, e5, e6] at h2); omega), fun h2 => absurd hc (by (try simp only [e0, e1, e2, e3, e4, e5, e6] at h2); omega), fun h2 => absurd hc (by (try simp only [e0, e1, e2, e3, e4, e5, e6] at h2); omega)⟩⟩
    · obtain ⟨v, s, hp, hr⟩ := t5 P (h.2.2.2.2.2.1 hc)
      try simp only [e0, e1, e2, e3, e4, e5, e6] at hc
      exact ⟨v, s, hp, fun Q hq => ⟨fun h2 => absurd hc (by (try simp only [e0, e1, e2, e3, e4, e5, e6] at h2); omega), fun h2 => absurd hc (by (try simp only [e0, e1, e2, e3, e4, e5, e6] at h2); omega), fun h2 => absurd hc (by (try simp only [e0, e1, e2, e3, e4, e5, e6] at h2); omega), fun h2 => absurd hc (by (try simp only [e0, e1, e2, e3, e4, e5, e6] at h2); omega), fun h2 => absurd hc (by (try simp only [e0, e1, e2, e3, e4, e5, e6] at h2); omega), fun _ => hr Q hq, fun h2 => absurd hc (by (try simp only [e0, e1, e2, e3, e4, e5, e6] at h2); omega), fun h2 => absurd hc (by (try simp only [e0, e1, e2, e3, e4, e5, e6] at h2); omega)⟩⟩
    · obtain ⟨v, s, hp, hr⟩ := t6 P (h.2.2.2.2.2.2.1 hc)
      try simp only [e0, e1, e2, e3, e4, e5, e6] at hc
      exact ⟨v, s, hp, fun Q hq => ⟨fun h2 => absurd hc (by (try simp only [e0, e1, e2, e3, e4, e5, e6] at h2); omega), fun h2 => absurd hc (by (try simp only [e0, e1, e2, e3, e4, e5, e6] at h2); omega), fun h2 => absurd hc (by (try simp only [e0, e1, e2, e3, e4, e5, e6] at h2); omega), fun h2 => absurd hc (by (try simp only [e0, e1, e2, e3, e4, e5, e6] at h2); omega), fun h2 => absurd hc (by (try simp only [e0, e1, e2, e3, e4, e5, e6] at h2); omega), fun h2 => absurd hc (by (try simp only [e0, e1, e2, e3, e4, e5, e6] at h2); omega), fun _ => hr Q hq, fun h2 => absurd hc (by (try simp only [e0, e1, e2, e3, e4, e5, e6] at h2); omega)⟩⟩
    · obtain ⟨v, s, hp, hr⟩ := t7 P (h.2.2.2.2.2.2.2 hc)
      try simp only [e0, e1, e2, e3, e4, e5, e6] at hc
      exact ⟨v, s, hp, fun Q hq => ⟨fun h2 => absurd hc (by (try simp only [e0, e1, e2, e3, e4, e5, e6] at h2); omega), fun h2 => absurd hc (by (try simp only [e0, e1, e2, e3, e4, e5, e6] at h2); omega), fun h2 => absurd hc (by (try simp only [e0, e1, e2, e3, e4, e5, e6] at h2); omega), fun h2 => absurd hc (by (try simp only [e0, e1, e2, e3, e4, e5, e6] at h2); omega), fun h2 => absurd hc (by (try simp only [e0, e1, e2, e3, e4, e5, e6] at h2); omega), fun h2 => absurd hc (by (try simp only [e0, e1, e2, e3, e4, e5, e6] at h2); omega), fun h2 => absurd hc (by (try simp only [e0, e1, e2, e3, e4, e5, e6] at h2); omega), fun _ => hr Q hq⟩⟩)
set_option maxRecDepth 100000 in
set_option maxHeartbeats 4000000 in
theorem drb_X12_holds_32 (S : r_S) : dt2 (fun Q => rb_X12_holds_32   S Q) := by
  unfold rb_X12_holds_32
  exact lf2
set_option maxRecDepth 100000 in
set_option maxHeartbeats 4000000 in
theorem drb_X12_holds_64 (S : r_S) : dt2 (fun Q => rb_X12_holds_64   S Q) := by
  unfold rb_X12_holds_64
  exact lf2
set_option maxRecDepth 100000 in
set_option maxHeartbeats 4000000 in
theorem drb_X12_holds_97 (S : r_S) : dt2 (fun Q => rb_X12_holds_97   S Q) := by
  unfold rb_X12_holds_97
  exact lf2
set_option maxRecDepth 100000 in
set_option maxHeartbeats 4000000 in
theorem drb_X12_holds_66 (S : r_S) (x4 : Int32) : dt2 (fun Q => rb_X12_holds_66   S x4 Q) := by
  unfold rb_X12_holds_66
  exact (gd2 (if2 (drb_X12_holds_97 _) (gd2 (if2 (drb_X12_holds_97 _) (gd2 (if2 (gd2 lf2) (drb_X12_holds_97 _)))))))
set_option maxRecDepth 100000 in
set_option maxHeartbeats 4000000 in
theorem drm_X12_holds (S : r_S) (x1 : Int32) (x2 : Int32) (x3 : Int32) : dt2 (fun Q => rm_X12_holds   S x1 x2 x3 Q) := by
  unfold rm_X12_holds
  exact (b22 (drm_X12_isProcess _ _ _) fun r16_ S17_ => (exi2 fun x18_ => (if2 (drb_X12_holds_32 _) (if2 (drb_X12_holds_32 _) (b22 (drm_X12_isHandler _ _) fun r22_ S23_ => (exi2 fun x24_ => (if2 (gd2 (if2 (drb_X12_holds_64 _) (gd2 (if2 (drb_X12_holds_66 _ _) (gd2 (ifn2 (drb_X12_holds_66 _ _) (drb_X12_holds_64 _))))))) (drb_X12_holds_32 _))))))))
set_option maxRecDepth 100000 in
set_option maxHeartbeats 4000000 in
theorem drb_X12_letsGo_116 (S : r_S) : dt2 (fun Q => rb_X12_letsGo_116   S Q) := by
  unfold rb_X12_letsGo_116
  exact lf2
set_option maxRecDepth 100000 in
set_option maxHeartbeats 4000000 in
theorem drb_X12_letsGo_66 (S : r_S) (x3 : Int32) (x4 : Int32) : dt2 (fun Q => rb_X12_letsGo_66   S x3 x4 Q) := by
  unfold rb_X12_letsGo_66
  exact (gd2 (if2 (gd2 (ifn2 (drb_X12_letsGo_116 _) (al2 fun S12_ => (gd2 (drb_X12_letsGo_116 _))))) (b22 (drm_X12_gets _ _) fun r17_ S18_ => (gd2 (drb_X12_letsGo_116 _)))))
set_option maxRecDepth 100000 in
set_option maxHeartbeats 4000000 in
theorem drb_X12_letsGo_44 (S : r_S) (x3 : Int32) (xs0 : Int32) : dt2 (fun Q => rb_X12_letsGo_44   S x3 xs0 Q) := by
  unfold rb_X12_letsGo_44
  exact (gd2 (ifn2 (drb_X12_letsGo_66 _ _ _) (ifn2 (drb_X12_letsGo_66 _ _ _) lf2)))
set_option maxRecDepth 100000 in
set_option maxHeartbeats 4000000 in
theorem drb_X12_letsGo_43 (S : r_S) (x3 : Int32) : dt2 (fun Q => rb_X12_letsGo_43   S x3 Q) := by
  unfold rb_X12_letsGo_43
  exact (drb_X12_letsGo_44 _ _ _)
set_option maxRecDepth 100000 in
set_option maxHeartbeats 4000000 in
theorem drm_X12_letsGo (S : r_S) (x1 : Int32) (x2 : Int32) : dt2 (fun Q => rm_X12_letsGo   S x1 x2 Q) := by
  unfold rm_X12_letsGo
  exact (b22 (drm_X12_isProcess _ _ _) fun r27_ S28_ => (exi2 fun x29_ => (ifn2 (gd2 (ifn2 (drb_X12_letsGo_43 _ _) (gd2 (ifn2 (drb_X12_letsGo_43 _ _) (drb_X12_letsGo_44 _ _ _))))) lf2)))
set_option maxRecDepth 100000 in
set_option maxHeartbeats 4000000 in
theorem drb_X12_ofOthers_261 (S : r_S) (x3 : Int32) : dt2 (fun Q => rb_X12_ofOthers_261   S x3 Q) := by
  unfold rb_X12_ofOthers_261
  exact lf2
set_option maxRecDepth 100000 in
set_option maxHeartbeats 4000000 in
theorem drb_X12_ofOthers_258 (S : r_S) (xs1 : Int32) (xs2 : Int32) : dt2 (fun Q => rb_X12_ofOthers_258   S xs1 xs2 Q) := by
  unfold rb_X12_ofOthers_258
  exact (gd2 lf2)
set_option maxRecDepth 100000 in
set_option maxHeartbeats 4000000 in
theorem drb_X12_ofOthers_167 (S : r_S) (x2 : Int32) (x3 : Int32) (x4 : Int32) : dt2 (fun Q => rb_X12_ofOthers_167   S x2 x3 x4 Q) := by
  unfold rb_X12_ofOthers_167
  exact (b22 (drm_X12_isProcess _ _ _) fun r6_ S7_ => (exi2 fun x8_ => (ifn2 (gd2 (gd2 (gd2 (gd2 (al2 fun S27_ => (gd2 (if2 (drb_X12_ofOthers_258 _ _ _) (gd2 (drb_X12_ofOthers_258 _ _ _))))))))) lf2)))
set_option maxRecDepth 100000 in
set_option maxHeartbeats 4000000 in
theorem drb_X12_ofOthers_100 (S : r_S) : dt2 (fun Q => rb_X12_ofOthers_100   S Q) := by
  unfold rb_X12_ofOthers_100
  exact lf2
set_option maxRecDepth 100000 in
set_option maxHeartbeats 4000000 in
theorem drb_X12_ofOthers_143 (S : r_S) : dt2 (fun Q => rb_X12_ofOthers_143   S Q) := by
  unfold rb_X12_ofOthers_143
  exact lf2
set_option maxRecDepth 100000 in
set_option maxHeartbeats 4000000 in
theorem drb_X12_ofOthers_145 (S : r_S) (x3 : Int32) (x4 : Int32) : dt2 (fun Q => rb_X12_ofOthers_145   S x3 x4 Q) := by
  unfold rb_X12_ofOthers_145
  exact (gd2 (gd2 (al2 fun S46_ => lf2)))
set_option maxRecDepth 100000 in
set_option maxHeartbeats 4000000 in
theorem drb_X12_ofOthers_86 (S : r_S) (x3 : Int32) (x4 : Int32) : dt2 (fun Q => rb_X12_ofOthers_86   S x3 x4 Q) := by
  unfold rb_X12_ofOthers_86
  exact (if2 (drb_X12_ofOthers_100 _) (if2 (gd2 (if2 (drb_X12_ofOthers_143 _) (gd2 (if2 (drb_X12_ofOthers_145 _ _ _) (gd2 (gd2 (if2 (drb_X12_ofOthers_145 _ _ _) (drb_X12_ofOthers_143 _)))))))) (drb_X12_ofOthers_100 _)))
set_option maxRecDepth 100000 in
set_option maxHeartbeats 4000000 in
theorem drb_X12_ofOthers_78 (S : r_S) (x2 : Int32) (x4 : Int32) : dt2 (fun Q => rb_X12_ofOthers_78   S x2 x4 Q) := by
  unfold rb_X12_ofOthers_78
  exact (b22 (drm_X12_letsGo _ _ _) fun r67_ S68_ => (exi2 fun x69_ => lf2))
set_option maxRecDepth 100000 in
set_option maxHeartbeats 4000000 in
theorem drb_X12_ofOthers_69 (S : r_S) (x2 : Int32) (x3 : Int32) (x4 : Int32) : dt2 (fun Q => rb_X12_ofOthers_69   S x2 x3 x4 Q) := by
  unfold rb_X12_ofOthers_69
  exact (b22 (drm_X12_holds _ _ _ _) fun r71_ S72_ => (exi2 fun x73_ => lf2))
set_option maxRecDepth 100000 in
set_option maxHeartbeats 4000000 in
theorem drb_X12_ofOthers_36 (S : r_S) (x3 : Int32) (x4 : Int32) : dt2 (fun Q => rb_X12_ofOthers_36   S x3 x4 Q) := by
  unfold rb_X12_ofOthers_36
  exact (b22 (drm_X12_isTime _ _) fun r75_ S76_ => (exi2 fun x77_ => (ifn2 (gd2 (if2 (b22 (drm_X12_waits _ _ _ _ _) fun r85_ S86_ => (exi2 fun x87_ => lf2)) lf2)) lf2)))
set_option maxRecDepth 100000 in
set_option maxHeartbeats 4000000 in
theorem drm_X12_ofOthers (S : r_S) (x1 : Int32) (x2 : Int32) (x3 : Int32) (x4 : Int32) (x5 : Int32) : dt2 (fun Q => rm_X12_ofOthers   S x1 x2 x3 x4 x5 Q) := by
  unfold rm_X12_ofOthers
  exact (by
    have e0 : (x1 = (26 : Int32)) ↔ (x1).toInt = 26 := sw_iff (by decide)
    have e1 : (x1 = (27 : Int32)) ↔ (x1).toInt = 27 := sw_iff (by decide)
    have e2 : (x1 = (28 : Int32)) ↔ (x1).toInt = 28 := sw_iff (by decide)
    have e3 : (x1 = (29 : Int32)) ↔ (x1).toInt = 29 := sw_iff (by decide)
    have e4 : (x1 = (30 : Int32)) ↔ (x1).toInt = 30 := sw_iff (by decide)
    have ex : ((x1.toInt < 26 ∨ 30 < x1.toInt)) ∨ ((x1 = (26 : Int32))) ∨ ((x1 = (27 : Int32))) ∨ ((x1 = (28 : Int32))) ∨ ((x1 = (29 : Int32))) ∨ ((x1 = (30 : Int32))) := by
      simp only [e0, e1, e2, e3, e4]; omega
    intro P h
    have t0 : dt2 (fun Q : Option Value → r_S → Prop => (rb_X12_ofOthers_261 S x3 Q)) := (drb_X12_ofOthers_261 _ _)
    have t1 : dt2 (fun Q : Option Value → r_S → Prop => (rb_X12_ofOthers_36 S x3 x4 Q)) := (drb_X12_ofOthers_36 _ _ _)
    have t2 : dt2 (fun Q : Option Value → r_S → Prop => (rb_X12_ofOthers_69 S x2 x3 x4 Q)) := (drb_X12_ofOthers_69 _ _ _ _)
    have t3 : dt2 (fun Q : Option Value → r_S → Prop => (rb_X12_ofOthers_78 S x2 x4 Q)) := (drb_X12_ofOthers_78 _ _ _)
    have t4 : dt2 (fun Q : Option Value → r_S → Prop => (rb_X12_ofOthers_86 S x3 x4 Q)) := (drb_X12_ofOthers_86 _ _ _)
    have t5 : dt2 (fun Q : Option Value → r_S → Prop => (rb_X12_ofOthers_167 S x2 x3 x4 Q)) := (drb_X12_ofOthers_167 _ _ _ _)
    rcases ex with hc | hc | hc | hc | hc | hc
    · obtain ⟨v, s, hp, hr⟩ := t0 P (h.1 hc)
      try simp only [e0, e1, e2, e3, e4] at hc
      exact ⟨v, s, hp, fun Q hq => ⟨fun _ => hr Q hq, fun h2 => absurd hc (by (try simp only [e0, e1, e2, e3, e4] at h2); omega), fun h2 => absurd hc (by (try simp only [e0, e1, e2, e3, e4] at h2); omega), fun h2 => absurd hc (by (try simp only [e0, e1, e2, e3, e4] at h2); omega), fun h2 => absurd hc (by (try simp only [e0, e1, e2, e3, e4] at h2); omega), fun h2 => absurd hc (by (try simp only [e0, e1, e2, e3, e4] at h2); omega)⟩⟩
    · obtain ⟨v, s, hp, hr⟩ := t1 P (h.2.1 hc)
      try simp only [e0, e1, e2, e3, e4] at hc
      exact ⟨v, s, hp, fun Q hq => ⟨fun h2 => absurd hc (by (try simp only [e0, e1, e2, e3, e4] at h2); omega), fun _ => hr Q hq, fun h2 => absurd hc (by (try simp only [e0, e1, e2, e3, e4] at h2); omega), fun h2 => absurd hc (by (try simp only [e0, e1, e2, e3, e4] at h2); omega), fun h2 => absurd hc (by (try simp only [e0, e1, e2, e3, e4] at h2); omega), fun h2 => absurd hc (by (try simp only [e0, e1, e2, e3, e4] at h2); omega)⟩⟩
    · obtain ⟨v, s, hp, hr⟩ := t2 P (h.2.2.1 hc)
      try simp only [e0, e1, e2, e3, e4] at hc
      exact ⟨v, s, hp, fun Q hq => ⟨fun h2 => absurd hc (by (try simp only [e0, e1, e2, e3, e4] at h2); omega), fun h2 => absurd hc (by (try simp only [e0, e1, e2, e3, e4] at h2); omega), fun _ => hr Q hq, fun h2 => absurd hc (by (try simp only [e0, e1, e2, e3, e4] at h2); omega), fun h2 => absurd hc (by (try simp only [e0, e1, e2, e3, e4] at h2); omega), fun h2 => absurd hc (by (try simp only [e0, e1, e2, e3, e4] at h2); omega)⟩⟩
    · obtain ⟨v, s, hp, hr⟩ := t3 P (h.2.2.2.1 hc)
      try simp only [e0, e1, e2, e3, e4] at hc
      exact ⟨v, s, hp, fun Q hq => ⟨fun h2 => absurd hc (by (try simp only [e0, e1, e2, e3, e4] at h2); omega), fun h2 => absurd hc (by (try simp only [e0, e1, e2, e3, e4] at h2); omega), fun h2 => absurd hc (by (try simp only [e0, e1, e2, e3, e4] at h2); omega), fun _ => hr Q hq, fun h2 => absurd hc (by (try simp only [e0, e1, e2, e3, e4] at h2); omega), fun h2 => absurd hc (by (try simp only [e0, e1, e2, e3, e4] at h2); omega)⟩⟩
    · obtain ⟨v, s, hp, hr⟩ := t4 P (h.2.2.2.2.1 hc)
      try simp only [e0, e1, e2, e3, e4] at hc
      exact ⟨v, s, hp, fun Q hq => ⟨fun h2 => absurd hc (by (try simp only [e0, e1, e2, e3, e4] at h2); omega), fun h2 => absurd hc (by (try simp only [e0, e1, e2, e3, e4] at h2); omega), fun h2 => absurd hc (by (try simp only [e0, e1, e2, e3, e4] at h2); omega), fun h2 => absurd hc (by (try simp only [e0, e1, e2, e3, e4] at h2); omega), fun _ => hr Q hq, fun h2 => absurd hc (by (try simp only [e0, e1, e2, e3, e4] at h2); omega)⟩⟩
    · obtain ⟨v, s, hp, hr⟩ := t5 P (h.2.2.2.2.2 hc)
      try simp only [e0, e1, e2, e3, e4] at hc
      exact ⟨v, s, hp, fun Q hq => ⟨fun h2 => absurd hc (by (try simp only [e0, e1, e2, e3, e4] at h2); omega), fun h2 => absurd hc (by (try simp only [e0, e1, e2, e3, e4] at h2); omega), fun h2 => absurd hc (by (try simp only [e0, e1, e2, e3, e4] at h2); omega), fun h2 => absurd hc (by (try simp only [e0, e1, e2, e3, e4] at h2); omega), fun h2 => absurd hc (by (try simp only [e0, e1, e2, e3, e4] at h2); omega), fun _ => hr Q hq⟩⟩)
set_option maxRecDepth 100000 in
set_option maxHeartbeats 4000000 in
theorem drb_X12_wordsOf_41 (S : r_S) (xs0 : Int32) : dt2 (fun Q => rb_X12_wordsOf_41   S xs0 Q) := by
  unfold rb_X12_wordsOf_41
  exact lf2
set_option maxRecDepth 100000 in
set_option maxHeartbeats 4000000 in
theorem drm_X12_wordsOf (S : r_S) (x1 : Int32) : dt2 (fun Q => rm_X12_wordsOf   S x1 Q) := by
  unfold rm_X12_wordsOf
  exact (ifn2 (gd2 (if2 (gd2 (if2 (drb_X12_wordsOf_41 _ _) (drb_X12_wordsOf_41 _ _))) (gd2 (drb_X12_wordsOf_41 _ _)))) (drb_X12_wordsOf_41 _ _))
set_option maxRecDepth 100000 in
set_option maxHeartbeats 4000000 in
theorem drb_X12_tells_87 (S : r_S) (xs0 : Int32) : dt2 (fun Q => rb_X12_tells_87   S xs0 Q) := by
  unfold rb_X12_tells_87
  exact lf2
set_option maxRecDepth 100000 in
set_option maxHeartbeats 4000000 in
theorem drb_X12_tells_63 (S : r_S) (xs0 : Int32) : dt2 (fun Q => rb_X12_tells_63   S xs0 Q) := by
  unfold rb_X12_tells_63
  exact lf2
set_option maxRecDepth 100000 in
set_option maxHeartbeats 4000000 in
theorem drm_X12_tells (S : r_S) (x1 : Int32) (x2 : Int32) (x3 : Int32) : dt2 (fun Q => rm_X12_tells   S x1 x2 x3 Q) := by
  unfold rm_X12_tells
  exact (by
    have e0 : (x2 = (0 : Int32)) ↔ (x2).toInt = 0 := sw_iff (by decide)
    have e1 : (x2 = (1 : Int32)) ↔ (x2).toInt = 1 := sw_iff (by decide)
    have e2 : (x2 = (2 : Int32)) ↔ (x2).toInt = 2 := sw_iff (by decide)
    have e3 : (x2 = (3 : Int32)) ↔ (x2).toInt = 3 := sw_iff (by decide)
    have ex : ((x2.toInt < 0 ∨ 3 < x2.toInt)) ∨ ((x2 = (0 : Int32))) ∨ ((x2 = (1 : Int32))) ∨ ((x2 = (2 : Int32))) ∨ ((x2 = (3 : Int32))) := by
      simp only [e0, e1, e2, e3]; omega
    intro P h
    have t0 : dt2 (fun Q : Option Value → r_S → Prop => (vp_in (((16 : Int32) * x1) + x3) (r_N 2450) ∧ (Q (some (.int (r_A S 2450 (((16 : Int32) * x1) + x3).toNatClampNeg))) S))) := (gd2 lf2)
    have t1 : dt2 (fun Q : Option Value → r_S → Prop => (vp_in (((8 : Int32) * x1) + x3) (r_N 2492) ∧ (Q (some (.int (r_A S 2492 (((8 : Int32) * x1) + x3).toNatClampNeg))) S))) := (gd2 lf2)
    have t2 : dt2 (fun Q : Option Value → r_S → Prop => (vp_in (((8 : Int32) * x1) + x3) (r_N 2493) ∧ (((r_A S 2493 (((8 : Int32) * x1) + x3).toNatClampNeg) = 0 → (rb_X12_tells_63 S (0 : Int32) Q)) ∧ (¬ (r_A S 2493 (((8 : Int32) * x1) + x3).toNatClampNeg) = 0 → (rb_X12_tells_63 S (1 : Int32) Q))))) := (gd2 (if2 (drb_X12_tells_63 _ _) (drb_X12_tells_63 _ _)))
    have t3 : dt2 (fun Q : Option Value → r_S → Prop => (vp_in (((8 : Int32) * x1) + x3) (r_N 2494) ∧ (Q (some (.int (r_A S 2494 (((8 : Int32) * x1) + x3).toNatClampNeg))) S))) := (gd2 lf2)
    have t4 : dt2 (fun Q : Option Value → r_S → Prop => (vp_in (((8 : Int32) * x1) + x3) (r_N 2496) ∧ (((r_A S 2496 (((8 : Int32) * x1) + x3).toNatClampNeg) = 0 → (rb_X12_tells_87 S (0 : Int32) Q)) ∧ (¬ (r_A S 2496 (((8 : Int32) * x1) + x3).toNatClampNeg) = 0 → (rb_X12_tells_87 S (1 : Int32) Q))))) := (gd2 (if2 (drb_X12_tells_87 _ _) (drb_X12_tells_87 _ _)))
    rcases ex with hc | hc | hc | hc | hc
    · obtain ⟨v, s, hp, hr⟩ := t0 P (h.1 hc)
      try simp only [e0, e1, e2, e3] at hc
      exact ⟨v, s, hp, fun Q hq => ⟨fun _ => hr Q hq, fun h2 => absurd hc (by (try simp only [e0, e1, e2, e3] at h2); omega), fun h2 => absurd hc (by (try simp only [e0, e1, e2, e3] at h2); omega), fun h2 => absurd hc (by (try simp only [e0, e1, e2, e3] at h2); omega), fun h2 => absurd hc (by (try simp only [e0, e1, e2, e3] at h2); omega)⟩⟩
    · obtain ⟨v, s, hp, hr⟩ := t1 P (h.2.1 hc)
      try simp only [e0, e1, e2, e3] at hc
      exact ⟨v, s, hp, fun Q hq => ⟨fun h2 => absurd hc (by (try simp only [e0, e1, e2, e3] at h2); omega), fun _ => hr Q hq, fun h2 => absurd hc (by (try simp only [e0, e1, e2, e3] at h2); omega), fun h2 => absurd hc (by (try simp only [e0, e1, e2, e3] at h2); omega), fun h2 => absurd hc (by (try simp only [e0, e1, e2, e3] at h2); omega)⟩⟩
    · obtain ⟨v, s, hp, hr⟩ := t2 P (h.2.2.1 hc)
      try simp only [e0, e1, e2, e3] at hc
      exact ⟨v, s, hp, fun Q hq => ⟨fun h2 => absurd hc (by (try simp only [e0, e1, e2, e3] at h2); omega), fun h2 => absurd hc (by (try simp only [e0, e1, e2, e3] at h2); omega), fun _ => hr Q hq, fun h2 => absurd hc (by (try simp only [e0, e1, e2, e3] at h2); omega), fun h2 => absurd hc (by (try simp only [e0, e1, e2, e3] at h2); omega)⟩⟩
    · obtain ⟨v, s, hp, hr⟩ := t3 P (h.2.2.2.1 hc)
      try simp only [e0, e1, e2, e3] at hc
      exact ⟨v, s, hp, fun Q hq => ⟨fun h2 => absurd hc (by (try simp only [e0, e1, e2, e3] at h2); omega), fun h2 => absurd hc (by (try simp only [e0, e1, e2, e3] at h2); omega), fun h2 => absurd hc (by (try simp only [e0, e1, e2, e3] at h2); omega), fun _ => hr Q hq, fun h2 => absurd hc (by (try simp only [e0, e1, e2, e3] at h2); omega)⟩⟩
    · obtain ⟨v, s, hp, hr⟩ := t4 P (h.2.2.2.2 hc)
      try simp only [e0, e1, e2, e3] at hc
      exact ⟨v, s, hp, fun Q hq => ⟨fun h2 => absurd hc (by (try simp only [e0, e1, e2, e3] at h2); omega), fun h2 => absurd hc (by (try simp only [e0, e1, e2, e3] at h2); omega), fun h2 => absurd hc (by (try simp only [e0, e1, e2, e3] at h2); omega), fun h2 => absurd hc (by (try simp only [e0, e1, e2, e3] at h2); omega), fun _ => hr Q hq⟩⟩)
set_option maxRecDepth 100000 in
set_option maxHeartbeats 4000000 in
theorem drb_X12_wait_219 {B36 : (Option Value → r_S → Prop) → r_S → Int32 → Int32 → Int32 → Int32 → Int32 → Int32 → Prop} (hB36 : ∀ y0 y1 y2 y3 y4 y5 y6, dt2 (fun Q => B36 Q y0 y1 y2 y3 y4 y5 y6)) (S : r_S) (x1 : Int32) (x2 : Int32) (x3 : Int32) (x4 : Int32) (x6 : Int32) (xs0 : Int32) (xs1 : Int32) : dt2 (fun Q => rb_X12_wait_219  (B36 Q) S x1 x2 x3 x4 x6 xs0 xs1 Q) := by
  unfold rb_X12_wait_219
  exact (hB36 _ _ _ _ _ _ _)
set_option maxRecDepth 100000 in
set_option maxHeartbeats 4000000 in
theorem drb_X12_wait_218 {B36 : (Option Value → r_S → Prop) → r_S → Int32 → Int32 → Int32 → Int32 → Int32 → Int32 → Prop} (hB36 : ∀ y0 y1 y2 y3 y4 y5 y6, dt2 (fun Q => B36 Q y0 y1 y2 y3 y4 y5 y6)) (S : r_S) (x1 : Int32) (x2 : Int32) (x3 : Int32) (x4 : Int32) (x6 : Int32) (xs0 : Int32) : dt2 (fun Q => rb_X12_wait_218  (B36 Q) S x1 x2 x3 x4 x6 xs0 Q) := by
  unfold rb_X12_wait_218
  exact (drb_X12_wait_219 hB36 _ _ _ _ _ _ _ _)
set_option maxRecDepth 100000 in
set_option maxHeartbeats 4000000 in
theorem drb_X12_wait_193 {B36 : (Option Value → r_S → Prop) → r_S → Int32 → Int32 → Int32 → Int32 → Int32 → Int32 → Prop} (hB36 : ∀ y0 y1 y2 y3 y4 y5 y6, dt2 (fun Q => B36 Q y0 y1 y2 y3 y4 y5 y6)) (S : r_S) (x1 : Int32) (x2 : Int32) (x3 : Int32) (x4 : Int32) (x5 : Int32) (x6 : Int32) (xs0 : Int32) : dt2 (fun Q => rb_X12_wait_193  (B36 Q) S x1 x2 x3 x4 x5 x6 xs0 Q) := by
  unfold rb_X12_wait_193
  exact (if2 (drb_X12_wait_218 hB36 _ _ _ _ _ _ _) (gd2 (ifn2 (drb_X12_wait_218 hB36 _ _ _ _ _ _ _) (drb_X12_wait_219 hB36 _ _ _ _ _ _ _ _))))
set_option maxRecDepth 100000 in
set_option maxHeartbeats 4000000 in
theorem drb_X12_wait_124 {B36 : (Option Value → r_S → Prop) → r_S → Int32 → Int32 → Int32 → Int32 → Int32 → Int32 → Prop} (hB36 : ∀ y0 y1 y2 y3 y4 y5 y6, dt2 (fun Q => B36 Q y0 y1 y2 y3 y4 y5 y6)) (S : r_S) (x1 : Int32) (x2 : Int32) (x3 : Int32) (x4 : Int32) (x5 : Int32) (x6 : Int32) : dt2 (fun Q => rb_X12_wait_124  (B36 Q) S x1 x2 x3 x4 x5 x6 Q) := by
  unfold rb_X12_wait_124
  exact (drb_X12_wait_193 hB36 _ _ _ _ _ _ _ _)
set_option maxRecDepth 100000 in
set_option maxHeartbeats 4000000 in
theorem drb_X12_wait_192 {B36 : (Option Value → r_S → Prop) → r_S → Int32 → Int32 → Int32 → Int32 → Int32 → Int32 → Prop} (hB36 : ∀ y0 y1 y2 y3 y4 y5 y6, dt2 (fun Q => B36 Q y0 y1 y2 y3 y4 y5 y6)) (S : r_S) (x1 : Int32) (x2 : Int32) (x3 : Int32) (x4 : Int32) (x5 : Int32) (x6 : Int32) : dt2 (fun Q => rb_X12_wait_192  (B36 Q) S x1 x2 x3 x4 x5 x6 Q) := by
  unfold rb_X12_wait_192
  exact (drb_X12_wait_193 hB36 _ _ _ _ _ _ _ _)
set_option maxRecDepth 100000 in
set_option maxHeartbeats 4000000 in
theorem drb_X12_wait_174 {B36 : (Option Value → r_S → Prop) → r_S → Int32 → Int32 → Int32 → Int32 → Int32 → Int32 → Prop} (hB36 : ∀ y0 y1 y2 y3 y4 y5 y6, dt2 (fun Q => B36 Q y0 y1 y2 y3 y4 y5 y6)) (S : r_S) (x1 : Int32) (x2 : Int32) (x3 : Int32) (x4 : Int32) (x5 : Int32) (x6 : Int32) (xs0 : Int32) (xs1 : Int32) : dt2 (fun Q => rb_X12_wait_174  (B36 Q) S x1 x2 x3 x4 x5 x6 xs0 xs1 Q) := by
  unfold rb_X12_wait_174
  exact (ifn2 (drb_X12_wait_192 hB36 _ _ _ _ _ _ _) (gd2 (ifn2 (drb_X12_wait_192 hB36 _ _ _ _ _ _ _) (drb_X12_wait_193 hB36 _ _ _ _ _ _ _ _))))
set_option maxRecDepth 100000 in
set_option maxHeartbeats 4000000 in
theorem drb_X12_wait_68 {B36 : (Option Value → r_S → Prop) → r_S → Int32 → Int32 → Int32 → Int32 → Int32 → Int32 → Prop} (hB36 : ∀ y0 y1 y2 y3 y4 y5 y6, dt2 (fun Q => B36 Q y0 y1 y2 y3 y4 y5 y6)) (S : r_S) (x1 : Int32) (x2 : Int32) (x3 : Int32) (x4 : Int32) (x5 : Int32) (x6 : Int32) (xs0 : Int32) : dt2 (fun Q => rb_X12_wait_68  (B36 Q) S x1 x2 x3 x4 x5 x6 xs0 Q) := by
  unfold rb_X12_wait_68
  exact (ifn2 (ifn2 (ifn2 (ifn2 (gd2 (if2 (drb_X12_wait_174 hB36 _ _ _ _ _ _ _ _ _) (drb_X12_wait_174 hB36 _ _ _ _ _ _ _ _ _))) (ifn2 (drb_X12_wait_193 hB36 _ _ _ _ _ _ _ _) (drb_X12_wait_193 hB36 _ _ _ _ _ _ _ _))) (if2 (drb_X12_wait_124 hB36 _ _ _ _ _ _ _) (ifn2 (drb_X12_wait_193 hB36 _ _ _ _ _ _ _ _) (drb_X12_wait_124 hB36 _ _ _ _ _ _ _)))) (ifn2 (drb_X12_wait_193 hB36 _ _ _ _ _ _ _ _) (drb_X12_wait_193 hB36 _ _ _ _ _ _ _ _))) (ifn2 (drb_X12_wait_193 hB36 _ _ _ _ _ _ _ _) (drb_X12_wait_193 hB36 _ _ _ _ _ _ _ _)))
set_option maxRecDepth 100000 in
set_option maxHeartbeats 4000000 in
theorem drb_X12_wait_36 {B36 : (Option Value → r_S → Prop) → r_S → Int32 → Int32 → Int32 → Int32 → Int32 → Int32 → Prop} (hB36 : ∀ y0 y1 y2 y3 y4 y5 y6, dt2 (fun Q => B36 Q y0 y1 y2 y3 y4 y5 y6)) (S : r_S) (x1 : Int32) (x2 : Int32) (x3 : Int32) (x4 : Int32) (x5 : Int32) (x6 : Int32) : dt2 (fun Q => rb_X12_wait_36  (B36 Q) S x1 x2 x3 x4 x5 x6 Q) := by
  unfold rb_X12_wait_36
  exact (b22 (drm_X12_lastOf _ _) fun r31_ S32_ => (exi2 fun x33_ => (if2 lf2 (gd2 (ifn2 (drb_X12_wait_68 hB36 _ _ _ _ _ _ _ _) (gd2 (drb_X12_wait_68 hB36 _ _ _ _ _ _ _ _)))))))
theorem drl_X12_wait_36 (n : Nat) (S : r_S) (x1 : Int32) (x2 : Int32) (x3 : Int32) (x4 : Int32) (x5 : Int32) (x6 : Int32) : dt2 (fun Q => rl_X12_wait_36   n S x1 x2 x3 x4 x5 x6 Q) := by
  induction n generalizing S x1 x2 x3 x4 x5 x6 with
  | zero => exact fa2
  | succ n ih => exact drb_X12_wait_36 (B36 := fun Q y0 y1 y2 y3 y4 y5 y6 => rl_X12_wait_36   n y0 y1 y2 y3 y4 y5 y6 Q) (fun y0 y1 y2 y3 y4 y5 y6 => ih y0 y1 y2 y3 y4 y5 y6) _ _ _ _ _ _ _
set_option maxRecDepth 100000 in
set_option maxHeartbeats 4000000 in
theorem drb_X12_wait_25 (S : r_S) (x1 : Int32) (x2 : Int32) (x3 : Int32) (xs0 : Int32) : dt2 (fun Q => rb_X12_wait_25   S x1 x2 x3 xs0 Q) := by
  unfold rb_X12_wait_25
  exact (exn2 fun n45_ => (drl_X12_wait_36 _ _ _ _ _ _ _ _))
set_option maxRecDepth 100000 in
set_option maxHeartbeats 4000000 in
theorem drm_X12_wait (S : r_S) (x1 : Int32) (x2 : Int32) (x3 : Int32) : dt2 (fun Q => rm_X12_wait   S x1 x2 x3 Q) := by
  unfold rm_X12_wait
  exact (ifn2 (drb_X12_wait_25 _ _ _ _ _) (gd2 (drb_X12_wait_25 _ _ _ _ _)))
set_option maxRecDepth 100000 in
set_option maxHeartbeats 4000000 in
theorem drb_X12_frames_79 {B79 : (Option Value → r_S → Prop) → r_S → Int32 → Int32 → Int32 → Int32 → Prop} (hB79 : ∀ y0 y1 y2 y3 y4, dt2 (fun Q => B79 Q y0 y1 y2 y3 y4)) (S : r_S) (x1 : Int32) (x2 : Int32) (x5 : Int32) (x6 : Int32) : dt2 (fun Q => rb_X12_frames_79  (B79 Q) S x1 x2 x5 x6 Q) := by
  unfold rb_X12_frames_79
  exact (gd2 (if2 (gd2 (gd2 (al2 fun S15_ => lf2))) (gd2 (gd2 (hB79 _ _ _ _ _)))))
theorem drl_X12_frames_79 (n : Nat) (S : r_S) (x1 : Int32) (x2 : Int32) (x5 : Int32) (x6 : Int32) : dt2 (fun Q => rl_X12_frames_79   n S x1 x2 x5 x6 Q) := by
  induction n generalizing S x1 x2 x5 x6 with
  | zero => exact fa2
  | succ n ih => exact drb_X12_frames_79 (B79 := fun Q y0 y1 y2 y3 y4 => rl_X12_frames_79   n y0 y1 y2 y3 y4 Q) (fun y0 y1 y2 y3 y4 => ih y0 y1 y2 y3 y4) _ _ _ _ _
set_option maxRecDepth 100000 in
set_option maxHeartbeats 4000000 in
theorem drb_X12_frames_11 {B11 : (Option Value → r_S → Prop) → r_S → Int32 → Int32 → Int32 → Int32 → Int32 → Prop} (hB11 : ∀ y0 y1 y2 y3 y4 y5, dt2 (fun Q => B11 Q y0 y1 y2 y3 y4 y5)) (S : r_S) (x1 : Int32) (x2 : Int32) (x3 : Int32) (x4 : Int32) (x5 : Int32) : dt2 (fun Q => rb_X12_frames_11  (B11 Q) S x1 x2 x3 x4 x5 Q) := by
  unfold rb_X12_frames_11
  exact (if2 (gd2 (gd2 (gd2 (gd2 (exn2 fun n33_ => (drl_X12_frames_79 _ _ _ _ _ _)))))) (gd2 (hB11 _ _ _ _ _ _)))
theorem drl_X12_frames_11 (n : Nat) (S : r_S) (x1 : Int32) (x2 : Int32) (x3 : Int32) (x4 : Int32) (x5 : Int32) : dt2 (fun Q => rl_X12_frames_11   n S x1 x2 x3 x4 x5 Q) := by
  induction n generalizing S x1 x2 x3 x4 x5 with
  | zero => exact fa2
  | succ n ih => exact drb_X12_frames_11 (B11 := fun Q y0 y1 y2 y3 y4 y5 => rl_X12_frames_11   n y0 y1 y2 y3 y4 y5 Q) (fun y0 y1 y2 y3 y4 y5 => ih y0 y1 y2 y3 y4 y5) _ _ _ _ _ _
set_option maxRecDepth 100000 in
set_option maxHeartbeats 4000000 in
theorem drm_X12_frames (S : r_S) (x1 : Int32) (x2 : Int32) : dt2 (fun Q => rm_X12_frames   S x1 x2 Q) := by
  unfold rm_X12_frames
  exact (b22 (drm_X12_window _) fun r40_ S41_ => (exi2 fun x42_ => (exn2 fun n43_ => (drl_X12_frames_11 _ _ _ _ _ _ _))))
set_option maxRecDepth 100000 in
set_option maxHeartbeats 4000000 in
theorem drb_X12_named_34 (S : r_S) : dt2 (fun Q => rb_X12_named_34   S Q) := by
  unfold rb_X12_named_34
  exact lf2
set_option maxRecDepth 100000 in
set_option maxHeartbeats 4000000 in
theorem drb_X12_named_142 {B42 : (Option Value → r_S → Prop) → r_S → Int32 → Int32 → Int32 → Int32 → Int32 → Int32 → Prop} (hB42 : ∀ y0 y1 y2 y3 y4 y5 y6, dt2 (fun Q => B42 Q y0 y1 y2 y3 y4 y5 y6)) {B91 : (Option Value → r_S → Prop) → r_S → Int32 → Int32 → Int32 → Int32 → Int32 → Int32 → Int32 → Int32 → Prop} (hB91 : ∀ y0 y1 y2 y3 y4 y5 y6 y7 y8, dt2 (fun Q => B91 Q y0 y1 y2 y3 y4 y5 y6 y7 y8)) (S : r_S) (x1 : Int32) (x2 : Int32) (x3 : Int32) (x4 : Int32) (x5 : Int32) (x6 : Int32) (x8 : Int32) (xs0 : Int32) : dt2 (fun Q => rb_X12_named_142  (B42 Q) (B91 Q) S x1 x2 x3 x4 x5 x6 x8 xs0 Q) := by
  unfold rb_X12_named_142
  exact (hB91 _ _ _ _ _ _ _ _ _)
set_option maxRecDepth 100000 in
set_option maxHeartbeats 4000000 in
theorem drb_X12_named_150 {B42 : (Option Value → r_S → Prop) → r_S → Int32 → Int32 → Int32 → Int32 → Int32 → Int32 → Prop} (hB42 : ∀ y0 y1 y2 y3 y4 y5 y6, dt2 (fun Q => B42 Q y0 y1 y2 y3 y4 y5 y6)) (S : r_S) (x1 : Int32) (x2 : Int32) (x3 : Int32) (x4 : Int32) (x5 : Int32) (x6 : Int32) (x7 : Int32) : dt2 (fun Q => rb_X12_named_150  (B42 Q) S x1 x2 x3 x4 x5 x6 x7 Q) := by
  unfold rb_X12_named_150
  exact (ifn2 (gd2 (gd2 lf2)) (hB42 _ _ _ _ _ _ _))
set_option maxRecDepth 100000 in
set_option maxHeartbeats 4000000 in
theorem drb_X12_named_91 {B42 : (Option Value → r_S → Prop) → r_S → Int32 → Int32 → Int32 → Int32 → Int32 → Int32 → Prop} (hB42 : ∀ y0 y1 y2 y3 y4 y5 y6, dt2 (fun Q => B42 Q y0 y1 y2 y3 y4 y5 y6)) {B91 : (Option Value → r_S → Prop) → r_S → Int32 → Int32 → Int32 → Int32 → Int32 → Int32 → Int32 → Int32 → Prop} (hB91 : ∀ y0 y1 y2 y3 y4 y5 y6 y7 y8, dt2 (fun Q => B91 Q y0 y1 y2 y3 y4 y5 y6 y7 y8)) (S : r_S) (x1 : Int32) (x2 : Int32) (x3 : Int32) (x4 : Int32) (x5 : Int32) (x6 : Int32) (x7 : Int32) (x8 : Int32) : dt2 (fun Q => rb_X12_named_91  (B42 Q) (B91 Q) S x1 x2 x3 x4 x5 x6 x7 x8 Q) := by
  unfold rb_X12_named_91
  exact (if2 (drb_X12_named_150 hB42 _ _ _ _ _ _ _ _) (if2 (drb_X12_named_150 hB42 _ _ _ _ _ _ _ _) (gd2 (gd2 (gd2 (ifn2 (drb_X12_named_142 hB42 hB91 _ _ _ _ _ _ _ _ _) (drb_X12_named_142 hB42 hB91 _ _ _ _ _ _ _ _ _)))))))
theorem drl_X12_named_91 {B42 : (Option Value → r_S → Prop) → r_S → Int32 → Int32 → Int32 → Int32 → Int32 → Int32 → Prop} (hB42 : ∀ y0 y1 y2 y3 y4 y5 y6, dt2 (fun Q => B42 Q y0 y1 y2 y3 y4 y5 y6)) (n : Nat) (S : r_S) (x1 : Int32) (x2 : Int32) (x3 : Int32) (x4 : Int32) (x5 : Int32) (x6 : Int32) (x7 : Int32) (x8 : Int32) : dt2 (fun Q => rl_X12_named_91  (B42 Q) n S x1 x2 x3 x4 x5 x6 x7 x8 Q) := by
  induction n generalizing S x1 x2 x3 x4 x5 x6 x7 x8 with
  | zero => exact fa2
  | succ n ih => exact drb_X12_named_91 (B42 := B42) (B91 := fun Q y0 y1 y2 y3 y4 y5 y6 y7 y8 => rl_X12_named_91  (B42 Q) n y0 y1 y2 y3 y4 y5 y6 y7 y8 Q) hB42 (fun y0 y1 y2 y3 y4 y5 y6 y7 y8 => ih y0 y1 y2 y3 y4 y5 y6 y7 y8) _ _ _ _ _ _ _ _ _
set_option maxRecDepth 100000 in
set_option maxHeartbeats 4000000 in
theorem drb_X12_named_86 {B42 : (Option Value → r_S → Prop) → r_S → Int32 → Int32 → Int32 → Int32 → Int32 → Int32 → Prop} (hB42 : ∀ y0 y1 y2 y3 y4 y5 y6, dt2 (fun Q => B42 Q y0 y1 y2 y3 y4 y5 y6)) (S : r_S) (x1 : Int32) (x2 : Int32) (x3 : Int32) (x4 : Int32) (x5 : Int32) (x6 : Int32) (xs0 : Int32) : dt2 (fun Q => rb_X12_named_86  (B42 Q) S x1 x2 x3 x4 x5 x6 xs0 Q) := by
  unfold rb_X12_named_86
  exact (exn2 fun n27_ => (drl_X12_named_91 hB42 _ _ _ _ _ _ _ _ _ _))
set_option maxRecDepth 100000 in
set_option maxHeartbeats 4000000 in
theorem drb_X12_named_85 {B42 : (Option Value → r_S → Prop) → r_S → Int32 → Int32 → Int32 → Int32 → Int32 → Int32 → Prop} (hB42 : ∀ y0 y1 y2 y3 y4 y5 y6, dt2 (fun Q => B42 Q y0 y1 y2 y3 y4 y5 y6)) (S : r_S) (x1 : Int32) (x2 : Int32) (x3 : Int32) (x4 : Int32) (x5 : Int32) (x6 : Int32) : dt2 (fun Q => rb_X12_named_85  (B42 Q) S x1 x2 x3 x4 x5 x6 Q) := by
  unfold rb_X12_named_85
  exact (drb_X12_named_86 hB42 _ _ _ _ _ _ _ _)
set_option maxRecDepth 100000 in
set_option maxHeartbeats 4000000 in
theorem drb_X12_named_42 {B42 : (Option Value → r_S → Prop) → r_S → Int32 → Int32 → Int32 → Int32 → Int32 → Int32 → Prop} (hB42 : ∀ y0 y1 y2 y3 y4 y5 y6, dt2 (fun Q => B42 Q y0 y1 y2 y3 y4 y5 y6)) (S : r_S) (x1 : Int32) (x2 : Int32) (x3 : Int32) (x4 : Int32) (x5 : Int32) (x6 : Int32) : dt2 (fun Q => rb_X12_named_42  (B42 Q) S x1 x2 x3 x4 x5 x6 Q) := by
  unfold rb_X12_named_42
  exact (gd2 (if2 lf2 (gd2 (ifn2 (drb_X12_named_85 hB42 _ _ _ _ _ _ _) (gd2 (ifn2 (drb_X12_named_85 hB42 _ _ _ _ _ _ _) (drb_X12_named_86 hB42 _ _ _ _ _ _ _ _)))))))
theorem drl_X12_named_42 (n : Nat) (S : r_S) (x1 : Int32) (x2 : Int32) (x3 : Int32) (x4 : Int32) (x5 : Int32) (x6 : Int32) : dt2 (fun Q => rl_X12_named_42   n S x1 x2 x3 x4 x5 x6 Q) := by
  induction n generalizing S x1 x2 x3 x4 x5 x6 with
  | zero => exact fa2
  | succ n ih => exact drb_X12_named_42 (B42 := fun Q y0 y1 y2 y3 y4 y5 y6 => rl_X12_named_42   n y0 y1 y2 y3 y4 y5 y6 Q) (fun y0 y1 y2 y3 y4 y5 y6 => ih y0 y1 y2 y3 y4 y5 y6) _ _ _ _ _ _ _
set_option maxRecDepth 100000 in
set_option maxHeartbeats 4000000 in
theorem drm_X12_named (S : r_S) (x1 : Int32) (x2 : Int32) (x3 : Int32) (x4 : Int32) (x5 : Int32) : dt2 (fun Q => rm_X12_named   S x1 x2 x3 x4 x5 Q) := by
  unfold rm_X12_named
  exact (if2 (drb_X12_named_34 _) (if2 (drb_X12_named_34 _) (if2 (drb_X12_named_34 _) (if2 (drb_X12_named_34 _) (b22 (drm_X12_isWithin _ _ _ _) fun r49_ S50_ => (exi2 fun x51_ => (ifn2 (exn2 fun n53_ => (drl_X12_named_42 _ _ _ _ _ _ _ _)) (drb_X12_named_34 _))))))))
set_option maxRecDepth 100000 in
set_option maxHeartbeats 4000000 in
theorem drb_X12_asks_213 (S : r_S) (x2 : Int32) (x3 : Int32) (x4 : Int32) (x5 : Int32) (x6 : Int32) : dt2 (fun Q => rb_X12_asks_213   S x2 x3 x4 x5 x6 Q) := by
  unfold rb_X12_asks_213
  exact (b22 (drm_X12_named _ _ _ _ _ _) fun r2_ S3_ => (exi2 fun x4_ => lf2))
set_option maxRecDepth 100000 in
set_option maxHeartbeats 4000000 in
theorem drb_X12_asks_206 (S : r_S) (x2 : Int32) (x3 : Int32) : dt2 (fun Q => rb_X12_asks_206   S x2 x3 Q) := by
  unfold rb_X12_asks_206
  exact (b22 (drm_X12_frames _ _ _) fun r6_ S7_ => (exi2 fun x8_ => lf2))
set_option maxRecDepth 100000 in
set_option maxHeartbeats 4000000 in
theorem drb_X12_asks_189 (S : r_S) : dt2 (fun Q => rb_X12_asks_189   S Q) := by
  unfold rb_X12_asks_189
  exact lf2
set_option maxRecDepth 100000 in
set_option maxHeartbeats 4000000 in
theorem drb_X12_asks_175 (S : r_S) (x2 : Int32) (x4 : Int32) (x5 : Int32) : dt2 (fun Q => rb_X12_asks_175   S x2 x4 x5 Q) := by
  unfold rb_X12_asks_175
  exact (if2 (drb_X12_asks_189 _) (if2 (b22 (drm_X12_starts _ _ _ _) fun r12_ S13_ => (exi2 fun x14_ => lf2)) (drb_X12_asks_189 _)))
set_option maxRecDepth 100000 in
set_option maxHeartbeats 4000000 in
theorem drb_X12_asks_104 (S : r_S) : dt2 (fun Q => rb_X12_asks_104   S Q) := by
  unfold rb_X12_asks_104
  exact lf2
set_option maxRecDepth 100000 in
set_option maxHeartbeats 4000000 in
theorem drb_X12_asks_140 (S : r_S) (x2 : Int32) (x4 : Int32) (x5 : Int32) (x7 : Int32) (xs0 : Int32) : dt2 (fun Q => rb_X12_asks_140   S x2 x4 x5 x7 xs0 Q) := by
  unfold rb_X12_asks_140
  exact (gd2 (b22 (drm_X12_wait _ _ _ _) fun r20_ S21_ => (exi2 fun x22_ => (gd2 lf2))))
set_option maxRecDepth 100000 in
set_option maxHeartbeats 4000000 in
theorem drb_X12_asks_81 (S : r_S) (x2 : Int32) (x4 : Int32) (x5 : Int32) (x7 : Int32) : dt2 (fun Q => rb_X12_asks_81   S x2 x4 x5 x7 Q) := by
  unfold rb_X12_asks_81
  exact (if2 (drb_X12_asks_104 _) (if2 (drb_X12_asks_104 _) (b22 (drm_X12_isThing _ _ _ _) fun r30_ S31_ => (exi2 fun x32_ => (ifn2 (ifn2 (b22 (drm_X12_tells _ _ _ _) fun r36_ S37_ => (exi2 fun x38_ => (drb_X12_asks_140 _ _ _ _ _ _))) (gd2 (b22 (drm_X12_wordsOf _ _) fun r44_ S45_ => (exi2 fun x46_ => (drb_X12_asks_140 _ _ _ _ _ _))))) (drb_X12_asks_104 _))))))
set_option maxRecDepth 100000 in
set_option maxHeartbeats 4000000 in
theorem drb_X12_asks_36 (S : r_S) (x2 : Int32) (x7 : Int32) : dt2 (fun Q => rb_X12_asks_36   S x2 x7 Q) := by
  unfold rb_X12_asks_36
  exact (gd2 (gd2 (gd2 (al2 fun S60_ => (gd2 (gd2 lf2))))))
set_option maxRecDepth 100000 in
set_option maxHeartbeats 4000000 in
theorem drm_X12_asks (S : r_S) (x1 : Int32) (x2 : Int32) (x3 : Int32) (x4 : Int32) (x5 : Int32) (x6 : Int32) : dt2 (fun Q => rm_X12_asks   S x1 x2 x3 x4 x5 x6 Q) := by
  unfold rm_X12_asks
  exact (by
    have e0 : (x1 = (32 : Int32)) ↔ (x1).toInt = 32 := sw_iff (by decide)
    have e1 : (x1 = (33 : Int32)) ↔ (x1).toInt = 33 := sw_iff (by decide)
    have e2 : (x1 = (34 : Int32)) ↔ (x1).toInt = 34 := sw_iff (by decide)
    have e3 : (x1 = (35 : Int32)) ↔ (x1).toInt = 35 := sw_iff (by decide)
    have ex : ((x1.toInt < 32 ∨ 35 < x1.toInt)) ∨ ((x1 = (32 : Int32))) ∨ ((x1 = (33 : Int32))) ∨ ((x1 = (34 : Int32))) ∨ ((x1 = (35 : Int32))) := by
      simp only [e0, e1, e2, e3]; omega
    intro P h
    have t0 : dt2 (fun Q : Option Value → r_S → Prop => (rb_X12_asks_213 S x2 x3 x4 x5 x6 Q)) := (drb_X12_asks_213 _ _ _ _ _ _)
    have t1 : dt2 (fun Q : Option Value → r_S → Prop => (rb_X12_asks_36 S x2 ((32 : Int32) * x3) Q)) := (drb_X12_asks_36 _ _ _)
    have t2 : dt2 (fun Q : Option Value → r_S → Prop => (rb_X12_asks_81 S x2 x4 x5 ((32 : Int32) * x3) Q)) := (drb_X12_asks_81 _ _ _ _ _)
    have t3 : dt2 (fun Q : Option Value → r_S → Prop => (rb_X12_asks_175 S x2 x4 x5 Q)) := (drb_X12_asks_175 _ _ _ _)
    have t4 : dt2 (fun Q : Option Value → r_S → Prop => (rb_X12_asks_206 S x2 x3 Q)) := (drb_X12_asks_206 _ _ _)
    rcases ex with hc | hc | hc | hc | hc
    · obtain ⟨v, s, hp, hr⟩ := t0 P (h.1 hc)
      try simp only [e0, e1, e2, e3] at hc
      exact ⟨v, s, hp, fun Q hq => ⟨fun _ => hr Q hq, fun h2 => absurd hc (by (try simp only [e0, e1, e2, e3] at h2); omega), fun h2 => absurd hc (by (try simp only [e0, e1, e2, e3] at h2); omega), fun h2 => absurd hc (by (try simp only [e0, e1, e2, e3] at h2); omega), fun h2 => absurd hc (by (try simp only [e0, e1, e2, e3] at h2); omega)⟩⟩
    · obtain ⟨v, s, hp, hr⟩ := t1 P (h.2.1 hc)
      try simp only [e0, e1, e2, e3] at hc
      exact ⟨v, s, hp, fun Q hq => ⟨fun h2 => absurd hc (by (try simp only [e0, e1, e2, e3] at h2); omega), fun _ => hr Q hq, fun h2 => absurd hc (by (try simp only [e0, e1, e2, e3] at h2); omega), fun h2 => absurd hc (by (try simp only [e0, e1, e2, e3] at h2); omega), fun h2 => absurd hc (by (try simp only [e0, e1, e2, e3] at h2); omega)⟩⟩
    · obtain ⟨v, s, hp, hr⟩ := t2 P (h.2.2.1 hc)
      try simp only [e0, e1, e2, e3] at hc
      exact ⟨v, s, hp, fun Q hq => ⟨fun h2 => absurd hc (by (try simp only [e0, e1, e2, e3] at h2); omega), fun h2 => absurd hc (by (try simp only [e0, e1, e2, e3] at h2); omega), fun _ => hr Q hq, fun h2 => absurd hc (by (try simp only [e0, e1, e2, e3] at h2); omega), fun h2 => absurd hc (by (try simp only [e0, e1, e2, e3] at h2); omega)⟩⟩
    · obtain ⟨v, s, hp, hr⟩ := t3 P (h.2.2.2.1 hc)
      try simp only [e0, e1, e2, e3] at hc
      exact ⟨v, s, hp, fun Q hq => ⟨fun h2 => absurd hc (by (try simp only [e0, e1, e2, e3] at h2); omega), fun h2 => absurd hc (by (try simp only [e0, e1, e2, e3] at h2); omega), fun h2 => absurd hc (by (try simp only [e0, e1, e2, e3] at h2); omega), fun _ => hr Q hq, fun h2 => absurd hc (by (try simp only [e0, e1, e2, e3] at h2); omega)⟩⟩
    · obtain ⟨v, s, hp, hr⟩ := t4 P (h.2.2.2.2 hc)
      try simp only [e0, e1, e2, e3] at hc
      exact ⟨v, s, hp, fun Q hq => ⟨fun h2 => absurd hc (by (try simp only [e0, e1, e2, e3] at h2); omega), fun h2 => absurd hc (by (try simp only [e0, e1, e2, e3] at h2); omega), fun h2 => absurd hc (by (try simp only [e0, e1, e2, e3] at h2); omega), fun h2 => absurd hc (by (try simp only [e0, e1, e2, e3] at h2); omega), fun _ => hr Q hq⟩⟩)
set_option maxRecDepth 100000 in
set_option maxHeartbeats 4000000 in
theorem drb_X12_calls_101 (S : r_S) (xs1 : Int32) (xs2 : Int32) (xs3 : Int32) : dt2 (fun Q => rb_X12_calls_101   S xs1 xs2 xs3 Q) := by
  unfold rb_X12_calls_101
  exact (b22 (drm_X12_fails _ _ _ _) fun r2_ S3_ => (gd2 lf2))
set_option maxRecDepth 100000 in
set_option maxHeartbeats 4000000 in
theorem drb_X12_calls_87 (S : r_S) (x5 : Int32) (x6 : Int32) (xs1 : Int32) (xs2 : Int32) : dt2 (fun Q => rb_X12_calls_87   S x5 x6 xs1 xs2 Q) := by
  unfold rb_X12_calls_87
  exact (ifn2 (drb_X12_calls_101 _ _ _ _) (drb_X12_calls_101 _ _ _ _))
set_option maxRecDepth 100000 in
set_option maxHeartbeats 4000000 in
theorem drb_X12_calls_73 (S : r_S) (x2 : Int32) (x5 : Int32) (x6 : Int32) : dt2 (fun Q => rb_X12_calls_73   S x2 x5 x6 Q) := by
  unfold rb_X12_calls_73
  exact (ifn2 (drb_X12_calls_87 _ _ _ _ _) (drb_X12_calls_87 _ _ _ _ _))
set_option maxRecDepth 100000 in
set_option maxHeartbeats 4000000 in
theorem drb_X12_calls_235 (S : r_S) : dt2 (fun Q => rb_X12_calls_235   S Q) := by
  unfold rb_X12_calls_235
  exact lf2
set_option maxRecDepth 100000 in
set_option maxHeartbeats 4000000 in
theorem drb_X12_calls_220 (S : r_S) (x2 : Int32) (xs0 : Int32) : dt2 (fun Q => rb_X12_calls_220   S x2 xs0 Q) := by
  unfold rb_X12_calls_220
  exact (if2 (drb_X12_calls_235 _) (b22 (drm_X12_answer _ _ _) fun r8_ S9_ => (gd2 (drb_X12_calls_235 _))))
set_option maxRecDepth 100000 in
set_option maxHeartbeats 4000000 in
theorem drm_X12_calls (S : r_S) (x1 : Int32) (x2 : Int32) (x3 : Int32) : dt2 (fun Q => rm_X12_calls   S x1 x2 x3 Q) := by
  unfold rm_X12_calls
  exact (gd2 (gd2 (gd2 (gd2 (if2 (drb_X12_calls_73 _ _ _ _) (if2 (drb_X12_calls_73 _ _ _ _) (ifn2 (gd2 (if2 (if2 (if2 (if2 (b22 (drm_X12_asks _ _ _ _ _ _ _) fun r29_ S30_ => (exi2 fun x31_ => (drb_X12_calls_220 _ _ _))) (b22 (drm_X12_ofOthers _ _ _ _ _ _) fun r32_ S33_ => (exi2 fun x34_ => (drb_X12_calls_220 _ _ _)))) (b22 (drm_X12_ofPorts _ _ _ _ _ _ _) fun r35_ S36_ => (exi2 fun x37_ => (drb_X12_calls_220 _ _ _)))) (b22 (drm_X12_ofThings _ _ _ _ _ _ _) fun r38_ S39_ => (exi2 fun x40_ => (drb_X12_calls_220 _ _ _)))) (b22 (drm_X12_ofProcesses _ _ _ _ _ _) fun r41_ S42_ => (exi2 fun x43_ => (drb_X12_calls_220 _ _ _))))) (drb_X12_calls_73 _ _ _ _))))))))
set_option maxRecDepth 100000 in
set_option maxHeartbeats 4000000 in
theorem drb_X12_execute_41 (S : r_S) (x2 : Int32) (x3 : Int32) : dt2 (fun Q => rb_X12_execute_41   S x2 x3 Q) := by
  unfold rb_X12_execute_41
  exact (b22 (drm_X12_fails _ _ _ _) fun r2_ S3_ => (gd2 lf2))
set_option maxRecDepth 100000 in
set_option maxHeartbeats 4000000 in
theorem drb_X12_execute_836 (S : r_S) : dt2 (fun Q => rb_X12_execute_836   S Q) := by
  unfold rb_X12_execute_836
  exact lf2
set_option maxRecDepth 100000 in
set_option maxHeartbeats 4000000 in
theorem drb_X12_execute_811 (S : r_S) (x1 : Int32) (x2 : Int32) (x3 : Int32) (x4 : Int32) : dt2 (fun Q => rb_X12_execute_811   S x1 x2 x3 x4 Q) := by
  unfold rb_X12_execute_811
  exact (ifn2 (b22 (drm_X12_fails _ _ _ _) fun r6_ S7_ => (gd2 (drb_X12_execute_836 _))) (b22 (drm_X12_calls _ _ _ _) fun r9_ S10_ => (gd2 (drb_X12_execute_836 _))))
set_option maxRecDepth 100000 in
set_option maxHeartbeats 4000000 in
theorem drb_X12_execute_254 (S : r_S) (x2 : Int32) (x3 : Int32) (x4 : Int32) (x5 : Int32) : dt2 (fun Q => rb_X12_execute_254   S x2 x3 x4 x5 Q) := by
  unfold rb_X12_execute_254
  exact (b22 (drm_X12_set _ _ _ _) fun r12_ S13_ => (gd2 (gd2 lf2)))
set_option maxRecDepth 100000 in
set_option maxHeartbeats 4000000 in
theorem drb_X12_execute_321 (S : r_S) (x2 : Int32) (x3 : Int32) (x4 : Int32) (x5 : Int32) (x6 : Int32) (x7 : Int32) (x10 : Int32) : dt2 (fun Q => rb_X12_execute_321   S x2 x3 x4 x5 x6 x7 x10 Q) := by
  unfold rb_X12_execute_321
  exact (if2 (b22 (drm_X12_set _ _ _ _) fun r21_ S22_ => (gd2 (gd2 lf2))) (b22 (drm_X12_fails _ _ _ _) fun r29_ S30_ => (gd2 lf2)))
set_option maxRecDepth 100000 in
set_option maxHeartbeats 4000000 in
theorem drb_X12_execute_372 (S : r_S) (x2 : Int32) (x4 : Int32) : dt2 (fun Q => rb_X12_execute_372   S x2 x4 Q) := by
  unfold rb_X12_execute_372
  exact (b22 (drm_X12_fails _ _ _ _) fun r32_ S33_ => (gd2 lf2))
set_option maxRecDepth 100000 in
set_option maxHeartbeats 4000000 in
theorem drb_X12_execute_563 (S : r_S) (xs1 : Int32) (xs2 : Int32) : dt2 (fun Q => rb_X12_execute_563   S xs1 xs2 Q) := by
  unfold rb_X12_execute_563
  exact (gd2 lf2)
set_option maxRecDepth 100000 in
set_option maxHeartbeats 4000000 in
theorem drb_X12_execute_498 (S : r_S) (x2 : Int32) (x3 : Int32) (x4 : Int32) (xs0 : Int32) : dt2 (fun Q => rb_X12_execute_498   S x2 x3 x4 xs0 Q) := by
  unfold rb_X12_execute_498
  exact (if2 (drb_X12_execute_563 _ _ _) (drb_X12_execute_563 _ _ _))
set_option maxRecDepth 100000 in
set_option maxHeartbeats 4000000 in
theorem drb_X12_execute_360 (S : r_S) (x2 : Int32) (x3 : Int32) (x4 : Int32) (x6 : Int32) (x7 : Int32) (x8 : Int32) : dt2 (fun Q => rb_X12_execute_360   S x2 x3 x4 x6 x7 x8 Q) := by
  unfold rb_X12_execute_360
  exact (if2 (drb_X12_execute_372 _ _ _) (ifn2 (ifn2 (ifn2 (ifn2 (ifn2 (ifn2 (b22 (drm_X12_isBelow _ _ _) fun r48_ S49_ => (exi2 fun x50_ => (ifn2 (drb_X12_execute_498 _ _ _ _ _) (drb_X12_execute_498 _ _ _ _ _)))) (b22 (drm_X12_isBelow _ _ _) fun r53_ S54_ => (exi2 fun x55_ => (drb_X12_execute_498 _ _ _ _ _)))) (if2 (drb_X12_execute_498 _ _ _ _ _) (drb_X12_execute_498 _ _ _ _ _))) (if2 (drb_X12_execute_498 _ _ _ _ _) (drb_X12_execute_498 _ _ _ _ _))) (if2 (drb_X12_execute_498 _ _ _ _ _) (drb_X12_execute_498 _ _ _ _ _))) (ifn2 (drb_X12_execute_498 _ _ _ _ _) (drb_X12_execute_498 _ _ _ _ _))) (drb_X12_execute_372 _ _ _)))
set_option maxRecDepth 100000 in
set_option maxHeartbeats 4000000 in
theorem drb_X12_execute_837 (S : r_S) (x2 : Int32) (x3 : Int32) : dt2 (fun Q => rb_X12_execute_837   S x2 x3 Q) := by
  unfold rb_X12_execute_837
  exact (gd2 lf2)
set_option maxRecDepth 100000 in
set_option maxHeartbeats 4000000 in
theorem drb_X12_execute_220 (S : r_S) (x2 : Int32) (x3 : Int32) (x4 : Int32) (x5 : Int32) : dt2 (fun Q => rb_X12_execute_220   S x2 x3 x4 x5 Q) := by
  unfold rb_X12_execute_220
  exact (b22 (drm_X12_set _ _ _ _) fun r66_ S67_ => (gd2 (drb_X12_execute_837 _ _ _)))
set_option maxRecDepth 100000 in
set_option maxHeartbeats 4000000 in
theorem drb_X12_execute_750 (S : r_S) (x2 : Int32) (x4 : Int32) : dt2 (fun Q => rb_X12_execute_750   S x2 x4 Q) := by
  unfold rb_X12_execute_750
  exact (b22 (drm_X12_fails _ _ _ _) fun r69_ S70_ => (gd2 lf2))
set_option maxRecDepth 100000 in
set_option maxHeartbeats 4000000 in
theorem drb_X12_execute_805 (S : r_S) (x2 : Int32) (x3 : Int32) (xs1 : Int32) (xs2 : Int32) (xs3 : Int32) : dt2 (fun Q => rb_X12_execute_805   S x2 x3 xs1 xs2 xs3 Q) := by
  unfold rb_X12_execute_805
  exact (b22 (drm_X12_set _ _ _ _) fun r72_ S73_ => (gd2 (drb_X12_execute_837 _ _ _)))
set_option maxRecDepth 100000 in
set_option maxHeartbeats 4000000 in
theorem drb_X12_execute_802 (S : r_S) (x2 : Int32) (x3 : Int32) (xs1 : Int32) (xs2 : Int32) (xs4 : Int32) (xs5 : Int32) (xs6 : Int32) (xs7 : Int32) : dt2 (fun Q => rb_X12_execute_802   S x2 x3 xs1 xs2 xs4 xs5 xs6 xs7 Q) := by
  unfold rb_X12_execute_802
  exact (b22 (drm_X12_reckoned _ _ _ _ _) fun r75_ S76_ => (exi2 fun x77_ => (drb_X12_execute_805 _ _ _ _ _ _)))
set_option maxRecDepth 100000 in
set_option maxHeartbeats 4000000 in
theorem drb_X12_execute_783 (S : r_S) (x2 : Int32) (x3 : Int32) (x6 : Int32) (x7 : Int32) (x8 : Int32) (x9 : Int32) (xs1 : Int32) (xs2 : Int32) : dt2 (fun Q => rb_X12_execute_783   S x2 x3 x6 x7 x8 x9 xs1 xs2 Q) := by
  unfold rb_X12_execute_783
  exact (ifn2 (drb_X12_execute_802 _ _ _ _ _ _ _ _ _) (drb_X12_execute_802 _ _ _ _ _ _ _ _ _))
set_option maxRecDepth 100000 in
set_option maxHeartbeats 4000000 in
theorem drb_X12_execute_759 (S : r_S) (x2 : Int32) (x3 : Int32) (x5 : Int32) (x6 : Int32) (x7 : Int32) (x8 : Int32) (x9 : Int32) : dt2 (fun Q => rb_X12_execute_759   S x2 x3 x5 x6 x7 x8 x9 Q) := by
  unfold rb_X12_execute_759
  exact (ifn2 (drb_X12_execute_783 _ _ _ _ _ _ _ _ _) (ifn2 (drb_X12_execute_783 _ _ _ _ _ _ _ _ _) (drb_X12_execute_805 _ _ _ _ _ _)))
set_option maxRecDepth 100000 in
set_option maxHeartbeats 4000000 in
theorem drb_X12_execute_727 (S : r_S) (x2 : Int32) (x3 : Int32) (x4 : Int32) (x5 : Int32) (x6 : Int32) (x7 : Int32) (x8 : Int32) (x9 : Int32) : dt2 (fun Q => rb_X12_execute_727   S x2 x3 x4 x5 x6 x7 x8 x9 Q) := by
  unfold rb_X12_execute_727
  exact (if2 (drb_X12_execute_759 _ _ _ _ _ _ _ _) (ifn2 (drb_X12_execute_750 _ _ _) (if2 (drb_X12_execute_759 _ _ _ _ _ _ _ _) (if2 (drb_X12_execute_759 _ _ _ _ _ _ _ _) (drb_X12_execute_750 _ _ _)))))
set_option maxRecDepth 100000 in
set_option maxHeartbeats 4000000 in
theorem drb_X12_execute_650 (S : r_S) : dt2 (fun Q => rb_X12_execute_650   S Q) := by
  unfold rb_X12_execute_650
  exact lf2
set_option maxRecDepth 100000 in
set_option maxHeartbeats 4000000 in
theorem drb_X12_execute_604 (S : r_S) (x1 : Int32) (x2 : Int32) (x4 : Int32) (x6 : Int32) (x7 : Int32) (x8 : Int32) : dt2 (fun Q => rb_X12_execute_604   S x1 x2 x4 x6 x7 x8 Q) := by
  unfold rb_X12_execute_604
  exact (if2 (b22 (drm_X12_store _ _ _ _ _ _) fun r87_ S88_ => (gd2 (drb_X12_execute_650 _))) (b22 (drm_X12_fails _ _ _ _) fun r90_ S91_ => (gd2 (drb_X12_execute_650 _))))
set_option maxRecDepth 100000 in
set_option maxHeartbeats 4000000 in
theorem drb_X12_execute_236 (S : r_S) (x2 : Int32) (x3 : Int32) (x4 : Int32) (x5 : Int32) : dt2 (fun Q => rb_X12_execute_236   S x2 x3 x4 x5 Q) := by
  unfold rb_X12_execute_236
  exact (b22 (drm_X12_set _ _ _ _) fun r93_ S94_ => (gd2 (drb_X12_execute_837 _ _ _)))
set_option maxRecDepth 100000 in
set_option maxHeartbeats 4000000 in
theorem drb_X12_execute_680 (S : r_S) (x2 : Int32) (x4 : Int32) : dt2 (fun Q => rb_X12_execute_680   S x2 x4 Q) := by
  unfold rb_X12_execute_680
  exact (b22 (drm_X12_fails _ _ _ _) fun r96_ S97_ => (gd2 lf2))
set_option maxRecDepth 100000 in
set_option maxHeartbeats 4000000 in
theorem drb_X12_execute_718 (S : r_S) (x2 : Int32) (x3 : Int32) (xs1 : Int32) (xs2 : Int32) (xs4 : Int32) (xs5 : Int32) (xs6 : Int32) (xs7 : Int32) : dt2 (fun Q => rb_X12_execute_718   S x2 x3 xs1 xs2 xs4 xs5 xs6 xs7 Q) := by
  unfold rb_X12_execute_718
  exact (b22 (drm_X12_reckoned _ _ _ _ _) fun r99_ S100_ => (exi2 fun x101_ => (b22 (drm_X12_set _ _ _ _) fun r103_ S104_ => (gd2 (drb_X12_execute_837 _ _ _)))))
set_option maxRecDepth 100000 in
set_option maxHeartbeats 4000000 in
theorem drb_X12_execute_717 (S : r_S) (x2 : Int32) (x3 : Int32) (xs1 : Int32) (xs2 : Int32) (xs4 : Int32) (xs5 : Int32) (xs6 : Int32) : dt2 (fun Q => rb_X12_execute_717   S x2 x3 xs1 xs2 xs4 xs5 xs6 Q) := by
  unfold rb_X12_execute_717
  exact (drb_X12_execute_718 _ _ _ _ _ _ _ _ _)
set_option maxRecDepth 100000 in
set_option maxHeartbeats 4000000 in
theorem drb_X12_execute_689 (S : r_S) (x2 : Int32) (x3 : Int32) (x5 : Int32) (x6 : Int32) (x7 : Int32) (x9 : Int32) (x10 : Int32) : dt2 (fun Q => rb_X12_execute_689   S x2 x3 x5 x6 x7 x9 x10 Q) := by
  unfold rb_X12_execute_689
  exact (ifn2 (drb_X12_execute_717 _ _ _ _ _ _ _ _) (ifn2 (drb_X12_execute_717 _ _ _ _ _ _ _ _) (drb_X12_execute_718 _ _ _ _ _ _ _ _ _)))
set_option maxRecDepth 100000 in
set_option maxHeartbeats 4000000 in
theorem drb_X12_execute_662 (S : r_S) (x2 : Int32) (x3 : Int32) (x4 : Int32) (x5 : Int32) (x6 : Int32) (x7 : Int32) (x9 : Int32) (x10 : Int32) : dt2 (fun Q => rb_X12_execute_662   S x2 x3 x4 x5 x6 x7 x9 x10 Q) := by
  unfold rb_X12_execute_662
  exact (ifn2 (drb_X12_execute_689 _ _ _ _ _ _ _ _) (if2 (drb_X12_execute_689 _ _ _ _ _ _ _ _) (if2 (drb_X12_execute_689 _ _ _ _ _ _ _ _) (drb_X12_execute_680 _ _ _))))
set_option maxRecDepth 100000 in
set_option maxHeartbeats 4000000 in
theorem drb_X12_execute_651 (S : r_S) (x2 : Int32) (x3 : Int32) (x4 : Int32) (x5 : Int32) (x6 : Int32) (x7 : Int32) (x9 : Int32) (x10 : Int32) : dt2 (fun Q => rb_X12_execute_651   S x2 x3 x4 x5 x6 x7 x9 x10 Q) := by
  unfold rb_X12_execute_651
  exact (ifn2 (drb_X12_execute_662 _ _ _ _ _ _ _ _ _) (ifn2 (drb_X12_execute_680 _ _ _) (drb_X12_execute_662 _ _ _ _ _ _ _ _ _)))
set_option maxRecDepth 100000 in
set_option maxHeartbeats 4000000 in
theorem drb_X12_execute_603 (S : r_S) : dt2 (fun Q => rb_X12_execute_603   S Q) := by
  unfold rb_X12_execute_603
  exact lf2
set_option maxRecDepth 100000 in
set_option maxHeartbeats 4000000 in
theorem drb_X12_execute_577 (S : r_S) (x2 : Int32) (x4 : Int32) : dt2 (fun Q => rb_X12_execute_577   S x2 x4 Q) := by
  unfold rb_X12_execute_577
  exact (b22 (drm_X12_fails _ _ _ _) fun r113_ S114_ => (gd2 (drb_X12_execute_603 _)))
set_option maxRecDepth 100000 in
set_option maxHeartbeats 4000000 in
theorem drb_X12_execute_565 (S : r_S) (x1 : Int32) (x2 : Int32) (x4 : Int32) (x5 : Int32) (x6 : Int32) (x7 : Int32) (x10 : Int32) : dt2 (fun Q => rb_X12_execute_565   S x1 x2 x4 x5 x6 x7 x10 Q) := by
  unfold rb_X12_execute_565
  exact (if2 (drb_X12_execute_577 _ _ _) (if2 (b22 (drm_X12_load_ _ _ _ _ _ _) fun r118_ S119_ => (gd2 (drb_X12_execute_603 _))) (drb_X12_execute_577 _ _ _)))
set_option maxRecDepth 100000 in
set_option maxHeartbeats 4000000 in
theorem drm_X12_execute (S : r_S) (x1 : Int32) (x2 : Int32) : dt2 (fun Q => rm_X12_execute   S x1 x2 Q) := by
  unfold rm_X12_execute
  exact (gd2 (if2 (b22 (drm_X12_isWithin _ _ _ _) fun r126_ S127_ => (exi2 fun x128_ => (if2 (drb_X12_execute_41 _ _ _) (b22 (drm_X12_isIn _ _ _ _) fun r131_ S132_ => (exi2 fun x133_ => (ifn2 (b22 (drm_X12_read _ _ _ _) fun r136_ S137_ => (exi2 fun x138_ => (gd2 (gd2 (by
    have e0 : ((x138_ &&& (127 : Int32)) = (103 : Int32)) ↔ ((x138_ &&& (127 : Int32))).toInt = 103 := sw_iff (by decide)
    have e1 : ((x138_ &&& (127 : Int32)) = (111 : Int32)) ↔ ((x138_ &&& (127 : Int32))).toInt = 111 := sw_iff (by decide)
    have e2 : ((x138_ &&& (127 : Int32)) = (19 : Int32)) ↔ ((x138_ &&& (127 : Int32))).toInt = 19 := sw_iff (by decide)
    have e3 : ((x138_ &&& (127 : Int32)) = (23 : Int32)) ↔ ((x138_ &&& (127 : Int32))).toInt = 23 := sw_iff (by decide)
    have e4 : ((x138_ &&& (127 : Int32)) = (3 : Int32)) ↔ ((x138_ &&& (127 : Int32))).toInt = 3 := sw_iff (by decide)
    have e5 : ((x138_ &&& (127 : Int32)) = (35 : Int32)) ↔ ((x138_ &&& (127 : Int32))).toInt = 35 := sw_iff (by decide)
    have e6 : ((x138_ &&& (127 : Int32)) = (51 : Int32)) ↔ ((x138_ &&& (127 : Int32))).toInt = 51 := sw_iff (by decide)
    have e7 : ((x138_ &&& (127 : Int32)) = (55 : Int32)) ↔ ((x138_ &&& (127 : Int32))).toInt = 55 := sw_iff (by decide)
    have e8 : ((x138_ &&& (127 : Int32)) = (99 : Int32)) ↔ ((x138_ &&& (127 : Int32))).toInt = 99 := sw_iff (by decide)
    have ex : ((x138_ &&& (127 : Int32)) = (3 : Int32)) ∨ ((x138_ &&& (127 : Int32)) = (19 : Int32)) ∨ ((x138_ &&& (127 : Int32)) = (23 : Int32)) ∨ ((x138_ &&& (127 : Int32)) = (35 : Int32)) ∨ ((x138_ &&& (127 : Int32)) = (51 : Int32)) ∨ ((x138_ &&& (127 : Int32)) = (55 : Int32)) ∨ ((x138_ &&& (127 : Int32)) = (99 : Int32)) ∨ ((x138_ &&& (127 : Int32)) = (103 : Int32)) ∨ ((x138_ &&& (127 : Int32)) = (111 : Int32)) ∨ ((¬ (x138_ &&& (127 : Int32)) = (3 : Int32) ∧ ¬ (x138_ &&& (127 : Int32)) = (19 : Int32) ∧ ¬ (x138_ &&& (127 : Int32)) = (23 : Int32) ∧ ¬ (x138_ &&& (127 : Int32)) = (35 : Int32) ∧ ¬ (x138_ &&& (127 : Int32)) = (51 : Int32) ∧ ¬ (x138_ &&& (127 : Int32)) = (55 : Int32) ∧ ¬ (x138_ &&& (127 : Int32)) = (99 : Int32) ∧ ¬ (x138_ &&& (127 : Int32)) = (103 : Int32) ∧ ¬ (x138_ &&& (127 : Int32)) = (111 : Int32))) := by
      simp only [e0, e1, e2, e3, e4, e5, e6, e7, e8]; omega
    intro P h
    have t0 : dt2 (fun Q : Option Value → r_S → Prop => (rb_X12_execute_565 S137_ x1 x2 x138_ ((x138_ >>> ((7 : Int32) &&& 31)) &&& (31 : Int32)) ((x138_ >>> ((12 : Int32) &&& 31)) &&& (7 : Int32)) (r_A S137_ 2477 (((32 : Int32) * x2) + ((x138_ >>> ((15 : Int32) &&& 31)) &&& (31 : Int32))).toNatClampNeg) (x138_ >>> ((20 : Int32) &&& 31)) Q)) := (drb_X12_execute_565 _ _ _ _ _ _ _ _)
    have t1 : dt2 (fun Q : Option Value → r_S → Prop => (rb_X12_execute_651 S137_ x2 (r_A S 2468 x2.toNatClampNeg) x138_ ((x138_ >>> ((7 : Int32) &&& 31)) &&& (31 : Int32)) ((x138_ >>> ((12 : Int32) &&& 31)) &&& (7 : Int32)) (r_A S137_ 2477 (((32 : Int32) * x2) + ((x138_ >>> ((15 : Int32) &&& 31)) &&& (31 : Int32))).toNatClampNeg) (x138_.toUInt32 >>> ((25 : Int32).toUInt32 &&& Int32.toUInt32 31)).toInt32 (x138_ >>> ((20 : Int32) &&& 31)) Q)) := (drb_X12_execute_651 _ _ _ _ _ _ _ _ _)
    have t2 : dt2 (fun Q : Option Value → r_S → Prop => (rb_X12_execute_236 S137_ x2 (r_A S 2468 x2.toNatClampNeg) x138_ ((x138_ >>> ((7 : Int32) &&& 31)) &&& (31 : Int32)) Q)) := (drb_X12_execute_236 _ _ _ _ _)
    have t3 : dt2 (fun Q : Option Value → r_S → Prop => (rb_X12_execute_604 S137_ x1 x2 x138_ ((x138_ >>> ((12 : Int32) &&& 31)) &&& (7 : Int32)) (r_A S137_ 2477 (((32 : Int32) * x2) + ((x138_ >>> ((15 : Int32) &&& 31)) &&& (31 : Int32))).toNatClampNeg) (r_A S137_ 2477 (((32 : Int32) * x2) + ((x138_ >>> ((20 : Int32) &&& 31)) &&& (31 : Int32))).toNatClampNeg) Q)) := (drb_X12_execute_604 _ _ _ _ _ _ _)
    have t4 : dt2 (fun Q : Option Value → r_S → Prop => (rb_X12_execute_727 S137_ x2 (r_A S 2468 x2.toNatClampNeg) x138_ ((x138_ >>> ((7 : Int32) &&& 31)) &&& (31 : Int32)) ((x138_ >>> ((12 : Int32) &&& 31)) &&& (7 : Int32)) (r_A S137_ 2477 (((32 : Int32) * x2) + ((x138_ >>> ((15 : Int32) &&& 31)) &&& (31 : Int32))).toNatClampNeg) (r_A S137_ 2477 (((32 : Int32) * x2) + ((x138_ >>> ((20 : Int32) &&& 31)) &&& (31 : Int32))).toNatClampNeg) (x138_.toUInt32 >>> ((25 : Int32).toUInt32 &&& Int32.toUInt32 31)).toInt32 Q)) := (drb_X12_execute_727 _ _ _ _ _ _ _ _ _)
    have t5 : dt2 (fun Q : Option Value → r_S → Prop => (rb_X12_execute_220 S137_ x2 (r_A S 2468 x2.toNatClampNeg) x138_ ((x138_ >>> ((7 : Int32) &&& 31)) &&& (31 : Int32)) Q)) := (drb_X12_execute_220 _ _ _ _ _)
    have t6 : dt2 (fun Q : Option Value → r_S → Prop => (rb_X12_execute_360 S137_ x2 (r_A S 2468 x2.toNatClampNeg) x138_ ((x138_ >>> ((12 : Int32) &&& 31)) &&& (7 : Int32)) (r_A S137_ 2477 (((32 : Int32) * x2) + ((x138_ >>> ((15 : Int32) &&& 31)) &&& (31 : Int32))).toNatClampNeg) (r_A S137_ 2477 (((32 : Int32) * x2) + ((x138_ >>> ((20 : Int32) &&& 31)) &&& (31 : Int32))).toNatClampNeg) Q)) := (drb_X12_execute_360 _ _ _ _ _ _ _)
    have t7 : dt2 (fun Q : Option Value → r_S → Prop => (rb_X12_execute_321 S137_ x2 (r_A S 2468 x2.toNatClampNeg) x138_ ((x138_ >>> ((7 : Int32) &&& 31)) &&& (31 : Int32)) ((x138_ >>> ((12 : Int32) &&& 31)) &&& (7 : Int32)) (r_A S137_ 2477 (((32 : Int32) * x2) + ((x138_ >>> ((15 : Int32) &&& 31)) &&& (31 : Int32))).toNatClampNeg) (x138_ >>> ((20 : Int32) &&& 31)) Q)) := (drb_X12_execute_321 _ _ _ _ _ _ _ _)
    have t8 : dt2 (fun Q : Option Value → r_S → Prop => (rb_X12_execute_254 S137_ x2 (r_A S 2468 x2.toNatClampNeg) x138_ ((x138_ >>> ((7 : Int32) &&& 31)) &&& (31 : Int32)) Q)) := (drb_X12_execute_254 _ _ _ _ _)
    have t9 : dt2 (fun Q : Option Value → r_S → Prop => (rb_X12_execute_811 S137_ x1 x2 (r_A S 2468 x2.toNatClampNeg) x138_ Q)) := (drb_X12_execute_811 _ _ _ _ _)
    rcases ex with hc | hc | hc | hc | hc | hc | hc | hc | hc | hc
    · obtain ⟨v, s, hp, hr⟩ := t0 P (h.1 hc)
      try simp only [e0, e1, e2, e3, e4, e5, e6, e7, e8] at hc
      exact ⟨v, s, hp, fun Q hq => ⟨fun _ => hr Q hq, fun h2 => absurd hc (by (try simp only [e0, e1, e2, e3, e4, e5, e6, e7, e8] at h2); omega), fun h2 => absurd hc (by (try simp only [e0, e1, e2, e3, e4, e5, e6, e7, e8] at h2); omega), fun h2 => absurd hc (by (try simp only [e0, e1, e2, e3, e4, e5, e6, e7, e8] at h2); omega), fun h2 => absurd hc (by (try simp only [e0, e1, e2, e3, e4, e5, e6, e7, e8] at h2); omega), fun h2 => absurd hc (by (try simp only [e0, e1, e2, e3, e4, e5, e6, e7, e8] at h2); omega), fun h2 => absurd hc (by (try simp only [e0, e1, e2, e3, e4, e5, e6, e7, e8] at h2); omega), fun h2 => absurd hc (by (try simp only [e0, e1, e2, e3, e4, e5, e6, e7, e8] at h2); omega), fun h2 => absurd hc (by (try simp only [e0, e1, e2, e3, e4, e5, e6, e7, e8] at h2); omega), fun h2 => absurd hc (by (try simp only [e0, e1, e2, e3, e4, e5, e6, e7, e8] at h2); omega)⟩⟩
    · obtain ⟨v, s, hp, hr⟩ := t1 P (h.2.1 hc)
      try simp only [e0, e1, e2, e3, e4, e5, e6, e7, e8] at hc
      exact ⟨v, s, hp, fun Q hq => ⟨fun h2 => absurd hc (by (try simp only [e0, e1, e2, e3, e4, e5, e6, e7, e8] at h2); omega), fun _ => hr Q hq, fun h2 => absurd hc (by (try simp only [e0, e1, e2, e3, e4, e5, e6, e7, e8] at h2); omega), fun h2 => absurd hc (by (try simp only [e0, e1, e2, e3, e4, e5, e6, e7, e8] at h2); omega), fun h2 => absurd hc (by (try simp only [e0, e1, e2, e3, e4, e5, e6, e7, e8] at h2); omega), fun h2 => absurd hc (by (try simp only [e0, e1, e2, e3, e4, e5, e6, e7, e8] at h2); omega), fun h2 => absurd hc (by (try simp only [e0, e1, e2, e3, e4, e5, e6, e7, e8] at h2); omega), fun h2 => absurd hc (by (try simp only [e0, e1, e2, e3, e4, e5, e6, e7, e8] at h2); omega), fun h2 => absurd hc (by (try simp only [e0, e1, e2, e3, e4, e5, e6, e7, e8] at h2); omega), fun h2 => absurd hc (by (try simp only [e0, e1, e2, e3, e4, e5, e6, e7, e8] at h2); omega)⟩⟩
    · obtain ⟨v, s, hp, hr⟩ := t2 P (h.2.2.1 hc)
      try simp only [e0, e1, e2, e3, e4, e5, e6, e7, e8] at hc
      exact ⟨v, s, hp, fun Q hq => ⟨fun h2 => absurd hc (by (try simp only [e0, e1, e2, e3, e4, e5, e6, e7, e8] at h2); omega), fun h2 => absurd hc (by (try simp only [e0, e1, e2, e3, e4, e5, e6, e7, e8] at h2); omega), fun _ => hr Q hq, fun h2 => absurd hc (by (try simp only [e0, e1, e2, e3, e4, e5, e6, e7, e8] at h2); omega), fun h2 => absurd hc (by (try simp only [e0, e1, e2, e3, e4, e5, e6, e7, e8] at h2); omega), fun h2 => absurd hc (by (try simp only [e0, e1, e2, e3, e4, e5, e6, e7, e8] at h2); omega), fun h2 => absurd hc (by (try simp only [e0, e1, e2, e3, e4, e5, e6, e7, e8] at h2); omega), fun h2 => absurd hc (by (try simp only [e0, e1, e2, e3, e4, e5, e6, e7, e8] at h2); omega), fun h2 => absurd hc (by (try simp only [e0, e1, e2, e3, e4, e5, e6, e7, e8] at h2); omega), fun h2 => absurd hc (by (try simp only [e0, e1, e2, e3, e4, e5, e6, e7, e8] at h2); omega)⟩⟩
    · obtain ⟨v, s, hp, hr⟩ := t3 P (h.2.2.2.1 hc)
      try simp only [e0, e1, e2, e3, e4, e5, e6, e7, e8] at hc
      exact ⟨v, s, hp, fun Q hq => ⟨fun h2 => absurd hc (by (try simp only [e0, e1, e2, e3, e4, e5, e6, e7, e8] at h2); omega), fun h2 => absurd hc (by (try simp only [e0, e1, e2, e3, e4, e5, e6, e7, e8] at h2); omega), fun h2 => absurd hc (by (try simp only [e0, e1, e2, e3, e4, e5, e6, e7, e8] at h2); omega), fun _ => hr Q hq, fun h2 => absurd hc (by (try simp only [e0, e1, e2, e3, e4, e5, e6, e7, e8] at h2); omega), fun h2 => absurd hc (by (try simp only [e0, e1, e2, e3, e4, e5, e6, e7, e8] at h2); omega), fun h2 => absurd hc (by (try simp only [e0, e1, e2, e3, e4, e5, e6, e7, e8] at h2); omega), fun h2 => absurd hc (by (try simp only [e0, e1, e2, e3, e4, e5, e6, e7, e8] at h2); omega), fun h2 => absurd hc (by (try simp only [e0, e1, e2, e3, e4, e5, e6, e7, e8] at h2); omega), fun h2 => absurd hc (by (try simp only [e0, e1, e2, e3, e4, e5, e6, e7, e8] at h2); omega)⟩⟩
    · obtain ⟨v, s, hp, hr⟩ := t4 P (h.2.2.2.2.1 hc)
      try simp only [e0, e1, e2, e3, e4, e5, e6, e7, e8] at hc
      exact ⟨v, s, hp, fun Q hq => ⟨fun h2 => absurd hc (by (try simp only [e0, e1, e2, e3, e4, e5, e6, e7, e8] at h2); omega), fun h2 => absurd hc (by (try simp only [e0, e1, e2, e3, e4, e5, e6, e7, e8] at h2); omega), fun h2 => absurd hc (by (try simp only [e0, e1, e2, e3, e4, e5, e6, e7, e8] at h2); omega), fun h2 => absurd hc (by (try simp only [e0, e1, e2, e3, e4, e5, e6, e7, e8] at h2); omega), fun _ => hr Q hq, fun h2 => absurd hc (by (try simp only [e0, e1, e2, e3, e4, e5, e6, e7, e8] at h2); omega), fun h2 => absurd hc (by (try simp only [e0, e1, e2, e3, e4, e5, e6, e7, e8] at h2); omega), fun h2 => absurd hc (by (try simp only [e0, e1, e2, e3, e4, e5, e6, e7, e8] at h2); omega), fun h2 => absurd hc (by (try simp only [e0, e1, e2, e3, e4, e5, e6, e7, e8] at h2); omega), fun h2 => absurd hc (by (try simp only [e0, e1, e2, e3, e4, e5, e6, e7, e8] at h2); omega)⟩⟩
    · obtain ⟨v, s, hp, hr⟩ := t5 P (h.2.2.2.2.2.1 hc)
      try simp only [e0, e1, e2, e3, e4, e5, e6, e7, e8] at hc
      exact ⟨v, s, hp, fun Q hq => ⟨fun h2 => absurd hc (by (try simp only [e0, e1, e2, e3, e4, e5, e6, e7, e8] at h2); omega), fun h2 => absurd hc (by (try simp only [e0, e1, e2, e3, e4, e5, e6, e7, e8] at h2); omega), fun h2 => absurd hc (by (try simp only [e0, e1, e2, e3, e4, e5, e6, e7, e8] at h2); omega), fun h2 => absurd hc (by (try simp only [e0, e1, e2, e3, e4, e5, e6, e7, e8] at h2); omega), fun h2 => absurd hc (by (try simp only [e0, e1, e2, e3, e4, e5, e6, e7, e8] at h2); omega), fun _ => hr Q hq, fun h2 => absurd hc (by (try simp only [e0, e1, e2, e3, e4, e5, e6, e7, e8] at h2); omega), fun h2 => absurd hc (by (try simp only [e0, e1, e2, e3, e4, e5, e6, e7, e8] at h2); omega), fun h2 => absurd hc (by (try simp only [e0, e1, e2, e3, e4, e5, e6, e7, e8] at h2); omega), fun h2 => absurd hc (by (try simp only [e0, e1, e2, e3, e4, e5, e6, e7, e8] at h2); omega)⟩⟩
    · obtain ⟨v, s, hp, hr⟩ := t6 P (h.2.2.2.2.2.2.1 hc)
      try simp only [e0, e1, e2, e3, e4, e5, e6, e7, e8] at hc
      exact ⟨v, s, hp, fun Q hq => ⟨fun h2 => absurd hc (by (try simp only [e0, e1, e2, e3, e4, e5, e6, e7, e8] at h2); omega), fun h2 => absurd hc (by (try simp only [e0, e1, e2, e3, e4, e5, e6, e7, e8] at h2); omega), fun h2 => absurd hc (by (try simp only [e0, e1, e2, e3, e4, e5, e6, e7, e8] at h2); omega), fun h2 => absurd hc (by (try simp only [e0, e1, e2, e3, e4, e5, e6, e7, e8] at h2); omega), fun h2 => absurd hc (by (try simp only [e0, e1, e2, e3, e4, e5, e6, e7, e8] at h2); omega), fun h2 => absurd hc (by (try simp only [e0, e1, e2, e3, e4, e5, e6, e7, e8] at h2); omega), fun _ => hr Q hq, fun h2 => absurd hc (by (try simp only [e0, e1, e2, e3, e4, e5, e6, e7, e8] at h2); omega), fun h2 => absurd hc (by (try simp only [e0, e1, e2, e3, e4, e5, e6, e7, e8] at h2); omega), fun h2 => absurd hc (by (try simp only [e0, e1, e2, e3, e4, e5, e6, e7, e8] at h2); omega)⟩⟩
    · obtain ⟨v, s, hp, hr⟩ := t7 P (h.2.2.2.2.2.2.2.1 hc)
      try simp only [e0, e1, e2, e3, e4, e5, e6, e7, e8] at hc
      exact ⟨v, s, hp, fun Q hq => ⟨fun h2 => absurd hc (by (try simp only [e0, e1, e2, e3, e4, e5, e6, e7, e8] at h2); omega), fun h2 => absurd hc (by (try simp only [e0, e1, e2, e3, e4, e5, e6, e7, e8] at h2); omega), fun h2 => absurd hc (by (try simp only [e0, e1, e2, e3, e4, e5, e6, e7, e8] at h2); omega), fun h2 => absurd hc (by (try simp only [e0, e1, e2, e3, e4, e5, e6, e7, e8] at h2); omega), fun h2 => absurd hc (by (try simp only [e0, e1, e2, e3, e4, e5, e6, e7, e8] at h2); omega), fun h2 => absurd hc (by (try simp only [e0, e1, e2, e3, e4, e5, e6, e7, e8] at h2); omega), fun h2 => absurd hc (by (try simp only [e0, e1, e2, e3, e4, e5, e6, e7, e8] at h2); omega), fun _ => hr Q hq, fun h2 => absurd hc (by (try simp only [e0, e1, e2, e3, e4, e5, e6, e7, e8] at h2); omega), fun h2 => absurd hc (by (try simp only [e0, e1, e2, e3, e4, e5, e6, e7, e8] at h2); omega)⟩⟩
    · obtain ⟨v, s, hp, hr⟩ := t8 P (h.2.2.2.2.2.2.2.2.1 hc)
      try simp only [e0, e1, e2, e3, e4, e5, e6, e7, e8] at hc
      exact ⟨v, s, hp, fun Q hq => ⟨fun h2 => absurd hc (by (try simp only [e0, e1, e2, e3, e4, e5, e6, e7, e8] at h2); omega), fun h2 => absurd hc (by (try simp only [e0, e1, e2, e3, e4, e5, e6, e7, e8] at h2); omega), fun h2 => absurd hc (by (try simp only [e0, e1, e2, e3, e4, e5, e6, e7, e8] at h2); omega), fun h2 => absurd hc (by (try simp only [e0, e1, e2, e3, e4, e5, e6, e7, e8] at h2); omega), fun h2 => absurd hc (by (try simp only [e0, e1, e2, e3, e4, e5, e6, e7, e8] at h2); omega), fun h2 => absurd hc (by (try simp only [e0, e1, e2, e3, e4, e5, e6, e7, e8] at h2); omega), fun h2 => absurd hc (by (try simp only [e0, e1, e2, e3, e4, e5, e6, e7, e8] at h2); omega), fun h2 => absurd hc (by (try simp only [e0, e1, e2, e3, e4, e5, e6, e7, e8] at h2); omega), fun _ => hr Q hq, fun h2 => absurd hc (by (try simp only [e0, e1, e2, e3, e4, e5, e6, e7, e8] at h2); omega)⟩⟩
    · obtain ⟨v, s, hp, hr⟩ := t9 P (h.2.2.2.2.2.2.2.2.2 hc)
      try simp only [e0, e1, e2, e3, e4, e5, e6, e7, e8] at hc
      exact ⟨v, s, hp, fun Q hq => ⟨fun h2 => absurd hc (by (try simp only [e0, e1, e2, e3, e4, e5, e6, e7, e8] at h2); omega), fun h2 => absurd hc (by (try simp only [e0, e1, e2, e3, e4, e5, e6, e7, e8] at h2); omega), fun h2 => absurd hc (by (try simp only [e0, e1, e2, e3, e4, e5, e6, e7, e8] at h2); omega), fun h2 => absurd hc (by (try simp only [e0, e1, e2, e3, e4, e5, e6, e7, e8] at h2); omega), fun h2 => absurd hc (by (try simp only [e0, e1, e2, e3, e4, e5, e6, e7, e8] at h2); omega), fun h2 => absurd hc (by (try simp only [e0, e1, e2, e3, e4, e5, e6, e7, e8] at h2); omega), fun h2 => absurd hc (by (try simp only [e0, e1, e2, e3, e4, e5, e6, e7, e8] at h2); omega), fun h2 => absurd hc (by (try simp only [e0, e1, e2, e3, e4, e5, e6, e7, e8] at h2); omega), fun h2 => absurd hc (by (try simp only [e0, e1, e2, e3, e4, e5, e6, e7, e8] at h2); omega), fun _ => hr Q hq⟩⟩))))) (drb_X12_execute_41 _ _ _))))))) (b22 (drm_X12_fails _ _ _ _) fun r154_ S155_ => (gd2 lf2))))
set_option maxRecDepth 100000 in
set_option maxHeartbeats 4000000 in
theorem drb_X12_works_96 {B2 : (Option Value → r_S → Prop) → r_S → Int32 → Int32 → Prop} (hB2 : ∀ y0 y1 y2, dt2 (fun Q => B2 Q y0 y1 y2)) {B14 : (Option Value → r_S → Prop) → r_S → Int32 → Int32 → Int32 → Prop} (hB14 : ∀ y0 y1 y2 y3, dt2 (fun Q => B14 Q y0 y1 y2 y3)) (S : r_S) (x1 : Int32) (x3 : Int32) (x4 : Int32) : dt2 (fun Q => rb_X12_works_96  (B2 Q) (B14 Q) S x1 x3 x4 Q) := by
  unfold rb_X12_works_96
  exact (hB14 _ _ _ _)
set_option maxRecDepth 100000 in
set_option maxHeartbeats 4000000 in
theorem drb_X12_works_93 {B2 : (Option Value → r_S → Prop) → r_S → Int32 → Int32 → Prop} (hB2 : ∀ y0 y1 y2, dt2 (fun Q => B2 Q y0 y1 y2)) {B14 : (Option Value → r_S → Prop) → r_S → Int32 → Int32 → Int32 → Prop} (hB14 : ∀ y0 y1 y2 y3, dt2 (fun Q => B14 Q y0 y1 y2 y3)) (S : r_S) (x1 : Int32) (x4 : Int32) : dt2 (fun Q => rb_X12_works_93  (B2 Q) (B14 Q) S x1 x4 Q) := by
  unfold rb_X12_works_93
  exact (drb_X12_works_96 hB2 hB14 _ _ _ _)
set_option maxRecDepth 100000 in
set_option maxHeartbeats 4000000 in
theorem drb_X12_works_65 {B2 : (Option Value → r_S → Prop) → r_S → Int32 → Int32 → Prop} (hB2 : ∀ y0 y1 y2, dt2 (fun Q => B2 Q y0 y1 y2)) {B14 : (Option Value → r_S → Prop) → r_S → Int32 → Int32 → Int32 → Prop} (hB14 : ∀ y0 y1 y2 y3, dt2 (fun Q => B14 Q y0 y1 y2 y3)) (S : r_S) (x1 : Int32) (x3 : Int32) (x4 : Int32) (xs0 : Int32) : dt2 (fun Q => rb_X12_works_65  (B2 Q) (B14 Q) S x1 x3 x4 xs0 Q) := by
  unfold rb_X12_works_65
  exact (if2 (drb_X12_works_96 hB2 hB14 _ _ _ _) (if2 (drb_X12_works_93 hB2 hB14 _ _ _) (gd2 (gd2 (if2 (drb_X12_works_96 hB2 hB14 _ _ _ _) (drb_X12_works_93 hB2 hB14 _ _ _))))))
set_option maxRecDepth 100000 in
set_option maxHeartbeats 4000000 in
theorem drb_X12_works_64 {B2 : (Option Value → r_S → Prop) → r_S → Int32 → Int32 → Prop} (hB2 : ∀ y0 y1 y2, dt2 (fun Q => B2 Q y0 y1 y2)) {B14 : (Option Value → r_S → Prop) → r_S → Int32 → Int32 → Int32 → Prop} (hB14 : ∀ y0 y1 y2 y3, dt2 (fun Q => B14 Q y0 y1 y2 y3)) (S : r_S) (x1 : Int32) (x3 : Int32) (x4 : Int32) : dt2 (fun Q => rb_X12_works_64  (B2 Q) (B14 Q) S x1 x3 x4 Q) := by
  unfold rb_X12_works_64
  exact (drb_X12_works_65 hB2 hB14 _ _ _ _ _)
set_option maxRecDepth 100000 in
set_option maxHeartbeats 4000000 in
theorem drb_X12_works_135 {B2 : (Option Value → r_S → Prop) → r_S → Int32 → Int32 → Prop} (hB2 : ∀ y0 y1 y2, dt2 (fun Q => B2 Q y0 y1 y2)) (S : r_S) (x1 : Int32) (x2 : Int32) (x3 : Int32) : dt2 (fun Q => rb_X12_works_135  (B2 Q) S x1 x2 x3 Q) := by
  unfold rb_X12_works_135
  exact (b22 (drm_X12_isReady _ _) fun r11_ S12_ => (gd2 (hB2 _ _ _)))
set_option maxRecDepth 100000 in
set_option maxHeartbeats 4000000 in
theorem drb_X12_works_112 {B2 : (Option Value → r_S → Prop) → r_S → Int32 → Int32 → Prop} (hB2 : ∀ y0 y1 y2, dt2 (fun Q => B2 Q y0 y1 y2)) (S : r_S) (x1 : Int32) (x3 : Int32) (xs0 : Int32) : dt2 (fun Q => rb_X12_works_112  (B2 Q) S x1 x3 xs0 Q) := by
  unfold rb_X12_works_112
  exact (ifn2 (gd2 (if2 (drb_X12_works_135 hB2 _ _ _ _) (b22 (drm_X12_answer _ _ _) fun r20_ S21_ => (gd2 (drb_X12_works_135 hB2 _ _ _ _))))) (hB2 _ _ _))
set_option maxRecDepth 100000 in
set_option maxHeartbeats 4000000 in
theorem drb_X12_works_14 {B2 : (Option Value → r_S → Prop) → r_S → Int32 → Int32 → Prop} (hB2 : ∀ y0 y1 y2, dt2 (fun Q => B2 Q y0 y1 y2)) {B14 : (Option Value → r_S → Prop) → r_S → Int32 → Int32 → Int32 → Prop} (hB14 : ∀ y0 y1 y2 y3, dt2 (fun Q => B14 Q y0 y1 y2 y3)) (S : r_S) (x1 : Int32) (x3 : Int32) (x4 : Int32) : dt2 (fun Q => rb_X12_works_14  (B2 Q) (B14 Q) S x1 x3 x4 Q) := by
  unfold rb_X12_works_14
  exact (b22 (drm_X12_lastOf _ _) fun r23_ S24_ => (exi2 fun x25_ => (if2 (if2 (drb_X12_works_112 hB2 _ _ _ _) (drb_X12_works_112 hB2 _ _ _ _)) (gd2 (ifn2 (drb_X12_works_64 hB2 hB14 _ _ _ _) (gd2 (if2 (drb_X12_works_64 hB2 hB14 _ _ _ _) (gd2 (if2 (drb_X12_works_64 hB2 hB14 _ _ _ _) (drb_X12_works_65 hB2 hB14 _ _ _ _ _))))))))))
theorem drl_X12_works_14 {B2 : (Option Value → r_S → Prop) → r_S → Int32 → Int32 → Prop} (hB2 : ∀ y0 y1 y2, dt2 (fun Q => B2 Q y0 y1 y2)) (n : Nat) (S : r_S) (x1 : Int32) (x3 : Int32) (x4 : Int32) : dt2 (fun Q => rl_X12_works_14  (B2 Q) n S x1 x3 x4 Q) := by
  induction n generalizing S x1 x3 x4 with
  | zero => exact fa2
  | succ n ih => exact drb_X12_works_14 (B2 := B2) (B14 := fun Q y0 y1 y2 y3 => rl_X12_works_14  (B2 Q) n y0 y1 y2 y3 Q) hB2 (fun y0 y1 y2 y3 => ih y0 y1 y2 y3) _ _ _ _
set_option maxRecDepth 100000 in
set_option maxHeartbeats 4000000 in
theorem drb_X12_works_208 {B148 : (Option Value → r_S → Prop) → r_S → Int32 → Int32 → Prop} (hB148 : ∀ y0 y1 y2, dt2 (fun Q => B148 Q y0 y1 y2)) (S : r_S) (x1 : Int32) (x3 : Int32) : dt2 (fun Q => rb_X12_works_208  (B148 Q) S x1 x3 Q) := by
  unfold rb_X12_works_208
  exact (hB148 _ _ _)
set_option maxRecDepth 100000 in
set_option maxHeartbeats 4000000 in
theorem drb_X12_works_230 (S : r_S) (x1 : Int32) (xs0 : Int32) : dt2 (fun Q => rb_X12_works_230   S x1 xs0 Q) := by
  unfold rb_X12_works_230
  exact (ifn2 (gd2 (gd2 (al2 fun S48_ => (gd2 (gd2 (b22 (drm_X12_execute _ _ _) fun r54_ S55_ => (gd2 lf2))))))) lf2)
set_option maxRecDepth 100000 in
set_option maxHeartbeats 4000000 in
theorem drb_X12_works_214 (S : r_S) (x1 : Int32) : dt2 (fun Q => rb_X12_works_214   S x1 Q) := by
  unfold rb_X12_works_214
  exact (if2 (b22 (drm_X12_nextOf _ _) fun r58_ S59_ => (exi2 fun x60_ => (drb_X12_works_230 _ _ _))) (drb_X12_works_230 _ _ _))
set_option maxRecDepth 100000 in
set_option maxHeartbeats 4000000 in
theorem drb_X12_works_148 {B148 : (Option Value → r_S → Prop) → r_S → Int32 → Int32 → Prop} (hB148 : ∀ y0 y1 y2, dt2 (fun Q => B148 Q y0 y1 y2)) (S : r_S) (x1 : Int32) (x3 : Int32) : dt2 (fun Q => rb_X12_works_148  (B148 Q) S x1 x3 Q) := by
  unfold rb_X12_works_148
  exact (b22 (drm_X12_lastOf _ _) fun r62_ S63_ => (exi2 fun x64_ => (if2 (drb_X12_works_214 _ _) (ifn2 (drb_X12_works_214 _ _) (gd2 (if2 (drb_X12_works_208 hB148 _ _ _) (gd2 (if2 (gd2 (gd2 (b22 (drm_X12_fails _ _ _ _) fun r83_ S84_ => (gd2 (drb_X12_works_208 hB148 _ _ _))))) (drb_X12_works_208 hB148 _ _ _)))))))))
theorem drl_X12_works_148 (n : Nat) (S : r_S) (x1 : Int32) (x3 : Int32) : dt2 (fun Q => rl_X12_works_148   n S x1 x3 Q) := by
  induction n generalizing S x1 x3 with
  | zero => exact fa2
  | succ n ih => exact drb_X12_works_148 (B148 := fun Q y0 y1 y2 => rl_X12_works_148   n y0 y1 y2 Q) (fun y0 y1 y2 => ih y0 y1 y2) _ _ _
set_option maxRecDepth 100000 in
set_option maxHeartbeats 4000000 in
theorem drb_X12_works_2 {B2 : (Option Value → r_S → Prop) → r_S → Int32 → Int32 → Prop} (hB2 : ∀ y0 y1 y2, dt2 (fun Q => B2 Q y0 y1 y2)) (S : r_S) (x1 : Int32) (x2 : Int32) : dt2 (fun Q => rb_X12_works_2  (B2 Q) S x1 x2 Q) := by
  unfold rb_X12_works_2
  exact (if2 (exn2 fun n86_ => (drl_X12_works_148 _ _ _ _)) (exn2 fun n87_ => (drl_X12_works_14 hB2 _ _ _ _ _)))
theorem drl_X12_works_2 (n : Nat) (S : r_S) (x1 : Int32) (x2 : Int32) : dt2 (fun Q => rl_X12_works_2   n S x1 x2 Q) := by
  induction n generalizing S x1 x2 with
  | zero => exact fa2
  | succ n ih => exact drb_X12_works_2 (B2 := fun Q y0 y1 y2 => rl_X12_works_2   n y0 y1 y2 Q) (fun y0 y1 y2 => ih y0 y1 y2) _ _ _
set_option maxRecDepth 100000 in
set_option maxHeartbeats 4000000 in
theorem drm_X12_works (S : r_S) (x1 : Int32) : dt2 (fun Q => rm_X12_works   S x1 Q) := by
  unfold rm_X12_works
  exact (exn2 fun n88_ => (drl_X12_works_2 _ _ _ _))
set_option maxRecDepth 100000 in
set_option maxHeartbeats 4000000 in
theorem drb_X12_tick_84 {B7 : (Option Value → r_S → Prop) → r_S → Int32 → Prop} (hB7 : ∀ y0 y1, dt2 (fun Q => B7 Q y0 y1)) (S : r_S) (x1 : Int32) : dt2 (fun Q => rb_X12_tick_84  (B7 Q) S x1 Q) := by
  unfold rb_X12_tick_84
  exact (hB7 _ _)
set_option maxRecDepth 100000 in
set_option maxHeartbeats 4000000 in
theorem drb_X12_tick_114 (S : r_S) : dt2 (fun Q => rb_X12_tick_114   S Q) := by
  unfold rb_X12_tick_114
  exact lf2
set_option maxRecDepth 100000 in
set_option maxHeartbeats 4000000 in
theorem drb_X12_tick_7 {B7 : (Option Value → r_S → Prop) → r_S → Int32 → Prop} (hB7 : ∀ y0 y1, dt2 (fun Q => B7 Q y0 y1)) (S : r_S) (x1 : Int32) : dt2 (fun Q => rb_X12_tick_7  (B7 Q) S x1 Q) := by
  unfold rb_X12_tick_7
  exact (if2 (b22 (drm_X12_window _) fun r4_ S5_ => (exi2 fun x6_ => (gd2 (gd2 (ifn2 (drb_X12_tick_114 _) (b22 (drm_X12_works _ _) fun r17_ S18_ => (gd2 (drb_X12_tick_114 _)))))))) (gd2 (gd2 (gd2 (if2 (drb_X12_tick_84 hB7 _ _) (gd2 (if2 (gd2 (gd2 (gd2 (gd2 (b22 (drm_X12_comes _ _ _) fun r44_ S45_ => (gd2 (drb_X12_tick_84 hB7 _ _))))))) (drb_X12_tick_84 hB7 _ _))))))))
theorem drl_X12_tick_7 (n : Nat) (S : r_S) (x1 : Int32) : dt2 (fun Q => rl_X12_tick_7   n S x1 Q) := by
  induction n generalizing S x1 with
  | zero => exact fa2
  | succ n ih => exact drb_X12_tick_7 (B7 := fun Q y0 y1 => rl_X12_tick_7   n y0 y1 Q) (fun y0 y1 => ih y0 y1) _ _
set_option maxRecDepth 100000 in
set_option maxHeartbeats 4000000 in
theorem drm_X12_tick (S : r_S) : dt2 (fun Q => rm_X12_tick   S Q) := by
  unfold rm_X12_tick
  exact (exn2 fun n47_ => (drl_X12_tick_7 _ _ _))
set_option maxRecDepth 100000 in
set_option maxHeartbeats 4000000 in
theorem drb_X12_run_47 {B47 : (Option Value → r_S → Prop) → r_S → Int32 → Int32 → Int32 → Prop} (hB47 : ∀ y0 y1 y2 y3, dt2 (fun Q => B47 Q y0 y1 y2 y3)) (S : r_S) (x1 : Int32) (x2 : Int32) (x3 : Int32) : dt2 (fun Q => rb_X12_run_47  (B47 Q) S x1 x2 x3 Q) := by
  unfold rb_X12_run_47
  exact (if2 lf2 (b22 (drm_X12_tick _) fun r4_ S5_ => (gd2 (hB47 _ _ _ _))))
theorem drl_X12_run_47 (n : Nat) (S : r_S) (x1 : Int32) (x2 : Int32) (x3 : Int32) : dt2 (fun Q => rl_X12_run_47   n S x1 x2 x3 Q) := by
  induction n generalizing S x1 x2 x3 with
  | zero => exact fa2
  | succ n ih => exact drb_X12_run_47 (B47 := fun Q y0 y1 y2 y3 => rl_X12_run_47   n y0 y1 y2 y3 Q) (fun y0 y1 y2 y3 => ih y0 y1 y2 y3) _ _ _ _
set_option maxRecDepth 100000 in
set_option maxHeartbeats 4000000 in
theorem drb_X12_run_28 (S : r_S) (x1 : Int32) (xs1 : Int32) : dt2 (fun Q => rb_X12_run_28   S x1 xs1 Q) := by
  unfold rb_X12_run_28
  exact (if2 (exn2 fun n9_ => (drl_X12_run_47 _ _ _ _ _)) lf2)
set_option maxRecDepth 100000 in
set_option maxHeartbeats 4000000 in
theorem drb_X12_run_23 (S : r_S) (x1 : Int32) : dt2 (fun Q => rb_X12_run_23   S x1 Q) := by
  unfold rb_X12_run_23
  exact (drb_X12_run_28 _ _ _)
set_option maxRecDepth 100000 in
set_option maxHeartbeats 4000000 in
theorem drm_X12_run (S : r_S) (x1 : Int32) : dt2 (fun Q => rm_X12_run   S x1 Q) := by
  unfold rm_X12_run
  exact (ifn2 (if2 (drb_X12_run_23 _ _) (if2 (drb_X12_run_28 _ _ _) (drb_X12_run_23 _ _))) (drb_X12_run_28 _ _ _))
set_option maxRecDepth 100000 in
set_option maxHeartbeats 4000000 in
theorem drb_X12_peek_70 {B21 : (Option Value → r_S → Prop) → r_S → Int32 → Int32 → Int32 → Int32 → Prop} (hB21 : ∀ y0 y1 y2 y3 y4, dt2 (fun Q => B21 Q y0 y1 y2 y3 y4)) (S : r_S) (x1 : Int32) (x2 : Int32) (x4 : Int32) (xs0 : Int32) (xs1 : Int32) : dt2 (fun Q => rb_X12_peek_70  (B21 Q) S x1 x2 x4 xs0 xs1 Q) := by
  unfold rb_X12_peek_70
  exact (hB21 _ _ _ _ _)
set_option maxRecDepth 100000 in
set_option maxHeartbeats 4000000 in
theorem drb_X12_peek_21 {B21 : (Option Value → r_S → Prop) → r_S → Int32 → Int32 → Int32 → Int32 → Prop} (hB21 : ∀ y0 y1 y2 y3 y4, dt2 (fun Q => B21 Q y0 y1 y2 y3 y4)) (S : r_S) (x1 : Int32) (x2 : Int32) (x3 : Int32) (x4 : Int32) : dt2 (fun Q => rb_X12_peek_21  (B21 Q) S x1 x2 x3 x4 Q) := by
  unfold rb_X12_peek_21
  exact (if2 lf2 (if2 (gd2 (drb_X12_peek_70 hB21 _ _ _ _ _ _)) (gd2 (drb_X12_peek_70 hB21 _ _ _ _ _ _))))
theorem drl_X12_peek_21 (n : Nat) (S : r_S) (x1 : Int32) (x2 : Int32) (x3 : Int32) (x4 : Int32) : dt2 (fun Q => rl_X12_peek_21   n S x1 x2 x3 x4 Q) := by
  induction n generalizing S x1 x2 x3 x4 with
  | zero => exact fa2
  | succ n ih => exact drb_X12_peek_21 (B21 := fun Q y0 y1 y2 y3 y4 => rl_X12_peek_21   n y0 y1 y2 y3 y4 Q) (fun y0 y1 y2 y3 y4 => ih y0 y1 y2 y3 y4) _ _ _ _ _
set_option maxRecDepth 100000 in
set_option maxHeartbeats 4000000 in
theorem drm_X12_peek (S : r_S) (x1 : Int32) (x2 : Int32) : dt2 (fun Q => rm_X12_peek   S x1 x2 Q) := by
  unfold rm_X12_peek
  exact (b22 (drm_X12_isPlace _ _ _) fun r13_ S14_ => (exi2 fun x15_ => (ifn2 (exn2 fun n17_ => (drl_X12_peek_21 _ _ _ _ _ _)) lf2)))
set_option maxRecDepth 100000 in
set_option maxHeartbeats 4000000 in
theorem drb_X12_register_52 (S : r_S) (xs0 : Int32) : dt2 (fun Q => rb_X12_register_52   S xs0 Q) := by
  unfold rb_X12_register_52
  exact lf2
set_option maxRecDepth 100000 in
set_option maxHeartbeats 4000000 in
theorem drb_X12_register_51 (S : r_S) : dt2 (fun Q => rb_X12_register_51   S Q) := by
  unfold rb_X12_register_51
  exact (drb_X12_register_52 _ _)
set_option maxRecDepth 100000 in
set_option maxHeartbeats 4000000 in
theorem drm_X12_register (S : r_S) (x1 : Int32) (x2 : Int32) (x3 : Int32) : dt2 (fun Q => rm_X12_register   S x1 x2 x3 Q) := by
  unfold rm_X12_register
  exact (b22 (drm_X12_isPartition _ _) fun r2_ S3_ => (exi2 fun x4_ => (if2 (drb_X12_register_51 _) (b22 (drm_X12_isProcess _ _ _) fun r7_ S8_ => (exi2 fun x9_ => (if2 (drb_X12_register_51 _) (if2 (drb_X12_register_51 _) (if2 (drb_X12_register_51 _) (gd2 (drb_X12_register_52 _ _))))))))))
set_option maxRecDepth 100000 in
set_option maxHeartbeats 4000000 in
theorem drb_X12_state_22 (S : r_S) : dt2 (fun Q => rb_X12_state_22   S Q) := by
  unfold rb_X12_state_22
  exact lf2
set_option maxRecDepth 100000 in
set_option maxHeartbeats 4000000 in
theorem drb_X12_state_184 (S : r_S) (xs0 : Int32) : dt2 (fun Q => rb_X12_state_184   S xs0 Q) := by
  unfold rb_X12_state_184
  exact lf2
set_option maxRecDepth 100000 in
set_option maxHeartbeats 4000000 in
theorem drb_X12_state_168 (S : r_S) (xs0 : Int32) : dt2 (fun Q => rb_X12_state_168   S xs0 Q) := by
  unfold rb_X12_state_168
  exact lf2
set_option maxRecDepth 100000 in
set_option maxHeartbeats 4000000 in
theorem drb_X12_state_129 (S : r_S) (xs0 : Int32) : dt2 (fun Q => rb_X12_state_129   S xs0 Q) := by
  unfold rb_X12_state_129
  exact lf2
set_option maxRecDepth 100000 in
set_option maxHeartbeats 4000000 in
theorem drm_X12_state (S : r_S) (x1 : Int32) (x2 : Int32) (x3 : Int32) : dt2 (fun Q => rm_X12_state   S x1 x2 x3 Q) := by
  unfold rm_X12_state
  exact (b22 (drm_X12_isPartition _ _) fun r2_ S3_ => (exi2 fun x4_ => (if2 (drb_X12_state_22 _) (b22 (drm_X12_isProcess _ _ _) fun r7_ S8_ => (exi2 fun x9_ => (ifn2 (by
    have e0 : (x3 = (0 : Int32)) ↔ (x3).toInt = 0 := sw_iff (by decide)
    have e1 : (x3 = (1 : Int32)) ↔ (x3).toInt = 1 := sw_iff (by decide)
    have e2 : (x3 = (2 : Int32)) ↔ (x3).toInt = 2 := sw_iff (by decide)
    have e3 : (x3 = (3 : Int32)) ↔ (x3).toInt = 3 := sw_iff (by decide)
    have e4 : (x3 = (4 : Int32)) ↔ (x3).toInt = 4 := sw_iff (by decide)
    have e5 : (x3 = (5 : Int32)) ↔ (x3).toInt = 5 := sw_iff (by decide)
    have e6 : (x3 = (6 : Int32)) ↔ (x3).toInt = 6 := sw_iff (by decide)
    have e7 : (x3 = (7 : Int32)) ↔ (x3).toInt = 7 := sw_iff (by decide)
    have e8 : (x3 = (8 : Int32)) ↔ (x3).toInt = 8 := sw_iff (by decide)
    have ex : ((x3.toInt < 0 ∨ 8 < x3.toInt)) ∨ ((x3 = (0 : Int32))) ∨ ((x3 = (1 : Int32))) ∨ ((x3 = (2 : Int32))) ∨ ((x3 = (3 : Int32))) ∨ ((x3 = (4 : Int32))) ∨ ((x3 = (5 : Int32))) ∨ ((x3 = (6 : Int32))) ∨ ((x3 = (7 : Int32))) ∨ ((x3 = (8 : Int32))) := by
      simp only [e0, e1, e2, e3, e4, e5, e6, e7, e8]; omega
    intro P h
    have t0 : dt2 (fun Q : Option Value → r_S → Prop => (Q (some (.int (-1 : Int32))) S8_)) := lf2
    have t1 : dt2 (fun Q : Option Value → r_S → Prop => (vp_in (((16 : Int32) * x1) + x2) (r_N 2467) ∧ (Q (some (.int (r_A S8_ 2467 (((16 : Int32) * x1) + x2).toNatClampNeg))) S8_))) := (gd2 lf2)
    have t2 : dt2 (fun Q : Option Value → r_S → Prop => (vp_in (((16 : Int32) * x1) + x2) (r_N 2468) ∧ (Q (some (.int (r_A S8_ 2468 (((16 : Int32) * x1) + x2).toNatClampNeg))) S8_))) := (gd2 lf2)
    have t3 : dt2 (fun Q : Option Value → r_S → Prop => (vp_in (((16 : Int32) * x1) + x2) (r_N 2469) ∧ (Q (some (.int (r_A S8_ 2469 (((16 : Int32) * x1) + x2).toNatClampNeg))) S8_))) := (gd2 lf2)
    have t4 : dt2 (fun Q : Option Value → r_S → Prop => (vp_in (((16 : Int32) * x1) + x2) (r_N 2470) ∧ (((r_A S8_ 2470 (((16 : Int32) * x1) + x2).toNatClampNeg) = 0 → (rb_X12_state_129 S8_ (-1 : Int32) Q)) ∧ (¬ (r_A S8_ 2470 (((16 : Int32) * x1) + x2).toNatClampNeg) = 0 → (vp_in (((16 : Int32) * x1) + x2) (r_N 2471) ∧ (rb_X12_state_129 S8_ (r_A S8_ 2471 (((16 : Int32) * x1) + x2).toNatClampNeg) Q)))))) := (gd2 (if2 (drb_X12_state_129 _ _) (gd2 (drb_X12_state_129 _ _))))
    have t5 : dt2 (fun Q : Option Value → r_S → Prop => (vp_in (((16 : Int32) * x1) + x2) (r_N 2472) ∧ (Q (some (.int (r_A S8_ 2472 (((16 : Int32) * x1) + x2).toNatClampNeg))) S8_))) := (gd2 lf2)
    have t6 : dt2 (fun Q : Option Value → r_S → Prop => (vp_in (((16 : Int32) * x1) + x2) (r_N 2474) ∧ (Q (some (.int (r_A S8_ 2474 (((16 : Int32) * x1) + x2).toNatClampNeg))) S8_))) := (gd2 lf2)
    have t7 : dt2 (fun Q : Option Value → r_S → Prop => (vp_in (((16 : Int32) * x1) + x2) (r_N 2473) ∧ (Q (some (.int (r_A S8_ 2473 (((16 : Int32) * x1) + x2).toNatClampNeg))) S8_))) := (gd2 lf2)
    have t8 : dt2 (fun Q : Option Value → r_S → Prop => (rm_X12_isHandler S8_ (((16 : Int32) * x1) + x2) (fun r52_ S53_ => ∃ x54_ : Int32, r52_ = some (.int x54_) ∧ ((x54_ = 0 → (rb_X12_state_168 S53_ (0 : Int32) Q)) ∧ (¬ x54_ = 0 → (rb_X12_state_168 S53_ (1 : Int32) Q)))))) := (b22 (drm_X12_isHandler _ _) fun r52_ S53_ => (exi2 fun x54_ => (if2 (drb_X12_state_168 _ _) (drb_X12_state_168 _ _))))
    have t9 : dt2 (fun Q : Option Value → r_S → Prop => (vp_in (((16 : Int32) * x1) + x2) (r_N 2475) ∧ (((r_A S8_ 2475 (((16 : Int32) * x1) + x2).toNatClampNeg) = 0 → (rb_X12_state_184 S8_ (0 : Int32) Q)) ∧ (¬ (r_A S8_ 2475 (((16 : Int32) * x1) + x2).toNatClampNeg) = 0 → (rb_X12_state_184 S8_ (1 : Int32) Q))))) := (gd2 (if2 (drb_X12_state_184 _ _) (drb_X12_state_184 _ _)))
    rcases ex with hc | hc | hc | hc | hc | hc | hc | hc | hc | hc
    · obtain ⟨v, s, hp, hr⟩ := t0 P (h.1 hc)
      try simp only [e0, e1, e2, e3, e4, e5, e6, e7, e8] at hc
      exact ⟨v, s, hp, fun Q hq => ⟨fun _ => hr Q hq, fun h2 => absurd hc (by (try simp only [e0, e1, e2, e3, e4, e5, e6, e7, e8] at h2); omega), fun h2 => absurd hc (by (try simp only [e0, e1, e2, e3, e4, e5, e6, e7, e8] at h2); omega), fun h2 => absurd hc (by (try simp only [e0, e1, e2, e3, e4, e5, e6, e7, e8] at h2); omega), fun h2 => absurd hc (by (try simp only [e0, e1, e2, e3, e4, e5, e6, e7, e8] at h2); omega), fun h2 => absurd hc (by (try simp only [e0, e1, e2, e3, e4, e5, e6, e7, e8] at h2); omega), fun h2 => absurd hc (by (try simp only [e0, e1, e2, e3, e4, e5, e6, e7, e8] at h2); omega), fun h2 => absurd hc (by (try simp only [e0, e1, e2, e3, e4, e5, e6, e7, e8] at h2); omega), fun h2 => absurd hc (by (try simp only [e0, e1, e2, e3, e4, e5, e6, e7, e8] at h2); omega), fun h2 => absurd hc (by (try simp only [e0, e1, e2, e3, e4, e5, e6, e7, e8] at h2); omega)⟩⟩
    · obtain ⟨v, s, hp, hr⟩ := t1 P (h.2.1 hc)
      try simp only [e0, e1, e2, e3, e4, e5, e6, e7, e8] at hc
      exact ⟨v, s, hp, fun Q hq => ⟨fun h2 => absurd hc (by (try simp only [e0, e1, e2, e3, e4, e5, e6, e7, e8] at h2); omega), fun _ => hr Q hq, fun h2 => absurd hc (by (try simp only [e0, e1, e2, e3, e4, e5, e6, e7, e8] at h2); omega), fun h2 => absurd hc (by (try simp only [e0, e1, e2, e3, e4, e5, e6, e7, e8] at h2); omega), fun h2 => absurd hc (by (try simp only [e0, e1, e2, e3, e4, e5, e6, e7, e8] at h2); omega), fun h2 => absurd hc (by (try simp only [e0, e1, e2, e3, e4, e5, e6, e7, e8] at h2); omega), fun h2 => absurd hc (by (try simp only [e0, e1, e2, e3, e4, e5, e6, e7, e8] at h2); omega), fun h2 => absurd hc (by (try simp only [e0, e1, e2, e3, e4, e5, e6, e7, e8] at h2); omega), fun h2 => absurd hc (by (try simp only [e0, e1, e2, e3, e4, e5, e6, e7, e8] at h2); omega), fun h2 => absurd hc (by (try simp only [e0, e1, e2, e3, e4, e5, e6, e7, e8] at h2); omega)⟩⟩
    · obtain ⟨v, s, hp, hr⟩ := t2 P (h.2.2.1 hc)
      try simp only [e0, e1, e2, e3, e4, e5, e6, e7, e8] at hc
      exact ⟨v, s, hp, fun Q hq => ⟨fun h2 => absurd hc (by (try simp only [e0, e1, e2, e3, e4, e5, e6, e7, e8] at h2); omega), fun h2 => absurd hc (by (try simp only [e0, e1, e2, e3, e4, e5, e6, e7, e8] at h2); omega), fun _ => hr Q hq, fun h2 => absurd hc (by (try simp only [e0, e1, e2, e3, e4, e5, e6, e7, e8] at h2); omega), fun h2 => absurd hc (by (try simp only [e0, e1, e2, e3, e4, e5, e6, e7, e8] at h2); omega), fun h2 => absurd hc (by (try simp only [e0, e1, e2, e3, e4, e5, e6, e7, e8] at h2); omega), fun h2 => absurd hc (by (try simp only [e0, e1, e2, e3, e4, e5, e6, e7, e8] at h2); omega), fun h2 => absurd hc (by (try simp only [e0, e1, e2, e3, e4, e5, e6, e7, e8] at h2); omega), fun h2 => absurd hc (by (try simp only [e0, e1, e2, e3, e4, e5, e6, e7, e8] at h2); omega), fun h2 => absurd hc (by (try simp only [e0, e1, e2, e3, e4, e5, e6, e7, e8] at h2); omega)⟩⟩
    · obtain ⟨v, s, hp, hr⟩ := t3 P (h.2.2.2.1 hc)
      try simp only [e0, e1, e2, e3, e4, e5, e6, e7, e8] at hc
      exact ⟨v, s, hp, fun Q hq => ⟨fun h2 => absurd hc (by (try simp only [e0, e1, e2, e3, e4, e5, e6, e7, e8] at h2); omega), fun h2 => absurd hc (by (try simp only [e0, e1, e2, e3, e4, e5, e6, e7, e8] at h2); omega), fun h2 => absurd hc (by (try simp only [e0, e1, e2, e3, e4, e5, e6, e7, e8] at h2); omega), fun _ => hr Q hq, fun h2 => absurd hc (by (try simp only [e0, e1, e2, e3, e4, e5, e6, e7, e8] at h2); omega), fun h2 => absurd hc (by (try simp only [e0, e1, e2, e3, e4, e5, e6, e7, e8] at h2); omega), fun h2 => absurd hc (by (try simp only [e0, e1, e2, e3, e4, e5, e6, e7, e8] at h2); omega), fun h2 => absurd hc (by (try simp only [e0, e1, e2, e3, e4, e5, e6, e7, e8] at h2); omega), fun h2 => absurd hc (by (try simp only [e0, e1, e2, e3, e4, e5, e6, e7, e8] at h2); omega), fun h2 => absurd hc (by (try simp only [e0, e1, e2, e3, e4, e5, e6, e7, e8] at h2); omega)⟩⟩
    · obtain ⟨v, s, hp, hr⟩ := t4 P (h.2.2.2.2.1 hc)
      try simp only [e0, e1, e2, e3, e4, e5, e6, e7, e8] at hc
      exact ⟨v, s, hp, fun Q hq => ⟨fun h2 => absurd hc (by (try simp only [e0, e1, e2, e3, e4, e5, e6, e7, e8] at h2); omega), fun h2 => absurd hc (by (try simp only [e0, e1, e2, e3, e4, e5, e6, e7, e8] at h2); omega), fun h2 => absurd hc (by (try simp only [e0, e1, e2, e3, e4, e5, e6, e7, e8] at h2); omega), fun h2 => absurd hc (by (try simp only [e0, e1, e2, e3, e4, e5, e6, e7, e8] at h2); omega), fun _ => hr Q hq, fun h2 => absurd hc (by (try simp only [e0, e1, e2, e3, e4, e5, e6, e7, e8] at h2); omega), fun h2 => absurd hc (by (try simp only [e0, e1, e2, e3, e4, e5, e6, e7, e8] at h2); omega), fun h2 => absurd hc (by (try simp only [e0, e1, e2, e3, e4, e5, e6, e7, e8] at h2); omega), fun h2 => absurd hc (by (try simp only [e0, e1, e2, e3, e4, e5, e6, e7, e8] at h2); omega), fun h2 => absurd hc (by (try simp only [e0, e1, e2, e3, e4, e5, e6, e7, e8] at h2); omega)⟩⟩
    · obtain ⟨v, s, hp, hr⟩ := t5 P (h.2.2.2.2.2.1 hc)
      try simp only [e0, e1, e2, e3, e4, e5, e6, e7, e8] at hc
      exact ⟨v, s, hp, fun Q hq => ⟨fun h2 => absurd hc (by (try simp only [e0, e1, e2, e3, e4, e5, e6, e7, e8] at h2); omega), fun h2 => absurd hc (by (try simp only [e0, e1, e2, e3, e4, e5, e6, e7, e8] at h2); omega), fun h2 => absurd hc (by (try simp only [e0, e1, e2, e3, e4, e5, e6, e7, e8] at h2); omega), fun h2 => absurd hc (by (try simp only [e0, e1, e2, e3, e4, e5, e6, e7, e8] at h2); omega), fun h2 => absurd hc (by (try simp only [e0, e1, e2, e3, e4, e5, e6, e7, e8] at h2); omega), fun _ => hr Q hq, fun h2 => absurd hc (by (try simp only [e0, e1, e2, e3, e4, e5, e6, e7, e8] at h2); omega), fun h2 => absurd hc (by (try simp only [e0, e1, e2, e3, e4, e5, e6, e7, e8] at h2); omega), fun h2 => absurd hc (by (try simp only [e0, e1, e2, e3, e4, e5, e6, e7, e8] at h2); omega), fun h2 => absurd hc (by (try simp only [e0, e1, e2, e3, e4, e5, e6, e7, e8] at h2); omega)⟩⟩
    · obtain ⟨v, s, hp, hr⟩ := t6 P (h.2.2.2.2.2.2.1 hc)
      try simp only [e0, e1, e2, e3, e4, e5, e6, e7, e8] at hc
      exact ⟨v, s, hp, fun Q hq => ⟨fun h2 => absurd hc (by (try simp only [e0, e1, e2, e3, e4, e5, e6, e7, e8] at h2); omega), fun h2 => absurd hc (by (try simp only [e0, e1, e2, e3, e4, e5, e6, e7, e8] at h2); omega), fun h2 => absurd hc (by (try simp only [e0, e1, e2, e3, e4, e5, e6, e7, e8] at h2); omega), fun h2 => absurd hc (by (try simp only [e0, e1, e2, e3, e4, e5, e6, e7, e8] at h2); omega), fun h2 => absurd hc (by (try simp only [e0, e1, e2, e3, e4, e5, e6, e7, e8] at h2); omega), fun h2 => absurd hc (by (try simp only [e0, e1, e2, e3, e4, e5, e6, e7, e8] at h2); omega), fun _ => hr Q hq, fun h2 => absurd hc (by (try simp only [e0, e1, e2, e3, e4, e5, e6, e7, e8] at h2); omega), fun h2 => absurd hc (by (try simp only [e0, e1, e2, e3, e4, e5, e6, e7, e8] at h2); omega), fun h2 => absurd hc (by (try simp only [e0, e1, e2, e3, e4, e5, e6, e7, e8] at h2); omega)⟩⟩
    · obtain ⟨v, s, hp, hr⟩ := t7 P (h.2.2.2.2.2.2.2.1 hc)
      try simp only [e0, e1, e2, e3, e4, e5, e6, e7, e8] at hc
      exact ⟨v, s, hp, fun Q hq => ⟨fun h2 => absurd hc (by (try simp only [e0, e1, e2, e3, e4, e5, e6, e7, e8] at h2); omega), fun h2 => absurd hc (by (try simp only [e0, e1, e2, e3, e4, e5, e6, e7, e8] at h2); omega), fun h2 => absurd hc (by (try simp only [e0, e1, e2, e3, e4, e5, e6, e7, e8] at h2); omega), fun h2 => absurd hc (by (try simp only [e0, e1, e2, e3, e4, e5, e6, e7, e8] at h2); omega), fun h2 => absurd hc (by (try simp only [e0, e1, e2, e3, e4, e5, e6, e7, e8] at h2); omega), fun h2 => absurd hc (by (try simp only [e0, e1, e2, e3, e4, e5, e6, e7, e8] at h2); omega), fun h2 => absurd hc (by (try simp only [e0, e1, e2, e3, e4, e5, e6, e7, e8] at h2); omega), fun _ => hr Q hq, fun h2 => absurd hc (by (try simp only [e0, e1, e2, e3, e4, e5, e6, e7, e8] at h2); omega), fun h2 => absurd hc (by (try simp only [e0, e1, e2, e3, e4, e5, e6, e7, e8] at h2); omega)⟩⟩
    · obtain ⟨v, s, hp, hr⟩ := t8 P (h.2.2.2.2.2.2.2.2.1 hc)
      try simp only [e0, e1, e2, e3, e4, e5, e6, e7, e8] at hc
      exact ⟨v, s, hp, fun Q hq => ⟨fun h2 => absurd hc (by (try simp only [e0, e1, e2, e3, e4, e5, e6, e7, e8] at h2); omega), fun h2 => absurd hc (by (try simp only [e0, e1, e2, e3, e4, e5, e6, e7, e8] at h2); omega), fun h2 => absurd hc (by (try simp only [e0, e1, e2, e3, e4, e5, e6, e7, e8] at h2); omega), fun h2 => absurd hc (by (try simp only [e0, e1, e2, e3, e4, e5, e6, e7, e8] at h2); omega), fun h2 => absurd hc (by (try simp only [e0, e1, e2, e3, e4, e5, e6, e7, e8] at h2); omega), fun h2 => absurd hc (by (try simp only [e0, e1, e2, e3, e4, e5, e6, e7, e8] at h2); omega), fun h2 => absurd hc (by (try simp only [e0, e1, e2, e3, e4, e5, e6, e7, e8] at h2); omega), fun h2 => absurd hc (by (try simp only [e0, e1, e2, e3, e4, e5, e6, e7, e8] at h2); omega), fun _ => hr Q hq, fun h2 => absurd hc (by (try simp only [e0, e1, e2, e3, e4, e5, e6, e7, e8] at h2); omega)⟩⟩
    · obtain ⟨v, s, hp, hr⟩ := t9 P (h.2.2.2.2.2.2.2.2.2 hc)
      try simp only [e0, e1, e2, e3, e4, e5, e6, e7, e8] at hc
      exact ⟨v, s, hp, fun Q hq => ⟨fun h2 => absurd hc (by (try simp only [e0, e1, e2, e3, e4, e5, e6, e7, e8] at h2); omega), fun h2 => absurd hc (by (try simp only [e0, e1, e2, e3, e4, e5, e6, e7, e8] at h2); omega), fun h2 => absurd hc (by (try simp only [e0, e1, e2, e3, e4, e5, e6, e7, e8] at h2); omega), fun h2 => absurd hc (by (try simp only [e0, e1, e2, e3, e4, e5, e6, e7, e8] at h2); omega), fun h2 => absurd hc (by (try simp only [e0, e1, e2, e3, e4, e5, e6, e7, e8] at h2); omega), fun h2 => absurd hc (by (try simp only [e0, e1, e2, e3, e4, e5, e6, e7, e8] at h2); omega), fun h2 => absurd hc (by (try simp only [e0, e1, e2, e3, e4, e5, e6, e7, e8] at h2); omega), fun h2 => absurd hc (by (try simp only [e0, e1, e2, e3, e4, e5, e6, e7, e8] at h2); omega), fun h2 => absurd hc (by (try simp only [e0, e1, e2, e3, e4, e5, e6, e7, e8] at h2); omega), fun _ => hr Q hq⟩⟩) (drb_X12_state_22 _)))))))
set_option maxRecDepth 100000 in
set_option maxHeartbeats 4000000 in
theorem drb_X12_partition_161 (S : r_S) (xs0 : Int32) : dt2 (fun Q => rb_X12_partition_161   S xs0 Q) := by
  unfold rb_X12_partition_161
  exact lf2
set_option maxRecDepth 100000 in
set_option maxHeartbeats 4000000 in
theorem drm_X12_partition (S : r_S) (x1 : Int32) (x2 : Int32) : dt2 (fun Q => rm_X12_partition   S x1 x2 Q) := by
  unfold rm_X12_partition
  exact (b22 (drm_X12_isPartition _ _) fun r2_ S3_ => (exi2 fun x4_ => (ifn2 (by
    have e0 : (x2 = (0 : Int32)) ↔ (x2).toInt = 0 := sw_iff (by decide)
    have e1 : (x2 = (1 : Int32)) ↔ (x2).toInt = 1 := sw_iff (by decide)
    have e2 : (x2 = (10 : Int32)) ↔ (x2).toInt = 10 := sw_iff (by decide)
    have e3 : (x2 = (11 : Int32)) ↔ (x2).toInt = 11 := sw_iff (by decide)
    have e4 : (x2 = (12 : Int32)) ↔ (x2).toInt = 12 := sw_iff (by decide)
    have e5 : (x2 = (13 : Int32)) ↔ (x2).toInt = 13 := sw_iff (by decide)
    have e6 : (x2 = (2 : Int32)) ↔ (x2).toInt = 2 := sw_iff (by decide)
    have e7 : (x2 = (3 : Int32)) ↔ (x2).toInt = 3 := sw_iff (by decide)
    have e8 : (x2 = (4 : Int32)) ↔ (x2).toInt = 4 := sw_iff (by decide)
    have e9 : (x2 = (5 : Int32)) ↔ (x2).toInt = 5 := sw_iff (by decide)
    have e10 : (x2 = (6 : Int32)) ↔ (x2).toInt = 6 := sw_iff (by decide)
    have e11 : (x2 = (7 : Int32)) ↔ (x2).toInt = 7 := sw_iff (by decide)
    have e12 : (x2 = (8 : Int32)) ↔ (x2).toInt = 8 := sw_iff (by decide)
    have e13 : (x2 = (9 : Int32)) ↔ (x2).toInt = 9 := sw_iff (by decide)
    have ex : ((x2.toInt < 0 ∨ 13 < x2.toInt)) ∨ ((x2 = (0 : Int32))) ∨ ((x2 = (1 : Int32))) ∨ ((x2 = (2 : Int32))) ∨ ((x2 = (3 : Int32) ∨ x2 = (4 : Int32) ∨ x2 = (5 : Int32) ∨ x2 = (6 : Int32) ∨ x2 = (7 : Int32))) ∨ ((x2 = (8 : Int32))) ∨ ((x2 = (9 : Int32))) ∨ ((x2 = (10 : Int32))) ∨ ((x2 = (11 : Int32))) ∨ ((x2 = (12 : Int32))) ∨ ((x2 = (13 : Int32))) := by
      simp only [e0, e1, e2, e3, e4, e5, e6, e7, e8, e9, e10, e11, e12, e13]; omega
    intro P h
    have t0 : dt2 (fun Q : Option Value → r_S → Prop => (Q (some (.int (-1 : Int32))) S3_)) := lf2
    have t1 : dt2 (fun Q : Option Value → r_S → Prop => (vp_in x1 (r_N 2483) ∧ (Q (some (.int (r_A S3_ 2483 x1.toNatClampNeg))) S3_))) := (gd2 lf2)
    have t2 : dt2 (fun Q : Option Value → r_S → Prop => (vp_in x1 (r_N 2425) ∧ (Q (some (.int (r_A S3_ 2425 x1.toNatClampNeg))) S3_))) := (gd2 lf2)
    have t3 : dt2 (fun Q : Option Value → r_S → Prop => (vp_in (((6 : Int32) * x1) + (5 : Int32)) (r_N 2435) ∧ (Q (some (.int (r_A S3_ 2435 (((6 : Int32) * x1) + (5 : Int32)).toNatClampNeg))) S3_))) := (gd2 lf2)
    have t4 : dt2 (fun Q : Option Value → r_S → Prop => (vp_in ((((6 : Int32) * x1) + x2) - (3 : Int32)) (r_N 2435) ∧ (Q (some (.int (r_A S3_ 2435 ((((6 : Int32) * x1) + x2) - (3 : Int32)).toNatClampNeg))) S3_))) := (gd2 lf2)
    have t5 : dt2 (fun Q : Option Value → r_S → Prop => (vp_in x1 (r_N 2485) ∧ (Q (some (.int (r_A S3_ 2485 x1.toNatClampNeg))) S3_))) := (gd2 lf2)
    have t6 : dt2 (fun Q : Option Value → r_S → Prop => (vp_in x1 (r_N 2486) ∧ (Q (some (.int (r_A S3_ 2486 x1.toNatClampNeg))) S3_))) := (gd2 lf2)
    have t7 : dt2 (fun Q : Option Value → r_S → Prop => (rm_X12_nextOf S3_ x1 (fun r37_ S38_ => ∃ x39_ : Int32, r37_ = some (.int x39_) ∧ ((¬ x39_ = (-1 : Int32) → (rb_X12_partition_161 S38_ (x39_ - x39_ / (16 : Int32) * (16 : Int32)) Q)) ∧ (x39_ = (-1 : Int32) → (rb_X12_partition_161 S38_ (-1 : Int32) Q)))))) := (b22 (drm_X12_nextOf _ _) fun r37_ S38_ => (exi2 fun x39_ => (ifn2 (drb_X12_partition_161 _ _) (drb_X12_partition_161 _ _))))
    have t8 : dt2 (fun Q : Option Value → r_S → Prop => (vp_in x1 (r_N 2484) ∧ (Q (some (.int (r_A S3_ 2484 x1.toNatClampNeg))) S3_))) := (gd2 lf2)
    have t9 : dt2 (fun Q : Option Value → r_S → Prop => (vp_in x1 (r_N 2426) ∧ (Q (some (.int (r_A S3_ 2426 x1.toNatClampNeg))) S3_))) := (gd2 lf2)
    have t10 : dt2 (fun Q : Option Value → r_S → Prop => (vp_in x1 (r_N 2491) ∧ (Q (some (.int (r_A S3_ 2491 x1.toNatClampNeg))) S3_))) := (gd2 lf2)
    rcases ex with hc | hc | hc | hc | hc | hc | hc | hc | hc | hc | hc
    · obtain ⟨v, s, hp, hr⟩ := t0 P (h.1 hc)
      try simp only [e0, e1, e2, e3, e4, e5, e6, e7, e8, e9, e10, e11, e12, e13] at hc
      exact ⟨v, s, hp, fun Q hq => ⟨fun _ => hr Q hq, fun h2 => absurd hc (by (try simp only [e0, e1, e2, e3, e4, e5, e6, e7, e8, e9, e10, e11, e12, e13] at h2); omega), fun h2 => absurd hc (by (try simp only [e0, e1, e2, e3, e4, e5, e6, e7, e8, e9, e10, e11, e12, e13] at h2); omega), fun h2 => absurd hc (by (try simp only [e0, e1, e2, e3, e4, e5, e6, e7, e8, e9, e10, e11, e12, e13] at h2); omega), fun h2 => absurd hc (by (try simp only [e0, e1, e2, e3, e4, e5, e6, e7, e8, e9, e10, e11, e12, e13] at h2); omega), fun h2 => absurd hc (by (try simp only [e0, e1, e2, e3, e4, e5, e6, e7, e8, e9, e10, e11, e12, e13] at h2); omega), fun h2 => absurd hc (by (try simp only [e0, e1, e2, e3, e4, e5, e6, e7, e8, e9, e10, e11, e12, e13] at h2); omega), fun h2 => absurd hc (by (try simp only [e0, e1, e2, e3, e4, e5, e6, e7, e8, e9, e10, e11, e12, e13] at h2); omega), fun h2 => absurd hc (by (try simp only [e0, e1, e2, e3, e4, e5, e6, e7, e8, e9, e10, e11, e12, e13] at h2); omega), fun h2 => absurd hc (by (try simp only [e0, e1, e2, e3, e4, e5, e6, e7, e8, e9, e10, e11, e12, e13] at h2); omega), fun h2 => absurd hc (by (try simp only [e0, e1, e2, e3, e4, e5, e6, e7, e8, e9, e10, e11, e12, e13] at h2); omega)⟩⟩
    · obtain ⟨v, s, hp, hr⟩ := t1 P (h.2.1 hc)
      try simp only [e0, e1, e2, e3, e4, e5, e6, e7, e8, e9, e10, e11, e12, e13] at hc
      exact ⟨v, s, hp, fun Q hq => ⟨fun h2 => absurd hc (by (try simp only [e0, e1, e2, e3, e4, e5, e6, e7, e8, e9, e10, e11, e12, e13] at h2); omega), fun _ => hr Q hq, fun h2 => absurd hc (by (try simp only [e0, e1, e2, e3, e4, e5, e6, e7, e8, e9, e10, e11, e12, e13] at h2); omega), fun h2 => absurd hc (by (try simp only [e0, e1, e2, e3, e4, e5, e6, e7, e8, e9, e10, e11, e12, e13] at h2); omega), fun h2 => absurd hc (by (try simp only [e0, e1, e2, e3, e4, e5, e6, e7, e8, e9, e10, e11, e12, e13] at h2); omega), fun h2 => absurd hc (by (try simp only [e0, e1, e2, e3, e4, e5, e6, e7, e8, e9, e10, e11, e12, e13] at h2); omega), fun h2 => absurd hc (by (try simp only [e0, e1, e2, e3, e4, e5, e6, e7, e8, e9, e10, e11, e12, e13] at h2); omega), fun h2 => absurd hc (by (try simp only [e0, e1, e2, e3, e4, e5, e6, e7, e8, e9, e10, e11, e12, e13] at h2); omega), fun h2 => absurd hc (by (try simp only [e0, e1, e2, e3, e4, e5, e6, e7, e8, e9, e10, e11, e12, e13] at h2); omega), fun h2 => absurd hc (by (try simp only [e0, e1, e2, e3, e4, e5, e6, e7, e8, e9, e10, e11, e12, e13] at h2); omega), fun h2 => absurd hc (by (try simp only [e0, e1, e2, e3, e4, e5, e6, e7, e8, e9, e10, e11, e12, e13] at h2); omega)⟩⟩
    · obtain ⟨v, s, hp, hr⟩ := t2 P (h.2.2.1 hc)
      try simp only [e0, e1, e2, e3, e4, e5, e6, e7, e8, e9, e10, e11, e12, e13] at hc
      exact ⟨v, s, hp, fun Q hq => ⟨fun h2 => absurd hc (by (try simp only [e0, e1, e2, e3, e4, e5, e6, e7, e8, e9, e10, e11, e12, e13] at h2); omega), fun h2 => absurd hc (by (try simp only [e0, e1, e2, e3, e4, e5, e6, e7, e8, e9, e10, e11, e12, e13] at h2); omega), fun _ => hr Q hq, fun h2 => absurd hc (by (try simp only [e0, e1, e2, e3, e4, e5, e6, e7, e8, e9, e10, e11, e12, e13] at h2); omega), fun h2 => absurd hc (by (try simp only [e0, e1, e2, e3, e4, e5, e6, e7, e8, e9, e10, e11, e12, e13] at h2); omega), fun h2 => absurd hc (by (try simp only [e0, e1, e2, e3, e4, e5, e6, e7, e8, e9, e10, e11, e12, e13] at h2); omega), fun h2 => absurd hc (by (try simp only [e0, e1, e2, e3, e4, e5, e6, e7, e8, e9, e10, e11, e12, e13] at h2); omega), fun h2 => absurd hc (by (try simp only [e0, e1, e2, e3, e4, e5, e6, e7, e8, e9, e10, e11, e12, e13] at h2); omega), fun h2 => absurd hc (by (try simp only [e0, e1, e2, e3, e4, e5, e6, e7, e8, e9, e10, e11, e12, e13] at h2); omega), fun h2 => absurd hc (by (try simp only [e0, e1, e2, e3, e4, e5, e6, e7, e8, e9, e10, e11, e12, e13] at h2); omega), fun h2 => absurd hc (by (try simp only [e0, e1, e2, e3, e4, e5, e6, e7, e8, e9, e10, e11, e12, e13] at h2); omega)⟩⟩
    · obtain ⟨v, s, hp, hr⟩ := t3 P (h.2.2.2.1 hc)
      try simp only [e0, e1, e2, e3, e4, e5, e6, e7, e8, e9, e10, e11, e12, e13] at hc
      exact ⟨v, s, hp, fun Q hq => ⟨fun h2 => absurd hc (by (try simp only [e0, e1, e2, e3, e4, e5, e6, e7, e8, e9, e10, e11, e12, e13] at h2); omega), fun h2 => absurd hc (by (try simp only [e0, e1, e2, e3, e4, e5, e6, e7, e8, e9, e10, e11, e12, e13] at h2); omega), fun h2 => absurd hc (by (try simp only [e0, e1, e2, e3, e4, e5, e6, e7, e8, e9, e10, e11, e12, e13] at h2); omega), fun _ => hr Q hq, fun h2 => absurd hc (by (try simp only [e0, e1, e2, e3, e4, e5, e6, e7, e8, e9, e10, e11, e12, e13] at h2); omega), fun h2 => absurd hc (by (try simp only [e0, e1, e2, e3, e4, e5, e6, e7, e8, e9, e10, e11, e12, e13] at h2); omega), fun h2 => absurd hc (by (try simp only [e0, e1, e2, e3, e4, e5, e6, e7, e8, e9, e10, e11, e12, e13] at h2); omega), fun h2 => absurd hc (by (try simp only [e0, e1, e2, e3, e4, e5, e6, e7, e8, e9, e10, e11, e12, e13] at h2); omega), fun h2 => absurd hc (by (try simp only [e0, e1, e2, e3, e4, e5, e6, e7, e8, e9, e10, e11, e12, e13] at h2); omega), fun h2 => absurd hc (by (try simp only [e0, e1, e2, e3, e4, e5, e6, e7, e8, e9, e10, e11, e12, e13] at h2); omega), fun h2 => absurd hc (by (try simp only [e0, e1, e2, e3, e4, e5, e6, e7, e8, e9, e10, e11, e12, e13] at h2); omega)⟩⟩
    · obtain ⟨v, s, hp, hr⟩ := t4 P (h.2.2.2.2.1 hc)
      try simp only [e0, e1, e2, e3, e4, e5, e6, e7, e8, e9, e10, e11, e12, e13] at hc
      exact ⟨v, s, hp, fun Q hq => ⟨fun h2 => absurd hc (by (try simp only [e0, e1, e2, e3, e4, e5, e6, e7, e8, e9, e10, e11, e12, e13] at h2); omega), fun h2 => absurd hc (by (try simp only [e0, e1, e2, e3, e4, e5, e6, e7, e8, e9, e10, e11, e12, e13] at h2); omega), fun h2 => absurd hc (by (try simp only [e0, e1, e2, e3, e4, e5, e6, e7, e8, e9, e10, e11, e12, e13] at h2); omega), fun h2 => absurd hc (by (try simp only [e0, e1, e2, e3, e4, e5, e6, e7, e8, e9, e10, e11, e12, e13] at h2); omega), fun _ => hr Q hq, fun h2 => absurd hc (by (try simp only [e0, e1, e2, e3, e4, e5, e6, e7, e8, e9, e10, e11, e12, e13] at h2); omega), fun h2 => absurd hc (by (try simp only [e0, e1, e2, e3, e4, e5, e6, e7, e8, e9, e10, e11, e12, e13] at h2); omega), fun h2 => absurd hc (by (try simp only [e0, e1, e2, e3, e4, e5, e6, e7, e8, e9, e10, e11, e12, e13] at h2); omega), fun h2 => absurd hc (by (try simp only [e0, e1, e2, e3, e4, e5, e6, e7, e8, e9, e10, e11, e12, e13] at h2); omega), fun h2 => absurd hc (by (try simp only [e0, e1, e2, e3, e4, e5, e6, e7, e8, e9, e10, e11, e12, e13] at h2); omega), fun h2 => absurd hc (by (try simp only [e0, e1, e2, e3, e4, e5, e6, e7, e8, e9, e10, e11, e12, e13] at h2); omega)⟩⟩
    · obtain ⟨v, s, hp, hr⟩ := t5 P (h.2.2.2.2.2.1 hc)
      try simp only [e0, e1, e2, e3, e4, e5, e6, e7, e8, e9, e10, e11, e12, e13] at hc
      exact ⟨v, s, hp, fun Q hq => ⟨fun h2 => absurd hc (by (try simp only [e0, e1, e2, e3, e4, e5, e6, e7, e8, e9, e10, e11, e12, e13] at h2); omega), fun h2 => absurd hc (by (try simp only [e0, e1, e2, e3, e4, e5, e6, e7, e8, e9, e10, e11, e12, e13] at h2); omega), fun h2 => absurd hc (by (try simp only [e0, e1, e2, e3, e4, e5, e6, e7, e8, e9, e10, e11, e12, e13] at h2); omega), fun h2 => absurd hc (by (try simp only [e0, e1, e2, e3, e4, e5, e6, e7, e8, e9, e10, e11, e12, e13] at h2); omega), fun h2 => absurd hc (by (try simp only [e0, e1, e2, e3, e4, e5, e6, e7, e8, e9, e10, e11, e12, e13] at h2); omega), fun _ => hr Q hq, fun h2 => absurd hc (by (try simp only [e0, e1, e2, e3, e4, e5, e6, e7, e8, e9, e10, e11, e12, e13] at h2); omega), fun h2 => absurd hc (by (try simp only [e0, e1, e2, e3, e4, e5, e6, e7, e8, e9, e10, e11, e12, e13] at h2); omega), fun h2 => absurd hc (by (try simp only [e0, e1, e2, e3, e4, e5, e6, e7, e8, e9, e10, e11, e12, e13] at h2); omega), fun h2 => absurd hc (by (try simp only [e0, e1, e2, e3, e4, e5, e6, e7, e8, e9, e10, e11, e12, e13] at h2); omega), fun h2 => absurd hc (by (try simp only [e0, e1, e2, e3, e4, e5, e6, e7, e8, e9, e10, e11, e12, e13] at h2); omega)⟩⟩
    · obtain ⟨v, s, hp, hr⟩ := t6 P (h.2.2.2.2.2.2.1 hc)
      try simp only [e0, e1, e2, e3, e4, e5, e6, e7, e8, e9, e10, e11, e12, e13] at hc
      exact ⟨v, s, hp, fun Q hq => ⟨fun h2 => absurd hc (by (try simp only [e0, e1, e2, e3, e4, e5, e6, e7, e8, e9, e10, e11, e12, e13] at h2); omega), fun h2 => absurd hc (by (try simp only [e0, e1, e2, e3, e4, e5, e6, e7, e8, e9, e10, e11, e12, e13] at h2); omega), fun h2 => absurd hc (by (try simp only [e0, e1, e2, e3, e4, e5, e6, e7, e8, e9, e10, e11, e12, e13] at h2); omega), fun h2 => absurd hc (by (try simp only [e0, e1, e2, e3, e4, e5, e6, e7, e8, e9, e10, e11, e12, e13] at h2); omega), fun h2 => absurd hc (by (try simp only [e0, e1, e2, e3, e4, e5, e6, e7, e8, e9, e10, e11, e12, e13] at h2); omega), fun h2 => absurd hc (by (try simp only [e0, e1, e2, e3, e4, e5, e6, e7, e8, e9, e10, e11, e12, e13] at h2); omega), fun _ => hr Q hq, fun h2 => absurd hc (by (try simp only [e0, e1, e2, e3, e4, e5, e6, e7, e8, e9, e10, e11, e12, e13] at h2); omega), fun h2 => absurd hc (by (try simp only [e0, e1, e2, e3, e4, e5, e6, e7, e8, e9, e10, e11, e12, e13] at h2); omega), fun h2 => absurd hc (by (try simp only [e0, e1, e2, e3, e4, e5, e6, e7, e8, e9, e10, e11, e12, e13] at h2); omega), fun h2 => absurd hc (by (try simp only [e0, e1, e2, e3, e4, e5, e6, e7, e8, e9, e10, e11, e12, e13] at h2); omega)⟩⟩
    · obtain ⟨v, s, hp, hr⟩ := t7 P (h.2.2.2.2.2.2.2.1 hc)
      try simp only [e0, e1, e2, e3, e4, e5, e6, e7, e8, e9, e10, e11, e12, e13] at hc
      exact ⟨v, s, hp, fun Q hq => ⟨fun h2 => absurd hc (by (try simp only [e0, e1, e2, e3, e4, e5, e6, e7, e8, e9, e10, e11, e12, e13] at h2); omega), fun h2 => absurd hc (by (try simp only [e0, e1, e2, e3, e4, e5, e6, e7, e8, e9, e10, e11, e12, e13] at h2); omega), fun h2 => absurd hc (by (try simp only [e0, e1, e2, e3, e4, e5, e6, e7, e8, e9, e10, e11, e12, e13] at h2); omega), fun h2 => absurd hc (by (try simp only [e0, e1, e2, e3, e4, e5, e6, e7, e8, e9, e10, e11, e12, e13] at h2); omega), fun h2 => absurd hc (by (try simp only [e0, e1, e2, e3, e4, e5, e6, e7, e8, e9, e10, e11, e12, e13] at h2); omega), fun h2 => absurd hc (by (try simp only [e0, e1, e2, e3, e4, e5, e6, e7, e8, e9, e10, e11, e12, e13] at h2); omega), fun h2 => absurd hc (by (try simp only [e0, e1, e2, e3, e4, e5, e6, e7, e8, e9, e10, e11, e12, e13] at h2); omega), fun _ => hr Q hq, fun h2 => absurd hc (by (try simp only [e0, e1, e2, e3, e4, e5, e6, e7, e8, e9, e10, e11, e12, e13] at h2); omega), fun h2 => absurd hc (by (try simp only [e0, e1, e2, e3, e4, e5, e6, e7, e8, e9, e10, e11, e12, e13] at h2); omega), fun h2 => absurd hc (by (try simp only [e0, e1, e2, e3, e4, e5, e6, e7, e8, e9, e10, e11, e12, e13] at h2); omega)⟩⟩
    · obtain ⟨v, s, hp, hr⟩ := t8 P (h.2.2.2.2.2.2.2.2.1 hc)
      try simp only [e0, e1, e2, e3, e4, e5, e6, e7, e8, e9, e10, e11, e12, e13] at hc
      exact ⟨v, s, hp, fun Q hq => ⟨fun h2 => absurd hc (by (try simp only [e0, e1, e2, e3, e4, e5, e6, e7, e8, e9, e10, e11, e12, e13] at h2); omega), fun h2 => absurd hc (by (try simp only [e0, e1, e2, e3, e4, e5, e6, e7, e8, e9, e10, e11, e12, e13] at h2); omega), fun h2 => absurd hc (by (try simp only [e0, e1, e2, e3, e4, e5, e6, e7, e8, e9, e10, e11, e12, e13] at h2); omega), fun h2 => absurd hc (by (try simp only [e0, e1, e2, e3, e4, e5, e6, e7, e8, e9, e10, e11, e12, e13] at h2); omega), fun h2 => absurd hc (by (try simp only [e0, e1, e2, e3, e4, e5, e6, e7, e8, e9, e10, e11, e12, e13] at h2); omega), fun h2 => absurd hc (by (try simp only [e0, e1, e2, e3, e4, e5, e6, e7, e8, e9, e10, e11, e12, e13] at h2); omega), fun h2 => absurd hc (by (try simp only [e0, e1, e2, e3, e4, e5, e6, e7, e8, e9, e10, e11, e12, e13] at h2); omega), fun h2 => absurd hc (by (try simp only [e0, e1, e2, e3, e4, e5, e6, e7, e8, e9, e10, e11, e12, e13] at h2); omega), fun _ => hr Q hq, fun h2 => absurd hc (by (try simp only [e0, e1, e2, e3, e4, e5, e6, e7, e8, e9, e10, e11, e12, e13] at h2); omega), fun h2 => absurd hc (by (try simp only [e0, e1, e2, e3, e4, e5, e6, e7, e8, e9, e10, e11, e12, e13] at h2); omega)⟩⟩
    · obtain ⟨v, s, hp, hr⟩ := t9 P (h.2.2.2.2.2.2.2.2.2.1 hc)
      try simp only [e0, e1, e2, e3, e4, e5, e6, e7, e8, e9, e10, e11, e12, e13] at hc
      exact ⟨v, s, hp, fun Q hq => ⟨fun h2 => absurd hc (by (try simp only [e0, e1, e2, e3, e4, e5, e6, e7, e8, e9, e10, e11, e12, e13] at h2); omega), fun h2 => absurd hc (by (try simp only [e0, e1, e2, e3, e4, e5, e6, e7, e8, e9, e10, e11, e12, e13] at h2); omega), fun h2 => absurd hc (by (try simp only [e0, e1, e2, e3, e4, e5, e6, e7, e8, e9, e10, e11, e12, e13] at h2); omega), fun h2 => absurd hc (by (try simp only [e0, e1, e2, e3, e4, e5, e6, e7, e8, e9, e10, e11, e12, e13] at h2); omega), fun h2 => absurd hc (by (try simp only [e0, e1, e2, e3, e4, e5, e6, e7, e8, e9, e10, e11, e12, e13] at h2); omega), fun h2 => absurd hc (by (try simp only [e0, e1, e2, e3, e4, e5, e6, e7, e8, e9, e10, e11, e12, e13] at h2); omega), fun h2 => absurd hc (by (try simp only [e0, e1, e2, e3, e4, e5, e6, e7, e8, e9, e10, e11, e12, e13] at h2); omega), fun h2 => absurd hc (by (try simp only [e0, e1, e2, e3, e4, e5, e6, e7, e8, e9, e10, e11, e12, e13] at h2); omega), fun h2 => absurd hc (by (try simp only [e0, e1, e2, e3, e4, e5, e6, e7, e8, e9, e10, e11, e12, e13] at h2); omega), fun _ => hr Q hq, fun h2 => absurd hc (by (try simp only [e0, e1, e2, e3, e4, e5, e6, e7, e8, e9, e10, e11, e12, e13] at h2); omega)⟩⟩
    · obtain ⟨v, s, hp, hr⟩ := t10 P (h.2.2.2.2.2.2.2.2.2.2 hc)
      try simp only [e0, e1, e2, e3, e4, e5, e6, e7, e8, e9, e10, e11, e12, e13] at hc
      exact ⟨v, s, hp, fun Q hq => ⟨fun h2 => absurd hc (by (try simp only [e0, e1, e2, e3, e4, e5, e6, e7, e8, e9, e10, e11, e12, e13] at h2); omega), fun h2 => absurd hc (by (try simp only [e0, e1, e2, e3, e4, e5, e6, e7, e8, e9, e10, e11, e12, e13] at h2); omega), fun h2 => absurd hc (by (try simp only [e0, e1, e2, e3, e4, e5, e6, e7, e8, e9, e10, e11, e12, e13] at h2); omega), fun h2 => absurd hc (by (try simp only [e0, e1, e2, e3, e4, e5, e6, e7, e8, e9, e10, e11, e12, e13] at h2); omega), fun h2 => absurd hc (by (try simp only [e0, e1, e2, e3, e4, e5, e6, e7, e8, e9, e10, e11, e12, e13] at h2); omega), fun h2 => absurd hc (by (try simp only [e0, e1, e2, e3, e4, e5, e6, e7, e8, e9, e10, e11, e12, e13] at h2); omega), fun h2 => absurd hc (by (try simp only [e0, e1, e2, e3, e4, e5, e6, e7, e8, e9, e10, e11, e12, e13] at h2); omega), fun h2 => absurd hc (by (try simp only [e0, e1, e2, e3, e4, e5, e6, e7, e8, e9, e10, e11, e12, e13] at h2); omega), fun h2 => absurd hc (by (try simp only [e0, e1, e2, e3, e4, e5, e6, e7, e8, e9, e10, e11, e12, e13] at h2); omega), fun h2 => absurd hc (by (try simp only [e0, e1, e2, e3, e4, e5, e6, e7, e8, e9, e10, e11, e12, e13] at h2); omega), fun _ => hr Q hq⟩⟩) lf2)))
set_option maxRecDepth 100000 in
set_option maxHeartbeats 4000000 in
theorem drb_X12_thing_43 (S : r_S) (xs0 : Int32) : dt2 (fun Q => rb_X12_thing_43   S xs0 Q) := by
  unfold rb_X12_thing_43
  exact lf2
set_option maxRecDepth 100000 in
set_option maxHeartbeats 4000000 in
theorem drb_X12_thing_42 (S : r_S) : dt2 (fun Q => rb_X12_thing_42   S Q) := by
  unfold rb_X12_thing_42
  exact (drb_X12_thing_43 _ _)
set_option maxRecDepth 100000 in
set_option maxHeartbeats 4000000 in
theorem drm_X12_thing (S : r_S) (x1 : Int32) (x2 : Int32) (x3 : Int32) : dt2 (fun Q => rm_X12_thing   S x1 x2 x3 Q) := by
  unfold rm_X12_thing
  exact (b22 (drm_X12_isPartition _ _) fun r2_ S3_ => (exi2 fun x4_ => (if2 (drb_X12_thing_42 _) (if2 (drb_X12_thing_42 _) (if2 (drb_X12_thing_42 _) (b22 (drm_X12_isThing _ _ _ _) fun r9_ S10_ => (exi2 fun x11_ => (if2 (drb_X12_thing_42 _) (b22 (drm_X12_tells _ _ _ _) fun r14_ S15_ => (exi2 fun x16_ => (drb_X12_thing_43 _ _)))))))))))
set_option maxRecDepth 100000 in
set_option maxHeartbeats 4000000 in
theorem drb_X12_waiting_43 (S : r_S) (xs0 : Int32) : dt2 (fun Q => rb_X12_waiting_43   S xs0 Q) := by
  unfold rb_X12_waiting_43
  exact lf2
set_option maxRecDepth 100000 in
set_option maxHeartbeats 4000000 in
theorem drb_X12_waiting_42 (S : r_S) : dt2 (fun Q => rb_X12_waiting_42   S Q) := by
  unfold rb_X12_waiting_42
  exact (drb_X12_waiting_43 _ _)
set_option maxRecDepth 100000 in
set_option maxHeartbeats 4000000 in
theorem drm_X12_waiting (S : r_S) (x1 : Int32) (x2 : Int32) (x3 : Int32) : dt2 (fun Q => rm_X12_waiting   S x1 x2 x3 Q) := by
  unfold rm_X12_waiting
  exact (b22 (drm_X12_isPartition _ _) fun r2_ S3_ => (exi2 fun x4_ => (if2 (drb_X12_waiting_42 _) (if2 (drb_X12_waiting_42 _) (if2 (drb_X12_waiting_42 _) (b22 (drm_X12_isThing _ _ _ _) fun r9_ S10_ => (exi2 fun x11_ => (if2 (drb_X12_waiting_42 _) (b22 (drm_X12_wait _ _ _ _) fun r14_ S15_ => (exi2 fun x16_ => (drb_X12_waiting_43 _ _)))))))))))
set_option maxRecDepth 100000 in
set_option maxHeartbeats 4000000 in
theorem drb_X12_region_36 (S : r_S) : dt2 (fun Q => rb_X12_region_36   S Q) := by
  unfold rb_X12_region_36
  exact lf2
set_option maxRecDepth 100000 in
set_option maxHeartbeats 4000000 in
theorem drb_X12_region_82 (S : r_S) (xs0 : Int32) : dt2 (fun Q => rb_X12_region_82   S xs0 Q) := by
  unfold rb_X12_region_82
  exact lf2
set_option maxRecDepth 100000 in
set_option maxHeartbeats 4000000 in
theorem drm_X12_region (S : r_S) (x1 : Int32) (x2 : Int32) (x3 : Int32) : dt2 (fun Q => rm_X12_region   S x1 x2 x3 Q) := by
  unfold rm_X12_region
  exact (b22 (drm_X12_isPartition _ _) fun r2_ S3_ => (exi2 fun x4_ => (if2 (drb_X12_region_36 _) (if2 (drb_X12_region_36 _) (gd2 (if2 (drb_X12_region_36 _) (if2 (drb_X12_region_36 _) (if2 (ifn2 (ifn2 (gd2 (drb_X12_region_82 _ _)) (gd2 (drb_X12_region_82 _ _))) (gd2 (drb_X12_region_82 _ _))) (drb_X12_region_36 _)))))))))
set_option maxRecDepth 100000 in
set_option maxHeartbeats 4000000 in
theorem drb_X12_wordOf_38 (S : r_S) : dt2 (fun Q => rb_X12_wordOf_38   S Q) := by
  unfold rb_X12_wordOf_38
  exact lf2
set_option maxRecDepth 100000 in
set_option maxHeartbeats 4000000 in
theorem drb_X12_wordOf_79 (S : r_S) (xs0 : Int32) : dt2 (fun Q => rb_X12_wordOf_79   S xs0 Q) := by
  unfold rb_X12_wordOf_79
  exact lf2
set_option maxRecDepth 100000 in
set_option maxHeartbeats 4000000 in
theorem drb_X12_wordOf_78 (S : r_S) : dt2 (fun Q => rb_X12_wordOf_78   S Q) := by
  unfold rb_X12_wordOf_78
  exact (drb_X12_wordOf_79 _ _)
set_option maxRecDepth 100000 in
set_option maxHeartbeats 4000000 in
theorem drb_X12_wordOf_109 (S : r_S) (xs0 : Int32) : dt2 (fun Q => rb_X12_wordOf_109   S xs0 Q) := by
  unfold rb_X12_wordOf_109
  exact lf2
set_option maxRecDepth 100000 in
set_option maxHeartbeats 4000000 in
theorem drb_X12_wordOf_23 (S : r_S) (x1 : Int32) (x2 : Int32) (x3 : Int32) (x4 : Int32) : dt2 (fun Q => rb_X12_wordOf_23   S x1 x2 x3 x4 Q) := by
  unfold rb_X12_wordOf_23
  exact (b22 (drm_X12_isThing _ _ _ _) fun r2_ S3_ => (exi2 fun x4_ => (if2 (drb_X12_wordOf_38 _) (if2 (ifn2 (gd2 (if2 (drb_X12_wordOf_109 _ _) (gd2 (drb_X12_wordOf_109 _ _)))) (ifn2 (drb_X12_wordOf_78 _) (gd2 (if2 (drb_X12_wordOf_78 _) (gd2 (drb_X12_wordOf_79 _ _)))))) (drb_X12_wordOf_38 _)))))
set_option maxRecDepth 100000 in
set_option maxHeartbeats 4000000 in
theorem drm_X12_wordOf (S : r_S) (x1 : Int32) (x2 : Int32) (x3 : Int32) (x4 : Int32) : dt2 (fun Q => rm_X12_wordOf   S x1 x2 x3 x4 Q) := by
  unfold rm_X12_wordOf
  exact (b22 (drm_X12_isPartition _ _) fun r30_ S31_ => (exi2 fun x32_ => (if2 (drb_X12_wordOf_38 _) (if2 (drb_X12_wordOf_23 _ _ _ _ _) (ifn2 (drb_X12_wordOf_38 _) (drb_X12_wordOf_23 _ _ _ _ _))))))
set_option maxRecDepth 100000 in
set_option maxHeartbeats 4000000 in
theorem drb_X12_isChannel_17 (S : r_S) (xs0 : Int32) : dt2 (fun Q => rb_X12_isChannel_17   S xs0 Q) := by
  unfold rb_X12_isChannel_17
  exact (gd2 lf2)
set_option maxRecDepth 100000 in
set_option maxHeartbeats 4000000 in
theorem drb_X12_isChannel_16 (S : r_S) : dt2 (fun Q => rb_X12_isChannel_16   S Q) := by
  unfold rb_X12_isChannel_16
  exact (drb_X12_isChannel_17 _ _)
set_option maxRecDepth 100000 in
set_option maxHeartbeats 4000000 in
theorem drm_X12_isChannel (S : r_S) (x1 : Int32) : dt2 (fun Q => rm_X12_isChannel   S x1 Q) := by
  unfold rm_X12_isChannel
  exact (if2 (drb_X12_isChannel_16 _) (if2 (drb_X12_isChannel_16 _) (drb_X12_isChannel_17 _ _)))
set_option maxRecDepth 100000 in
set_option maxHeartbeats 4000000 in
theorem drb_X12_channel_112 (S : r_S) (xs0 : Int32) : dt2 (fun Q => rb_X12_channel_112   S xs0 Q) := by
  unfold rb_X12_channel_112
  exact lf2
set_option maxRecDepth 100000 in
set_option maxHeartbeats 4000000 in
theorem drb_X12_channel_111 (S : r_S) : dt2 (fun Q => rb_X12_channel_111   S Q) := by
  unfold rb_X12_channel_111
  exact (drb_X12_channel_112 _ _)
set_option maxRecDepth 100000 in
set_option maxHeartbeats 4000000 in
theorem drb_X12_channel_70 (S : r_S) (xs0 : Int32) : dt2 (fun Q => rb_X12_channel_70   S xs0 Q) := by
  unfold rb_X12_channel_70
  exact lf2
set_option maxRecDepth 100000 in
set_option maxHeartbeats 4000000 in
theorem drm_X12_channel (S : r_S) (x1 : Int32) (x2 : Int32) : dt2 (fun Q => rm_X12_channel   S x1 x2 Q) := by
  unfold rm_X12_channel
  exact (b22 (drm_X12_isChannel _ _) fun r2_ S3_ => (exi2 fun x4_ => (ifn2 (by
    have e0 : (x2 = (0 : Int32)) ↔ (x2).toInt = 0 := sw_iff (by decide)
    have e1 : (x2 = (1 : Int32)) ↔ (x2).toInt = 1 := sw_iff (by decide)
    have e2 : (x2 = (2 : Int32)) ↔ (x2).toInt = 2 := sw_iff (by decide)
    have e3 : (x2 = (3 : Int32)) ↔ (x2).toInt = 3 := sw_iff (by decide)
    have e4 : (x2 = (4 : Int32)) ↔ (x2).toInt = 4 := sw_iff (by decide)
    have e5 : (x2 = (5 : Int32)) ↔ (x2).toInt = 5 := sw_iff (by decide)
    have ex : ((x2.toInt < 0 ∨ 5 < x2.toInt)) ∨ ((x2 = (0 : Int32))) ∨ ((x2 = (1 : Int32))) ∨ ((x2 = (2 : Int32))) ∨ ((x2 = (3 : Int32))) ∨ ((x2 = (4 : Int32))) ∨ ((x2 = (5 : Int32))) := by
      simp only [e0, e1, e2, e3, e4, e5]; omega
    intro P h
    have t0 : dt2 (fun Q : Option Value → r_S → Prop => (Q (some (.int (-1 : Int32))) S3_)) := lf2
    have t1 : dt2 (fun Q : Option Value → r_S → Prop => (vp_in x1 (r_N 2454) ∧ (((r_A S3_ 2454 x1.toNatClampNeg) = 0 → (rb_X12_channel_70 S3_ (0 : Int32) Q)) ∧ (¬ (r_A S3_ 2454 x1.toNatClampNeg) = 0 → (rb_X12_channel_70 S3_ (1 : Int32) Q))))) := (gd2 (if2 (drb_X12_channel_70 _ _) (drb_X12_channel_70 _ _)))
    have t2 : dt2 (fun Q : Option Value → r_S → Prop => (rm_X12_wordsOf S3_ x1 (fun r13_ S14_ => ∃ x15_ : Int32, r13_ = some (.int x15_) ∧ (Q (some (.int x15_)) S14_)))) := (b22 (drm_X12_wordsOf _ _) fun r13_ S14_ => (exi2 fun x15_ => lf2))
    have t3 : dt2 (fun Q : Option Value → r_S → Prop => (vp_in x1 (r_N 2455) ∧ (Q (some (.int (r_A S3_ 2455 x1.toNatClampNeg))) S3_))) := (gd2 lf2)
    have t4 : dt2 (fun Q : Option Value → r_S → Prop => (vp_in x1 (r_N 2454) ∧ ((¬ (r_A S3_ 2454 x1.toNatClampNeg) = 0 → (rb_X12_channel_111 S3_ Q)) ∧ ((r_A S3_ 2454 x1.toNatClampNeg) = 0 → (vp_in x1 (r_N 2498) ∧ (((r_A S3_ 2498 x1.toNatClampNeg) = 0 → (rb_X12_channel_111 S3_ Q)) ∧ (¬ (r_A S3_ 2498 x1.toNatClampNeg) = 0 → (vp_in x1 (r_N 2500) ∧ (rb_X12_channel_112 S3_ (r_A S3_ 2500 x1.toNatClampNeg) Q))))))))) := (gd2 (ifn2 (drb_X12_channel_111 _) (gd2 (if2 (drb_X12_channel_111 _) (gd2 (drb_X12_channel_112 _ _))))))
    have t5 : dt2 (fun Q : Option Value → r_S → Prop => (vp_in x1 (r_N 2503) ∧ (Q (some (.int (r_A S3_ 2503 x1.toNatClampNeg))) S3_))) := (gd2 lf2)
    have t6 : dt2 (fun Q : Option Value → r_S → Prop => (vp_in x1 (r_N 2458) ∧ (Q (some (.int (r_A S3_ 2458 x1.toNatClampNeg))) S3_))) := (gd2 lf2)
    rcases ex with hc | hc | hc | hc | hc | hc | hc
    · obtain ⟨v, s, hp, hr⟩ := t0 P (h.1 hc)
      try simp only [e0, e1, e2, e3, e4, e5] at hc
      exact ⟨v, s, hp, fun Q hq => ⟨fun _ => hr Q hq, fun h2 => absurd hc (by (try simp only [e0, e1, e2, e3, e4, e5] at h2); omega), fun h2 => absurd hc (by (try simp only [e0, e1, e2, e3, e4, e5] at h2); omega), fun h2 => absurd hc (by (try simp only [e0, e1, e2, e3, e4, e5] at h2); omega), fun h2 => absurd hc (by (try simp only [e0, e1, e2, e3, e4, e5] at h2); omega), fun h2 => absurd hc (by (try simp only [e0, e1, e2, e3, e4, e5] at h2); omega), fun h2 => absurd hc (by (try simp only [e0, e1, e2, e3, e4, e5] at h2); omega)⟩⟩
    · obtain ⟨v, s, hp, hr⟩ := t1 P (h.2.1 hc)
      try simp only [e0, e1, e2, e3, e4, e5] at hc
      exact ⟨v, s, hp, fun Q hq => ⟨fun h2 => absurd hc (by (try simp only [e0, e1, e2, e3, e4, e5] at h2); omega), fun _ => hr Q hq, fun h2 => absurd hc (by (try simp only [e0, e1, e2, e3, e4, e5] at h2); omega), fun h2 => absurd hc (by (try simp only [e0, e1, e2, e3, e4, e5] at h2); omega), fun h2 => absurd hc (by (try simp only [e0, e1, e2, e3, e4, e5] at h2); omega), fun h2 => absurd hc (by (try simp only [e0, e1, e2, e3, e4, e5] at h2); omega), fun h2 => absurd hc (by (try simp only [e0, e1, e2, e3, e4, e5] at h2); omega)⟩⟩
    · obtain ⟨v, s, hp, hr⟩ := t2 P (h.2.2.1 hc)
      try simp only [e0, e1, e2, e3, e4, e5] at hc
      exact ⟨v, s, hp, fun Q hq => ⟨fun h2 => absurd hc (by (try simp only [e0, e1, e2, e3, e4, e5] at h2); omega), fun h2 => absurd hc (by (try simp only [e0, e1, e2, e3, e4, e5] at h2); omega), fun _ => hr Q hq, fun h2 => absurd hc (by (try simp only [e0, e1, e2, e3, e4, e5] at h2); omega), fun h2 => absurd hc (by (try simp only [e0, e1, e2, e3, e4, e5] at h2); omega), fun h2 => absurd hc (by (try simp only [e0, e1, e2, e3, e4, e5] at h2); omega), fun h2 => absurd hc (by (try simp only [e0, e1, e2, e3, e4, e5] at h2); omega)⟩⟩
    · obtain ⟨v, s, hp, hr⟩ := t3 P (h.2.2.2.1 hc)
      try simp only [e0, e1, e2, e3, e4, e5] at hc
      exact ⟨v, s, hp, fun Q hq => ⟨fun h2 => absurd hc (by (try simp only [e0, e1, e2, e3, e4, e5] at h2); omega), fun h2 => absurd hc (by (try simp only [e0, e1, e2, e3, e4, e5] at h2); omega), fun h2 => absurd hc (by (try simp only [e0, e1, e2, e3, e4, e5] at h2); omega), fun _ => hr Q hq, fun h2 => absurd hc (by (try simp only [e0, e1, e2, e3, e4, e5] at h2); omega), fun h2 => absurd hc (by (try simp only [e0, e1, e2, e3, e4, e5] at h2); omega), fun h2 => absurd hc (by (try simp only [e0, e1, e2, e3, e4, e5] at h2); omega)⟩⟩
    · obtain ⟨v, s, hp, hr⟩ := t4 P (h.2.2.2.2.1 hc)
      try simp only [e0, e1, e2, e3, e4, e5] at hc
      exact ⟨v, s, hp, fun Q hq => ⟨fun h2 => absurd hc (by (try simp only [e0, e1, e2, e3, e4, e5] at h2); omega), fun h2 => absurd hc (by (try simp only [e0, e1, e2, e3, e4, e5] at h2); omega), fun h2 => absurd hc (by (try simp only [e0, e1, e2, e3, e4, e5] at h2); omega), fun h2 => absurd hc (by (try simp only [e0, e1, e2, e3, e4, e5] at h2); omega), fun _ => hr Q hq, fun h2 => absurd hc (by (try simp only [e0, e1, e2, e3, e4, e5] at h2); omega), fun h2 => absurd hc (by (try simp only [e0, e1, e2, e3, e4, e5] at h2); omega)⟩⟩
    · obtain ⟨v, s, hp, hr⟩ := t5 P (h.2.2.2.2.2.1 hc)
      try simp only [e0, e1, e2, e3, e4, e5] at hc
      exact ⟨v, s, hp, fun Q hq => ⟨fun h2 => absurd hc (by (try simp only [e0, e1, e2, e3, e4, e5] at h2); omega), fun h2 => absurd hc (by (try simp only [e0, e1, e2, e3, e4, e5] at h2); omega), fun h2 => absurd hc (by (try simp only [e0, e1, e2, e3, e4, e5] at h2); omega), fun h2 => absurd hc (by (try simp only [e0, e1, e2, e3, e4, e5] at h2); omega), fun h2 => absurd hc (by (try simp only [e0, e1, e2, e3, e4, e5] at h2); omega), fun _ => hr Q hq, fun h2 => absurd hc (by (try simp only [e0, e1, e2, e3, e4, e5] at h2); omega)⟩⟩
    · obtain ⟨v, s, hp, hr⟩ := t6 P (h.2.2.2.2.2.2 hc)
      try simp only [e0, e1, e2, e3, e4, e5] at hc
      exact ⟨v, s, hp, fun Q hq => ⟨fun h2 => absurd hc (by (try simp only [e0, e1, e2, e3, e4, e5] at h2); omega), fun h2 => absurd hc (by (try simp only [e0, e1, e2, e3, e4, e5] at h2); omega), fun h2 => absurd hc (by (try simp only [e0, e1, e2, e3, e4, e5] at h2); omega), fun h2 => absurd hc (by (try simp only [e0, e1, e2, e3, e4, e5] at h2); omega), fun h2 => absurd hc (by (try simp only [e0, e1, e2, e3, e4, e5] at h2); omega), fun h2 => absurd hc (by (try simp only [e0, e1, e2, e3, e4, e5] at h2); omega), fun _ => hr Q hq⟩⟩) lf2)))
set_option maxRecDepth 100000 in
set_option maxHeartbeats 4000000 in
theorem drb_X12_wordAt_26 (S : r_S) : dt2 (fun Q => rb_X12_wordAt_26   S Q) := by
  unfold rb_X12_wordAt_26
  exact lf2
set_option maxRecDepth 100000 in
set_option maxHeartbeats 4000000 in
theorem drb_X12_wordAt_57 (S : r_S) (xs0 : Int32) : dt2 (fun Q => rb_X12_wordAt_57   S xs0 Q) := by
  unfold rb_X12_wordAt_57
  exact lf2
set_option maxRecDepth 100000 in
set_option maxHeartbeats 4000000 in
theorem drm_X12_wordAt (S : r_S) (x1 : Int32) (x2 : Int32) : dt2 (fun Q => rm_X12_wordAt   S x1 x2 Q) := by
  unfold rm_X12_wordAt
  exact (b22 (drm_X12_isChannel _ _) fun r2_ S3_ => (exi2 fun x4_ => (if2 (drb_X12_wordAt_26 _) (if2 (drb_X12_wordAt_26 _) (b22 (drm_X12_wordsOf _ _) fun r8_ S9_ => (exi2 fun x10_ => (if2 (gd2 (if2 (gd2 (drb_X12_wordAt_57 _ _)) (gd2 (drb_X12_wordAt_57 _ _)))) (drb_X12_wordAt_26 _))))))))
set_option maxRecDepth 100000 in
set_option maxHeartbeats 4000000 in
theorem drb_X12_trace_47 (S : r_S) (xs0 : Int32) : dt2 (fun Q => rb_X12_trace_47   S xs0 Q) := by
  unfold rb_X12_trace_47
  exact lf2
set_option maxRecDepth 100000 in
set_option maxHeartbeats 4000000 in
theorem drb_X12_trace_33 (S : r_S) : dt2 (fun Q => rb_X12_trace_33   S Q) := by
  unfold rb_X12_trace_33
  exact (drb_X12_trace_47 _ _)
set_option maxRecDepth 100000 in
set_option maxHeartbeats 4000000 in
theorem drm_X12_trace (S : r_S) (x1 : Int32) (x2 : Int32) : dt2 (fun Q => rm_X12_trace   S x1 x2 Q) := by
  unfold rm_X12_trace
  exact (if2 (drb_X12_trace_33 _) (if2 (drb_X12_trace_33 _) (if2 (drb_X12_trace_33 _) (if2 (drb_X12_trace_33 _) (if2 (gd2 (drb_X12_trace_47 _ _)) (drb_X12_trace_33 _))))))
set_option maxRecDepth 100000 in
set_option maxHeartbeats 4000000 in
theorem drb_X12_error_32 (S : r_S) : dt2 (fun Q => rb_X12_error_32   S Q) := by
  unfold rb_X12_error_32
  exact lf2
set_option maxRecDepth 100000 in
set_option maxHeartbeats 4000000 in
theorem drm_X12_error (S : r_S) (x1 : Int32) (x2 : Int32) : dt2 (fun Q => rm_X12_error   S x1 x2 Q) := by
  unfold rm_X12_error
  exact (if2 (drb_X12_error_32 _) (if2 (drb_X12_error_32 _) (if2 (drb_X12_error_32 _) (if2 (drb_X12_error_32 _) (if2 (gd2 lf2) (drb_X12_error_32 _))))))
set_option maxRecDepth 100000 in
set_option maxHeartbeats 4000000 in
theorem drb_X12_about_95 (S : r_S) (xs0 : Int32) : dt2 (fun Q => rb_X12_about_95   S xs0 Q) := by
  unfold rb_X12_about_95
  exact lf2
set_option maxRecDepth 100000 in
set_option maxHeartbeats 4000000 in
theorem drm_X12_about (S : r_S) (x1 : Int32) : dt2 (fun Q => rm_X12_about   S x1 Q) := by
  unfold rm_X12_about
  exact (by
    have e0 : (x1 = (0 : Int32)) ↔ (x1).toInt = 0 := sw_iff (by decide)
    have e1 : (x1 = (1 : Int32)) ↔ (x1).toInt = 1 := sw_iff (by decide)
    have e2 : (x1 = (2 : Int32)) ↔ (x1).toInt = 2 := sw_iff (by decide)
    have e3 : (x1 = (3 : Int32)) ↔ (x1).toInt = 3 := sw_iff (by decide)
    have e4 : (x1 = (4 : Int32)) ↔ (x1).toInt = 4 := sw_iff (by decide)
    have e5 : (x1 = (5 : Int32)) ↔ (x1).toInt = 5 := sw_iff (by decide)
    have e6 : (x1 = (6 : Int32)) ↔ (x1).toInt = 6 := sw_iff (by decide)
    have e7 : (x1 = (7 : Int32)) ↔ (x1).toInt = 7 := sw_iff (by decide)
    have e8 : (x1 = (8 : Int32)) ↔ (x1).toInt = 8 := sw_iff (by decide)
    have e9 : (x1 = (9 : Int32)) ↔ (x1).toInt = 9 := sw_iff (by decide)
    have ex : ((x1.toInt < 0 ∨ 9 < x1.toInt)) ∨ ((x1 = (0 : Int32))) ∨ ((x1 = (1 : Int32))) ∨ ((x1 = (2 : Int32))) ∨ ((x1 = (3 : Int32))) ∨ ((x1 = (4 : Int32))) ∨ ((x1 = (5 : Int32))) ∨ ((x1 = (6 : Int32))) ∨ ((x1 = (7 : Int32))) ∨ ((x1 = (8 : Int32))) ∨ ((x1 = (9 : Int32))) := by
      simp only [e0, e1, e2, e3, e4, e5, e6, e7, e8, e9]; omega
    intro P h
    have t0 : dt2 (fun Q : Option Value → r_S → Prop => (Q (some (.int (-1 : Int32))) (rs_I S 2400 (0 : Int32)))) := lf2
    have t1 : dt2 (fun Q : Option Value → r_S → Prop => (Q (some (.int (r_I (rs_I S 2400 (0 : Int32)) 2463))) (rs_I S 2400 (0 : Int32)))) := lf2
    have t2 : dt2 (fun Q : Option Value → r_S → Prop => (Q (some (.int (r_I (rs_I S 2400 (0 : Int32)) 2509))) (rs_I S 2400 (0 : Int32)))) := lf2
    have t3 : dt2 (fun Q : Option Value → r_S → Prop => (Q (some (.int (r_I (rs_I S 2400 (0 : Int32)) 2510))) (rs_I S 2400 (0 : Int32)))) := lf2
    have t4 : dt2 (fun Q : Option Value → r_S → Prop => (((r_I (rs_I S 2400 (0 : Int32)) 2414) = 0 → (rb_X12_about_95 (rs_I S 2400 (0 : Int32)) (-1 : Int32) Q)) ∧ (¬ (r_I (rs_I S 2400 (0 : Int32)) 2414) = 0 → (rm_X12_window (rs_I S 2400 (0 : Int32)) (fun r3_ S4_ => ∃ x5_ : Int32, r3_ = some (.int x5_) ∧ (vp_in x5_ (r_N 2461) ∧ (rb_X12_about_95 S4_ (r_A S4_ 2461 x5_.toNatClampNeg) Q))))))) := (if2 (drb_X12_about_95 _ _) (b22 (drm_X12_window _) fun r3_ S4_ => (exi2 fun x5_ => (gd2 (drb_X12_about_95 _ _)))))
    have t5 : dt2 (fun Q : Option Value → r_S → Prop => (Q (some (.int (r_I (rs_I S 2400 (0 : Int32)) 2508))) (rs_I S 2400 (0 : Int32)))) := lf2
    have t6 : dt2 (fun Q : Option Value → r_S → Prop => (Q (some (.int (r_I (rs_I S 2400 (0 : Int32)) 2415))) (rs_I S 2400 (0 : Int32)))) := lf2
    have t7 : dt2 (fun Q : Option Value → r_S → Prop => (Q (some (.int (r_I (rs_I S 2400 (0 : Int32)) 2416))) (rs_I S 2400 (0 : Int32)))) := lf2
    have t8 : dt2 (fun Q : Option Value → r_S → Prop => (Q (some (.int (r_I (rs_I S 2400 (0 : Int32)) 2417))) (rs_I S 2400 (0 : Int32)))) := lf2
    have t9 : dt2 (fun Q : Option Value → r_S → Prop => (Q (some (.int (r_I (rs_I S 2400 (0 : Int32)) 2418))) (rs_I S 2400 (0 : Int32)))) := lf2
    have t10 : dt2 (fun Q : Option Value → r_S → Prop => (Q (some (.int (r_I (rs_I S 2400 (0 : Int32)) 2419))) (rs_I S 2400 (0 : Int32)))) := lf2
    rcases ex with hc | hc | hc | hc | hc | hc | hc | hc | hc | hc | hc
    · obtain ⟨v, s, hp, hr⟩ := t0 P (h.1 hc)
      try simp only [e0, e1, e2, e3, e4, e5, e6, e7, e8, e9] at hc
      exact ⟨v, s, hp, fun Q hq => ⟨fun _ => hr Q hq, fun h2 => absurd hc (by (try simp only [e0, e1, e2, e3, e4, e5, e6, e7, e8, e9] at h2); omega), fun h2 => absurd hc (by (try simp only [e0, e1, e2, e3, e4, e5, e6, e7, e8, e9] at h2); omega), fun h2 => absurd hc (by (try simp only [e0, e1, e2, e3, e4, e5, e6, e7, e8, e9] at h2); omega), fun h2 => absurd hc (by (try simp only [e0, e1, e2, e3, e4, e5, e6, e7, e8, e9] at h2); omega), fun h2 => absurd hc (by (try simp only [e0, e1, e2, e3, e4, e5, e6, e7, e8, e9] at h2); omega), fun h2 => absurd hc (by (try simp only [e0, e1, e2, e3, e4, e5, e6, e7, e8, e9] at h2); omega), fun h2 => absurd hc (by (try simp only [e0, e1, e2, e3, e4, e5, e6, e7, e8, e9] at h2); omega), fun h2 => absurd hc (by (try simp only [e0, e1, e2, e3, e4, e5, e6, e7, e8, e9] at h2); omega), fun h2 => absurd hc (by (try simp only [e0, e1, e2, e3, e4, e5, e6, e7, e8, e9] at h2); omega), fun h2 => absurd hc (by (try simp only [e0, e1, e2, e3, e4, e5, e6, e7, e8, e9] at h2); omega)⟩⟩
    · obtain ⟨v, s, hp, hr⟩ := t1 P (h.2.1 hc)
      try simp only [e0, e1, e2, e3, e4, e5, e6, e7, e8, e9] at hc
      exact ⟨v, s, hp, fun Q hq => ⟨fun h2 => absurd hc (by (try simp only [e0, e1, e2, e3, e4, e5, e6, e7, e8, e9] at h2); omega), fun _ => hr Q hq, fun h2 => absurd hc (by (try simp only [e0, e1, e2, e3, e4, e5, e6, e7, e8, e9] at h2); omega), fun h2 => absurd hc (by (try simp only [e0, e1, e2, e3, e4, e5, e6, e7, e8, e9] at h2); omega), fun h2 => absurd hc (by (try simp only [e0, e1, e2, e3, e4, e5, e6, e7, e8, e9] at h2); omega), fun h2 => absurd hc (by (try simp only [e0, e1, e2, e3, e4, e5, e6, e7, e8, e9] at h2); omega), fun h2 => absurd hc (by (try simp only [e0, e1, e2, e3, e4, e5, e6, e7, e8, e9] at h2); omega), fun h2 => absurd hc (by (try simp only [e0, e1, e2, e3, e4, e5, e6, e7, e8, e9] at h2); omega), fun h2 => absurd hc (by (try simp only [e0, e1, e2, e3, e4, e5, e6, e7, e8, e9] at h2); omega), fun h2 => absurd hc (by (try simp only [e0, e1, e2, e3, e4, e5, e6, e7, e8, e9] at h2); omega), fun h2 => absurd hc (by (try simp only [e0, e1, e2, e3, e4, e5, e6, e7, e8, e9] at h2); omega)⟩⟩
    · obtain ⟨v, s, hp, hr⟩ := t2 P (h.2.2.1 hc)
      try simp only [e0, e1, e2, e3, e4, e5, e6, e7, e8, e9] at hc
      exact ⟨v, s, hp, fun Q hq => ⟨fun h2 => absurd hc (by (try simp only [e0, e1, e2, e3, e4, e5, e6, e7, e8, e9] at h2); omega), fun h2 => absurd hc (by (try simp only [e0, e1, e2, e3, e4, e5, e6, e7, e8, e9] at h2); omega), fun _ => hr Q hq, fun h2 => absurd hc (by (try simp only [e0, e1, e2, e3, e4, e5, e6, e7, e8, e9] at h2); omega), fun h2 => absurd hc (by (try simp only [e0, e1, e2, e3, e4, e5, e6, e7, e8, e9] at h2); omega), fun h2 => absurd hc (by (try simp only [e0, e1, e2, e3, e4, e5, e6, e7, e8, e9] at h2); omega), fun h2 => absurd hc (by (try simp only [e0, e1, e2, e3, e4, e5, e6, e7, e8, e9] at h2); omega), fun h2 => absurd hc (by (try simp only [e0, e1, e2, e3, e4, e5, e6, e7, e8, e9] at h2); omega), fun h2 => absurd hc (by (try simp only [e0, e1, e2, e3, e4, e5, e6, e7, e8, e9] at h2); omega), fun h2 => absurd hc (by (try simp only [e0, e1, e2, e3, e4, e5, e6, e7, e8, e9] at h2); omega), fun h2 => absurd hc (by (try simp only [e0, e1, e2, e3, e4, e5, e6, e7, e8, e9] at h2); omega)⟩⟩
    · obtain ⟨v, s, hp, hr⟩ := t3 P (h.2.2.2.1 hc)
      try simp only [e0, e1, e2, e3, e4, e5, e6, e7, e8, e9] at hc
      exact ⟨v, s, hp, fun Q hq => ⟨fun h2 => absurd hc (by (try simp only [e0, e1, e2, e3, e4, e5, e6, e7, e8, e9] at h2); omega), fun h2 => absurd hc (by (try simp only [e0, e1, e2, e3, e4, e5, e6, e7, e8, e9] at h2); omega), fun h2 => absurd hc (by (try simp only [e0, e1, e2, e3, e4, e5, e6, e7, e8, e9] at h2); omega), fun _ => hr Q hq, fun h2 => absurd hc (by (try simp only [e0, e1, e2, e3, e4, e5, e6, e7, e8, e9] at h2); omega), fun h2 => absurd hc (by (try simp only [e0, e1, e2, e3, e4, e5, e6, e7, e8, e9] at h2); omega), fun h2 => absurd hc (by (try simp only [e0, e1, e2, e3, e4, e5, e6, e7, e8, e9] at h2); omega), fun h2 => absurd hc (by (try simp only [e0, e1, e2, e3, e4, e5, e6, e7, e8, e9] at h2); omega), fun h2 => absurd hc (by (try simp only [e0, e1, e2, e3, e4, e5, e6, e7, e8, e9] at h2); omega), fun h2 => absurd hc (by (try simp only [e0, e1, e2, e3, e4, e5, e6, e7, e8, e9] at h2); omega), fun h2 => absurd hc (by (try simp only [e0, e1, e2, e3, e4, e5, e6, e7, e8, e9] at h2); omega)⟩⟩
    · obtain ⟨v, s, hp, hr⟩ := t4 P (h.2.2.2.2.1 hc)
      try simp only [e0, e1, e2, e3, e4, e5, e6, e7, e8, e9] at hc
      exact ⟨v, s, hp, fun Q hq => ⟨fun h2 => absurd hc (by (try simp only [e0, e1, e2, e3, e4, e5, e6, e7, e8, e9] at h2); omega), fun h2 => absurd hc (by (try simp only [e0, e1, e2, e3, e4, e5, e6, e7, e8, e9] at h2); omega), fun h2 => absurd hc (by (try simp only [e0, e1, e2, e3, e4, e5, e6, e7, e8, e9] at h2); omega), fun h2 => absurd hc (by (try simp only [e0, e1, e2, e3, e4, e5, e6, e7, e8, e9] at h2); omega), fun _ => hr Q hq, fun h2 => absurd hc (by (try simp only [e0, e1, e2, e3, e4, e5, e6, e7, e8, e9] at h2); omega), fun h2 => absurd hc (by (try simp only [e0, e1, e2, e3, e4, e5, e6, e7, e8, e9] at h2); omega), fun h2 => absurd hc (by (try simp only [e0, e1, e2, e3, e4, e5, e6, e7, e8, e9] at h2); omega), fun h2 => absurd hc (by (try simp only [e0, e1, e2, e3, e4, e5, e6, e7, e8, e9] at h2); omega), fun h2 => absurd hc (by (try simp only [e0, e1, e2, e3, e4, e5, e6, e7, e8, e9] at h2); omega), fun h2 => absurd hc (by (try simp only [e0, e1, e2, e3, e4, e5, e6, e7, e8, e9] at h2); omega)⟩⟩
    · obtain ⟨v, s, hp, hr⟩ := t5 P (h.2.2.2.2.2.1 hc)
      try simp only [e0, e1, e2, e3, e4, e5, e6, e7, e8, e9] at hc
      exact ⟨v, s, hp, fun Q hq => ⟨fun h2 => absurd hc (by (try simp only [e0, e1, e2, e3, e4, e5, e6, e7, e8, e9] at h2); omega), fun h2 => absurd hc (by (try simp only [e0, e1, e2, e3, e4, e5, e6, e7, e8, e9] at h2); omega), fun h2 => absurd hc (by (try simp only [e0, e1, e2, e3, e4, e5, e6, e7, e8, e9] at h2); omega), fun h2 => absurd hc (by (try simp only [e0, e1, e2, e3, e4, e5, e6, e7, e8, e9] at h2); omega), fun h2 => absurd hc (by (try simp only [e0, e1, e2, e3, e4, e5, e6, e7, e8, e9] at h2); omega), fun _ => hr Q hq, fun h2 => absurd hc (by (try simp only [e0, e1, e2, e3, e4, e5, e6, e7, e8, e9] at h2); omega), fun h2 => absurd hc (by (try simp only [e0, e1, e2, e3, e4, e5, e6, e7, e8, e9] at h2); omega), fun h2 => absurd hc (by (try simp only [e0, e1, e2, e3, e4, e5, e6, e7, e8, e9] at h2); omega), fun h2 => absurd hc (by (try simp only [e0, e1, e2, e3, e4, e5, e6, e7, e8, e9] at h2); omega), fun h2 => absurd hc (by (try simp only [e0, e1, e2, e3, e4, e5, e6, e7, e8, e9] at h2); omega)⟩⟩
    · obtain ⟨v, s, hp, hr⟩ := t6 P (h.2.2.2.2.2.2.1 hc)
      try simp only [e0, e1, e2, e3, e4, e5, e6, e7, e8, e9] at hc
      exact ⟨v, s, hp, fun Q hq => ⟨fun h2 => absurd hc (by (try simp only [e0, e1, e2, e3, e4, e5, e6, e7, e8, e9] at h2); omega), fun h2 => absurd hc (by (try simp only [e0, e1, e2, e3, e4, e5, e6, e7, e8, e9] at h2); omega), fun h2 => absurd hc (by (try simp only [e0, e1, e2, e3, e4, e5, e6, e7, e8, e9] at h2); omega), fun h2 => absurd hc (by (try simp only [e0, e1, e2, e3, e4, e5, e6, e7, e8, e9] at h2); omega), fun h2 => absurd hc (by (try simp only [e0, e1, e2, e3, e4, e5, e6, e7, e8, e9] at h2); omega), fun h2 => absurd hc (by (try simp only [e0, e1, e2, e3, e4, e5, e6, e7, e8, e9] at h2); omega), fun _ => hr Q hq, fun h2 => absurd hc (by (try simp only [e0, e1, e2, e3, e4, e5, e6, e7, e8, e9] at h2); omega), fun h2 => absurd hc (by (try simp only [e0, e1, e2, e3, e4, e5, e6, e7, e8, e9] at h2); omega), fun h2 => absurd hc (by (try simp only [e0, e1, e2, e3, e4, e5, e6, e7, e8, e9] at h2); omega), fun h2 => absurd hc (by (try simp only [e0, e1, e2, e3, e4, e5, e6, e7, e8, e9] at h2); omega)⟩⟩
    · obtain ⟨v, s, hp, hr⟩ := t7 P (h.2.2.2.2.2.2.2.1 hc)
      try simp only [e0, e1, e2, e3, e4, e5, e6, e7, e8, e9] at hc
      exact ⟨v, s, hp, fun Q hq => ⟨fun h2 => absurd hc (by (try simp only [e0, e1, e2, e3, e4, e5, e6, e7, e8, e9] at h2); omega), fun h2 => absurd hc (by (try simp only [e0, e1, e2, e3, e4, e5, e6, e7, e8, e9] at h2); omega), fun h2 => absurd hc (by (try simp only [e0, e1, e2, e3, e4, e5, e6, e7, e8, e9] at h2); omega), fun h2 => absurd hc (by (try simp only [e0, e1, e2, e3, e4, e5, e6, e7, e8, e9] at h2); omega), fun h2 => absurd hc (by (try simp only [e0, e1, e2, e3, e4, e5, e6, e7, e8, e9] at h2); omega), fun h2 => absurd hc (by (try simp only [e0, e1, e2, e3, e4, e5, e6, e7, e8, e9] at h2); omega), fun h2 => absurd hc (by (try simp only [e0, e1, e2, e3, e4, e5, e6, e7, e8, e9] at h2); omega), fun _ => hr Q hq, fun h2 => absurd hc (by (try simp only [e0, e1, e2, e3, e4, e5, e6, e7, e8, e9] at h2); omega), fun h2 => absurd hc (by (try simp only [e0, e1, e2, e3, e4, e5, e6, e7, e8, e9] at h2); omega), fun h2 => absurd hc (by (try simp only [e0, e1, e2, e3, e4, e5, e6, e7, e8, e9] at h2); omega)⟩⟩
    · obtain ⟨v, s, hp, hr⟩ := t8 P (h.2.2.2.2.2.2.2.2.1 hc)
      try simp only [e0, e1, e2, e3, e4, e5, e6, e7, e8, e9] at hc
      exact ⟨v, s, hp, fun Q hq => ⟨fun h2 => absurd hc (by (try simp only [e0, e1, e2, e3, e4, e5, e6, e7, e8, e9] at h2); omega), fun h2 => absurd hc (by (try simp only [e0, e1, e2, e3, e4, e5, e6, e7, e8, e9] at h2); omega), fun h2 => absurd hc (by (try simp only [e0, e1, e2, e3, e4, e5, e6, e7, e8, e9] at h2); omega), fun h2 => absurd hc (by (try simp only [e0, e1, e2, e3, e4, e5, e6, e7, e8, e9] at h2); omega), fun h2 => absurd hc (by (try simp only [e0, e1, e2, e3, e4, e5, e6, e7, e8, e9] at h2); omega), fun h2 => absurd hc (by (try simp only [e0, e1, e2, e3, e4, e5, e6, e7, e8, e9] at h2); omega), fun h2 => absurd hc (by (try simp only [e0, e1, e2, e3, e4, e5, e6, e7, e8, e9] at h2); omega), fun h2 => absurd hc (by (try simp only [e0, e1, e2, e3, e4, e5, e6, e7, e8, e9] at h2); omega), fun _ => hr Q hq, fun h2 => absurd hc (by (try simp only [e0, e1, e2, e3, e4, e5, e6, e7, e8, e9] at h2); omega), fun h2 => absurd hc (by (try simp only [e0, e1, e2, e3, e4, e5, e6, e7, e8, e9] at h2); omega)⟩⟩
    · obtain ⟨v, s, hp, hr⟩ := t9 P (h.2.2.2.2.2.2.2.2.2.1 hc)
      try simp only [e0, e1, e2, e3, e4, e5, e6, e7, e8, e9] at hc
      exact ⟨v, s, hp, fun Q hq => ⟨fun h2 => absurd hc (by (try simp only [e0, e1, e2, e3, e4, e5, e6, e7, e8, e9] at h2); omega), fun h2 => absurd hc (by (try simp only [e0, e1, e2, e3, e4, e5, e6, e7, e8, e9] at h2); omega), fun h2 => absurd hc (by (try simp only [e0, e1, e2, e3, e4, e5, e6, e7, e8, e9] at h2); omega), fun h2 => absurd hc (by (try simp only [e0, e1, e2, e3, e4, e5, e6, e7, e8, e9] at h2); omega), fun h2 => absurd hc (by (try simp only [e0, e1, e2, e3, e4, e5, e6, e7, e8, e9] at h2); omega), fun h2 => absurd hc (by (try simp only [e0, e1, e2, e3, e4, e5, e6, e7, e8, e9] at h2); omega), fun h2 => absurd hc (by (try simp only [e0, e1, e2, e3, e4, e5, e6, e7, e8, e9] at h2); omega), fun h2 => absurd hc (by (try simp only [e0, e1, e2, e3, e4, e5, e6, e7, e8, e9] at h2); omega), fun h2 => absurd hc (by (try simp only [e0, e1, e2, e3, e4, e5, e6, e7, e8, e9] at h2); omega), fun _ => hr Q hq, fun h2 => absurd hc (by (try simp only [e0, e1, e2, e3, e4, e5, e6, e7, e8, e9] at h2); omega)⟩⟩
    · obtain ⟨v, s, hp, hr⟩ := t10 P (h.2.2.2.2.2.2.2.2.2.2 hc)
      try simp only [e0, e1, e2, e3, e4, e5, e6, e7, e8, e9] at hc
      exact ⟨v, s, hp, fun Q hq => ⟨fun h2 => absurd hc (by (try simp only [e0, e1, e2, e3, e4, e5, e6, e7, e8, e9] at h2); omega), fun h2 => absurd hc (by (try simp only [e0, e1, e2, e3, e4, e5, e6, e7, e8, e9] at h2); omega), fun h2 => absurd hc (by (try simp only [e0, e1, e2, e3, e4, e5, e6, e7, e8, e9] at h2); omega), fun h2 => absurd hc (by (try simp only [e0, e1, e2, e3, e4, e5, e6, e7, e8, e9] at h2); omega), fun h2 => absurd hc (by (try simp only [e0, e1, e2, e3, e4, e5, e6, e7, e8, e9] at h2); omega), fun h2 => absurd hc (by (try simp only [e0, e1, e2, e3, e4, e5, e6, e7, e8, e9] at h2); omega), fun h2 => absurd hc (by (try simp only [e0, e1, e2, e3, e4, e5, e6, e7, e8, e9] at h2); omega), fun h2 => absurd hc (by (try simp only [e0, e1, e2, e3, e4, e5, e6, e7, e8, e9] at h2); omega), fun h2 => absurd hc (by (try simp only [e0, e1, e2, e3, e4, e5, e6, e7, e8, e9] at h2); omega), fun h2 => absurd hc (by (try simp only [e0, e1, e2, e3, e4, e5, e6, e7, e8, e9] at h2); omega), fun _ => hr Q hq⟩⟩)
