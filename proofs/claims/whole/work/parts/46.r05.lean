def rb_X12_decides_29 (S : r_S) (Q : Option Value → r_S → Prop) : Prop := Q (some (.int (1 : Int32))) S
set_option maxRecDepth 100000 in
set_option maxHeartbeats 4000000 in
theorem eb_X12_decides_29 {m : Nat} {ad : Nat → Nat} {fo : Nat → Option Nat} {st : Nat → Nat} {S0 : q_S} (w : r_WF m ad fo st S0)  (S : r_S) (Q : Option Value → q_S → Prop) : wb_X12_decides_29 (r_E m fo S S0) Q ↔ rb_X12_decides_29 S (fun r S => Q r (r_E m fo S S0)) := by
  unfold wb_X12_decides_29 rb_X12_decides_29
  simp only [r_eK, r_eI, r_eIs, r_eP, r_eN, true_and, Option.some.injEq, exists_eq_left', r_all, w.1]
def rb_X12_decides_97 (S : r_S) (x1 : Int32) (Q : Option Value → r_S → Prop) : Prop := vp_in x1 (r_N 2488) ∧ (Q (some (.int (0 : Int32))) (rs_A S 2488 x1.toNatClampNeg (-1 : Int32)))
set_option maxRecDepth 100000 in
set_option maxHeartbeats 4000000 in
theorem eb_X12_decides_97 {m : Nat} {ad : Nat → Nat} {fo : Nat → Option Nat} {st : Nat → Nat} {S0 : q_S} (w : r_WF m ad fo st S0)  (S : r_S) (x1 : Int32) (Q : Option Value → q_S → Prop) : wb_X12_decides_97 (r_E m fo S S0) m x1 Q ↔ rb_X12_decides_97 S x1 (fun r S => Q r (r_E m fo S S0)) := by
  unfold wb_X12_decides_97 rb_X12_decides_97
  simp only [r_eK, r_eI, r_eIs, r_eP, r_eN, true_and, Option.some.injEq, exists_eq_left', r_all, w.1, r_w1 w 2488 rfl, r_w2 w 2488 21 rfl rfl, r_w3 w 2488 rfl, r_eA w 2488 rfl, r_eAs w 2488 rfl]
def rb_X12_decides_64 (S : r_S) (x1 : Int32) (x4 : Int32) (Q : Option Value → r_S → Prop) : Prop := rm_X12_isReady S x4 (fun r7_ S8_ => r7_ = none ∧ (rb_X12_decides_97 S8_ x1 Q))
set_option maxRecDepth 100000 in
set_option maxHeartbeats 4000000 in
theorem eb_X12_decides_64 {m : Nat} {ad : Nat → Nat} {fo : Nat → Option Nat} {st : Nat → Nat} {S0 : q_S} (w : r_WF m ad fo st S0)  (S : r_S) (x1 : Int32) (x4 : Int32) (Q : Option Value → q_S → Prop) : wb_X12_decides_64 (r_E m fo S S0) m x1 x4 Q ↔ rb_X12_decides_64 S x1 x4 (fun r S => Q r (r_E m fo S S0)) := by
  unfold wb_X12_decides_64 rb_X12_decides_64
  simp only [r_eK, r_eI, r_eIs, r_eP, r_eN, true_and, Option.some.injEq, exists_eq_left', r_all, w.1, eb_X12_decides_97 w, em_X12_isReady w]
def rm_X12_decides (S : r_S) (x1 : Int32) (x2 : Int32) (x3 : Int32) (Q : Option Value → r_S → Prop) : Prop := rm_X12_isHandler S x2 (fun r10_ S11_ => ∃ x12_ : Int32, r10_ = some (.int x12_) ∧ ((¬ x12_ = 0 → (rm_X12_isFaulted S11_ x1 (fun r15_ S16_ => ∃ x17_ : Int32, r15_ = some (.int x17_) ∧ ((¬ x17_ = 0 → ((x3 < 0 → (rb_X12_decides_29 S16_ Q)) ∧ (¬ x3 < 0 → ((x3 ≤ (2 : Int32) → (vp_in x1 (r_N 2488) ∧ ((¬ x3 = 0 → ((¬ x3 = (1 : Int32) → (rm_X12_startsAt S16_ (r_A S16_ 2488 x1.toNatClampNeg) (r_I S16_ 2463) (fun r28_ S29_ => r28_ = none ∧ (rb_X12_decides_97 S29_ x1 Q)))) ∧ (x3 = (1 : Int32) → (rm_X12_dormant S16_ (r_A S16_ 2488 x1.toNatClampNeg) (fun r30_ S31_ => r30_ = none ∧ (rb_X12_decides_97 S31_ x1 Q)))))) ∧ (x3 = 0 → (vp_in x1 (r_N 2489) ∧ (((r_A S16_ 2489 x1.toNatClampNeg) = (2 : Int32) → (rb_X12_decides_64 S16_ x1 (r_A S16_ 2488 x1.toNatClampNeg) Q)) ∧ (¬ (r_A S16_ 2489 x1.toNatClampNeg) = (2 : Int32) → (vp_in (r_A S16_ 2488 x1.toNatClampNeg) (r_N 2468) ∧ (vp_in (r_A S16_ 2488 x1.toNatClampNeg) (r_N 2468) ∧ (rb_X12_decides_64 (rs_A S16_ 2468 (r_A S16_ 2488 x1.toNatClampNeg).toNatClampNeg ((r_A S16_ 2468 (r_A S16_ 2488 x1.toNatClampNeg).toNatClampNeg) + (4 : Int32))) x1 (r_A S16_ 2488 x1.toNatClampNeg) Q)))))))))) ∧ (¬ x3 ≤ (2 : Int32) → (rb_X12_decides_29 S16_ Q)))))) ∧ (x17_ = 0 → (Q (some (.int (2 : Int32))) S16_)))))) ∧ (x12_ = 0 → (Q (some (.int (3 : Int32))) S11_))))
set_option maxRecDepth 100000 in
set_option maxHeartbeats 4000000 in
theorem em_X12_decides {m : Nat} {ad : Nat → Nat} {fo : Nat → Option Nat} {st : Nat → Nat} {S0 : q_S} (w : r_WF m ad fo st S0)  (S : r_S) (x1 : Int32) (x2 : Int32) (x3 : Int32) (Q : Option Value → q_S → Prop) : wm_X12_decides (r_E m fo S S0) m x1 x2 x3 Q ↔ rm_X12_decides S x1 x2 x3 (fun r S => Q r (r_E m fo S S0)) := by
  unfold wm_X12_decides rm_X12_decides
  simp only [r_eK, r_eI, r_eIs, r_eP, r_eN, true_and, Option.some.injEq, exists_eq_left', r_all, w.1, r_w1 w 2468 rfl, r_w2 w 2468 21 rfl rfl, r_w3 w 2468 rfl, r_eA w 2468 rfl, r_eAs w 2468 rfl, r_w1 w 2488 rfl, r_w2 w 2488 21 rfl rfl, r_w3 w 2488 rfl, r_eA w 2488 rfl, r_eAs w 2488 rfl, r_w1 w 2489 rfl, r_w2 w 2489 21 rfl rfl, r_w3 w 2489 rfl, r_eA w 2489 rfl, r_eAs w 2489 rfl, eb_X12_decides_29 w, eb_X12_decides_64 w, eb_X12_decides_97 w, em_X12_dormant w, em_X12_isFaulted w, em_X12_isHandler w, em_X12_startsAt w]
def rb_X12_ofPorts_279 (S : r_S) (x2 : Int32) (x3 : Int32) (Q : Option Value → r_S → Prop) : Prop := vp_in x2 (r_N 2490) ∧ (vp_in (((32 : Int32) * x3) + (13 : Int32)) (r_N 2477) ∧ (Q (some (.int (-1 : Int32))) (rs_A S 2477 (((32 : Int32) * x3) + (13 : Int32)).toNatClampNeg (r_A S 2490 x2.toNatClampNeg))))
set_option maxRecDepth 100000 in
set_option maxHeartbeats 4000000 in
theorem eb_X12_ofPorts_279 {m : Nat} {ad : Nat → Nat} {fo : Nat → Option Nat} {st : Nat → Nat} {S0 : q_S} (w : r_WF m ad fo st S0)  (S : r_S) (x2 : Int32) (x3 : Int32) (Q : Option Value → q_S → Prop) : wb_X12_ofPorts_279 (r_E m fo S S0) m x2 x3 Q ↔ rb_X12_ofPorts_279 S x2 x3 (fun r S => Q r (r_E m fo S S0)) := by
  unfold wb_X12_ofPorts_279 rb_X12_ofPorts_279
  simp only [r_eK, r_eI, r_eIs, r_eP, r_eN, true_and, Option.some.injEq, exists_eq_left', r_all, w.1, r_w1 w 2477 rfl, r_w2 w 2477 21 rfl rfl, r_w3 w 2477 rfl, r_eA w 2477 rfl, r_eAs w 2477 rfl, r_w1 w 2490 rfl, r_w2 w 2490 21 rfl rfl, r_w3 w 2490 rfl, r_eA w 2490 rfl, r_eAs w 2490 rfl]
def rb_X12_ofPorts_235 (S : r_S) (x2 : Int32) (x3 : Int32) (Q : Option Value → r_S → Prop) : Prop := vp_in x2 (r_N 2488) ∧ (vp_in (((32 : Int32) * x3) + (11 : Int32)) (r_N 2477) ∧ (vp_in x2 (r_N 2488) ∧ (vp_in (r_A (rs_A S 2477 (((32 : Int32) * x3) + (11 : Int32)).toNatClampNeg ((r_A S 2488 x2.toNatClampNeg) - (r_A S 2488 x2.toNatClampNeg) / (16 : Int32) * (16 : Int32))) 2488 x2.toNatClampNeg) (r_N 2468) ∧ (vp_in (((32 : Int32) * x3) + (12 : Int32)) (r_N 2477) ∧ (∀ S31_ : r_S, S31_ = (rs_A (rs_A S 2477 (((32 : Int32) * x3) + (11 : Int32)).toNatClampNeg ((r_A S 2488 x2.toNatClampNeg) - (r_A S 2488 x2.toNatClampNeg) / (16 : Int32) * (16 : Int32))) 2477 (((32 : Int32) * x3) + (12 : Int32)).toNatClampNeg (r_A (rs_A S 2477 (((32 : Int32) * x3) + (11 : Int32)).toNatClampNeg ((r_A S 2488 x2.toNatClampNeg) - (r_A S 2488 x2.toNatClampNeg) / (16 : Int32) * (16 : Int32))) 2468 (r_A (rs_A S 2477 (((32 : Int32) * x3) + (11 : Int32)).toNatClampNeg ((r_A S 2488 x2.toNatClampNeg) - (r_A S 2488 x2.toNatClampNeg) / (16 : Int32) * (16 : Int32))) 2488 x2.toNatClampNeg).toNatClampNeg)) → (rb_X12_ofPorts_279 S31_ x2 x3 Q))))))
set_option maxRecDepth 100000 in
set_option maxHeartbeats 4000000 in
theorem eb_X12_ofPorts_235 {m : Nat} {ad : Nat → Nat} {fo : Nat → Option Nat} {st : Nat → Nat} {S0 : q_S} (w : r_WF m ad fo st S0)  (S : r_S) (x2 : Int32) (x3 : Int32) (Q : Option Value → q_S → Prop) : wb_X12_ofPorts_235 (r_E m fo S S0) m x2 x3 Q ↔ rb_X12_ofPorts_235 S x2 x3 (fun r S => Q r (r_E m fo S S0)) := by
  unfold wb_X12_ofPorts_235 rb_X12_ofPorts_235
  simp only [r_eK, r_eI, r_eIs, r_eP, r_eN, true_and, Option.some.injEq, exists_eq_left', r_all, w.1, r_w1 w 2468 rfl, r_w2 w 2468 21 rfl rfl, r_w3 w 2468 rfl, r_eA w 2468 rfl, r_eAs w 2468 rfl, r_w1 w 2477 rfl, r_w2 w 2477 21 rfl rfl, r_w3 w 2477 rfl, r_eA w 2477 rfl, r_eAs w 2477 rfl, r_w1 w 2488 rfl, r_w2 w 2488 21 rfl rfl, r_w3 w 2488 rfl, r_eA w 2488 rfl, r_eAs w 2488 rfl, eb_X12_ofPorts_279 w]
def rb_X12_ofPorts_197 (S : r_S) (x2 : Int32) (x3 : Int32) (Q : Option Value → r_S → Prop) : Prop := rm_X12_isHandler S x3 (fun r33_ S34_ => ∃ x35_ : Int32, r33_ = some (.int x35_) ∧ ((¬ x35_ = 0 → (rm_X12_isFaulted S34_ x2 (fun r38_ S39_ => ∃ x40_ : Int32, r38_ = some (.int x40_) ∧ ((¬ x40_ = 0 → (vp_in x2 (r_N 2489) ∧ (vp_in (((32 : Int32) * x3) + (10 : Int32)) (r_N 2477) ∧ (rb_X12_ofPorts_235 (rs_A S39_ 2477 (((32 : Int32) * x3) + (10 : Int32)).toNatClampNeg (r_A S39_ 2489 x2.toNatClampNeg)) x2 x3 Q)))) ∧ (x40_ = 0 → (Q (some (.int (2 : Int32))) S39_)))))) ∧ (x35_ = 0 → (Q (some (.int (3 : Int32))) S34_))))
set_option maxRecDepth 100000 in
set_option maxHeartbeats 4000000 in
theorem eb_X12_ofPorts_197 {m : Nat} {ad : Nat → Nat} {fo : Nat → Option Nat} {st : Nat → Nat} {S0 : q_S} (w : r_WF m ad fo st S0)  (S : r_S) (x2 : Int32) (x3 : Int32) (Q : Option Value → q_S → Prop) : wb_X12_ofPorts_197 (r_E m fo S S0) m x2 x3 Q ↔ rb_X12_ofPorts_197 S x2 x3 (fun r S => Q r (r_E m fo S S0)) := by
  unfold wb_X12_ofPorts_197 rb_X12_ofPorts_197
  simp only [r_eK, r_eI, r_eIs, r_eP, r_eN, true_and, Option.some.injEq, exists_eq_left', r_all, w.1, r_w1 w 2477 rfl, r_w2 w 2477 21 rfl rfl, r_w3 w 2477 rfl, r_eA w 2477 rfl, r_eAs w 2477 rfl, r_w1 w 2489 rfl, r_w2 w 2489 21 rfl rfl, r_w3 w 2489 rfl, r_eA w 2489 rfl, r_eAs w 2489 rfl, eb_X12_ofPorts_235 w, em_X12_isFaulted w, em_X12_isHandler w]
def rb_X12_ofPorts_154 (S : r_S) (Q : Option Value → r_S → Prop) : Prop := Q (some (.int (1 : Int32))) S
set_option maxRecDepth 100000 in
set_option maxHeartbeats 4000000 in
theorem eb_X12_ofPorts_154 {m : Nat} {ad : Nat → Nat} {fo : Nat → Option Nat} {st : Nat → Nat} {S0 : q_S} (w : r_WF m ad fo st S0)  (S : r_S) (Q : Option Value → q_S → Prop) : wb_X12_ofPorts_154 (r_E m fo S S0) Q ↔ rb_X12_ofPorts_154 S (fun r S => Q r (r_E m fo S S0)) := by
  unfold wb_X12_ofPorts_154 rb_X12_ofPorts_154
  simp only [r_eK, r_eI, r_eIs, r_eP, r_eN, true_and, Option.some.injEq, exists_eq_left', r_all, w.1]
def rb_X12_ofPorts_190 (S : r_S) (Q : Option Value → r_S → Prop) : Prop := Q (some (.int (-1 : Int32))) (rs_I S 2513 (1 : Int32))
set_option maxRecDepth 100000 in
set_option maxHeartbeats 4000000 in
theorem eb_X12_ofPorts_190 {m : Nat} {ad : Nat → Nat} {fo : Nat → Option Nat} {st : Nat → Nat} {S0 : q_S} (w : r_WF m ad fo st S0)  (S : r_S) (Q : Option Value → q_S → Prop) : wb_X12_ofPorts_190 (r_E m fo S S0) m Q ↔ rb_X12_ofPorts_190 S (fun r S => Q r (r_E m fo S S0)) := by
  unfold wb_X12_ofPorts_190 rb_X12_ofPorts_190
  simp only [r_eK, r_eI, r_eIs, r_eP, r_eN, true_and, Option.some.injEq, exists_eq_left', r_all, w.1]
def rb_X12_ofPorts_187 (S : r_S) (xs1 : Int32) (xs2 : Int32) (xs3 : Int32) (Q : Option Value → r_S → Prop) : Prop := rm_X12_begins S xs1 xs2 xs3 (fun r53_ S54_ => r53_ = none ∧ (rb_X12_ofPorts_190 S54_ Q))
set_option maxRecDepth 100000 in
set_option maxHeartbeats 4000000 in
theorem eb_X12_ofPorts_187 {m : Nat} {ad : Nat → Nat} {fo : Nat → Option Nat} {st : Nat → Nat} {S0 : q_S} (w : r_WF m ad fo st S0)  (S : r_S) (xs1 : Int32) (xs2 : Int32) (xs3 : Int32) (Q : Option Value → q_S → Prop) : wb_X12_ofPorts_187 (r_E m fo S S0) m m xs1 xs2 xs3 Q ↔ rb_X12_ofPorts_187 S xs1 xs2 xs3 (fun r S => Q r (r_E m fo S S0)) := by
  unfold wb_X12_ofPorts_187 rb_X12_ofPorts_187
  simp only [r_eK, r_eI, r_eIs, r_eP, r_eN, true_and, Option.some.injEq, exists_eq_left', r_all, w.1, eb_X12_ofPorts_190 w, em_X12_begins w]
def rb_X12_ofPorts_143 (S : r_S) (x2 : Int32) (x4 : Int32) (Q : Option Value → r_S → Prop) : Prop := (x4 < 0 → (rb_X12_ofPorts_154 S Q)) ∧ (¬ x4 < 0 → ((x4 ≤ (2 : Int32) → ((¬ x4 = (2 : Int32) → ((¬ x4 = (1 : Int32) → (rb_X12_ofPorts_187 S x2 (x4 + (1 : Int32)) (0 : Int32) Q)) ∧ (x4 = (1 : Int32) → (rb_X12_ofPorts_187 S x2 (x4 + (1 : Int32)) (1 : Int32) Q)))) ∧ (x4 = (2 : Int32) → (rm_X12_idle S x2 (fun r60_ S61_ => r60_ = none ∧ (rb_X12_ofPorts_190 S61_ Q)))))) ∧ (¬ x4 ≤ (2 : Int32) → (rb_X12_ofPorts_154 S Q))))
set_option maxRecDepth 100000 in
set_option maxHeartbeats 4000000 in
theorem eb_X12_ofPorts_143 {m : Nat} {ad : Nat → Nat} {fo : Nat → Option Nat} {st : Nat → Nat} {S0 : q_S} (w : r_WF m ad fo st S0)  (S : r_S) (x2 : Int32) (x4 : Int32) (Q : Option Value → q_S → Prop) : wb_X12_ofPorts_143 (r_E m fo S S0) m x2 x4 Q ↔ rb_X12_ofPorts_143 S x2 x4 (fun r S => Q r (r_E m fo S S0)) := by
  unfold wb_X12_ofPorts_143 rb_X12_ofPorts_143
  simp only [r_eK, r_eI, r_eIs, r_eP, r_eN, true_and, Option.some.injEq, exists_eq_left', r_all, w.1, eb_X12_ofPorts_154 w, eb_X12_ofPorts_187 w, eb_X12_ofPorts_190 w, em_X12_idle w]
def rb_X12_ofPorts_141 (S : r_S) (Q : Option Value → r_S → Prop) : Prop := Q (some (.int (0 : Int32))) S
set_option maxRecDepth 100000 in
set_option maxHeartbeats 4000000 in
theorem eb_X12_ofPorts_141 {m : Nat} {ad : Nat → Nat} {fo : Nat → Option Nat} {st : Nat → Nat} {S0 : q_S} (w : r_WF m ad fo st S0)  (S : r_S) (Q : Option Value → q_S → Prop) : wb_X12_ofPorts_141 (r_E m fo S S0) Q ↔ rb_X12_ofPorts_141 S (fun r S => Q r (r_E m fo S S0)) := by
  unfold wb_X12_ofPorts_141 rb_X12_ofPorts_141
  simp only [r_eK, r_eI, r_eIs, r_eP, r_eN, true_and, Option.some.injEq, exists_eq_left', r_all, w.1]
def rb_X12_ofPorts_110 (S : r_S) (x2 : Int32) (x3 : Int32) (Q : Option Value → r_S → Prop) : Prop := rm_X12_isHandler S x3 (fun r63_ S64_ => ∃ x65_ : Int32, r63_ = some (.int x65_) ∧ ((x65_ = 0 → (vp_in x2 (r_N 2486) ∧ ((¬ (r_A S64_ 2486 x2.toNatClampNeg) = 0 → (vp_in x2 (r_N 2486) ∧ (vp_in x2 (r_N 2486) ∧ (rb_X12_ofPorts_141 (rs_A S64_ 2486 x2.toNatClampNeg ((r_A S64_ 2486 x2.toNatClampNeg) - (1 : Int32))) Q)))) ∧ ((r_A S64_ 2486 x2.toNatClampNeg) = 0 → (Q (some (.int (2 : Int32))) S64_))))) ∧ (¬ x65_ = 0 → (Q (some (.int (3 : Int32))) S64_))))
set_option maxRecDepth 100000 in
set_option maxHeartbeats 4000000 in
theorem eb_X12_ofPorts_110 {m : Nat} {ad : Nat → Nat} {fo : Nat → Option Nat} {st : Nat → Nat} {S0 : q_S} (w : r_WF m ad fo st S0)  (S : r_S) (x2 : Int32) (x3 : Int32) (Q : Option Value → q_S → Prop) : wb_X12_ofPorts_110 (r_E m fo S S0) m x2 x3 Q ↔ rb_X12_ofPorts_110 S x2 x3 (fun r S => Q r (r_E m fo S S0)) := by
  unfold wb_X12_ofPorts_110 rb_X12_ofPorts_110
  simp only [r_eK, r_eI, r_eIs, r_eP, r_eN, true_and, Option.some.injEq, exists_eq_left', r_all, w.1, r_w1 w 2486 rfl, r_w2 w 2486 21 rfl rfl, r_w3 w 2486 rfl, r_eA w 2486 rfl, r_eAs w 2486 rfl, eb_X12_ofPorts_141 w, em_X12_isHandler w]
def rb_X12_ofPorts_101 (S : r_S) (x2 : Int32) (x3 : Int32) (Q : Option Value → r_S → Prop) : Prop := vp_in x2 (r_N 2487) ∧ (Q (some (.int (0 : Int32))) (rs_A S 2487 x2.toNatClampNeg x3))
set_option maxRecDepth 100000 in
set_option maxHeartbeats 4000000 in
theorem eb_X12_ofPorts_101 {m : Nat} {ad : Nat → Nat} {fo : Nat → Option Nat} {st : Nat → Nat} {S0 : q_S} (w : r_WF m ad fo st S0)  (S : r_S) (x2 : Int32) (x3 : Int32) (Q : Option Value → q_S → Prop) : wb_X12_ofPorts_101 (r_E m fo S S0) m x2 x3 Q ↔ rb_X12_ofPorts_101 S x2 x3 (fun r S => Q r (r_E m fo S S0)) := by
  unfold wb_X12_ofPorts_101 rb_X12_ofPorts_101
  simp only [r_eK, r_eI, r_eIs, r_eP, r_eN, true_and, Option.some.injEq, exists_eq_left', r_all, w.1, r_w1 w 2487 rfl, r_w2 w 2487 21 rfl rfl, r_w3 w 2487 rfl, r_eA w 2487 rfl, r_eAs w 2487 rfl]
def rb_X12_ofPorts_68 (S : r_S) (x2 : Int32) (x3 : Int32) (Q : Option Value → r_S → Prop) : Prop := rm_X12_isHandler S x3 (fun r81_ S82_ => ∃ x83_ : Int32, r81_ = some (.int x83_) ∧ ((x83_ = 0 → (vp_in x2 (r_N 2486) ∧ ((¬ (r_A S82_ 2486 x2.toNatClampNeg) = (8 : Int32) → (vp_in x2 (r_N 2486) ∧ (vp_in x2 (r_N 2486) ∧ (rb_X12_ofPorts_101 (rs_A S82_ 2486 x2.toNatClampNeg ((r_A S82_ 2486 x2.toNatClampNeg) + (1 : Int32))) x2 x3 Q)))) ∧ ((r_A S82_ 2486 x2.toNatClampNeg) = (8 : Int32) → (Q (some (.int (2 : Int32))) S82_))))) ∧ (¬ x83_ = 0 → (Q (some (.int (3 : Int32))) S82_))))
set_option maxRecDepth 100000 in
set_option maxHeartbeats 4000000 in
theorem eb_X12_ofPorts_68 {m : Nat} {ad : Nat → Nat} {fo : Nat → Option Nat} {st : Nat → Nat} {S0 : q_S} (w : r_WF m ad fo st S0)  (S : r_S) (x2 : Int32) (x3 : Int32) (Q : Option Value → q_S → Prop) : wb_X12_ofPorts_68 (r_E m fo S S0) m x2 x3 Q ↔ rb_X12_ofPorts_68 S x2 x3 (fun r S => Q r (r_E m fo S S0)) := by
  unfold wb_X12_ofPorts_68 rb_X12_ofPorts_68
  simp only [r_eK, r_eI, r_eIs, r_eP, r_eN, true_and, Option.some.injEq, exists_eq_left', r_all, w.1, r_w1 w 2486 rfl, r_w2 w 2486 21 rfl rfl, r_w3 w 2486 rfl, r_eA w 2486 rfl, r_eAs w 2486 rfl, eb_X12_ofPorts_101 w, em_X12_isHandler w]
def rb_X12_ofPorts_299 (S : r_S) (x2 : Int32) (x3 : Int32) (x4 : Int32) (Q : Option Value → r_S → Prop) : Prop := rm_X12_decides S x2 x3 x4 (fun r94_ S95_ => ∃ x96_ : Int32, r94_ = some (.int x96_) ∧ (Q (some (.int x96_)) S95_))
set_option maxRecDepth 100000 in
set_option maxHeartbeats 4000000 in
theorem eb_X12_ofPorts_299 {m : Nat} {ad : Nat → Nat} {fo : Nat → Option Nat} {st : Nat → Nat} {S0 : q_S} (w : r_WF m ad fo st S0)  (S : r_S) (x2 : Int32) (x3 : Int32) (x4 : Int32) (Q : Option Value → q_S → Prop) : wb_X12_ofPorts_299 (r_E m fo S S0) m x2 x3 x4 Q ↔ rb_X12_ofPorts_299 S x2 x3 x4 (fun r S => Q r (r_E m fo S S0)) := by
  unfold wb_X12_ofPorts_299 rb_X12_ofPorts_299
  simp only [r_eK, r_eI, r_eIs, r_eP, r_eN, true_and, Option.some.injEq, exists_eq_left', r_all, w.1, em_X12_decides w]
def rb_X12_ofPorts_57 (S : r_S) (x2 : Int32) (x3 : Int32) (x4 : Int32) (x5 : Int32) (Q : Option Value → r_S → Prop) : Prop := rm_X12_receives S x2 x3 x4 x5 (fun r98_ S99_ => ∃ x100_ : Int32, r98_ = some (.int x100_) ∧ (Q (some (.int x100_)) S99_))
set_option maxRecDepth 100000 in
set_option maxHeartbeats 4000000 in
theorem eb_X12_ofPorts_57 {m : Nat} {ad : Nat → Nat} {fo : Nat → Option Nat} {st : Nat → Nat} {S0 : q_S} (w : r_WF m ad fo st S0)  (S : r_S) (x2 : Int32) (x3 : Int32) (x4 : Int32) (x5 : Int32) (Q : Option Value → q_S → Prop) : wb_X12_ofPorts_57 (r_E m fo S S0) m x2 x3 x4 x5 Q ↔ rb_X12_ofPorts_57 S x2 x3 x4 x5 (fun r S => Q r (r_E m fo S S0)) := by
  unfold wb_X12_ofPorts_57 rb_X12_ofPorts_57
  simp only [r_eK, r_eI, r_eIs, r_eP, r_eN, true_and, Option.some.injEq, exists_eq_left', r_all, w.1, em_X12_receives w]
def rb_X12_ofPorts_44 (S : r_S) (x2 : Int32) (x3 : Int32) (x4 : Int32) (x5 : Int32) (x6 : Int32) (Q : Option Value → r_S → Prop) : Prop := rm_X12_sends S x2 x3 x4 x5 x6 (fun r102_ S103_ => ∃ x104_ : Int32, r102_ = some (.int x104_) ∧ (Q (some (.int x104_)) S103_))
set_option maxRecDepth 100000 in
set_option maxHeartbeats 4000000 in
theorem eb_X12_ofPorts_44 {m : Nat} {ad : Nat → Nat} {fo : Nat → Option Nat} {st : Nat → Nat} {S0 : q_S} (w : r_WF m ad fo st S0)  (S : r_S) (x2 : Int32) (x3 : Int32) (x4 : Int32) (x5 : Int32) (x6 : Int32) (Q : Option Value → q_S → Prop) : wb_X12_ofPorts_44 (r_E m fo S S0) m x2 x3 x4 x5 x6 Q ↔ rb_X12_ofPorts_44 S x2 x3 x4 x5 x6 (fun r S => Q r (r_E m fo S S0)) := by
  unfold wb_X12_ofPorts_44 rb_X12_ofPorts_44
  simp only [r_eK, r_eI, r_eIs, r_eP, r_eN, true_and, Option.some.injEq, exists_eq_left', r_all, w.1, em_X12_sends w]
def rm_X12_ofPorts (S : r_S) (x1 : Int32) (x2 : Int32) (x3 : Int32) (x4 : Int32) (x5 : Int32) (x6 : Int32) (Q : Option Value → r_S → Prop) : Prop := ((x1.toInt < 18 ∨ 24 < x1.toInt) → (rb_X12_ofPorts_299 S x2 x3 x4 Q)) ∧ ((x1 = (18 : Int32)) → (rb_X12_ofPorts_44 S x2 x3 x4 x5 x6 Q)) ∧ ((x1 = (19 : Int32)) → (rb_X12_ofPorts_57 S x2 x3 x4 x5 Q)) ∧ ((x1 = (20 : Int32)) → (rb_X12_ofPorts_299 S x2 x3 x4 Q)) ∧ ((x1 = (21 : Int32)) → (rb_X12_ofPorts_68 S x2 x3 Q)) ∧ ((x1 = (22 : Int32)) → (rb_X12_ofPorts_110 S x2 x3 Q)) ∧ ((x1 = (23 : Int32)) → (rb_X12_ofPorts_143 S x2 x4 Q)) ∧ ((x1 = (24 : Int32)) → (rb_X12_ofPorts_197 S x2 x3 Q))
set_option maxRecDepth 100000 in
set_option maxHeartbeats 4000000 in
theorem em_X12_ofPorts {m : Nat} {ad : Nat → Nat} {fo : Nat → Option Nat} {st : Nat → Nat} {S0 : q_S} (w : r_WF m ad fo st S0)  (S : r_S) (x1 : Int32) (x2 : Int32) (x3 : Int32) (x4 : Int32) (x5 : Int32) (x6 : Int32) (Q : Option Value → q_S → Prop) : wm_X12_ofPorts (r_E m fo S S0) m x1 x2 x3 x4 x5 x6 Q ↔ rm_X12_ofPorts S x1 x2 x3 x4 x5 x6 (fun r S => Q r (r_E m fo S S0)) := by
  unfold wm_X12_ofPorts rm_X12_ofPorts
  simp only [r_eK, r_eI, r_eIs, r_eP, r_eN, true_and, Option.some.injEq, exists_eq_left', r_all, w.1, eb_X12_ofPorts_110 w, eb_X12_ofPorts_143 w, eb_X12_ofPorts_197 w, eb_X12_ofPorts_299 w, eb_X12_ofPorts_44 w, eb_X12_ofPorts_57 w, eb_X12_ofPorts_68 w]
def rb_X12_holds_32 (S : r_S) (Q : Option Value → r_S → Prop) : Prop := Q (some (.int (1 : Int32))) S
set_option maxRecDepth 100000 in
set_option maxHeartbeats 4000000 in
theorem eb_X12_holds_32 {m : Nat} {ad : Nat → Nat} {fo : Nat → Option Nat} {st : Nat → Nat} {S0 : q_S} (w : r_WF m ad fo st S0)  (S : r_S) (Q : Option Value → q_S → Prop) : wb_X12_holds_32 (r_E m fo S S0) Q ↔ rb_X12_holds_32 S (fun r S => Q r (r_E m fo S S0)) := by
  unfold wb_X12_holds_32 rb_X12_holds_32
  simp only [r_eK, r_eI, r_eIs, r_eP, r_eN, true_and, Option.some.injEq, exists_eq_left', r_all, w.1]
def rb_X12_holds_64 (S : r_S) (Q : Option Value → r_S → Prop) : Prop := Q (some (.int (3 : Int32))) S
set_option maxRecDepth 100000 in
set_option maxHeartbeats 4000000 in
theorem eb_X12_holds_64 {m : Nat} {ad : Nat → Nat} {fo : Nat → Option Nat} {st : Nat → Nat} {S0 : q_S} (w : r_WF m ad fo st S0)  (S : r_S) (Q : Option Value → q_S → Prop) : wb_X12_holds_64 (r_E m fo S S0) Q ↔ rb_X12_holds_64 S (fun r S => Q r (r_E m fo S S0)) := by
  unfold wb_X12_holds_64 rb_X12_holds_64
  simp only [r_eK, r_eI, r_eIs, r_eP, r_eN, true_and, Option.some.injEq, exists_eq_left', r_all, w.1]
def rb_X12_holds_97 (S : r_S) (Q : Option Value → r_S → Prop) : Prop := Q (some (.int (2 : Int32))) S
set_option maxRecDepth 100000 in
set_option maxHeartbeats 4000000 in
theorem eb_X12_holds_97 {m : Nat} {ad : Nat → Nat} {fo : Nat → Option Nat} {st : Nat → Nat} {S0 : q_S} (w : r_WF m ad fo st S0)  (S : r_S) (Q : Option Value → q_S → Prop) : wb_X12_holds_97 (r_E m fo S S0) Q ↔ rb_X12_holds_97 S (fun r S => Q r (r_E m fo S S0)) := by
  unfold wb_X12_holds_97 rb_X12_holds_97
  simp only [r_eK, r_eI, r_eIs, r_eP, r_eN, true_and, Option.some.injEq, exists_eq_left', r_all, w.1]
def rb_X12_holds_66 (S : r_S) (x4 : Int32) (Q : Option Value → r_S → Prop) : Prop := vp_in x4 (r_N 2467) ∧ (((r_A S 2467 x4.toNatClampNeg) = 0 → (rb_X12_holds_97 S Q)) ∧ (¬ (r_A S 2467 x4.toNatClampNeg) = 0 → (vp_in x4 (r_N 2467) ∧ (((r_A S 2467 x4.toNatClampNeg) = (3 : Int32) → (rb_X12_holds_97 S Q)) ∧ (¬ (r_A S 2467 x4.toNatClampNeg) = (3 : Int32) → (vp_in x4 (r_N 2475) ∧ (((r_A S 2475 x4.toNatClampNeg) = 0 → (vp_in x4 (r_N 2475) ∧ (Q (some (.int (0 : Int32))) (rs_A S 2475 x4.toNatClampNeg (vp_nar .boolean (1 : Int32)))))) ∧ (¬ (r_A S 2475 x4.toNatClampNeg) = 0 → (rb_X12_holds_97 S Q)))))))))
set_option maxRecDepth 100000 in
set_option maxHeartbeats 4000000 in
theorem eb_X12_holds_66 {m : Nat} {ad : Nat → Nat} {fo : Nat → Option Nat} {st : Nat → Nat} {S0 : q_S} (w : r_WF m ad fo st S0)  (S : r_S) (x4 : Int32) (Q : Option Value → q_S → Prop) : wb_X12_holds_66 (r_E m fo S S0) m x4 Q ↔ rb_X12_holds_66 S x4 (fun r S => Q r (r_E m fo S S0)) := by
  unfold wb_X12_holds_66 rb_X12_holds_66
  simp only [r_eK, r_eI, r_eIs, r_eP, r_eN, true_and, Option.some.injEq, exists_eq_left', r_all, w.1, r_w1 w 2467 rfl, r_w2 w 2467 21 rfl rfl, r_w3 w 2467 rfl, r_eA w 2467 rfl, r_eAs w 2467 rfl, r_w1 w 2475 rfl, r_w2 w 2475 22 rfl rfl, r_w3 w 2475 rfl, r_eA w 2475 rfl, r_eAs w 2475 rfl, eb_X12_holds_97 w]
def rm_X12_holds (S : r_S) (x1 : Int32) (x2 : Int32) (x3 : Int32) (Q : Option Value → r_S → Prop) : Prop := rm_X12_isProcess S x1 x3 (fun r16_ S17_ => ∃ x18_ : Int32, r16_ = some (.int x18_) ∧ ((x18_ = 0 → (rb_X12_holds_32 S17_ Q)) ∧ (¬ x18_ = 0 → (((((16 : Int32) * x1) + x3) = x2 → (rb_X12_holds_32 S17_ Q)) ∧ (¬ (((16 : Int32) * x1) + x3) = x2 → (rm_X12_isHandler S17_ (((16 : Int32) * x1) + x3) (fun r22_ S23_ => ∃ x24_ : Int32, r22_ = some (.int x24_) ∧ ((x24_ = 0 → (vp_in (((16 : Int32) * x1) + x3) (r_N 2438) ∧ ((0 < (r_A S23_ 2438 (((16 : Int32) * x1) + x3).toNatClampNeg) → (rb_X12_holds_64 S23_ Q)) ∧ (¬ 0 < (r_A S23_ 2438 (((16 : Int32) * x1) + x3).toNatClampNeg) → (vp_in x1 (r_N 2486) ∧ (((r_A S23_ 2486 x1.toNatClampNeg) ≤ 0 → (rb_X12_holds_66 S23_ (((16 : Int32) * x1) + x3) Q)) ∧ (¬ (r_A S23_ 2486 x1.toNatClampNeg) ≤ 0 → (vp_in x1 (r_N 2487) ∧ ((¬ (r_A S23_ 2487 x1.toNatClampNeg) = (((16 : Int32) * x1) + x3) → (rb_X12_holds_66 S23_ (((16 : Int32) * x1) + x3) Q)) ∧ ((r_A S23_ 2487 x1.toNatClampNeg) = (((16 : Int32) * x1) + x3) → (rb_X12_holds_64 S23_ Q))))))))))) ∧ (¬ x24_ = 0 → (rb_X12_holds_32 S23_ Q))))))))))
set_option maxRecDepth 100000 in
set_option maxHeartbeats 4000000 in
theorem em_X12_holds {m : Nat} {ad : Nat → Nat} {fo : Nat → Option Nat} {st : Nat → Nat} {S0 : q_S} (w : r_WF m ad fo st S0)  (S : r_S) (x1 : Int32) (x2 : Int32) (x3 : Int32) (Q : Option Value → q_S → Prop) : wm_X12_holds (r_E m fo S S0) m x1 x2 x3 Q ↔ rm_X12_holds S x1 x2 x3 (fun r S => Q r (r_E m fo S S0)) := by
  unfold wm_X12_holds rm_X12_holds
  simp only [r_eK, r_eI, r_eIs, r_eP, r_eN, true_and, Option.some.injEq, exists_eq_left', r_all, w.1, r_w1 w 2438 rfl, r_w2 w 2438 21 rfl rfl, r_w3 w 2438 rfl, r_eA w 2438 rfl, r_eAs w 2438 rfl, r_w1 w 2486 rfl, r_w2 w 2486 21 rfl rfl, r_w3 w 2486 rfl, r_eA w 2486 rfl, r_eAs w 2486 rfl, r_w1 w 2487 rfl, r_w2 w 2487 21 rfl rfl, r_w3 w 2487 rfl, r_eA w 2487 rfl, r_eAs w 2487 rfl, eb_X12_holds_32 w, eb_X12_holds_64 w, eb_X12_holds_66 w, em_X12_isHandler w, em_X12_isProcess w]
def rb_X12_letsGo_116 (S : r_S) (Q : Option Value → r_S → Prop) : Prop := Q (some (.int (0 : Int32))) S
set_option maxRecDepth 100000 in
set_option maxHeartbeats 4000000 in
theorem eb_X12_letsGo_116 {m : Nat} {ad : Nat → Nat} {fo : Nat → Option Nat} {st : Nat → Nat} {S0 : q_S} (w : r_WF m ad fo st S0)  (S : r_S) (Q : Option Value → q_S → Prop) : wb_X12_letsGo_116 (r_E m fo S S0) Q ↔ rb_X12_letsGo_116 S (fun r S => Q r (r_E m fo S S0)) := by
  unfold wb_X12_letsGo_116 rb_X12_letsGo_116
  simp only [r_eK, r_eI, r_eIs, r_eP, r_eN, true_and, Option.some.injEq, exists_eq_left', r_all, w.1]
def rb_X12_letsGo_66 (S : r_S) (x3 : Int32) (x4 : Int32) (Q : Option Value → r_S → Prop) : Prop := vp_in x3 (r_N 2475) ∧ ((x4 = 0 → (vp_in x3 (r_N 2467) ∧ ((¬ (r_A (rs_A S 2475 x3.toNatClampNeg (vp_nar .boolean (0 : Int32))) 2467 x3.toNatClampNeg) = (1 : Int32) → (rb_X12_letsGo_116 (rs_A S 2475 x3.toNatClampNeg (vp_nar .boolean (0 : Int32))) Q)) ∧ ((r_A (rs_A S 2475 x3.toNatClampNeg (vp_nar .boolean (0 : Int32))) 2467 x3.toNatClampNeg) = (1 : Int32) → (∀ S12_ : r_S, S12_ = (rs_I (rs_A S 2475 x3.toNatClampNeg (vp_nar .boolean (0 : Int32))) 2464 ((r_I (rs_A S 2475 x3.toNatClampNeg (vp_nar .boolean (0 : Int32))) 2464) + (1 : Int32))) → (vp_in x3 (r_N 2476) ∧ (rb_X12_letsGo_116 (rs_A S12_ 2476 x3.toNatClampNeg (r_I S12_ 2464)) Q))))))) ∧ (¬ x4 = 0 → (rm_X12_gets (rs_A S 2475 x3.toNatClampNeg (vp_nar .boolean (0 : Int32))) x3 (fun r17_ S18_ => r17_ = none ∧ (rb_X12_letsGo_116 S18_ Q)))))
set_option maxRecDepth 100000 in
set_option maxHeartbeats 4000000 in
theorem eb_X12_letsGo_66 {m : Nat} {ad : Nat → Nat} {fo : Nat → Option Nat} {st : Nat → Nat} {S0 : q_S} (w : r_WF m ad fo st S0)  (S : r_S) (x3 : Int32) (x4 : Int32) (Q : Option Value → q_S → Prop) : wb_X12_letsGo_66 (r_E m fo S S0) m x3 x4 Q ↔ rb_X12_letsGo_66 S x3 x4 (fun r S => Q r (r_E m fo S S0)) := by
  unfold wb_X12_letsGo_66 rb_X12_letsGo_66
  simp only [r_eK, r_eI, r_eIs, r_eP, r_eN, true_and, Option.some.injEq, exists_eq_left', r_all, w.1, r_w1 w 2467 rfl, r_w2 w 2467 21 rfl rfl, r_w3 w 2467 rfl, r_eA w 2467 rfl, r_eAs w 2467 rfl, r_w1 w 2475 rfl, r_w2 w 2475 22 rfl rfl, r_w3 w 2475 rfl, r_eA w 2475 rfl, r_eAs w 2475 rfl, r_w1 w 2476 rfl, r_w2 w 2476 21 rfl rfl, r_w3 w 2476 rfl, r_eA w 2476 rfl, r_eAs w 2476 rfl, eb_X12_letsGo_116 w, em_X12_gets w]
def rb_X12_letsGo_44 (S : r_S) (x3 : Int32) (xs0 : Int32) (Q : Option Value → r_S → Prop) : Prop := vp_in x3 (r_N 2475) ∧ ((¬ xs0 = 0 → (rb_X12_letsGo_66 S x3 xs0 Q)) ∧ (xs0 = 0 → ((¬ (r_A S 2475 x3.toNatClampNeg) = 0 → (rb_X12_letsGo_66 S x3 xs0 Q)) ∧ ((r_A S 2475 x3.toNatClampNeg) = 0 → (Q (some (.int (2 : Int32))) S)))))
set_option maxRecDepth 100000 in
set_option maxHeartbeats 4000000 in
theorem eb_X12_letsGo_44 {m : Nat} {ad : Nat → Nat} {fo : Nat → Option Nat} {st : Nat → Nat} {S0 : q_S} (w : r_WF m ad fo st S0)  (S : r_S) (x3 : Int32) (xs0 : Int32) (Q : Option Value → q_S → Prop) : wb_X12_letsGo_44 (r_E m fo S S0) m x3 xs0 Q ↔ rb_X12_letsGo_44 S x3 xs0 (fun r S => Q r (r_E m fo S S0)) := by
  unfold wb_X12_letsGo_44 rb_X12_letsGo_44
  simp only [r_eK, r_eI, r_eIs, r_eP, r_eN, true_and, Option.some.injEq, exists_eq_left', r_all, w.1, r_w1 w 2475 rfl, r_w2 w 2475 22 rfl rfl, r_w3 w 2475 rfl, r_eA w 2475 rfl, r_eAs w 2475 rfl, eb_X12_letsGo_66 w]
def rb_X12_letsGo_43 (S : r_S) (x3 : Int32) (Q : Option Value → r_S → Prop) : Prop := rb_X12_letsGo_44 S x3 (0 : Int32) Q
set_option maxRecDepth 100000 in
set_option maxHeartbeats 4000000 in
theorem eb_X12_letsGo_43 {m : Nat} {ad : Nat → Nat} {fo : Nat → Option Nat} {st : Nat → Nat} {S0 : q_S} (w : r_WF m ad fo st S0)  (S : r_S) (x3 : Int32) (Q : Option Value → q_S → Prop) : wb_X12_letsGo_43 (r_E m fo S S0) m x3 Q ↔ rb_X12_letsGo_43 S x3 (fun r S => Q r (r_E m fo S S0)) := by
  unfold wb_X12_letsGo_43 rb_X12_letsGo_43
  simp only [r_eK, r_eI, r_eIs, r_eP, r_eN, true_and, Option.some.injEq, exists_eq_left', r_all, w.1, eb_X12_letsGo_44 w]
def rm_X12_letsGo (S : r_S) (x1 : Int32) (x2 : Int32) (Q : Option Value → r_S → Prop) : Prop := rm_X12_isProcess S x1 x2 (fun r27_ S28_ => ∃ x29_ : Int32, r27_ = some (.int x29_) ∧ ((¬ x29_ = 0 → (vp_in (((16 : Int32) * x1) + x2) (r_N 2467) ∧ ((¬ (r_A S28_ 2467 (((16 : Int32) * x1) + x2).toNatClampNeg) = (2 : Int32) → (rb_X12_letsGo_43 S28_ (((16 : Int32) * x1) + x2) Q)) ∧ ((r_A S28_ 2467 (((16 : Int32) * x1) + x2).toNatClampNeg) = (2 : Int32) → (vp_in (((16 : Int32) * x1) + x2) (r_N 2478) ∧ ((¬ (r_A S28_ 2478 (((16 : Int32) * x1) + x2).toNatClampNeg) = (8 : Int32) → (rb_X12_letsGo_43 S28_ (((16 : Int32) * x1) + x2) Q)) ∧ ((r_A S28_ 2478 (((16 : Int32) * x1) + x2).toNatClampNeg) = (8 : Int32) → (rb_X12_letsGo_44 S28_ (((16 : Int32) * x1) + x2) (1 : Int32) Q)))))))) ∧ (x29_ = 0 → (Q (some (.int (1 : Int32))) S28_))))
set_option maxRecDepth 100000 in
set_option maxHeartbeats 4000000 in
theorem em_X12_letsGo {m : Nat} {ad : Nat → Nat} {fo : Nat → Option Nat} {st : Nat → Nat} {S0 : q_S} (w : r_WF m ad fo st S0)  (S : r_S) (x1 : Int32) (x2 : Int32) (Q : Option Value → q_S → Prop) : wm_X12_letsGo (r_E m fo S S0) m x1 x2 Q ↔ rm_X12_letsGo S x1 x2 (fun r S => Q r (r_E m fo S S0)) := by
  unfold wm_X12_letsGo rm_X12_letsGo
  simp only [r_eK, r_eI, r_eIs, r_eP, r_eN, true_and, Option.some.injEq, exists_eq_left', r_all, w.1, r_w1 w 2467 rfl, r_w2 w 2467 21 rfl rfl, r_w3 w 2467 rfl, r_eA w 2467 rfl, r_eAs w 2467 rfl, r_w1 w 2478 rfl, r_w2 w 2478 21 rfl rfl, r_w3 w 2478 rfl, r_eA w 2478 rfl, r_eAs w 2478 rfl, eb_X12_letsGo_43 w, eb_X12_letsGo_44 w, em_X12_isProcess w]
def rb_X12_ofOthers_261 (S : r_S) (x3 : Int32) (Q : Option Value → r_S → Prop) : Prop := Q (some (.int (x3 - x3 / (16 : Int32) * (16 : Int32)))) S
set_option maxRecDepth 100000 in
set_option maxHeartbeats 4000000 in
theorem eb_X12_ofOthers_261 {m : Nat} {ad : Nat → Nat} {fo : Nat → Option Nat} {st : Nat → Nat} {S0 : q_S} (w : r_WF m ad fo st S0)  (S : r_S) (x3 : Int32) (Q : Option Value → q_S → Prop) : wb_X12_ofOthers_261 (r_E m fo S S0) x3 Q ↔ rb_X12_ofOthers_261 S x3 (fun r S => Q r (r_E m fo S S0)) := by
  unfold wb_X12_ofOthers_261 rb_X12_ofOthers_261
  simp only [r_eK, r_eI, r_eIs, r_eP, r_eN, true_and, Option.some.injEq, exists_eq_left', r_all, w.1]
def rb_X12_ofOthers_258 (S : r_S) (xs1 : Int32) (xs2 : Int32) (Q : Option Value → r_S → Prop) : Prop := vp_in xs1 (r_N 2477) ∧ (Q (some (.int (0 : Int32))) (rs_A S 2477 xs1.toNatClampNeg xs2))
set_option maxRecDepth 100000 in
set_option maxHeartbeats 4000000 in
theorem eb_X12_ofOthers_258 {m : Nat} {ad : Nat → Nat} {fo : Nat → Option Nat} {st : Nat → Nat} {S0 : q_S} (w : r_WF m ad fo st S0)  (S : r_S) (xs1 : Int32) (xs2 : Int32) (Q : Option Value → q_S → Prop) : wb_X12_ofOthers_258 (r_E m fo S S0) (some (ad 2477)) xs1 xs2 Q ↔ rb_X12_ofOthers_258 S xs1 xs2 (fun r S => Q r (r_E m fo S S0)) := by
  unfold wb_X12_ofOthers_258 rb_X12_ofOthers_258
  simp only [r_eK, r_eI, r_eIs, r_eP, r_eN, true_and, Option.some.injEq, exists_eq_left', r_all, w.1, r_w1 w 2477 rfl, r_w2 w 2477 21 rfl rfl, r_w3 w 2477 rfl, r_eA w 2477 rfl, r_eAs w 2477 rfl]
def rb_X12_ofOthers_167 (S : r_S) (x2 : Int32) (x3 : Int32) (x4 : Int32) (Q : Option Value → r_S → Prop) : Prop := rm_X12_isProcess S x2 x4 (fun r6_ S7_ => ∃ x8_ : Int32, r6_ = some (.int x8_) ∧ ((¬ x8_ = 0 → (vp_in (((16 : Int32) * x2) + x4) (r_N 2467) ∧ (vp_in (((32 : Int32) * x3) + (11 : Int32)) (r_N 2477) ∧ (vp_in (((16 : Int32) * x2) + x4) (r_N 2469) ∧ (vp_in (((32 : Int32) * x3) + (12 : Int32)) (r_N 2477) ∧ (∀ S27_ : r_S, S27_ = (rs_A (rs_A S7_ 2477 (((32 : Int32) * x3) + (11 : Int32)).toNatClampNeg (r_A S7_ 2467 (((16 : Int32) * x2) + x4).toNatClampNeg)) 2477 (((32 : Int32) * x3) + (12 : Int32)).toNatClampNeg (r_A (rs_A S7_ 2477 (((32 : Int32) * x3) + (11 : Int32)).toNatClampNeg (r_A S7_ 2467 (((16 : Int32) * x2) + x4).toNatClampNeg)) 2469 (((16 : Int32) * x2) + x4).toNatClampNeg)) → (vp_in (((16 : Int32) * x2) + x4) (r_N 2470) ∧ (((r_A S27_ 2470 (((16 : Int32) * x2) + x4).toNatClampNeg) = 0 → (rb_X12_ofOthers_258 S27_ (((32 : Int32) * x3) + (13 : Int32)) (-1 : Int32) Q)) ∧ (¬ (r_A S27_ 2470 (((16 : Int32) * x2) + x4).toNatClampNeg) = 0 → (vp_in (((16 : Int32) * x2) + x4) (r_N 2471) ∧ (rb_X12_ofOthers_258 S27_ (((32 : Int32) * x3) + (13 : Int32)) (r_A S27_ 2471 (((16 : Int32) * x2) + x4).toNatClampNeg) Q))))))))))) ∧ (x8_ = 0 → (Q (some (.int (1 : Int32))) S7_))))
set_option maxRecDepth 100000 in
set_option maxHeartbeats 4000000 in
theorem eb_X12_ofOthers_167 {m : Nat} {ad : Nat → Nat} {fo : Nat → Option Nat} {st : Nat → Nat} {S0 : q_S} (w : r_WF m ad fo st S0)  (S : r_S) (x2 : Int32) (x3 : Int32) (x4 : Int32) (Q : Option Value → q_S → Prop) : wb_X12_ofOthers_167 (r_E m fo S S0) m x2 x3 x4 Q ↔ rb_X12_ofOthers_167 S x2 x3 x4 (fun r S => Q r (r_E m fo S S0)) := by
  unfold wb_X12_ofOthers_167 rb_X12_ofOthers_167
  simp only [r_eK, r_eI, r_eIs, r_eP, r_eN, true_and, Option.some.injEq, exists_eq_left', r_all, w.1, r_w1 w 2467 rfl, r_w2 w 2467 21 rfl rfl, r_w3 w 2467 rfl, r_eA w 2467 rfl, r_eAs w 2467 rfl, r_w1 w 2469 rfl, r_w2 w 2469 21 rfl rfl, r_w3 w 2469 rfl, r_eA w 2469 rfl, r_eAs w 2469 rfl, r_w1 w 2470 rfl, r_w2 w 2470 22 rfl rfl, r_w3 w 2470 rfl, r_eA w 2470 rfl, r_eAs w 2470 rfl, r_w1 w 2471 rfl, r_w2 w 2471 21 rfl rfl, r_w3 w 2471 rfl, r_eA w 2471 rfl, r_eAs w 2471 rfl, r_w1 w 2477 rfl, r_w2 w 2477 21 rfl rfl, r_w3 w 2477 rfl, r_eA w 2477 rfl, r_eAs w 2477 rfl, eb_X12_ofOthers_258 w, em_X12_isProcess w]
def rb_X12_ofOthers_100 (S : r_S) (Q : Option Value → r_S → Prop) : Prop := Q (some (.int (1 : Int32))) S
set_option maxRecDepth 100000 in
set_option maxHeartbeats 4000000 in
theorem eb_X12_ofOthers_100 {m : Nat} {ad : Nat → Nat} {fo : Nat → Option Nat} {st : Nat → Nat} {S0 : q_S} (w : r_WF m ad fo st S0)  (S : r_S) (Q : Option Value → q_S → Prop) : wb_X12_ofOthers_100 (r_E m fo S S0) Q ↔ rb_X12_ofOthers_100 S (fun r S => Q r (r_E m fo S S0)) := by
  unfold wb_X12_ofOthers_100 rb_X12_ofOthers_100
  simp only [r_eK, r_eI, r_eIs, r_eP, r_eN, true_and, Option.some.injEq, exists_eq_left', r_all, w.1]
def rb_X12_ofOthers_143 (S : r_S) (Q : Option Value → r_S → Prop) : Prop := Q (some (.int (3 : Int32))) S
set_option maxRecDepth 100000 in
set_option maxHeartbeats 4000000 in
theorem eb_X12_ofOthers_143 {m : Nat} {ad : Nat → Nat} {fo : Nat → Option Nat} {st : Nat → Nat} {S0 : q_S} (w : r_WF m ad fo st S0)  (S : r_S) (Q : Option Value → q_S → Prop) : wb_X12_ofOthers_143 (r_E m fo S S0) Q ↔ rb_X12_ofOthers_143 S (fun r S => Q r (r_E m fo S S0)) := by
  unfold wb_X12_ofOthers_143 rb_X12_ofOthers_143
  simp only [r_eK, r_eI, r_eIs, r_eP, r_eN, true_and, Option.some.injEq, exists_eq_left', r_all, w.1]
def rb_X12_ofOthers_145 (S : r_S) (x3 : Int32) (x4 : Int32) (Q : Option Value → r_S → Prop) : Prop := vp_in x3 (r_N 2470) ∧ (vp_in x3 (r_N 2471) ∧ (∀ S46_ : r_S, S46_ = (rs_A (rs_A S 2470 x3.toNatClampNeg (vp_nar .boolean (1 : Int32))) 2471 x3.toNatClampNeg ((r_I (rs_A S 2470 x3.toNatClampNeg (vp_nar .boolean (1 : Int32))) 2463) + x4)) → (Q (some (.int (0 : Int32))) S46_)))
set_option maxRecDepth 100000 in
set_option maxHeartbeats 4000000 in
theorem eb_X12_ofOthers_145 {m : Nat} {ad : Nat → Nat} {fo : Nat → Option Nat} {st : Nat → Nat} {S0 : q_S} (w : r_WF m ad fo st S0)  (S : r_S) (x3 : Int32) (x4 : Int32) (Q : Option Value → q_S → Prop) : wb_X12_ofOthers_145 (r_E m fo S S0) m x3 x4 Q ↔ rb_X12_ofOthers_145 S x3 x4 (fun r S => Q r (r_E m fo S S0)) := by
  unfold wb_X12_ofOthers_145 rb_X12_ofOthers_145
  simp only [r_eK, r_eI, r_eIs, r_eP, r_eN, true_and, Option.some.injEq, exists_eq_left', r_all, w.1, r_w1 w 2470 rfl, r_w2 w 2470 22 rfl rfl, r_w3 w 2470 rfl, r_eA w 2470 rfl, r_eAs w 2470 rfl, r_w1 w 2471 rfl, r_w2 w 2471 21 rfl rfl, r_w3 w 2471 rfl, r_eA w 2471 rfl, r_eAs w 2471 rfl]
def rb_X12_ofOthers_86 (S : r_S) (x3 : Int32) (x4 : Int32) (Q : Option Value → r_S → Prop) : Prop := (x4 < (1 : Int32) → (rb_X12_ofOthers_100 S Q)) ∧ (¬ x4 < (1 : Int32) → ((x4 ≤ (100000 : Int32) → (vp_in x3 (r_N 2439) ∧ (((r_A S 2439 x3.toNatClampNeg) = 0 → (rb_X12_ofOthers_143 S Q)) ∧ (¬ (r_A S 2439 x3.toNatClampNeg) = 0 → (vp_in x3 (r_N 2438) ∧ (((r_A S 2438 x3.toNatClampNeg) ≤ 0 → (rb_X12_ofOthers_145 S x3 x4 Q)) ∧ (¬ (r_A S 2438 x3.toNatClampNeg) ≤ 0 → (vp_in x3 (r_N 2473) ∧ (vp_in x3 (r_N 2438) ∧ ((((r_I S 2463) + x4) ≤ ((r_A S 2473 x3.toNatClampNeg) + (r_A S 2438 x3.toNatClampNeg)) → (rb_X12_ofOthers_145 S x3 x4 Q)) ∧ (¬ ((r_I S 2463) + x4) ≤ ((r_A S 2473 x3.toNatClampNeg) + (r_A S 2438 x3.toNatClampNeg)) → (rb_X12_ofOthers_143 S Q)))))))))))) ∧ (¬ x4 ≤ (100000 : Int32) → (rb_X12_ofOthers_100 S Q))))
set_option maxRecDepth 100000 in
set_option maxHeartbeats 4000000 in
theorem eb_X12_ofOthers_86 {m : Nat} {ad : Nat → Nat} {fo : Nat → Option Nat} {st : Nat → Nat} {S0 : q_S} (w : r_WF m ad fo st S0)  (S : r_S) (x3 : Int32) (x4 : Int32) (Q : Option Value → q_S → Prop) : wb_X12_ofOthers_86 (r_E m fo S S0) m x3 x4 Q ↔ rb_X12_ofOthers_86 S x3 x4 (fun r S => Q r (r_E m fo S S0)) := by
  unfold wb_X12_ofOthers_86 rb_X12_ofOthers_86
  simp only [r_eK, r_eI, r_eIs, r_eP, r_eN, true_and, Option.some.injEq, exists_eq_left', r_all, w.1, r_w1 w 2438 rfl, r_w2 w 2438 21 rfl rfl, r_w3 w 2438 rfl, r_eA w 2438 rfl, r_eAs w 2438 rfl, r_w1 w 2439 rfl, r_w2 w 2439 21 rfl rfl, r_w3 w 2439 rfl, r_eA w 2439 rfl, r_eAs w 2439 rfl, r_w1 w 2473 rfl, r_w2 w 2473 21 rfl rfl, r_w3 w 2473 rfl, r_eA w 2473 rfl, r_eAs w 2473 rfl, eb_X12_ofOthers_100 w, eb_X12_ofOthers_143 w, eb_X12_ofOthers_145 w]
def rb_X12_ofOthers_78 (S : r_S) (x2 : Int32) (x4 : Int32) (Q : Option Value → r_S → Prop) : Prop := rm_X12_letsGo S x2 x4 (fun r67_ S68_ => ∃ x69_ : Int32, r67_ = some (.int x69_) ∧ (Q (some (.int x69_)) S68_))
set_option maxRecDepth 100000 in
set_option maxHeartbeats 4000000 in
theorem eb_X12_ofOthers_78 {m : Nat} {ad : Nat → Nat} {fo : Nat → Option Nat} {st : Nat → Nat} {S0 : q_S} (w : r_WF m ad fo st S0)  (S : r_S) (x2 : Int32) (x4 : Int32) (Q : Option Value → q_S → Prop) : wb_X12_ofOthers_78 (r_E m fo S S0) m x2 x4 Q ↔ rb_X12_ofOthers_78 S x2 x4 (fun r S => Q r (r_E m fo S S0)) := by
  unfold wb_X12_ofOthers_78 rb_X12_ofOthers_78
  simp only [r_eK, r_eI, r_eIs, r_eP, r_eN, true_and, Option.some.injEq, exists_eq_left', r_all, w.1, em_X12_letsGo w]
def rb_X12_ofOthers_69 (S : r_S) (x2 : Int32) (x3 : Int32) (x4 : Int32) (Q : Option Value → r_S → Prop) : Prop := rm_X12_holds S x2 x3 x4 (fun r71_ S72_ => ∃ x73_ : Int32, r71_ = some (.int x73_) ∧ (Q (some (.int x73_)) S72_))
set_option maxRecDepth 100000 in
set_option maxHeartbeats 4000000 in
theorem eb_X12_ofOthers_69 {m : Nat} {ad : Nat → Nat} {fo : Nat → Option Nat} {st : Nat → Nat} {S0 : q_S} (w : r_WF m ad fo st S0)  (S : r_S) (x2 : Int32) (x3 : Int32) (x4 : Int32) (Q : Option Value → q_S → Prop) : wb_X12_ofOthers_69 (r_E m fo S S0) m x2 x3 x4 Q ↔ rb_X12_ofOthers_69 S x2 x3 x4 (fun r S => Q r (r_E m fo S S0)) := by
  unfold wb_X12_ofOthers_69 rb_X12_ofOthers_69
  simp only [r_eK, r_eI, r_eIs, r_eP, r_eN, true_and, Option.some.injEq, exists_eq_left', r_all, w.1, em_X12_holds w]
def rb_X12_ofOthers_36 (S : r_S) (x3 : Int32) (x4 : Int32) (Q : Option Value → r_S → Prop) : Prop := rm_X12_isTime S x4 (fun r75_ S76_ => ∃ x77_ : Int32, r75_ = some (.int x77_) ∧ ((¬ x77_ = 0 → (vp_in x3 (r_N 2438) ∧ (((r_A S76_ 2438 x3.toNatClampNeg) ≤ 0 → (rm_X12_waits S76_ x3 (8 : Int32) x3 x4 (fun r85_ S86_ => ∃ x87_ : Int32, r85_ = some (.int x87_) ∧ (Q (some (.int x87_)) S86_)))) ∧ (¬ (r_A S76_ 2438 x3.toNatClampNeg) ≤ 0 → (Q (some (.int (3 : Int32))) S76_))))) ∧ (x77_ = 0 → (Q (some (.int (1 : Int32))) S76_))))
set_option maxRecDepth 100000 in
set_option maxHeartbeats 4000000 in
theorem eb_X12_ofOthers_36 {m : Nat} {ad : Nat → Nat} {fo : Nat → Option Nat} {st : Nat → Nat} {S0 : q_S} (w : r_WF m ad fo st S0)  (S : r_S) (x3 : Int32) (x4 : Int32) (Q : Option Value → q_S → Prop) : wb_X12_ofOthers_36 (r_E m fo S S0) m x3 x4 Q ↔ rb_X12_ofOthers_36 S x3 x4 (fun r S => Q r (r_E m fo S S0)) := by
  unfold wb_X12_ofOthers_36 rb_X12_ofOthers_36
  simp only [r_eK, r_eI, r_eIs, r_eP, r_eN, true_and, Option.some.injEq, exists_eq_left', r_all, w.1, r_w1 w 2438 rfl, r_w2 w 2438 21 rfl rfl, r_w3 w 2438 rfl, r_eA w 2438 rfl, r_eAs w 2438 rfl, em_X12_isTime w, em_X12_waits w]
def rm_X12_ofOthers (S : r_S) (x1 : Int32) (x2 : Int32) (x3 : Int32) (x4 : Int32) (x5 : Int32) (Q : Option Value → r_S → Prop) : Prop := ((x1.toInt < 26 ∨ 30 < x1.toInt) → (rb_X12_ofOthers_261 S x3 Q)) ∧ ((x1 = (26 : Int32)) → (rb_X12_ofOthers_36 S x3 x4 Q)) ∧ ((x1 = (27 : Int32)) → (rb_X12_ofOthers_69 S x2 x3 x4 Q)) ∧ ((x1 = (28 : Int32)) → (rb_X12_ofOthers_78 S x2 x4 Q)) ∧ ((x1 = (29 : Int32)) → (rb_X12_ofOthers_86 S x3 x4 Q)) ∧ ((x1 = (30 : Int32)) → (rb_X12_ofOthers_167 S x2 x3 x4 Q))
set_option maxRecDepth 100000 in
set_option maxHeartbeats 4000000 in
theorem em_X12_ofOthers {m : Nat} {ad : Nat → Nat} {fo : Nat → Option Nat} {st : Nat → Nat} {S0 : q_S} (w : r_WF m ad fo st S0)  (S : r_S) (x1 : Int32) (x2 : Int32) (x3 : Int32) (x4 : Int32) (x5 : Int32) (Q : Option Value → q_S → Prop) : wm_X12_ofOthers (r_E m fo S S0) m x1 x2 x3 x4 x5 Q ↔ rm_X12_ofOthers S x1 x2 x3 x4 x5 (fun r S => Q r (r_E m fo S S0)) := by
  unfold wm_X12_ofOthers rm_X12_ofOthers
  simp only [r_eK, r_eI, r_eIs, r_eP, r_eN, true_and, Option.some.injEq, exists_eq_left', r_all, w.1, eb_X12_ofOthers_167 w, eb_X12_ofOthers_261 w, eb_X12_ofOthers_36 w, eb_X12_ofOthers_69 w, eb_X12_ofOthers_78 w, eb_X12_ofOthers_86 w]
def rb_X12_wordsOf_41 (S : r_S) (xs0 : Int32) (Q : Option Value → r_S → Prop) : Prop := Q (some (.int xs0)) S
set_option maxRecDepth 100000 in
set_option maxHeartbeats 4000000 in
theorem eb_X12_wordsOf_41 {m : Nat} {ad : Nat → Nat} {fo : Nat → Option Nat} {st : Nat → Nat} {S0 : q_S} (w : r_WF m ad fo st S0)  (S : r_S) (xs0 : Int32) (Q : Option Value → q_S → Prop) : wb_X12_wordsOf_41 (r_E m fo S S0) xs0 Q ↔ rb_X12_wordsOf_41 S xs0 (fun r S => Q r (r_E m fo S S0)) := by
  unfold wb_X12_wordsOf_41 rb_X12_wordsOf_41
  simp only [r_eK, r_eI, r_eIs, r_eP, r_eN, true_and, Option.some.injEq, exists_eq_left', r_all, w.1]
def rm_X12_wordsOf (S : r_S) (x1 : Int32) (Q : Option Value → r_S → Prop) : Prop := (¬ x1 = (-1 : Int32) → (vp_in x1 (r_N 2454) ∧ (((r_A S 2454 x1.toNatClampNeg) = 0 → (vp_in x1 (r_N 2498) ∧ (((r_A S 2498 x1.toNatClampNeg) = 0 → (rb_X12_wordsOf_41 S (0 : Int32) Q)) ∧ (¬ (r_A S 2498 x1.toNatClampNeg) = 0 → (rb_X12_wordsOf_41 S (1 : Int32) Q))))) ∧ (¬ (r_A S 2454 x1.toNatClampNeg) = 0 → (vp_in x1 (r_N 2501) ∧ (rb_X12_wordsOf_41 S (r_A S 2501 x1.toNatClampNeg) Q)))))) ∧ (x1 = (-1 : Int32) → (rb_X12_wordsOf_41 S (0 : Int32) Q))
set_option maxRecDepth 100000 in
set_option maxHeartbeats 4000000 in
theorem em_X12_wordsOf {m : Nat} {ad : Nat → Nat} {fo : Nat → Option Nat} {st : Nat → Nat} {S0 : q_S} (w : r_WF m ad fo st S0)  (S : r_S) (x1 : Int32) (Q : Option Value → q_S → Prop) : wm_X12_wordsOf (r_E m fo S S0) m x1 Q ↔ rm_X12_wordsOf S x1 (fun r S => Q r (r_E m fo S S0)) := by
  unfold wm_X12_wordsOf rm_X12_wordsOf
  simp only [r_eK, r_eI, r_eIs, r_eP, r_eN, true_and, Option.some.injEq, exists_eq_left', r_all, w.1, r_w1 w 2454 rfl, r_w2 w 2454 22 rfl rfl, r_w3 w 2454 rfl, r_eA w 2454 rfl, r_eAs w 2454 rfl, r_w1 w 2498 rfl, r_w2 w 2498 22 rfl rfl, r_w3 w 2498 rfl, r_eA w 2498 rfl, r_eAs w 2498 rfl, r_w1 w 2501 rfl, r_w2 w 2501 21 rfl rfl, r_w3 w 2501 rfl, r_eA w 2501 rfl, r_eAs w 2501 rfl, eb_X12_wordsOf_41 w]
def rb_X12_tells_87 (S : r_S) (xs0 : Int32) (Q : Option Value → r_S → Prop) : Prop := Q (some (.int xs0)) S
set_option maxRecDepth 100000 in
set_option maxHeartbeats 4000000 in
theorem eb_X12_tells_87 {m : Nat} {ad : Nat → Nat} {fo : Nat → Option Nat} {st : Nat → Nat} {S0 : q_S} (w : r_WF m ad fo st S0)  (S : r_S) (xs0 : Int32) (Q : Option Value → q_S → Prop) : wb_X12_tells_87 (r_E m fo S S0) xs0 Q ↔ rb_X12_tells_87 S xs0 (fun r S => Q r (r_E m fo S S0)) := by
  unfold wb_X12_tells_87 rb_X12_tells_87
  simp only [r_eK, r_eI, r_eIs, r_eP, r_eN, true_and, Option.some.injEq, exists_eq_left', r_all, w.1]
def rb_X12_tells_63 (S : r_S) (xs0 : Int32) (Q : Option Value → r_S → Prop) : Prop := Q (some (.int xs0)) S
set_option maxRecDepth 100000 in
set_option maxHeartbeats 4000000 in
theorem eb_X12_tells_63 {m : Nat} {ad : Nat → Nat} {fo : Nat → Option Nat} {st : Nat → Nat} {S0 : q_S} (w : r_WF m ad fo st S0)  (S : r_S) (xs0 : Int32) (Q : Option Value → q_S → Prop) : wb_X12_tells_63 (r_E m fo S S0) xs0 Q ↔ rb_X12_tells_63 S xs0 (fun r S => Q r (r_E m fo S S0)) := by
  unfold wb_X12_tells_63 rb_X12_tells_63
  simp only [r_eK, r_eI, r_eIs, r_eP, r_eN, true_and, Option.some.injEq, exists_eq_left', r_all, w.1]
def rm_X12_tells (S : r_S) (x1 : Int32) (x2 : Int32) (x3 : Int32) (Q : Option Value → r_S → Prop) : Prop := ((x2.toInt < 0 ∨ 3 < x2.toInt) → (vp_in (((16 : Int32) * x1) + x3) (r_N 2450) ∧ (Q (some (.int (r_A S 2450 (((16 : Int32) * x1) + x3).toNatClampNeg))) S))) ∧ ((x2 = (0 : Int32)) → (vp_in (((8 : Int32) * x1) + x3) (r_N 2492) ∧ (Q (some (.int (r_A S 2492 (((8 : Int32) * x1) + x3).toNatClampNeg))) S))) ∧ ((x2 = (1 : Int32)) → (vp_in (((8 : Int32) * x1) + x3) (r_N 2493) ∧ (((r_A S 2493 (((8 : Int32) * x1) + x3).toNatClampNeg) = 0 → (rb_X12_tells_63 S (0 : Int32) Q)) ∧ (¬ (r_A S 2493 (((8 : Int32) * x1) + x3).toNatClampNeg) = 0 → (rb_X12_tells_63 S (1 : Int32) Q))))) ∧ ((x2 = (2 : Int32)) → (vp_in (((8 : Int32) * x1) + x3) (r_N 2494) ∧ (Q (some (.int (r_A S 2494 (((8 : Int32) * x1) + x3).toNatClampNeg))) S))) ∧ ((x2 = (3 : Int32)) → (vp_in (((8 : Int32) * x1) + x3) (r_N 2496) ∧ (((r_A S 2496 (((8 : Int32) * x1) + x3).toNatClampNeg) = 0 → (rb_X12_tells_87 S (0 : Int32) Q)) ∧ (¬ (r_A S 2496 (((8 : Int32) * x1) + x3).toNatClampNeg) = 0 → (rb_X12_tells_87 S (1 : Int32) Q)))))
set_option maxRecDepth 100000 in
set_option maxHeartbeats 4000000 in
theorem em_X12_tells {m : Nat} {ad : Nat → Nat} {fo : Nat → Option Nat} {st : Nat → Nat} {S0 : q_S} (w : r_WF m ad fo st S0)  (S : r_S) (x1 : Int32) (x2 : Int32) (x3 : Int32) (Q : Option Value → q_S → Prop) : wm_X12_tells (r_E m fo S S0) m x1 x2 x3 Q ↔ rm_X12_tells S x1 x2 x3 (fun r S => Q r (r_E m fo S S0)) := by
  unfold wm_X12_tells rm_X12_tells
  simp only [r_eK, r_eI, r_eIs, r_eP, r_eN, true_and, Option.some.injEq, exists_eq_left', r_all, w.1, r_w1 w 2450 rfl, r_w2 w 2450 21 rfl rfl, r_w3 w 2450 rfl, r_eA w 2450 rfl, r_eAs w 2450 rfl, r_w1 w 2492 rfl, r_w2 w 2492 21 rfl rfl, r_w3 w 2492 rfl, r_eA w 2492 rfl, r_eAs w 2492 rfl, r_w1 w 2493 rfl, r_w2 w 2493 22 rfl rfl, r_w3 w 2493 rfl, r_eA w 2493 rfl, r_eAs w 2493 rfl, r_w1 w 2494 rfl, r_w2 w 2494 21 rfl rfl, r_w3 w 2494 rfl, r_eA w 2494 rfl, r_eAs w 2494 rfl, r_w1 w 2496 rfl, r_w2 w 2496 22 rfl rfl, r_w3 w 2496 rfl, r_eA w 2496 rfl, r_eAs w 2496 rfl, eb_X12_tells_63 w, eb_X12_tells_87 w]
def rb_X12_wait_219 (B36 : r_S → Int32 → Int32 → Int32 → Int32 → Int32 → Int32 → Prop) (S : r_S) (x1 : Int32) (x2 : Int32) (x3 : Int32) (x4 : Int32) (x6 : Int32) (xs0 : Int32) (xs1 : Int32) (Q : Option Value → r_S → Prop) : Prop := B36 S x1 x2 x3 x4 (xs0 + xs1) (x6 + 1)
set_option maxRecDepth 100000 in
set_option maxHeartbeats 4000000 in
theorem eb_X12_wait_219 {m : Nat} {ad : Nat → Nat} {fo : Nat → Option Nat} {st : Nat → Nat} {S0 : q_S} (w : r_WF m ad fo st S0) {OB36 : q_S → Nat → Int32 → Int32 → Int32 → Int32 → Int32 → Int32 → Prop} {B36 : r_S → Int32 → Int32 → Int32 → Int32 → Int32 → Int32 → Prop} (hB36 : ∀ (S : r_S) (y2 : Int32) (y3 : Int32) (y4 : Int32) (y5 : Int32) (y6 : Int32) (y7 : Int32), (OB36 (r_E m fo S S0) m y2 y3 y4 y5 y6 y7 ↔ B36 S y2 y3 y4 y5 y6 y7)) (S : r_S) (x1 : Int32) (x2 : Int32) (x3 : Int32) (x4 : Int32) (x6 : Int32) (xs0 : Int32) (xs1 : Int32) (Q : Option Value → q_S → Prop) : wb_X12_wait_219 OB36 (r_E m fo S S0) m x1 x2 x3 x4 x6 xs0 xs1 Q ↔ rb_X12_wait_219 B36 S x1 x2 x3 x4 x6 xs0 xs1 (fun r S => Q r (r_E m fo S S0)) := by
  unfold wb_X12_wait_219 rb_X12_wait_219
  simp only [r_eK, r_eI, r_eIs, r_eP, r_eN, true_and, Option.some.injEq, exists_eq_left', r_all, w.1, hB36]
def rb_X12_wait_218 (B36 : r_S → Int32 → Int32 → Int32 → Int32 → Int32 → Int32 → Prop) (S : r_S) (x1 : Int32) (x2 : Int32) (x3 : Int32) (x4 : Int32) (x6 : Int32) (xs0 : Int32) (Q : Option Value → r_S → Prop) : Prop := rb_X12_wait_219 B36 S x1 x2 x3 x4 x6 xs0 (0 : Int32) Q
set_option maxRecDepth 100000 in
set_option maxHeartbeats 4000000 in
theorem eb_X12_wait_218 {m : Nat} {ad : Nat → Nat} {fo : Nat → Option Nat} {st : Nat → Nat} {S0 : q_S} (w : r_WF m ad fo st S0) {OB36 : q_S → Nat → Int32 → Int32 → Int32 → Int32 → Int32 → Int32 → Prop} {B36 : r_S → Int32 → Int32 → Int32 → Int32 → Int32 → Int32 → Prop} (hB36 : ∀ (S : r_S) (y2 : Int32) (y3 : Int32) (y4 : Int32) (y5 : Int32) (y6 : Int32) (y7 : Int32), (OB36 (r_E m fo S S0) m y2 y3 y4 y5 y6 y7 ↔ B36 S y2 y3 y4 y5 y6 y7)) (S : r_S) (x1 : Int32) (x2 : Int32) (x3 : Int32) (x4 : Int32) (x6 : Int32) (xs0 : Int32) (Q : Option Value → q_S → Prop) : wb_X12_wait_218 OB36 (r_E m fo S S0) m x1 x2 x3 x4 x6 xs0 Q ↔ rb_X12_wait_218 B36 S x1 x2 x3 x4 x6 xs0 (fun r S => Q r (r_E m fo S S0)) := by
  unfold wb_X12_wait_218 rb_X12_wait_218
  simp only [r_eK, r_eI, r_eIs, r_eP, r_eN, true_and, Option.some.injEq, exists_eq_left', r_all, w.1, eb_X12_wait_219 w hB36, hB36]
def rb_X12_wait_193 (B36 : r_S → Int32 → Int32 → Int32 → Int32 → Int32 → Int32 → Prop) (S : r_S) (x1 : Int32) (x2 : Int32) (x3 : Int32) (x4 : Int32) (x5 : Int32) (x6 : Int32) (xs0 : Int32) (Q : Option Value → r_S → Prop) : Prop := (xs0 = 0 → (rb_X12_wait_218 B36 S x1 x2 x3 x4 x6 x5 Q)) ∧ (¬ xs0 = 0 → (vp_in x6 (r_N 2479) ∧ ((¬ (r_A S 2479 x6.toNatClampNeg) = x4 → (rb_X12_wait_218 B36 S x1 x2 x3 x4 x6 x5 Q)) ∧ ((r_A S 2479 x6.toNatClampNeg) = x4 → (rb_X12_wait_219 B36 S x1 x2 x3 x4 x6 x5 (1 : Int32) Q)))))
set_option maxRecDepth 100000 in
set_option maxHeartbeats 4000000 in
theorem eb_X12_wait_193 {m : Nat} {ad : Nat → Nat} {fo : Nat → Option Nat} {st : Nat → Nat} {S0 : q_S} (w : r_WF m ad fo st S0) {OB36 : q_S → Nat → Int32 → Int32 → Int32 → Int32 → Int32 → Int32 → Prop} {B36 : r_S → Int32 → Int32 → Int32 → Int32 → Int32 → Int32 → Prop} (hB36 : ∀ (S : r_S) (y2 : Int32) (y3 : Int32) (y4 : Int32) (y5 : Int32) (y6 : Int32) (y7 : Int32), (OB36 (r_E m fo S S0) m y2 y3 y4 y5 y6 y7 ↔ B36 S y2 y3 y4 y5 y6 y7)) (S : r_S) (x1 : Int32) (x2 : Int32) (x3 : Int32) (x4 : Int32) (x5 : Int32) (x6 : Int32) (xs0 : Int32) (Q : Option Value → q_S → Prop) : wb_X12_wait_193 OB36 (r_E m fo S S0) m x1 x2 x3 x4 x5 x6 xs0 Q ↔ rb_X12_wait_193 B36 S x1 x2 x3 x4 x5 x6 xs0 (fun r S => Q r (r_E m fo S S0)) := by
  unfold wb_X12_wait_193 rb_X12_wait_193
  simp only [r_eK, r_eI, r_eIs, r_eP, r_eN, true_and, Option.some.injEq, exists_eq_left', r_all, w.1, r_w1 w 2479 rfl, r_w2 w 2479 21 rfl rfl, r_w3 w 2479 rfl, r_eA w 2479 rfl, r_eAs w 2479 rfl, eb_X12_wait_218 w hB36, eb_X12_wait_219 w hB36, hB36]
def rb_X12_wait_124 (B36 : r_S → Int32 → Int32 → Int32 → Int32 → Int32 → Int32 → Prop) (S : r_S) (x1 : Int32) (x2 : Int32) (x3 : Int32) (x4 : Int32) (x5 : Int32) (x6 : Int32) (Q : Option Value → r_S → Prop) : Prop := rb_X12_wait_193 B36 S x1 x2 x3 x4 x5 x6 (1 : Int32) Q
set_option maxRecDepth 100000 in
set_option maxHeartbeats 4000000 in
theorem eb_X12_wait_124 {m : Nat} {ad : Nat → Nat} {fo : Nat → Option Nat} {st : Nat → Nat} {S0 : q_S} (w : r_WF m ad fo st S0) {OB36 : q_S → Nat → Int32 → Int32 → Int32 → Int32 → Int32 → Int32 → Prop} {B36 : r_S → Int32 → Int32 → Int32 → Int32 → Int32 → Int32 → Prop} (hB36 : ∀ (S : r_S) (y2 : Int32) (y3 : Int32) (y4 : Int32) (y5 : Int32) (y6 : Int32) (y7 : Int32), (OB36 (r_E m fo S S0) m y2 y3 y4 y5 y6 y7 ↔ B36 S y2 y3 y4 y5 y6 y7)) (S : r_S) (x1 : Int32) (x2 : Int32) (x3 : Int32) (x4 : Int32) (x5 : Int32) (x6 : Int32) (Q : Option Value → q_S → Prop) : wb_X12_wait_124 OB36 (r_E m fo S S0) m x1 x2 x3 x4 x5 x6 Q ↔ rb_X12_wait_124 B36 S x1 x2 x3 x4 x5 x6 (fun r S => Q r (r_E m fo S S0)) := by
  unfold wb_X12_wait_124 rb_X12_wait_124
  simp only [r_eK, r_eI, r_eIs, r_eP, r_eN, true_and, Option.some.injEq, exists_eq_left', r_all, w.1, eb_X12_wait_193 w hB36, hB36]
def rb_X12_wait_192 (B36 : r_S → Int32 → Int32 → Int32 → Int32 → Int32 → Int32 → Prop) (S : r_S) (x1 : Int32) (x2 : Int32) (x3 : Int32) (x4 : Int32) (x5 : Int32) (x6 : Int32) (Q : Option Value → r_S → Prop) : Prop := rb_X12_wait_193 B36 S x1 x2 x3 x4 x5 x6 (0 : Int32) Q
set_option maxRecDepth 100000 in
set_option maxHeartbeats 4000000 in
theorem eb_X12_wait_192 {m : Nat} {ad : Nat → Nat} {fo : Nat → Option Nat} {st : Nat → Nat} {S0 : q_S} (w : r_WF m ad fo st S0) {OB36 : q_S → Nat → Int32 → Int32 → Int32 → Int32 → Int32 → Int32 → Prop} {B36 : r_S → Int32 → Int32 → Int32 → Int32 → Int32 → Int32 → Prop} (hB36 : ∀ (S : r_S) (y2 : Int32) (y3 : Int32) (y4 : Int32) (y5 : Int32) (y6 : Int32) (y7 : Int32), (OB36 (r_E m fo S S0) m y2 y3 y4 y5 y6 y7 ↔ B36 S y2 y3 y4 y5 y6 y7)) (S : r_S) (x1 : Int32) (x2 : Int32) (x3 : Int32) (x4 : Int32) (x5 : Int32) (x6 : Int32) (Q : Option Value → q_S → Prop) : wb_X12_wait_192 OB36 (r_E m fo S S0) m x1 x2 x3 x4 x5 x6 Q ↔ rb_X12_wait_192 B36 S x1 x2 x3 x4 x5 x6 (fun r S => Q r (r_E m fo S S0)) := by
  unfold wb_X12_wait_192 rb_X12_wait_192
  simp only [r_eK, r_eI, r_eIs, r_eP, r_eN, true_and, Option.some.injEq, exists_eq_left', r_all, w.1, eb_X12_wait_193 w hB36, hB36]
def rb_X12_wait_174 (B36 : r_S → Int32 → Int32 → Int32 → Int32 → Int32 → Int32 → Prop) (S : r_S) (x1 : Int32) (x2 : Int32) (x3 : Int32) (x4 : Int32) (x5 : Int32) (x6 : Int32) (xs0 : Int32) (xs1 : Int32) (Q : Option Value → r_S → Prop) : Prop := (¬ xs0 = xs1 → (rb_X12_wait_192 B36 S x1 x2 x3 x4 x5 x6 Q)) ∧ (xs0 = xs1 → (vp_in x6 (r_N 2480) ∧ ((¬ (r_A S 2480 x6.toNatClampNeg) = x3 → (rb_X12_wait_192 B36 S x1 x2 x3 x4 x5 x6 Q)) ∧ ((r_A S 2480 x6.toNatClampNeg) = x3 → (rb_X12_wait_193 B36 S x1 x2 x3 x4 x5 x6 (1 : Int32) Q)))))
set_option maxRecDepth 100000 in
set_option maxHeartbeats 4000000 in
theorem eb_X12_wait_174 {m : Nat} {ad : Nat → Nat} {fo : Nat → Option Nat} {st : Nat → Nat} {S0 : q_S} (w : r_WF m ad fo st S0) {OB36 : q_S → Nat → Int32 → Int32 → Int32 → Int32 → Int32 → Int32 → Prop} {B36 : r_S → Int32 → Int32 → Int32 → Int32 → Int32 → Int32 → Prop} (hB36 : ∀ (S : r_S) (y2 : Int32) (y3 : Int32) (y4 : Int32) (y5 : Int32) (y6 : Int32) (y7 : Int32), (OB36 (r_E m fo S S0) m y2 y3 y4 y5 y6 y7 ↔ B36 S y2 y3 y4 y5 y6 y7)) (S : r_S) (x1 : Int32) (x2 : Int32) (x3 : Int32) (x4 : Int32) (x5 : Int32) (x6 : Int32) (xs0 : Int32) (xs1 : Int32) (Q : Option Value → q_S → Prop) : wb_X12_wait_174 OB36 (r_E m fo S S0) m x1 x2 x3 x4 x5 x6 xs0 xs1 Q ↔ rb_X12_wait_174 B36 S x1 x2 x3 x4 x5 x6 xs0 xs1 (fun r S => Q r (r_E m fo S S0)) := by
  unfold wb_X12_wait_174 rb_X12_wait_174
  simp only [r_eK, r_eI, r_eIs, r_eP, r_eN, true_and, Option.some.injEq, exists_eq_left', r_all, w.1, r_w1 w 2480 rfl, r_w2 w 2480 21 rfl rfl, r_w3 w 2480 rfl, r_eA w 2480 rfl, r_eAs w 2480 rfl, eb_X12_wait_192 w hB36, eb_X12_wait_193 w hB36, hB36]
def rb_X12_wait_68 (B36 : r_S → Int32 → Int32 → Int32 → Int32 → Int32 → Int32 → Prop) (S : r_S) (x1 : Int32) (x2 : Int32) (x3 : Int32) (x4 : Int32) (x5 : Int32) (x6 : Int32) (xs0 : Int32) (Q : Option Value → r_S → Prop) : Prop := (¬ x2 = 0 → ((¬ x2 = (1 : Int32) → ((¬ x2 = (2 : Int32) → ((¬ x2 = (3 : Int32) → (vp_in (((16 : Int32) * x1) + x3) (r_N 2448) ∧ (((r_A S 2448 (((16 : Int32) * x1) + x3).toNatClampNeg) = 0 → (rb_X12_wait_174 B36 S x1 x2 x3 x4 x5 x6 xs0 (6 : Int32) Q)) ∧ (¬ (r_A S 2448 (((16 : Int32) * x1) + x3).toNatClampNeg) = 0 → (rb_X12_wait_174 B36 S x1 x2 x3 x4 x5 x6 xs0 (7 : Int32) Q))))) ∧ (x2 = (3 : Int32) → ((¬ xs0 = (5 : Int32) → (rb_X12_wait_193 B36 S x1 x2 x3 x4 x5 x6 (0 : Int32) Q)) ∧ (xs0 = (5 : Int32) → (rb_X12_wait_193 B36 S x1 x2 x3 x4 x5 x6 (1 : Int32) Q)))))) ∧ (x2 = (2 : Int32) → ((xs0 = (3 : Int32) → (rb_X12_wait_124 B36 S x1 x2 x3 x4 x5 x6 Q)) ∧ (¬ xs0 = (3 : Int32) → ((¬ xs0 = (4 : Int32) → (rb_X12_wait_193 B36 S x1 x2 x3 x4 x5 x6 (0 : Int32) Q)) ∧ (xs0 = (4 : Int32) → (rb_X12_wait_124 B36 S x1 x2 x3 x4 x5 x6 Q)))))))) ∧ (x2 = (1 : Int32) → ((¬ xs0 = (2 : Int32) → (rb_X12_wait_193 B36 S x1 x2 x3 x4 x5 x6 (0 : Int32) Q)) ∧ (xs0 = (2 : Int32) → (rb_X12_wait_193 B36 S x1 x2 x3 x4 x5 x6 (1 : Int32) Q)))))) ∧ (x2 = 0 → ((¬ xs0 = (1 : Int32) → (rb_X12_wait_193 B36 S x1 x2 x3 x4 x5 x6 (0 : Int32) Q)) ∧ (xs0 = (1 : Int32) → (rb_X12_wait_193 B36 S x1 x2 x3 x4 x5 x6 (1 : Int32) Q))))
set_option maxRecDepth 100000 in
set_option maxHeartbeats 4000000 in
theorem eb_X12_wait_68 {m : Nat} {ad : Nat → Nat} {fo : Nat → Option Nat} {st : Nat → Nat} {S0 : q_S} (w : r_WF m ad fo st S0) {OB36 : q_S → Nat → Int32 → Int32 → Int32 → Int32 → Int32 → Int32 → Prop} {B36 : r_S → Int32 → Int32 → Int32 → Int32 → Int32 → Int32 → Prop} (hB36 : ∀ (S : r_S) (y2 : Int32) (y3 : Int32) (y4 : Int32) (y5 : Int32) (y6 : Int32) (y7 : Int32), (OB36 (r_E m fo S S0) m y2 y3 y4 y5 y6 y7 ↔ B36 S y2 y3 y4 y5 y6 y7)) (S : r_S) (x1 : Int32) (x2 : Int32) (x3 : Int32) (x4 : Int32) (x5 : Int32) (x6 : Int32) (xs0 : Int32) (Q : Option Value → q_S → Prop) : wb_X12_wait_68 OB36 (r_E m fo S S0) m x1 x2 x3 x4 x5 x6 xs0 Q ↔ rb_X12_wait_68 B36 S x1 x2 x3 x4 x5 x6 xs0 (fun r S => Q r (r_E m fo S S0)) := by
  unfold wb_X12_wait_68 rb_X12_wait_68
  simp only [r_eK, r_eI, r_eIs, r_eP, r_eN, true_and, Option.some.injEq, exists_eq_left', r_all, w.1, r_w1 w 2448 rfl, r_w2 w 2448 22 rfl rfl, r_w3 w 2448 rfl, r_eA w 2448 rfl, r_eAs w 2448 rfl, eb_X12_wait_124 w hB36, eb_X12_wait_174 w hB36, eb_X12_wait_193 w hB36, hB36]
def rb_X12_wait_36 (B36 : r_S → Int32 → Int32 → Int32 → Int32 → Int32 → Int32 → Prop) (S : r_S) (x1 : Int32) (x2 : Int32) (x3 : Int32) (x4 : Int32) (x5 : Int32) (x6 : Int32) (Q : Option Value → r_S → Prop) : Prop := rm_X12_lastOf S x1 (fun r31_ S32_ => ∃ x33_ : Int32, r31_ = some (.int x33_) ∧ ((x33_ ≤ x6 → (Q (some (.int x5)) S32_)) ∧ (¬ x33_ ≤ x6 → (vp_in x6 (r_N 2467) ∧ ((¬ (r_A S32_ 2467 x6.toNatClampNeg) = (2 : Int32) → (rb_X12_wait_68 B36 S32_ x1 x2 x3 x4 x5 x6 (0 : Int32) Q)) ∧ ((r_A S32_ 2467 x6.toNatClampNeg) = (2 : Int32) → (vp_in x6 (r_N 2478) ∧ (rb_X12_wait_68 B36 S32_ x1 x2 x3 x4 x5 x6 (r_A S32_ 2478 x6.toNatClampNeg) Q))))))))
set_option maxRecDepth 100000 in
set_option maxHeartbeats 4000000 in
theorem eb_X12_wait_36 {m : Nat} {ad : Nat → Nat} {fo : Nat → Option Nat} {st : Nat → Nat} {S0 : q_S} (w : r_WF m ad fo st S0) {OB36 : q_S → Nat → Int32 → Int32 → Int32 → Int32 → Int32 → Int32 → Prop} {B36 : r_S → Int32 → Int32 → Int32 → Int32 → Int32 → Int32 → Prop} (hB36 : ∀ (S : r_S) (y2 : Int32) (y3 : Int32) (y4 : Int32) (y5 : Int32) (y6 : Int32) (y7 : Int32), (OB36 (r_E m fo S S0) m y2 y3 y4 y5 y6 y7 ↔ B36 S y2 y3 y4 y5 y6 y7)) (S : r_S) (x1 : Int32) (x2 : Int32) (x3 : Int32) (x4 : Int32) (x5 : Int32) (x6 : Int32) (Q : Option Value → q_S → Prop) : wb_X12_wait_36 OB36 (r_E m fo S S0) m x1 x2 x3 x4 x5 x6 Q ↔ rb_X12_wait_36 B36 S x1 x2 x3 x4 x5 x6 (fun r S => Q r (r_E m fo S S0)) := by
  unfold wb_X12_wait_36 rb_X12_wait_36
  simp only [r_eK, r_eI, r_eIs, r_eP, r_eN, true_and, Option.some.injEq, exists_eq_left', r_all, w.1, r_w1 w 2467 rfl, r_w2 w 2467 21 rfl rfl, r_w3 w 2467 rfl, r_eA w 2467 rfl, r_eAs w 2467 rfl, r_w1 w 2478 rfl, r_w2 w 2478 21 rfl rfl, r_w3 w 2478 rfl, r_eA w 2478 rfl, r_eAs w 2478 rfl, eb_X12_wait_68 w hB36, em_X12_lastOf w, hB36]
def rl_X12_wait_36  : Nat → r_S → Int32 → Int32 → Int32 → Int32 → Int32 → Int32 → (Option Value → r_S → Prop) → Prop
  | 0, _, _, _, _, _, _, _, _ => False
  | n + 1, S, x1, x2, x3, x4, x5, x6, Q => rb_X12_wait_36 (fun S x1 x2 x3 x4 x5 x6 => rl_X12_wait_36 n S x1 x2 x3 x4 x5 x6 Q) S x1 x2 x3 x4 x5 x6 Q
set_option maxRecDepth 100000 in
theorem el_X12_wait_36 {m : Nat} {ad : Nat → Nat} {fo : Nat → Option Nat} {st : Nat → Nat} {S0 : q_S} (w : r_WF m ad fo st S0)  (n : Nat) (S : r_S) (x1 : Int32) (x2 : Int32) (x3 : Int32) (x4 : Int32) (x5 : Int32) (x6 : Int32) (Q : Option Value → q_S → Prop) : wl_X12_wait_36 n (r_E m fo S S0) m x1 x2 x3 x4 x5 x6 Q ↔ rl_X12_wait_36 n S x1 x2 x3 x4 x5 x6 (fun r S => Q r (r_E m fo S S0)) := by
  induction n generalizing S x1 x2 x3 x4 x5 x6 with
  | zero => exact Iff.rfl
  | succ n ih => exact eb_X12_wait_36 w (fun _ _ _ _ _ _ _ => ih _ _ _ _ _ _ _) S x1 x2 x3 x4 x5 x6 Q
def rb_X12_wait_25 (S : r_S) (x1 : Int32) (x2 : Int32) (x3 : Int32) (xs0 : Int32) (Q : Option Value → r_S → Prop) : Prop := ∃ n45_ : Nat, rl_X12_wait_36 n45_ S x1 x2 x3 xs0 (0 : Int32) ((16 : Int32) * x1) Q
set_option maxRecDepth 100000 in
set_option maxHeartbeats 4000000 in
theorem eb_X12_wait_25 {m : Nat} {ad : Nat → Nat} {fo : Nat → Option Nat} {st : Nat → Nat} {S0 : q_S} (w : r_WF m ad fo st S0)  (S : r_S) (x1 : Int32) (x2 : Int32) (x3 : Int32) (xs0 : Int32) (Q : Option Value → q_S → Prop) : wb_X12_wait_25 (r_E m fo S S0) m x1 x2 x3 xs0 Q ↔ rb_X12_wait_25 S x1 x2 x3 xs0 (fun r S => Q r (r_E m fo S S0)) := by
  unfold wb_X12_wait_25 rb_X12_wait_25
  simp only [r_eK, r_eI, r_eIs, r_eP, r_eN, true_and, Option.some.injEq, exists_eq_left', r_all, w.1, el_X12_wait_36 w]
def rm_X12_wait (S : r_S) (x1 : Int32) (x2 : Int32) (x3 : Int32) (Q : Option Value → r_S → Prop) : Prop := (¬ x2 = (4 : Int32) → (rb_X12_wait_25 S x1 x2 x3 (((8 : Int32) * x1) + x3) Q)) ∧ (x2 = (4 : Int32) → (vp_in (((16 : Int32) * x1) + x3) (r_N 2450) ∧ (rb_X12_wait_25 S x1 x2 x3 (r_A S 2450 (((16 : Int32) * x1) + x3).toNatClampNeg) Q)))
set_option maxRecDepth 100000 in
set_option maxHeartbeats 4000000 in
theorem em_X12_wait {m : Nat} {ad : Nat → Nat} {fo : Nat → Option Nat} {st : Nat → Nat} {S0 : q_S} (w : r_WF m ad fo st S0)  (S : r_S) (x1 : Int32) (x2 : Int32) (x3 : Int32) (Q : Option Value → q_S → Prop) : wm_X12_wait (r_E m fo S S0) m x1 x2 x3 Q ↔ rm_X12_wait S x1 x2 x3 (fun r S => Q r (r_E m fo S S0)) := by
  unfold wm_X12_wait rm_X12_wait
  simp only [r_eK, r_eI, r_eIs, r_eP, r_eN, true_and, Option.some.injEq, exists_eq_left', r_all, w.1, r_w1 w 2450 rfl, r_w2 w 2450 21 rfl rfl, r_w3 w 2450 rfl, r_eA w 2450 rfl, r_eAs w 2450 rfl, eb_X12_wait_25 w]
def rb_X12_frames_79 (B79 : r_S → Int32 → Int32 → Int32 → Int32 → Prop) (S : r_S) (x1 : Int32) (x2 : Int32) (x5 : Int32) (x6 : Int32) (Q : Option Value → r_S → Prop) : Prop := vp_in x6 (r_N 2461) ∧ (((r_A S 2461 x6.toNatClampNeg) = x1 → (vp_in (((32 : Int32) * x2) + (12 : Int32)) (r_N 2477) ∧ (vp_in (((32 : Int32) * x2) + (13 : Int32)) (r_N 2477) ∧ (∀ S15_ : r_S, S15_ = (rs_A (rs_A S 2477 (((32 : Int32) * x2) + (12 : Int32)).toNatClampNeg x5) 2477 (((32 : Int32) * x2) + (13 : Int32)).toNatClampNeg (r_I (rs_A S 2477 (((32 : Int32) * x2) + (12 : Int32)).toNatClampNeg x5) 2420)) → (Q (some (.int (0 : Int32))) S15_))))) ∧ (¬ (r_A S 2461 x6.toNatClampNeg) = x1 → (vp_in x6 (r_N 2462) ∧ ((¬ (r_I S 2417) = 0) ∧ (B79 S x1 x2 (x5 + (r_A S 2462 x6.toNatClampNeg)) ((x6 + (1 : Int32)) - (x6 + (1 : Int32)) / (r_I S 2417) * (r_I S 2417)))))))
set_option maxRecDepth 100000 in
set_option maxHeartbeats 4000000 in
theorem eb_X12_frames_79 {m : Nat} {ad : Nat → Nat} {fo : Nat → Option Nat} {st : Nat → Nat} {S0 : q_S} (w : r_WF m ad fo st S0) {OB79 : q_S → Nat → Int32 → Int32 → Int32 → Int32 → Prop} {B79 : r_S → Int32 → Int32 → Int32 → Int32 → Prop} (hB79 : ∀ (S : r_S) (y2 : Int32) (y3 : Int32) (y4 : Int32) (y5 : Int32), (OB79 (r_E m fo S S0) m y2 y3 y4 y5 ↔ B79 S y2 y3 y4 y5)) (S : r_S) (x1 : Int32) (x2 : Int32) (x5 : Int32) (x6 : Int32) (Q : Option Value → q_S → Prop) : wb_X12_frames_79 OB79 (r_E m fo S S0) m x1 x2 x5 x6 Q ↔ rb_X12_frames_79 B79 S x1 x2 x5 x6 (fun r S => Q r (r_E m fo S S0)) := by
  unfold wb_X12_frames_79 rb_X12_frames_79
  simp only [r_eK, r_eI, r_eIs, r_eP, r_eN, true_and, Option.some.injEq, exists_eq_left', r_all, w.1, r_w1 w 2461 rfl, r_w2 w 2461 21 rfl rfl, r_w3 w 2461 rfl, r_eA w 2461 rfl, r_eAs w 2461 rfl, r_w1 w 2462 rfl, r_w2 w 2462 21 rfl rfl, r_w3 w 2462 rfl, r_eA w 2462 rfl, r_eAs w 2462 rfl, r_w1 w 2477 rfl, r_w2 w 2477 21 rfl rfl, r_w3 w 2477 rfl, r_eA w 2477 rfl, r_eAs w 2477 rfl, hB79]
def rl_X12_frames_79  : Nat → r_S → Int32 → Int32 → Int32 → Int32 → (Option Value → r_S → Prop) → Prop
  | 0, _, _, _, _, _, _ => False
  | n + 1, S, x1, x2, x5, x6, Q => rb_X12_frames_79 (fun S x1 x2 x5 x6 => rl_X12_frames_79 n S x1 x2 x5 x6 Q) S x1 x2 x5 x6 Q
set_option maxRecDepth 100000 in
theorem el_X12_frames_79 {m : Nat} {ad : Nat → Nat} {fo : Nat → Option Nat} {st : Nat → Nat} {S0 : q_S} (w : r_WF m ad fo st S0)  (n : Nat) (S : r_S) (x1 : Int32) (x2 : Int32) (x5 : Int32) (x6 : Int32) (Q : Option Value → q_S → Prop) : wl_X12_frames_79 n (r_E m fo S S0) m x1 x2 x5 x6 Q ↔ rl_X12_frames_79 n S x1 x2 x5 x6 (fun r S => Q r (r_E m fo S S0)) := by
  induction n generalizing S x1 x2 x5 x6 with
  | zero => exact Iff.rfl
  | succ n ih => exact eb_X12_frames_79 w (fun _ _ _ _ _ => ih _ _ _ _ _) S x1 x2 x5 x6 Q
def rb_X12_frames_11 (B11 : r_S → Int32 → Int32 → Int32 → Int32 → Int32 → Prop) (S : r_S) (x1 : Int32) (x2 : Int32) (x3 : Int32) (x4 : Int32) (x5 : Int32) (Q : Option Value → r_S → Prop) : Prop := (x3 ≤ x5 → (vp_in x3 (r_N 2462) ∧ ((¬ (r_I S 2420) = 0) ∧ (vp_in (((32 : Int32) * x2) + (11 : Int32)) (r_N 2477) ∧ ((¬ (r_I (rs_A S 2477 (((32 : Int32) * x2) + (11 : Int32)).toNatClampNeg ((x4 + (r_A S 2462 x3.toNatClampNeg)) - ((r_I S 2463) - (r_I S 2463) / (r_I S 2420) * (r_I S 2420)))) 2417) = 0) ∧ (∃ n33_ : Nat, rl_X12_frames_79 n33_ (rs_A S 2477 (((32 : Int32) * x2) + (11 : Int32)).toNatClampNeg ((x4 + (r_A S 2462 x3.toNatClampNeg)) - ((r_I S 2463) - (r_I S 2463) / (r_I S 2420) * (r_I S 2420)))) x1 x2 (0 : Int32) ((x3 + (1 : Int32)) - (x3 + (1 : Int32)) / (r_I (rs_A S 2477 (((32 : Int32) * x2) + (11 : Int32)).toNatClampNeg ((x4 + (r_A S 2462 x3.toNatClampNeg)) - ((r_I S 2463) - (r_I S 2463) / (r_I S 2420) * (r_I S 2420)))) 2417) * (r_I (rs_A S 2477 (((32 : Int32) * x2) + (11 : Int32)).toNatClampNeg ((x4 + (r_A S 2462 x3.toNatClampNeg)) - ((r_I S 2463) - (r_I S 2463) / (r_I S 2420) * (r_I S 2420)))) 2417)) Q)))))) ∧ (¬ x3 ≤ x5 → (vp_in x5 (r_N 2462) ∧ (B11 S x1 x2 x3 (x4 + (r_A S 2462 x5.toNatClampNeg)) (x5 + 1))))
set_option maxRecDepth 100000 in
set_option maxHeartbeats 4000000 in
theorem eb_X12_frames_11 {m : Nat} {ad : Nat → Nat} {fo : Nat → Option Nat} {st : Nat → Nat} {S0 : q_S} (w : r_WF m ad fo st S0) {OB11 : q_S → Nat → Int32 → Int32 → Int32 → Int32 → Int32 → Prop} {B11 : r_S → Int32 → Int32 → Int32 → Int32 → Int32 → Prop} (hB11 : ∀ (S : r_S) (y2 : Int32) (y3 : Int32) (y4 : Int32) (y5 : Int32) (y6 : Int32), (OB11 (r_E m fo S S0) m y2 y3 y4 y5 y6 ↔ B11 S y2 y3 y4 y5 y6)) (S : r_S) (x1 : Int32) (x2 : Int32) (x3 : Int32) (x4 : Int32) (x5 : Int32) (Q : Option Value → q_S → Prop) : wb_X12_frames_11 OB11 (r_E m fo S S0) m x1 x2 x3 x4 x5 Q ↔ rb_X12_frames_11 B11 S x1 x2 x3 x4 x5 (fun r S => Q r (r_E m fo S S0)) := by
  unfold wb_X12_frames_11 rb_X12_frames_11
  simp only [r_eK, r_eI, r_eIs, r_eP, r_eN, true_and, Option.some.injEq, exists_eq_left', r_all, w.1, r_w1 w 2462 rfl, r_w2 w 2462 21 rfl rfl, r_w3 w 2462 rfl, r_eA w 2462 rfl, r_eAs w 2462 rfl, r_w1 w 2477 rfl, r_w2 w 2477 21 rfl rfl, r_w3 w 2477 rfl, r_eA w 2477 rfl, r_eAs w 2477 rfl, el_X12_frames_79 w, hB11]
def rl_X12_frames_11  : Nat → r_S → Int32 → Int32 → Int32 → Int32 → Int32 → (Option Value → r_S → Prop) → Prop
  | 0, _, _, _, _, _, _, _ => False
  | n + 1, S, x1, x2, x3, x4, x5, Q => rb_X12_frames_11 (fun S x1 x2 x3 x4 x5 => rl_X12_frames_11 n S x1 x2 x3 x4 x5 Q) S x1 x2 x3 x4 x5 Q
set_option maxRecDepth 100000 in
theorem el_X12_frames_11 {m : Nat} {ad : Nat → Nat} {fo : Nat → Option Nat} {st : Nat → Nat} {S0 : q_S} (w : r_WF m ad fo st S0)  (n : Nat) (S : r_S) (x1 : Int32) (x2 : Int32) (x3 : Int32) (x4 : Int32) (x5 : Int32) (Q : Option Value → q_S → Prop) : wl_X12_frames_11 n (r_E m fo S S0) m x1 x2 x3 x4 x5 Q ↔ rl_X12_frames_11 n S x1 x2 x3 x4 x5 (fun r S => Q r (r_E m fo S S0)) := by
  induction n generalizing S x1 x2 x3 x4 x5 with
  | zero => exact Iff.rfl
  | succ n ih => exact eb_X12_frames_11 w (fun _ _ _ _ _ _ => ih _ _ _ _ _ _) S x1 x2 x3 x4 x5 Q
def rm_X12_frames (S : r_S) (x1 : Int32) (x2 : Int32) (Q : Option Value → r_S → Prop) : Prop := rm_X12_window S (fun r40_ S41_ => ∃ x42_ : Int32, r40_ = some (.int x42_) ∧ (∃ n43_ : Nat, rl_X12_frames_11 n43_ S41_ x1 x2 x42_ (0 : Int32) (0 : Int32) Q))
set_option maxRecDepth 100000 in
set_option maxHeartbeats 4000000 in
theorem em_X12_frames {m : Nat} {ad : Nat → Nat} {fo : Nat → Option Nat} {st : Nat → Nat} {S0 : q_S} (w : r_WF m ad fo st S0)  (S : r_S) (x1 : Int32) (x2 : Int32) (Q : Option Value → q_S → Prop) : wm_X12_frames (r_E m fo S S0) m x1 x2 Q ↔ rm_X12_frames S x1 x2 (fun r S => Q r (r_E m fo S S0)) := by
  unfold wm_X12_frames rm_X12_frames
  simp only [r_eK, r_eI, r_eIs, r_eP, r_eN, true_and, Option.some.injEq, exists_eq_left', r_all, w.1, el_X12_frames_11 w, em_X12_window w]
def rb_X12_named_34 (S : r_S) (Q : Option Value → r_S → Prop) : Prop := Q (some (.int (1 : Int32))) S
set_option maxRecDepth 100000 in
set_option maxHeartbeats 4000000 in
theorem eb_X12_named_34 {m : Nat} {ad : Nat → Nat} {fo : Nat → Option Nat} {st : Nat → Nat} {S0 : q_S} (w : r_WF m ad fo st S0)  (S : r_S) (Q : Option Value → q_S → Prop) : wb_X12_named_34 (r_E m fo S S0) Q ↔ rb_X12_named_34 S (fun r S => Q r (r_E m fo S S0)) := by
  unfold wb_X12_named_34 rb_X12_named_34
  simp only [r_eK, r_eI, r_eIs, r_eP, r_eN, true_and, Option.some.injEq, exists_eq_left', r_all, w.1]
def rb_X12_named_142 (B42 : r_S → Int32 → Int32 → Int32 → Int32 → Int32 → Int32 → Prop) (B91 : r_S → Int32 → Int32 → Int32 → Int32 → Int32 → Int32 → Int32 → Int32 → Prop) (S : r_S) (x1 : Int32) (x2 : Int32) (x3 : Int32) (x4 : Int32) (x5 : Int32) (x6 : Int32) (x8 : Int32) (xs0 : Int32) (Q : Option Value → r_S → Prop) : Prop := B91 S x1 x2 x3 x4 x5 x6 xs0 (x8 + 1)
set_option maxRecDepth 100000 in
set_option maxHeartbeats 4000000 in
theorem eb_X12_named_142 {m : Nat} {ad : Nat → Nat} {fo : Nat → Option Nat} {st : Nat → Nat} {S0 : q_S} (w : r_WF m ad fo st S0) {OB42 : q_S → Nat → Int32 → Int32 → Int32 → Int32 → Int32 → Int32 → Prop} {B42 : r_S → Int32 → Int32 → Int32 → Int32 → Int32 → Int32 → Prop} {OB91 : q_S → Nat → Int32 → Int32 → Int32 → Int32 → Int32 → Int32 → Int32 → Int32 → Prop} {B91 : r_S → Int32 → Int32 → Int32 → Int32 → Int32 → Int32 → Int32 → Int32 → Prop} (hB42 : ∀ (S : r_S) (y2 : Int32) (y3 : Int32) (y4 : Int32) (y5 : Int32) (y6 : Int32) (y7 : Int32), (OB42 (r_E m fo S S0) m y2 y3 y4 y5 y6 y7 ↔ B42 S y2 y3 y4 y5 y6 y7)) (hB91 : ∀ (S : r_S) (y2 : Int32) (y3 : Int32) (y4 : Int32) (y5 : Int32) (y6 : Int32) (y7 : Int32) (y8 : Int32) (y9 : Int32), (OB91 (r_E m fo S S0) m y2 y3 y4 y5 y6 y7 y8 y9 ↔ B91 S y2 y3 y4 y5 y6 y7 y8 y9)) (S : r_S) (x1 : Int32) (x2 : Int32) (x3 : Int32) (x4 : Int32) (x5 : Int32) (x6 : Int32) (x8 : Int32) (xs0 : Int32) (Q : Option Value → q_S → Prop) : wb_X12_named_142 OB42 OB91 (r_E m fo S S0) m x1 x2 x3 x4 x5 x6 x8 xs0 Q ↔ rb_X12_named_142 B42 B91 S x1 x2 x3 x4 x5 x6 x8 xs0 (fun r S => Q r (r_E m fo S S0)) := by
  unfold wb_X12_named_142 rb_X12_named_142
  simp only [r_eK, r_eI, r_eIs, r_eP, r_eN, true_and, Option.some.injEq, exists_eq_left', r_all, w.1, hB42, hB91]
def rb_X12_named_150 (B42 : r_S → Int32 → Int32 → Int32 → Int32 → Int32 → Int32 → Prop) (S : r_S) (x1 : Int32) (x2 : Int32) (x3 : Int32) (x4 : Int32) (x5 : Int32) (x6 : Int32) (x7 : Int32) (Q : Option Value → r_S → Prop) : Prop := (¬ x7 = 0 → (vp_in x6 (r_N 2434) ∧ (vp_in (((32 : Int32) * x2) + (11 : Int32)) (r_N 2477) ∧ (Q (some (.int (0 : Int32))) (rs_A S 2477 (((32 : Int32) * x2) + (11 : Int32)).toNatClampNeg (r_A S 2434 x6.toNatClampNeg)))))) ∧ (x7 = 0 → (B42 S x1 x2 x3 x4 x5 (x6 + 1)))
set_option maxRecDepth 100000 in
set_option maxHeartbeats 4000000 in
theorem eb_X12_named_150 {m : Nat} {ad : Nat → Nat} {fo : Nat → Option Nat} {st : Nat → Nat} {S0 : q_S} (w : r_WF m ad fo st S0) {OB42 : q_S → Nat → Int32 → Int32 → Int32 → Int32 → Int32 → Int32 → Prop} {B42 : r_S → Int32 → Int32 → Int32 → Int32 → Int32 → Int32 → Prop} (hB42 : ∀ (S : r_S) (y2 : Int32) (y3 : Int32) (y4 : Int32) (y5 : Int32) (y6 : Int32) (y7 : Int32), (OB42 (r_E m fo S S0) m y2 y3 y4 y5 y6 y7 ↔ B42 S y2 y3 y4 y5 y6 y7)) (S : r_S) (x1 : Int32) (x2 : Int32) (x3 : Int32) (x4 : Int32) (x5 : Int32) (x6 : Int32) (x7 : Int32) (Q : Option Value → q_S → Prop) : wb_X12_named_150 OB42 (r_E m fo S S0) m x1 x2 x3 x4 x5 x6 x7 Q ↔ rb_X12_named_150 B42 S x1 x2 x3 x4 x5 x6 x7 (fun r S => Q r (r_E m fo S S0)) := by
  unfold wb_X12_named_150 rb_X12_named_150
  simp only [r_eK, r_eI, r_eIs, r_eP, r_eN, true_and, Option.some.injEq, exists_eq_left', r_all, w.1, r_w1 w 2434 rfl, r_w2 w 2434 21 rfl rfl, r_w3 w 2434 rfl, r_eA w 2434 rfl, r_eAs w 2434 rfl, r_w1 w 2477 rfl, r_w2 w 2477 21 rfl rfl, r_w3 w 2477 rfl, r_eA w 2477 rfl, r_eAs w 2477 rfl, hB42]
def rb_X12_named_91 (B42 : r_S → Int32 → Int32 → Int32 → Int32 → Int32 → Int32 → Prop) (B91 : r_S → Int32 → Int32 → Int32 → Int32 → Int32 → Int32 → Int32 → Int32 → Prop) (S : r_S) (x1 : Int32) (x2 : Int32) (x3 : Int32) (x4 : Int32) (x5 : Int32) (x6 : Int32) (x7 : Int32) (x8 : Int32) (Q : Option Value → r_S → Prop) : Prop := (x5 ≤ x8 → (rb_X12_named_150 B42 S x1 x2 x3 x4 x5 x6 x7 Q)) ∧ (¬ x5 ≤ x8 → ((x7 = 0 → (rb_X12_named_150 B42 S x1 x2 x3 x4 x5 x6 x7 Q)) ∧ (¬ x7 = 0 → (vp_in x6 (r_N 2431) ∧ (vp_in ((r_A S 2431 x6.toNatClampNeg) + x8) (r_N 2421) ∧ (vp_in ((((8192 : Int32) * x1) + x4) + x8) (r_N 2466) ∧ ((¬ (r_A S 2421 ((r_A S 2431 x6.toNatClampNeg) + x8).toNatClampNeg) = (r_A S 2466 ((((8192 : Int32) * x1) + x4) + x8).toNatClampNeg) → (rb_X12_named_142 B42 B91 S x1 x2 x3 x4 x5 x6 x8 (0 : Int32) Q)) ∧ ((r_A S 2421 ((r_A S 2431 x6.toNatClampNeg) + x8).toNatClampNeg) = (r_A S 2466 ((((8192 : Int32) * x1) + x4) + x8).toNatClampNeg) → (rb_X12_named_142 B42 B91 S x1 x2 x3 x4 x5 x6 x8 (1 : Int32) Q)))))))))
set_option maxRecDepth 100000 in
set_option maxHeartbeats 4000000 in
theorem eb_X12_named_91 {m : Nat} {ad : Nat → Nat} {fo : Nat → Option Nat} {st : Nat → Nat} {S0 : q_S} (w : r_WF m ad fo st S0) {OB42 : q_S → Nat → Int32 → Int32 → Int32 → Int32 → Int32 → Int32 → Prop} {B42 : r_S → Int32 → Int32 → Int32 → Int32 → Int32 → Int32 → Prop} {OB91 : q_S → Nat → Int32 → Int32 → Int32 → Int32 → Int32 → Int32 → Int32 → Int32 → Prop} {B91 : r_S → Int32 → Int32 → Int32 → Int32 → Int32 → Int32 → Int32 → Int32 → Prop} (hB42 : ∀ (S : r_S) (y2 : Int32) (y3 : Int32) (y4 : Int32) (y5 : Int32) (y6 : Int32) (y7 : Int32), (OB42 (r_E m fo S S0) m y2 y3 y4 y5 y6 y7 ↔ B42 S y2 y3 y4 y5 y6 y7)) (hB91 : ∀ (S : r_S) (y2 : Int32) (y3 : Int32) (y4 : Int32) (y5 : Int32) (y6 : Int32) (y7 : Int32) (y8 : Int32) (y9 : Int32), (OB91 (r_E m fo S S0) m y2 y3 y4 y5 y6 y7 y8 y9 ↔ B91 S y2 y3 y4 y5 y6 y7 y8 y9)) (S : r_S) (x1 : Int32) (x2 : Int32) (x3 : Int32) (x4 : Int32) (x5 : Int32) (x6 : Int32) (x7 : Int32) (x8 : Int32) (Q : Option Value → q_S → Prop) : wb_X12_named_91 OB42 OB91 (r_E m fo S S0) m x1 x2 x3 x4 x5 x6 x7 x8 Q ↔ rb_X12_named_91 B42 B91 S x1 x2 x3 x4 x5 x6 x7 x8 (fun r S => Q r (r_E m fo S S0)) := by
  unfold wb_X12_named_91 rb_X12_named_91
  simp only [r_eK, r_eI, r_eIs, r_eP, r_eN, true_and, Option.some.injEq, exists_eq_left', r_all, w.1, r_w1 w 2421 rfl, r_w2 w 2421 20 rfl rfl, r_w3 w 2421 rfl, r_eA w 2421 rfl, r_eAs w 2421 rfl, r_w1 w 2431 rfl, r_w2 w 2431 21 rfl rfl, r_w3 w 2431 rfl, r_eA w 2431 rfl, r_eAs w 2431 rfl, r_w1 w 2466 rfl, r_w2 w 2466 20 rfl rfl, r_w3 w 2466 rfl, r_eA w 2466 rfl, r_eAs w 2466 rfl, eb_X12_named_142 w hB42 hB91, eb_X12_named_150 w hB42, hB42, hB91]
def rl_X12_named_91 (B42 : r_S → Int32 → Int32 → Int32 → Int32 → Int32 → Int32 → Prop) : Nat → r_S → Int32 → Int32 → Int32 → Int32 → Int32 → Int32 → Int32 → Int32 → (Option Value → r_S → Prop) → Prop
  | 0, _, _, _, _, _, _, _, _, _, _ => False
  | n + 1, S, x1, x2, x3, x4, x5, x6, x7, x8, Q => rb_X12_named_91 B42 (fun S x1 x2 x3 x4 x5 x6 x7 x8 => rl_X12_named_91 B42 n S x1 x2 x3 x4 x5 x6 x7 x8 Q) S x1 x2 x3 x4 x5 x6 x7 x8 Q
set_option maxRecDepth 100000 in
theorem el_X12_named_91 {m : Nat} {ad : Nat → Nat} {fo : Nat → Option Nat} {st : Nat → Nat} {S0 : q_S} (w : r_WF m ad fo st S0) {OB42 : q_S → Nat → Int32 → Int32 → Int32 → Int32 → Int32 → Int32 → Prop} {B42 : r_S → Int32 → Int32 → Int32 → Int32 → Int32 → Int32 → Prop} (hB42 : ∀ (S : r_S) (y2 : Int32) (y3 : Int32) (y4 : Int32) (y5 : Int32) (y6 : Int32) (y7 : Int32), (OB42 (r_E m fo S S0) m y2 y3 y4 y5 y6 y7 ↔ B42 S y2 y3 y4 y5 y6 y7)) (n : Nat) (S : r_S) (x1 : Int32) (x2 : Int32) (x3 : Int32) (x4 : Int32) (x5 : Int32) (x6 : Int32) (x7 : Int32) (x8 : Int32) (Q : Option Value → q_S → Prop) : wl_X12_named_91 OB42 n (r_E m fo S S0) m x1 x2 x3 x4 x5 x6 x7 x8 Q ↔ rl_X12_named_91 B42 n S x1 x2 x3 x4 x5 x6 x7 x8 (fun r S => Q r (r_E m fo S S0)) := by
  induction n generalizing S x1 x2 x3 x4 x5 x6 x7 x8 with
  | zero => exact Iff.rfl
  | succ n ih => exact eb_X12_named_91 w hB42 (fun _ _ _ _ _ _ _ _ _ => ih _ _ _ _ _ _ _ _ _) S x1 x2 x3 x4 x5 x6 x7 x8 Q
def rb_X12_named_86 (B42 : r_S → Int32 → Int32 → Int32 → Int32 → Int32 → Int32 → Prop) (S : r_S) (x1 : Int32) (x2 : Int32) (x3 : Int32) (x4 : Int32) (x5 : Int32) (x6 : Int32) (xs0 : Int32) (Q : Option Value → r_S → Prop) : Prop := ∃ n27_ : Nat, rl_X12_named_91 B42 n27_ S x1 x2 x3 x4 x5 x6 xs0 (0 : Int32) Q
set_option maxRecDepth 100000 in
set_option maxHeartbeats 4000000 in
theorem eb_X12_named_86 {m : Nat} {ad : Nat → Nat} {fo : Nat → Option Nat} {st : Nat → Nat} {S0 : q_S} (w : r_WF m ad fo st S0) {OB42 : q_S → Nat → Int32 → Int32 → Int32 → Int32 → Int32 → Int32 → Prop} {B42 : r_S → Int32 → Int32 → Int32 → Int32 → Int32 → Int32 → Prop} (hB42 : ∀ (S : r_S) (y2 : Int32) (y3 : Int32) (y4 : Int32) (y5 : Int32) (y6 : Int32) (y7 : Int32), (OB42 (r_E m fo S S0) m y2 y3 y4 y5 y6 y7 ↔ B42 S y2 y3 y4 y5 y6 y7)) (S : r_S) (x1 : Int32) (x2 : Int32) (x3 : Int32) (x4 : Int32) (x5 : Int32) (x6 : Int32) (xs0 : Int32) (Q : Option Value → q_S → Prop) : wb_X12_named_86 OB42 (r_E m fo S S0) m x1 x2 x3 x4 x5 x6 xs0 Q ↔ rb_X12_named_86 B42 S x1 x2 x3 x4 x5 x6 xs0 (fun r S => Q r (r_E m fo S S0)) := by
  unfold wb_X12_named_86 rb_X12_named_86
  simp only [r_eK, r_eI, r_eIs, r_eP, r_eN, true_and, Option.some.injEq, exists_eq_left', r_all, w.1, el_X12_named_91 w hB42, hB42]
def rb_X12_named_85 (B42 : r_S → Int32 → Int32 → Int32 → Int32 → Int32 → Int32 → Prop) (S : r_S) (x1 : Int32) (x2 : Int32) (x3 : Int32) (x4 : Int32) (x5 : Int32) (x6 : Int32) (Q : Option Value → r_S → Prop) : Prop := rb_X12_named_86 B42 S x1 x2 x3 x4 x5 x6 (0 : Int32) Q
set_option maxRecDepth 100000 in
set_option maxHeartbeats 4000000 in
theorem eb_X12_named_85 {m : Nat} {ad : Nat → Nat} {fo : Nat → Option Nat} {st : Nat → Nat} {S0 : q_S} (w : r_WF m ad fo st S0) {OB42 : q_S → Nat → Int32 → Int32 → Int32 → Int32 → Int32 → Int32 → Prop} {B42 : r_S → Int32 → Int32 → Int32 → Int32 → Int32 → Int32 → Prop} (hB42 : ∀ (S : r_S) (y2 : Int32) (y3 : Int32) (y4 : Int32) (y5 : Int32) (y6 : Int32) (y7 : Int32), (OB42 (r_E m fo S S0) m y2 y3 y4 y5 y6 y7 ↔ B42 S y2 y3 y4 y5 y6 y7)) (S : r_S) (x1 : Int32) (x2 : Int32) (x3 : Int32) (x4 : Int32) (x5 : Int32) (x6 : Int32) (Q : Option Value → q_S → Prop) : wb_X12_named_85 OB42 (r_E m fo S S0) m x1 x2 x3 x4 x5 x6 Q ↔ rb_X12_named_85 B42 S x1 x2 x3 x4 x5 x6 (fun r S => Q r (r_E m fo S S0)) := by
  unfold wb_X12_named_85 rb_X12_named_85
  simp only [r_eK, r_eI, r_eIs, r_eP, r_eN, true_and, Option.some.injEq, exists_eq_left', r_all, w.1, eb_X12_named_86 w hB42, hB42]
def rb_X12_named_42 (B42 : r_S → Int32 → Int32 → Int32 → Int32 → Int32 → Int32 → Prop) (S : r_S) (x1 : Int32) (x2 : Int32) (x3 : Int32) (x4 : Int32) (x5 : Int32) (x6 : Int32) (Q : Option Value → r_S → Prop) : Prop := vp_in x1 (r_N 2430) ∧ (((((64 : Int32) * x1) + (r_A S 2430 x1.toNatClampNeg)) ≤ x6 → (Q (some (.int (2 : Int32))) S)) ∧ (¬ (((64 : Int32) * x1) + (r_A S 2430 x1.toNatClampNeg)) ≤ x6 → (vp_in x6 (r_N 2433) ∧ ((¬ (r_A S 2433 x6.toNatClampNeg) = x3 → (rb_X12_named_85 B42 S x1 x2 x3 x4 x5 x6 Q)) ∧ ((r_A S 2433 x6.toNatClampNeg) = x3 → (vp_in x6 (r_N 2432) ∧ ((¬ (r_A S 2432 x6.toNatClampNeg) = x5 → (rb_X12_named_85 B42 S x1 x2 x3 x4 x5 x6 Q)) ∧ ((r_A S 2432 x6.toNatClampNeg) = x5 → (rb_X12_named_86 B42 S x1 x2 x3 x4 x5 x6 (1 : Int32) Q)))))))))
set_option maxRecDepth 100000 in
set_option maxHeartbeats 4000000 in
theorem eb_X12_named_42 {m : Nat} {ad : Nat → Nat} {fo : Nat → Option Nat} {st : Nat → Nat} {S0 : q_S} (w : r_WF m ad fo st S0) {OB42 : q_S → Nat → Int32 → Int32 → Int32 → Int32 → Int32 → Int32 → Prop} {B42 : r_S → Int32 → Int32 → Int32 → Int32 → Int32 → Int32 → Prop} (hB42 : ∀ (S : r_S) (y2 : Int32) (y3 : Int32) (y4 : Int32) (y5 : Int32) (y6 : Int32) (y7 : Int32), (OB42 (r_E m fo S S0) m y2 y3 y4 y5 y6 y7 ↔ B42 S y2 y3 y4 y5 y6 y7)) (S : r_S) (x1 : Int32) (x2 : Int32) (x3 : Int32) (x4 : Int32) (x5 : Int32) (x6 : Int32) (Q : Option Value → q_S → Prop) : wb_X12_named_42 OB42 (r_E m fo S S0) m x1 x2 x3 x4 x5 x6 Q ↔ rb_X12_named_42 B42 S x1 x2 x3 x4 x5 x6 (fun r S => Q r (r_E m fo S S0)) := by
  unfold wb_X12_named_42 rb_X12_named_42
  simp only [r_eK, r_eI, r_eIs, r_eP, r_eN, true_and, Option.some.injEq, exists_eq_left', r_all, w.1, r_w1 w 2430 rfl, r_w2 w 2430 21 rfl rfl, r_w3 w 2430 rfl, r_eA w 2430 rfl, r_eAs w 2430 rfl, r_w1 w 2432 rfl, r_w2 w 2432 21 rfl rfl, r_w3 w 2432 rfl, r_eA w 2432 rfl, r_eAs w 2432 rfl, r_w1 w 2433 rfl, r_w2 w 2433 21 rfl rfl, r_w3 w 2433 rfl, r_eA w 2433 rfl, r_eAs w 2433 rfl, eb_X12_named_85 w hB42, eb_X12_named_86 w hB42, hB42]
def rl_X12_named_42  : Nat → r_S → Int32 → Int32 → Int32 → Int32 → Int32 → Int32 → (Option Value → r_S → Prop) → Prop
  | 0, _, _, _, _, _, _, _, _ => False
  | n + 1, S, x1, x2, x3, x4, x5, x6, Q => rb_X12_named_42 (fun S x1 x2 x3 x4 x5 x6 => rl_X12_named_42 n S x1 x2 x3 x4 x5 x6 Q) S x1 x2 x3 x4 x5 x6 Q
set_option maxRecDepth 100000 in
theorem el_X12_named_42 {m : Nat} {ad : Nat → Nat} {fo : Nat → Option Nat} {st : Nat → Nat} {S0 : q_S} (w : r_WF m ad fo st S0)  (n : Nat) (S : r_S) (x1 : Int32) (x2 : Int32) (x3 : Int32) (x4 : Int32) (x5 : Int32) (x6 : Int32) (Q : Option Value → q_S → Prop) : wl_X12_named_42 n (r_E m fo S S0) m x1 x2 x3 x4 x5 x6 Q ↔ rl_X12_named_42 n S x1 x2 x3 x4 x5 x6 (fun r S => Q r (r_E m fo S S0)) := by
  induction n generalizing S x1 x2 x3 x4 x5 x6 with
  | zero => exact Iff.rfl
  | succ n ih => exact eb_X12_named_42 w (fun _ _ _ _ _ _ _ => ih _ _ _ _ _ _ _) S x1 x2 x3 x4 x5 x6 Q
def rm_X12_named (S : r_S) (x1 : Int32) (x2 : Int32) (x3 : Int32) (x4 : Int32) (x5 : Int32) (Q : Option Value → r_S → Prop) : Prop := (x3 < 0 → (rb_X12_named_34 S Q)) ∧ (¬ x3 < 0 → (((5 : Int32) < x3 → (rb_X12_named_34 S Q)) ∧ (¬ (5 : Int32) < x3 → ((x5 < (1 : Int32) → (rb_X12_named_34 S Q)) ∧ (¬ x5 < (1 : Int32) → (((12 : Int32) < x5 → (rb_X12_named_34 S Q)) ∧ (¬ (12 : Int32) < x5 → (rm_X12_isWithin S x1 x4 x5 (fun r49_ S50_ => ∃ x51_ : Int32, r49_ = some (.int x51_) ∧ ((¬ x51_ = 0 → (∃ n53_ : Nat, rl_X12_named_42 n53_ S50_ x1 x2 x3 x4 x5 ((64 : Int32) * x1) Q)) ∧ (x51_ = 0 → (rb_X12_named_34 S50_ Q))))))))))))
set_option maxRecDepth 100000 in
set_option maxHeartbeats 4000000 in
theorem em_X12_named {m : Nat} {ad : Nat → Nat} {fo : Nat → Option Nat} {st : Nat → Nat} {S0 : q_S} (w : r_WF m ad fo st S0)  (S : r_S) (x1 : Int32) (x2 : Int32) (x3 : Int32) (x4 : Int32) (x5 : Int32) (Q : Option Value → q_S → Prop) : wm_X12_named (r_E m fo S S0) m x1 x2 x3 x4 x5 Q ↔ rm_X12_named S x1 x2 x3 x4 x5 (fun r S => Q r (r_E m fo S S0)) := by
  unfold wm_X12_named rm_X12_named
  simp only [r_eK, r_eI, r_eIs, r_eP, r_eN, true_and, Option.some.injEq, exists_eq_left', r_all, w.1, eb_X12_named_34 w, el_X12_named_42 w, em_X12_isWithin w]
