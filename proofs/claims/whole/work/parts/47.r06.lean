def rb_X12_asks_213 (S : r_S) (x2 : Int32) (x3 : Int32) (x4 : Int32) (x5 : Int32) (x6 : Int32) (Q : Option Value → r_S → Prop) : Prop := rm_X12_named S x2 x3 x4 x5 x6 (fun r2_ S3_ => ∃ x4_ : Int32, r2_ = some (.int x4_) ∧ (Q (some (.int x4_)) S3_))
set_option maxRecDepth 100000 in
set_option maxHeartbeats 4000000 in
theorem eb_X12_asks_213 {m : Nat} {ad : Nat → Nat} {fo : Nat → Option Nat} {st : Nat → Nat} {S0 : q_S} (w : r_WF m ad fo st S0)  (S : r_S) (x2 : Int32) (x3 : Int32) (x4 : Int32) (x5 : Int32) (x6 : Int32) (Q : Option Value → q_S → Prop) : wb_X12_asks_213 (r_E m fo S S0) m x2 x3 x4 x5 x6 Q ↔ rb_X12_asks_213 S x2 x3 x4 x5 x6 (fun r S => Q r (r_E m fo S S0)) := by
  unfold wb_X12_asks_213 rb_X12_asks_213
  simp only [r_eK, r_eI, r_eIs, r_eP, r_eN, true_and, Option.some.injEq, exists_eq_left', r_all, w.1, em_X12_named w]
def rb_X12_asks_206 (S : r_S) (x2 : Int32) (x3 : Int32) (Q : Option Value → r_S → Prop) : Prop := rm_X12_frames S x2 x3 (fun r6_ S7_ => ∃ x8_ : Int32, r6_ = some (.int x8_) ∧ (Q (some (.int x8_)) S7_))
set_option maxRecDepth 100000 in
set_option maxHeartbeats 4000000 in
theorem eb_X12_asks_206 {m : Nat} {ad : Nat → Nat} {fo : Nat → Option Nat} {st : Nat → Nat} {S0 : q_S} (w : r_WF m ad fo st S0)  (S : r_S) (x2 : Int32) (x3 : Int32) (Q : Option Value → q_S → Prop) : wb_X12_asks_206 (r_E m fo S S0) m x2 x3 Q ↔ rb_X12_asks_206 S x2 x3 (fun r S => Q r (r_E m fo S S0)) := by
  unfold wb_X12_asks_206 rb_X12_asks_206
  simp only [r_eK, r_eI, r_eIs, r_eP, r_eN, true_and, Option.some.injEq, exists_eq_left', r_all, w.1, em_X12_frames w]
def rb_X12_asks_189 (S : r_S) (Q : Option Value → r_S → Prop) : Prop := Q (some (.int (1 : Int32))) S
set_option maxRecDepth 100000 in
set_option maxHeartbeats 4000000 in
theorem eb_X12_asks_189 {m : Nat} {ad : Nat → Nat} {fo : Nat → Option Nat} {st : Nat → Nat} {S0 : q_S} (w : r_WF m ad fo st S0)  (S : r_S) (Q : Option Value → q_S → Prop) : wb_X12_asks_189 (r_E m fo S S0) Q ↔ rb_X12_asks_189 S (fun r S => Q r (r_E m fo S S0)) := by
  unfold wb_X12_asks_189 rb_X12_asks_189
  simp only [r_eK, r_eI, r_eIs, r_eP, r_eN, true_and, Option.some.injEq, exists_eq_left', r_all, w.1]
def rb_X12_asks_175 (S : r_S) (x2 : Int32) (x4 : Int32) (x5 : Int32) (Q : Option Value → r_S → Prop) : Prop := (x5 < (1 : Int32) → (rb_X12_asks_189 S Q)) ∧ (¬ x5 < (1 : Int32) → ((x5 ≤ (100000 : Int32) → (rm_X12_starts S x2 x4 ((r_I S 2463) + x5) (fun r12_ S13_ => ∃ x14_ : Int32, r12_ = some (.int x14_) ∧ (Q (some (.int x14_)) S13_)))) ∧ (¬ x5 ≤ (100000 : Int32) → (rb_X12_asks_189 S Q))))
set_option maxRecDepth 100000 in
set_option maxHeartbeats 4000000 in
theorem eb_X12_asks_175 {m : Nat} {ad : Nat → Nat} {fo : Nat → Option Nat} {st : Nat → Nat} {S0 : q_S} (w : r_WF m ad fo st S0)  (S : r_S) (x2 : Int32) (x4 : Int32) (x5 : Int32) (Q : Option Value → q_S → Prop) : wb_X12_asks_175 (r_E m fo S S0) m x2 x4 x5 Q ↔ rb_X12_asks_175 S x2 x4 x5 (fun r S => Q r (r_E m fo S S0)) := by
  unfold wb_X12_asks_175 rb_X12_asks_175
  simp only [r_eK, r_eI, r_eIs, r_eP, r_eN, true_and, Option.some.injEq, exists_eq_left', r_all, w.1, eb_X12_asks_189 w, em_X12_starts w]
def rb_X12_asks_104 (S : r_S) (Q : Option Value → r_S → Prop) : Prop := Q (some (.int (1 : Int32))) S
set_option maxRecDepth 100000 in
set_option maxHeartbeats 4000000 in
theorem eb_X12_asks_104 {m : Nat} {ad : Nat → Nat} {fo : Nat → Option Nat} {st : Nat → Nat} {S0 : q_S} (w : r_WF m ad fo st S0)  (S : r_S) (Q : Option Value → q_S → Prop) : wb_X12_asks_104 (r_E m fo S S0) Q ↔ rb_X12_asks_104 S (fun r S => Q r (r_E m fo S S0)) := by
  unfold wb_X12_asks_104 rb_X12_asks_104
  simp only [r_eK, r_eI, r_eIs, r_eP, r_eN, true_and, Option.some.injEq, exists_eq_left', r_all, w.1]
def rb_X12_asks_140 (S : r_S) (x2 : Int32) (x4 : Int32) (x5 : Int32) (x7 : Int32) (xs0 : Int32) (Q : Option Value → r_S → Prop) : Prop := vp_in (x7 + (11 : Int32)) (r_N 2477) ∧ (rm_X12_wait (rs_A S 2477 (x7 + (11 : Int32)).toNatClampNeg xs0) x2 x4 x5 (fun r20_ S21_ => ∃ x22_ : Int32, r20_ = some (.int x22_) ∧ (vp_in (x7 + (12 : Int32)) (r_N 2477) ∧ (Q (some (.int (0 : Int32))) (rs_A S21_ 2477 (x7 + (12 : Int32)).toNatClampNeg x22_)))))
set_option maxRecDepth 100000 in
set_option maxHeartbeats 4000000 in
theorem eb_X12_asks_140 {m : Nat} {ad : Nat → Nat} {fo : Nat → Option Nat} {st : Nat → Nat} {S0 : q_S} (w : r_WF m ad fo st S0)  (S : r_S) (x2 : Int32) (x4 : Int32) (x5 : Int32) (x7 : Int32) (xs0 : Int32) (Q : Option Value → q_S → Prop) : wb_X12_asks_140 (r_E m fo S S0) m x2 x4 x5 x7 xs0 Q ↔ rb_X12_asks_140 S x2 x4 x5 x7 xs0 (fun r S => Q r (r_E m fo S S0)) := by
  unfold wb_X12_asks_140 rb_X12_asks_140
  simp only [r_eK, r_eI, r_eIs, r_eP, r_eN, true_and, Option.some.injEq, exists_eq_left', r_all, w.1, r_w1 w 2477 rfl, r_w2 w 2477 21 rfl rfl, r_w3 w 2477 rfl, r_eA w 2477 rfl, r_eAs w 2477 rfl, em_X12_wait w]
def rb_X12_asks_81 (S : r_S) (x2 : Int32) (x4 : Int32) (x5 : Int32) (x7 : Int32) (Q : Option Value → r_S → Prop) : Prop := (x4 < 0 → (rb_X12_asks_104 S Q)) ∧ (¬ x4 < 0 → (((4 : Int32) < x4 → (rb_X12_asks_104 S Q)) ∧ (¬ (4 : Int32) < x4 → (rm_X12_isThing S x2 x4 x5 (fun r30_ S31_ => ∃ x32_ : Int32, r30_ = some (.int x32_) ∧ ((¬ x32_ = 0 → ((¬ x4 = (4 : Int32) → (rm_X12_tells S31_ x2 x4 x5 (fun r36_ S37_ => ∃ x38_ : Int32, r36_ = some (.int x38_) ∧ (rb_X12_asks_140 S37_ x2 x4 x5 x7 x38_ Q)))) ∧ (x4 = (4 : Int32) → (vp_in (((16 : Int32) * x2) + x5) (r_N 2450) ∧ (rm_X12_wordsOf S31_ (r_A S31_ 2450 (((16 : Int32) * x2) + x5).toNatClampNeg) (fun r44_ S45_ => ∃ x46_ : Int32, r44_ = some (.int x46_) ∧ (rb_X12_asks_140 S45_ x2 x4 x5 x7 x46_ Q))))))) ∧ (x32_ = 0 → (rb_X12_asks_104 S31_ Q))))))))
set_option maxRecDepth 100000 in
set_option maxHeartbeats 4000000 in
theorem eb_X12_asks_81 {m : Nat} {ad : Nat → Nat} {fo : Nat → Option Nat} {st : Nat → Nat} {S0 : q_S} (w : r_WF m ad fo st S0)  (S : r_S) (x2 : Int32) (x4 : Int32) (x5 : Int32) (x7 : Int32) (Q : Option Value → q_S → Prop) : wb_X12_asks_81 (r_E m fo S S0) m x2 x4 x5 x7 Q ↔ rb_X12_asks_81 S x2 x4 x5 x7 (fun r S => Q r (r_E m fo S S0)) := by
  unfold wb_X12_asks_81 rb_X12_asks_81
  simp only [r_eK, r_eI, r_eIs, r_eP, r_eN, true_and, Option.some.injEq, exists_eq_left', r_all, w.1, r_w1 w 2450 rfl, r_w2 w 2450 21 rfl rfl, r_w3 w 2450 rfl, r_eA w 2450 rfl, r_eAs w 2450 rfl, eb_X12_asks_104 w, eb_X12_asks_140 w, em_X12_isThing w, em_X12_tells w, em_X12_wordsOf w]
def rb_X12_asks_36 (S : r_S) (x2 : Int32) (x7 : Int32) (Q : Option Value → r_S → Prop) : Prop := vp_in (x7 + (11 : Int32)) (r_N 2477) ∧ (vp_in x2 (r_N 2484) ∧ (vp_in (x7 + (12 : Int32)) (r_N 2477) ∧ (∀ S60_ : r_S, S60_ = (rs_A (rs_A S 2477 (x7 + (11 : Int32)).toNatClampNeg x2) 2477 (x7 + (12 : Int32)).toNatClampNeg (r_A (rs_A S 2477 (x7 + (11 : Int32)).toNatClampNeg x2) 2484 x2.toNatClampNeg)) → (vp_in x2 (r_N 2486) ∧ (vp_in (x7 + (13 : Int32)) (r_N 2477) ∧ (Q (some (.int (0 : Int32))) (rs_A S60_ 2477 (x7 + (13 : Int32)).toNatClampNeg (r_A S60_ 2486 x2.toNatClampNeg))))))))
set_option maxRecDepth 100000 in
set_option maxHeartbeats 4000000 in
theorem eb_X12_asks_36 {m : Nat} {ad : Nat → Nat} {fo : Nat → Option Nat} {st : Nat → Nat} {S0 : q_S} (w : r_WF m ad fo st S0)  (S : r_S) (x2 : Int32) (x7 : Int32) (Q : Option Value → q_S → Prop) : wb_X12_asks_36 (r_E m fo S S0) m x2 x7 Q ↔ rb_X12_asks_36 S x2 x7 (fun r S => Q r (r_E m fo S S0)) := by
  unfold wb_X12_asks_36 rb_X12_asks_36
  simp only [r_eK, r_eI, r_eIs, r_eP, r_eN, true_and, Option.some.injEq, exists_eq_left', r_all, w.1, r_w1 w 2477 rfl, r_w2 w 2477 21 rfl rfl, r_w3 w 2477 rfl, r_eA w 2477 rfl, r_eAs w 2477 rfl, r_w1 w 2484 rfl, r_w2 w 2484 21 rfl rfl, r_w3 w 2484 rfl, r_eA w 2484 rfl, r_eAs w 2484 rfl, r_w1 w 2486 rfl, r_w2 w 2486 21 rfl rfl, r_w3 w 2486 rfl, r_eA w 2486 rfl, r_eAs w 2486 rfl]
def rm_X12_asks (S : r_S) (x1 : Int32) (x2 : Int32) (x3 : Int32) (x4 : Int32) (x5 : Int32) (x6 : Int32) (Q : Option Value → r_S → Prop) : Prop := ((x1.toInt < 32 ∨ 35 < x1.toInt) → (rb_X12_asks_213 S x2 x3 x4 x5 x6 Q)) ∧ ((x1 = (32 : Int32)) → (rb_X12_asks_36 S x2 ((32 : Int32) * x3) Q)) ∧ ((x1 = (33 : Int32)) → (rb_X12_asks_81 S x2 x4 x5 ((32 : Int32) * x3) Q)) ∧ ((x1 = (34 : Int32)) → (rb_X12_asks_175 S x2 x4 x5 Q)) ∧ ((x1 = (35 : Int32)) → (rb_X12_asks_206 S x2 x3 Q))
set_option maxRecDepth 100000 in
set_option maxHeartbeats 4000000 in
theorem em_X12_asks {m : Nat} {ad : Nat → Nat} {fo : Nat → Option Nat} {st : Nat → Nat} {S0 : q_S} (w : r_WF m ad fo st S0)  (S : r_S) (x1 : Int32) (x2 : Int32) (x3 : Int32) (x4 : Int32) (x5 : Int32) (x6 : Int32) (Q : Option Value → q_S → Prop) : wm_X12_asks (r_E m fo S S0) m x1 x2 x3 x4 x5 x6 Q ↔ rm_X12_asks S x1 x2 x3 x4 x5 x6 (fun r S => Q r (r_E m fo S S0)) := by
  unfold wm_X12_asks rm_X12_asks
  simp only [r_eK, r_eI, r_eIs, r_eP, r_eN, true_and, Option.some.injEq, exists_eq_left', r_all, w.1, eb_X12_asks_175 w, eb_X12_asks_206 w, eb_X12_asks_213 w, eb_X12_asks_36 w, eb_X12_asks_81 w]
def rb_X12_calls_101 (S : r_S) (xs1 : Int32) (xs2 : Int32) (xs3 : Int32) (Q : Option Value → r_S → Prop) : Prop := rm_X12_fails S xs1 xs2 xs3 (fun r2_ S3_ => r2_ = none ∧ (Q none S3_))
set_option maxRecDepth 100000 in
set_option maxHeartbeats 4000000 in
theorem eb_X12_calls_101 {m : Nat} {ad : Nat → Nat} {fo : Nat → Option Nat} {st : Nat → Nat} {S0 : q_S} (w : r_WF m ad fo st S0)  (S : r_S) (xs1 : Int32) (xs2 : Int32) (xs3 : Int32) (Q : Option Value → q_S → Prop) : wb_X12_calls_101 (r_E m fo S S0) m xs1 xs2 xs3 Q ↔ rb_X12_calls_101 S xs1 xs2 xs3 (fun r S => Q r (r_E m fo S S0)) := by
  unfold wb_X12_calls_101 rb_X12_calls_101
  simp only [r_eK, r_eI, r_eIs, r_eP, r_eN, true_and, Option.some.injEq, exists_eq_left', r_all, w.1, em_X12_fails w]
def rb_X12_calls_87 (S : r_S) (x5 : Int32) (x6 : Int32) (xs1 : Int32) (xs2 : Int32) (Q : Option Value → r_S → Prop) : Prop := (¬ x5 = (20 : Int32) → (rb_X12_calls_101 S xs1 xs2 (115 : Int32) Q)) ∧ (x5 = (20 : Int32) → (rb_X12_calls_101 S xs1 xs2 x6 Q))
set_option maxRecDepth 100000 in
set_option maxHeartbeats 4000000 in
theorem eb_X12_calls_87 {m : Nat} {ad : Nat → Nat} {fo : Nat → Option Nat} {st : Nat → Nat} {S0 : q_S} (w : r_WF m ad fo st S0)  (S : r_S) (x5 : Int32) (x6 : Int32) (xs1 : Int32) (xs2 : Int32) (Q : Option Value → q_S → Prop) : wb_X12_calls_87 (r_E m fo S S0) x5 x6 m xs1 xs2 Q ↔ rb_X12_calls_87 S x5 x6 xs1 xs2 (fun r S => Q r (r_E m fo S S0)) := by
  unfold wb_X12_calls_87 rb_X12_calls_87
  simp only [r_eK, r_eI, r_eIs, r_eP, r_eN, true_and, Option.some.injEq, exists_eq_left', r_all, w.1, eb_X12_calls_101 w]
def rb_X12_calls_73 (S : r_S) (x2 : Int32) (x5 : Int32) (x6 : Int32) (Q : Option Value → r_S → Prop) : Prop := (¬ x5 = (20 : Int32) → (rb_X12_calls_87 S x5 x6 x2 (0 : Int32) Q)) ∧ (x5 = (20 : Int32) → (rb_X12_calls_87 S x5 x6 x2 (3 : Int32) Q))
set_option maxRecDepth 100000 in
set_option maxHeartbeats 4000000 in
theorem eb_X12_calls_73 {m : Nat} {ad : Nat → Nat} {fo : Nat → Option Nat} {st : Nat → Nat} {S0 : q_S} (w : r_WF m ad fo st S0)  (S : r_S) (x2 : Int32) (x5 : Int32) (x6 : Int32) (Q : Option Value → q_S → Prop) : wb_X12_calls_73 (r_E m fo S S0) m x2 x5 x6 Q ↔ rb_X12_calls_73 S x2 x5 x6 (fun r S => Q r (r_E m fo S S0)) := by
  unfold wb_X12_calls_73 rb_X12_calls_73
  simp only [r_eK, r_eI, r_eIs, r_eP, r_eN, true_and, Option.some.injEq, exists_eq_left', r_all, w.1, eb_X12_calls_87 w]
def rb_X12_calls_235 (S : r_S) (Q : Option Value → r_S → Prop) : Prop := Q none S
set_option maxRecDepth 100000 in
set_option maxHeartbeats 4000000 in
theorem eb_X12_calls_235 {m : Nat} {ad : Nat → Nat} {fo : Nat → Option Nat} {st : Nat → Nat} {S0 : q_S} (w : r_WF m ad fo st S0)  (S : r_S) (Q : Option Value → q_S → Prop) : wb_X12_calls_235 (r_E m fo S S0) Q ↔ rb_X12_calls_235 S (fun r S => Q r (r_E m fo S S0)) := by
  unfold wb_X12_calls_235 rb_X12_calls_235
  simp only [r_eK, r_eI, r_eIs, r_eP, r_eN, true_and, Option.some.injEq, exists_eq_left', r_all, w.1]
def rb_X12_calls_220 (S : r_S) (x2 : Int32) (xs0 : Int32) (Q : Option Value → r_S → Prop) : Prop := (xs0 = (-1 : Int32) → (rb_X12_calls_235 S Q)) ∧ (¬ xs0 = (-1 : Int32) → (rm_X12_answer S x2 xs0 (fun r8_ S9_ => r8_ = none ∧ (rb_X12_calls_235 S9_ Q))))
set_option maxRecDepth 100000 in
set_option maxHeartbeats 4000000 in
theorem eb_X12_calls_220 {m : Nat} {ad : Nat → Nat} {fo : Nat → Option Nat} {st : Nat → Nat} {S0 : q_S} (w : r_WF m ad fo st S0)  (S : r_S) (x2 : Int32) (xs0 : Int32) (Q : Option Value → q_S → Prop) : wb_X12_calls_220 (r_E m fo S S0) m x2 xs0 Q ↔ rb_X12_calls_220 S x2 xs0 (fun r S => Q r (r_E m fo S S0)) := by
  unfold wb_X12_calls_220 rb_X12_calls_220
  simp only [r_eK, r_eI, r_eIs, r_eP, r_eN, true_and, Option.some.injEq, exists_eq_left', r_all, w.1, eb_X12_calls_235 w, em_X12_answer w]
def rm_X12_calls (S : r_S) (x1 : Int32) (x2 : Int32) (x3 : Int32) (Q : Option Value → r_S → Prop) : Prop := vp_in (((32 : Int32) * x2) + (17 : Int32)) (r_N 2477) ∧ (vp_in (((32 : Int32) * x2) + (10 : Int32)) (r_N 2477) ∧ (vp_in (((32 : Int32) * x2) + (11 : Int32)) (r_N 2477) ∧ (vp_in (((32 : Int32) * x2) + (12 : Int32)) (r_N 2477) ∧ (((r_A S 2477 (((32 : Int32) * x2) + (17 : Int32)).toNatClampNeg) < 0 → (rb_X12_calls_73 S x2 (r_A S 2477 (((32 : Int32) * x2) + (17 : Int32)).toNatClampNeg) (r_A S 2477 (((32 : Int32) * x2) + (10 : Int32)).toNatClampNeg) Q)) ∧ (¬ (r_A S 2477 (((32 : Int32) * x2) + (17 : Int32)).toNatClampNeg) < 0 → (((36 : Int32) < (r_A S 2477 (((32 : Int32) * x2) + (17 : Int32)).toNatClampNeg) → (rb_X12_calls_73 S x2 (r_A S 2477 (((32 : Int32) * x2) + (17 : Int32)).toNatClampNeg) (r_A S 2477 (((32 : Int32) * x2) + (10 : Int32)).toNatClampNeg) Q)) ∧ (¬ (36 : Int32) < (r_A S 2477 (((32 : Int32) * x2) + (17 : Int32)).toNatClampNeg) → ((¬ (r_A S 2477 (((32 : Int32) * x2) + (17 : Int32)).toNatClampNeg) = (20 : Int32) → (vp_in x2 (r_N 2468) ∧ (((8 : Int32) ≤ (r_A S 2477 (((32 : Int32) * x2) + (17 : Int32)).toNatClampNeg) → (((18 : Int32) ≤ (r_A S 2477 (((32 : Int32) * x2) + (17 : Int32)).toNatClampNeg) → (((26 : Int32) ≤ (r_A S 2477 (((32 : Int32) * x2) + (17 : Int32)).toNatClampNeg) → (((32 : Int32) ≤ (r_A S 2477 (((32 : Int32) * x2) + (17 : Int32)).toNatClampNeg) → (rm_X12_asks (rs_A S 2468 x2.toNatClampNeg (x3 + (4 : Int32))) (r_A S 2477 (((32 : Int32) * x2) + (17 : Int32)).toNatClampNeg) x1 x2 (r_A S 2477 (((32 : Int32) * x2) + (10 : Int32)).toNatClampNeg) (r_A S 2477 (((32 : Int32) * x2) + (11 : Int32)).toNatClampNeg) (r_A S 2477 (((32 : Int32) * x2) + (12 : Int32)).toNatClampNeg) (fun r29_ S30_ => ∃ x31_ : Int32, r29_ = some (.int x31_) ∧ (rb_X12_calls_220 S30_ x2 x31_ Q)))) ∧ (¬ (32 : Int32) ≤ (r_A S 2477 (((32 : Int32) * x2) + (17 : Int32)).toNatClampNeg) → (rm_X12_ofOthers (rs_A S 2468 x2.toNatClampNeg (x3 + (4 : Int32))) (r_A S 2477 (((32 : Int32) * x2) + (17 : Int32)).toNatClampNeg) x1 x2 (r_A S 2477 (((32 : Int32) * x2) + (10 : Int32)).toNatClampNeg) (r_A S 2477 (((32 : Int32) * x2) + (11 : Int32)).toNatClampNeg) (fun r32_ S33_ => ∃ x34_ : Int32, r32_ = some (.int x34_) ∧ (rb_X12_calls_220 S33_ x2 x34_ Q)))))) ∧ (¬ (26 : Int32) ≤ (r_A S 2477 (((32 : Int32) * x2) + (17 : Int32)).toNatClampNeg) → (rm_X12_ofPorts (rs_A S 2468 x2.toNatClampNeg (x3 + (4 : Int32))) (r_A S 2477 (((32 : Int32) * x2) + (17 : Int32)).toNatClampNeg) x1 x2 (r_A S 2477 (((32 : Int32) * x2) + (10 : Int32)).toNatClampNeg) (r_A S 2477 (((32 : Int32) * x2) + (11 : Int32)).toNatClampNeg) (r_A S 2477 (((32 : Int32) * x2) + (12 : Int32)).toNatClampNeg) (fun r35_ S36_ => ∃ x37_ : Int32, r35_ = some (.int x37_) ∧ (rb_X12_calls_220 S36_ x2 x37_ Q)))))) ∧ (¬ (18 : Int32) ≤ (r_A S 2477 (((32 : Int32) * x2) + (17 : Int32)).toNatClampNeg) → (rm_X12_ofThings (rs_A S 2468 x2.toNatClampNeg (x3 + (4 : Int32))) (r_A S 2477 (((32 : Int32) * x2) + (17 : Int32)).toNatClampNeg) x1 x2 (r_A S 2477 (((32 : Int32) * x2) + (10 : Int32)).toNatClampNeg) (r_A S 2477 (((32 : Int32) * x2) + (11 : Int32)).toNatClampNeg) (r_A S 2477 (((32 : Int32) * x2) + (12 : Int32)).toNatClampNeg) (fun r38_ S39_ => ∃ x40_ : Int32, r38_ = some (.int x40_) ∧ (rb_X12_calls_220 S39_ x2 x40_ Q)))))) ∧ (¬ (8 : Int32) ≤ (r_A S 2477 (((32 : Int32) * x2) + (17 : Int32)).toNatClampNeg) → (rm_X12_ofProcesses (rs_A S 2468 x2.toNatClampNeg (x3 + (4 : Int32))) (r_A S 2477 (((32 : Int32) * x2) + (17 : Int32)).toNatClampNeg) x1 x2 (r_A S 2477 (((32 : Int32) * x2) + (10 : Int32)).toNatClampNeg) (r_A S 2477 (((32 : Int32) * x2) + (11 : Int32)).toNatClampNeg) (fun r41_ S42_ => ∃ x43_ : Int32, r41_ = some (.int x43_) ∧ (rb_X12_calls_220 S42_ x2 x43_ Q))))))) ∧ ((r_A S 2477 (((32 : Int32) * x2) + (17 : Int32)).toNatClampNeg) = (20 : Int32) → (rb_X12_calls_73 S x2 (r_A S 2477 (((32 : Int32) * x2) + (17 : Int32)).toNatClampNeg) (r_A S 2477 (((32 : Int32) * x2) + (10 : Int32)).toNatClampNeg) Q))))))))))
set_option maxRecDepth 100000 in
set_option maxHeartbeats 4000000 in
theorem em_X12_calls {m : Nat} {ad : Nat → Nat} {fo : Nat → Option Nat} {st : Nat → Nat} {S0 : q_S} (w : r_WF m ad fo st S0)  (S : r_S) (x1 : Int32) (x2 : Int32) (x3 : Int32) (Q : Option Value → q_S → Prop) : wm_X12_calls (r_E m fo S S0) m x1 x2 x3 Q ↔ rm_X12_calls S x1 x2 x3 (fun r S => Q r (r_E m fo S S0)) := by
  unfold wm_X12_calls rm_X12_calls
  simp only [r_eK, r_eI, r_eIs, r_eP, r_eN, true_and, Option.some.injEq, exists_eq_left', r_all, w.1, r_w1 w 2468 rfl, r_w2 w 2468 21 rfl rfl, r_w3 w 2468 rfl, r_eA w 2468 rfl, r_eAs w 2468 rfl, r_w1 w 2477 rfl, r_w2 w 2477 21 rfl rfl, r_w3 w 2477 rfl, r_eA w 2477 rfl, r_eAs w 2477 rfl, eb_X12_calls_220 w, eb_X12_calls_73 w, em_X12_asks w, em_X12_ofOthers w, em_X12_ofPorts w, em_X12_ofProcesses w, em_X12_ofThings w]
def rb_X12_execute_41 (S : r_S) (x2 : Int32) (x3 : Int32) (Q : Option Value → r_S → Prop) : Prop := rm_X12_fails S x2 (1 : Int32) x3 (fun r2_ S3_ => r2_ = none ∧ (Q none S3_))
set_option maxRecDepth 100000 in
set_option maxHeartbeats 4000000 in
theorem eb_X12_execute_41 {m : Nat} {ad : Nat → Nat} {fo : Nat → Option Nat} {st : Nat → Nat} {S0 : q_S} (w : r_WF m ad fo st S0)  (S : r_S) (x2 : Int32) (x3 : Int32) (Q : Option Value → q_S → Prop) : wb_X12_execute_41 (r_E m fo S S0) m x2 x3 Q ↔ rb_X12_execute_41 S x2 x3 (fun r S => Q r (r_E m fo S S0)) := by
  unfold wb_X12_execute_41 rb_X12_execute_41
  simp only [r_eK, r_eI, r_eIs, r_eP, r_eN, true_and, Option.some.injEq, exists_eq_left', r_all, w.1, em_X12_fails w]
def rb_X12_execute_836 (S : r_S) (Q : Option Value → r_S → Prop) : Prop := Q none S
set_option maxRecDepth 100000 in
set_option maxHeartbeats 4000000 in
theorem eb_X12_execute_836 {m : Nat} {ad : Nat → Nat} {fo : Nat → Option Nat} {st : Nat → Nat} {S0 : q_S} (w : r_WF m ad fo st S0)  (S : r_S) (Q : Option Value → q_S → Prop) : wb_X12_execute_836 (r_E m fo S S0) Q ↔ rb_X12_execute_836 S (fun r S => Q r (r_E m fo S S0)) := by
  unfold wb_X12_execute_836 rb_X12_execute_836
  simp only [r_eK, r_eI, r_eIs, r_eP, r_eN, true_and, Option.some.injEq, exists_eq_left', r_all, w.1]
def rb_X12_execute_811 (S : r_S) (x1 : Int32) (x2 : Int32) (x3 : Int32) (x4 : Int32) (Q : Option Value → r_S → Prop) : Prop := (¬ x4 = (115 : Int32) → (rm_X12_fails S x2 (0 : Int32) x4 (fun r6_ S7_ => r6_ = none ∧ (rb_X12_execute_836 S7_ Q)))) ∧ (x4 = (115 : Int32) → (rm_X12_calls S x1 x2 x3 (fun r9_ S10_ => r9_ = none ∧ (rb_X12_execute_836 S10_ Q))))
set_option maxRecDepth 100000 in
set_option maxHeartbeats 4000000 in
theorem eb_X12_execute_811 {m : Nat} {ad : Nat → Nat} {fo : Nat → Option Nat} {st : Nat → Nat} {S0 : q_S} (w : r_WF m ad fo st S0)  (S : r_S) (x1 : Int32) (x2 : Int32) (x3 : Int32) (x4 : Int32) (Q : Option Value → q_S → Prop) : wb_X12_execute_811 (r_E m fo S S0) m x1 x2 x3 x4 Q ↔ rb_X12_execute_811 S x1 x2 x3 x4 (fun r S => Q r (r_E m fo S S0)) := by
  unfold wb_X12_execute_811 rb_X12_execute_811
  simp only [r_eK, r_eI, r_eIs, r_eP, r_eN, true_and, Option.some.injEq, exists_eq_left', r_all, w.1, eb_X12_execute_836 w, em_X12_calls w, em_X12_fails w]
def rb_X12_execute_254 (S : r_S) (x2 : Int32) (x3 : Int32) (x4 : Int32) (x5 : Int32) (Q : Option Value → r_S → Prop) : Prop := rm_X12_set S x2 x5 (x3 + (4 : Int32)) (fun r12_ S13_ => r12_ = none ∧ (vp_in x2 (r_N 2468) ∧ (Q none (rs_A S13_ 2468 x2.toNatClampNeg (x3 + (((((x4 >>> ((31 : Int32) &&& 31)) <<< ((20 : Int32) &&& 31)) ||| (((x4 >>> ((12 : Int32) &&& 31)) &&& (255 : Int32)) <<< ((12 : Int32) &&& 31))) ||| (((x4 >>> ((20 : Int32) &&& 31)) &&& (1 : Int32)) <<< ((11 : Int32) &&& 31))) ||| (((x4 >>> ((21 : Int32) &&& 31)) &&& (1023 : Int32)) <<< ((1 : Int32) &&& 31))))))))
set_option maxRecDepth 100000 in
set_option maxHeartbeats 4000000 in
theorem eb_X12_execute_254 {m : Nat} {ad : Nat → Nat} {fo : Nat → Option Nat} {st : Nat → Nat} {S0 : q_S} (w : r_WF m ad fo st S0)  (S : r_S) (x2 : Int32) (x3 : Int32) (x4 : Int32) (x5 : Int32) (Q : Option Value → q_S → Prop) : wb_X12_execute_254 (r_E m fo S S0) m x2 x3 x4 x5 Q ↔ rb_X12_execute_254 S x2 x3 x4 x5 (fun r S => Q r (r_E m fo S S0)) := by
  unfold wb_X12_execute_254 rb_X12_execute_254
  simp only [r_eK, r_eI, r_eIs, r_eP, r_eN, true_and, Option.some.injEq, exists_eq_left', r_all, w.1, r_w1 w 2468 rfl, r_w2 w 2468 21 rfl rfl, r_w3 w 2468 rfl, r_eA w 2468 rfl, r_eAs w 2468 rfl, em_X12_set w]
def rb_X12_execute_321 (S : r_S) (x2 : Int32) (x3 : Int32) (x4 : Int32) (x5 : Int32) (x6 : Int32) (x7 : Int32) (x10 : Int32) (Q : Option Value → r_S → Prop) : Prop := (x6 = 0 → (rm_X12_set S x2 x5 (x3 + (4 : Int32)) (fun r21_ S22_ => r21_ = none ∧ (vp_in x2 (r_N 2468) ∧ (Q none (rs_A S22_ 2468 x2.toNatClampNeg ((x7 + x10) &&& (-2 : Int32)))))))) ∧ (¬ x6 = 0 → (rm_X12_fails S x2 (0 : Int32) x4 (fun r29_ S30_ => r29_ = none ∧ (Q none S30_))))
set_option maxRecDepth 100000 in
set_option maxHeartbeats 4000000 in
theorem eb_X12_execute_321 {m : Nat} {ad : Nat → Nat} {fo : Nat → Option Nat} {st : Nat → Nat} {S0 : q_S} (w : r_WF m ad fo st S0)  (S : r_S) (x2 : Int32) (x3 : Int32) (x4 : Int32) (x5 : Int32) (x6 : Int32) (x7 : Int32) (x10 : Int32) (Q : Option Value → q_S → Prop) : wb_X12_execute_321 (r_E m fo S S0) m x2 x3 x4 x5 x6 x7 x10 Q ↔ rb_X12_execute_321 S x2 x3 x4 x5 x6 x7 x10 (fun r S => Q r (r_E m fo S S0)) := by
  unfold wb_X12_execute_321 rb_X12_execute_321
  simp only [r_eK, r_eI, r_eIs, r_eP, r_eN, true_and, Option.some.injEq, exists_eq_left', r_all, w.1, r_w1 w 2468 rfl, r_w2 w 2468 21 rfl rfl, r_w3 w 2468 rfl, r_eA w 2468 rfl, r_eAs w 2468 rfl, em_X12_fails w, em_X12_set w]
def rb_X12_execute_372 (S : r_S) (x2 : Int32) (x4 : Int32) (Q : Option Value → r_S → Prop) : Prop := rm_X12_fails S x2 (0 : Int32) x4 (fun r32_ S33_ => r32_ = none ∧ (Q none S33_))
set_option maxRecDepth 100000 in
set_option maxHeartbeats 4000000 in
theorem eb_X12_execute_372 {m : Nat} {ad : Nat → Nat} {fo : Nat → Option Nat} {st : Nat → Nat} {S0 : q_S} (w : r_WF m ad fo st S0)  (S : r_S) (x2 : Int32) (x4 : Int32) (Q : Option Value → q_S → Prop) : wb_X12_execute_372 (r_E m fo S S0) m x2 x4 Q ↔ rb_X12_execute_372 S x2 x4 (fun r S => Q r (r_E m fo S S0)) := by
  unfold wb_X12_execute_372 rb_X12_execute_372
  simp only [r_eK, r_eI, r_eIs, r_eP, r_eN, true_and, Option.some.injEq, exists_eq_left', r_all, w.1, em_X12_fails w]
def rb_X12_execute_563 (S : r_S) (xs1 : Int32) (xs2 : Int32) (Q : Option Value → r_S → Prop) : Prop := vp_in xs1 (r_N 2468) ∧ (Q none (rs_A S 2468 xs1.toNatClampNeg xs2))
set_option maxRecDepth 100000 in
set_option maxHeartbeats 4000000 in
theorem eb_X12_execute_563 {m : Nat} {ad : Nat → Nat} {fo : Nat → Option Nat} {st : Nat → Nat} {S0 : q_S} (w : r_WF m ad fo st S0)  (S : r_S) (xs1 : Int32) (xs2 : Int32) (Q : Option Value → q_S → Prop) : wb_X12_execute_563 (r_E m fo S S0) (some (ad 2468)) xs1 xs2 Q ↔ rb_X12_execute_563 S xs1 xs2 (fun r S => Q r (r_E m fo S S0)) := by
  unfold wb_X12_execute_563 rb_X12_execute_563
  simp only [r_eK, r_eI, r_eIs, r_eP, r_eN, true_and, Option.some.injEq, exists_eq_left', r_all, w.1, r_w1 w 2468 rfl, r_w2 w 2468 21 rfl rfl, r_w3 w 2468 rfl, r_eA w 2468 rfl, r_eAs w 2468 rfl]
def rb_X12_execute_498 (S : r_S) (x2 : Int32) (x3 : Int32) (x4 : Int32) (xs0 : Int32) (Q : Option Value → r_S → Prop) : Prop := (xs0 = 0 → (rb_X12_execute_563 S x2 (x3 + (4 : Int32)) Q)) ∧ (¬ xs0 = 0 → (rb_X12_execute_563 S x2 (x3 + (((((x4 >>> ((31 : Int32) &&& 31)) <<< ((12 : Int32) &&& 31)) ||| (((x4 >>> ((7 : Int32) &&& 31)) &&& (1 : Int32)) <<< ((11 : Int32) &&& 31))) ||| (((x4 >>> ((25 : Int32) &&& 31)) &&& (63 : Int32)) <<< ((5 : Int32) &&& 31))) ||| (((x4 >>> ((8 : Int32) &&& 31)) &&& (15 : Int32)) <<< ((1 : Int32) &&& 31)))) Q))
set_option maxRecDepth 100000 in
set_option maxHeartbeats 4000000 in
theorem eb_X12_execute_498 {m : Nat} {ad : Nat → Nat} {fo : Nat → Option Nat} {st : Nat → Nat} {S0 : q_S} (w : r_WF m ad fo st S0)  (S : r_S) (x2 : Int32) (x3 : Int32) (x4 : Int32) (xs0 : Int32) (Q : Option Value → q_S → Prop) : wb_X12_execute_498 (r_E m fo S S0) m x2 x3 x4 xs0 Q ↔ rb_X12_execute_498 S x2 x3 x4 xs0 (fun r S => Q r (r_E m fo S S0)) := by
  unfold wb_X12_execute_498 rb_X12_execute_498
  simp only [r_eK, r_eI, r_eIs, r_eP, r_eN, true_and, Option.some.injEq, exists_eq_left', r_all, w.1, r_w1 w 2468 rfl, r_w2 w 2468 21 rfl rfl, r_w3 w 2468 rfl, r_eA w 2468 rfl, r_eAs w 2468 rfl, eb_X12_execute_563 w]
def rb_X12_execute_360 (S : r_S) (x2 : Int32) (x3 : Int32) (x4 : Int32) (x6 : Int32) (x7 : Int32) (x8 : Int32) (Q : Option Value → r_S → Prop) : Prop := (x6 = (2 : Int32) → (rb_X12_execute_372 S x2 x4 Q)) ∧ (¬ x6 = (2 : Int32) → ((¬ x6 = (3 : Int32) → ((¬ x6 = 0 → ((¬ x6 = (1 : Int32) → ((¬ x6 = (4 : Int32) → ((¬ x6 = (5 : Int32) → ((¬ x6 = (6 : Int32) → (rm_X12_isBelow S x7 x8 (fun r48_ S49_ => ∃ x50_ : Int32, r48_ = some (.int x50_) ∧ ((¬ x50_ = 0 → (rb_X12_execute_498 S49_ x2 x3 x4 (0 : Int32) Q)) ∧ (x50_ = 0 → (rb_X12_execute_498 S49_ x2 x3 x4 (1 : Int32) Q)))))) ∧ (x6 = (6 : Int32) → (rm_X12_isBelow S x7 x8 (fun r53_ S54_ => ∃ x55_ : Int32, r53_ = some (.int x55_) ∧ (rb_X12_execute_498 S54_ x2 x3 x4 x55_ Q)))))) ∧ (x6 = (5 : Int32) → ((x7 < x8 → (rb_X12_execute_498 S x2 x3 x4 (0 : Int32) Q)) ∧ (¬ x7 < x8 → (rb_X12_execute_498 S x2 x3 x4 (1 : Int32) Q)))))) ∧ (x6 = (4 : Int32) → ((x8 ≤ x7 → (rb_X12_execute_498 S x2 x3 x4 (0 : Int32) Q)) ∧ (¬ x8 ≤ x7 → (rb_X12_execute_498 S x2 x3 x4 (1 : Int32) Q)))))) ∧ (x6 = (1 : Int32) → ((x7 = x8 → (rb_X12_execute_498 S x2 x3 x4 (0 : Int32) Q)) ∧ (¬ x7 = x8 → (rb_X12_execute_498 S x2 x3 x4 (1 : Int32) Q)))))) ∧ (x6 = 0 → ((¬ x7 = x8 → (rb_X12_execute_498 S x2 x3 x4 (0 : Int32) Q)) ∧ (x7 = x8 → (rb_X12_execute_498 S x2 x3 x4 (1 : Int32) Q)))))) ∧ (x6 = (3 : Int32) → (rb_X12_execute_372 S x2 x4 Q))))
set_option maxRecDepth 100000 in
set_option maxHeartbeats 4000000 in
theorem eb_X12_execute_360 {m : Nat} {ad : Nat → Nat} {fo : Nat → Option Nat} {st : Nat → Nat} {S0 : q_S} (w : r_WF m ad fo st S0)  (S : r_S) (x2 : Int32) (x3 : Int32) (x4 : Int32) (x6 : Int32) (x7 : Int32) (x8 : Int32) (Q : Option Value → q_S → Prop) : wb_X12_execute_360 (r_E m fo S S0) m x2 x3 x4 x6 x7 x8 Q ↔ rb_X12_execute_360 S x2 x3 x4 x6 x7 x8 (fun r S => Q r (r_E m fo S S0)) := by
  unfold wb_X12_execute_360 rb_X12_execute_360
  simp only [r_eK, r_eI, r_eIs, r_eP, r_eN, true_and, Option.some.injEq, exists_eq_left', r_all, w.1, eb_X12_execute_372 w, eb_X12_execute_498 w, em_X12_isBelow w]
def rb_X12_execute_837 (S : r_S) (x2 : Int32) (x3 : Int32) (Q : Option Value → r_S → Prop) : Prop := vp_in x2 (r_N 2468) ∧ (Q none (rs_A S 2468 x2.toNatClampNeg (x3 + (4 : Int32))))
set_option maxRecDepth 100000 in
set_option maxHeartbeats 4000000 in
theorem eb_X12_execute_837 {m : Nat} {ad : Nat → Nat} {fo : Nat → Option Nat} {st : Nat → Nat} {S0 : q_S} (w : r_WF m ad fo st S0)  (S : r_S) (x2 : Int32) (x3 : Int32) (Q : Option Value → q_S → Prop) : wb_X12_execute_837 (r_E m fo S S0) m x2 x3 Q ↔ rb_X12_execute_837 S x2 x3 (fun r S => Q r (r_E m fo S S0)) := by
  unfold wb_X12_execute_837 rb_X12_execute_837
  simp only [r_eK, r_eI, r_eIs, r_eP, r_eN, true_and, Option.some.injEq, exists_eq_left', r_all, w.1, r_w1 w 2468 rfl, r_w2 w 2468 21 rfl rfl, r_w3 w 2468 rfl, r_eA w 2468 rfl, r_eAs w 2468 rfl]
def rb_X12_execute_220 (S : r_S) (x2 : Int32) (x3 : Int32) (x4 : Int32) (x5 : Int32) (Q : Option Value → r_S → Prop) : Prop := rm_X12_set S x2 x5 (x4 &&& (-4096 : Int32)) (fun r66_ S67_ => r66_ = none ∧ (rb_X12_execute_837 S67_ x2 x3 Q))
set_option maxRecDepth 100000 in
set_option maxHeartbeats 4000000 in
theorem eb_X12_execute_220 {m : Nat} {ad : Nat → Nat} {fo : Nat → Option Nat} {st : Nat → Nat} {S0 : q_S} (w : r_WF m ad fo st S0)  (S : r_S) (x2 : Int32) (x3 : Int32) (x4 : Int32) (x5 : Int32) (Q : Option Value → q_S → Prop) : wb_X12_execute_220 (r_E m fo S S0) m x2 x3 x4 x5 Q ↔ rb_X12_execute_220 S x2 x3 x4 x5 (fun r S => Q r (r_E m fo S S0)) := by
  unfold wb_X12_execute_220 rb_X12_execute_220
  simp only [r_eK, r_eI, r_eIs, r_eP, r_eN, true_and, Option.some.injEq, exists_eq_left', r_all, w.1, eb_X12_execute_837 w, em_X12_set w]
def rb_X12_execute_750 (S : r_S) (x2 : Int32) (x4 : Int32) (Q : Option Value → r_S → Prop) : Prop := rm_X12_fails S x2 (0 : Int32) x4 (fun r69_ S70_ => r69_ = none ∧ (Q none S70_))
set_option maxRecDepth 100000 in
set_option maxHeartbeats 4000000 in
theorem eb_X12_execute_750 {m : Nat} {ad : Nat → Nat} {fo : Nat → Option Nat} {st : Nat → Nat} {S0 : q_S} (w : r_WF m ad fo st S0)  (S : r_S) (x2 : Int32) (x4 : Int32) (Q : Option Value → q_S → Prop) : wb_X12_execute_750 (r_E m fo S S0) m x2 x4 Q ↔ rb_X12_execute_750 S x2 x4 (fun r S => Q r (r_E m fo S S0)) := by
  unfold wb_X12_execute_750 rb_X12_execute_750
  simp only [r_eK, r_eI, r_eIs, r_eP, r_eN, true_and, Option.some.injEq, exists_eq_left', r_all, w.1, em_X12_fails w]
def rb_X12_execute_805 (S : r_S) (x2 : Int32) (x3 : Int32) (xs1 : Int32) (xs2 : Int32) (xs3 : Int32) (Q : Option Value → r_S → Prop) : Prop := rm_X12_set S xs1 xs2 xs3 (fun r72_ S73_ => r72_ = none ∧ (rb_X12_execute_837 S73_ x2 x3 Q))
set_option maxRecDepth 100000 in
set_option maxHeartbeats 4000000 in
theorem eb_X12_execute_805 {m : Nat} {ad : Nat → Nat} {fo : Nat → Option Nat} {st : Nat → Nat} {S0 : q_S} (w : r_WF m ad fo st S0)  (S : r_S) (x2 : Int32) (x3 : Int32) (xs1 : Int32) (xs2 : Int32) (xs3 : Int32) (Q : Option Value → q_S → Prop) : wb_X12_execute_805 (r_E m fo S S0) m x2 x3 m xs1 xs2 xs3 Q ↔ rb_X12_execute_805 S x2 x3 xs1 xs2 xs3 (fun r S => Q r (r_E m fo S S0)) := by
  unfold wb_X12_execute_805 rb_X12_execute_805
  simp only [r_eK, r_eI, r_eIs, r_eP, r_eN, true_and, Option.some.injEq, exists_eq_left', r_all, w.1, eb_X12_execute_837 w, em_X12_set w]
def rb_X12_execute_802 (S : r_S) (x2 : Int32) (x3 : Int32) (xs1 : Int32) (xs2 : Int32) (xs4 : Int32) (xs5 : Int32) (xs6 : Int32) (xs7 : Int32) (Q : Option Value → r_S → Prop) : Prop := rm_X12_reckoned S xs4 xs5 xs6 xs7 (fun r75_ S76_ => ∃ x77_ : Int32, r75_ = some (.int x77_) ∧ (rb_X12_execute_805 S76_ x2 x3 xs1 xs2 x77_ Q))
set_option maxRecDepth 100000 in
set_option maxHeartbeats 4000000 in
theorem eb_X12_execute_802 {m : Nat} {ad : Nat → Nat} {fo : Nat → Option Nat} {st : Nat → Nat} {S0 : q_S} (w : r_WF m ad fo st S0)  (S : r_S) (x2 : Int32) (x3 : Int32) (xs1 : Int32) (xs2 : Int32) (xs4 : Int32) (xs5 : Int32) (xs6 : Int32) (xs7 : Int32) (Q : Option Value → q_S → Prop) : wb_X12_execute_802 (r_E m fo S S0) m x2 x3 m xs1 xs2 m xs4 xs5 xs6 xs7 Q ↔ rb_X12_execute_802 S x2 x3 xs1 xs2 xs4 xs5 xs6 xs7 (fun r S => Q r (r_E m fo S S0)) := by
  unfold wb_X12_execute_802 rb_X12_execute_802
  simp only [r_eK, r_eI, r_eIs, r_eP, r_eN, true_and, Option.some.injEq, exists_eq_left', r_all, w.1, eb_X12_execute_805 w, em_X12_reckoned w]
def rb_X12_execute_783 (S : r_S) (x2 : Int32) (x3 : Int32) (x6 : Int32) (x7 : Int32) (x8 : Int32) (x9 : Int32) (xs1 : Int32) (xs2 : Int32) (Q : Option Value → r_S → Prop) : Prop := (¬ x9 = (32 : Int32) → (rb_X12_execute_802 S x2 x3 xs1 xs2 x6 x7 x8 (0 : Int32) Q)) ∧ (x9 = (32 : Int32) → (rb_X12_execute_802 S x2 x3 xs1 xs2 x6 x7 x8 (1 : Int32) Q))
set_option maxRecDepth 100000 in
set_option maxHeartbeats 4000000 in
theorem eb_X12_execute_783 {m : Nat} {ad : Nat → Nat} {fo : Nat → Option Nat} {st : Nat → Nat} {S0 : q_S} (w : r_WF m ad fo st S0)  (S : r_S) (x2 : Int32) (x3 : Int32) (x6 : Int32) (x7 : Int32) (x8 : Int32) (x9 : Int32) (xs1 : Int32) (xs2 : Int32) (Q : Option Value → q_S → Prop) : wb_X12_execute_783 (r_E m fo S S0) m x2 x3 x6 x7 x8 x9 m xs1 xs2 Q ↔ rb_X12_execute_783 S x2 x3 x6 x7 x8 x9 xs1 xs2 (fun r S => Q r (r_E m fo S S0)) := by
  unfold wb_X12_execute_783 rb_X12_execute_783
  simp only [r_eK, r_eI, r_eIs, r_eP, r_eN, true_and, Option.some.injEq, exists_eq_left', r_all, w.1, eb_X12_execute_802 w]
def rb_X12_execute_759 (S : r_S) (x2 : Int32) (x3 : Int32) (x5 : Int32) (x6 : Int32) (x7 : Int32) (x8 : Int32) (x9 : Int32) (Q : Option Value → r_S → Prop) : Prop := (¬ x6 = 0 → (rb_X12_execute_783 S x2 x3 x6 x7 x8 x9 x2 x5 Q)) ∧ (x6 = 0 → ((¬ x9 = (32 : Int32) → (rb_X12_execute_783 S x2 x3 x6 x7 x8 x9 x2 x5 Q)) ∧ (x9 = (32 : Int32) → (rb_X12_execute_805 S x2 x3 x2 x5 (x7 - x8) Q))))
set_option maxRecDepth 100000 in
set_option maxHeartbeats 4000000 in
theorem eb_X12_execute_759 {m : Nat} {ad : Nat → Nat} {fo : Nat → Option Nat} {st : Nat → Nat} {S0 : q_S} (w : r_WF m ad fo st S0)  (S : r_S) (x2 : Int32) (x3 : Int32) (x5 : Int32) (x6 : Int32) (x7 : Int32) (x8 : Int32) (x9 : Int32) (Q : Option Value → q_S → Prop) : wb_X12_execute_759 (r_E m fo S S0) m x2 x3 x5 x6 x7 x8 x9 Q ↔ rb_X12_execute_759 S x2 x3 x5 x6 x7 x8 x9 (fun r S => Q r (r_E m fo S S0)) := by
  unfold wb_X12_execute_759 rb_X12_execute_759
  simp only [r_eK, r_eI, r_eIs, r_eP, r_eN, true_and, Option.some.injEq, exists_eq_left', r_all, w.1, eb_X12_execute_783 w, eb_X12_execute_805 w]
def rb_X12_execute_727 (S : r_S) (x2 : Int32) (x3 : Int32) (x4 : Int32) (x5 : Int32) (x6 : Int32) (x7 : Int32) (x8 : Int32) (x9 : Int32) (Q : Option Value → r_S → Prop) : Prop := (x9 = 0 → (rb_X12_execute_759 S x2 x3 x5 x6 x7 x8 x9 Q)) ∧ (¬ x9 = 0 → ((¬ x9 = (32 : Int32) → (rb_X12_execute_750 S x2 x4 Q)) ∧ (x9 = (32 : Int32) → ((x6 = 0 → (rb_X12_execute_759 S x2 x3 x5 x6 x7 x8 x9 Q)) ∧ (¬ x6 = 0 → ((x6 = (5 : Int32) → (rb_X12_execute_759 S x2 x3 x5 x6 x7 x8 x9 Q)) ∧ (¬ x6 = (5 : Int32) → (rb_X12_execute_750 S x2 x4 Q))))))))
set_option maxRecDepth 100000 in
set_option maxHeartbeats 4000000 in
theorem eb_X12_execute_727 {m : Nat} {ad : Nat → Nat} {fo : Nat → Option Nat} {st : Nat → Nat} {S0 : q_S} (w : r_WF m ad fo st S0)  (S : r_S) (x2 : Int32) (x3 : Int32) (x4 : Int32) (x5 : Int32) (x6 : Int32) (x7 : Int32) (x8 : Int32) (x9 : Int32) (Q : Option Value → q_S → Prop) : wb_X12_execute_727 (r_E m fo S S0) m x2 x3 x4 x5 x6 x7 x8 x9 Q ↔ rb_X12_execute_727 S x2 x3 x4 x5 x6 x7 x8 x9 (fun r S => Q r (r_E m fo S S0)) := by
  unfold wb_X12_execute_727 rb_X12_execute_727
  simp only [r_eK, r_eI, r_eIs, r_eP, r_eN, true_and, Option.some.injEq, exists_eq_left', r_all, w.1, eb_X12_execute_750 w, eb_X12_execute_759 w]
def rb_X12_execute_650 (S : r_S) (Q : Option Value → r_S → Prop) : Prop := Q none S
set_option maxRecDepth 100000 in
set_option maxHeartbeats 4000000 in
theorem eb_X12_execute_650 {m : Nat} {ad : Nat → Nat} {fo : Nat → Option Nat} {st : Nat → Nat} {S0 : q_S} (w : r_WF m ad fo st S0)  (S : r_S) (Q : Option Value → q_S → Prop) : wb_X12_execute_650 (r_E m fo S S0) Q ↔ rb_X12_execute_650 S (fun r S => Q r (r_E m fo S S0)) := by
  unfold wb_X12_execute_650 rb_X12_execute_650
  simp only [r_eK, r_eI, r_eIs, r_eP, r_eN, true_and, Option.some.injEq, exists_eq_left', r_all, w.1]
def rb_X12_execute_604 (S : r_S) (x1 : Int32) (x2 : Int32) (x4 : Int32) (x6 : Int32) (x7 : Int32) (x8 : Int32) (Q : Option Value → r_S → Prop) : Prop := (x6 ≤ (2 : Int32) → (rm_X12_store S x1 x2 x6 (x7 + (((x4 >>> ((25 : Int32) &&& 31)) <<< ((5 : Int32) &&& 31)) ||| ((x4 >>> ((7 : Int32) &&& 31)) &&& (31 : Int32)))) x8 (fun r87_ S88_ => r87_ = none ∧ (rb_X12_execute_650 S88_ Q)))) ∧ (¬ x6 ≤ (2 : Int32) → (rm_X12_fails S x2 (0 : Int32) x4 (fun r90_ S91_ => r90_ = none ∧ (rb_X12_execute_650 S91_ Q))))
set_option maxRecDepth 100000 in
set_option maxHeartbeats 4000000 in
theorem eb_X12_execute_604 {m : Nat} {ad : Nat → Nat} {fo : Nat → Option Nat} {st : Nat → Nat} {S0 : q_S} (w : r_WF m ad fo st S0)  (S : r_S) (x1 : Int32) (x2 : Int32) (x4 : Int32) (x6 : Int32) (x7 : Int32) (x8 : Int32) (Q : Option Value → q_S → Prop) : wb_X12_execute_604 (r_E m fo S S0) m x1 x2 x4 x6 x7 x8 Q ↔ rb_X12_execute_604 S x1 x2 x4 x6 x7 x8 (fun r S => Q r (r_E m fo S S0)) := by
  unfold wb_X12_execute_604 rb_X12_execute_604
  simp only [r_eK, r_eI, r_eIs, r_eP, r_eN, true_and, Option.some.injEq, exists_eq_left', r_all, w.1, eb_X12_execute_650 w, em_X12_fails w, em_X12_store w]
def rb_X12_execute_236 (S : r_S) (x2 : Int32) (x3 : Int32) (x4 : Int32) (x5 : Int32) (Q : Option Value → r_S → Prop) : Prop := rm_X12_set S x2 x5 (x3 + (x4 &&& (-4096 : Int32))) (fun r93_ S94_ => r93_ = none ∧ (rb_X12_execute_837 S94_ x2 x3 Q))
set_option maxRecDepth 100000 in
set_option maxHeartbeats 4000000 in
theorem eb_X12_execute_236 {m : Nat} {ad : Nat → Nat} {fo : Nat → Option Nat} {st : Nat → Nat} {S0 : q_S} (w : r_WF m ad fo st S0)  (S : r_S) (x2 : Int32) (x3 : Int32) (x4 : Int32) (x5 : Int32) (Q : Option Value → q_S → Prop) : wb_X12_execute_236 (r_E m fo S S0) m x2 x3 x4 x5 Q ↔ rb_X12_execute_236 S x2 x3 x4 x5 (fun r S => Q r (r_E m fo S S0)) := by
  unfold wb_X12_execute_236 rb_X12_execute_236
  simp only [r_eK, r_eI, r_eIs, r_eP, r_eN, true_and, Option.some.injEq, exists_eq_left', r_all, w.1, eb_X12_execute_837 w, em_X12_set w]
def rb_X12_execute_680 (S : r_S) (x2 : Int32) (x4 : Int32) (Q : Option Value → r_S → Prop) : Prop := rm_X12_fails S x2 (0 : Int32) x4 (fun r96_ S97_ => r96_ = none ∧ (Q none S97_))
set_option maxRecDepth 100000 in
set_option maxHeartbeats 4000000 in
theorem eb_X12_execute_680 {m : Nat} {ad : Nat → Nat} {fo : Nat → Option Nat} {st : Nat → Nat} {S0 : q_S} (w : r_WF m ad fo st S0)  (S : r_S) (x2 : Int32) (x4 : Int32) (Q : Option Value → q_S → Prop) : wb_X12_execute_680 (r_E m fo S S0) m x2 x4 Q ↔ rb_X12_execute_680 S x2 x4 (fun r S => Q r (r_E m fo S S0)) := by
  unfold wb_X12_execute_680 rb_X12_execute_680
  simp only [r_eK, r_eI, r_eIs, r_eP, r_eN, true_and, Option.some.injEq, exists_eq_left', r_all, w.1, em_X12_fails w]
def rb_X12_execute_718 (S : r_S) (x2 : Int32) (x3 : Int32) (xs1 : Int32) (xs2 : Int32) (xs4 : Int32) (xs5 : Int32) (xs6 : Int32) (xs7 : Int32) (Q : Option Value → r_S → Prop) : Prop := rm_X12_reckoned S xs4 xs5 xs6 xs7 (fun r99_ S100_ => ∃ x101_ : Int32, r99_ = some (.int x101_) ∧ (rm_X12_set S100_ xs1 xs2 x101_ (fun r103_ S104_ => r103_ = none ∧ (rb_X12_execute_837 S104_ x2 x3 Q))))
set_option maxRecDepth 100000 in
set_option maxHeartbeats 4000000 in
theorem eb_X12_execute_718 {m : Nat} {ad : Nat → Nat} {fo : Nat → Option Nat} {st : Nat → Nat} {S0 : q_S} (w : r_WF m ad fo st S0)  (S : r_S) (x2 : Int32) (x3 : Int32) (xs1 : Int32) (xs2 : Int32) (xs4 : Int32) (xs5 : Int32) (xs6 : Int32) (xs7 : Int32) (Q : Option Value → q_S → Prop) : wb_X12_execute_718 (r_E m fo S S0) m x2 x3 m xs1 xs2 m xs4 xs5 xs6 xs7 Q ↔ rb_X12_execute_718 S x2 x3 xs1 xs2 xs4 xs5 xs6 xs7 (fun r S => Q r (r_E m fo S S0)) := by
  unfold wb_X12_execute_718 rb_X12_execute_718
  simp only [r_eK, r_eI, r_eIs, r_eP, r_eN, true_and, Option.some.injEq, exists_eq_left', r_all, w.1, eb_X12_execute_837 w, em_X12_reckoned w, em_X12_set w]
def rb_X12_execute_717 (S : r_S) (x2 : Int32) (x3 : Int32) (xs1 : Int32) (xs2 : Int32) (xs4 : Int32) (xs5 : Int32) (xs6 : Int32) (Q : Option Value → r_S → Prop) : Prop := rb_X12_execute_718 S x2 x3 xs1 xs2 xs4 xs5 xs6 (0 : Int32) Q
set_option maxRecDepth 100000 in
set_option maxHeartbeats 4000000 in
theorem eb_X12_execute_717 {m : Nat} {ad : Nat → Nat} {fo : Nat → Option Nat} {st : Nat → Nat} {S0 : q_S} (w : r_WF m ad fo st S0)  (S : r_S) (x2 : Int32) (x3 : Int32) (xs1 : Int32) (xs2 : Int32) (xs4 : Int32) (xs5 : Int32) (xs6 : Int32) (Q : Option Value → q_S → Prop) : wb_X12_execute_717 (r_E m fo S S0) m x2 x3 m xs1 xs2 m xs4 xs5 xs6 Q ↔ rb_X12_execute_717 S x2 x3 xs1 xs2 xs4 xs5 xs6 (fun r S => Q r (r_E m fo S S0)) := by
  unfold wb_X12_execute_717 rb_X12_execute_717
  simp only [r_eK, r_eI, r_eIs, r_eP, r_eN, true_and, Option.some.injEq, exists_eq_left', r_all, w.1, eb_X12_execute_718 w]
def rb_X12_execute_689 (S : r_S) (x2 : Int32) (x3 : Int32) (x5 : Int32) (x6 : Int32) (x7 : Int32) (x9 : Int32) (x10 : Int32) (Q : Option Value → r_S → Prop) : Prop := (¬ x6 = (5 : Int32) → (rb_X12_execute_717 S x2 x3 x2 x5 x6 x7 x10 Q)) ∧ (x6 = (5 : Int32) → ((¬ x9 = (32 : Int32) → (rb_X12_execute_717 S x2 x3 x2 x5 x6 x7 x10 Q)) ∧ (x9 = (32 : Int32) → (rb_X12_execute_718 S x2 x3 x2 x5 x6 x7 x10 (1 : Int32) Q))))
set_option maxRecDepth 100000 in
set_option maxHeartbeats 4000000 in
theorem eb_X12_execute_689 {m : Nat} {ad : Nat → Nat} {fo : Nat → Option Nat} {st : Nat → Nat} {S0 : q_S} (w : r_WF m ad fo st S0)  (S : r_S) (x2 : Int32) (x3 : Int32) (x5 : Int32) (x6 : Int32) (x7 : Int32) (x9 : Int32) (x10 : Int32) (Q : Option Value → q_S → Prop) : wb_X12_execute_689 (r_E m fo S S0) m x2 x3 x5 x6 x7 x9 x10 Q ↔ rb_X12_execute_689 S x2 x3 x5 x6 x7 x9 x10 (fun r S => Q r (r_E m fo S S0)) := by
  unfold wb_X12_execute_689 rb_X12_execute_689
  simp only [r_eK, r_eI, r_eIs, r_eP, r_eN, true_and, Option.some.injEq, exists_eq_left', r_all, w.1, eb_X12_execute_717 w, eb_X12_execute_718 w]
def rb_X12_execute_662 (S : r_S) (x2 : Int32) (x3 : Int32) (x4 : Int32) (x5 : Int32) (x6 : Int32) (x7 : Int32) (x9 : Int32) (x10 : Int32) (Q : Option Value → r_S → Prop) : Prop := (¬ x6 = (5 : Int32) → (rb_X12_execute_689 S x2 x3 x5 x6 x7 x9 x10 Q)) ∧ (x6 = (5 : Int32) → ((x9 = 0 → (rb_X12_execute_689 S x2 x3 x5 x6 x7 x9 x10 Q)) ∧ (¬ x9 = 0 → ((x9 = (32 : Int32) → (rb_X12_execute_689 S x2 x3 x5 x6 x7 x9 x10 Q)) ∧ (¬ x9 = (32 : Int32) → (rb_X12_execute_680 S x2 x4 Q))))))
set_option maxRecDepth 100000 in
set_option maxHeartbeats 4000000 in
theorem eb_X12_execute_662 {m : Nat} {ad : Nat → Nat} {fo : Nat → Option Nat} {st : Nat → Nat} {S0 : q_S} (w : r_WF m ad fo st S0)  (S : r_S) (x2 : Int32) (x3 : Int32) (x4 : Int32) (x5 : Int32) (x6 : Int32) (x7 : Int32) (x9 : Int32) (x10 : Int32) (Q : Option Value → q_S → Prop) : wb_X12_execute_662 (r_E m fo S S0) m x2 x3 x4 x5 x6 x7 x9 x10 Q ↔ rb_X12_execute_662 S x2 x3 x4 x5 x6 x7 x9 x10 (fun r S => Q r (r_E m fo S S0)) := by
  unfold wb_X12_execute_662 rb_X12_execute_662
  simp only [r_eK, r_eI, r_eIs, r_eP, r_eN, true_and, Option.some.injEq, exists_eq_left', r_all, w.1, eb_X12_execute_680 w, eb_X12_execute_689 w]
def rb_X12_execute_651 (S : r_S) (x2 : Int32) (x3 : Int32) (x4 : Int32) (x5 : Int32) (x6 : Int32) (x7 : Int32) (x9 : Int32) (x10 : Int32) (Q : Option Value → r_S → Prop) : Prop := (¬ x6 = (1 : Int32) → (rb_X12_execute_662 S x2 x3 x4 x5 x6 x7 x9 x10 Q)) ∧ (x6 = (1 : Int32) → ((¬ x9 = 0 → (rb_X12_execute_680 S x2 x4 Q)) ∧ (x9 = 0 → (rb_X12_execute_662 S x2 x3 x4 x5 x6 x7 x9 x10 Q))))
set_option maxRecDepth 100000 in
set_option maxHeartbeats 4000000 in
theorem eb_X12_execute_651 {m : Nat} {ad : Nat → Nat} {fo : Nat → Option Nat} {st : Nat → Nat} {S0 : q_S} (w : r_WF m ad fo st S0)  (S : r_S) (x2 : Int32) (x3 : Int32) (x4 : Int32) (x5 : Int32) (x6 : Int32) (x7 : Int32) (x9 : Int32) (x10 : Int32) (Q : Option Value → q_S → Prop) : wb_X12_execute_651 (r_E m fo S S0) m x2 x3 x4 x5 x6 x7 x9 x10 Q ↔ rb_X12_execute_651 S x2 x3 x4 x5 x6 x7 x9 x10 (fun r S => Q r (r_E m fo S S0)) := by
  unfold wb_X12_execute_651 rb_X12_execute_651
  simp only [r_eK, r_eI, r_eIs, r_eP, r_eN, true_and, Option.some.injEq, exists_eq_left', r_all, w.1, eb_X12_execute_662 w, eb_X12_execute_680 w]
def rb_X12_execute_603 (S : r_S) (Q : Option Value → r_S → Prop) : Prop := Q none S
set_option maxRecDepth 100000 in
set_option maxHeartbeats 4000000 in
theorem eb_X12_execute_603 {m : Nat} {ad : Nat → Nat} {fo : Nat → Option Nat} {st : Nat → Nat} {S0 : q_S} (w : r_WF m ad fo st S0)  (S : r_S) (Q : Option Value → q_S → Prop) : wb_X12_execute_603 (r_E m fo S S0) Q ↔ rb_X12_execute_603 S (fun r S => Q r (r_E m fo S S0)) := by
  unfold wb_X12_execute_603 rb_X12_execute_603
  simp only [r_eK, r_eI, r_eIs, r_eP, r_eN, true_and, Option.some.injEq, exists_eq_left', r_all, w.1]
def rb_X12_execute_577 (S : r_S) (x2 : Int32) (x4 : Int32) (Q : Option Value → r_S → Prop) : Prop := rm_X12_fails S x2 (0 : Int32) x4 (fun r113_ S114_ => r113_ = none ∧ (rb_X12_execute_603 S114_ Q))
set_option maxRecDepth 100000 in
set_option maxHeartbeats 4000000 in
theorem eb_X12_execute_577 {m : Nat} {ad : Nat → Nat} {fo : Nat → Option Nat} {st : Nat → Nat} {S0 : q_S} (w : r_WF m ad fo st S0)  (S : r_S) (x2 : Int32) (x4 : Int32) (Q : Option Value → q_S → Prop) : wb_X12_execute_577 (r_E m fo S S0) m x2 x4 Q ↔ rb_X12_execute_577 S x2 x4 (fun r S => Q r (r_E m fo S S0)) := by
  unfold wb_X12_execute_577 rb_X12_execute_577
  simp only [r_eK, r_eI, r_eIs, r_eP, r_eN, true_and, Option.some.injEq, exists_eq_left', r_all, w.1, eb_X12_execute_603 w, em_X12_fails w]
def rb_X12_execute_565 (S : r_S) (x1 : Int32) (x2 : Int32) (x4 : Int32) (x5 : Int32) (x6 : Int32) (x7 : Int32) (x10 : Int32) (Q : Option Value → r_S → Prop) : Prop := (x6 = (3 : Int32) → (rb_X12_execute_577 S x2 x4 Q)) ∧ (¬ x6 = (3 : Int32) → ((x6 ≤ (5 : Int32) → (rm_X12_load_ S x1 x2 x5 x6 (x7 + x10) (fun r118_ S119_ => r118_ = none ∧ (rb_X12_execute_603 S119_ Q)))) ∧ (¬ x6 ≤ (5 : Int32) → (rb_X12_execute_577 S x2 x4 Q))))
set_option maxRecDepth 100000 in
set_option maxHeartbeats 4000000 in
theorem eb_X12_execute_565 {m : Nat} {ad : Nat → Nat} {fo : Nat → Option Nat} {st : Nat → Nat} {S0 : q_S} (w : r_WF m ad fo st S0)  (S : r_S) (x1 : Int32) (x2 : Int32) (x4 : Int32) (x5 : Int32) (x6 : Int32) (x7 : Int32) (x10 : Int32) (Q : Option Value → q_S → Prop) : wb_X12_execute_565 (r_E m fo S S0) m x1 x2 x4 x5 x6 x7 x10 Q ↔ rb_X12_execute_565 S x1 x2 x4 x5 x6 x7 x10 (fun r S => Q r (r_E m fo S S0)) := by
  unfold wb_X12_execute_565 rb_X12_execute_565
  simp only [r_eK, r_eI, r_eIs, r_eP, r_eN, true_and, Option.some.injEq, exists_eq_left', r_all, w.1, eb_X12_execute_577 w, eb_X12_execute_603 w, em_X12_load_ w]
def rm_X12_execute (S : r_S) (x1 : Int32) (x2 : Int32) (Q : Option Value → r_S → Prop) : Prop := vp_in x2 (r_N 2468) ∧ ((((r_A S 2468 x2.toNatClampNeg) - (r_A S 2468 x2.toNatClampNeg) / (4 : Int32) * (4 : Int32)) = 0 → (rm_X12_isWithin S x1 (r_A S 2468 x2.toNatClampNeg) (4 : Int32) (fun r126_ S127_ => ∃ x128_ : Int32, r126_ = some (.int x128_) ∧ ((x128_ = 0 → (rb_X12_execute_41 S127_ x2 (r_A S 2468 x2.toNatClampNeg) Q)) ∧ (¬ x128_ = 0 → (rm_X12_isIn S127_ x1 (r_A S 2468 x2.toNatClampNeg) (0 : Int32) (fun r131_ S132_ => ∃ x133_ : Int32, r131_ = some (.int x133_) ∧ ((¬ x133_ = 0 → (rm_X12_read S132_ x1 (r_A S 2468 x2.toNatClampNeg) (4 : Int32) (fun r136_ S137_ => ∃ x138_ : Int32, r136_ = some (.int x138_) ∧ (vp_in (((32 : Int32) * x2) + ((x138_ >>> ((15 : Int32) &&& 31)) &&& (31 : Int32))) (r_N 2477) ∧ (vp_in (((32 : Int32) * x2) + ((x138_ >>> ((20 : Int32) &&& 31)) &&& (31 : Int32))) (r_N 2477) ∧ (((x138_ &&& (127 : Int32)) = (3 : Int32) → (rb_X12_execute_565 S137_ x1 x2 x138_ ((x138_ >>> ((7 : Int32) &&& 31)) &&& (31 : Int32)) ((x138_ >>> ((12 : Int32) &&& 31)) &&& (7 : Int32)) (r_A S137_ 2477 (((32 : Int32) * x2) + ((x138_ >>> ((15 : Int32) &&& 31)) &&& (31 : Int32))).toNatClampNeg) (x138_ >>> ((20 : Int32) &&& 31)) Q)) ∧ ((x138_ &&& (127 : Int32)) = (19 : Int32) → (rb_X12_execute_651 S137_ x2 (r_A S 2468 x2.toNatClampNeg) x138_ ((x138_ >>> ((7 : Int32) &&& 31)) &&& (31 : Int32)) ((x138_ >>> ((12 : Int32) &&& 31)) &&& (7 : Int32)) (r_A S137_ 2477 (((32 : Int32) * x2) + ((x138_ >>> ((15 : Int32) &&& 31)) &&& (31 : Int32))).toNatClampNeg) (x138_.toUInt32 >>> ((25 : Int32).toUInt32 &&& Int32.toUInt32 31)).toInt32 (x138_ >>> ((20 : Int32) &&& 31)) Q)) ∧ ((x138_ &&& (127 : Int32)) = (23 : Int32) → (rb_X12_execute_236 S137_ x2 (r_A S 2468 x2.toNatClampNeg) x138_ ((x138_ >>> ((7 : Int32) &&& 31)) &&& (31 : Int32)) Q)) ∧ ((x138_ &&& (127 : Int32)) = (35 : Int32) → (rb_X12_execute_604 S137_ x1 x2 x138_ ((x138_ >>> ((12 : Int32) &&& 31)) &&& (7 : Int32)) (r_A S137_ 2477 (((32 : Int32) * x2) + ((x138_ >>> ((15 : Int32) &&& 31)) &&& (31 : Int32))).toNatClampNeg) (r_A S137_ 2477 (((32 : Int32) * x2) + ((x138_ >>> ((20 : Int32) &&& 31)) &&& (31 : Int32))).toNatClampNeg) Q)) ∧ ((x138_ &&& (127 : Int32)) = (51 : Int32) → (rb_X12_execute_727 S137_ x2 (r_A S 2468 x2.toNatClampNeg) x138_ ((x138_ >>> ((7 : Int32) &&& 31)) &&& (31 : Int32)) ((x138_ >>> ((12 : Int32) &&& 31)) &&& (7 : Int32)) (r_A S137_ 2477 (((32 : Int32) * x2) + ((x138_ >>> ((15 : Int32) &&& 31)) &&& (31 : Int32))).toNatClampNeg) (r_A S137_ 2477 (((32 : Int32) * x2) + ((x138_ >>> ((20 : Int32) &&& 31)) &&& (31 : Int32))).toNatClampNeg) (x138_.toUInt32 >>> ((25 : Int32).toUInt32 &&& Int32.toUInt32 31)).toInt32 Q)) ∧ ((x138_ &&& (127 : Int32)) = (55 : Int32) → (rb_X12_execute_220 S137_ x2 (r_A S 2468 x2.toNatClampNeg) x138_ ((x138_ >>> ((7 : Int32) &&& 31)) &&& (31 : Int32)) Q)) ∧ ((x138_ &&& (127 : Int32)) = (99 : Int32) → (rb_X12_execute_360 S137_ x2 (r_A S 2468 x2.toNatClampNeg) x138_ ((x138_ >>> ((12 : Int32) &&& 31)) &&& (7 : Int32)) (r_A S137_ 2477 (((32 : Int32) * x2) + ((x138_ >>> ((15 : Int32) &&& 31)) &&& (31 : Int32))).toNatClampNeg) (r_A S137_ 2477 (((32 : Int32) * x2) + ((x138_ >>> ((20 : Int32) &&& 31)) &&& (31 : Int32))).toNatClampNeg) Q)) ∧ ((x138_ &&& (127 : Int32)) = (103 : Int32) → (rb_X12_execute_321 S137_ x2 (r_A S 2468 x2.toNatClampNeg) x138_ ((x138_ >>> ((7 : Int32) &&& 31)) &&& (31 : Int32)) ((x138_ >>> ((12 : Int32) &&& 31)) &&& (7 : Int32)) (r_A S137_ 2477 (((32 : Int32) * x2) + ((x138_ >>> ((15 : Int32) &&& 31)) &&& (31 : Int32))).toNatClampNeg) (x138_ >>> ((20 : Int32) &&& 31)) Q)) ∧ ((x138_ &&& (127 : Int32)) = (111 : Int32) → (rb_X12_execute_254 S137_ x2 (r_A S 2468 x2.toNatClampNeg) x138_ ((x138_ >>> ((7 : Int32) &&& 31)) &&& (31 : Int32)) Q)) ∧ ((¬ (x138_ &&& (127 : Int32)) = (3 : Int32) ∧ ¬ (x138_ &&& (127 : Int32)) = (19 : Int32) ∧ ¬ (x138_ &&& (127 : Int32)) = (23 : Int32) ∧ ¬ (x138_ &&& (127 : Int32)) = (35 : Int32) ∧ ¬ (x138_ &&& (127 : Int32)) = (51 : Int32) ∧ ¬ (x138_ &&& (127 : Int32)) = (55 : Int32) ∧ ¬ (x138_ &&& (127 : Int32)) = (99 : Int32) ∧ ¬ (x138_ &&& (127 : Int32)) = (103 : Int32) ∧ ¬ (x138_ &&& (127 : Int32)) = (111 : Int32)) → (rb_X12_execute_811 S137_ x1 x2 (r_A S 2468 x2.toNatClampNeg) x138_ Q)))))))) ∧ (x133_ = 0 → (rb_X12_execute_41 S132_ x2 (r_A S 2468 x2.toNatClampNeg) Q)))))))))) ∧ (¬ ((r_A S 2468 x2.toNatClampNeg) - (r_A S 2468 x2.toNatClampNeg) / (4 : Int32) * (4 : Int32)) = 0 → (rm_X12_fails S x2 (4 : Int32) (r_A S 2468 x2.toNatClampNeg) (fun r154_ S155_ => r154_ = none ∧ (Q none S155_)))))
set_option maxRecDepth 100000 in
set_option maxHeartbeats 4000000 in
theorem em_X12_execute {m : Nat} {ad : Nat → Nat} {fo : Nat → Option Nat} {st : Nat → Nat} {S0 : q_S} (w : r_WF m ad fo st S0)  (S : r_S) (x1 : Int32) (x2 : Int32) (Q : Option Value → q_S → Prop) : wm_X12_execute (r_E m fo S S0) m x1 x2 Q ↔ rm_X12_execute S x1 x2 (fun r S => Q r (r_E m fo S S0)) := by
  unfold wm_X12_execute rm_X12_execute
  simp only [r_eK, r_eI, r_eIs, r_eP, r_eN, true_and, Option.some.injEq, exists_eq_left', r_all, w.1, r_w1 w 2468 rfl, r_w2 w 2468 21 rfl rfl, r_w3 w 2468 rfl, r_eA w 2468 rfl, r_eAs w 2468 rfl, r_w1 w 2477 rfl, r_w2 w 2477 21 rfl rfl, r_w3 w 2477 rfl, r_eA w 2477 rfl, r_eAs w 2477 rfl, eb_X12_execute_220 w, eb_X12_execute_236 w, eb_X12_execute_254 w, eb_X12_execute_321 w, eb_X12_execute_360 w, eb_X12_execute_41 w, eb_X12_execute_565 w, eb_X12_execute_604 w, eb_X12_execute_651 w, eb_X12_execute_727 w, eb_X12_execute_811 w, em_X12_fails w, em_X12_isIn w, em_X12_isWithin w, em_X12_read w]
def rb_X12_works_96 (B2 : r_S → Int32 → Int32 → Prop) (B14 : r_S → Int32 → Int32 → Int32 → Prop) (S : r_S) (x1 : Int32) (x3 : Int32) (x4 : Int32) (Q : Option Value → r_S → Prop) : Prop := B14 S x1 x3 (x4 + 1)
set_option maxRecDepth 100000 in
set_option maxHeartbeats 4000000 in
theorem eb_X12_works_96 {m : Nat} {ad : Nat → Nat} {fo : Nat → Option Nat} {st : Nat → Nat} {S0 : q_S} (w : r_WF m ad fo st S0) {OB2 : q_S → Nat → Int32 → Int32 → Prop} {B2 : r_S → Int32 → Int32 → Prop} {OB14 : q_S → Nat → Int32 → Int32 → Int32 → Prop} {B14 : r_S → Int32 → Int32 → Int32 → Prop} (hB2 : ∀ (S : r_S) (y2 : Int32) (y3 : Int32), (OB2 (r_E m fo S S0) m y2 y3 ↔ B2 S y2 y3)) (hB14 : ∀ (S : r_S) (y2 : Int32) (y3 : Int32) (y4 : Int32), (OB14 (r_E m fo S S0) m y2 y3 y4 ↔ B14 S y2 y3 y4)) (S : r_S) (x1 : Int32) (x3 : Int32) (x4 : Int32) (Q : Option Value → q_S → Prop) : wb_X12_works_96 OB2 OB14 (r_E m fo S S0) m x1 x3 x4 Q ↔ rb_X12_works_96 B2 B14 S x1 x3 x4 (fun r S => Q r (r_E m fo S S0)) := by
  unfold wb_X12_works_96 rb_X12_works_96
  simp only [r_eK, r_eI, r_eIs, r_eP, r_eN, true_and, Option.some.injEq, exists_eq_left', r_all, w.1, hB2, hB14]
def rb_X12_works_93 (B2 : r_S → Int32 → Int32 → Prop) (B14 : r_S → Int32 → Int32 → Int32 → Prop) (S : r_S) (x1 : Int32) (x4 : Int32) (Q : Option Value → r_S → Prop) : Prop := rb_X12_works_96 B2 B14 S x1 x4 x4 Q
set_option maxRecDepth 100000 in
set_option maxHeartbeats 4000000 in
theorem eb_X12_works_93 {m : Nat} {ad : Nat → Nat} {fo : Nat → Option Nat} {st : Nat → Nat} {S0 : q_S} (w : r_WF m ad fo st S0) {OB2 : q_S → Nat → Int32 → Int32 → Prop} {B2 : r_S → Int32 → Int32 → Prop} {OB14 : q_S → Nat → Int32 → Int32 → Int32 → Prop} {B14 : r_S → Int32 → Int32 → Int32 → Prop} (hB2 : ∀ (S : r_S) (y2 : Int32) (y3 : Int32), (OB2 (r_E m fo S S0) m y2 y3 ↔ B2 S y2 y3)) (hB14 : ∀ (S : r_S) (y2 : Int32) (y3 : Int32) (y4 : Int32), (OB14 (r_E m fo S S0) m y2 y3 y4 ↔ B14 S y2 y3 y4)) (S : r_S) (x1 : Int32) (x4 : Int32) (Q : Option Value → q_S → Prop) : wb_X12_works_93 OB2 OB14 (r_E m fo S S0) m x1 x4 Q ↔ rb_X12_works_93 B2 B14 S x1 x4 (fun r S => Q r (r_E m fo S S0)) := by
  unfold wb_X12_works_93 rb_X12_works_93
  simp only [r_eK, r_eI, r_eIs, r_eP, r_eN, true_and, Option.some.injEq, exists_eq_left', r_all, w.1, eb_X12_works_96 w hB2 hB14, hB2, hB14]
def rb_X12_works_65 (B2 : r_S → Int32 → Int32 → Prop) (B14 : r_S → Int32 → Int32 → Int32 → Prop) (S : r_S) (x1 : Int32) (x3 : Int32) (x4 : Int32) (xs0 : Int32) (Q : Option Value → r_S → Prop) : Prop := (xs0 = 0 → (rb_X12_works_96 B2 B14 S x1 x3 x4 Q)) ∧ (¬ xs0 = 0 → ((x3 = (-1 : Int32) → (rb_X12_works_93 B2 B14 S x1 x4 Q)) ∧ (¬ x3 = (-1 : Int32) → (vp_in x4 (r_N 2472) ∧ (vp_in x3 (r_N 2472) ∧ (((r_A S 2472 x3.toNatClampNeg) ≤ (r_A S 2472 x4.toNatClampNeg) → (rb_X12_works_96 B2 B14 S x1 x3 x4 Q)) ∧ (¬ (r_A S 2472 x3.toNatClampNeg) ≤ (r_A S 2472 x4.toNatClampNeg) → (rb_X12_works_93 B2 B14 S x1 x4 Q))))))))
set_option maxRecDepth 100000 in
set_option maxHeartbeats 4000000 in
theorem eb_X12_works_65 {m : Nat} {ad : Nat → Nat} {fo : Nat → Option Nat} {st : Nat → Nat} {S0 : q_S} (w : r_WF m ad fo st S0) {OB2 : q_S → Nat → Int32 → Int32 → Prop} {B2 : r_S → Int32 → Int32 → Prop} {OB14 : q_S → Nat → Int32 → Int32 → Int32 → Prop} {B14 : r_S → Int32 → Int32 → Int32 → Prop} (hB2 : ∀ (S : r_S) (y2 : Int32) (y3 : Int32), (OB2 (r_E m fo S S0) m y2 y3 ↔ B2 S y2 y3)) (hB14 : ∀ (S : r_S) (y2 : Int32) (y3 : Int32) (y4 : Int32), (OB14 (r_E m fo S S0) m y2 y3 y4 ↔ B14 S y2 y3 y4)) (S : r_S) (x1 : Int32) (x3 : Int32) (x4 : Int32) (xs0 : Int32) (Q : Option Value → q_S → Prop) : wb_X12_works_65 OB2 OB14 (r_E m fo S S0) m x1 x3 x4 xs0 Q ↔ rb_X12_works_65 B2 B14 S x1 x3 x4 xs0 (fun r S => Q r (r_E m fo S S0)) := by
  unfold wb_X12_works_65 rb_X12_works_65
  simp only [r_eK, r_eI, r_eIs, r_eP, r_eN, true_and, Option.some.injEq, exists_eq_left', r_all, w.1, r_w1 w 2472 rfl, r_w2 w 2472 21 rfl rfl, r_w3 w 2472 rfl, r_eA w 2472 rfl, r_eAs w 2472 rfl, eb_X12_works_93 w hB2 hB14, eb_X12_works_96 w hB2 hB14, hB2, hB14]
def rb_X12_works_64 (B2 : r_S → Int32 → Int32 → Prop) (B14 : r_S → Int32 → Int32 → Int32 → Prop) (S : r_S) (x1 : Int32) (x3 : Int32) (x4 : Int32) (Q : Option Value → r_S → Prop) : Prop := rb_X12_works_65 B2 B14 S x1 x3 x4 (0 : Int32) Q
set_option maxRecDepth 100000 in
set_option maxHeartbeats 4000000 in
theorem eb_X12_works_64 {m : Nat} {ad : Nat → Nat} {fo : Nat → Option Nat} {st : Nat → Nat} {S0 : q_S} (w : r_WF m ad fo st S0) {OB2 : q_S → Nat → Int32 → Int32 → Prop} {B2 : r_S → Int32 → Int32 → Prop} {OB14 : q_S → Nat → Int32 → Int32 → Int32 → Prop} {B14 : r_S → Int32 → Int32 → Int32 → Prop} (hB2 : ∀ (S : r_S) (y2 : Int32) (y3 : Int32), (OB2 (r_E m fo S S0) m y2 y3 ↔ B2 S y2 y3)) (hB14 : ∀ (S : r_S) (y2 : Int32) (y3 : Int32) (y4 : Int32), (OB14 (r_E m fo S S0) m y2 y3 y4 ↔ B14 S y2 y3 y4)) (S : r_S) (x1 : Int32) (x3 : Int32) (x4 : Int32) (Q : Option Value → q_S → Prop) : wb_X12_works_64 OB2 OB14 (r_E m fo S S0) m x1 x3 x4 Q ↔ rb_X12_works_64 B2 B14 S x1 x3 x4 (fun r S => Q r (r_E m fo S S0)) := by
  unfold wb_X12_works_64 rb_X12_works_64
  simp only [r_eK, r_eI, r_eIs, r_eP, r_eN, true_and, Option.some.injEq, exists_eq_left', r_all, w.1, eb_X12_works_65 w hB2 hB14, hB2, hB14]
def rb_X12_works_135 (B2 : r_S → Int32 → Int32 → Prop) (S : r_S) (x1 : Int32) (x2 : Int32) (x3 : Int32) (Q : Option Value → r_S → Prop) : Prop := rm_X12_isReady S x3 (fun r11_ S12_ => r11_ = none ∧ (B2 S12_ x1 x2))
set_option maxRecDepth 100000 in
set_option maxHeartbeats 4000000 in
theorem eb_X12_works_135 {m : Nat} {ad : Nat → Nat} {fo : Nat → Option Nat} {st : Nat → Nat} {S0 : q_S} (w : r_WF m ad fo st S0) {OB2 : q_S → Nat → Int32 → Int32 → Prop} {B2 : r_S → Int32 → Int32 → Prop} (hB2 : ∀ (S : r_S) (y2 : Int32) (y3 : Int32), (OB2 (r_E m fo S S0) m y2 y3 ↔ B2 S y2 y3)) (S : r_S) (x1 : Int32) (x2 : Int32) (x3 : Int32) (Q : Option Value → q_S → Prop) : wb_X12_works_135 OB2 (r_E m fo S S0) m x1 x2 x3 Q ↔ rb_X12_works_135 B2 S x1 x2 x3 (fun r S => Q r (r_E m fo S S0)) := by
  unfold wb_X12_works_135 rb_X12_works_135
  simp only [r_eK, r_eI, r_eIs, r_eP, r_eN, true_and, Option.some.injEq, exists_eq_left', r_all, w.1, em_X12_isReady w, hB2]
def rb_X12_works_112 (B2 : r_S → Int32 → Int32 → Prop) (S : r_S) (x1 : Int32) (x3 : Int32) (xs0 : Int32) (Q : Option Value → r_S → Prop) : Prop := (¬ xs0 = 0 → (vp_in x3 (r_N 2478) ∧ (((r_A S 2478 x3.toNatClampNeg) ≤ 0 → (rb_X12_works_135 B2 S x1 xs0 x3 Q)) ∧ (¬ (r_A S 2478 x3.toNatClampNeg) ≤ 0 → (rm_X12_answer S x3 (4 : Int32) (fun r20_ S21_ => r20_ = none ∧ (rb_X12_works_135 B2 S21_ x1 xs0 x3 Q))))))) ∧ (xs0 = 0 → (B2 S x1 xs0))
set_option maxRecDepth 100000 in
set_option maxHeartbeats 4000000 in
theorem eb_X12_works_112 {m : Nat} {ad : Nat → Nat} {fo : Nat → Option Nat} {st : Nat → Nat} {S0 : q_S} (w : r_WF m ad fo st S0) {OB2 : q_S → Nat → Int32 → Int32 → Prop} {B2 : r_S → Int32 → Int32 → Prop} (hB2 : ∀ (S : r_S) (y2 : Int32) (y3 : Int32), (OB2 (r_E m fo S S0) m y2 y3 ↔ B2 S y2 y3)) (S : r_S) (x1 : Int32) (x3 : Int32) (xs0 : Int32) (Q : Option Value → q_S → Prop) : wb_X12_works_112 OB2 (r_E m fo S S0) m x1 x3 xs0 Q ↔ rb_X12_works_112 B2 S x1 x3 xs0 (fun r S => Q r (r_E m fo S S0)) := by
  unfold wb_X12_works_112 rb_X12_works_112
  simp only [r_eK, r_eI, r_eIs, r_eP, r_eN, true_and, Option.some.injEq, exists_eq_left', r_all, w.1, r_w1 w 2478 rfl, r_w2 w 2478 21 rfl rfl, r_w3 w 2478 rfl, r_eA w 2478 rfl, r_eAs w 2478 rfl, eb_X12_works_135 w hB2, em_X12_answer w, hB2]
def rb_X12_works_14 (B2 : r_S → Int32 → Int32 → Prop) (B14 : r_S → Int32 → Int32 → Int32 → Prop) (S : r_S) (x1 : Int32) (x3 : Int32) (x4 : Int32) (Q : Option Value → r_S → Prop) : Prop := rm_X12_lastOf S x1 (fun r23_ S24_ => ∃ x25_ : Int32, r23_ = some (.int x25_) ∧ ((x25_ ≤ x4 → ((x3 = (-1 : Int32) → (rb_X12_works_112 B2 S24_ x1 x3 (0 : Int32) Q)) ∧ (¬ x3 = (-1 : Int32) → (rb_X12_works_112 B2 S24_ x1 x3 (1 : Int32) Q)))) ∧ (¬ x25_ ≤ x4 → (vp_in x4 (r_N 2467) ∧ ((¬ (r_A S24_ 2467 x4.toNatClampNeg) = (2 : Int32) → (rb_X12_works_64 B2 B14 S24_ x1 x3 x4 Q)) ∧ ((r_A S24_ 2467 x4.toNatClampNeg) = (2 : Int32) → (vp_in x4 (r_N 2472) ∧ (((r_A S24_ 2472 x4.toNatClampNeg) = (-1 : Int32) → (rb_X12_works_64 B2 B14 S24_ x1 x3 x4 Q)) ∧ (¬ (r_A S24_ 2472 x4.toNatClampNeg) = (-1 : Int32) → (vp_in x4 (r_N 2472) ∧ (((r_I S24_ 2463) < (r_A S24_ 2472 x4.toNatClampNeg) → (rb_X12_works_64 B2 B14 S24_ x1 x3 x4 Q)) ∧ (¬ (r_I S24_ 2463) < (r_A S24_ 2472 x4.toNatClampNeg) → (rb_X12_works_65 B2 B14 S24_ x1 x3 x4 (1 : Int32) Q)))))))))))))
set_option maxRecDepth 100000 in
set_option maxHeartbeats 4000000 in
theorem eb_X12_works_14 {m : Nat} {ad : Nat → Nat} {fo : Nat → Option Nat} {st : Nat → Nat} {S0 : q_S} (w : r_WF m ad fo st S0) {OB2 : q_S → Nat → Int32 → Int32 → Prop} {B2 : r_S → Int32 → Int32 → Prop} {OB14 : q_S → Nat → Int32 → Int32 → Int32 → Prop} {B14 : r_S → Int32 → Int32 → Int32 → Prop} (hB2 : ∀ (S : r_S) (y2 : Int32) (y3 : Int32), (OB2 (r_E m fo S S0) m y2 y3 ↔ B2 S y2 y3)) (hB14 : ∀ (S : r_S) (y2 : Int32) (y3 : Int32) (y4 : Int32), (OB14 (r_E m fo S S0) m y2 y3 y4 ↔ B14 S y2 y3 y4)) (S : r_S) (x1 : Int32) (x3 : Int32) (x4 : Int32) (Q : Option Value → q_S → Prop) : wb_X12_works_14 OB2 OB14 (r_E m fo S S0) m x1 x3 x4 Q ↔ rb_X12_works_14 B2 B14 S x1 x3 x4 (fun r S => Q r (r_E m fo S S0)) := by
  unfold wb_X12_works_14 rb_X12_works_14
  simp only [r_eK, r_eI, r_eIs, r_eP, r_eN, true_and, Option.some.injEq, exists_eq_left', r_all, w.1, r_w1 w 2467 rfl, r_w2 w 2467 21 rfl rfl, r_w3 w 2467 rfl, r_eA w 2467 rfl, r_eAs w 2467 rfl, r_w1 w 2472 rfl, r_w2 w 2472 21 rfl rfl, r_w3 w 2472 rfl, r_eA w 2472 rfl, r_eAs w 2472 rfl, eb_X12_works_112 w hB2, eb_X12_works_64 w hB2 hB14, eb_X12_works_65 w hB2 hB14, em_X12_lastOf w, hB2, hB14]
def rl_X12_works_14 (B2 : r_S → Int32 → Int32 → Prop) : Nat → r_S → Int32 → Int32 → Int32 → (Option Value → r_S → Prop) → Prop
  | 0, _, _, _, _, _ => False
  | n + 1, S, x1, x3, x4, Q => rb_X12_works_14 B2 (fun S x1 x3 x4 => rl_X12_works_14 B2 n S x1 x3 x4 Q) S x1 x3 x4 Q
set_option maxRecDepth 100000 in
theorem el_X12_works_14 {m : Nat} {ad : Nat → Nat} {fo : Nat → Option Nat} {st : Nat → Nat} {S0 : q_S} (w : r_WF m ad fo st S0) {OB2 : q_S → Nat → Int32 → Int32 → Prop} {B2 : r_S → Int32 → Int32 → Prop} (hB2 : ∀ (S : r_S) (y2 : Int32) (y3 : Int32), (OB2 (r_E m fo S S0) m y2 y3 ↔ B2 S y2 y3)) (n : Nat) (S : r_S) (x1 : Int32) (x3 : Int32) (x4 : Int32) (Q : Option Value → q_S → Prop) : wl_X12_works_14 OB2 n (r_E m fo S S0) m x1 x3 x4 Q ↔ rl_X12_works_14 B2 n S x1 x3 x4 (fun r S => Q r (r_E m fo S S0)) := by
  induction n generalizing S x1 x3 x4 with
  | zero => exact Iff.rfl
  | succ n ih => exact eb_X12_works_14 w hB2 (fun _ _ _ _ => ih _ _ _ _) S x1 x3 x4 Q
def rb_X12_works_208 (B148 : r_S → Int32 → Int32 → Prop) (S : r_S) (x1 : Int32) (x3 : Int32) (Q : Option Value → r_S → Prop) : Prop := B148 S x1 (x3 + 1)
set_option maxRecDepth 100000 in
set_option maxHeartbeats 4000000 in
theorem eb_X12_works_208 {m : Nat} {ad : Nat → Nat} {fo : Nat → Option Nat} {st : Nat → Nat} {S0 : q_S} (w : r_WF m ad fo st S0) {OB148 : q_S → Nat → Int32 → Int32 → Prop} {B148 : r_S → Int32 → Int32 → Prop} (hB148 : ∀ (S : r_S) (y2 : Int32) (y3 : Int32), (OB148 (r_E m fo S S0) m y2 y3 ↔ B148 S y2 y3)) (S : r_S) (x1 : Int32) (x3 : Int32) (Q : Option Value → q_S → Prop) : wb_X12_works_208 OB148 (r_E m fo S S0) m x1 x3 Q ↔ rb_X12_works_208 B148 S x1 x3 (fun r S => Q r (r_E m fo S S0)) := by
  unfold wb_X12_works_208 rb_X12_works_208
  simp only [r_eK, r_eI, r_eIs, r_eP, r_eN, true_and, Option.some.injEq, exists_eq_left', r_all, w.1, hB148]
def rb_X12_works_230 (S : r_S) (x1 : Int32) (xs0 : Int32) (Q : Option Value → r_S → Prop) : Prop := (¬ xs0 = (-1 : Int32) → (vp_in xs0 (r_N 2474) ∧ (vp_in xs0 (r_N 2474) ∧ (∀ S48_ : r_S, S48_ = (rs_A (rs_I S 2510 ((r_I S 2510) + (1 : Int32))) 2474 xs0.toNatClampNeg ((r_A (rs_I S 2510 ((r_I S 2510) + (1 : Int32))) 2474 xs0.toNatClampNeg) + (1 : Int32))) → (vp_in x1 (r_N 2491) ∧ (vp_in x1 (r_N 2491) ∧ (rm_X12_execute (rs_A S48_ 2491 x1.toNatClampNeg ((r_A S48_ 2491 x1.toNatClampNeg) + (1 : Int32))) x1 xs0 (fun r54_ S55_ => r54_ = none ∧ (Q none S55_))))))))) ∧ (xs0 = (-1 : Int32) → (Q none S))
set_option maxRecDepth 100000 in
set_option maxHeartbeats 4000000 in
theorem eb_X12_works_230 {m : Nat} {ad : Nat → Nat} {fo : Nat → Option Nat} {st : Nat → Nat} {S0 : q_S} (w : r_WF m ad fo st S0)  (S : r_S) (x1 : Int32) (xs0 : Int32) (Q : Option Value → q_S → Prop) : wb_X12_works_230 (r_E m fo S S0) m x1 xs0 Q ↔ rb_X12_works_230 S x1 xs0 (fun r S => Q r (r_E m fo S S0)) := by
  unfold wb_X12_works_230 rb_X12_works_230
  simp only [r_eK, r_eI, r_eIs, r_eP, r_eN, true_and, Option.some.injEq, exists_eq_left', r_all, w.1, r_w1 w 2474 rfl, r_w2 w 2474 21 rfl rfl, r_w3 w 2474 rfl, r_eA w 2474 rfl, r_eAs w 2474 rfl, r_w1 w 2491 rfl, r_w2 w 2491 21 rfl rfl, r_w3 w 2491 rfl, r_eA w 2491 rfl, r_eAs w 2491 rfl, em_X12_execute w]
def rb_X12_works_214 (S : r_S) (x1 : Int32) (Q : Option Value → r_S → Prop) : Prop := ((r_I S 2513) = 0 → (rm_X12_nextOf S x1 (fun r58_ S59_ => ∃ x60_ : Int32, r58_ = some (.int x60_) ∧ (rb_X12_works_230 S59_ x1 x60_ Q)))) ∧ (¬ (r_I S 2513) = 0 → (rb_X12_works_230 S x1 (-1 : Int32) Q))
set_option maxRecDepth 100000 in
set_option maxHeartbeats 4000000 in
theorem eb_X12_works_214 {m : Nat} {ad : Nat → Nat} {fo : Nat → Option Nat} {st : Nat → Nat} {S0 : q_S} (w : r_WF m ad fo st S0)  (S : r_S) (x1 : Int32) (Q : Option Value → q_S → Prop) : wb_X12_works_214 (r_E m fo S S0) m x1 Q ↔ rb_X12_works_214 S x1 (fun r S => Q r (r_E m fo S S0)) := by
  unfold wb_X12_works_214 rb_X12_works_214
  simp only [r_eK, r_eI, r_eIs, r_eP, r_eN, true_and, Option.some.injEq, exists_eq_left', r_all, w.1, eb_X12_works_230 w, em_X12_nextOf w]
def rb_X12_works_148 (B148 : r_S → Int32 → Int32 → Prop) (S : r_S) (x1 : Int32) (x3 : Int32) (Q : Option Value → r_S → Prop) : Prop := rm_X12_lastOf S x1 (fun r62_ S63_ => ∃ x64_ : Int32, r62_ = some (.int x64_) ∧ ((x64_ ≤ x3 → (rb_X12_works_214 S63_ x1 Q)) ∧ (¬ x64_ ≤ x3 → ((¬ (r_I S63_ 2513) = 0 → (rb_X12_works_214 S63_ x1 Q)) ∧ ((r_I S63_ 2513) = 0 → (vp_in x3 (r_N 2470) ∧ (((r_A S63_ 2470 x3.toNatClampNeg) = 0 → (rb_X12_works_208 B148 S63_ x1 x3 Q)) ∧ (¬ (r_A S63_ 2470 x3.toNatClampNeg) = 0 → (vp_in x3 (r_N 2471) ∧ (((r_A S63_ 2471 x3.toNatClampNeg) < (r_I S63_ 2463) → (vp_in x3 (r_N 2470) ∧ (vp_in x3 (r_N 2471) ∧ (rm_X12_fails (rs_A S63_ 2470 x3.toNatClampNeg (vp_nar .boolean (0 : Int32))) x3 (2 : Int32) (r_A (rs_A S63_ 2470 x3.toNatClampNeg (vp_nar .boolean (0 : Int32))) 2471 x3.toNatClampNeg) (fun r83_ S84_ => r83_ = none ∧ (rb_X12_works_208 B148 S84_ x1 x3 Q)))))) ∧ (¬ (r_A S63_ 2471 x3.toNatClampNeg) < (r_I S63_ 2463) → (rb_X12_works_208 B148 S63_ x1 x3 Q))))))))))))
set_option maxRecDepth 100000 in
set_option maxHeartbeats 4000000 in
theorem eb_X12_works_148 {m : Nat} {ad : Nat → Nat} {fo : Nat → Option Nat} {st : Nat → Nat} {S0 : q_S} (w : r_WF m ad fo st S0) {OB148 : q_S → Nat → Int32 → Int32 → Prop} {B148 : r_S → Int32 → Int32 → Prop} (hB148 : ∀ (S : r_S) (y2 : Int32) (y3 : Int32), (OB148 (r_E m fo S S0) m y2 y3 ↔ B148 S y2 y3)) (S : r_S) (x1 : Int32) (x3 : Int32) (Q : Option Value → q_S → Prop) : wb_X12_works_148 OB148 (r_E m fo S S0) m x1 x3 Q ↔ rb_X12_works_148 B148 S x1 x3 (fun r S => Q r (r_E m fo S S0)) := by
  unfold wb_X12_works_148 rb_X12_works_148
  simp only [r_eK, r_eI, r_eIs, r_eP, r_eN, true_and, Option.some.injEq, exists_eq_left', r_all, w.1, r_w1 w 2470 rfl, r_w2 w 2470 22 rfl rfl, r_w3 w 2470 rfl, r_eA w 2470 rfl, r_eAs w 2470 rfl, r_w1 w 2471 rfl, r_w2 w 2471 21 rfl rfl, r_w3 w 2471 rfl, r_eA w 2471 rfl, r_eAs w 2471 rfl, eb_X12_works_208 w hB148, eb_X12_works_214 w, em_X12_fails w, em_X12_lastOf w, hB148]
def rl_X12_works_148  : Nat → r_S → Int32 → Int32 → (Option Value → r_S → Prop) → Prop
  | 0, _, _, _, _ => False
  | n + 1, S, x1, x3, Q => rb_X12_works_148 (fun S x1 x3 => rl_X12_works_148 n S x1 x3 Q) S x1 x3 Q
set_option maxRecDepth 100000 in
theorem el_X12_works_148 {m : Nat} {ad : Nat → Nat} {fo : Nat → Option Nat} {st : Nat → Nat} {S0 : q_S} (w : r_WF m ad fo st S0)  (n : Nat) (S : r_S) (x1 : Int32) (x3 : Int32) (Q : Option Value → q_S → Prop) : wl_X12_works_148 n (r_E m fo S S0) m x1 x3 Q ↔ rl_X12_works_148 n S x1 x3 (fun r S => Q r (r_E m fo S S0)) := by
  induction n generalizing S x1 x3 with
  | zero => exact Iff.rfl
  | succ n ih => exact eb_X12_works_148 w (fun _ _ _ => ih _ _ _) S x1 x3 Q
def rb_X12_works_2 (B2 : r_S → Int32 → Int32 → Prop) (S : r_S) (x1 : Int32) (x2 : Int32) (Q : Option Value → r_S → Prop) : Prop := (x2 = 0 → (∃ n86_ : Nat, rl_X12_works_148 n86_ S x1 ((16 : Int32) * x1) Q)) ∧ (¬ x2 = 0 → (∃ n87_ : Nat, rl_X12_works_14 B2 n87_ S x1 (-1 : Int32) ((16 : Int32) * x1) Q))
set_option maxRecDepth 100000 in
set_option maxHeartbeats 4000000 in
theorem eb_X12_works_2 {m : Nat} {ad : Nat → Nat} {fo : Nat → Option Nat} {st : Nat → Nat} {S0 : q_S} (w : r_WF m ad fo st S0) {OB2 : q_S → Nat → Int32 → Int32 → Prop} {B2 : r_S → Int32 → Int32 → Prop} (hB2 : ∀ (S : r_S) (y2 : Int32) (y3 : Int32), (OB2 (r_E m fo S S0) m y2 y3 ↔ B2 S y2 y3)) (S : r_S) (x1 : Int32) (x2 : Int32) (Q : Option Value → q_S → Prop) : wb_X12_works_2 OB2 (r_E m fo S S0) m x1 x2 Q ↔ rb_X12_works_2 B2 S x1 x2 (fun r S => Q r (r_E m fo S S0)) := by
  unfold wb_X12_works_2 rb_X12_works_2
  simp only [r_eK, r_eI, r_eIs, r_eP, r_eN, true_and, Option.some.injEq, exists_eq_left', r_all, w.1, el_X12_works_14 w hB2, el_X12_works_148 w, hB2]
def rl_X12_works_2  : Nat → r_S → Int32 → Int32 → (Option Value → r_S → Prop) → Prop
  | 0, _, _, _, _ => False
  | n + 1, S, x1, x2, Q => rb_X12_works_2 (fun S x1 x2 => rl_X12_works_2 n S x1 x2 Q) S x1 x2 Q
set_option maxRecDepth 100000 in
theorem el_X12_works_2 {m : Nat} {ad : Nat → Nat} {fo : Nat → Option Nat} {st : Nat → Nat} {S0 : q_S} (w : r_WF m ad fo st S0)  (n : Nat) (S : r_S) (x1 : Int32) (x2 : Int32) (Q : Option Value → q_S → Prop) : wl_X12_works_2 n (r_E m fo S S0) m x1 x2 Q ↔ rl_X12_works_2 n S x1 x2 (fun r S => Q r (r_E m fo S S0)) := by
  induction n generalizing S x1 x2 with
  | zero => exact Iff.rfl
  | succ n ih => exact eb_X12_works_2 w (fun _ _ _ => ih _ _ _) S x1 x2 Q
def rm_X12_works (S : r_S) (x1 : Int32) (Q : Option Value → r_S → Prop) : Prop := ∃ n88_ : Nat, rl_X12_works_2 n88_ S x1 (1 : Int32) Q
set_option maxRecDepth 100000 in
set_option maxHeartbeats 4000000 in
theorem em_X12_works {m : Nat} {ad : Nat → Nat} {fo : Nat → Option Nat} {st : Nat → Nat} {S0 : q_S} (w : r_WF m ad fo st S0)  (S : r_S) (x1 : Int32) (Q : Option Value → q_S → Prop) : wm_X12_works (r_E m fo S S0) m x1 Q ↔ rm_X12_works S x1 (fun r S => Q r (r_E m fo S S0)) := by
  unfold wm_X12_works rm_X12_works
  simp only [r_eK, r_eI, r_eIs, r_eP, r_eN, true_and, Option.some.injEq, exists_eq_left', r_all, w.1, el_X12_works_2 w]
