def rb_X12_begin_38 (B38 : r_S → Int32 → Prop) (S : r_S) (x1 : Int32) (Q : Option Value → r_S → Prop) : Prop := ((r_I S 2415) ≤ x1 → (Q none S)) ∧ (¬ (r_I S 2415) ≤ x1 → (rm_X12_begins S x1 (0 : Int32) (1 : Int32) (fun r3_ S4_ => r3_ = none ∧ (B38 S4_ (x1 + 1)))))
set_option maxRecDepth 100000 in
set_option maxHeartbeats 4000000 in
theorem eb_X12_begin_38 {m : Nat} {ad : Nat → Nat} {fo : Nat → Option Nat} {st : Nat → Nat} {S0 : q_S} (w : r_WF m ad fo st S0) {OB38 : q_S → Nat → Int32 → Prop} {B38 : r_S → Int32 → Prop} (hB38 : ∀ (S : r_S) (y2 : Int32), (OB38 (r_E m fo S S0) m y2 ↔ B38 S y2)) (S : r_S) (x1 : Int32) (Q : Option Value → q_S → Prop) : wb_X12_begin_38 OB38 (r_E m fo S S0) m x1 Q ↔ rb_X12_begin_38 B38 S x1 (fun r S => Q r (r_E m fo S S0)) := by
  unfold wb_X12_begin_38 rb_X12_begin_38
  simp only [r_eK, r_eI, r_eIs, r_eP, r_eN, true_and, Option.some.injEq, exists_eq_left', r_all, w.1, em_X12_begins w, hB38]
def rl_X12_begin_38  : Nat → r_S → Int32 → (Option Value → r_S → Prop) → Prop
  | 0, _, _, _ => False
  | n + 1, S, x1, Q => rb_X12_begin_38 (fun S x1 => rl_X12_begin_38 n S x1 Q) S x1 Q
set_option maxRecDepth 100000 in
theorem el_X12_begin_38 {m : Nat} {ad : Nat → Nat} {fo : Nat → Option Nat} {st : Nat → Nat} {S0 : q_S} (w : r_WF m ad fo st S0)  (n : Nat) (S : r_S) (x1 : Int32) (Q : Option Value → q_S → Prop) : wl_X12_begin_38 n (r_E m fo S S0) m x1 Q ↔ rl_X12_begin_38 n S x1 (fun r S => Q r (r_E m fo S S0)) := by
  induction n generalizing S x1 with
  | zero => exact Iff.rfl
  | succ n ih => exact eb_X12_begin_38 w (fun _ _ => ih _ _) S x1 Q
def rb_X12_begin_20 (S : r_S) (xs1 : Int32) (Q : Option Value → r_S → Prop) : Prop := ((r_I (rs_I S 2400 xs1) 2400) ≤ 0 → (∃ n8_ : Nat, rl_X12_begin_38 n8_ (rs_I (rs_I S 2400 xs1) 2414 (1 : Int32)) (0 : Int32) Q)) ∧ (¬ (r_I (rs_I S 2400 xs1) 2400) ≤ 0 → (Q none (rs_I S 2400 xs1)))
set_option maxRecDepth 100000 in
set_option maxHeartbeats 4000000 in
theorem eb_X12_begin_20 {m : Nat} {ad : Nat → Nat} {fo : Nat → Option Nat} {st : Nat → Nat} {S0 : q_S} (w : r_WF m ad fo st S0)  (S : r_S) (xs1 : Int32) (Q : Option Value → q_S → Prop) : wb_X12_begin_20 (r_E m fo S S0) m m xs1 Q ↔ rb_X12_begin_20 S xs1 (fun r S => Q r (r_E m fo S S0)) := by
  unfold wb_X12_begin_20 rb_X12_begin_20
  simp only [r_eK, r_eI, r_eIs, r_eP, r_eN, true_and, Option.some.injEq, exists_eq_left', r_all, w.1, el_X12_begin_38 w]
def rb_X12_begin_15 (S : r_S) (Q : Option Value → r_S → Prop) : Prop := rb_X12_begin_20 S (1 : Int32) Q
set_option maxRecDepth 100000 in
set_option maxHeartbeats 4000000 in
theorem eb_X12_begin_15 {m : Nat} {ad : Nat → Nat} {fo : Nat → Option Nat} {st : Nat → Nat} {S0 : q_S} (w : r_WF m ad fo st S0)  (S : r_S) (Q : Option Value → q_S → Prop) : wb_X12_begin_15 (r_E m fo S S0) m m Q ↔ rb_X12_begin_15 S (fun r S => Q r (r_E m fo S S0)) := by
  unfold wb_X12_begin_15 rb_X12_begin_15
  simp only [r_eK, r_eI, r_eIs, r_eP, r_eN, true_and, Option.some.injEq, exists_eq_left', r_all, w.1, eb_X12_begin_20 w]
def rm_X12_begin (S : r_S) (Q : Option Value → r_S → Prop) : Prop := ((r_I S 2413) = 0 → (rb_X12_begin_15 S Q)) ∧ (¬ (r_I S 2413) = 0 → (((r_I S 2414) = 0 → (rb_X12_begin_20 S (0 : Int32) Q)) ∧ (¬ (r_I S 2414) = 0 → (rb_X12_begin_15 S Q))))
set_option maxRecDepth 100000 in
set_option maxHeartbeats 4000000 in
theorem em_X12_begin {m : Nat} {ad : Nat → Nat} {fo : Nat → Option Nat} {st : Nat → Nat} {S0 : q_S} (w : r_WF m ad fo st S0)  (S : r_S) (Q : Option Value → q_S → Prop) : wm_X12_begin (r_E m fo S S0) m Q ↔ rm_X12_begin S (fun r S => Q r (r_E m fo S S0)) := by
  unfold wm_X12_begin rm_X12_begin
  simp only [r_eK, r_eI, r_eIs, r_eP, r_eN, true_and, Option.some.injEq, exists_eq_left', r_all, w.1, eb_X12_begin_15 w, eb_X12_begin_20 w]
def rb_X12_traced_93 (B2 : r_S → Int32 → Int32 → Int32 → Prop) (S : r_S) (x1 : Int32) (x2 : Int32) (x3 : Int32) (Q : Option Value → r_S → Prop) : Prop := B2 S x1 x2 (x3 + 1)
set_option maxRecDepth 100000 in
set_option maxHeartbeats 4000000 in
theorem eb_X12_traced_93 {m : Nat} {ad : Nat → Nat} {fo : Nat → Option Nat} {st : Nat → Nat} {S0 : q_S} (w : r_WF m ad fo st S0) {OB2 : q_S → Nat → Int32 → Int32 → Int32 → Prop} {B2 : r_S → Int32 → Int32 → Int32 → Prop} (hB2 : ∀ (S : r_S) (y2 : Int32) (y3 : Int32) (y4 : Int32), (OB2 (r_E m fo S S0) m y2 y3 y4 ↔ B2 S y2 y3 y4)) (S : r_S) (x1 : Int32) (x2 : Int32) (x3 : Int32) (Q : Option Value → q_S → Prop) : wb_X12_traced_93 OB2 (r_E m fo S S0) m x1 x2 x3 Q ↔ rb_X12_traced_93 B2 S x1 x2 x3 (fun r S => Q r (r_E m fo S S0)) := by
  unfold wb_X12_traced_93 rb_X12_traced_93
  simp only [r_eK, r_eI, r_eIs, r_eP, r_eN, true_and, Option.some.injEq, exists_eq_left', r_all, w.1, hB2]
def rb_X12_traced_83 (B2 : r_S → Int32 → Int32 → Int32 → Prop) (S : r_S) (x1 : Int32) (x2 : Int32) (x3 : Int32) (Q : Option Value → r_S → Prop) : Prop := rb_X12_traced_93 B2 (rs_I S 2508 ((r_I S 2508) + (1 : Int32))) x1 x2 x3 Q
set_option maxRecDepth 100000 in
set_option maxHeartbeats 4000000 in
theorem eb_X12_traced_83 {m : Nat} {ad : Nat → Nat} {fo : Nat → Option Nat} {st : Nat → Nat} {S0 : q_S} (w : r_WF m ad fo st S0) {OB2 : q_S → Nat → Int32 → Int32 → Int32 → Prop} {B2 : r_S → Int32 → Int32 → Int32 → Prop} (hB2 : ∀ (S : r_S) (y2 : Int32) (y3 : Int32) (y4 : Int32), (OB2 (r_E m fo S S0) m y2 y3 y4 ↔ B2 S y2 y3 y4)) (S : r_S) (x1 : Int32) (x2 : Int32) (x3 : Int32) (Q : Option Value → q_S → Prop) : wb_X12_traced_83 OB2 (r_E m fo S S0) m x1 x2 x3 Q ↔ rb_X12_traced_83 B2 S x1 x2 x3 (fun r S => Q r (r_E m fo S S0)) := by
  unfold wb_X12_traced_83 rb_X12_traced_83
  simp only [r_eK, r_eI, r_eIs, r_eP, r_eN, true_and, Option.some.injEq, exists_eq_left', r_all, w.1, eb_X12_traced_93 w hB2, hB2]
def rb_X12_traced_2 (B2 : r_S → Int32 → Int32 → Int32 → Prop) (S : r_S) (x1 : Int32) (x2 : Int32) (x3 : Int32) (Q : Option Value → r_S → Prop) : Prop := vp_in x1 (r_N 2458) ∧ (((r_A S 2458 x1.toNatClampNeg) ≤ x3 → (Q none S)) ∧ (¬ (r_A S 2458 x1.toNatClampNeg) ≤ x3 → (vp_in (((4 : Int32) * x1) + x3) (r_N 2459) ∧ (((r_A S 2459 (((4 : Int32) * x1) + x3).toNatClampNeg) = (-2 : Int32) → (((300 : Int32) ≤ (r_I S 2508) → (rb_X12_traced_83 B2 S x1 x2 x3 Q)) ∧ (¬ (300 : Int32) ≤ (r_I S 2508) → (vp_in ((3 : Int32) * (r_I S 2508)) (r_N 2511) ∧ (vp_in (((3 : Int32) * (r_I (rs_A S 2511 ((3 : Int32) * (r_I S 2508)).toNatClampNeg (r_I S 2463)) 2508)) + (1 : Int32)) (r_N 2511) ∧ (∀ S22_ : r_S, S22_ = (rs_A (rs_A S 2511 ((3 : Int32) * (r_I S 2508)).toNatClampNeg (r_I S 2463)) 2511 (((3 : Int32) * (r_I (rs_A S 2511 ((3 : Int32) * (r_I S 2508)).toNatClampNeg (r_I S 2463)) 2508)) + (1 : Int32)).toNatClampNeg x1) → (vp_in (((3 : Int32) * (r_I S22_ 2508)) + (2 : Int32)) (r_N 2511) ∧ (rb_X12_traced_83 B2 (rs_A S22_ 2511 (((3 : Int32) * (r_I S22_ 2508)) + (2 : Int32)).toNatClampNeg x2) x1 x2 x3 Q)))))))) ∧ (¬ (r_A S 2459 (((4 : Int32) * x1) + x3).toNatClampNeg) = (-2 : Int32) → (rb_X12_traced_93 B2 S x1 x2 x3 Q))))))
set_option maxRecDepth 100000 in
set_option maxHeartbeats 4000000 in
theorem eb_X12_traced_2 {m : Nat} {ad : Nat → Nat} {fo : Nat → Option Nat} {st : Nat → Nat} {S0 : q_S} (w : r_WF m ad fo st S0) {OB2 : q_S → Nat → Int32 → Int32 → Int32 → Prop} {B2 : r_S → Int32 → Int32 → Int32 → Prop} (hB2 : ∀ (S : r_S) (y2 : Int32) (y3 : Int32) (y4 : Int32), (OB2 (r_E m fo S S0) m y2 y3 y4 ↔ B2 S y2 y3 y4)) (S : r_S) (x1 : Int32) (x2 : Int32) (x3 : Int32) (Q : Option Value → q_S → Prop) : wb_X12_traced_2 OB2 (r_E m fo S S0) m x1 x2 x3 Q ↔ rb_X12_traced_2 B2 S x1 x2 x3 (fun r S => Q r (r_E m fo S S0)) := by
  unfold wb_X12_traced_2 rb_X12_traced_2
  simp only [r_eK, r_eI, r_eIs, r_eP, r_eN, true_and, Option.some.injEq, exists_eq_left', r_all, w.1, r_w1 w 2458 rfl, r_w2 w 2458 21 rfl rfl, r_w3 w 2458 rfl, r_eA w 2458 rfl, r_eAs w 2458 rfl, r_w1 w 2459 rfl, r_w2 w 2459 21 rfl rfl, r_w3 w 2459 rfl, r_eA w 2459 rfl, r_eAs w 2459 rfl, r_w1 w 2511 rfl, r_w2 w 2511 21 rfl rfl, r_w3 w 2511 rfl, r_eA w 2511 rfl, r_eAs w 2511 rfl, eb_X12_traced_83 w hB2, eb_X12_traced_93 w hB2, hB2]
def rl_X12_traced_2  : Nat → r_S → Int32 → Int32 → Int32 → (Option Value → r_S → Prop) → Prop
  | 0, _, _, _, _, _ => False
  | n + 1, S, x1, x2, x3, Q => rb_X12_traced_2 (fun S x1 x2 x3 => rl_X12_traced_2 n S x1 x2 x3 Q) S x1 x2 x3 Q
set_option maxRecDepth 100000 in
theorem el_X12_traced_2 {m : Nat} {ad : Nat → Nat} {fo : Nat → Option Nat} {st : Nat → Nat} {S0 : q_S} (w : r_WF m ad fo st S0)  (n : Nat) (S : r_S) (x1 : Int32) (x2 : Int32) (x3 : Int32) (Q : Option Value → q_S → Prop) : wl_X12_traced_2 n (r_E m fo S S0) m x1 x2 x3 Q ↔ rl_X12_traced_2 n S x1 x2 x3 (fun r S => Q r (r_E m fo S S0)) := by
  induction n generalizing S x1 x2 x3 with
  | zero => exact Iff.rfl
  | succ n ih => exact eb_X12_traced_2 w (fun _ _ _ _ => ih _ _ _ _) S x1 x2 x3 Q
def rm_X12_traced (S : r_S) (x1 : Int32) (x2 : Int32) (Q : Option Value → r_S → Prop) : Prop := ∃ n27_ : Nat, rl_X12_traced_2 n27_ S x1 x2 (0 : Int32) Q
set_option maxRecDepth 100000 in
set_option maxHeartbeats 4000000 in
theorem em_X12_traced {m : Nat} {ad : Nat → Nat} {fo : Nat → Option Nat} {st : Nat → Nat} {S0 : q_S} (w : r_WF m ad fo st S0)  (S : r_S) (x1 : Int32) (x2 : Int32) (Q : Option Value → q_S → Prop) : wm_X12_traced (r_E m fo S S0) m x1 x2 Q ↔ rm_X12_traced S x1 x2 (fun r S => Q r (r_E m fo S S0)) := by
  unfold wm_X12_traced rm_X12_traced
  simp only [r_eK, r_eI, r_eIs, r_eP, r_eN, true_and, Option.some.injEq, exists_eq_left', r_all, w.1, el_X12_traced_2 w]
def rm_X12_sample (S : r_S) (x1 : Int32) (x2 : Int32) (Q : Option Value → r_S → Prop) : Prop := vp_in x1 (r_N 2498) ∧ (vp_in x1 (r_N 2499) ∧ (vp_in x1 (r_N 2500) ∧ (∀ S14_ : r_S, S14_ = (rs_A (rs_A (rs_A S 2498 x1.toNatClampNeg (vp_nar .boolean (1 : Int32))) 2499 x1.toNatClampNeg x2) 2500 x1.toNatClampNeg (r_I (rs_A (rs_A S 2498 x1.toNatClampNeg (vp_nar .boolean (1 : Int32))) 2499 x1.toNatClampNeg x2) 2463)) → (Q none S14_))))
set_option maxRecDepth 100000 in
set_option maxHeartbeats 4000000 in
theorem em_X12_sample {m : Nat} {ad : Nat → Nat} {fo : Nat → Option Nat} {st : Nat → Nat} {S0 : q_S} (w : r_WF m ad fo st S0)  (S : r_S) (x1 : Int32) (x2 : Int32) (Q : Option Value → q_S → Prop) : wm_X12_sample (r_E m fo S S0) m x1 x2 Q ↔ rm_X12_sample S x1 x2 (fun r S => Q r (r_E m fo S S0)) := by
  unfold wm_X12_sample rm_X12_sample
  simp only [r_eK, r_eI, r_eIs, r_eP, r_eN, true_and, Option.some.injEq, exists_eq_left', r_all, w.1, r_w1 w 2498 rfl, r_w2 w 2498 22 rfl rfl, r_w3 w 2498 rfl, r_eA w 2498 rfl, r_eAs w 2498 rfl, r_w1 w 2499 rfl, r_w2 w 2499 21 rfl rfl, r_w3 w 2499 rfl, r_eA w 2499 rfl, r_eAs w 2499 rfl, r_w1 w 2500 rfl, r_w2 w 2500 21 rfl rfl, r_w3 w 2500 rfl, r_eA w 2500 rfl, r_eAs w 2500 rfl]
def rb_X12_waiter_130 (B6 : r_S → Int32 → Int32 → Int32 → Int32 → Int32 → Prop) (S : r_S) (x1 : Int32) (x2 : Int32) (x3 : Int32) (x4 : Int32) (x5 : Int32) (Q : Option Value → r_S → Prop) : Prop := B6 S x1 x2 x3 x4 (x5 + 1)
set_option maxRecDepth 100000 in
set_option maxHeartbeats 4000000 in
theorem eb_X12_waiter_130 {m : Nat} {ad : Nat → Nat} {fo : Nat → Option Nat} {st : Nat → Nat} {S0 : q_S} (w : r_WF m ad fo st S0) {OB6 : q_S → Nat → Int32 → Int32 → Int32 → Int32 → Int32 → Prop} {B6 : r_S → Int32 → Int32 → Int32 → Int32 → Int32 → Prop} (hB6 : ∀ (S : r_S) (y2 : Int32) (y3 : Int32) (y4 : Int32) (y5 : Int32) (y6 : Int32), (OB6 (r_E m fo S S0) m y2 y3 y4 y5 y6 ↔ B6 S y2 y3 y4 y5 y6)) (S : r_S) (x1 : Int32) (x2 : Int32) (x3 : Int32) (x4 : Int32) (x5 : Int32) (Q : Option Value → q_S → Prop) : wb_X12_waiter_130 OB6 (r_E m fo S S0) m x1 x2 x3 x4 x5 Q ↔ rb_X12_waiter_130 B6 S x1 x2 x3 x4 x5 (fun r S => Q r (r_E m fo S S0)) := by
  unfold wb_X12_waiter_130 rb_X12_waiter_130
  simp only [r_eK, r_eI, r_eIs, r_eP, r_eN, true_and, Option.some.injEq, exists_eq_left', r_all, w.1, hB6]
def rb_X12_waiter_119 (B6 : r_S → Int32 → Int32 → Int32 → Int32 → Int32 → Prop) (S : r_S) (x1 : Int32) (x2 : Int32) (x3 : Int32) (x4 : Int32) (x5 : Int32) (xs0 : Int32) (Q : Option Value → r_S → Prop) : Prop := (xs0 = 0 → (rb_X12_waiter_130 B6 S x1 x2 x3 x4 x5 Q)) ∧ (¬ xs0 = 0 → (rb_X12_waiter_130 B6 S x1 x2 x3 x5 x5 Q))
set_option maxRecDepth 100000 in
set_option maxHeartbeats 4000000 in
theorem eb_X12_waiter_119 {m : Nat} {ad : Nat → Nat} {fo : Nat → Option Nat} {st : Nat → Nat} {S0 : q_S} (w : r_WF m ad fo st S0) {OB6 : q_S → Nat → Int32 → Int32 → Int32 → Int32 → Int32 → Prop} {B6 : r_S → Int32 → Int32 → Int32 → Int32 → Int32 → Prop} (hB6 : ∀ (S : r_S) (y2 : Int32) (y3 : Int32) (y4 : Int32) (y5 : Int32) (y6 : Int32), (OB6 (r_E m fo S S0) m y2 y3 y4 y5 y6 ↔ B6 S y2 y3 y4 y5 y6)) (S : r_S) (x1 : Int32) (x2 : Int32) (x3 : Int32) (x4 : Int32) (x5 : Int32) (xs0 : Int32) (Q : Option Value → q_S → Prop) : wb_X12_waiter_119 OB6 (r_E m fo S S0) m x1 x2 x3 x4 x5 xs0 Q ↔ rb_X12_waiter_119 B6 S x1 x2 x3 x4 x5 xs0 (fun r S => Q r (r_E m fo S S0)) := by
  unfold wb_X12_waiter_119 rb_X12_waiter_119
  simp only [r_eK, r_eI, r_eIs, r_eP, r_eN, true_and, Option.some.injEq, exists_eq_left', r_all, w.1, eb_X12_waiter_130 w hB6, hB6]
def rb_X12_waiter_114 (B6 : r_S → Int32 → Int32 → Int32 → Int32 → Int32 → Prop) (S : r_S) (x1 : Int32) (x2 : Int32) (x3 : Int32) (x4 : Int32) (x5 : Int32) (Q : Option Value → r_S → Prop) : Prop := rb_X12_waiter_119 B6 S x1 x2 x3 x4 x5 (1 : Int32) Q
set_option maxRecDepth 100000 in
set_option maxHeartbeats 4000000 in
theorem eb_X12_waiter_114 {m : Nat} {ad : Nat → Nat} {fo : Nat → Option Nat} {st : Nat → Nat} {S0 : q_S} (w : r_WF m ad fo st S0) {OB6 : q_S → Nat → Int32 → Int32 → Int32 → Int32 → Int32 → Prop} {B6 : r_S → Int32 → Int32 → Int32 → Int32 → Int32 → Prop} (hB6 : ∀ (S : r_S) (y2 : Int32) (y3 : Int32) (y4 : Int32) (y5 : Int32) (y6 : Int32), (OB6 (r_E m fo S S0) m y2 y3 y4 y5 y6 ↔ B6 S y2 y3 y4 y5 y6)) (S : r_S) (x1 : Int32) (x2 : Int32) (x3 : Int32) (x4 : Int32) (x5 : Int32) (Q : Option Value → q_S → Prop) : wb_X12_waiter_114 OB6 (r_E m fo S S0) m x1 x2 x3 x4 x5 Q ↔ rb_X12_waiter_114 B6 S x1 x2 x3 x4 x5 (fun r S => Q r (r_E m fo S S0)) := by
  unfold wb_X12_waiter_114 rb_X12_waiter_114
  simp only [r_eK, r_eI, r_eIs, r_eP, r_eN, true_and, Option.some.injEq, exists_eq_left', r_all, w.1, eb_X12_waiter_119 w hB6, hB6]
def rb_X12_waiter_118 (B6 : r_S → Int32 → Int32 → Int32 → Int32 → Int32 → Prop) (S : r_S) (x1 : Int32) (x2 : Int32) (x3 : Int32) (x4 : Int32) (x5 : Int32) (Q : Option Value → r_S → Prop) : Prop := rb_X12_waiter_119 B6 S x1 x2 x3 x4 x5 (0 : Int32) Q
set_option maxRecDepth 100000 in
set_option maxHeartbeats 4000000 in
theorem eb_X12_waiter_118 {m : Nat} {ad : Nat → Nat} {fo : Nat → Option Nat} {st : Nat → Nat} {S0 : q_S} (w : r_WF m ad fo st S0) {OB6 : q_S → Nat → Int32 → Int32 → Int32 → Int32 → Int32 → Prop} {B6 : r_S → Int32 → Int32 → Int32 → Int32 → Int32 → Prop} (hB6 : ∀ (S : r_S) (y2 : Int32) (y3 : Int32) (y4 : Int32) (y5 : Int32) (y6 : Int32), (OB6 (r_E m fo S S0) m y2 y3 y4 y5 y6 ↔ B6 S y2 y3 y4 y5 y6)) (S : r_S) (x1 : Int32) (x2 : Int32) (x3 : Int32) (x4 : Int32) (x5 : Int32) (Q : Option Value → q_S → Prop) : wb_X12_waiter_118 OB6 (r_E m fo S S0) m x1 x2 x3 x4 x5 Q ↔ rb_X12_waiter_118 B6 S x1 x2 x3 x4 x5 (fun r S => Q r (r_E m fo S S0)) := by
  unfold wb_X12_waiter_118 rb_X12_waiter_118
  simp only [r_eK, r_eI, r_eIs, r_eP, r_eN, true_and, Option.some.injEq, exists_eq_left', r_all, w.1, eb_X12_waiter_119 w hB6, hB6]
def rb_X12_waiter_77 (B6 : r_S → Int32 → Int32 → Int32 → Int32 → Int32 → Prop) (S : r_S) (x1 : Int32) (x2 : Int32) (x3 : Int32) (x4 : Int32) (x5 : Int32) (Q : Option Value → r_S → Prop) : Prop := vp_in x5 (r_N 2481) ∧ (vp_in x4 (r_N 2481) ∧ (((r_A S 2481 x4.toNatClampNeg) ≤ (r_A S 2481 x5.toNatClampNeg) → (rb_X12_waiter_118 B6 S x1 x2 x3 x4 x5 Q)) ∧ (¬ (r_A S 2481 x4.toNatClampNeg) ≤ (r_A S 2481 x5.toNatClampNeg) → (rb_X12_waiter_114 B6 S x1 x2 x3 x4 x5 Q))))
set_option maxRecDepth 100000 in
set_option maxHeartbeats 4000000 in
theorem eb_X12_waiter_77 {m : Nat} {ad : Nat → Nat} {fo : Nat → Option Nat} {st : Nat → Nat} {S0 : q_S} (w : r_WF m ad fo st S0) {OB6 : q_S → Nat → Int32 → Int32 → Int32 → Int32 → Int32 → Prop} {B6 : r_S → Int32 → Int32 → Int32 → Int32 → Int32 → Prop} (hB6 : ∀ (S : r_S) (y2 : Int32) (y3 : Int32) (y4 : Int32) (y5 : Int32) (y6 : Int32), (OB6 (r_E m fo S S0) m y2 y3 y4 y5 y6 ↔ B6 S y2 y3 y4 y5 y6)) (S : r_S) (x1 : Int32) (x2 : Int32) (x3 : Int32) (x4 : Int32) (x5 : Int32) (Q : Option Value → q_S → Prop) : wb_X12_waiter_77 OB6 (r_E m fo S S0) m x1 x2 x3 x4 x5 Q ↔ rb_X12_waiter_77 B6 S x1 x2 x3 x4 x5 (fun r S => Q r (r_E m fo S S0)) := by
  unfold wb_X12_waiter_77 rb_X12_waiter_77
  simp only [r_eK, r_eI, r_eIs, r_eP, r_eN, true_and, Option.some.injEq, exists_eq_left', r_all, w.1, r_w1 w 2481 rfl, r_w2 w 2481 21 rfl rfl, r_w3 w 2481 rfl, r_eA w 2481 rfl, r_eAs w 2481 rfl, eb_X12_waiter_114 w hB6, eb_X12_waiter_118 w hB6, hB6]
def rb_X12_waiter_6 (B6 : r_S → Int32 → Int32 → Int32 → Int32 → Int32 → Prop) (S : r_S) (x1 : Int32) (x2 : Int32) (x3 : Int32) (x4 : Int32) (x5 : Int32) (Q : Option Value → r_S → Prop) : Prop := ((256 : Int32) ≤ x5 → (Q (some (.int x4)) S)) ∧ (¬ (256 : Int32) ≤ x5 → (vp_in x5 (r_N 2467) ∧ ((¬ (r_A S 2467 x5.toNatClampNeg) = (2 : Int32) → (rb_X12_waiter_130 B6 S x1 x2 x3 x4 x5 Q)) ∧ ((r_A S 2467 x5.toNatClampNeg) = (2 : Int32) → (vp_in x5 (r_N 2478) ∧ ((¬ (r_A S 2478 x5.toNatClampNeg) = x1 → (rb_X12_waiter_130 B6 S x1 x2 x3 x4 x5 Q)) ∧ ((r_A S 2478 x5.toNatClampNeg) = x1 → (vp_in x5 (r_N 2479) ∧ (((r_A S 2479 x5.toNatClampNeg) = x2 → ((x4 = (-1 : Int32) → (rb_X12_waiter_114 B6 S x1 x2 x3 x4 x5 Q)) ∧ (¬ x4 = (-1 : Int32) → ((¬ x3 = 0 → (rb_X12_waiter_77 B6 S x1 x2 x3 x4 x5 Q)) ∧ (x3 = 0 → (vp_in x5 (r_N 2469) ∧ (vp_in x4 (r_N 2469) ∧ ((¬ (r_A S 2469 x5.toNatClampNeg) = (r_A S 2469 x4.toNatClampNeg) → (vp_in x5 (r_N 2469) ∧ (vp_in x4 (r_N 2469) ∧ (((r_A S 2469 x5.toNatClampNeg) ≤ (r_A S 2469 x4.toNatClampNeg) → (rb_X12_waiter_118 B6 S x1 x2 x3 x4 x5 Q)) ∧ (¬ (r_A S 2469 x5.toNatClampNeg) ≤ (r_A S 2469 x4.toNatClampNeg) → (rb_X12_waiter_114 B6 S x1 x2 x3 x4 x5 Q)))))) ∧ ((r_A S 2469 x5.toNatClampNeg) = (r_A S 2469 x4.toNatClampNeg) → (rb_X12_waiter_77 B6 S x1 x2 x3 x4 x5 Q)))))))))) ∧ (¬ (r_A S 2479 x5.toNatClampNeg) = x2 → (rb_X12_waiter_130 B6 S x1 x2 x3 x4 x5 Q)))))))))))
set_option maxRecDepth 100000 in
set_option maxHeartbeats 4000000 in
theorem eb_X12_waiter_6 {m : Nat} {ad : Nat → Nat} {fo : Nat → Option Nat} {st : Nat → Nat} {S0 : q_S} (w : r_WF m ad fo st S0) {OB6 : q_S → Nat → Int32 → Int32 → Int32 → Int32 → Int32 → Prop} {B6 : r_S → Int32 → Int32 → Int32 → Int32 → Int32 → Prop} (hB6 : ∀ (S : r_S) (y2 : Int32) (y3 : Int32) (y4 : Int32) (y5 : Int32) (y6 : Int32), (OB6 (r_E m fo S S0) m y2 y3 y4 y5 y6 ↔ B6 S y2 y3 y4 y5 y6)) (S : r_S) (x1 : Int32) (x2 : Int32) (x3 : Int32) (x4 : Int32) (x5 : Int32) (Q : Option Value → q_S → Prop) : wb_X12_waiter_6 OB6 (r_E m fo S S0) m x1 x2 x3 x4 x5 Q ↔ rb_X12_waiter_6 B6 S x1 x2 x3 x4 x5 (fun r S => Q r (r_E m fo S S0)) := by
  unfold wb_X12_waiter_6 rb_X12_waiter_6
  simp only [r_eK, r_eI, r_eIs, r_eP, r_eN, true_and, Option.some.injEq, exists_eq_left', r_all, w.1, r_w1 w 2467 rfl, r_w2 w 2467 21 rfl rfl, r_w3 w 2467 rfl, r_eA w 2467 rfl, r_eAs w 2467 rfl, r_w1 w 2469 rfl, r_w2 w 2469 21 rfl rfl, r_w3 w 2469 rfl, r_eA w 2469 rfl, r_eAs w 2469 rfl, r_w1 w 2478 rfl, r_w2 w 2478 21 rfl rfl, r_w3 w 2478 rfl, r_eA w 2478 rfl, r_eAs w 2478 rfl, r_w1 w 2479 rfl, r_w2 w 2479 21 rfl rfl, r_w3 w 2479 rfl, r_eA w 2479 rfl, r_eAs w 2479 rfl, eb_X12_waiter_114 w hB6, eb_X12_waiter_118 w hB6, eb_X12_waiter_130 w hB6, eb_X12_waiter_77 w hB6, hB6]
def rl_X12_waiter_6  : Nat → r_S → Int32 → Int32 → Int32 → Int32 → Int32 → (Option Value → r_S → Prop) → Prop
  | 0, _, _, _, _, _, _, _ => False
  | n + 1, S, x1, x2, x3, x4, x5, Q => rb_X12_waiter_6 (fun S x1 x2 x3 x4 x5 => rl_X12_waiter_6 n S x1 x2 x3 x4 x5 Q) S x1 x2 x3 x4 x5 Q
set_option maxRecDepth 100000 in
theorem el_X12_waiter_6 {m : Nat} {ad : Nat → Nat} {fo : Nat → Option Nat} {st : Nat → Nat} {S0 : q_S} (w : r_WF m ad fo st S0)  (n : Nat) (S : r_S) (x1 : Int32) (x2 : Int32) (x3 : Int32) (x4 : Int32) (x5 : Int32) (Q : Option Value → q_S → Prop) : wl_X12_waiter_6 n (r_E m fo S S0) m x1 x2 x3 x4 x5 Q ↔ rl_X12_waiter_6 n S x1 x2 x3 x4 x5 (fun r S => Q r (r_E m fo S S0)) := by
  induction n generalizing S x1 x2 x3 x4 x5 with
  | zero => exact Iff.rfl
  | succ n ih => exact eb_X12_waiter_6 w (fun _ _ _ _ _ _ => ih _ _ _ _ _ _) S x1 x2 x3 x4 x5 Q
def rm_X12_waiter (S : r_S) (x1 : Int32) (x2 : Int32) (x3 : Int32) (Q : Option Value → r_S → Prop) : Prop := ∃ n37_ : Nat, rl_X12_waiter_6 n37_ S x1 x2 x3 (-1 : Int32) (0 : Int32) Q
set_option maxRecDepth 100000 in
set_option maxHeartbeats 4000000 in
theorem em_X12_waiter {m : Nat} {ad : Nat → Nat} {fo : Nat → Option Nat} {st : Nat → Nat} {S0 : q_S} (w : r_WF m ad fo st S0)  (S : r_S) (x1 : Int32) (x2 : Int32) (x3 : Int32) (Q : Option Value → q_S → Prop) : wm_X12_waiter (r_E m fo S S0) m x1 x2 x3 Q ↔ rm_X12_waiter S x1 x2 x3 (fun r S => Q r (r_E m fo S S0)) := by
  unfold wm_X12_waiter rm_X12_waiter
  simp only [r_eK, r_eI, r_eIs, r_eP, r_eN, true_and, Option.some.injEq, exists_eq_left', r_all, w.1, el_X12_waiter_6 w]
def rm_X12_answer (S : r_S) (x1 : Int32) (x2 : Int32) (Q : Option Value → r_S → Prop) : Prop := vp_in (((32 : Int32) * x1) + (10 : Int32)) (r_N 2477) ∧ (Q none (rs_A S 2477 (((32 : Int32) * x1) + (10 : Int32)).toNatClampNeg x2))
set_option maxRecDepth 100000 in
set_option maxHeartbeats 4000000 in
theorem em_X12_answer {m : Nat} {ad : Nat → Nat} {fo : Nat → Option Nat} {st : Nat → Nat} {S0 : q_S} (w : r_WF m ad fo st S0)  (S : r_S) (x1 : Int32) (x2 : Int32) (Q : Option Value → q_S → Prop) : wm_X12_answer (r_E m fo S S0) m x1 x2 Q ↔ rm_X12_answer S x1 x2 (fun r S => Q r (r_E m fo S S0)) := by
  unfold wm_X12_answer rm_X12_answer
  simp only [r_eK, r_eI, r_eIs, r_eP, r_eN, true_and, Option.some.injEq, exists_eq_left', r_all, w.1, r_w1 w 2477 rfl, r_w2 w 2477 21 rfl rfl, r_w3 w 2477 rfl, r_eA w 2477 rfl, r_eAs w 2477 rfl]
def rm_X12_gets (S : r_S) (x1 : Int32) (Q : Option Value → r_S → Prop) : Prop := rm_X12_answer S x1 (0 : Int32) (fun r2_ S3_ => r2_ = none ∧ (rm_X12_isReady S3_ x1 (fun r5_ S6_ => r5_ = none ∧ (Q none S6_))))
set_option maxRecDepth 100000 in
set_option maxHeartbeats 4000000 in
theorem em_X12_gets {m : Nat} {ad : Nat → Nat} {fo : Nat → Option Nat} {st : Nat → Nat} {S0 : q_S} (w : r_WF m ad fo st S0)  (S : r_S) (x1 : Int32) (Q : Option Value → q_S → Prop) : wm_X12_gets (r_E m fo S S0) m x1 Q ↔ rm_X12_gets S x1 (fun r S => Q r (r_E m fo S S0)) := by
  unfold wm_X12_gets rm_X12_gets
  simp only [r_eK, r_eI, r_eIs, r_eP, r_eN, true_and, Option.some.injEq, exists_eq_left', r_all, w.1, em_X12_answer w, em_X12_isReady w]
def rm_X12_passes (S : r_S) (x1 : Int32) (x2 : Int32) (Q : Option Value → r_S → Prop) : Prop := vp_in x1 (r_N 2456) ∧ (rm_X12_waiter S (6 : Int32) x1 (r_A S 2456 x1.toNatClampNeg) (fun r6_ S7_ => ∃ x8_ : Int32, r6_ = some (.int x8_) ∧ ((x8_ = (-1 : Int32) → (vp_in x1 (r_N 2501) ∧ (vp_in x1 (r_N 2455) ∧ ((¬ (r_A S7_ 2501 x1.toNatClampNeg) = (r_A S7_ 2455 x1.toNatClampNeg) → (vp_in x1 (r_N 2501) ∧ (vp_in (((32 : Int32) * x1) + (r_A S7_ 2501 x1.toNatClampNeg)) (r_N 2502) ∧ (vp_in x1 (r_N 2501) ∧ (vp_in x1 (r_N 2501) ∧ (∀ S30_ : r_S, S30_ = (rs_A (rs_A S7_ 2502 (((32 : Int32) * x1) + (r_A S7_ 2501 x1.toNatClampNeg)).toNatClampNeg x2) 2501 x1.toNatClampNeg ((r_A (rs_A S7_ 2502 (((32 : Int32) * x1) + (r_A S7_ 2501 x1.toNatClampNeg)).toNatClampNeg x2) 2501 x1.toNatClampNeg) + (1 : Int32))) → (Q (some (.int (1 : Int32))) S30_))))))) ∧ ((r_A S7_ 2501 x1.toNatClampNeg) = (r_A S7_ 2455 x1.toNatClampNeg) → (Q (some (.int (0 : Int32))) S7_)))))) ∧ (¬ x8_ = (-1 : Int32) → (vp_in (((32 : Int32) * x8_) + (11 : Int32)) (r_N 2477) ∧ (rm_X12_gets (rs_A S7_ 2477 (((32 : Int32) * x8_) + (11 : Int32)).toNatClampNeg x2) x8_ (fun r36_ S37_ => r36_ = none ∧ (Q (some (.int (1 : Int32))) S37_))))))))
set_option maxRecDepth 100000 in
set_option maxHeartbeats 4000000 in
theorem em_X12_passes {m : Nat} {ad : Nat → Nat} {fo : Nat → Option Nat} {st : Nat → Nat} {S0 : q_S} (w : r_WF m ad fo st S0)  (S : r_S) (x1 : Int32) (x2 : Int32) (Q : Option Value → q_S → Prop) : wm_X12_passes (r_E m fo S S0) m x1 x2 Q ↔ rm_X12_passes S x1 x2 (fun r S => Q r (r_E m fo S S0)) := by
  unfold wm_X12_passes rm_X12_passes
  simp only [r_eK, r_eI, r_eIs, r_eP, r_eN, true_and, Option.some.injEq, exists_eq_left', r_all, w.1, r_w1 w 2455 rfl, r_w2 w 2455 21 rfl rfl, r_w3 w 2455 rfl, r_eA w 2455 rfl, r_eAs w 2455 rfl, r_w1 w 2456 rfl, r_w2 w 2456 22 rfl rfl, r_w3 w 2456 rfl, r_eA w 2456 rfl, r_eAs w 2456 rfl, r_w1 w 2477 rfl, r_w2 w 2477 21 rfl rfl, r_w3 w 2477 rfl, r_eA w 2477 rfl, r_eAs w 2477 rfl, r_w1 w 2501 rfl, r_w2 w 2501 21 rfl rfl, r_w3 w 2501 rfl, r_eA w 2501 rfl, r_eAs w 2501 rfl, r_w1 w 2502 rfl, r_w2 w 2502 21 rfl rfl, r_w3 w 2502 rfl, r_eA w 2502 rfl, r_eAs w 2502 rfl, em_X12_gets w, em_X12_waiter w]
def rb_X12_comes_55 (S : r_S) (Q : Option Value → r_S → Prop) : Prop := Q none S
set_option maxRecDepth 100000 in
set_option maxHeartbeats 4000000 in
theorem eb_X12_comes_55 {m : Nat} {ad : Nat → Nat} {fo : Nat → Option Nat} {st : Nat → Nat} {S0 : q_S} (w : r_WF m ad fo st S0)  (S : r_S) (Q : Option Value → q_S → Prop) : wb_X12_comes_55 (r_E m fo S S0) Q ↔ rb_X12_comes_55 S (fun r S => Q r (r_E m fo S S0)) := by
  unfold wb_X12_comes_55 rb_X12_comes_55
  simp only [r_eK, r_eI, r_eIs, r_eP, r_eN, true_and, Option.some.injEq, exists_eq_left', r_all, w.1]
def rm_X12_comes (S : r_S) (x1 : Int32) (x2 : Int32) (Q : Option Value → r_S → Prop) : Prop := rm_X12_traced S x1 x2 (fun r2_ S3_ => r2_ = none ∧ (vp_in x1 (r_N 2454) ∧ ((¬ (r_A S3_ 2454 x1.toNatClampNeg) = 0 → (vp_in ((4 : Int32) * x1) (r_N 2459) ∧ ((¬ (r_A S3_ 2459 ((4 : Int32) * x1).toNatClampNeg) = (-2 : Int32) → (rm_X12_passes S3_ x1 x2 (fun r15_ S16_ => ∃ x17_ : Int32, r15_ = some (.int x17_) ∧ ((¬ x17_ = 0 → (rb_X12_comes_55 S16_ Q)) ∧ (x17_ = 0 → (vp_in x1 (r_N 2503) ∧ (vp_in x1 (r_N 2503) ∧ (rb_X12_comes_55 (rs_A S16_ 2503 x1.toNatClampNeg ((r_A S16_ 2503 x1.toNatClampNeg) + (1 : Int32))) Q)))))))) ∧ ((r_A S3_ 2459 ((4 : Int32) * x1).toNatClampNeg) = (-2 : Int32) → (Q none S3_))))) ∧ ((r_A S3_ 2454 x1.toNatClampNeg) = 0 → (rm_X12_sample S3_ x1 x2 (fun r25_ S26_ => r25_ = none ∧ (Q none S26_)))))))
set_option maxRecDepth 100000 in
set_option maxHeartbeats 4000000 in
theorem em_X12_comes {m : Nat} {ad : Nat → Nat} {fo : Nat → Option Nat} {st : Nat → Nat} {S0 : q_S} (w : r_WF m ad fo st S0)  (S : r_S) (x1 : Int32) (x2 : Int32) (Q : Option Value → q_S → Prop) : wm_X12_comes (r_E m fo S S0) m x1 x2 Q ↔ rm_X12_comes S x1 x2 (fun r S => Q r (r_E m fo S S0)) := by
  unfold wm_X12_comes rm_X12_comes
  simp only [r_eK, r_eI, r_eIs, r_eP, r_eN, true_and, Option.some.injEq, exists_eq_left', r_all, w.1, r_w1 w 2454 rfl, r_w2 w 2454 22 rfl rfl, r_w3 w 2454 rfl, r_eA w 2454 rfl, r_eAs w 2454 rfl, r_w1 w 2459 rfl, r_w2 w 2459 21 rfl rfl, r_w3 w 2459 rfl, r_eA w 2459 rfl, r_eAs w 2459 rfl, r_w1 w 2503 rfl, r_w2 w 2503 21 rfl rfl, r_w3 w 2503 rfl, r_eA w 2503 rfl, r_eAs w 2503 rfl, eb_X12_comes_55 w, em_X12_passes w, em_X12_sample w, em_X12_traced w]
def rb_X12_window_12 (B12 : r_S → Int32 → Int32 → Prop) (S : r_S) (x1 : Int32) (x2 : Int32) (Q : Option Value → r_S → Prop) : Prop := vp_in x2 (r_N 2462) ∧ ((x1 < (r_A S 2462 x2.toNatClampNeg) → (Q (some (.int x2)) S)) ∧ (¬ x1 < (r_A S 2462 x2.toNatClampNeg) → (vp_in x2 (r_N 2462) ∧ (B12 S (x1 - (r_A S 2462 x2.toNatClampNeg)) (x2 + 1)))))
set_option maxRecDepth 100000 in
set_option maxHeartbeats 4000000 in
theorem eb_X12_window_12 {m : Nat} {ad : Nat → Nat} {fo : Nat → Option Nat} {st : Nat → Nat} {S0 : q_S} (w : r_WF m ad fo st S0) {OB12 : q_S → Nat → Int32 → Int32 → Prop} {B12 : r_S → Int32 → Int32 → Prop} (hB12 : ∀ (S : r_S) (y2 : Int32) (y3 : Int32), (OB12 (r_E m fo S S0) m y2 y3 ↔ B12 S y2 y3)) (S : r_S) (x1 : Int32) (x2 : Int32) (Q : Option Value → q_S → Prop) : wb_X12_window_12 OB12 (r_E m fo S S0) m x1 x2 Q ↔ rb_X12_window_12 B12 S x1 x2 (fun r S => Q r (r_E m fo S S0)) := by
  unfold wb_X12_window_12 rb_X12_window_12
  simp only [r_eK, r_eI, r_eIs, r_eP, r_eN, true_and, Option.some.injEq, exists_eq_left', r_all, w.1, r_w1 w 2462 rfl, r_w2 w 2462 21 rfl rfl, r_w3 w 2462 rfl, r_eA w 2462 rfl, r_eAs w 2462 rfl, hB12]
def rl_X12_window_12  : Nat → r_S → Int32 → Int32 → (Option Value → r_S → Prop) → Prop
  | 0, _, _, _, _ => False
  | n + 1, S, x1, x2, Q => rb_X12_window_12 (fun S x1 x2 => rl_X12_window_12 n S x1 x2 Q) S x1 x2 Q
set_option maxRecDepth 100000 in
theorem el_X12_window_12 {m : Nat} {ad : Nat → Nat} {fo : Nat → Option Nat} {st : Nat → Nat} {S0 : q_S} (w : r_WF m ad fo st S0)  (n : Nat) (S : r_S) (x1 : Int32) (x2 : Int32) (Q : Option Value → q_S → Prop) : wl_X12_window_12 n (r_E m fo S S0) m x1 x2 Q ↔ rl_X12_window_12 n S x1 x2 (fun r S => Q r (r_E m fo S S0)) := by
  induction n generalizing S x1 x2 with
  | zero => exact Iff.rfl
  | succ n ih => exact eb_X12_window_12 w (fun _ _ _ => ih _ _ _) S x1 x2 Q
def rm_X12_window (S : r_S) (Q : Option Value → r_S → Prop) : Prop := (¬ (r_I S 2420) = 0) ∧ (∃ n10_ : Nat, rl_X12_window_12 n10_ S ((r_I S 2463) - (r_I S 2463) / (r_I S 2420) * (r_I S 2420)) (0 : Int32) Q)
set_option maxRecDepth 100000 in
set_option maxHeartbeats 4000000 in
theorem em_X12_window {m : Nat} {ad : Nat → Nat} {fo : Nat → Option Nat} {st : Nat → Nat} {S0 : q_S} (w : r_WF m ad fo st S0)  (S : r_S) (Q : Option Value → q_S → Prop) : wm_X12_window (r_E m fo S S0) m Q ↔ rm_X12_window S (fun r S => Q r (r_E m fo S S0)) := by
  unfold wm_X12_window rm_X12_window
  simp only [r_eK, r_eI, r_eIs, r_eP, r_eN, true_and, Option.some.injEq, exists_eq_left', r_all, w.1, el_X12_window_12 w]
def rb_X12_isFaulted_30 (S : r_S) (xs0 : Int32) (Q : Option Value → r_S → Prop) : Prop := narrow .boolean (.int xs0) = .int xs0 ∧ Q (some (.int xs0)) S
set_option maxRecDepth 100000 in
set_option maxHeartbeats 4000000 in
theorem eb_X12_isFaulted_30 {m : Nat} {ad : Nat → Nat} {fo : Nat → Option Nat} {st : Nat → Nat} {S0 : q_S} (w : r_WF m ad fo st S0)  (S : r_S) (xs0 : Int32) (Q : Option Value → q_S → Prop) : wb_X12_isFaulted_30 (r_E m fo S S0) xs0 Q ↔ rb_X12_isFaulted_30 S xs0 (fun r S => Q r (r_E m fo S S0)) := by
  unfold wb_X12_isFaulted_30 rb_X12_isFaulted_30
  simp only [r_eK, r_eI, r_eIs, r_eP, r_eN, true_and, Option.some.injEq, exists_eq_left', r_all, w.1]
def rb_X12_isFaulted_29 (S : r_S) (Q : Option Value → r_S → Prop) : Prop := rb_X12_isFaulted_30 S (0 : Int32) Q
set_option maxRecDepth 100000 in
set_option maxHeartbeats 4000000 in
theorem eb_X12_isFaulted_29 {m : Nat} {ad : Nat → Nat} {fo : Nat → Option Nat} {st : Nat → Nat} {S0 : q_S} (w : r_WF m ad fo st S0)  (S : r_S) (Q : Option Value → q_S → Prop) : wb_X12_isFaulted_29 (r_E m fo S S0) Q ↔ rb_X12_isFaulted_29 S (fun r S => Q r (r_E m fo S S0)) := by
  unfold wb_X12_isFaulted_29 rb_X12_isFaulted_29
  simp only [r_eK, r_eI, r_eIs, r_eP, r_eN, true_and, Option.some.injEq, exists_eq_left', r_all, w.1, eb_X12_isFaulted_30 w]
def rm_X12_isFaulted (S : r_S) (x1 : Int32) (Q : Option Value → r_S → Prop) : Prop := vp_in x1 (r_N 2488) ∧ (((r_A S 2488 x1.toNatClampNeg) = (-1 : Int32) → (rb_X12_isFaulted_29 S Q)) ∧ (¬ (r_A S 2488 x1.toNatClampNeg) = (-1 : Int32) → (vp_in x1 (r_N 2488) ∧ (vp_in (r_A S 2488 x1.toNatClampNeg) (r_N 2467) ∧ ((¬ (r_A S 2467 (r_A S 2488 x1.toNatClampNeg).toNatClampNeg) = (3 : Int32) → (rb_X12_isFaulted_29 S Q)) ∧ ((r_A S 2467 (r_A S 2488 x1.toNatClampNeg).toNatClampNeg) = (3 : Int32) → (rb_X12_isFaulted_30 S (1 : Int32) Q)))))))
set_option maxRecDepth 100000 in
set_option maxHeartbeats 4000000 in
theorem em_X12_isFaulted {m : Nat} {ad : Nat → Nat} {fo : Nat → Option Nat} {st : Nat → Nat} {S0 : q_S} (w : r_WF m ad fo st S0)  (S : r_S) (x1 : Int32) (Q : Option Value → q_S → Prop) : wm_X12_isFaulted (r_E m fo S S0) m x1 Q ↔ rm_X12_isFaulted S x1 (fun r S => Q r (r_E m fo S S0)) := by
  unfold wm_X12_isFaulted rm_X12_isFaulted
  simp only [r_eK, r_eI, r_eIs, r_eP, r_eN, true_and, Option.some.injEq, exists_eq_left', r_all, w.1, r_w1 w 2467 rfl, r_w2 w 2467 21 rfl rfl, r_w3 w 2467 rfl, r_eA w 2467 rfl, r_eAs w 2467 rfl, r_w1 w 2488 rfl, r_w2 w 2488 21 rfl rfl, r_w3 w 2488 rfl, r_eA w 2488 rfl, r_eAs w 2488 rfl, eb_X12_isFaulted_29 w, eb_X12_isFaulted_30 w]
def rb_X12_dormant_37 (S : r_S) (Q : Option Value → r_S → Prop) : Prop := Q none S
set_option maxRecDepth 100000 in
set_option maxHeartbeats 4000000 in
theorem eb_X12_dormant_37 {m : Nat} {ad : Nat → Nat} {fo : Nat → Option Nat} {st : Nat → Nat} {S0 : q_S} (w : r_WF m ad fo st S0)  (S : r_S) (Q : Option Value → q_S → Prop) : wb_X12_dormant_37 (r_E m fo S S0) Q ↔ rb_X12_dormant_37 S (fun r S => Q r (r_E m fo S S0)) := by
  unfold wb_X12_dormant_37 rb_X12_dormant_37
  simp only [r_eK, r_eI, r_eIs, r_eP, r_eN, true_and, Option.some.injEq, exists_eq_left', r_all, w.1]
def rm_X12_dormant (S : r_S) (x1 : Int32) (Q : Option Value → r_S → Prop) : Prop := rm_X12_partitionOf S x1 (fun r2_ S3_ => ∃ x4_ : Int32, r2_ = some (.int x4_) ∧ (rm_X12_sleeps S3_ x1 (fun r6_ S7_ => r6_ = none ∧ (rm_X12_isHandler S7_ x1 (fun r9_ S10_ => ∃ x11_ : Int32, r9_ = some (.int x11_) ∧ ((x11_ = 0 → (rb_X12_dormant_37 S10_ Q)) ∧ (¬ x11_ = 0 → (rm_X12_isFaulted S10_ x4_ (fun r14_ S15_ => ∃ x16_ : Int32, r14_ = some (.int x16_) ∧ ((x16_ = 0 → (rb_X12_dormant_37 S15_ Q)) ∧ (¬ x16_ = 0 → (vp_in x4_ (r_N 2488) ∧ (rm_X12_sleeps S15_ (r_A S15_ 2488 x4_.toNatClampNeg) (fun r23_ S24_ => r23_ = none ∧ (rb_X12_dormant_37 S24_ Q)))))))))))))))
set_option maxRecDepth 100000 in
set_option maxHeartbeats 4000000 in
theorem em_X12_dormant {m : Nat} {ad : Nat → Nat} {fo : Nat → Option Nat} {st : Nat → Nat} {S0 : q_S} (w : r_WF m ad fo st S0)  (S : r_S) (x1 : Int32) (Q : Option Value → q_S → Prop) : wm_X12_dormant (r_E m fo S S0) m x1 Q ↔ rm_X12_dormant S x1 (fun r S => Q r (r_E m fo S S0)) := by
  unfold wm_X12_dormant rm_X12_dormant
  simp only [r_eK, r_eI, r_eIs, r_eP, r_eN, true_and, Option.some.injEq, exists_eq_left', r_all, w.1, r_w1 w 2488 rfl, r_w2 w 2488 21 rfl rfl, r_w3 w 2488 rfl, r_eA w 2488 rfl, r_eAs w 2488 rfl, eb_X12_dormant_37 w, em_X12_isFaulted w, em_X12_isHandler w, em_X12_partitionOf w, em_X12_sleeps w]
def rb_X12_idle_5 (B5 : r_S → Int32 → Int32 → Prop) (S : r_S) (x1 : Int32) (x2 : Int32) (Q : Option Value → r_S → Prop) : Prop := rm_X12_lastOf S x1 (fun r2_ S3_ => ∃ x4_ : Int32, r2_ = some (.int x4_) ∧ ((x4_ ≤ x2 → (vp_in x1 (r_N 2483) ∧ (Q none (rs_A S3_ 2483 x1.toNatClampNeg (1 : Int32))))) ∧ (¬ x4_ ≤ x2 → (rm_X12_sleeps S3_ x2 (fun r12_ S13_ => r12_ = none ∧ (B5 S13_ x1 (x2 + 1)))))))
set_option maxRecDepth 100000 in
set_option maxHeartbeats 4000000 in
theorem eb_X12_idle_5 {m : Nat} {ad : Nat → Nat} {fo : Nat → Option Nat} {st : Nat → Nat} {S0 : q_S} (w : r_WF m ad fo st S0) {OB5 : q_S → Nat → Int32 → Int32 → Prop} {B5 : r_S → Int32 → Int32 → Prop} (hB5 : ∀ (S : r_S) (y2 : Int32) (y3 : Int32), (OB5 (r_E m fo S S0) m y2 y3 ↔ B5 S y2 y3)) (S : r_S) (x1 : Int32) (x2 : Int32) (Q : Option Value → q_S → Prop) : wb_X12_idle_5 OB5 (r_E m fo S S0) m x1 x2 Q ↔ rb_X12_idle_5 B5 S x1 x2 (fun r S => Q r (r_E m fo S S0)) := by
  unfold wb_X12_idle_5 rb_X12_idle_5
  simp only [r_eK, r_eI, r_eIs, r_eP, r_eN, true_and, Option.some.injEq, exists_eq_left', r_all, w.1, r_w1 w 2483 rfl, r_w2 w 2483 21 rfl rfl, r_w3 w 2483 rfl, r_eA w 2483 rfl, r_eAs w 2483 rfl, em_X12_lastOf w, em_X12_sleeps w, hB5]
def rl_X12_idle_5  : Nat → r_S → Int32 → Int32 → (Option Value → r_S → Prop) → Prop
  | 0, _, _, _, _ => False
  | n + 1, S, x1, x2, Q => rb_X12_idle_5 (fun S x1 x2 => rl_X12_idle_5 n S x1 x2 Q) S x1 x2 Q
set_option maxRecDepth 100000 in
theorem el_X12_idle_5 {m : Nat} {ad : Nat → Nat} {fo : Nat → Option Nat} {st : Nat → Nat} {S0 : q_S} (w : r_WF m ad fo st S0)  (n : Nat) (S : r_S) (x1 : Int32) (x2 : Int32) (Q : Option Value → q_S → Prop) : wl_X12_idle_5 n (r_E m fo S S0) m x1 x2 Q ↔ rl_X12_idle_5 n S x1 x2 (fun r S => Q r (r_E m fo S S0)) := by
  induction n generalizing S x1 x2 with
  | zero => exact Iff.rfl
  | succ n ih => exact eb_X12_idle_5 w (fun _ _ _ => ih _ _ _) S x1 x2 Q
def rm_X12_idle (S : r_S) (x1 : Int32) (Q : Option Value → r_S → Prop) : Prop := ∃ n14_ : Nat, rl_X12_idle_5 n14_ S x1 ((16 : Int32) * x1) Q
set_option maxRecDepth 100000 in
set_option maxHeartbeats 4000000 in
theorem em_X12_idle {m : Nat} {ad : Nat → Nat} {fo : Nat → Option Nat} {st : Nat → Nat} {S0 : q_S} (w : r_WF m ad fo st S0)  (S : r_S) (x1 : Int32) (Q : Option Value → q_S → Prop) : wm_X12_idle (r_E m fo S S0) m x1 Q ↔ rm_X12_idle S x1 (fun r S => Q r (r_E m fo S S0)) := by
  unfold wm_X12_idle rm_X12_idle
  simp only [r_eK, r_eI, r_eIs, r_eP, r_eN, true_and, Option.some.injEq, exists_eq_left', r_all, w.1, el_X12_idle_5 w]
def rb_X12_fails_231 (S : r_S) (xs1 : Int32) (xs2 : Int32) (xs3 : Int32) (Q : Option Value → r_S → Prop) : Prop := rm_X12_begins S xs1 xs2 xs3 (fun r2_ S3_ => r2_ = none ∧ (Q none (rs_I S3_ 2513 (1 : Int32))))
set_option maxRecDepth 100000 in
set_option maxHeartbeats 4000000 in
theorem eb_X12_fails_231 {m : Nat} {ad : Nat → Nat} {fo : Nat → Option Nat} {st : Nat → Nat} {S0 : q_S} (w : r_WF m ad fo st S0)  (S : r_S) (xs1 : Int32) (xs2 : Int32) (xs3 : Int32) (Q : Option Value → q_S → Prop) : wb_X12_fails_231 (r_E m fo S S0) m m xs1 xs2 xs3 Q ↔ rb_X12_fails_231 S xs1 xs2 xs3 (fun r S => Q r (r_E m fo S S0)) := by
  unfold wb_X12_fails_231 rb_X12_fails_231
  simp only [r_eK, r_eI, r_eIs, r_eP, r_eN, true_and, Option.some.injEq, exists_eq_left', r_all, w.1, em_X12_begins w]
def rb_X12_fails_199 (S : r_S) (Q : Option Value → r_S → Prop) : Prop := Q none S
set_option maxRecDepth 100000 in
set_option maxHeartbeats 4000000 in
theorem eb_X12_fails_199 {m : Nat} {ad : Nat → Nat} {fo : Nat → Option Nat} {st : Nat → Nat} {S0 : q_S} (w : r_WF m ad fo st S0)  (S : r_S) (Q : Option Value → q_S → Prop) : wb_X12_fails_199 (r_E m fo S S0) Q ↔ rb_X12_fails_199 S (fun r S => Q r (r_E m fo S S0)) := by
  unfold wb_X12_fails_199 rb_X12_fails_199
  simp only [r_eK, r_eI, r_eIs, r_eP, r_eN, true_and, Option.some.injEq, exists_eq_left', r_all, w.1]
def rb_X12_fails_57 (S : r_S) (x1 : Int32) (x2 : Int32) (x3 : Int32) (x4 : Int32) (x5 : Int32) (Q : Option Value → r_S → Prop) : Prop := vp_in ((6 : Int32) * ((r_I S 2509) - (r_I S 2509) / (64 : Int32) * (64 : Int32))) (r_N 2512) ∧ (vp_in (((6 : Int32) * ((r_I S 2509) - (r_I S 2509) / (64 : Int32) * (64 : Int32))) + (1 : Int32)) (r_N 2512) ∧ (vp_in (((6 : Int32) * ((r_I S 2509) - (r_I S 2509) / (64 : Int32) * (64 : Int32))) + (2 : Int32)) (r_N 2512) ∧ (∀ S18_ : r_S, S18_ = (rs_A (rs_A (rs_A S 2512 ((6 : Int32) * ((r_I S 2509) - (r_I S 2509) / (64 : Int32) * (64 : Int32))).toNatClampNeg (r_I S 2463)) 2512 (((6 : Int32) * ((r_I S 2509) - (r_I S 2509) / (64 : Int32) * (64 : Int32))) + (1 : Int32)).toNatClampNeg x4) 2512 (((6 : Int32) * ((r_I S 2509) - (r_I S 2509) / (64 : Int32) * (64 : Int32))) + (2 : Int32)).toNatClampNeg (x1 - x1 / (16 : Int32) * (16 : Int32))) → (vp_in (((6 : Int32) * ((r_I S 2509) - (r_I S 2509) / (64 : Int32) * (64 : Int32))) + (3 : Int32)) (r_N 2512) ∧ (vp_in (((6 : Int32) * ((r_I S 2509) - (r_I S 2509) / (64 : Int32) * (64 : Int32))) + (4 : Int32)) (r_N 2512) ∧ (vp_in (((6 : Int32) * ((r_I S 2509) - (r_I S 2509) / (64 : Int32) * (64 : Int32))) + (5 : Int32)) (r_N 2512) ∧ (∀ S31_ : r_S, S31_ = (rs_A (rs_A (rs_A S18_ 2512 (((6 : Int32) * ((r_I S 2509) - (r_I S 2509) / (64 : Int32) * (64 : Int32))) + (3 : Int32)).toNatClampNeg x2) 2512 (((6 : Int32) * ((r_I S 2509) - (r_I S 2509) / (64 : Int32) * (64 : Int32))) + (4 : Int32)).toNatClampNeg x5) 2512 (((6 : Int32) * ((r_I S 2509) - (r_I S 2509) / (64 : Int32) * (64 : Int32))) + (5 : Int32)).toNatClampNeg x3) → (((x5.toInt < 0 ∨ 5 < x5.toInt) → (vp_in x1 (r_N 2467) ∧ (vp_in x1 (r_N 2472) ∧ (∀ S40_ : r_S, S40_ = (rs_A (rs_A (rs_I S31_ 2509 ((r_I S31_ 2509) + (1 : Int32))) 2467 x1.toNatClampNeg (3 : Int32)) 2472 x1.toNatClampNeg (-1 : Int32)) → (vp_in x1 (r_N 2478) ∧ (vp_in x1 (r_N 2475) ∧ (vp_in x4 (r_N 2488) ∧ (∀ S53_ : r_S, S53_ = (rs_A (rs_A (rs_A S40_ 2478 x1.toNatClampNeg (0 : Int32)) 2475 x1.toNatClampNeg (vp_nar .boolean (0 : Int32))) 2488 x4.toNatClampNeg x1) → (vp_in x4 (r_N 2489) ∧ (vp_in x4 (r_N 2490) ∧ (rm_X12_unlock (rs_A (rs_A S53_ 2489 x4.toNatClampNeg x2) 2490 x4.toNatClampNeg x3) x4 (fun r62_ S63_ => r62_ = none ∧ (vp_in x4 (r_N 2442) ∧ (rm_X12_startsAt S63_ (r_A S63_ 2442 x4.toNatClampNeg) (r_I S63_ 2463) (fun r69_ S70_ => r69_ = none ∧ (Q none S70_)))))))))))))))) ∧ ((x5 = (0 : Int32)) → ((x2 = (2 : Int32) → (rb_X12_fails_199 (rs_I S31_ 2509 ((r_I S31_ 2509) + (1 : Int32))) Q)) ∧ (¬ x2 = (2 : Int32) → (vp_in x1 (r_N 2468) ∧ (vp_in x1 (r_N 2468) ∧ (∀ S77_ : r_S, S77_ = (rs_A (rs_I S31_ 2509 ((r_I S31_ 2509) + (1 : Int32))) 2468 x1.toNatClampNeg ((r_A (rs_I S31_ 2509 ((r_I S31_ 2509) + (1 : Int32))) 2468 x1.toNatClampNeg) + (4 : Int32))) → (rb_X12_fails_199 S77_ Q))))))) ∧ ((x5 = (1 : Int32)) → (rm_X12_dormant (rs_I S31_ 2509 ((r_I S31_ 2509) + (1 : Int32))) x1 (fun r78_ S79_ => r78_ = none ∧ (Q none S79_)))) ∧ ((x5 = (2 : Int32)) → (rm_X12_startsAt (rs_I S31_ 2509 ((r_I S31_ 2509) + (1 : Int32))) x1 (r_I (rs_I S31_ 2509 ((r_I S31_ 2509) + (1 : Int32))) 2463) (fun r80_ S81_ => r80_ = none ∧ (Q none S81_)))) ∧ ((x5 = (3 : Int32) ∨ x5 = (4 : Int32)) → ((¬ x5 = (4 : Int32) → (rb_X12_fails_231 (rs_I S31_ 2509 ((r_I S31_ 2509) + (1 : Int32))) x4 (3 : Int32) (0 : Int32) Q)) ∧ (x5 = (4 : Int32) → (rb_X12_fails_231 (rs_I S31_ 2509 ((r_I S31_ 2509) + (1 : Int32))) x4 (3 : Int32) (1 : Int32) Q)))) ∧ ((x5 = (5 : Int32)) → (rm_X12_idle (rs_I S31_ 2509 ((r_I S31_ 2509) + (1 : Int32))) x4 (fun r83_ S84_ => r83_ = none ∧ (Q none (rs_I S84_ 2513 (1 : Int32))))))))))))))
set_option maxRecDepth 100000 in
set_option maxHeartbeats 4000000 in
theorem eb_X12_fails_57 {m : Nat} {ad : Nat → Nat} {fo : Nat → Option Nat} {st : Nat → Nat} {S0 : q_S} (w : r_WF m ad fo st S0)  (S : r_S) (x1 : Int32) (x2 : Int32) (x3 : Int32) (x4 : Int32) (x5 : Int32) (Q : Option Value → q_S → Prop) : wb_X12_fails_57 (r_E m fo S S0) m x1 x2 x3 x4 x5 Q ↔ rb_X12_fails_57 S x1 x2 x3 x4 x5 (fun r S => Q r (r_E m fo S S0)) := by
  unfold wb_X12_fails_57 rb_X12_fails_57
  simp only [r_eK, r_eI, r_eIs, r_eP, r_eN, true_and, Option.some.injEq, exists_eq_left', r_all, w.1, r_w1 w 2442 rfl, r_w2 w 2442 21 rfl rfl, r_w3 w 2442 rfl, r_eA w 2442 rfl, r_eAs w 2442 rfl, r_w1 w 2467 rfl, r_w2 w 2467 21 rfl rfl, r_w3 w 2467 rfl, r_eA w 2467 rfl, r_eAs w 2467 rfl, r_w1 w 2468 rfl, r_w2 w 2468 21 rfl rfl, r_w3 w 2468 rfl, r_eA w 2468 rfl, r_eAs w 2468 rfl, r_w1 w 2472 rfl, r_w2 w 2472 21 rfl rfl, r_w3 w 2472 rfl, r_eA w 2472 rfl, r_eAs w 2472 rfl, r_w1 w 2475 rfl, r_w2 w 2475 22 rfl rfl, r_w3 w 2475 rfl, r_eA w 2475 rfl, r_eAs w 2475 rfl, r_w1 w 2478 rfl, r_w2 w 2478 21 rfl rfl, r_w3 w 2478 rfl, r_eA w 2478 rfl, r_eAs w 2478 rfl, r_w1 w 2488 rfl, r_w2 w 2488 21 rfl rfl, r_w3 w 2488 rfl, r_eA w 2488 rfl, r_eAs w 2488 rfl, r_w1 w 2489 rfl, r_w2 w 2489 21 rfl rfl, r_w3 w 2489 rfl, r_eA w 2489 rfl, r_eAs w 2489 rfl, r_w1 w 2490 rfl, r_w2 w 2490 21 rfl rfl, r_w3 w 2490 rfl, r_eA w 2490 rfl, r_eAs w 2490 rfl, r_w1 w 2512 rfl, r_w2 w 2512 21 rfl rfl, r_w3 w 2512 rfl, r_eA w 2512 rfl, r_eAs w 2512 rfl, eb_X12_fails_199 w, eb_X12_fails_231 w, em_X12_dormant w, em_X12_idle w, em_X12_startsAt w, em_X12_unlock w]
def rb_X12_fails_30 (S : r_S) (x1 : Int32) (x2 : Int32) (x3 : Int32) (x4 : Int32) (xs0 : Int32) (Q : Option Value → r_S → Prop) : Prop := (¬ xs0 = (6 : Int32) → (rb_X12_fails_57 S x1 x2 x3 x4 xs0 Q)) ∧ (xs0 = (6 : Int32) → (vp_in x4 (r_N 2442) ∧ (vp_in (r_A S 2442 x4.toNatClampNeg) (r_N 2467) ∧ (((r_A S 2467 (r_A S 2442 x4.toNatClampNeg).toNatClampNeg) = 0 → (rb_X12_fails_57 S x1 x2 x3 x4 xs0 Q)) ∧ (¬ (r_A S 2467 (r_A S 2442 x4.toNatClampNeg).toNatClampNeg) = 0 → (rb_X12_fails_57 S x1 x2 x3 x4 (0 : Int32) Q))))))
set_option maxRecDepth 100000 in
set_option maxHeartbeats 4000000 in
theorem eb_X12_fails_30 {m : Nat} {ad : Nat → Nat} {fo : Nat → Option Nat} {st : Nat → Nat} {S0 : q_S} (w : r_WF m ad fo st S0)  (S : r_S) (x1 : Int32) (x2 : Int32) (x3 : Int32) (x4 : Int32) (xs0 : Int32) (Q : Option Value → q_S → Prop) : wb_X12_fails_30 (r_E m fo S S0) m x1 x2 x3 x4 xs0 Q ↔ rb_X12_fails_30 S x1 x2 x3 x4 xs0 (fun r S => Q r (r_E m fo S S0)) := by
  unfold wb_X12_fails_30 rb_X12_fails_30
  simp only [r_eK, r_eI, r_eIs, r_eP, r_eN, true_and, Option.some.injEq, exists_eq_left', r_all, w.1, r_w1 w 2442 rfl, r_w2 w 2442 21 rfl rfl, r_w3 w 2442 rfl, r_eA w 2442 rfl, r_eAs w 2442 rfl, r_w1 w 2467 rfl, r_w2 w 2467 21 rfl rfl, r_w3 w 2467 rfl, r_eA w 2467 rfl, r_eAs w 2467 rfl, eb_X12_fails_57 w]
def rm_X12_fails (S : r_S) (x1 : Int32) (x2 : Int32) (x3 : Int32) (Q : Option Value → r_S → Prop) : Prop := rm_X12_partitionOf S x1 (fun r100_ S101_ => ∃ x102_ : Int32, r100_ = some (.int x102_) ∧ (rm_X12_isHandler S101_ x1 (fun r104_ S105_ => ∃ x106_ : Int32, r104_ = some (.int x106_) ∧ ((x106_ = 0 → (vp_in (((5 : Int32) * x102_) + x2) (r_N 2452) ∧ (rb_X12_fails_30 S105_ x1 x2 x3 x102_ (r_A S105_ 2452 (((5 : Int32) * x102_) + x2).toNatClampNeg) Q))) ∧ (¬ x106_ = 0 → (rb_X12_fails_30 S105_ x1 x2 x3 x102_ (3 : Int32) Q))))))
set_option maxRecDepth 100000 in
set_option maxHeartbeats 4000000 in
theorem em_X12_fails {m : Nat} {ad : Nat → Nat} {fo : Nat → Option Nat} {st : Nat → Nat} {S0 : q_S} (w : r_WF m ad fo st S0)  (S : r_S) (x1 : Int32) (x2 : Int32) (x3 : Int32) (Q : Option Value → q_S → Prop) : wm_X12_fails (r_E m fo S S0) m x1 x2 x3 Q ↔ rm_X12_fails S x1 x2 x3 (fun r S => Q r (r_E m fo S S0)) := by
  unfold wm_X12_fails rm_X12_fails
  simp only [r_eK, r_eI, r_eIs, r_eP, r_eN, true_and, Option.some.injEq, exists_eq_left', r_all, w.1, r_w1 w 2452 rfl, r_w2 w 2452 21 rfl rfl, r_w3 w 2452 rfl, r_eA w 2452 rfl, r_eAs w 2452 rfl, eb_X12_fails_30 w, em_X12_isHandler w, em_X12_partitionOf w]
def rb_X12_nextOf_16 (S : r_S) (Q : Option Value → r_S → Prop) : Prop := Q (some (.int (-1 : Int32))) S
set_option maxRecDepth 100000 in
set_option maxHeartbeats 4000000 in
theorem eb_X12_nextOf_16 {m : Nat} {ad : Nat → Nat} {fo : Nat → Option Nat} {st : Nat → Nat} {S0 : q_S} (w : r_WF m ad fo st S0)  (S : r_S) (Q : Option Value → q_S → Prop) : wb_X12_nextOf_16 (r_E m fo S S0) Q ↔ rb_X12_nextOf_16 S (fun r S => Q r (r_E m fo S S0)) := by
  unfold wb_X12_nextOf_16 rb_X12_nextOf_16
  simp only [r_eK, r_eI, r_eIs, r_eP, r_eN, true_and, Option.some.injEq, exists_eq_left', r_all, w.1]
def rb_X12_nextOf_156 (B73 : r_S → Int32 → Int32 → Int32 → Prop) (S : r_S) (x1 : Int32) (x2 : Int32) (x3 : Int32) (Q : Option Value → r_S → Prop) : Prop := B73 S x1 x2 (x3 + 1)
set_option maxRecDepth 100000 in
set_option maxHeartbeats 4000000 in
theorem eb_X12_nextOf_156 {m : Nat} {ad : Nat → Nat} {fo : Nat → Option Nat} {st : Nat → Nat} {S0 : q_S} (w : r_WF m ad fo st S0) {OB73 : q_S → Nat → Int32 → Int32 → Int32 → Prop} {B73 : r_S → Int32 → Int32 → Int32 → Prop} (hB73 : ∀ (S : r_S) (y2 : Int32) (y3 : Int32) (y4 : Int32), (OB73 (r_E m fo S S0) m y2 y3 y4 ↔ B73 S y2 y3 y4)) (S : r_S) (x1 : Int32) (x2 : Int32) (x3 : Int32) (Q : Option Value → q_S → Prop) : wb_X12_nextOf_156 OB73 (r_E m fo S S0) m x1 x2 x3 Q ↔ rb_X12_nextOf_156 B73 S x1 x2 x3 (fun r S => Q r (r_E m fo S S0)) := by
  unfold wb_X12_nextOf_156 rb_X12_nextOf_156
  simp only [r_eK, r_eI, r_eIs, r_eP, r_eN, true_and, Option.some.injEq, exists_eq_left', r_all, w.1, hB73]
def rb_X12_nextOf_154 (B73 : r_S → Int32 → Int32 → Int32 → Prop) (S : r_S) (x1 : Int32) (x3 : Int32) (Q : Option Value → r_S → Prop) : Prop := rb_X12_nextOf_156 B73 S x1 x3 x3 Q
set_option maxRecDepth 100000 in
set_option maxHeartbeats 4000000 in
theorem eb_X12_nextOf_154 {m : Nat} {ad : Nat → Nat} {fo : Nat → Option Nat} {st : Nat → Nat} {S0 : q_S} (w : r_WF m ad fo st S0) {OB73 : q_S → Nat → Int32 → Int32 → Int32 → Prop} {B73 : r_S → Int32 → Int32 → Int32 → Prop} (hB73 : ∀ (S : r_S) (y2 : Int32) (y3 : Int32) (y4 : Int32), (OB73 (r_E m fo S S0) m y2 y3 y4 ↔ B73 S y2 y3 y4)) (S : r_S) (x1 : Int32) (x3 : Int32) (Q : Option Value → q_S → Prop) : wb_X12_nextOf_154 OB73 (r_E m fo S S0) m x1 x3 Q ↔ rb_X12_nextOf_154 B73 S x1 x3 (fun r S => Q r (r_E m fo S S0)) := by
  unfold wb_X12_nextOf_154 rb_X12_nextOf_154
  simp only [r_eK, r_eI, r_eIs, r_eP, r_eN, true_and, Option.some.injEq, exists_eq_left', r_all, w.1, eb_X12_nextOf_156 w hB73, hB73]
def rb_X12_nextOf_73 (B73 : r_S → Int32 → Int32 → Int32 → Prop) (S : r_S) (x1 : Int32) (x2 : Int32) (x3 : Int32) (Q : Option Value → r_S → Prop) : Prop := rm_X12_lastOf S x1 (fun r2_ S3_ => ∃ x4_ : Int32, r2_ = some (.int x4_) ∧ ((x4_ ≤ x3 → (Q (some (.int x2)) S3_)) ∧ (¬ x4_ ≤ x3 → (vp_in x3 (r_N 2467) ∧ ((¬ (r_A S3_ 2467 x3.toNatClampNeg) = (1 : Int32) → (rb_X12_nextOf_156 B73 S3_ x1 x2 x3 Q)) ∧ ((r_A S3_ 2467 x3.toNatClampNeg) = (1 : Int32) → (vp_in x3 (r_N 2475) ∧ (((r_A S3_ 2475 x3.toNatClampNeg) = 0 → ((x2 = (-1 : Int32) → (rb_X12_nextOf_154 B73 S3_ x1 x3 Q)) ∧ (¬ x2 = (-1 : Int32) → (vp_in x3 (r_N 2469) ∧ (vp_in x2 (r_N 2469) ∧ (((r_A S3_ 2469 x2.toNatClampNeg) < (r_A S3_ 2469 x3.toNatClampNeg) → (rb_X12_nextOf_154 B73 S3_ x1 x3 Q)) ∧ (¬ (r_A S3_ 2469 x2.toNatClampNeg) < (r_A S3_ 2469 x3.toNatClampNeg) → (vp_in x3 (r_N 2469) ∧ (vp_in x2 (r_N 2469) ∧ ((¬ (r_A S3_ 2469 x3.toNatClampNeg) = (r_A S3_ 2469 x2.toNatClampNeg) → (rb_X12_nextOf_156 B73 S3_ x1 x2 x3 Q)) ∧ ((r_A S3_ 2469 x3.toNatClampNeg) = (r_A S3_ 2469 x2.toNatClampNeg) → (vp_in x3 (r_N 2476) ∧ (vp_in x2 (r_N 2476) ∧ (((r_A S3_ 2476 x2.toNatClampNeg) ≤ (r_A S3_ 2476 x3.toNatClampNeg) → (rb_X12_nextOf_156 B73 S3_ x1 x2 x3 Q)) ∧ (¬ (r_A S3_ 2476 x2.toNatClampNeg) ≤ (r_A S3_ 2476 x3.toNatClampNeg) → (rb_X12_nextOf_154 B73 S3_ x1 x3 Q)))))))))))))))) ∧ (¬ (r_A S3_ 2475 x3.toNatClampNeg) = 0 → (rb_X12_nextOf_156 B73 S3_ x1 x2 x3 Q))))))))))
set_option maxRecDepth 100000 in
set_option maxHeartbeats 4000000 in
theorem eb_X12_nextOf_73 {m : Nat} {ad : Nat → Nat} {fo : Nat → Option Nat} {st : Nat → Nat} {S0 : q_S} (w : r_WF m ad fo st S0) {OB73 : q_S → Nat → Int32 → Int32 → Int32 → Prop} {B73 : r_S → Int32 → Int32 → Int32 → Prop} (hB73 : ∀ (S : r_S) (y2 : Int32) (y3 : Int32) (y4 : Int32), (OB73 (r_E m fo S S0) m y2 y3 y4 ↔ B73 S y2 y3 y4)) (S : r_S) (x1 : Int32) (x2 : Int32) (x3 : Int32) (Q : Option Value → q_S → Prop) : wb_X12_nextOf_73 OB73 (r_E m fo S S0) m x1 x2 x3 Q ↔ rb_X12_nextOf_73 B73 S x1 x2 x3 (fun r S => Q r (r_E m fo S S0)) := by
  unfold wb_X12_nextOf_73 rb_X12_nextOf_73
  simp only [r_eK, r_eI, r_eIs, r_eP, r_eN, true_and, Option.some.injEq, exists_eq_left', r_all, w.1, r_w1 w 2467 rfl, r_w2 w 2467 21 rfl rfl, r_w3 w 2467 rfl, r_eA w 2467 rfl, r_eAs w 2467 rfl, r_w1 w 2469 rfl, r_w2 w 2469 21 rfl rfl, r_w3 w 2469 rfl, r_eA w 2469 rfl, r_eAs w 2469 rfl, r_w1 w 2475 rfl, r_w2 w 2475 22 rfl rfl, r_w3 w 2475 rfl, r_eA w 2475 rfl, r_eAs w 2475 rfl, r_w1 w 2476 rfl, r_w2 w 2476 21 rfl rfl, r_w3 w 2476 rfl, r_eA w 2476 rfl, r_eAs w 2476 rfl, eb_X12_nextOf_154 w hB73, eb_X12_nextOf_156 w hB73, em_X12_lastOf w, hB73]
def rl_X12_nextOf_73  : Nat → r_S → Int32 → Int32 → Int32 → (Option Value → r_S → Prop) → Prop
  | 0, _, _, _, _, _ => False
  | n + 1, S, x1, x2, x3, Q => rb_X12_nextOf_73 (fun S x1 x2 x3 => rl_X12_nextOf_73 n S x1 x2 x3 Q) S x1 x2 x3 Q
set_option maxRecDepth 100000 in
theorem el_X12_nextOf_73 {m : Nat} {ad : Nat → Nat} {fo : Nat → Option Nat} {st : Nat → Nat} {S0 : q_S} (w : r_WF m ad fo st S0)  (n : Nat) (S : r_S) (x1 : Int32) (x2 : Int32) (x3 : Int32) (Q : Option Value → q_S → Prop) : wl_X12_nextOf_73 n (r_E m fo S S0) m x1 x2 x3 Q ↔ rl_X12_nextOf_73 n S x1 x2 x3 (fun r S => Q r (r_E m fo S S0)) := by
  induction n generalizing S x1 x2 x3 with
  | zero => exact Iff.rfl
  | succ n ih => exact eb_X12_nextOf_73 w (fun _ _ _ _ => ih _ _ _ _) S x1 x2 x3 Q
def rb_X12_nextOf_50 (S : r_S) (x1 : Int32) (Q : Option Value → r_S → Prop) : Prop := vp_in x1 (r_N 2486) ∧ (((r_A S 2486 x1.toNatClampNeg) ≤ 0 → (∃ n39_ : Nat, rl_X12_nextOf_73 n39_ S x1 (-1 : Int32) ((16 : Int32) * x1) Q)) ∧ (¬ (r_A S 2486 x1.toNatClampNeg) ≤ 0 → (vp_in x1 (r_N 2487) ∧ (Q (some (.int (r_A S 2487 x1.toNatClampNeg))) S))))
set_option maxRecDepth 100000 in
set_option maxHeartbeats 4000000 in
theorem eb_X12_nextOf_50 {m : Nat} {ad : Nat → Nat} {fo : Nat → Option Nat} {st : Nat → Nat} {S0 : q_S} (w : r_WF m ad fo st S0)  (S : r_S) (x1 : Int32) (Q : Option Value → q_S → Prop) : wb_X12_nextOf_50 (r_E m fo S S0) m x1 Q ↔ rb_X12_nextOf_50 S x1 (fun r S => Q r (r_E m fo S S0)) := by
  unfold wb_X12_nextOf_50 rb_X12_nextOf_50
  simp only [r_eK, r_eI, r_eIs, r_eP, r_eN, true_and, Option.some.injEq, exists_eq_left', r_all, w.1, r_w1 w 2486 rfl, r_w2 w 2486 21 rfl rfl, r_w3 w 2486 rfl, r_eA w 2486 rfl, r_eAs w 2486 rfl, r_w1 w 2487 rfl, r_w2 w 2487 21 rfl rfl, r_w3 w 2487 rfl, r_eA w 2487 rfl, r_eAs w 2487 rfl, el_X12_nextOf_73 w]
def rm_X12_nextOf (S : r_S) (x1 : Int32) (Q : Option Value → r_S → Prop) : Prop := ((r_I S 2414) = 0 → (rb_X12_nextOf_16 S Q)) ∧ (¬ (r_I S 2414) = 0 → (vp_in x1 (r_N 2483) ∧ (((r_A S 2483 x1.toNatClampNeg) = 0 → (vp_in x1 (r_N 2442) ∧ (((r_A S 2442 x1.toNatClampNeg) = (-1 : Int32) → (rb_X12_nextOf_50 S x1 Q)) ∧ (¬ (r_A S 2442 x1.toNatClampNeg) = (-1 : Int32) → (vp_in x1 (r_N 2442) ∧ (vp_in (r_A S 2442 x1.toNatClampNeg) (r_N 2467) ∧ ((¬ (r_A S 2467 (r_A S 2442 x1.toNatClampNeg).toNatClampNeg) = (1 : Int32) → (rb_X12_nextOf_50 S x1 Q)) ∧ ((r_A S 2467 (r_A S 2442 x1.toNatClampNeg).toNatClampNeg) = (1 : Int32) → (vp_in x1 (r_N 2442) ∧ (Q (some (.int (r_A S 2442 x1.toNatClampNeg))) S)))))))))) ∧ (¬ (r_A S 2483 x1.toNatClampNeg) = 0 → (rb_X12_nextOf_16 S Q)))))
set_option maxRecDepth 100000 in
set_option maxHeartbeats 4000000 in
theorem em_X12_nextOf {m : Nat} {ad : Nat → Nat} {fo : Nat → Option Nat} {st : Nat → Nat} {S0 : q_S} (w : r_WF m ad fo st S0)  (S : r_S) (x1 : Int32) (Q : Option Value → q_S → Prop) : wm_X12_nextOf (r_E m fo S S0) m x1 Q ↔ rm_X12_nextOf S x1 (fun r S => Q r (r_E m fo S S0)) := by
  unfold wm_X12_nextOf rm_X12_nextOf
  simp only [r_eK, r_eI, r_eIs, r_eP, r_eN, true_and, Option.some.injEq, exists_eq_left', r_all, w.1, r_w1 w 2442 rfl, r_w2 w 2442 21 rfl rfl, r_w3 w 2442 rfl, r_eA w 2442 rfl, r_eAs w 2442 rfl, r_w1 w 2467 rfl, r_w2 w 2467 21 rfl rfl, r_w3 w 2467 rfl, r_eA w 2467 rfl, r_eAs w 2467 rfl, r_w1 w 2483 rfl, r_w2 w 2483 21 rfl rfl, r_w3 w 2483 rfl, r_eA w 2483 rfl, r_eAs w 2483 rfl, eb_X12_nextOf_16 w, eb_X12_nextOf_50 w]
def rb_X12_isWithin_21 (S : r_S) (xs0 : Int32) (Q : Option Value → r_S → Prop) : Prop := narrow .boolean (.int xs0) = .int xs0 ∧ Q (some (.int xs0)) S
set_option maxRecDepth 100000 in
set_option maxHeartbeats 4000000 in
theorem eb_X12_isWithin_21 {m : Nat} {ad : Nat → Nat} {fo : Nat → Option Nat} {st : Nat → Nat} {S0 : q_S} (w : r_WF m ad fo st S0)  (S : r_S) (xs0 : Int32) (Q : Option Value → q_S → Prop) : wb_X12_isWithin_21 (r_E m fo S S0) xs0 Q ↔ rb_X12_isWithin_21 S xs0 (fun r S => Q r (r_E m fo S S0)) := by
  unfold wb_X12_isWithin_21 rb_X12_isWithin_21
  simp only [r_eK, r_eI, r_eIs, r_eP, r_eN, true_and, Option.some.injEq, exists_eq_left', r_all, w.1]
def rb_X12_isWithin_20 (S : r_S) (Q : Option Value → r_S → Prop) : Prop := rb_X12_isWithin_21 S (0 : Int32) Q
set_option maxRecDepth 100000 in
set_option maxHeartbeats 4000000 in
theorem eb_X12_isWithin_20 {m : Nat} {ad : Nat → Nat} {fo : Nat → Option Nat} {st : Nat → Nat} {S0 : q_S} (w : r_WF m ad fo st S0)  (S : r_S) (Q : Option Value → q_S → Prop) : wb_X12_isWithin_20 (r_E m fo S S0) Q ↔ rb_X12_isWithin_20 S (fun r S => Q r (r_E m fo S S0)) := by
  unfold wb_X12_isWithin_20 rb_X12_isWithin_20
  simp only [r_eK, r_eI, r_eIs, r_eP, r_eN, true_and, Option.some.injEq, exists_eq_left', r_all, w.1, eb_X12_isWithin_21 w]
def rm_X12_isWithin (S : r_S) (x1 : Int32) (x2 : Int32) (x3 : Int32) (Q : Option Value → r_S → Prop) : Prop := (x2 < 0 → (rb_X12_isWithin_20 S Q)) ∧ (¬ x2 < 0 → (vp_in x1 (r_N 2425) ∧ ((((r_A S 2425 x1.toNatClampNeg) - x3) < x2 → (rb_X12_isWithin_20 S Q)) ∧ (¬ ((r_A S 2425 x1.toNatClampNeg) - x3) < x2 → (rb_X12_isWithin_21 S (1 : Int32) Q)))))
set_option maxRecDepth 100000 in
set_option maxHeartbeats 4000000 in
theorem em_X12_isWithin {m : Nat} {ad : Nat → Nat} {fo : Nat → Option Nat} {st : Nat → Nat} {S0 : q_S} (w : r_WF m ad fo st S0)  (S : r_S) (x1 : Int32) (x2 : Int32) (x3 : Int32) (Q : Option Value → q_S → Prop) : wm_X12_isWithin (r_E m fo S S0) m x1 x2 x3 Q ↔ rm_X12_isWithin S x1 x2 x3 (fun r S => Q r (r_E m fo S S0)) := by
  unfold wm_X12_isWithin rm_X12_isWithin
  simp only [r_eK, r_eI, r_eIs, r_eP, r_eN, true_and, Option.some.injEq, exists_eq_left', r_all, w.1, r_w1 w 2425 rfl, r_w2 w 2425 21 rfl rfl, r_w3 w 2425 rfl, r_eA w 2425 rfl, r_eAs w 2425 rfl, eb_X12_isWithin_20 w, eb_X12_isWithin_21 w]
def rb_X12_isIn_87 (B9 : r_S → Int32 → Int32 → Int32 → Int32 → Int32 → Prop) (S : r_S) (x1 : Int32) (x2 : Int32) (x3 : Int32) (x5 : Int32) (xs0 : Int32) (Q : Option Value → r_S → Prop) : Prop := B9 S x1 x2 x3 xs0 (x5 + 1)
set_option maxRecDepth 100000 in
set_option maxHeartbeats 4000000 in
theorem eb_X12_isIn_87 {m : Nat} {ad : Nat → Nat} {fo : Nat → Option Nat} {st : Nat → Nat} {S0 : q_S} (w : r_WF m ad fo st S0) {OB9 : q_S → Nat → Int32 → Int32 → Int32 → Int32 → Int32 → Prop} {B9 : r_S → Int32 → Int32 → Int32 → Int32 → Int32 → Prop} (hB9 : ∀ (S : r_S) (y2 : Int32) (y3 : Int32) (y4 : Int32) (y5 : Int32) (y6 : Int32), (OB9 (r_E m fo S S0) m y2 y3 y4 y5 y6 ↔ B9 S y2 y3 y4 y5 y6)) (S : r_S) (x1 : Int32) (x2 : Int32) (x3 : Int32) (x5 : Int32) (xs0 : Int32) (Q : Option Value → q_S → Prop) : wb_X12_isIn_87 OB9 (r_E m fo S S0) m x1 x2 x3 x5 xs0 Q ↔ rb_X12_isIn_87 B9 S x1 x2 x3 x5 xs0 (fun r S => Q r (r_E m fo S S0)) := by
  unfold wb_X12_isIn_87 rb_X12_isIn_87
  simp only [r_eK, r_eI, r_eIs, r_eP, r_eN, true_and, Option.some.injEq, exists_eq_left', r_all, w.1, hB9]
def rb_X12_isIn_82 (B9 : r_S → Int32 → Int32 → Int32 → Int32 → Int32 → Prop) (S : r_S) (x1 : Int32) (x2 : Int32) (x3 : Int32) (x5 : Int32) (Q : Option Value → r_S → Prop) : Prop := rb_X12_isIn_87 B9 S x1 x2 x3 x5 (1 : Int32) Q
set_option maxRecDepth 100000 in
set_option maxHeartbeats 4000000 in
theorem eb_X12_isIn_82 {m : Nat} {ad : Nat → Nat} {fo : Nat → Option Nat} {st : Nat → Nat} {S0 : q_S} (w : r_WF m ad fo st S0) {OB9 : q_S → Nat → Int32 → Int32 → Int32 → Int32 → Int32 → Prop} {B9 : r_S → Int32 → Int32 → Int32 → Int32 → Int32 → Prop} (hB9 : ∀ (S : r_S) (y2 : Int32) (y3 : Int32) (y4 : Int32) (y5 : Int32) (y6 : Int32), (OB9 (r_E m fo S S0) m y2 y3 y4 y5 y6 ↔ B9 S y2 y3 y4 y5 y6)) (S : r_S) (x1 : Int32) (x2 : Int32) (x3 : Int32) (x5 : Int32) (Q : Option Value → q_S → Prop) : wb_X12_isIn_82 OB9 (r_E m fo S S0) m x1 x2 x3 x5 Q ↔ rb_X12_isIn_82 B9 S x1 x2 x3 x5 (fun r S => Q r (r_E m fo S S0)) := by
  unfold wb_X12_isIn_82 rb_X12_isIn_82
  simp only [r_eK, r_eI, r_eIs, r_eP, r_eN, true_and, Option.some.injEq, exists_eq_left', r_all, w.1, eb_X12_isIn_87 w hB9, hB9]
def rb_X12_isIn_86 (B9 : r_S → Int32 → Int32 → Int32 → Int32 → Int32 → Prop) (S : r_S) (x1 : Int32) (x2 : Int32) (x3 : Int32) (x5 : Int32) (Q : Option Value → r_S → Prop) : Prop := rb_X12_isIn_87 B9 S x1 x2 x3 x5 (0 : Int32) Q
set_option maxRecDepth 100000 in
set_option maxHeartbeats 4000000 in
theorem eb_X12_isIn_86 {m : Nat} {ad : Nat → Nat} {fo : Nat → Option Nat} {st : Nat → Nat} {S0 : q_S} (w : r_WF m ad fo st S0) {OB9 : q_S → Nat → Int32 → Int32 → Int32 → Int32 → Int32 → Prop} {B9 : r_S → Int32 → Int32 → Int32 → Int32 → Int32 → Prop} (hB9 : ∀ (S : r_S) (y2 : Int32) (y3 : Int32) (y4 : Int32) (y5 : Int32) (y6 : Int32), (OB9 (r_E m fo S S0) m y2 y3 y4 y5 y6 ↔ B9 S y2 y3 y4 y5 y6)) (S : r_S) (x1 : Int32) (x2 : Int32) (x3 : Int32) (x5 : Int32) (Q : Option Value → q_S → Prop) : wb_X12_isIn_86 OB9 (r_E m fo S S0) m x1 x2 x3 x5 Q ↔ rb_X12_isIn_86 B9 S x1 x2 x3 x5 (fun r S => Q r (r_E m fo S S0)) := by
  unfold wb_X12_isIn_86 rb_X12_isIn_86
  simp only [r_eK, r_eI, r_eIs, r_eP, r_eN, true_and, Option.some.injEq, exists_eq_left', r_all, w.1, eb_X12_isIn_87 w hB9, hB9]
def rb_X12_isIn_9 (B9 : r_S → Int32 → Int32 → Int32 → Int32 → Int32 → Prop) (S : r_S) (x1 : Int32) (x2 : Int32) (x3 : Int32) (x4 : Int32) (x5 : Int32) (Q : Option Value → r_S → Prop) : Prop := vp_in x1 (r_N 2426) ∧ (((((6 : Int32) * x1) + (r_A S 2426 x1.toNatClampNeg)) ≤ x5 → (narrow .boolean (.int x4) = .int x4 ∧ Q (some (.int x4)) S)) ∧ (¬ (((6 : Int32) * x1) + (r_A S 2426 x1.toNatClampNeg)) ≤ x5 → ((¬ x4 = 0 → (rb_X12_isIn_82 B9 S x1 x2 x3 x5 Q)) ∧ (x4 = 0 → (vp_in x5 (r_N 2427) ∧ ((x2 < (r_A S 2427 x5.toNatClampNeg) → (rb_X12_isIn_86 B9 S x1 x2 x3 x5 Q)) ∧ (¬ x2 < (r_A S 2427 x5.toNatClampNeg) → (vp_in x5 (r_N 2427) ∧ (vp_in x5 (r_N 2428) ∧ ((((r_A S 2427 x5.toNatClampNeg) + (r_A S 2428 x5.toNatClampNeg)) ≤ x2 → (rb_X12_isIn_86 B9 S x1 x2 x3 x5 Q)) ∧ (¬ ((r_A S 2427 x5.toNatClampNeg) + (r_A S 2428 x5.toNatClampNeg)) ≤ x2 → (vp_in x5 (r_N 2429) ∧ (((r_A S 2429 x5.toNatClampNeg) = x3 → (rb_X12_isIn_82 B9 S x1 x2 x3 x5 Q)) ∧ (¬ (r_A S 2429 x5.toNatClampNeg) = x3 → (vp_in x5 (r_N 2429) ∧ ((¬ (r_A S 2429 x5.toNatClampNeg) = (3 : Int32) → (rb_X12_isIn_86 B9 S x1 x2 x3 x5 Q)) ∧ ((r_A S 2429 x5.toNatClampNeg) = (3 : Int32) → (rb_X12_isIn_82 B9 S x1 x2 x3 x5 Q))))))))))))))))))
set_option maxRecDepth 100000 in
set_option maxHeartbeats 4000000 in
theorem eb_X12_isIn_9 {m : Nat} {ad : Nat → Nat} {fo : Nat → Option Nat} {st : Nat → Nat} {S0 : q_S} (w : r_WF m ad fo st S0) {OB9 : q_S → Nat → Int32 → Int32 → Int32 → Int32 → Int32 → Prop} {B9 : r_S → Int32 → Int32 → Int32 → Int32 → Int32 → Prop} (hB9 : ∀ (S : r_S) (y2 : Int32) (y3 : Int32) (y4 : Int32) (y5 : Int32) (y6 : Int32), (OB9 (r_E m fo S S0) m y2 y3 y4 y5 y6 ↔ B9 S y2 y3 y4 y5 y6)) (S : r_S) (x1 : Int32) (x2 : Int32) (x3 : Int32) (x4 : Int32) (x5 : Int32) (Q : Option Value → q_S → Prop) : wb_X12_isIn_9 OB9 (r_E m fo S S0) m x1 x2 x3 x4 x5 Q ↔ rb_X12_isIn_9 B9 S x1 x2 x3 x4 x5 (fun r S => Q r (r_E m fo S S0)) := by
  unfold wb_X12_isIn_9 rb_X12_isIn_9
  simp only [r_eK, r_eI, r_eIs, r_eP, r_eN, true_and, Option.some.injEq, exists_eq_left', r_all, w.1, r_w1 w 2426 rfl, r_w2 w 2426 21 rfl rfl, r_w3 w 2426 rfl, r_eA w 2426 rfl, r_eAs w 2426 rfl, r_w1 w 2427 rfl, r_w2 w 2427 21 rfl rfl, r_w3 w 2427 rfl, r_eA w 2427 rfl, r_eAs w 2427 rfl, r_w1 w 2428 rfl, r_w2 w 2428 21 rfl rfl, r_w3 w 2428 rfl, r_eA w 2428 rfl, r_eAs w 2428 rfl, r_w1 w 2429 rfl, r_w2 w 2429 21 rfl rfl, r_w3 w 2429 rfl, r_eA w 2429 rfl, r_eAs w 2429 rfl, eb_X12_isIn_82 w hB9, eb_X12_isIn_86 w hB9, hB9]
def rl_X12_isIn_9  : Nat → r_S → Int32 → Int32 → Int32 → Int32 → Int32 → (Option Value → r_S → Prop) → Prop
  | 0, _, _, _, _, _, _, _ => False
  | n + 1, S, x1, x2, x3, x4, x5, Q => rb_X12_isIn_9 (fun S x1 x2 x3 x4 x5 => rl_X12_isIn_9 n S x1 x2 x3 x4 x5 Q) S x1 x2 x3 x4 x5 Q
set_option maxRecDepth 100000 in
theorem el_X12_isIn_9 {m : Nat} {ad : Nat → Nat} {fo : Nat → Option Nat} {st : Nat → Nat} {S0 : q_S} (w : r_WF m ad fo st S0)  (n : Nat) (S : r_S) (x1 : Int32) (x2 : Int32) (x3 : Int32) (x4 : Int32) (x5 : Int32) (Q : Option Value → q_S → Prop) : wl_X12_isIn_9 n (r_E m fo S S0) m x1 x2 x3 x4 x5 Q ↔ rl_X12_isIn_9 n S x1 x2 x3 x4 x5 (fun r S => Q r (r_E m fo S S0)) := by
  induction n generalizing S x1 x2 x3 x4 x5 with
  | zero => exact Iff.rfl
  | succ n ih => exact eb_X12_isIn_9 w (fun _ _ _ _ _ _ => ih _ _ _ _ _ _) S x1 x2 x3 x4 x5 Q
def rm_X12_isIn (S : r_S) (x1 : Int32) (x2 : Int32) (x3 : Int32) (Q : Option Value → r_S → Prop) : Prop := ∃ n26_ : Nat, rl_X12_isIn_9 n26_ S x1 x2 x3 (0 : Int32) ((6 : Int32) * x1) Q
set_option maxRecDepth 100000 in
set_option maxHeartbeats 4000000 in
theorem em_X12_isIn {m : Nat} {ad : Nat → Nat} {fo : Nat → Option Nat} {st : Nat → Nat} {S0 : q_S} (w : r_WF m ad fo st S0)  (S : r_S) (x1 : Int32) (x2 : Int32) (x3 : Int32) (Q : Option Value → q_S → Prop) : wm_X12_isIn (r_E m fo S S0) m x1 x2 x3 Q ↔ rm_X12_isIn S x1 x2 x3 (fun r S => Q r (r_E m fo S S0)) := by
  unfold wm_X12_isIn rm_X12_isIn
  simp only [r_eK, r_eI, r_eIs, r_eP, r_eN, true_and, Option.some.injEq, exists_eq_left', r_all, w.1, el_X12_isIn_9 w]
def rb_X12_read_8 (B8 : r_S → Int32 → Int32 → Int32 → Int32 → Prop) (S : r_S) (x1 : Int32) (x2 : Int32) (x4 : Int32) (x5 : Int32) (Q : Option Value → r_S → Prop) : Prop := (x5 < 0 → (Q (some (.int x4)) S)) ∧ (¬ x5 < 0 → (vp_in ((((8192 : Int32) * x1) + x2) + x5) (r_N 2466) ∧ (B8 S x1 x2 ((x4 <<< ((8 : Int32) &&& 31)) ||| ((r_A S 2466 ((((8192 : Int32) * x1) + x2) + x5).toNatClampNeg) &&& (255 : Int32))) (x5 + (-1)))))
set_option maxRecDepth 100000 in
set_option maxHeartbeats 4000000 in
theorem eb_X12_read_8 {m : Nat} {ad : Nat → Nat} {fo : Nat → Option Nat} {st : Nat → Nat} {S0 : q_S} (w : r_WF m ad fo st S0) {OB8 : q_S → Nat → Int32 → Int32 → Int32 → Int32 → Prop} {B8 : r_S → Int32 → Int32 → Int32 → Int32 → Prop} (hB8 : ∀ (S : r_S) (y2 : Int32) (y3 : Int32) (y4 : Int32) (y5 : Int32), (OB8 (r_E m fo S S0) m y2 y3 y4 y5 ↔ B8 S y2 y3 y4 y5)) (S : r_S) (x1 : Int32) (x2 : Int32) (x4 : Int32) (x5 : Int32) (Q : Option Value → q_S → Prop) : wb_X12_read_8 OB8 (r_E m fo S S0) m x1 x2 x4 x5 Q ↔ rb_X12_read_8 B8 S x1 x2 x4 x5 (fun r S => Q r (r_E m fo S S0)) := by
  unfold wb_X12_read_8 rb_X12_read_8
  simp only [r_eK, r_eI, r_eIs, r_eP, r_eN, true_and, Option.some.injEq, exists_eq_left', r_all, w.1, r_w1 w 2466 rfl, r_w2 w 2466 20 rfl rfl, r_w3 w 2466 rfl, r_eA w 2466 rfl, r_eAs w 2466 rfl, hB8]
def rl_X12_read_8  : Nat → r_S → Int32 → Int32 → Int32 → Int32 → (Option Value → r_S → Prop) → Prop
  | 0, _, _, _, _, _, _ => False
  | n + 1, S, x1, x2, x4, x5, Q => rb_X12_read_8 (fun S x1 x2 x4 x5 => rl_X12_read_8 n S x1 x2 x4 x5 Q) S x1 x2 x4 x5 Q
set_option maxRecDepth 100000 in
theorem el_X12_read_8 {m : Nat} {ad : Nat → Nat} {fo : Nat → Option Nat} {st : Nat → Nat} {S0 : q_S} (w : r_WF m ad fo st S0)  (n : Nat) (S : r_S) (x1 : Int32) (x2 : Int32) (x4 : Int32) (x5 : Int32) (Q : Option Value → q_S → Prop) : wl_X12_read_8 n (r_E m fo S S0) m x1 x2 x4 x5 Q ↔ rl_X12_read_8 n S x1 x2 x4 x5 (fun r S => Q r (r_E m fo S S0)) := by
  induction n generalizing S x1 x2 x4 x5 with
  | zero => exact Iff.rfl
  | succ n ih => exact eb_X12_read_8 w (fun _ _ _ _ _ => ih _ _ _ _ _) S x1 x2 x4 x5 Q
def rm_X12_read (S : r_S) (x1 : Int32) (x2 : Int32) (x3 : Int32) (Q : Option Value → r_S → Prop) : Prop := ∃ n7_ : Nat, rl_X12_read_8 n7_ S x1 x2 (0 : Int32) (x3 - (1 : Int32)) Q
set_option maxRecDepth 100000 in
set_option maxHeartbeats 4000000 in
theorem em_X12_read {m : Nat} {ad : Nat → Nat} {fo : Nat → Option Nat} {st : Nat → Nat} {S0 : q_S} (w : r_WF m ad fo st S0)  (S : r_S) (x1 : Int32) (x2 : Int32) (x3 : Int32) (Q : Option Value → q_S → Prop) : wm_X12_read (r_E m fo S S0) m x1 x2 x3 Q ↔ rm_X12_read S x1 x2 x3 (fun r S => Q r (r_E m fo S S0)) := by
  unfold wm_X12_read rm_X12_read
  simp only [r_eK, r_eI, r_eIs, r_eP, r_eN, true_and, Option.some.injEq, exists_eq_left', r_all, w.1, el_X12_read_8 w]
def rb_X12_set_16 (S : r_S) (Q : Option Value → r_S → Prop) : Prop := Q none S
set_option maxRecDepth 100000 in
set_option maxHeartbeats 4000000 in
theorem eb_X12_set_16 {m : Nat} {ad : Nat → Nat} {fo : Nat → Option Nat} {st : Nat → Nat} {S0 : q_S} (w : r_WF m ad fo st S0)  (S : r_S) (Q : Option Value → q_S → Prop) : wb_X12_set_16 (r_E m fo S S0) Q ↔ rb_X12_set_16 S (fun r S => Q r (r_E m fo S S0)) := by
  unfold wb_X12_set_16 rb_X12_set_16
  simp only [r_eK, r_eI, r_eIs, r_eP, r_eN, true_and, Option.some.injEq, exists_eq_left', r_all, w.1]
def rm_X12_set (S : r_S) (x1 : Int32) (x2 : Int32) (x3 : Int32) (Q : Option Value → r_S → Prop) : Prop := (x2 ≤ 0 → (rb_X12_set_16 S Q)) ∧ (¬ x2 ≤ 0 → (vp_in (((32 : Int32) * x1) + x2) (r_N 2477) ∧ (rb_X12_set_16 (rs_A S 2477 (((32 : Int32) * x1) + x2).toNatClampNeg x3) Q)))
set_option maxRecDepth 100000 in
set_option maxHeartbeats 4000000 in
theorem em_X12_set {m : Nat} {ad : Nat → Nat} {fo : Nat → Option Nat} {st : Nat → Nat} {S0 : q_S} (w : r_WF m ad fo st S0)  (S : r_S) (x1 : Int32) (x2 : Int32) (x3 : Int32) (Q : Option Value → q_S → Prop) : wm_X12_set (r_E m fo S S0) m x1 x2 x3 Q ↔ rm_X12_set S x1 x2 x3 (fun r S => Q r (r_E m fo S S0)) := by
  unfold wm_X12_set rm_X12_set
  simp only [r_eK, r_eI, r_eIs, r_eP, r_eN, true_and, Option.some.injEq, exists_eq_left', r_all, w.1, r_w1 w 2477 rfl, r_w2 w 2477 21 rfl rfl, r_w3 w 2477 rfl, r_eA w 2477 rfl, r_eAs w 2477 rfl, eb_X12_set_16 w]
def rb_X12_isBelow_18 (S : r_S) (xs0 : Int32) (Q : Option Value → r_S → Prop) : Prop := narrow .boolean (.int xs0) = .int xs0 ∧ Q (some (.int xs0)) S
set_option maxRecDepth 100000 in
set_option maxHeartbeats 4000000 in
theorem eb_X12_isBelow_18 {m : Nat} {ad : Nat → Nat} {fo : Nat → Option Nat} {st : Nat → Nat} {S0 : q_S} (w : r_WF m ad fo st S0)  (S : r_S) (xs0 : Int32) (Q : Option Value → q_S → Prop) : wb_X12_isBelow_18 (r_E m fo S S0) xs0 Q ↔ rb_X12_isBelow_18 S xs0 (fun r S => Q r (r_E m fo S S0)) := by
  unfold wb_X12_isBelow_18 rb_X12_isBelow_18
  simp only [r_eK, r_eI, r_eIs, r_eP, r_eN, true_and, Option.some.injEq, exists_eq_left', r_all, w.1]
def rm_X12_isBelow (S : r_S) (x1 : Int32) (x2 : Int32) (Q : Option Value → r_S → Prop) : Prop := ((x2 + (-2147483648 : Int32)) ≤ (x1 + (-2147483648 : Int32)) → (rb_X12_isBelow_18 S (0 : Int32) Q)) ∧ (¬ (x2 + (-2147483648 : Int32)) ≤ (x1 + (-2147483648 : Int32)) → (rb_X12_isBelow_18 S (1 : Int32) Q))
set_option maxRecDepth 100000 in
set_option maxHeartbeats 4000000 in
theorem em_X12_isBelow {m : Nat} {ad : Nat → Nat} {fo : Nat → Option Nat} {st : Nat → Nat} {S0 : q_S} (w : r_WF m ad fo st S0)  (S : r_S) (x1 : Int32) (x2 : Int32) (Q : Option Value → q_S → Prop) : wm_X12_isBelow (r_E m fo S S0) m x1 x2 Q ↔ rm_X12_isBelow S x1 x2 (fun r S => Q r (r_E m fo S S0)) := by
  unfold wm_X12_isBelow rm_X12_isBelow
  simp only [r_eK, r_eI, r_eIs, r_eP, r_eN, true_and, Option.some.injEq, exists_eq_left', r_all, w.1, eb_X12_isBelow_18 w]
def rb_X12_load__95 (S : r_S) (x2 : Int32) (xs1 : Int32) (xs2 : Int32) (xs3 : Int32) (Q : Option Value → r_S → Prop) : Prop := rm_X12_set S xs1 xs2 xs3 (fun r2_ S3_ => r2_ = none ∧ (vp_in x2 (r_N 2468) ∧ (vp_in x2 (r_N 2468) ∧ (Q none (rs_A S3_ 2468 x2.toNatClampNeg ((r_A S3_ 2468 x2.toNatClampNeg) + (4 : Int32)))))))
set_option maxRecDepth 100000 in
set_option maxHeartbeats 4000000 in
theorem eb_X12_load__95 {m : Nat} {ad : Nat → Nat} {fo : Nat → Option Nat} {st : Nat → Nat} {S0 : q_S} (w : r_WF m ad fo st S0)  (S : r_S) (x2 : Int32) (xs1 : Int32) (xs2 : Int32) (xs3 : Int32) (Q : Option Value → q_S → Prop) : wb_X12_load__95 (r_E m fo S S0) m x2 m xs1 xs2 xs3 Q ↔ rb_X12_load__95 S x2 xs1 xs2 xs3 (fun r S => Q r (r_E m fo S S0)) := by
  unfold wb_X12_load__95 rb_X12_load__95
  simp only [r_eK, r_eI, r_eIs, r_eP, r_eN, true_and, Option.some.injEq, exists_eq_left', r_all, w.1, r_w1 w 2468 rfl, r_w2 w 2468 21 rfl rfl, r_w3 w 2468 rfl, r_eA w 2468 rfl, r_eAs w 2468 rfl, em_X12_set w]
def rm_X12_load_ (S : r_S) (x1 : Int32) (x2 : Int32) (x3 : Int32) (x4 : Int32) (x5 : Int32) (Q : Option Value → r_S → Prop) : Prop := (¬ ((1 : Int32) <<< ((x4 &&& (3 : Int32)) &&& 31)) = 0) ∧ (((x5 - x5 / ((1 : Int32) <<< ((x4 &&& (3 : Int32)) &&& 31)) * ((1 : Int32) <<< ((x4 &&& (3 : Int32)) &&& 31))) = 0 → (rm_X12_isWithin S x1 x5 ((1 : Int32) <<< ((x4 &&& (3 : Int32)) &&& 31)) (fun r13_ S14_ => ∃ x15_ : Int32, r13_ = some (.int x15_) ∧ ((¬ x15_ = 0 → (rm_X12_read S14_ x1 x5 ((1 : Int32) <<< ((x4 &&& (3 : Int32)) &&& 31)) (fun r18_ S19_ => ∃ x20_ : Int32, r18_ = some (.int x20_) ∧ ((¬ x4 = 0 → ((¬ x4 = (1 : Int32) → (rb_X12_load__95 S19_ x2 x2 x3 x20_ Q)) ∧ (x4 = (1 : Int32) → (rb_X12_load__95 S19_ x2 x2 x3 ((x20_ <<< ((16 : Int32) &&& 31)) >>> ((16 : Int32) &&& 31)) Q)))) ∧ (x4 = 0 → (rb_X12_load__95 S19_ x2 x2 x3 ((x20_ <<< ((24 : Int32) &&& 31)) >>> ((24 : Int32) &&& 31)) Q)))))) ∧ (x15_ = 0 → (rm_X12_fails S14_ x2 (1 : Int32) x5 (fun r24_ S25_ => r24_ = none ∧ (Q none S25_)))))))) ∧ (¬ (x5 - x5 / ((1 : Int32) <<< ((x4 &&& (3 : Int32)) &&& 31)) * ((1 : Int32) <<< ((x4 &&& (3 : Int32)) &&& 31))) = 0 → (rm_X12_fails S x2 (4 : Int32) x5 (fun r27_ S28_ => r27_ = none ∧ (Q none S28_)))))
set_option maxRecDepth 100000 in
set_option maxHeartbeats 4000000 in
theorem em_X12_load_ {m : Nat} {ad : Nat → Nat} {fo : Nat → Option Nat} {st : Nat → Nat} {S0 : q_S} (w : r_WF m ad fo st S0)  (S : r_S) (x1 : Int32) (x2 : Int32) (x3 : Int32) (x4 : Int32) (x5 : Int32) (Q : Option Value → q_S → Prop) : wm_X12_load_ (r_E m fo S S0) m x1 x2 x3 x4 x5 Q ↔ rm_X12_load_ S x1 x2 x3 x4 x5 (fun r S => Q r (r_E m fo S S0)) := by
  unfold wm_X12_load_ rm_X12_load_
  simp only [r_eK, r_eI, r_eIs, r_eP, r_eN, true_and, Option.some.injEq, exists_eq_left', r_all, w.1, eb_X12_load__95 w, em_X12_fails w, em_X12_isWithin w, em_X12_read w]
