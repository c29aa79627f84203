def rb_X12_tick_84 (B7 : r_S → Int32 → Prop) (S : r_S) (x1 : Int32) (Q : Option Value → r_S → Prop) : Prop := B7 S (x1 + 1)
set_option maxRecDepth 100000 in
set_option maxHeartbeats 4000000 in
theorem eb_X12_tick_84 {m : Nat} {ad : Nat → Nat} {fo : Nat → Option Nat} {st : Nat → Nat} {S0 : q_S} (w : r_WF m ad fo st S0) {OB7 : q_S → Nat → Int32 → Prop} {B7 : r_S → Int32 → Prop} (hB7 : ∀ (S : r_S) (y2 : Int32), (OB7 (r_E m fo S S0) m y2 ↔ B7 S y2)) (S : r_S) (x1 : Int32) (Q : Option Value → q_S → Prop) : wb_X12_tick_84 OB7 (r_E m fo S S0) m x1 Q ↔ rb_X12_tick_84 B7 S x1 (fun r S => Q r (r_E m fo S S0)) := by
  unfold wb_X12_tick_84 rb_X12_tick_84
  simp only [r_eK, r_eI, r_eIs, r_eP, r_eN, true_and, Option.some.injEq, exists_eq_left', r_all, w.1, hB7]
def rb_X12_tick_114 (S : r_S) (Q : Option Value → r_S → Prop) : Prop := Q none (rs_I S 2463 ((r_I S 2463) + (1 : Int32)))
set_option maxRecDepth 100000 in
set_option maxHeartbeats 4000000 in
theorem eb_X12_tick_114 {m : Nat} {ad : Nat → Nat} {fo : Nat → Option Nat} {st : Nat → Nat} {S0 : q_S} (w : r_WF m ad fo st S0)  (S : r_S) (Q : Option Value → q_S → Prop) : wb_X12_tick_114 (r_E m fo S S0) m Q ↔ rb_X12_tick_114 S (fun r S => Q r (r_E m fo S S0)) := by
  unfold wb_X12_tick_114 rb_X12_tick_114
  simp only [r_eK, r_eI, r_eIs, r_eP, r_eN, true_and, Option.some.injEq, exists_eq_left', r_all, w.1]
def rb_X12_tick_7 (B7 : r_S → Int32 → Prop) (S : r_S) (x1 : Int32) (Q : Option Value → r_S → Prop) : Prop := ((r_I S 2418) ≤ x1 → (rm_X12_window S (fun r4_ S5_ => ∃ x6_ : Int32, r4_ = some (.int x6_) ∧ (vp_in x6_ (r_N 2461) ∧ (vp_in (r_A S5_ 2461 x6_.toNatClampNeg) (r_N 2483) ∧ ((¬ (r_A S5_ 2483 (r_A S5_ 2461 x6_.toNatClampNeg).toNatClampNeg) = 0 → (rb_X12_tick_114 S5_ Q)) ∧ ((r_A S5_ 2483 (r_A S5_ 2461 x6_.toNatClampNeg).toNatClampNeg) = 0 → (rm_X12_works S5_ (r_A S5_ 2461 x6_.toNatClampNeg) (fun r17_ S18_ => r17_ = none ∧ (rb_X12_tick_114 S18_ Q)))))))))) ∧ (¬ (r_I S 2418) ≤ x1 → (vp_in x1 (r_N 2505) ∧ (vp_in x1 (r_N 2505) ∧ (vp_in x1 (r_N 2504) ∧ (((r_A S 2505 x1.toNatClampNeg) = (r_A S 2504 x1.toNatClampNeg) → (rb_X12_tick_84 B7 S x1 Q)) ∧ (¬ (r_A S 2505 x1.toNatClampNeg) = (r_A S 2504 x1.toNatClampNeg) → (vp_in (((60 : Int32) * x1) + (r_A S 2505 x1.toNatClampNeg)) (r_N 2506) ∧ (((r_A S 2506 (((60 : Int32) * x1) + (r_A S 2505 x1.toNatClampNeg)).toNatClampNeg) = (r_I S 2463) → (vp_in x1 (r_N 2505) ∧ (vp_in x1 (r_N 2505) ∧ (vp_in x1 (r_N 2460) ∧ (vp_in (((60 : Int32) * x1) + (r_A S 2505 x1.toNatClampNeg)) (r_N 2507) ∧ (rm_X12_comes (rs_A S 2505 x1.toNatClampNeg ((r_A S 2505 x1.toNatClampNeg) + (1 : Int32))) (r_A (rs_A S 2505 x1.toNatClampNeg ((r_A S 2505 x1.toNatClampNeg) + (1 : Int32))) 2460 x1.toNatClampNeg) (r_A (rs_A S 2505 x1.toNatClampNeg ((r_A S 2505 x1.toNatClampNeg) + (1 : Int32))) 2507 (((60 : Int32) * x1) + (r_A S 2505 x1.toNatClampNeg)).toNatClampNeg) (fun r44_ S45_ => r44_ = none ∧ (rb_X12_tick_84 B7 S45_ x1 Q)))))))) ∧ (¬ (r_A S 2506 (((60 : Int32) * x1) + (r_A S 2505 x1.toNatClampNeg)).toNatClampNeg) = (r_I S 2463) → (rb_X12_tick_84 B7 S x1 Q))))))))))
set_option maxRecDepth 100000 in
set_option maxHeartbeats 4000000 in
theorem eb_X12_tick_7 {m : Nat} {ad : Nat → Nat} {fo : Nat → Option Nat} {st : Nat → Nat} {S0 : q_S} (w : r_WF m ad fo st S0) {OB7 : q_S → Nat → Int32 → Prop} {B7 : r_S → Int32 → Prop} (hB7 : ∀ (S : r_S) (y2 : Int32), (OB7 (r_E m fo S S0) m y2 ↔ B7 S y2)) (S : r_S) (x1 : Int32) (Q : Option Value → q_S → Prop) : wb_X12_tick_7 OB7 (r_E m fo S S0) m x1 Q ↔ rb_X12_tick_7 B7 S x1 (fun r S => Q r (r_E m fo S S0)) := by
  unfold wb_X12_tick_7 rb_X12_tick_7
  simp only [r_eK, r_eI, r_eIs, r_eP, r_eN, true_and, Option.some.injEq, exists_eq_left', r_all, w.1, r_w1 w 2460 rfl, r_w2 w 2460 21 rfl rfl, r_w3 w 2460 rfl, r_eA w 2460 rfl, r_eAs w 2460 rfl, r_w1 w 2461 rfl, r_w2 w 2461 21 rfl rfl, r_w3 w 2461 rfl, r_eA w 2461 rfl, r_eAs w 2461 rfl, r_w1 w 2483 rfl, r_w2 w 2483 21 rfl rfl, r_w3 w 2483 rfl, r_eA w 2483 rfl, r_eAs w 2483 rfl, r_w1 w 2504 rfl, r_w2 w 2504 21 rfl rfl, r_w3 w 2504 rfl, r_eA w 2504 rfl, r_eAs w 2504 rfl, r_w1 w 2505 rfl, r_w2 w 2505 21 rfl rfl, r_w3 w 2505 rfl, r_eA w 2505 rfl, r_eAs w 2505 rfl, r_w1 w 2506 rfl, r_w2 w 2506 21 rfl rfl, r_w3 w 2506 rfl, r_eA w 2506 rfl, r_eAs w 2506 rfl, r_w1 w 2507 rfl, r_w2 w 2507 21 rfl rfl, r_w3 w 2507 rfl, r_eA w 2507 rfl, r_eAs w 2507 rfl, eb_X12_tick_114 w, eb_X12_tick_84 w hB7, em_X12_comes w, em_X12_window w, em_X12_works w, hB7]
def rl_X12_tick_7  : Nat → r_S → Int32 → (Option Value → r_S → Prop) → Prop
  | 0, _, _, _ => False
  | n + 1, S, x1, Q => rb_X12_tick_7 (fun S x1 => rl_X12_tick_7 n S x1 Q) S x1 Q
set_option maxRecDepth 100000 in
theorem el_X12_tick_7 {m : Nat} {ad : Nat → Nat} {fo : Nat → Option Nat} {st : Nat → Nat} {S0 : q_S} (w : r_WF m ad fo st S0)  (n : Nat) (S : r_S) (x1 : Int32) (Q : Option Value → q_S → Prop) : wl_X12_tick_7 n (r_E m fo S S0) m x1 Q ↔ rl_X12_tick_7 n S x1 (fun r S => Q r (r_E m fo S S0)) := by
  induction n generalizing S x1 with
  | zero => exact Iff.rfl
  | succ n ih => exact eb_X12_tick_7 w (fun _ _ => ih _ _) S x1 Q
def rm_X12_tick (S : r_S) (Q : Option Value → r_S → Prop) : Prop := ∃ n47_ : Nat, rl_X12_tick_7 n47_ (rs_I S 2513 (0 : Int32)) (0 : Int32) Q
set_option maxRecDepth 100000 in
set_option maxHeartbeats 4000000 in
theorem em_X12_tick {m : Nat} {ad : Nat → Nat} {fo : Nat → Option Nat} {st : Nat → Nat} {S0 : q_S} (w : r_WF m ad fo st S0)  (S : r_S) (Q : Option Value → q_S → Prop) : wm_X12_tick (r_E m fo S S0) m Q ↔ rm_X12_tick S (fun r S => Q r (r_E m fo S S0)) := by
  unfold wm_X12_tick rm_X12_tick
  simp only [r_eK, r_eI, r_eIs, r_eP, r_eN, true_and, Option.some.injEq, exists_eq_left', r_all, w.1, el_X12_tick_7 w]
def rb_X12_run_47 (B47 : r_S → Int32 → Int32 → Int32 → Prop) (S : r_S) (x1 : Int32) (x2 : Int32) (x3 : Int32) (Q : Option Value → r_S → Prop) : Prop := (x1 ≤ x3 → (Q (some (.int ((r_I S 2510) - x2))) S)) ∧ (¬ x1 ≤ x3 → (rm_X12_tick S (fun r4_ S5_ => r4_ = none ∧ (B47 S5_ x1 x2 (x3 + 1)))))
set_option maxRecDepth 100000 in
set_option maxHeartbeats 4000000 in
theorem eb_X12_run_47 {m : Nat} {ad : Nat → Nat} {fo : Nat → Option Nat} {st : Nat → Nat} {S0 : q_S} (w : r_WF m ad fo st S0) {OB47 : q_S → Nat → Int32 → Int32 → Int32 → Prop} {B47 : r_S → Int32 → Int32 → Int32 → Prop} (hB47 : ∀ (S : r_S) (y2 : Int32) (y3 : Int32) (y4 : Int32), (OB47 (r_E m fo S S0) m y2 y3 y4 ↔ B47 S y2 y3 y4)) (S : r_S) (x1 : Int32) (x2 : Int32) (x3 : Int32) (Q : Option Value → q_S → Prop) : wb_X12_run_47 OB47 (r_E m fo S S0) m x1 x2 x3 Q ↔ rb_X12_run_47 B47 S x1 x2 x3 (fun r S => Q r (r_E m fo S S0)) := by
  unfold wb_X12_run_47 rb_X12_run_47
  simp only [r_eK, r_eI, r_eIs, r_eP, r_eN, true_and, Option.some.injEq, exists_eq_left', r_all, w.1, em_X12_tick w, hB47]
def rl_X12_run_47  : Nat → r_S → Int32 → Int32 → Int32 → (Option Value → r_S → Prop) → Prop
  | 0, _, _, _, _, _ => False
  | n + 1, S, x1, x2, x3, Q => rb_X12_run_47 (fun S x1 x2 x3 => rl_X12_run_47 n S x1 x2 x3 Q) S x1 x2 x3 Q
set_option maxRecDepth 100000 in
theorem el_X12_run_47 {m : Nat} {ad : Nat → Nat} {fo : Nat → Option Nat} {st : Nat → Nat} {S0 : q_S} (w : r_WF m ad fo st S0)  (n : Nat) (S : r_S) (x1 : Int32) (x2 : Int32) (x3 : Int32) (Q : Option Value → q_S → Prop) : wl_X12_run_47 n (r_E m fo S S0) m x1 x2 x3 Q ↔ rl_X12_run_47 n S x1 x2 x3 (fun r S => Q r (r_E m fo S S0)) := by
  induction n generalizing S x1 x2 x3 with
  | zero => exact Iff.rfl
  | succ n ih => exact eb_X12_run_47 w (fun _ _ _ _ => ih _ _ _ _) S x1 x2 x3 Q
def rb_X12_run_28 (S : r_S) (x1 : Int32) (xs1 : Int32) (Q : Option Value → r_S → Prop) : Prop := ((r_I (rs_I S 2400 xs1) 2400) ≤ 0 → (∃ n9_ : Nat, rl_X12_run_47 n9_ (rs_I S 2400 xs1) x1 (r_I (rs_I S 2400 xs1) 2510) (0 : Int32) Q)) ∧ (¬ (r_I (rs_I S 2400 xs1) 2400) ≤ 0 → (Q (some (.int (0 : Int32))) (rs_I S 2400 xs1)))
set_option maxRecDepth 100000 in
set_option maxHeartbeats 4000000 in
theorem eb_X12_run_28 {m : Nat} {ad : Nat → Nat} {fo : Nat → Option Nat} {st : Nat → Nat} {S0 : q_S} (w : r_WF m ad fo st S0)  (S : r_S) (x1 : Int32) (xs1 : Int32) (Q : Option Value → q_S → Prop) : wb_X12_run_28 (r_E m fo S S0) m x1 m xs1 Q ↔ rb_X12_run_28 S x1 xs1 (fun r S => Q r (r_E m fo S S0)) := by
  unfold wb_X12_run_28 rb_X12_run_28
  simp only [r_eK, r_eI, r_eIs, r_eP, r_eN, true_and, Option.some.injEq, exists_eq_left', r_all, w.1, el_X12_run_47 w]
def rb_X12_run_23 (S : r_S) (x1 : Int32) (Q : Option Value → r_S → Prop) : Prop := rb_X12_run_28 S x1 (2 : Int32) Q
set_option maxRecDepth 100000 in
set_option maxHeartbeats 4000000 in
theorem eb_X12_run_23 {m : Nat} {ad : Nat → Nat} {fo : Nat → Option Nat} {st : Nat → Nat} {S0 : q_S} (w : r_WF m ad fo st S0)  (S : r_S) (x1 : Int32) (Q : Option Value → q_S → Prop) : wb_X12_run_23 (r_E m fo S S0) m x1 m Q ↔ rb_X12_run_23 S x1 (fun r S => Q r (r_E m fo S S0)) := by
  unfold wb_X12_run_23 rb_X12_run_23
  simp only [r_eK, r_eI, r_eIs, r_eP, r_eN, true_and, Option.some.injEq, exists_eq_left', r_all, w.1, eb_X12_run_28 w]
def rm_X12_run (S : r_S) (x1 : Int32) (Q : Option Value → r_S → Prop) : Prop := (¬ (r_I S 2414) = 0 → ((x1 < 0 → (rb_X12_run_23 S x1 Q)) ∧ (¬ x1 < 0 → ((x1 ≤ (500 : Int32) → (rb_X12_run_28 S x1 (0 : Int32) Q)) ∧ (¬ x1 ≤ (500 : Int32) → (rb_X12_run_23 S x1 Q)))))) ∧ ((r_I S 2414) = 0 → (rb_X12_run_28 S x1 (1 : Int32) Q))
set_option maxRecDepth 100000 in
set_option maxHeartbeats 4000000 in
theorem em_X12_run {m : Nat} {ad : Nat → Nat} {fo : Nat → Option Nat} {st : Nat → Nat} {S0 : q_S} (w : r_WF m ad fo st S0)  (S : r_S) (x1 : Int32) (Q : Option Value → q_S → Prop) : wm_X12_run (r_E m fo S S0) m x1 Q ↔ rm_X12_run S x1 (fun r S => Q r (r_E m fo S S0)) := by
  unfold wm_X12_run rm_X12_run
  simp only [r_eK, r_eI, r_eIs, r_eP, r_eN, true_and, Option.some.injEq, exists_eq_left', r_all, w.1, eb_X12_run_23 w, eb_X12_run_28 w]
def rb_X12_peek_70 (B21 : r_S → Int32 → Int32 → Int32 → Int32 → Prop) (S : r_S) (x1 : Int32) (x2 : Int32) (x4 : Int32) (xs0 : Int32) (xs1 : Int32) (Q : Option Value → r_S → Prop) : Prop := B21 S x1 x2 (xs0 ||| (xs1 &&& (255 : Int32))) (x4 + (-1))
set_option maxRecDepth 100000 in
set_option maxHeartbeats 4000000 in
theorem eb_X12_peek_70 {m : Nat} {ad : Nat → Nat} {fo : Nat → Option Nat} {st : Nat → Nat} {S0 : q_S} (w : r_WF m ad fo st S0) {OB21 : q_S → Nat → Int32 → Int32 → Int32 → Int32 → Prop} {B21 : r_S → Int32 → Int32 → Int32 → Int32 → Prop} (hB21 : ∀ (S : r_S) (y2 : Int32) (y3 : Int32) (y4 : Int32) (y5 : Int32), (OB21 (r_E m fo S S0) m y2 y3 y4 y5 ↔ B21 S y2 y3 y4 y5)) (S : r_S) (x1 : Int32) (x2 : Int32) (x4 : Int32) (xs0 : Int32) (xs1 : Int32) (Q : Option Value → q_S → Prop) : wb_X12_peek_70 OB21 (r_E m fo S S0) m x1 x2 x4 xs0 xs1 Q ↔ rb_X12_peek_70 B21 S x1 x2 x4 xs0 xs1 (fun r S => Q r (r_E m fo S S0)) := by
  unfold wb_X12_peek_70 rb_X12_peek_70
  simp only [r_eK, r_eI, r_eIs, r_eP, r_eN, true_and, Option.some.injEq, exists_eq_left', r_all, w.1, hB21]
def rb_X12_peek_21 (B21 : r_S → Int32 → Int32 → Int32 → Int32 → Prop) (S : r_S) (x1 : Int32) (x2 : Int32) (x3 : Int32) (x4 : Int32) (Q : Option Value → r_S → Prop) : Prop := (x4 < 0 → (Q (some (.int x3)) S)) ∧ (¬ x4 < 0 → (((r_I S 2414) = 0 → (vp_in ((((8192 : Int32) * x1) + x2) + x4) (r_N 2465) ∧ (rb_X12_peek_70 B21 S x1 x2 x4 (x3 <<< ((8 : Int32) &&& 31)) (r_A S 2465 ((((8192 : Int32) * x1) + x2) + x4).toNatClampNeg) Q))) ∧ (¬ (r_I S 2414) = 0 → (vp_in ((((8192 : Int32) * x1) + x2) + x4) (r_N 2466) ∧ (rb_X12_peek_70 B21 S x1 x2 x4 (x3 <<< ((8 : Int32) &&& 31)) (r_A S 2466 ((((8192 : Int32) * x1) + x2) + x4).toNatClampNeg) Q)))))
set_option maxRecDepth 100000 in
set_option maxHeartbeats 4000000 in
theorem eb_X12_peek_21 {m : Nat} {ad : Nat → Nat} {fo : Nat → Option Nat} {st : Nat → Nat} {S0 : q_S} (w : r_WF m ad fo st S0) {OB21 : q_S → Nat → Int32 → Int32 → Int32 → Int32 → Prop} {B21 : r_S → Int32 → Int32 → Int32 → Int32 → Prop} (hB21 : ∀ (S : r_S) (y2 : Int32) (y3 : Int32) (y4 : Int32) (y5 : Int32), (OB21 (r_E m fo S S0) m y2 y3 y4 y5 ↔ B21 S y2 y3 y4 y5)) (S : r_S) (x1 : Int32) (x2 : Int32) (x3 : Int32) (x4 : Int32) (Q : Option Value → q_S → Prop) : wb_X12_peek_21 OB21 (r_E m fo S S0) m x1 x2 x3 x4 Q ↔ rb_X12_peek_21 B21 S x1 x2 x3 x4 (fun r S => Q r (r_E m fo S S0)) := by
  unfold wb_X12_peek_21 rb_X12_peek_21
  simp only [r_eK, r_eI, r_eIs, r_eP, r_eN, true_and, Option.some.injEq, exists_eq_left', r_all, w.1, r_w1 w 2465 rfl, r_w2 w 2465 20 rfl rfl, r_w3 w 2465 rfl, r_eA w 2465 rfl, r_eAs w 2465 rfl, r_w1 w 2466 rfl, r_w2 w 2466 20 rfl rfl, r_w3 w 2466 rfl, r_eA w 2466 rfl, r_eAs w 2466 rfl, eb_X12_peek_70 w hB21, hB21]
def rl_X12_peek_21  : Nat → r_S → Int32 → Int32 → Int32 → Int32 → (Option Value → r_S → Prop) → Prop
  | 0, _, _, _, _, _, _ => False
  | n + 1, S, x1, x2, x3, x4, Q => rb_X12_peek_21 (fun S x1 x2 x3 x4 => rl_X12_peek_21 n S x1 x2 x3 x4 Q) S x1 x2 x3 x4 Q
set_option maxRecDepth 100000 in
theorem el_X12_peek_21 {m : Nat} {ad : Nat → Nat} {fo : Nat → Option Nat} {st : Nat → Nat} {S0 : q_S} (w : r_WF m ad fo st S0)  (n : Nat) (S : r_S) (x1 : Int32) (x2 : Int32) (x3 : Int32) (x4 : Int32) (Q : Option Value → q_S → Prop) : wl_X12_peek_21 n (r_E m fo S S0) m x1 x2 x3 x4 Q ↔ rl_X12_peek_21 n S x1 x2 x3 x4 (fun r S => Q r (r_E m fo S S0)) := by
  induction n generalizing S x1 x2 x3 x4 with
  | zero => exact Iff.rfl
  | succ n ih => exact eb_X12_peek_21 w (fun _ _ _ _ _ => ih _ _ _ _ _) S x1 x2 x3 x4 Q
def rm_X12_peek (S : r_S) (x1 : Int32) (x2 : Int32) (Q : Option Value → r_S → Prop) : Prop := rm_X12_isPlace (rs_I S 2400 (0 : Int32)) x1 x2 (fun r13_ S14_ => ∃ x15_ : Int32, r13_ = some (.int x15_) ∧ ((¬ x15_ = 0 → (∃ n17_ : Nat, rl_X12_peek_21 n17_ S14_ x1 x2 (0 : Int32) (3 : Int32) Q)) ∧ (x15_ = 0 → (Q (some (.int (0 : Int32))) S14_))))
set_option maxRecDepth 100000 in
set_option maxHeartbeats 4000000 in
theorem em_X12_peek {m : Nat} {ad : Nat → Nat} {fo : Nat → Option Nat} {st : Nat → Nat} {S0 : q_S} (w : r_WF m ad fo st S0)  (S : r_S) (x1 : Int32) (x2 : Int32) (Q : Option Value → q_S → Prop) : wm_X12_peek (r_E m fo S S0) m x1 x2 Q ↔ rm_X12_peek S x1 x2 (fun r S => Q r (r_E m fo S S0)) := by
  unfold wm_X12_peek rm_X12_peek
  simp only [r_eK, r_eI, r_eIs, r_eP, r_eN, true_and, Option.some.injEq, exists_eq_left', r_all, w.1, el_X12_peek_21 w, em_X12_isPlace w]
def rb_X12_register_52 (S : r_S) (xs0 : Int32) (Q : Option Value → r_S → Prop) : Prop := Q (some (.int xs0)) S
set_option maxRecDepth 100000 in
set_option maxHeartbeats 4000000 in
theorem eb_X12_register_52 {m : Nat} {ad : Nat → Nat} {fo : Nat → Option Nat} {st : Nat → Nat} {S0 : q_S} (w : r_WF m ad fo st S0)  (S : r_S) (xs0 : Int32) (Q : Option Value → q_S → Prop) : wb_X12_register_52 (r_E m fo S S0) xs0 Q ↔ rb_X12_register_52 S xs0 (fun r S => Q r (r_E m fo S S0)) := by
  unfold wb_X12_register_52 rb_X12_register_52
  simp only [r_eK, r_eI, r_eIs, r_eP, r_eN, true_and, Option.some.injEq, exists_eq_left', r_all, w.1]
def rb_X12_register_51 (S : r_S) (Q : Option Value → r_S → Prop) : Prop := rb_X12_register_52 S (0 : Int32) Q
set_option maxRecDepth 100000 in
set_option maxHeartbeats 4000000 in
theorem eb_X12_register_51 {m : Nat} {ad : Nat → Nat} {fo : Nat → Option Nat} {st : Nat → Nat} {S0 : q_S} (w : r_WF m ad fo st S0)  (S : r_S) (Q : Option Value → q_S → Prop) : wb_X12_register_51 (r_E m fo S S0) Q ↔ rb_X12_register_51 S (fun r S => Q r (r_E m fo S S0)) := by
  unfold wb_X12_register_51 rb_X12_register_51
  simp only [r_eK, r_eI, r_eIs, r_eP, r_eN, true_and, Option.some.injEq, exists_eq_left', r_all, w.1, eb_X12_register_52 w]
def rm_X12_register (S : r_S) (x1 : Int32) (x2 : Int32) (x3 : Int32) (Q : Option Value → r_S → Prop) : Prop := rm_X12_isPartition (rs_I S 2400 (0 : Int32)) x1 (fun r2_ S3_ => ∃ x4_ : Int32, r2_ = some (.int x4_) ∧ ((x4_ = 0 → (rb_X12_register_51 S3_ Q)) ∧ (¬ x4_ = 0 → (rm_X12_isProcess S3_ x1 x2 (fun r7_ S8_ => ∃ x9_ : Int32, r7_ = some (.int x9_) ∧ ((x9_ = 0 → (rb_X12_register_51 S8_ Q)) ∧ (¬ x9_ = 0 → ((x3 < 0 → (rb_X12_register_51 S8_ Q)) ∧ (¬ x3 < 0 → (((32 : Int32) ≤ x3 → (rb_X12_register_51 S8_ Q)) ∧ (¬ (32 : Int32) ≤ x3 → (vp_in (((32 : Int32) * (((16 : Int32) * x1) + x2)) + x3) (r_N 2477) ∧ (rb_X12_register_52 S8_ (r_A S8_ 2477 (((32 : Int32) * (((16 : Int32) * x1) + x2)) + x3).toNatClampNeg) Q)))))))))))))
set_option maxRecDepth 100000 in
set_option maxHeartbeats 4000000 in
theorem em_X12_register {m : Nat} {ad : Nat → Nat} {fo : Nat → Option Nat} {st : Nat → Nat} {S0 : q_S} (w : r_WF m ad fo st S0)  (S : r_S) (x1 : Int32) (x2 : Int32) (x3 : Int32) (Q : Option Value → q_S → Prop) : wm_X12_register (r_E m fo S S0) m x1 x2 x3 Q ↔ rm_X12_register S x1 x2 x3 (fun r S => Q r (r_E m fo S S0)) := by
  unfold wm_X12_register rm_X12_register
  simp only [r_eK, r_eI, r_eIs, r_eP, r_eN, true_and, Option.some.injEq, exists_eq_left', r_all, w.1, r_w1 w 2477 rfl, r_w2 w 2477 21 rfl rfl, r_w3 w 2477 rfl, r_eA w 2477 rfl, r_eAs w 2477 rfl, eb_X12_register_51 w, eb_X12_register_52 w, em_X12_isPartition w, em_X12_isProcess w]
def rb_X12_state_22 (S : r_S) (Q : Option Value → r_S → Prop) : Prop := Q (some (.int (-1 : Int32))) S
set_option maxRecDepth 100000 in
set_option maxHeartbeats 4000000 in
theorem eb_X12_state_22 {m : Nat} {ad : Nat → Nat} {fo : Nat → Option Nat} {st : Nat → Nat} {S0 : q_S} (w : r_WF m ad fo st S0)  (S : r_S) (Q : Option Value → q_S → Prop) : wb_X12_state_22 (r_E m fo S S0) Q ↔ rb_X12_state_22 S (fun r S => Q r (r_E m fo S S0)) := by
  unfold wb_X12_state_22 rb_X12_state_22
  simp only [r_eK, r_eI, r_eIs, r_eP, r_eN, true_and, Option.some.injEq, exists_eq_left', r_all, w.1]
def rb_X12_state_184 (S : r_S) (xs0 : Int32) (Q : Option Value → r_S → Prop) : Prop := Q (some (.int xs0)) S
set_option maxRecDepth 100000 in
set_option maxHeartbeats 4000000 in
theorem eb_X12_state_184 {m : Nat} {ad : Nat → Nat} {fo : Nat → Option Nat} {st : Nat → Nat} {S0 : q_S} (w : r_WF m ad fo st S0)  (S : r_S) (xs0 : Int32) (Q : Option Value → q_S → Prop) : wb_X12_state_184 (r_E m fo S S0) xs0 Q ↔ rb_X12_state_184 S xs0 (fun r S => Q r (r_E m fo S S0)) := by
  unfold wb_X12_state_184 rb_X12_state_184
  simp only [r_eK, r_eI, r_eIs, r_eP, r_eN, true_and, Option.some.injEq, exists_eq_left', r_all, w.1]
def rb_X12_state_168 (S : r_S) (xs0 : Int32) (Q : Option Value → r_S → Prop) : Prop := Q (some (.int xs0)) S
set_option maxRecDepth 100000 in
set_option maxHeartbeats 4000000 in
theorem eb_X12_state_168 {m : Nat} {ad : Nat → Nat} {fo : Nat → Option Nat} {st : Nat → Nat} {S0 : q_S} (w : r_WF m ad fo st S0)  (S : r_S) (xs0 : Int32) (Q : Option Value → q_S → Prop) : wb_X12_state_168 (r_E m fo S S0) xs0 Q ↔ rb_X12_state_168 S xs0 (fun r S => Q r (r_E m fo S S0)) := by
  unfold wb_X12_state_168 rb_X12_state_168
  simp only [r_eK, r_eI, r_eIs, r_eP, r_eN, true_and, Option.some.injEq, exists_eq_left', r_all, w.1]
def rb_X12_state_129 (S : r_S) (xs0 : Int32) (Q : Option Value → r_S → Prop) : Prop := Q (some (.int xs0)) S
set_option maxRecDepth 100000 in
set_option maxHeartbeats 4000000 in
theorem eb_X12_state_129 {m : Nat} {ad : Nat → Nat} {fo : Nat → Option Nat} {st : Nat → Nat} {S0 : q_S} (w : r_WF m ad fo st S0)  (S : r_S) (xs0 : Int32) (Q : Option Value → q_S → Prop) : wb_X12_state_129 (r_E m fo S S0) xs0 Q ↔ rb_X12_state_129 S xs0 (fun r S => Q r (r_E m fo S S0)) := by
  unfold wb_X12_state_129 rb_X12_state_129
  simp only [r_eK, r_eI, r_eIs, r_eP, r_eN, true_and, Option.some.injEq, exists_eq_left', r_all, w.1]
def rm_X12_state (S : r_S) (x1 : Int32) (x2 : Int32) (x3 : Int32) (Q : Option Value → r_S → Prop) : Prop := rm_X12_isPartition (rs_I S 2400 (0 : Int32)) x1 (fun r2_ S3_ => ∃ x4_ : Int32, r2_ = some (.int x4_) ∧ ((x4_ = 0 → (rb_X12_state_22 S3_ Q)) ∧ (¬ x4_ = 0 → (rm_X12_isProcess S3_ x1 x2 (fun r7_ S8_ => ∃ x9_ : Int32, r7_ = some (.int x9_) ∧ ((¬ x9_ = 0 → (((x3.toInt < 0 ∨ 8 < x3.toInt) → (Q (some (.int (-1 : Int32))) S8_)) ∧ ((x3 = (0 : Int32)) → (vp_in (((16 : Int32) * x1) + x2) (r_N 2467) ∧ (Q (some (.int (r_A S8_ 2467 (((16 : Int32) * x1) + x2).toNatClampNeg))) S8_))) ∧ ((x3 = (1 : Int32)) → (vp_in (((16 : Int32) * x1) + x2) (r_N 2468) ∧ (Q (some (.int (r_A S8_ 2468 (((16 : Int32) * x1) + x2).toNatClampNeg))) S8_))) ∧ ((x3 = (2 : Int32)) → (vp_in (((16 : Int32) * x1) + x2) (r_N 2469) ∧ (Q (some (.int (r_A S8_ 2469 (((16 : Int32) * x1) + x2).toNatClampNeg))) S8_))) ∧ ((x3 = (3 : Int32)) → (vp_in (((16 : Int32) * x1) + x2) (r_N 2470) ∧ (((r_A S8_ 2470 (((16 : Int32) * x1) + x2).toNatClampNeg) = 0 → (rb_X12_state_129 S8_ (-1 : Int32) Q)) ∧ (¬ (r_A S8_ 2470 (((16 : Int32) * x1) + x2).toNatClampNeg) = 0 → (vp_in (((16 : Int32) * x1) + x2) (r_N 2471) ∧ (rb_X12_state_129 S8_ (r_A S8_ 2471 (((16 : Int32) * x1) + x2).toNatClampNeg) Q)))))) ∧ ((x3 = (4 : Int32)) → (vp_in (((16 : Int32) * x1) + x2) (r_N 2472) ∧ (Q (some (.int (r_A S8_ 2472 (((16 : Int32) * x1) + x2).toNatClampNeg))) S8_))) ∧ ((x3 = (5 : Int32)) → (vp_in (((16 : Int32) * x1) + x2) (r_N 2474) ∧ (Q (some (.int (r_A S8_ 2474 (((16 : Int32) * x1) + x2).toNatClampNeg))) S8_))) ∧ ((x3 = (6 : Int32)) → (vp_in (((16 : Int32) * x1) + x2) (r_N 2473) ∧ (Q (some (.int (r_A S8_ 2473 (((16 : Int32) * x1) + x2).toNatClampNeg))) S8_))) ∧ ((x3 = (7 : Int32)) → (rm_X12_isHandler S8_ (((16 : Int32) * x1) + x2) (fun r52_ S53_ => ∃ x54_ : Int32, r52_ = some (.int x54_) ∧ ((x54_ = 0 → (rb_X12_state_168 S53_ (0 : Int32) Q)) ∧ (¬ x54_ = 0 → (rb_X12_state_168 S53_ (1 : Int32) Q)))))) ∧ ((x3 = (8 : Int32)) → (vp_in (((16 : Int32) * x1) + x2) (r_N 2475) ∧ (((r_A S8_ 2475 (((16 : Int32) * x1) + x2).toNatClampNeg) = 0 → (rb_X12_state_184 S8_ (0 : Int32) Q)) ∧ (¬ (r_A S8_ 2475 (((16 : Int32) * x1) + x2).toNatClampNeg) = 0 → (rb_X12_state_184 S8_ (1 : Int32) Q))))))) ∧ (x9_ = 0 → (rb_X12_state_22 S8_ Q))))))))
set_option maxRecDepth 100000 in
set_option maxHeartbeats 4000000 in
theorem em_X12_state {m : Nat} {ad : Nat → Nat} {fo : Nat → Option Nat} {st : Nat → Nat} {S0 : q_S} (w : r_WF m ad fo st S0)  (S : r_S) (x1 : Int32) (x2 : Int32) (x3 : Int32) (Q : Option Value → q_S → Prop) : wm_X12_state (r_E m fo S S0) m x1 x2 x3 Q ↔ rm_X12_state S x1 x2 x3 (fun r S => Q r (r_E m fo S S0)) := by
  unfold wm_X12_state rm_X12_state
  simp only [r_eK, r_eI, r_eIs, r_eP, r_eN, true_and, Option.some.injEq, exists_eq_left', r_all, w.1, r_w1 w 2467 rfl, r_w2 w 2467 21 rfl rfl, r_w3 w 2467 rfl, r_eA w 2467 rfl, r_eAs w 2467 rfl, r_w1 w 2468 rfl, r_w2 w 2468 21 rfl rfl, r_w3 w 2468 rfl, r_eA w 2468 rfl, r_eAs w 2468 rfl, r_w1 w 2469 rfl, r_w2 w 2469 21 rfl rfl, r_w3 w 2469 rfl, r_eA w 2469 rfl, r_eAs w 2469 rfl, r_w1 w 2470 rfl, r_w2 w 2470 22 rfl rfl, r_w3 w 2470 rfl, r_eA w 2470 rfl, r_eAs w 2470 rfl, r_w1 w 2471 rfl, r_w2 w 2471 21 rfl rfl, r_w3 w 2471 rfl, r_eA w 2471 rfl, r_eAs w 2471 rfl, r_w1 w 2472 rfl, r_w2 w 2472 21 rfl rfl, r_w3 w 2472 rfl, r_eA w 2472 rfl, r_eAs w 2472 rfl, r_w1 w 2473 rfl, r_w2 w 2473 21 rfl rfl, r_w3 w 2473 rfl, r_eA w 2473 rfl, r_eAs w 2473 rfl, r_w1 w 2474 rfl, r_w2 w 2474 21 rfl rfl, r_w3 w 2474 rfl, r_eA w 2474 rfl, r_eAs w 2474 rfl, r_w1 w 2475 rfl, r_w2 w 2475 22 rfl rfl, r_w3 w 2475 rfl, r_eA w 2475 rfl, r_eAs w 2475 rfl, eb_X12_state_129 w, eb_X12_state_168 w, eb_X12_state_184 w, eb_X12_state_22 w, em_X12_isHandler w, em_X12_isPartition w, em_X12_isProcess w]
def rb_X12_partition_161 (S : r_S) (xs0 : Int32) (Q : Option Value → r_S → Prop) : Prop := Q (some (.int xs0)) S
set_option maxRecDepth 100000 in
set_option maxHeartbeats 4000000 in
theorem eb_X12_partition_161 {m : Nat} {ad : Nat → Nat} {fo : Nat → Option Nat} {st : Nat → Nat} {S0 : q_S} (w : r_WF m ad fo st S0)  (S : r_S) (xs0 : Int32) (Q : Option Value → q_S → Prop) : wb_X12_partition_161 (r_E m fo S S0) xs0 Q ↔ rb_X12_partition_161 S xs0 (fun r S => Q r (r_E m fo S S0)) := by
  unfold wb_X12_partition_161 rb_X12_partition_161
  simp only [r_eK, r_eI, r_eIs, r_eP, r_eN, true_and, Option.some.injEq, exists_eq_left', r_all, w.1]
def rm_X12_partition (S : r_S) (x1 : Int32) (x2 : Int32) (Q : Option Value → r_S → Prop) : Prop := rm_X12_isPartition (rs_I S 2400 (0 : Int32)) x1 (fun r2_ S3_ => ∃ x4_ : Int32, r2_ = some (.int x4_) ∧ ((¬ x4_ = 0 → (((x2.toInt < 0 ∨ 13 < x2.toInt) → (Q (some (.int (-1 : Int32))) S3_)) ∧ ((x2 = (0 : Int32)) → (vp_in x1 (r_N 2483) ∧ (Q (some (.int (r_A S3_ 2483 x1.toNatClampNeg))) S3_))) ∧ ((x2 = (1 : Int32)) → (vp_in x1 (r_N 2425) ∧ (Q (some (.int (r_A S3_ 2425 x1.toNatClampNeg))) S3_))) ∧ ((x2 = (2 : Int32)) → (vp_in (((6 : Int32) * x1) + (5 : Int32)) (r_N 2435) ∧ (Q (some (.int (r_A S3_ 2435 (((6 : Int32) * x1) + (5 : Int32)).toNatClampNeg))) S3_))) ∧ ((x2 = (3 : Int32) ∨ x2 = (4 : Int32) ∨ x2 = (5 : Int32) ∨ x2 = (6 : Int32) ∨ x2 = (7 : Int32)) → (vp_in ((((6 : Int32) * x1) + x2) - (3 : Int32)) (r_N 2435) ∧ (Q (some (.int (r_A S3_ 2435 ((((6 : Int32) * x1) + x2) - (3 : Int32)).toNatClampNeg))) S3_))) ∧ ((x2 = (8 : Int32)) → (vp_in x1 (r_N 2485) ∧ (Q (some (.int (r_A S3_ 2485 x1.toNatClampNeg))) S3_))) ∧ ((x2 = (9 : Int32)) → (vp_in x1 (r_N 2486) ∧ (Q (some (.int (r_A S3_ 2486 x1.toNatClampNeg))) S3_))) ∧ ((x2 = (10 : Int32)) → (rm_X12_nextOf S3_ x1 (fun r37_ S38_ => ∃ x39_ : Int32, r37_ = some (.int x39_) ∧ ((¬ x39_ = (-1 : Int32) → (rb_X12_partition_161 S38_ (x39_ - x39_ / (16 : Int32) * (16 : Int32)) Q)) ∧ (x39_ = (-1 : Int32) → (rb_X12_partition_161 S38_ (-1 : Int32) Q)))))) ∧ ((x2 = (11 : Int32)) → (vp_in x1 (r_N 2484) ∧ (Q (some (.int (r_A S3_ 2484 x1.toNatClampNeg))) S3_))) ∧ ((x2 = (12 : Int32)) → (vp_in x1 (r_N 2426) ∧ (Q (some (.int (r_A S3_ 2426 x1.toNatClampNeg))) S3_))) ∧ ((x2 = (13 : Int32)) → (vp_in x1 (r_N 2491) ∧ (Q (some (.int (r_A S3_ 2491 x1.toNatClampNeg))) S3_))))) ∧ (x4_ = 0 → (Q (some (.int (-1 : Int32))) S3_))))
set_option maxRecDepth 100000 in
set_option maxHeartbeats 4000000 in
theorem em_X12_partition {m : Nat} {ad : Nat → Nat} {fo : Nat → Option Nat} {st : Nat → Nat} {S0 : q_S} (w : r_WF m ad fo st S0)  (S : r_S) (x1 : Int32) (x2 : Int32) (Q : Option Value → q_S → Prop) : wm_X12_partition (r_E m fo S S0) m x1 x2 Q ↔ rm_X12_partition S x1 x2 (fun r S => Q r (r_E m fo S S0)) := by
  unfold wm_X12_partition rm_X12_partition
  simp only [r_eK, r_eI, r_eIs, r_eP, r_eN, true_and, Option.some.injEq, exists_eq_left', r_all, w.1, r_w1 w 2425 rfl, r_w2 w 2425 21 rfl rfl, r_w3 w 2425 rfl, r_eA w 2425 rfl, r_eAs w 2425 rfl, r_w1 w 2426 rfl, r_w2 w 2426 21 rfl rfl, r_w3 w 2426 rfl, r_eA w 2426 rfl, r_eAs w 2426 rfl, r_w1 w 2435 rfl, r_w2 w 2435 21 rfl rfl, r_w3 w 2435 rfl, r_eA w 2435 rfl, r_eAs w 2435 rfl, r_w1 w 2483 rfl, r_w2 w 2483 21 rfl rfl, r_w3 w 2483 rfl, r_eA w 2483 rfl, r_eAs w 2483 rfl, r_w1 w 2484 rfl, r_w2 w 2484 21 rfl rfl, r_w3 w 2484 rfl, r_eA w 2484 rfl, r_eAs w 2484 rfl, r_w1 w 2485 rfl, r_w2 w 2485 21 rfl rfl, r_w3 w 2485 rfl, r_eA w 2485 rfl, r_eAs w 2485 rfl, r_w1 w 2486 rfl, r_w2 w 2486 21 rfl rfl, r_w3 w 2486 rfl, r_eA w 2486 rfl, r_eAs w 2486 rfl, r_w1 w 2491 rfl, r_w2 w 2491 21 rfl rfl, r_w3 w 2491 rfl, r_eA w 2491 rfl, r_eAs w 2491 rfl, eb_X12_partition_161 w, em_X12_isPartition w, em_X12_nextOf w]
def rb_X12_thing_43 (S : r_S) (xs0 : Int32) (Q : Option Value → r_S → Prop) : Prop := Q (some (.int xs0)) S
set_option maxRecDepth 100000 in
set_option maxHeartbeats 4000000 in
theorem eb_X12_thing_43 {m : Nat} {ad : Nat → Nat} {fo : Nat → Option Nat} {st : Nat → Nat} {S0 : q_S} (w : r_WF m ad fo st S0)  (S : r_S) (xs0 : Int32) (Q : Option Value → q_S → Prop) : wb_X12_thing_43 (r_E m fo S S0) xs0 Q ↔ rb_X12_thing_43 S xs0 (fun r S => Q r (r_E m fo S S0)) := by
  unfold wb_X12_thing_43 rb_X12_thing_43
  simp only [r_eK, r_eI, r_eIs, r_eP, r_eN, true_and, Option.some.injEq, exists_eq_left', r_all, w.1]
def rb_X12_thing_42 (S : r_S) (Q : Option Value → r_S → Prop) : Prop := rb_X12_thing_43 S (-1 : Int32) Q
set_option maxRecDepth 100000 in
set_option maxHeartbeats 4000000 in
theorem eb_X12_thing_42 {m : Nat} {ad : Nat → Nat} {fo : Nat → Option Nat} {st : Nat → Nat} {S0 : q_S} (w : r_WF m ad fo st S0)  (S : r_S) (Q : Option Value → q_S → Prop) : wb_X12_thing_42 (r_E m fo S S0) Q ↔ rb_X12_thing_42 S (fun r S => Q r (r_E m fo S S0)) := by
  unfold wb_X12_thing_42 rb_X12_thing_42
  simp only [r_eK, r_eI, r_eIs, r_eP, r_eN, true_and, Option.some.injEq, exists_eq_left', r_all, w.1, eb_X12_thing_43 w]
def rm_X12_thing (S : r_S) (x1 : Int32) (x2 : Int32) (x3 : Int32) (Q : Option Value → r_S → Prop) : Prop := rm_X12_isPartition (rs_I S 2400 (0 : Int32)) x1 (fun r2_ S3_ => ∃ x4_ : Int32, r2_ = some (.int x4_) ∧ ((x4_ = 0 → (rb_X12_thing_42 S3_ Q)) ∧ (¬ x4_ = 0 → ((x2 < 0 → (rb_X12_thing_42 S3_ Q)) ∧ (¬ x2 < 0 → (((5 : Int32) ≤ x2 → (rb_X12_thing_42 S3_ Q)) ∧ (¬ (5 : Int32) ≤ x2 → (rm_X12_isThing S3_ x1 x2 x3 (fun r9_ S10_ => ∃ x11_ : Int32, r9_ = some (.int x11_) ∧ ((x11_ = 0 → (rb_X12_thing_42 S10_ Q)) ∧ (¬ x11_ = 0 → (rm_X12_tells S10_ x1 x2 x3 (fun r14_ S15_ => ∃ x16_ : Int32, r14_ = some (.int x16_) ∧ (rb_X12_thing_43 S15_ x16_ Q))))))))))))))
set_option maxRecDepth 100000 in
set_option maxHeartbeats 4000000 in
theorem em_X12_thing {m : Nat} {ad : Nat → Nat} {fo : Nat → Option Nat} {st : Nat → Nat} {S0 : q_S} (w : r_WF m ad fo st S0)  (S : r_S) (x1 : Int32) (x2 : Int32) (x3 : Int32) (Q : Option Value → q_S → Prop) : wm_X12_thing (r_E m fo S S0) m x1 x2 x3 Q ↔ rm_X12_thing S x1 x2 x3 (fun r S => Q r (r_E m fo S S0)) := by
  unfold wm_X12_thing rm_X12_thing
  simp only [r_eK, r_eI, r_eIs, r_eP, r_eN, true_and, Option.some.injEq, exists_eq_left', r_all, w.1, eb_X12_thing_42 w, eb_X12_thing_43 w, em_X12_isPartition w, em_X12_isThing w, em_X12_tells w]
def rb_X12_waiting_43 (S : r_S) (xs0 : Int32) (Q : Option Value → r_S → Prop) : Prop := Q (some (.int xs0)) S
set_option maxRecDepth 100000 in
set_option maxHeartbeats 4000000 in
theorem eb_X12_waiting_43 {m : Nat} {ad : Nat → Nat} {fo : Nat → Option Nat} {st : Nat → Nat} {S0 : q_S} (w : r_WF m ad fo st S0)  (S : r_S) (xs0 : Int32) (Q : Option Value → q_S → Prop) : wb_X12_waiting_43 (r_E m fo S S0) xs0 Q ↔ rb_X12_waiting_43 S xs0 (fun r S => Q r (r_E m fo S S0)) := by
  unfold wb_X12_waiting_43 rb_X12_waiting_43
  simp only [r_eK, r_eI, r_eIs, r_eP, r_eN, true_and, Option.some.injEq, exists_eq_left', r_all, w.1]
def rb_X12_waiting_42 (S : r_S) (Q : Option Value → r_S → Prop) : Prop := rb_X12_waiting_43 S (-1 : Int32) Q
set_option maxRecDepth 100000 in
set_option maxHeartbeats 4000000 in
theorem eb_X12_waiting_42 {m : Nat} {ad : Nat → Nat} {fo : Nat → Option Nat} {st : Nat → Nat} {S0 : q_S} (w : r_WF m ad fo st S0)  (S : r_S) (Q : Option Value → q_S → Prop) : wb_X12_waiting_42 (r_E m fo S S0) Q ↔ rb_X12_waiting_42 S (fun r S => Q r (r_E m fo S S0)) := by
  unfold wb_X12_waiting_42 rb_X12_waiting_42
  simp only [r_eK, r_eI, r_eIs, r_eP, r_eN, true_and, Option.some.injEq, exists_eq_left', r_all, w.1, eb_X12_waiting_43 w]
def rm_X12_waiting (S : r_S) (x1 : Int32) (x2 : Int32) (x3 : Int32) (Q : Option Value → r_S → Prop) : Prop := rm_X12_isPartition (rs_I S 2400 (0 : Int32)) x1 (fun r2_ S3_ => ∃ x4_ : Int32, r2_ = some (.int x4_) ∧ ((x4_ = 0 → (rb_X12_waiting_42 S3_ Q)) ∧ (¬ x4_ = 0 → ((x2 < 0 → (rb_X12_waiting_42 S3_ Q)) ∧ (¬ x2 < 0 → (((5 : Int32) ≤ x2 → (rb_X12_waiting_42 S3_ Q)) ∧ (¬ (5 : Int32) ≤ x2 → (rm_X12_isThing S3_ x1 x2 x3 (fun r9_ S10_ => ∃ x11_ : Int32, r9_ = some (.int x11_) ∧ ((x11_ = 0 → (rb_X12_waiting_42 S10_ Q)) ∧ (¬ x11_ = 0 → (rm_X12_wait S10_ x1 x2 x3 (fun r14_ S15_ => ∃ x16_ : Int32, r14_ = some (.int x16_) ∧ (rb_X12_waiting_43 S15_ x16_ Q))))))))))))))
set_option maxRecDepth 100000 in
set_option maxHeartbeats 4000000 in
theorem em_X12_waiting {m : Nat} {ad : Nat → Nat} {fo : Nat → Option Nat} {st : Nat → Nat} {S0 : q_S} (w : r_WF m ad fo st S0)  (S : r_S) (x1 : Int32) (x2 : Int32) (x3 : Int32) (Q : Option Value → q_S → Prop) : wm_X12_waiting (r_E m fo S S0) m x1 x2 x3 Q ↔ rm_X12_waiting S x1 x2 x3 (fun r S => Q r (r_E m fo S S0)) := by
  unfold wm_X12_waiting rm_X12_waiting
  simp only [r_eK, r_eI, r_eIs, r_eP, r_eN, true_and, Option.some.injEq, exists_eq_left', r_all, w.1, eb_X12_waiting_42 w, eb_X12_waiting_43 w, em_X12_isPartition w, em_X12_isThing w, em_X12_wait w]
def rb_X12_region_36 (S : r_S) (Q : Option Value → r_S → Prop) : Prop := Q (some (.int (-1 : Int32))) S
set_option maxRecDepth 100000 in
set_option maxHeartbeats 4000000 in
theorem eb_X12_region_36 {m : Nat} {ad : Nat → Nat} {fo : Nat → Option Nat} {st : Nat → Nat} {S0 : q_S} (w : r_WF m ad fo st S0)  (S : r_S) (Q : Option Value → q_S → Prop) : wb_X12_region_36 (r_E m fo S S0) Q ↔ rb_X12_region_36 S (fun r S => Q r (r_E m fo S S0)) := by
  unfold wb_X12_region_36 rb_X12_region_36
  simp only [r_eK, r_eI, r_eIs, r_eP, r_eN, true_and, Option.some.injEq, exists_eq_left', r_all, w.1]
def rb_X12_region_82 (S : r_S) (xs0 : Int32) (Q : Option Value → r_S → Prop) : Prop := Q (some (.int xs0)) S
set_option maxRecDepth 100000 in
set_option maxHeartbeats 4000000 in
theorem eb_X12_region_82 {m : Nat} {ad : Nat → Nat} {fo : Nat → Option Nat} {st : Nat → Nat} {S0 : q_S} (w : r_WF m ad fo st S0)  (S : r_S) (xs0 : Int32) (Q : Option Value → q_S → Prop) : wb_X12_region_82 (r_E m fo S S0) xs0 Q ↔ rb_X12_region_82 S xs0 (fun r S => Q r (r_E m fo S S0)) := by
  unfold wb_X12_region_82 rb_X12_region_82
  simp only [r_eK, r_eI, r_eIs, r_eP, r_eN, true_and, Option.some.injEq, exists_eq_left', r_all, w.1]
def rm_X12_region (S : r_S) (x1 : Int32) (x2 : Int32) (x3 : Int32) (Q : Option Value → r_S → Prop) : Prop := rm_X12_isPartition (rs_I S 2400 (0 : Int32)) x1 (fun r2_ S3_ => ∃ x4_ : Int32, r2_ = some (.int x4_) ∧ ((x4_ = 0 → (rb_X12_region_36 S3_ Q)) ∧ (¬ x4_ = 0 → ((x2 < 0 → (rb_X12_region_36 S3_ Q)) ∧ (¬ x2 < 0 → (vp_in x1 (r_N 2426) ∧ (((r_A S3_ 2426 x1.toNatClampNeg) ≤ x2 → (rb_X12_region_36 S3_ Q)) ∧ (¬ (r_A S3_ 2426 x1.toNatClampNeg) ≤ x2 → ((x3 < 0 → (rb_X12_region_36 S3_ Q)) ∧ (¬ x3 < 0 → ((x3 ≤ (2 : Int32) → ((¬ x3 = 0 → ((¬ x3 = (1 : Int32) → (vp_in (((6 : Int32) * x1) + x2) (r_N 2429) ∧ (rb_X12_region_82 S3_ (r_A S3_ 2429 (((6 : Int32) * x1) + x2).toNatClampNeg) Q))) ∧ (x3 = (1 : Int32) → (vp_in (((6 : Int32) * x1) + x2) (r_N 2428) ∧ (rb_X12_region_82 S3_ (r_A S3_ 2428 (((6 : Int32) * x1) + x2).toNatClampNeg) Q))))) ∧ (x3 = 0 → (vp_in (((6 : Int32) * x1) + x2) (r_N 2427) ∧ (rb_X12_region_82 S3_ (r_A S3_ 2427 (((6 : Int32) * x1) + x2).toNatClampNeg) Q))))) ∧ (¬ x3 ≤ (2 : Int32) → (rb_X12_region_36 S3_ Q)))))))))))))
set_option maxRecDepth 100000 in
set_option maxHeartbeats 4000000 in
theorem em_X12_region {m : Nat} {ad : Nat → Nat} {fo : Nat → Option Nat} {st : Nat → Nat} {S0 : q_S} (w : r_WF m ad fo st S0)  (S : r_S) (x1 : Int32) (x2 : Int32) (x3 : Int32) (Q : Option Value → q_S → Prop) : wm_X12_region (r_E m fo S S0) m x1 x2 x3 Q ↔ rm_X12_region S x1 x2 x3 (fun r S => Q r (r_E m fo S S0)) := by
  unfold wm_X12_region rm_X12_region
  simp only [r_eK, r_eI, r_eIs, r_eP, r_eN, true_and, Option.some.injEq, exists_eq_left', r_all, w.1, r_w1 w 2426 rfl, r_w2 w 2426 21 rfl rfl, r_w3 w 2426 rfl, r_eA w 2426 rfl, r_eAs w 2426 rfl, r_w1 w 2427 rfl, r_w2 w 2427 21 rfl rfl, r_w3 w 2427 rfl, r_eA w 2427 rfl, r_eAs w 2427 rfl, r_w1 w 2428 rfl, r_w2 w 2428 21 rfl rfl, r_w3 w 2428 rfl, r_eA w 2428 rfl, r_eAs w 2428 rfl, r_w1 w 2429 rfl, r_w2 w 2429 21 rfl rfl, r_w3 w 2429 rfl, r_eA w 2429 rfl, r_eAs w 2429 rfl, eb_X12_region_36 w, eb_X12_region_82 w, em_X12_isPartition w]
def rb_X12_wordOf_38 (S : r_S) (Q : Option Value → r_S → Prop) : Prop := Q (some (.int (0 : Int32))) S
set_option maxRecDepth 100000 in
set_option maxHeartbeats 4000000 in
theorem eb_X12_wordOf_38 {m : Nat} {ad : Nat → Nat} {fo : Nat → Option Nat} {st : Nat → Nat} {S0 : q_S} (w : r_WF m ad fo st S0)  (S : r_S) (Q : Option Value → q_S → Prop) : wb_X12_wordOf_38 (r_E m fo S S0) Q ↔ rb_X12_wordOf_38 S (fun r S => Q r (r_E m fo S S0)) := by
  unfold wb_X12_wordOf_38 rb_X12_wordOf_38
  simp only [r_eK, r_eI, r_eIs, r_eP, r_eN, true_and, Option.some.injEq, exists_eq_left', r_all, w.1]
def rb_X12_wordOf_79 (S : r_S) (xs0 : Int32) (Q : Option Value → r_S → Prop) : Prop := Q (some (.int xs0)) S
set_option maxRecDepth 100000 in
set_option maxHeartbeats 4000000 in
theorem eb_X12_wordOf_79 {m : Nat} {ad : Nat → Nat} {fo : Nat → Option Nat} {st : Nat → Nat} {S0 : q_S} (w : r_WF m ad fo st S0)  (S : r_S) (xs0 : Int32) (Q : Option Value → q_S → Prop) : wb_X12_wordOf_79 (r_E m fo S S0) xs0 Q ↔ rb_X12_wordOf_79 S xs0 (fun r S => Q r (r_E m fo S S0)) := by
  unfold wb_X12_wordOf_79 rb_X12_wordOf_79
  simp only [r_eK, r_eI, r_eIs, r_eP, r_eN, true_and, Option.some.injEq, exists_eq_left', r_all, w.1]
def rb_X12_wordOf_78 (S : r_S) (Q : Option Value → r_S → Prop) : Prop := rb_X12_wordOf_79 S (0 : Int32) Q
set_option maxRecDepth 100000 in
set_option maxHeartbeats 4000000 in
theorem eb_X12_wordOf_78 {m : Nat} {ad : Nat → Nat} {fo : Nat → Option Nat} {st : Nat → Nat} {S0 : q_S} (w : r_WF m ad fo st S0)  (S : r_S) (Q : Option Value → q_S → Prop) : wb_X12_wordOf_78 (r_E m fo S S0) Q ↔ rb_X12_wordOf_78 S (fun r S => Q r (r_E m fo S S0)) := by
  unfold wb_X12_wordOf_78 rb_X12_wordOf_78
  simp only [r_eK, r_eI, r_eIs, r_eP, r_eN, true_and, Option.some.injEq, exists_eq_left', r_all, w.1, eb_X12_wordOf_79 w]
def rb_X12_wordOf_109 (S : r_S) (xs0 : Int32) (Q : Option Value → r_S → Prop) : Prop := Q (some (.int xs0)) S
set_option maxRecDepth 100000 in
set_option maxHeartbeats 4000000 in
theorem eb_X12_wordOf_109 {m : Nat} {ad : Nat → Nat} {fo : Nat → Option Nat} {st : Nat → Nat} {S0 : q_S} (w : r_WF m ad fo st S0)  (S : r_S) (xs0 : Int32) (Q : Option Value → q_S → Prop) : wb_X12_wordOf_109 (r_E m fo S S0) xs0 Q ↔ rb_X12_wordOf_109 S xs0 (fun r S => Q r (r_E m fo S S0)) := by
  unfold wb_X12_wordOf_109 rb_X12_wordOf_109
  simp only [r_eK, r_eI, r_eIs, r_eP, r_eN, true_and, Option.some.injEq, exists_eq_left', r_all, w.1]
def rb_X12_wordOf_23 (S : r_S) (x1 : Int32) (x2 : Int32) (x3 : Int32) (x4 : Int32) (Q : Option Value → r_S → Prop) : Prop := rm_X12_isThing S x1 x2 x3 (fun r2_ S3_ => ∃ x4_ : Int32, r2_ = some (.int x4_) ∧ ((x4_ = 0 → (rb_X12_wordOf_38 S3_ Q)) ∧ (¬ x4_ = 0 → ((0 ≤ x4 → ((¬ x2 = (3 : Int32) → (vp_in (((8 : Int32) * x1) + x3) (r_N 2494) ∧ (((r_A S3_ 2494 (((8 : Int32) * x1) + x3).toNatClampNeg) ≤ x4 → (rb_X12_wordOf_109 S3_ (0 : Int32) Q)) ∧ (¬ (r_A S3_ 2494 (((8 : Int32) * x1) + x3).toNatClampNeg) ≤ x4 → (vp_in (((16 : Int32) * (((8 : Int32) * x1) + x3)) + x4) (r_N 2495) ∧ (rb_X12_wordOf_109 S3_ (r_A S3_ 2495 (((16 : Int32) * (((8 : Int32) * x1) + x3)) + x4).toNatClampNeg) Q)))))) ∧ (x2 = (3 : Int32) → ((¬ x4 = 0 → (rb_X12_wordOf_78 S3_ Q)) ∧ (x4 = 0 → (vp_in (((8 : Int32) * x1) + x3) (r_N 2496) ∧ (((r_A S3_ 2496 (((8 : Int32) * x1) + x3).toNatClampNeg) = 0 → (rb_X12_wordOf_78 S3_ Q)) ∧ (¬ (r_A S3_ 2496 (((8 : Int32) * x1) + x3).toNatClampNeg) = 0 → (vp_in (((8 : Int32) * x1) + x3) (r_N 2497) ∧ (rb_X12_wordOf_79 S3_ (r_A S3_ 2497 (((8 : Int32) * x1) + x3).toNatClampNeg) Q)))))))))) ∧ (¬ 0 ≤ x4 → (rb_X12_wordOf_38 S3_ Q))))))
set_option maxRecDepth 100000 in
set_option maxHeartbeats 4000000 in
theorem eb_X12_wordOf_23 {m : Nat} {ad : Nat → Nat} {fo : Nat → Option Nat} {st : Nat → Nat} {S0 : q_S} (w : r_WF m ad fo st S0)  (S : r_S) (x1 : Int32) (x2 : Int32) (x3 : Int32) (x4 : Int32) (Q : Option Value → q_S → Prop) : wb_X12_wordOf_23 (r_E m fo S S0) m x1 x2 x3 x4 Q ↔ rb_X12_wordOf_23 S x1 x2 x3 x4 (fun r S => Q r (r_E m fo S S0)) := by
  unfold wb_X12_wordOf_23 rb_X12_wordOf_23
  simp only [r_eK, r_eI, r_eIs, r_eP, r_eN, true_and, Option.some.injEq, exists_eq_left', r_all, w.1, r_w1 w 2494 rfl, r_w2 w 2494 21 rfl rfl, r_w3 w 2494 rfl, r_eA w 2494 rfl, r_eAs w 2494 rfl, r_w1 w 2495 rfl, r_w2 w 2495 21 rfl rfl, r_w3 w 2495 rfl, r_eA w 2495 rfl, r_eAs w 2495 rfl, r_w1 w 2496 rfl, r_w2 w 2496 22 rfl rfl, r_w3 w 2496 rfl, r_eA w 2496 rfl, r_eAs w 2496 rfl, r_w1 w 2497 rfl, r_w2 w 2497 21 rfl rfl, r_w3 w 2497 rfl, r_eA w 2497 rfl, r_eAs w 2497 rfl, eb_X12_wordOf_109 w, eb_X12_wordOf_38 w, eb_X12_wordOf_78 w, eb_X12_wordOf_79 w, em_X12_isThing w]
def rm_X12_wordOf (S : r_S) (x1 : Int32) (x2 : Int32) (x3 : Int32) (x4 : Int32) (Q : Option Value → r_S → Prop) : Prop := rm_X12_isPartition (rs_I S 2400 (0 : Int32)) x1 (fun r30_ S31_ => ∃ x32_ : Int32, r30_ = some (.int x32_) ∧ ((x32_ = 0 → (rb_X12_wordOf_38 S31_ Q)) ∧ (¬ x32_ = 0 → ((x2 = (2 : Int32) → (rb_X12_wordOf_23 S31_ x1 x2 x3 x4 Q)) ∧ (¬ x2 = (2 : Int32) → ((¬ x2 = (3 : Int32) → (rb_X12_wordOf_38 S31_ Q)) ∧ (x2 = (3 : Int32) → (rb_X12_wordOf_23 S31_ x1 x2 x3 x4 Q))))))))
set_option maxRecDepth 100000 in
set_option maxHeartbeats 4000000 in
theorem em_X12_wordOf {m : Nat} {ad : Nat → Nat} {fo : Nat → Option Nat} {st : Nat → Nat} {S0 : q_S} (w : r_WF m ad fo st S0)  (S : r_S) (x1 : Int32) (x2 : Int32) (x3 : Int32) (x4 : Int32) (Q : Option Value → q_S → Prop) : wm_X12_wordOf (r_E m fo S S0) m x1 x2 x3 x4 Q ↔ rm_X12_wordOf S x1 x2 x3 x4 (fun r S => Q r (r_E m fo S S0)) := by
  unfold wm_X12_wordOf rm_X12_wordOf
  simp only [r_eK, r_eI, r_eIs, r_eP, r_eN, true_and, Option.some.injEq, exists_eq_left', r_all, w.1, eb_X12_wordOf_23 w, eb_X12_wordOf_38 w, em_X12_isPartition w]
def rb_X12_isChannel_17 (S : r_S) (xs0 : Int32) (Q : Option Value → r_S → Prop) : Prop := narrow .boolean (.int xs0) = .int xs0 ∧ Q (some (.int xs0)) S
set_option maxRecDepth 100000 in
set_option maxHeartbeats 4000000 in
theorem eb_X12_isChannel_17 {m : Nat} {ad : Nat → Nat} {fo : Nat → Option Nat} {st : Nat → Nat} {S0 : q_S} (w : r_WF m ad fo st S0)  (S : r_S) (xs0 : Int32) (Q : Option Value → q_S → Prop) : wb_X12_isChannel_17 (r_E m fo S S0) xs0 Q ↔ rb_X12_isChannel_17 S xs0 (fun r S => Q r (r_E m fo S S0)) := by
  unfold wb_X12_isChannel_17 rb_X12_isChannel_17
  simp only [r_eK, r_eI, r_eIs, r_eP, r_eN, true_and, Option.some.injEq, exists_eq_left', r_all, w.1]
def rb_X12_isChannel_16 (S : r_S) (Q : Option Value → r_S → Prop) : Prop := rb_X12_isChannel_17 S (0 : Int32) Q
set_option maxRecDepth 100000 in
set_option maxHeartbeats 4000000 in
theorem eb_X12_isChannel_16 {m : Nat} {ad : Nat → Nat} {fo : Nat → Option Nat} {st : Nat → Nat} {S0 : q_S} (w : r_WF m ad fo st S0)  (S : r_S) (Q : Option Value → q_S → Prop) : wb_X12_isChannel_16 (r_E m fo S S0) Q ↔ rb_X12_isChannel_16 S (fun r S => Q r (r_E m fo S S0)) := by
  unfold wb_X12_isChannel_16 rb_X12_isChannel_16
  simp only [r_eK, r_eI, r_eIs, r_eP, r_eN, true_and, Option.some.injEq, exists_eq_left', r_all, w.1, eb_X12_isChannel_17 w]
def rm_X12_isChannel (S : r_S) (x1 : Int32) (Q : Option Value → r_S → Prop) : Prop := (x1 < 0 → (rb_X12_isChannel_16 S Q)) ∧ (¬ x1 < 0 → (((r_I S 2416) ≤ x1 → (rb_X12_isChannel_16 S Q)) ∧ (¬ (r_I S 2416) ≤ x1 → (rb_X12_isChannel_17 S (1 : Int32) Q))))
set_option maxRecDepth 100000 in
set_option maxHeartbeats 4000000 in
theorem em_X12_isChannel {m : Nat} {ad : Nat → Nat} {fo : Nat → Option Nat} {st : Nat → Nat} {S0 : q_S} (w : r_WF m ad fo st S0)  (S : r_S) (x1 : Int32) (Q : Option Value → q_S → Prop) : wm_X12_isChannel (r_E m fo S S0) m x1 Q ↔ rm_X12_isChannel S x1 (fun r S => Q r (r_E m fo S S0)) := by
  unfold wm_X12_isChannel rm_X12_isChannel
  simp only [r_eK, r_eI, r_eIs, r_eP, r_eN, true_and, Option.some.injEq, exists_eq_left', r_all, w.1, eb_X12_isChannel_16 w, eb_X12_isChannel_17 w]
def rb_X12_channel_112 (S : r_S) (xs0 : Int32) (Q : Option Value → r_S → Prop) : Prop := Q (some (.int xs0)) S
set_option maxRecDepth 100000 in
set_option maxHeartbeats 4000000 in
theorem eb_X12_channel_112 {m : Nat} {ad : Nat → Nat} {fo : Nat → Option Nat} {st : Nat → Nat} {S0 : q_S} (w : r_WF m ad fo st S0)  (S : r_S) (xs0 : Int32) (Q : Option Value → q_S → Prop) : wb_X12_channel_112 (r_E m fo S S0) xs0 Q ↔ rb_X12_channel_112 S xs0 (fun r S => Q r (r_E m fo S S0)) := by
  unfold wb_X12_channel_112 rb_X12_channel_112
  simp only [r_eK, r_eI, r_eIs, r_eP, r_eN, true_and, Option.some.injEq, exists_eq_left', r_all, w.1]
def rb_X12_channel_111 (S : r_S) (Q : Option Value → r_S → Prop) : Prop := rb_X12_channel_112 S (-1 : Int32) Q
set_option maxRecDepth 100000 in
set_option maxHeartbeats 4000000 in
theorem eb_X12_channel_111 {m : Nat} {ad : Nat → Nat} {fo : Nat → Option Nat} {st : Nat → Nat} {S0 : q_S} (w : r_WF m ad fo st S0)  (S : r_S) (Q : Option Value → q_S → Prop) : wb_X12_channel_111 (r_E m fo S S0) Q ↔ rb_X12_channel_111 S (fun r S => Q r (r_E m fo S S0)) := by
  unfold wb_X12_channel_111 rb_X12_channel_111
  simp only [r_eK, r_eI, r_eIs, r_eP, r_eN, true_and, Option.some.injEq, exists_eq_left', r_all, w.1, eb_X12_channel_112 w]
def rb_X12_channel_70 (S : r_S) (xs0 : Int32) (Q : Option Value → r_S → Prop) : Prop := Q (some (.int xs0)) S
set_option maxRecDepth 100000 in
set_option maxHeartbeats 4000000 in
theorem eb_X12_channel_70 {m : Nat} {ad : Nat → Nat} {fo : Nat → Option Nat} {st : Nat → Nat} {S0 : q_S} (w : r_WF m ad fo st S0)  (S : r_S) (xs0 : Int32) (Q : Option Value → q_S → Prop) : wb_X12_channel_70 (r_E m fo S S0) xs0 Q ↔ rb_X12_channel_70 S xs0 (fun r S => Q r (r_E m fo S S0)) := by
  unfold wb_X12_channel_70 rb_X12_channel_70
  simp only [r_eK, r_eI, r_eIs, r_eP, r_eN, true_and, Option.some.injEq, exists_eq_left', r_all, w.1]
def rm_X12_channel (S : r_S) (x1 : Int32) (x2 : Int32) (Q : Option Value → r_S → Prop) : Prop := rm_X12_isChannel (rs_I S 2400 (0 : Int32)) x1 (fun r2_ S3_ => ∃ x4_ : Int32, r2_ = some (.int x4_) ∧ ((¬ x4_ = 0 → (((x2.toInt < 0 ∨ 5 < x2.toInt) → (Q (some (.int (-1 : Int32))) S3_)) ∧ ((x2 = (0 : Int32)) → (vp_in x1 (r_N 2454) ∧ (((r_A S3_ 2454 x1.toNatClampNeg) = 0 → (rb_X12_channel_70 S3_ (0 : Int32) Q)) ∧ (¬ (r_A S3_ 2454 x1.toNatClampNeg) = 0 → (rb_X12_channel_70 S3_ (1 : Int32) Q))))) ∧ ((x2 = (1 : Int32)) → (rm_X12_wordsOf S3_ x1 (fun r13_ S14_ => ∃ x15_ : Int32, r13_ = some (.int x15_) ∧ (Q (some (.int x15_)) S14_)))) ∧ ((x2 = (2 : Int32)) → (vp_in x1 (r_N 2455) ∧ (Q (some (.int (r_A S3_ 2455 x1.toNatClampNeg))) S3_))) ∧ ((x2 = (3 : Int32)) → (vp_in x1 (r_N 2454) ∧ ((¬ (r_A S3_ 2454 x1.toNatClampNeg) = 0 → (rb_X12_channel_111 S3_ Q)) ∧ ((r_A S3_ 2454 x1.toNatClampNeg) = 0 → (vp_in x1 (r_N 2498) ∧ (((r_A S3_ 2498 x1.toNatClampNeg) = 0 → (rb_X12_channel_111 S3_ Q)) ∧ (¬ (r_A S3_ 2498 x1.toNatClampNeg) = 0 → (vp_in x1 (r_N 2500) ∧ (rb_X12_channel_112 S3_ (r_A S3_ 2500 x1.toNatClampNeg) Q))))))))) ∧ ((x2 = (4 : Int32)) → (vp_in x1 (r_N 2503) ∧ (Q (some (.int (r_A S3_ 2503 x1.toNatClampNeg))) S3_))) ∧ ((x2 = (5 : Int32)) → (vp_in x1 (r_N 2458) ∧ (Q (some (.int (r_A S3_ 2458 x1.toNatClampNeg))) S3_))))) ∧ (x4_ = 0 → (Q (some (.int (-1 : Int32))) S3_))))
set_option maxRecDepth 100000 in
set_option maxHeartbeats 4000000 in
theorem em_X12_channel {m : Nat} {ad : Nat → Nat} {fo : Nat → Option Nat} {st : Nat → Nat} {S0 : q_S} (w : r_WF m ad fo st S0)  (S : r_S) (x1 : Int32) (x2 : Int32) (Q : Option Value → q_S → Prop) : wm_X12_channel (r_E m fo S S0) m x1 x2 Q ↔ rm_X12_channel S x1 x2 (fun r S => Q r (r_E m fo S S0)) := by
  unfold wm_X12_channel rm_X12_channel
  simp only [r_eK, r_eI, r_eIs, r_eP, r_eN, true_and, Option.some.injEq, exists_eq_left', r_all, w.1, r_w1 w 2454 rfl, r_w2 w 2454 22 rfl rfl, r_w3 w 2454 rfl, r_eA w 2454 rfl, r_eAs w 2454 rfl, r_w1 w 2455 rfl, r_w2 w 2455 21 rfl rfl, r_w3 w 2455 rfl, r_eA w 2455 rfl, r_eAs w 2455 rfl, r_w1 w 2458 rfl, r_w2 w 2458 21 rfl rfl, r_w3 w 2458 rfl, r_eA w 2458 rfl, r_eAs w 2458 rfl, r_w1 w 2498 rfl, r_w2 w 2498 22 rfl rfl, r_w3 w 2498 rfl, r_eA w 2498 rfl, r_eAs w 2498 rfl, r_w1 w 2500 rfl, r_w2 w 2500 21 rfl rfl, r_w3 w 2500 rfl, r_eA w 2500 rfl, r_eAs w 2500 rfl, r_w1 w 2503 rfl, r_w2 w 2503 21 rfl rfl, r_w3 w 2503 rfl, r_eA w 2503 rfl, r_eAs w 2503 rfl, eb_X12_channel_111 w, eb_X12_channel_112 w, eb_X12_channel_70 w, em_X12_isChannel w, em_X12_wordsOf w]
def rb_X12_wordAt_26 (S : r_S) (Q : Option Value → r_S → Prop) : Prop := Q (some (.int (0 : Int32))) S
set_option maxRecDepth 100000 in
set_option maxHeartbeats 4000000 in
theorem eb_X12_wordAt_26 {m : Nat} {ad : Nat → Nat} {fo : Nat → Option Nat} {st : Nat → Nat} {S0 : q_S} (w : r_WF m ad fo st S0)  (S : r_S) (Q : Option Value → q_S → Prop) : wb_X12_wordAt_26 (r_E m fo S S0) Q ↔ rb_X12_wordAt_26 S (fun r S => Q r (r_E m fo S S0)) := by
  unfold wb_X12_wordAt_26 rb_X12_wordAt_26
  simp only [r_eK, r_eI, r_eIs, r_eP, r_eN, true_and, Option.some.injEq, exists_eq_left', r_all, w.1]
def rb_X12_wordAt_57 (S : r_S) (xs0 : Int32) (Q : Option Value → r_S → Prop) : Prop := Q (some (.int xs0)) S
set_option maxRecDepth 100000 in
set_option maxHeartbeats 4000000 in
theorem eb_X12_wordAt_57 {m : Nat} {ad : Nat → Nat} {fo : Nat → Option Nat} {st : Nat → Nat} {S0 : q_S} (w : r_WF m ad fo st S0)  (S : r_S) (xs0 : Int32) (Q : Option Value → q_S → Prop) : wb_X12_wordAt_57 (r_E m fo S S0) xs0 Q ↔ rb_X12_wordAt_57 S xs0 (fun r S => Q r (r_E m fo S S0)) := by
  unfold wb_X12_wordAt_57 rb_X12_wordAt_57
  simp only [r_eK, r_eI, r_eIs, r_eP, r_eN, true_and, Option.some.injEq, exists_eq_left', r_all, w.1]
def rm_X12_wordAt (S : r_S) (x1 : Int32) (x2 : Int32) (Q : Option Value → r_S → Prop) : Prop := rm_X12_isChannel (rs_I S 2400 (0 : Int32)) x1 (fun r2_ S3_ => ∃ x4_ : Int32, r2_ = some (.int x4_) ∧ ((x4_ = 0 → (rb_X12_wordAt_26 S3_ Q)) ∧ (¬ x4_ = 0 → ((x2 < 0 → (rb_X12_wordAt_26 S3_ Q)) ∧ (¬ x2 < 0 → (rm_X12_wordsOf S3_ x1 (fun r8_ S9_ => ∃ x10_ : Int32, r8_ = some (.int x10_) ∧ ((x2 < x10_ → (vp_in x1 (r_N 2454) ∧ (((r_A S9_ 2454 x1.toNatClampNeg) = 0 → (vp_in x1 (r_N 2499) ∧ (rb_X12_wordAt_57 S9_ (r_A S9_ 2499 x1.toNatClampNeg) Q))) ∧ (¬ (r_A S9_ 2454 x1.toNatClampNeg) = 0 → (vp_in (((32 : Int32) * x1) + x2) (r_N 2502) ∧ (rb_X12_wordAt_57 S9_ (r_A S9_ 2502 (((32 : Int32) * x1) + x2).toNatClampNeg) Q)))))) ∧ (¬ x2 < x10_ → (rb_X12_wordAt_26 S9_ Q))))))))))
set_option maxRecDepth 100000 in
set_option maxHeartbeats 4000000 in
theorem em_X12_wordAt {m : Nat} {ad : Nat → Nat} {fo : Nat → Option Nat} {st : Nat → Nat} {S0 : q_S} (w : r_WF m ad fo st S0)  (S : r_S) (x1 : Int32) (x2 : Int32) (Q : Option Value → q_S → Prop) : wm_X12_wordAt (r_E m fo S S0) m x1 x2 Q ↔ rm_X12_wordAt S x1 x2 (fun r S => Q r (r_E m fo S S0)) := by
  unfold wm_X12_wordAt rm_X12_wordAt
  simp only [r_eK, r_eI, r_eIs, r_eP, r_eN, true_and, Option.some.injEq, exists_eq_left', r_all, w.1, r_w1 w 2454 rfl, r_w2 w 2454 22 rfl rfl, r_w3 w 2454 rfl, r_eA w 2454 rfl, r_eAs w 2454 rfl, r_w1 w 2499 rfl, r_w2 w 2499 21 rfl rfl, r_w3 w 2499 rfl, r_eA w 2499 rfl, r_eAs w 2499 rfl, r_w1 w 2502 rfl, r_w2 w 2502 21 rfl rfl, r_w3 w 2502 rfl, r_eA w 2502 rfl, r_eAs w 2502 rfl, eb_X12_wordAt_26 w, eb_X12_wordAt_57 w, em_X12_isChannel w, em_X12_wordsOf w]
def rb_X12_trace_47 (S : r_S) (xs0 : Int32) (Q : Option Value → r_S → Prop) : Prop := Q (some (.int xs0)) S
set_option maxRecDepth 100000 in
set_option maxHeartbeats 4000000 in
theorem eb_X12_trace_47 {m : Nat} {ad : Nat → Nat} {fo : Nat → Option Nat} {st : Nat → Nat} {S0 : q_S} (w : r_WF m ad fo st S0)  (S : r_S) (xs0 : Int32) (Q : Option Value → q_S → Prop) : wb_X12_trace_47 (r_E m fo S S0) xs0 Q ↔ rb_X12_trace_47 S xs0 (fun r S => Q r (r_E m fo S S0)) := by
  unfold wb_X12_trace_47 rb_X12_trace_47
  simp only [r_eK, r_eI, r_eIs, r_eP, r_eN, true_and, Option.some.injEq, exists_eq_left', r_all, w.1]
def rb_X12_trace_33 (S : r_S) (Q : Option Value → r_S → Prop) : Prop := rb_X12_trace_47 S (-1 : Int32) Q
set_option maxRecDepth 100000 in
set_option maxHeartbeats 4000000 in
theorem eb_X12_trace_33 {m : Nat} {ad : Nat → Nat} {fo : Nat → Option Nat} {st : Nat → Nat} {S0 : q_S} (w : r_WF m ad fo st S0)  (S : r_S) (Q : Option Value → q_S → Prop) : wb_X12_trace_33 (r_E m fo S S0) Q ↔ rb_X12_trace_33 S (fun r S => Q r (r_E m fo S S0)) := by
  unfold wb_X12_trace_33 rb_X12_trace_33
  simp only [r_eK, r_eI, r_eIs, r_eP, r_eN, true_and, Option.some.injEq, exists_eq_left', r_all, w.1, eb_X12_trace_47 w]
def rm_X12_trace (S : r_S) (x1 : Int32) (x2 : Int32) (Q : Option Value → r_S → Prop) : Prop := (x1 < 0 → (rb_X12_trace_33 (rs_I S 2400 (0 : Int32)) Q)) ∧ (¬ x1 < 0 → (((r_I (rs_I S 2400 (0 : Int32)) 2508) ≤ x1 → (rb_X12_trace_33 (rs_I S 2400 (0 : Int32)) Q)) ∧ (¬ (r_I (rs_I S 2400 (0 : Int32)) 2508) ≤ x1 → (((300 : Int32) ≤ x1 → (rb_X12_trace_33 (rs_I S 2400 (0 : Int32)) Q)) ∧ (¬ (300 : Int32) ≤ x1 → ((x2 < 0 → (rb_X12_trace_33 (rs_I S 2400 (0 : Int32)) Q)) ∧ (¬ x2 < 0 → ((x2 ≤ (2 : Int32) → (vp_in (((3 : Int32) * x1) + x2) (r_N 2511) ∧ (rb_X12_trace_47 (rs_I S 2400 (0 : Int32)) (r_A (rs_I S 2400 (0 : Int32)) 2511 (((3 : Int32) * x1) + x2).toNatClampNeg) Q))) ∧ (¬ x2 ≤ (2 : Int32) → (rb_X12_trace_33 (rs_I S 2400 (0 : Int32)) Q))))))))))
set_option maxRecDepth 100000 in
set_option maxHeartbeats 4000000 in
theorem em_X12_trace {m : Nat} {ad : Nat → Nat} {fo : Nat → Option Nat} {st : Nat → Nat} {S0 : q_S} (w : r_WF m ad fo st S0)  (S : r_S) (x1 : Int32) (x2 : Int32) (Q : Option Value → q_S → Prop) : wm_X12_trace (r_E m fo S S0) m x1 x2 Q ↔ rm_X12_trace S x1 x2 (fun r S => Q r (r_E m fo S S0)) := by
  unfold wm_X12_trace rm_X12_trace
  simp only [r_eK, r_eI, r_eIs, r_eP, r_eN, true_and, Option.some.injEq, exists_eq_left', r_all, w.1, r_w1 w 2511 rfl, r_w2 w 2511 21 rfl rfl, r_w3 w 2511 rfl, r_eA w 2511 rfl, r_eAs w 2511 rfl, eb_X12_trace_33 w, eb_X12_trace_47 w]
def rb_X12_error_32 (S : r_S) (Q : Option Value → r_S → Prop) : Prop := Q (some (.int (-1 : Int32))) S
set_option maxRecDepth 100000 in
set_option maxHeartbeats 4000000 in
theorem eb_X12_error_32 {m : Nat} {ad : Nat → Nat} {fo : Nat → Option Nat} {st : Nat → Nat} {S0 : q_S} (w : r_WF m ad fo st S0)  (S : r_S) (Q : Option Value → q_S → Prop) : wb_X12_error_32 (r_E m fo S S0) Q ↔ rb_X12_error_32 S (fun r S => Q r (r_E m fo S S0)) := by
  unfold wb_X12_error_32 rb_X12_error_32
  simp only [r_eK, r_eI, r_eIs, r_eP, r_eN, true_and, Option.some.injEq, exists_eq_left', r_all, w.1]
def rm_X12_error (S : r_S) (x1 : Int32) (x2 : Int32) (Q : Option Value → r_S → Prop) : Prop := (x1 < 0 → (rb_X12_error_32 (rs_I S 2400 (0 : Int32)) Q)) ∧ (¬ x1 < 0 → (((r_I (rs_I S 2400 (0 : Int32)) 2509) ≤ x1 → (rb_X12_error_32 (rs_I S 2400 (0 : Int32)) Q)) ∧ (¬ (r_I (rs_I S 2400 (0 : Int32)) 2509) ≤ x1 → (((64 : Int32) ≤ x1 → (rb_X12_error_32 (rs_I S 2400 (0 : Int32)) Q)) ∧ (¬ (64 : Int32) ≤ x1 → ((x2 < 0 → (rb_X12_error_32 (rs_I S 2400 (0 : Int32)) Q)) ∧ (¬ x2 < 0 → ((x2 ≤ (5 : Int32) → (vp_in (((6 : Int32) * ((((r_I (rs_I S 2400 (0 : Int32)) 2509) - (1 : Int32)) - x1) - (((r_I (rs_I S 2400 (0 : Int32)) 2509) - (1 : Int32)) - x1) / (64 : Int32) * (64 : Int32))) + x2) (r_N 2512) ∧ (Q (some (.int (r_A (rs_I S 2400 (0 : Int32)) 2512 (((6 : Int32) * ((((r_I (rs_I S 2400 (0 : Int32)) 2509) - (1 : Int32)) - x1) - (((r_I (rs_I S 2400 (0 : Int32)) 2509) - (1 : Int32)) - x1) / (64 : Int32) * (64 : Int32))) + x2).toNatClampNeg))) (rs_I S 2400 (0 : Int32))))) ∧ (¬ x2 ≤ (5 : Int32) → (rb_X12_error_32 (rs_I S 2400 (0 : Int32)) Q))))))))))
set_option maxRecDepth 100000 in
set_option maxHeartbeats 4000000 in
theorem em_X12_error {m : Nat} {ad : Nat → Nat} {fo : Nat → Option Nat} {st : Nat → Nat} {S0 : q_S} (w : r_WF m ad fo st S0)  (S : r_S) (x1 : Int32) (x2 : Int32) (Q : Option Value → q_S → Prop) : wm_X12_error (r_E m fo S S0) m x1 x2 Q ↔ rm_X12_error S x1 x2 (fun r S => Q r (r_E m fo S S0)) := by
  unfold wm_X12_error rm_X12_error
  simp only [r_eK, r_eI, r_eIs, r_eP, r_eN, true_and, Option.some.injEq, exists_eq_left', r_all, w.1, r_w1 w 2512 rfl, r_w2 w 2512 21 rfl rfl, r_w3 w 2512 rfl, r_eA w 2512 rfl, r_eAs w 2512 rfl, eb_X12_error_32 w]
def rb_X12_about_95 (S : r_S) (xs0 : Int32) (Q : Option Value → r_S → Prop) : Prop := Q (some (.int xs0)) S
set_option maxRecDepth 100000 in
set_option maxHeartbeats 4000000 in
theorem eb_X12_about_95 {m : Nat} {ad : Nat → Nat} {fo : Nat → Option Nat} {st : Nat → Nat} {S0 : q_S} (w : r_WF m ad fo st S0)  (S : r_S) (xs0 : Int32) (Q : Option Value → q_S → Prop) : wb_X12_about_95 (r_E m fo S S0) xs0 Q ↔ rb_X12_about_95 S xs0 (fun r S => Q r (r_E m fo S S0)) := by
  unfold wb_X12_about_95 rb_X12_about_95
  simp only [r_eK, r_eI, r_eIs, r_eP, r_eN, true_and, Option.some.injEq, exists_eq_left', r_all, w.1]
def rm_X12_about (S : r_S) (x1 : Int32) (Q : Option Value → r_S → Prop) : Prop := ((x1.toInt < 0 ∨ 9 < x1.toInt) → (Q (some (.int (-1 : Int32))) (rs_I S 2400 (0 : Int32)))) ∧ ((x1 = (0 : Int32)) → (Q (some (.int (r_I (rs_I S 2400 (0 : Int32)) 2463))) (rs_I S 2400 (0 : Int32)))) ∧ ((x1 = (1 : Int32)) → (Q (some (.int (r_I (rs_I S 2400 (0 : Int32)) 2509))) (rs_I S 2400 (0 : Int32)))) ∧ ((x1 = (2 : Int32)) → (Q (some (.int (r_I (rs_I S 2400 (0 : Int32)) 2510))) (rs_I S 2400 (0 : Int32)))) ∧ ((x1 = (3 : Int32)) → (((r_I (rs_I S 2400 (0 : Int32)) 2414) = 0 → (rb_X12_about_95 (rs_I S 2400 (0 : Int32)) (-1 : Int32) Q)) ∧ (¬ (r_I (rs_I S 2400 (0 : Int32)) 2414) = 0 → (rm_X12_window (rs_I S 2400 (0 : Int32)) (fun r3_ S4_ => ∃ x5_ : Int32, r3_ = some (.int x5_) ∧ (vp_in x5_ (r_N 2461) ∧ (rb_X12_about_95 S4_ (r_A S4_ 2461 x5_.toNatClampNeg) Q))))))) ∧ ((x1 = (4 : Int32)) → (Q (some (.int (r_I (rs_I S 2400 (0 : Int32)) 2508))) (rs_I S 2400 (0 : Int32)))) ∧ ((x1 = (5 : Int32)) → (Q (some (.int (r_I (rs_I S 2400 (0 : Int32)) 2415))) (rs_I S 2400 (0 : Int32)))) ∧ ((x1 = (6 : Int32)) → (Q (some (.int (r_I (rs_I S 2400 (0 : Int32)) 2416))) (rs_I S 2400 (0 : Int32)))) ∧ ((x1 = (7 : Int32)) → (Q (some (.int (r_I (rs_I S 2400 (0 : Int32)) 2417))) (rs_I S 2400 (0 : Int32)))) ∧ ((x1 = (8 : Int32)) → (Q (some (.int (r_I (rs_I S 2400 (0 : Int32)) 2418))) (rs_I S 2400 (0 : Int32)))) ∧ ((x1 = (9 : Int32)) → (Q (some (.int (r_I (rs_I S 2400 (0 : Int32)) 2419))) (rs_I S 2400 (0 : Int32))))
set_option maxRecDepth 100000 in
set_option maxHeartbeats 4000000 in
theorem em_X12_about {m : Nat} {ad : Nat → Nat} {fo : Nat → Option Nat} {st : Nat → Nat} {S0 : q_S} (w : r_WF m ad fo st S0)  (S : r_S) (x1 : Int32) (Q : Option Value → q_S → Prop) : wm_X12_about (r_E m fo S S0) m x1 Q ↔ rm_X12_about S x1 (fun r S => Q r (r_E m fo S S0)) := by
  unfold wm_X12_about rm_X12_about
  simp only [r_eK, r_eI, r_eIs, r_eP, r_eN, true_and, Option.some.injEq, exists_eq_left', r_all, w.1, r_w1 w 2461 rfl, r_w2 w 2461 21 rfl rfl, r_w3 w 2461 rfl, r_eA w 2461 rfl, r_eAs w 2461 rfl, eb_X12_about_95 w, em_X12_window w]
