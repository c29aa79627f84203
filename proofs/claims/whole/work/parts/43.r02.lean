def rb_X12_forget_317 (B317 : r_S → Int32 → Prop) (S : r_S) (x1 : Int32) (Q : Option Value → r_S → Prop) : Prop := ((24 : Int32) ≤ x1 → (Q none S)) ∧ (¬ (24 : Int32) ≤ x1 → (vp_in x1 (r_N 2498) ∧ (vp_in x1 (r_N 2501) ∧ (vp_in x1 (r_N 2503) ∧ (∀ S15_ : r_S, S15_ = (rs_A (rs_A (rs_A S 2498 x1.toNatClampNeg (vp_nar .boolean (0 : Int32))) 2501 x1.toNatClampNeg (0 : Int32)) 2503 x1.toNatClampNeg (0 : Int32)) → (vp_in x1 (r_N 2504) ∧ (vp_in x1 (r_N 2505) ∧ (B317 (rs_A (rs_A S15_ 2504 x1.toNatClampNeg (0 : Int32)) 2505 x1.toNatClampNeg (0 : Int32)) (x1 + 1)))))))))
set_option maxRecDepth 100000 in
set_option maxHeartbeats 4000000 in
theorem eb_X12_forget_317 {m : Nat} {ad : Nat → Nat} {fo : Nat → Option Nat} {st : Nat → Nat} {S0 : q_S} (w : r_WF m ad fo st S0) {OB317 : q_S → Nat → Int32 → Prop} {B317 : r_S → Int32 → Prop} (hB317 : ∀ (S : r_S) (y2 : Int32), (OB317 (r_E m fo S S0) m y2 ↔ B317 S y2)) (S : r_S) (x1 : Int32) (Q : Option Value → q_S → Prop) : wb_X12_forget_317 OB317 (r_E m fo S S0) m x1 Q ↔ rb_X12_forget_317 B317 S x1 (fun r S => Q r (r_E m fo S S0)) := by
  unfold wb_X12_forget_317 rb_X12_forget_317
  simp only [r_eK, r_eI, r_eIs, r_eP, r_eN, true_and, Option.some.injEq, exists_eq_left', r_all, w.1, r_w1 w 2498 rfl, r_w2 w 2498 22 rfl rfl, r_w3 w 2498 rfl, r_eA w 2498 rfl, r_eAs w 2498 rfl, r_w1 w 2501 rfl, r_w2 w 2501 21 rfl rfl, r_w3 w 2501 rfl, r_eA w 2501 rfl, r_eAs w 2501 rfl, r_w1 w 2503 rfl, r_w2 w 2503 21 rfl rfl, r_w3 w 2503 rfl, r_eA w 2503 rfl, r_eAs w 2503 rfl, r_w1 w 2504 rfl, r_w2 w 2504 21 rfl rfl, r_w3 w 2504 rfl, r_eA w 2504 rfl, r_eAs w 2504 rfl, r_w1 w 2505 rfl, r_w2 w 2505 21 rfl rfl, r_w3 w 2505 rfl, r_eA w 2505 rfl, r_eAs w 2505 rfl, hB317]
def rl_X12_forget_317  : Nat → r_S → Int32 → (Option Value → r_S → Prop) → Prop
  | 0, _, _, _ => False
  | n + 1, S, x1, Q => rb_X12_forget_317 (fun S x1 => rl_X12_forget_317 n S x1 Q) S x1 Q
set_option maxRecDepth 100000 in
theorem el_X12_forget_317 {m : Nat} {ad : Nat → Nat} {fo : Nat → Option Nat} {st : Nat → Nat} {S0 : q_S} (w : r_WF m ad fo st S0)  (n : Nat) (S : r_S) (x1 : Int32) (Q : Option Value → q_S → Prop) : wl_X12_forget_317 n (r_E m fo S S0) m x1 Q ↔ rl_X12_forget_317 n S x1 (fun r S => Q r (r_E m fo S S0)) := by
  induction n generalizing S x1 with
  | zero => exact Iff.rfl
  | succ n ih => exact eb_X12_forget_317 w (fun _ _ => ih _ _) S x1 Q
def rb_X12_forget_246 (B246 : r_S → Int32 → Prop) (S : r_S) (x1 : Int32) (Q : Option Value → r_S → Prop) : Prop := ((256 : Int32) ≤ x1 → (∃ n25_ : Nat, rl_X12_forget_317 n25_ S (0 : Int32) Q)) ∧ (¬ (256 : Int32) ≤ x1 → (vp_in x1 (r_N 2467) ∧ (vp_in x1 (r_N 2468) ∧ (vp_in x1 (r_N 2470) ∧ (∀ S39_ : r_S, S39_ = (rs_A (rs_A (rs_A S 2467 x1.toNatClampNeg (0 : Int32)) 2468 x1.toNatClampNeg (0 : Int32)) 2470 x1.toNatClampNeg (vp_nar .boolean (0 : Int32))) → (vp_in x1 (r_N 2472) ∧ (vp_in x1 (r_N 2473) ∧ (vp_in x1 (r_N 2474) ∧ (∀ S52_ : r_S, S52_ = (rs_A (rs_A (rs_A S39_ 2472 x1.toNatClampNeg (-1 : Int32)) 2473 x1.toNatClampNeg (0 : Int32)) 2474 x1.toNatClampNeg (0 : Int32)) → (vp_in x1 (r_N 2475) ∧ (vp_in x1 (r_N 2478) ∧ (B246 (rs_A (rs_A S52_ 2475 x1.toNatClampNeg (vp_nar .boolean (0 : Int32))) 2478 x1.toNatClampNeg (0 : Int32)) (x1 + 1)))))))))))))
set_option maxRecDepth 100000 in
set_option maxHeartbeats 4000000 in
theorem eb_X12_forget_246 {m : Nat} {ad : Nat → Nat} {fo : Nat → Option Nat} {st : Nat → Nat} {S0 : q_S} (w : r_WF m ad fo st S0) {OB246 : q_S → Nat → Int32 → Prop} {B246 : r_S → Int32 → Prop} (hB246 : ∀ (S : r_S) (y2 : Int32), (OB246 (r_E m fo S S0) m y2 ↔ B246 S y2)) (S : r_S) (x1 : Int32) (Q : Option Value → q_S → Prop) : wb_X12_forget_246 OB246 (r_E m fo S S0) m x1 Q ↔ rb_X12_forget_246 B246 S x1 (fun r S => Q r (r_E m fo S S0)) := by
  unfold wb_X12_forget_246 rb_X12_forget_246
  simp only [r_eK, r_eI, r_eIs, r_eP, r_eN, true_and, Option.some.injEq, exists_eq_left', r_all, w.1, r_w1 w 2467 rfl, r_w2 w 2467 21 rfl rfl, r_w3 w 2467 rfl, r_eA w 2467 rfl, r_eAs w 2467 rfl, r_w1 w 2468 rfl, r_w2 w 2468 21 rfl rfl, r_w3 w 2468 rfl, r_eA w 2468 rfl, r_eAs w 2468 rfl, r_w1 w 2470 rfl, r_w2 w 2470 22 rfl rfl, r_w3 w 2470 rfl, r_eA w 2470 rfl, r_eAs w 2470 rfl, r_w1 w 2472 rfl, r_w2 w 2472 21 rfl rfl, r_w3 w 2472 rfl, r_eA w 2472 rfl, r_eAs w 2472 rfl, r_w1 w 2473 rfl, r_w2 w 2473 21 rfl rfl, r_w3 w 2473 rfl, r_eA w 2473 rfl, r_eAs w 2473 rfl, r_w1 w 2474 rfl, r_w2 w 2474 21 rfl rfl, r_w3 w 2474 rfl, r_eA w 2474 rfl, r_eAs w 2474 rfl, r_w1 w 2475 rfl, r_w2 w 2475 22 rfl rfl, r_w3 w 2475 rfl, r_eA w 2475 rfl, r_eAs w 2475 rfl, r_w1 w 2478 rfl, r_w2 w 2478 21 rfl rfl, r_w3 w 2478 rfl, r_eA w 2478 rfl, r_eAs w 2478 rfl, el_X12_forget_317 w, hB246]
def rl_X12_forget_246  : Nat → r_S → Int32 → (Option Value → r_S → Prop) → Prop
  | 0, _, _, _ => False
  | n + 1, S, x1, Q => rb_X12_forget_246 (fun S x1 => rl_X12_forget_246 n S x1 Q) S x1 Q
set_option maxRecDepth 100000 in
theorem el_X12_forget_246 {m : Nat} {ad : Nat → Nat} {fo : Nat → Option Nat} {st : Nat → Nat} {S0 : q_S} (w : r_WF m ad fo st S0)  (n : Nat) (S : r_S) (x1 : Int32) (Q : Option Value → q_S → Prop) : wl_X12_forget_246 n (r_E m fo S S0) m x1 Q ↔ rl_X12_forget_246 n S x1 (fun r S => Q r (r_E m fo S S0)) := by
  induction n generalizing S x1 with
  | zero => exact Iff.rfl
  | succ n ih => exact eb_X12_forget_246 w (fun _ _ => ih _ _) S x1 Q
def rb_X12_forget_225 (B225 : r_S → Int32 → Prop) (S : r_S) (x1 : Int32) (Q : Option Value → r_S → Prop) : Prop := ((80 : Int32) ≤ x1 → (∃ n62_ : Nat, rl_X12_forget_246 n62_ S (0 : Int32) Q)) ∧ (¬ (80 : Int32) ≤ x1 → (vp_in x1 (r_N 2452) ∧ (B225 (rs_A S 2452 x1.toNatClampNeg (0 : Int32)) (x1 + 1))))
set_option maxRecDepth 100000 in
set_option maxHeartbeats 4000000 in
theorem eb_X12_forget_225 {m : Nat} {ad : Nat → Nat} {fo : Nat → Option Nat} {st : Nat → Nat} {S0 : q_S} (w : r_WF m ad fo st S0) {OB225 : q_S → Nat → Int32 → Prop} {B225 : r_S → Int32 → Prop} (hB225 : ∀ (S : r_S) (y2 : Int32), (OB225 (r_E m fo S S0) m y2 ↔ B225 S y2)) (S : r_S) (x1 : Int32) (Q : Option Value → q_S → Prop) : wb_X12_forget_225 OB225 (r_E m fo S S0) m x1 Q ↔ rb_X12_forget_225 B225 S x1 (fun r S => Q r (r_E m fo S S0)) := by
  unfold wb_X12_forget_225 rb_X12_forget_225
  simp only [r_eK, r_eI, r_eIs, r_eP, r_eN, true_and, Option.some.injEq, exists_eq_left', r_all, w.1, r_w1 w 2452 rfl, r_w2 w 2452 21 rfl rfl, r_w3 w 2452 rfl, r_eA w 2452 rfl, r_eAs w 2452 rfl, el_X12_forget_246 w, hB225]
def rl_X12_forget_225  : Nat → r_S → Int32 → (Option Value → r_S → Prop) → Prop
  | 0, _, _, _ => False
  | n + 1, S, x1, Q => rb_X12_forget_225 (fun S x1 => rl_X12_forget_225 n S x1 Q) S x1 Q
set_option maxRecDepth 100000 in
theorem el_X12_forget_225 {m : Nat} {ad : Nat → Nat} {fo : Nat → Option Nat} {st : Nat → Nat} {S0 : q_S} (w : r_WF m ad fo st S0)  (n : Nat) (S : r_S) (x1 : Int32) (Q : Option Value → q_S → Prop) : wl_X12_forget_225 n (r_E m fo S S0) m x1 Q ↔ rl_X12_forget_225 n S x1 (fun r S => Q r (r_E m fo S S0)) := by
  induction n generalizing S x1 with
  | zero => exact Iff.rfl
  | succ n ih => exact eb_X12_forget_225 w (fun _ _ => ih _ _) S x1 Q
def rb_X12_forget_204 (B204 : r_S → Int32 → Prop) (S : r_S) (x1 : Int32) (Q : Option Value → r_S → Prop) : Prop := ((96 : Int32) ≤ x1 → (∃ n69_ : Nat, rl_X12_forget_225 n69_ S (0 : Int32) Q)) ∧ (¬ (96 : Int32) ≤ x1 → (vp_in x1 (r_N 2435) ∧ (B204 (rs_A S 2435 x1.toNatClampNeg (0 : Int32)) (x1 + 1))))
set_option maxRecDepth 100000 in
set_option maxHeartbeats 4000000 in
theorem eb_X12_forget_204 {m : Nat} {ad : Nat → Nat} {fo : Nat → Option Nat} {st : Nat → Nat} {S0 : q_S} (w : r_WF m ad fo st S0) {OB204 : q_S → Nat → Int32 → Prop} {B204 : r_S → Int32 → Prop} (hB204 : ∀ (S : r_S) (y2 : Int32), (OB204 (r_E m fo S S0) m y2 ↔ B204 S y2)) (S : r_S) (x1 : Int32) (Q : Option Value → q_S → Prop) : wb_X12_forget_204 OB204 (r_E m fo S S0) m x1 Q ↔ rb_X12_forget_204 B204 S x1 (fun r S => Q r (r_E m fo S S0)) := by
  unfold wb_X12_forget_204 rb_X12_forget_204
  simp only [r_eK, r_eI, r_eIs, r_eP, r_eN, true_and, Option.some.injEq, exists_eq_left', r_all, w.1, r_w1 w 2435 rfl, r_w2 w 2435 21 rfl rfl, r_w3 w 2435 rfl, r_eA w 2435 rfl, r_eAs w 2435 rfl, el_X12_forget_225 w, hB204]
def rl_X12_forget_204  : Nat → r_S → Int32 → (Option Value → r_S → Prop) → Prop
  | 0, _, _, _ => False
  | n + 1, S, x1, Q => rb_X12_forget_204 (fun S x1 => rl_X12_forget_204 n S x1 Q) S x1 Q
set_option maxRecDepth 100000 in
theorem el_X12_forget_204 {m : Nat} {ad : Nat → Nat} {fo : Nat → Option Nat} {st : Nat → Nat} {S0 : q_S} (w : r_WF m ad fo st S0)  (n : Nat) (S : r_S) (x1 : Int32) (Q : Option Value → q_S → Prop) : wl_X12_forget_204 n (r_E m fo S S0) m x1 Q ↔ rl_X12_forget_204 n S x1 (fun r S => Q r (r_E m fo S S0)) := by
  induction n generalizing S x1 with
  | zero => exact Iff.rfl
  | succ n ih => exact eb_X12_forget_204 w (fun _ _ => ih _ _) S x1 Q
def rb_X12_forget_120 (B120 : r_S → Int32 → Prop) (S : r_S) (x1 : Int32) (Q : Option Value → r_S → Prop) : Prop := ((16 : Int32) ≤ x1 → (∃ n76_ : Nat, rl_X12_forget_204 n76_ S (0 : Int32) Q)) ∧ (¬ (16 : Int32) ≤ x1 → (vp_in x1 (r_N 2430) ∧ (vp_in x1 (r_N 2442) ∧ (vp_in x1 (r_N 2451) ∧ (∀ S90_ : r_S, S90_ = (rs_A (rs_A (rs_A S 2430 x1.toNatClampNeg (0 : Int32)) 2442 x1.toNatClampNeg (-1 : Int32)) 2451 x1.toNatClampNeg (vp_nar .boolean (0 : Int32))) → (vp_in x1 (r_N 2483) ∧ (vp_in x1 (r_N 2484) ∧ (vp_in x1 (r_N 2485) ∧ (∀ S103_ : r_S, S103_ = (rs_A (rs_A (rs_A S90_ 2483 x1.toNatClampNeg (0 : Int32)) 2484 x1.toNatClampNeg (-1 : Int32)) 2485 x1.toNatClampNeg (0 : Int32)) → (vp_in x1 (r_N 2486) ∧ (vp_in x1 (r_N 2487) ∧ (vp_in x1 (r_N 2488) ∧ (∀ S116_ : r_S, S116_ = (rs_A (rs_A (rs_A S103_ 2486 x1.toNatClampNeg (0 : Int32)) 2487 x1.toNatClampNeg (-1 : Int32)) 2488 x1.toNatClampNeg (-1 : Int32)) → (vp_in x1 (r_N 2491) ∧ (B120 (rs_A S116_ 2491 x1.toNatClampNeg (0 : Int32)) (x1 + 1))))))))))))))))
set_option maxRecDepth 100000 in
set_option maxHeartbeats 4000000 in
theorem eb_X12_forget_120 {m : Nat} {ad : Nat → Nat} {fo : Nat → Option Nat} {st : Nat → Nat} {S0 : q_S} (w : r_WF m ad fo st S0) {OB120 : q_S → Nat → Int32 → Prop} {B120 : r_S → Int32 → Prop} (hB120 : ∀ (S : r_S) (y2 : Int32), (OB120 (r_E m fo S S0) m y2 ↔ B120 S y2)) (S : r_S) (x1 : Int32) (Q : Option Value → q_S → Prop) : wb_X12_forget_120 OB120 (r_E m fo S S0) m x1 Q ↔ rb_X12_forget_120 B120 S x1 (fun r S => Q r (r_E m fo S S0)) := by
  unfold wb_X12_forget_120 rb_X12_forget_120
  simp only [r_eK, r_eI, r_eIs, r_eP, r_eN, true_and, Option.some.injEq, exists_eq_left', r_all, w.1, r_w1 w 2430 rfl, r_w2 w 2430 21 rfl rfl, r_w3 w 2430 rfl, r_eA w 2430 rfl, r_eAs w 2430 rfl, r_w1 w 2442 rfl, r_w2 w 2442 21 rfl rfl, r_w3 w 2442 rfl, r_eA w 2442 rfl, r_eAs w 2442 rfl, r_w1 w 2451 rfl, r_w2 w 2451 22 rfl rfl, r_w3 w 2451 rfl, r_eA w 2451 rfl, r_eAs w 2451 rfl, r_w1 w 2483 rfl, r_w2 w 2483 21 rfl rfl, r_w3 w 2483 rfl, r_eA w 2483 rfl, r_eAs w 2483 rfl, r_w1 w 2484 rfl, r_w2 w 2484 21 rfl rfl, r_w3 w 2484 rfl, r_eA w 2484 rfl, r_eAs w 2484 rfl, r_w1 w 2485 rfl, r_w2 w 2485 21 rfl rfl, r_w3 w 2485 rfl, r_eA w 2485 rfl, r_eAs w 2485 rfl, r_w1 w 2486 rfl, r_w2 w 2486 21 rfl rfl, r_w3 w 2486 rfl, r_eA w 2486 rfl, r_eAs w 2486 rfl, r_w1 w 2487 rfl, r_w2 w 2487 21 rfl rfl, r_w3 w 2487 rfl, r_eA w 2487 rfl, r_eAs w 2487 rfl, r_w1 w 2488 rfl, r_w2 w 2488 21 rfl rfl, r_w3 w 2488 rfl, r_eA w 2488 rfl, r_eAs w 2488 rfl, r_w1 w 2491 rfl, r_w2 w 2491 21 rfl rfl, r_w3 w 2491 rfl, r_eA w 2491 rfl, r_eAs w 2491 rfl, el_X12_forget_204 w, hB120]
def rl_X12_forget_120  : Nat → r_S → Int32 → (Option Value → r_S → Prop) → Prop
  | 0, _, _, _ => False
  | n + 1, S, x1, Q => rb_X12_forget_120 (fun S x1 => rl_X12_forget_120 n S x1 Q) S x1 Q
set_option maxRecDepth 100000 in
theorem el_X12_forget_120 {m : Nat} {ad : Nat → Nat} {fo : Nat → Option Nat} {st : Nat → Nat} {S0 : q_S} (w : r_WF m ad fo st S0)  (n : Nat) (S : r_S) (x1 : Int32) (Q : Option Value → q_S → Prop) : wl_X12_forget_120 n (r_E m fo S S0) m x1 Q ↔ rl_X12_forget_120 n S x1 (fun r S => Q r (r_E m fo S S0)) := by
  induction n generalizing S x1 with
  | zero => exact Iff.rfl
  | succ n ih => exact eb_X12_forget_120 w (fun _ _ => ih _ _) S x1 Q
def rb_X12_forget_98 (B98 : r_S → Int32 → Prop) (S : r_S) (x1 : Int32) (Q : Option Value → r_S → Prop) : Prop := ((8192 : Int32) ≤ x1 → (∃ n122_ : Nat, rl_X12_forget_120 n122_ S (0 : Int32) Q)) ∧ (¬ (8192 : Int32) ≤ x1 → (vp_in x1 (r_N 2477) ∧ (B98 (rs_A S 2477 x1.toNatClampNeg (0 : Int32)) (x1 + 1))))
set_option maxRecDepth 100000 in
set_option maxHeartbeats 4000000 in
theorem eb_X12_forget_98 {m : Nat} {ad : Nat → Nat} {fo : Nat → Option Nat} {st : Nat → Nat} {S0 : q_S} (w : r_WF m ad fo st S0) {OB98 : q_S → Nat → Int32 → Prop} {B98 : r_S → Int32 → Prop} (hB98 : ∀ (S : r_S) (y2 : Int32), (OB98 (r_E m fo S S0) m y2 ↔ B98 S y2)) (S : r_S) (x1 : Int32) (Q : Option Value → q_S → Prop) : wb_X12_forget_98 OB98 (r_E m fo S S0) m x1 Q ↔ rb_X12_forget_98 B98 S x1 (fun r S => Q r (r_E m fo S S0)) := by
  unfold wb_X12_forget_98 rb_X12_forget_98
  simp only [r_eK, r_eI, r_eIs, r_eP, r_eN, true_and, Option.some.injEq, exists_eq_left', r_all, w.1, r_w1 w 2477 rfl, r_w2 w 2477 21 rfl rfl, r_w3 w 2477 rfl, r_eA w 2477 rfl, r_eAs w 2477 rfl, el_X12_forget_120 w, hB98]
def rl_X12_forget_98  : Nat → r_S → Int32 → (Option Value → r_S → Prop) → Prop
  | 0, _, _, _ => False
  | n + 1, S, x1, Q => rb_X12_forget_98 (fun S x1 => rl_X12_forget_98 n S x1 Q) S x1 Q
set_option maxRecDepth 100000 in
theorem el_X12_forget_98 {m : Nat} {ad : Nat → Nat} {fo : Nat → Option Nat} {st : Nat → Nat} {S0 : q_S} (w : r_WF m ad fo st S0)  (n : Nat) (S : r_S) (x1 : Int32) (Q : Option Value → q_S → Prop) : wl_X12_forget_98 n (r_E m fo S S0) m x1 Q ↔ rl_X12_forget_98 n S x1 (fun r S => Q r (r_E m fo S S0)) := by
  induction n generalizing S x1 with
  | zero => exact Iff.rfl
  | succ n ih => exact eb_X12_forget_98 w (fun _ _ => ih _ _) S x1 Q
def rb_X12_forget_77 (B77 : r_S → Int32 → Prop) (S : r_S) (x1 : Int32) (Q : Option Value → r_S → Prop) : Prop := ((131072 : Int32) ≤ x1 → (∃ n129_ : Nat, rl_X12_forget_98 n129_ S (0 : Int32) Q)) ∧ (¬ (131072 : Int32) ≤ x1 → (vp_in x1 (r_N 2465) ∧ (B77 (rs_A S 2465 x1.toNatClampNeg (vp_nar .byte (0 : Int32))) (x1 + 1))))
set_option maxRecDepth 100000 in
set_option maxHeartbeats 4000000 in
theorem eb_X12_forget_77 {m : Nat} {ad : Nat → Nat} {fo : Nat → Option Nat} {st : Nat → Nat} {S0 : q_S} (w : r_WF m ad fo st S0) {OB77 : q_S → Nat → Int32 → Prop} {B77 : r_S → Int32 → Prop} (hB77 : ∀ (S : r_S) (y2 : Int32), (OB77 (r_E m fo S S0) m y2 ↔ B77 S y2)) (S : r_S) (x1 : Int32) (Q : Option Value → q_S → Prop) : wb_X12_forget_77 OB77 (r_E m fo S S0) m x1 Q ↔ rb_X12_forget_77 B77 S x1 (fun r S => Q r (r_E m fo S S0)) := by
  unfold wb_X12_forget_77 rb_X12_forget_77
  simp only [r_eK, r_eI, r_eIs, r_eP, r_eN, true_and, Option.some.injEq, exists_eq_left', r_all, w.1, r_w1 w 2465 rfl, r_w2 w 2465 20 rfl rfl, r_w3 w 2465 rfl, r_eA w 2465 rfl, r_eAs w 2465 rfl, el_X12_forget_98 w, hB77]
def rl_X12_forget_77  : Nat → r_S → Int32 → (Option Value → r_S → Prop) → Prop
  | 0, _, _, _ => False
  | n + 1, S, x1, Q => rb_X12_forget_77 (fun S x1 => rl_X12_forget_77 n S x1 Q) S x1 Q
set_option maxRecDepth 100000 in
theorem el_X12_forget_77 {m : Nat} {ad : Nat → Nat} {fo : Nat → Option Nat} {st : Nat → Nat} {S0 : q_S} (w : r_WF m ad fo st S0)  (n : Nat) (S : r_S) (x1 : Int32) (Q : Option Value → q_S → Prop) : wl_X12_forget_77 n (r_E m fo S S0) m x1 Q ↔ rl_X12_forget_77 n S x1 (fun r S => Q r (r_E m fo S S0)) := by
  induction n generalizing S x1 with
  | zero => exact Iff.rfl
  | succ n ih => exact eb_X12_forget_77 w (fun _ _ => ih _ _) S x1 Q
def rm_X12_forget (S : r_S) (Q : Option Value → r_S → Prop) : Prop := ∀ S136_ : r_S, S136_ = (rs_I (rs_I (rs_I S 2411 (0 : Int32)) 2412 (-1 : Int32)) 2414 (0 : Int32)) → (∀ S137_ : r_S, S137_ = (rs_I (rs_I (rs_I S136_ 2415 (0 : Int32)) 2416 (0 : Int32)) 2417 (0 : Int32)) → (∀ S138_ : r_S, S138_ = (rs_I (rs_I (rs_I S137_ 2418 (0 : Int32)) 2419 (0 : Int32)) 2420 (0 : Int32)) → (∀ S139_ : r_S, S139_ = (rs_I (rs_I (rs_I S138_ 2422 (0 : Int32)) 2463 (0 : Int32)) 2464 (0 : Int32)) → (∀ S140_ : r_S, S140_ = (rs_I (rs_I (rs_I S139_ 2508 (0 : Int32)) 2509 (0 : Int32)) 2510 (0 : Int32)) → (∃ n141_ : Nat, rl_X12_forget_77 n141_ S140_ (0 : Int32) Q)))))
set_option maxRecDepth 100000 in
set_option maxHeartbeats 4000000 in
theorem em_X12_forget {m : Nat} {ad : Nat → Nat} {fo : Nat → Option Nat} {st : Nat → Nat} {S0 : q_S} (w : r_WF m ad fo st S0)  (S : r_S) (Q : Option Value → q_S → Prop) : wm_X12_forget (r_E m fo S S0) m Q ↔ rm_X12_forget S (fun r S => Q r (r_E m fo S S0)) := by
  unfold wm_X12_forget rm_X12_forget
  simp only [r_eK, r_eI, r_eIs, r_eP, r_eN, true_and, Option.some.injEq, exists_eq_left', r_all, w.1, el_X12_forget_77 w]
def rb_X12_things_49 (B5 : r_S → Int32 → Int32 → Prop) (S : r_S) (x1 : Int32) (x2 : Int32) (xs1 : Int32) (xs2 : Int32) (Q : Option Value → r_S → Prop) : Prop := vp_in xs1 (r_N 2492) ∧ (vp_in x2 (r_N 2493) ∧ (vp_in x2 (r_N 2494) ∧ (∀ S14_ : r_S, S14_ = (rs_A (rs_A (rs_A S 2492 xs1.toNatClampNeg xs2) 2493 x2.toNatClampNeg (vp_nar .boolean (0 : Int32))) 2494 x2.toNatClampNeg (0 : Int32)) → (vp_in x2 (r_N 2496) ∧ (B5 (rs_A S14_ 2496 x2.toNatClampNeg (vp_nar .boolean (0 : Int32))) x1 (x2 + 1))))))
set_option maxRecDepth 100000 in
set_option maxHeartbeats 4000000 in
theorem eb_X12_things_49 {m : Nat} {ad : Nat → Nat} {fo : Nat → Option Nat} {st : Nat → Nat} {S0 : q_S} (w : r_WF m ad fo st S0) {OB5 : q_S → Nat → Int32 → Int32 → Prop} {B5 : r_S → Int32 → Int32 → Prop} (hB5 : ∀ (S : r_S) (y2 : Int32) (y3 : Int32), (OB5 (r_E m fo S S0) m y2 y3 ↔ B5 S y2 y3)) (S : r_S) (x1 : Int32) (x2 : Int32) (xs1 : Int32) (xs2 : Int32) (Q : Option Value → q_S → Prop) : wb_X12_things_49 OB5 (r_E m fo S S0) m x1 x2 (some (ad 2492)) xs1 xs2 Q ↔ rb_X12_things_49 B5 S x1 x2 xs1 xs2 (fun r S => Q r (r_E m fo S S0)) := by
  unfold wb_X12_things_49 rb_X12_things_49
  simp only [r_eK, r_eI, r_eIs, r_eP, r_eN, true_and, Option.some.injEq, exists_eq_left', r_all, w.1, r_w1 w 2492 rfl, r_w2 w 2492 21 rfl rfl, r_w3 w 2492 rfl, r_eA w 2492 rfl, r_eAs w 2492 rfl, r_w1 w 2493 rfl, r_w2 w 2493 22 rfl rfl, r_w3 w 2493 rfl, r_eA w 2493 rfl, r_eAs w 2493 rfl, r_w1 w 2494 rfl, r_w2 w 2494 21 rfl rfl, r_w3 w 2494 rfl, r_eA w 2494 rfl, r_eAs w 2494 rfl, r_w1 w 2496 rfl, r_w2 w 2496 22 rfl rfl, r_w3 w 2496 rfl, r_eA w 2496 rfl, r_eAs w 2496 rfl, hB5]
def rb_X12_things_5 (B5 : r_S → Int32 → Int32 → Prop) (S : r_S) (x1 : Int32) (x2 : Int32) (Q : Option Value → r_S → Prop) : Prop := ((((8 : Int32) * x1) + (8 : Int32)) ≤ x2 → (Q none S)) ∧ (¬ (((8 : Int32) * x1) + (8 : Int32)) ≤ x2 → (vp_in ((6 : Int32) * x1) (r_N 2435) ∧ (((r_A S 2435 ((6 : Int32) * x1).toNatClampNeg) ≤ (x2 - ((8 : Int32) * x1)) → (rb_X12_things_49 B5 S x1 x2 x2 (0 : Int32) Q)) ∧ (¬ (r_A S 2435 ((6 : Int32) * x1).toNatClampNeg) ≤ (x2 - ((8 : Int32) * x1)) → (vp_in x2 (r_N 2443) ∧ (rb_X12_things_49 B5 S x1 x2 x2 (r_A S 2443 x2.toNatClampNeg) Q))))))
set_option maxRecDepth 100000 in
set_option maxHeartbeats 4000000 in
theorem eb_X12_things_5 {m : Nat} {ad : Nat → Nat} {fo : Nat → Option Nat} {st : Nat → Nat} {S0 : q_S} (w : r_WF m ad fo st S0) {OB5 : q_S → Nat → Int32 → Int32 → Prop} {B5 : r_S → Int32 → Int32 → Prop} (hB5 : ∀ (S : r_S) (y2 : Int32) (y3 : Int32), (OB5 (r_E m fo S S0) m y2 y3 ↔ B5 S y2 y3)) (S : r_S) (x1 : Int32) (x2 : Int32) (Q : Option Value → q_S → Prop) : wb_X12_things_5 OB5 (r_E m fo S S0) m x1 x2 Q ↔ rb_X12_things_5 B5 S x1 x2 (fun r S => Q r (r_E m fo S S0)) := by
  unfold wb_X12_things_5 rb_X12_things_5
  simp only [r_eK, r_eI, r_eIs, r_eP, r_eN, true_and, Option.some.injEq, exists_eq_left', r_all, w.1, r_w1 w 2435 rfl, r_w2 w 2435 21 rfl rfl, r_w3 w 2435 rfl, r_eA w 2435 rfl, r_eAs w 2435 rfl, r_w1 w 2443 rfl, r_w2 w 2443 21 rfl rfl, r_w3 w 2443 rfl, r_eA w 2443 rfl, r_eAs w 2443 rfl, r_w1 w 2492 rfl, r_w2 w 2492 21 rfl rfl, r_w3 w 2492 rfl, r_eA w 2492 rfl, r_eAs w 2492 rfl, eb_X12_things_49 w hB5, hB5]
def rl_X12_things_5  : Nat → r_S → Int32 → Int32 → (Option Value → r_S → Prop) → Prop
  | 0, _, _, _, _ => False
  | n + 1, S, x1, x2, Q => rb_X12_things_5 (fun S x1 x2 => rl_X12_things_5 n S x1 x2 Q) S x1 x2 Q
set_option maxRecDepth 100000 in
theorem el_X12_things_5 {m : Nat} {ad : Nat → Nat} {fo : Nat → Option Nat} {st : Nat → Nat} {S0 : q_S} (w : r_WF m ad fo st S0)  (n : Nat) (S : r_S) (x1 : Int32) (x2 : Int32) (Q : Option Value → q_S → Prop) : wl_X12_things_5 n (r_E m fo S S0) m x1 x2 Q ↔ rl_X12_things_5 n S x1 x2 (fun r S => Q r (r_E m fo S S0)) := by
  induction n generalizing S x1 x2 with
  | zero => exact Iff.rfl
  | succ n ih => exact eb_X12_things_5 w (fun _ _ _ => ih _ _ _) S x1 x2 Q
def rm_X12_things (S : r_S) (x1 : Int32) (Q : Option Value → r_S → Prop) : Prop := ∃ n30_ : Nat, rl_X12_things_5 n30_ S x1 ((8 : Int32) * x1) Q
set_option maxRecDepth 100000 in
set_option maxHeartbeats 4000000 in
theorem em_X12_things {m : Nat} {ad : Nat → Nat} {fo : Nat → Option Nat} {st : Nat → Nat} {S0 : q_S} (w : r_WF m ad fo st S0)  (S : r_S) (x1 : Int32) (Q : Option Value → q_S → Prop) : wm_X12_things (r_E m fo S S0) m x1 Q ↔ rm_X12_things S x1 (fun r S => Q r (r_E m fo S S0)) := by
  unfold wm_X12_things rm_X12_things
  simp only [r_eK, r_eI, r_eIs, r_eP, r_eN, true_and, Option.some.injEq, exists_eq_left', r_all, w.1, el_X12_things_5 w]
def rb_X12_load_143 (B125 : r_S → Int32 → Prop) (B143 : r_S → Int32 → Int32 → Prop) (S : r_S) (x1 : Int32) (x2 : Int32) (Q : Option Value → r_S → Prop) : Prop := vp_in (((6 : Int32) * x1) + (5 : Int32)) (r_N 2435) ∧ (((((16 : Int32) * x1) + (r_A S 2435 (((6 : Int32) * x1) + (5 : Int32)).toNatClampNeg)) ≤ x2 → (B125 S (x1 + 1))) ∧ (¬ (((16 : Int32) * x1) + (r_A S 2435 (((6 : Int32) * x1) + (5 : Int32)).toNatClampNeg)) ≤ x2 → (vp_in x2 (r_N 2437) ∧ (vp_in x2 (r_N 2469) ∧ (B143 (rs_A S 2469 x2.toNatClampNeg (r_A S 2437 x2.toNatClampNeg)) x1 (x2 + 1))))))
set_option maxRecDepth 100000 in
set_option maxHeartbeats 4000000 in
theorem eb_X12_load_143 {m : Nat} {ad : Nat → Nat} {fo : Nat → Option Nat} {st : Nat → Nat} {S0 : q_S} (w : r_WF m ad fo st S0) {OB125 : q_S → Nat → Int32 → Prop} {B125 : r_S → Int32 → Prop} {OB143 : q_S → Nat → Int32 → Int32 → Prop} {B143 : r_S → Int32 → Int32 → Prop} (hB125 : ∀ (S : r_S) (y2 : Int32), (OB125 (r_E m fo S S0) m y2 ↔ B125 S y2)) (hB143 : ∀ (S : r_S) (y2 : Int32) (y3 : Int32), (OB143 (r_E m fo S S0) m y2 y3 ↔ B143 S y2 y3)) (S : r_S) (x1 : Int32) (x2 : Int32) (Q : Option Value → q_S → Prop) : wb_X12_load_143 OB125 OB143 (r_E m fo S S0) m x1 x2 Q ↔ rb_X12_load_143 B125 B143 S x1 x2 (fun r S => Q r (r_E m fo S S0)) := by
  unfold wb_X12_load_143 rb_X12_load_143
  simp only [r_eK, r_eI, r_eIs, r_eP, r_eN, true_and, Option.some.injEq, exists_eq_left', r_all, w.1, r_w1 w 2435 rfl, r_w2 w 2435 21 rfl rfl, r_w3 w 2435 rfl, r_eA w 2435 rfl, r_eAs w 2435 rfl, r_w1 w 2437 rfl, r_w2 w 2437 21 rfl rfl, r_w3 w 2437 rfl, r_eA w 2437 rfl, r_eAs w 2437 rfl, r_w1 w 2469 rfl, r_w2 w 2469 21 rfl rfl, r_w3 w 2469 rfl, r_eA w 2469 rfl, r_eAs w 2469 rfl, hB125, hB143]
def rl_X12_load_143 (B125 : r_S → Int32 → Prop) : Nat → r_S → Int32 → Int32 → (Option Value → r_S → Prop) → Prop
  | 0, _, _, _, _ => False
  | n + 1, S, x1, x2, Q => rb_X12_load_143 B125 (fun S x1 x2 => rl_X12_load_143 B125 n S x1 x2 Q) S x1 x2 Q
set_option maxRecDepth 100000 in
theorem el_X12_load_143 {m : Nat} {ad : Nat → Nat} {fo : Nat → Option Nat} {st : Nat → Nat} {S0 : q_S} (w : r_WF m ad fo st S0) {OB125 : q_S → Nat → Int32 → Prop} {B125 : r_S → Int32 → Prop} (hB125 : ∀ (S : r_S) (y2 : Int32), (OB125 (r_E m fo S S0) m y2 ↔ B125 S y2)) (n : Nat) (S : r_S) (x1 : Int32) (x2 : Int32) (Q : Option Value → q_S → Prop) : wl_X12_load_143 OB125 n (r_E m fo S S0) m x1 x2 Q ↔ rl_X12_load_143 B125 n S x1 x2 (fun r S => Q r (r_E m fo S S0)) := by
  induction n generalizing S x1 x2 with
  | zero => exact Iff.rfl
  | succ n ih => exact eb_X12_load_143 w hB125 (fun _ _ _ => ih _ _ _) S x1 x2 Q
def rb_X12_load_218 (S : r_S) (xs0 : Int32) (Q : Option Value → r_S → Prop) : Prop := Q (some (.int xs0)) S
set_option maxRecDepth 100000 in
set_option maxHeartbeats 4000000 in
theorem eb_X12_load_218 {m : Nat} {ad : Nat → Nat} {fo : Nat → Option Nat} {st : Nat → Nat} {S0 : q_S} (w : r_WF m ad fo st S0)  (S : r_S) (xs0 : Int32) (Q : Option Value → q_S → Prop) : wb_X12_load_218 (r_E m fo S S0) xs0 Q ↔ rb_X12_load_218 S xs0 (fun r S => Q r (r_E m fo S S0)) := by
  unfold wb_X12_load_218 rb_X12_load_218
  simp only [r_eK, r_eI, r_eIs, r_eP, r_eN, true_and, Option.some.injEq, exists_eq_left', r_all, w.1]
def rb_X12_load_200 (S : r_S) (xs1 : Int32) (Q : Option Value → r_S → Prop) : Prop := ((r_I (rs_I S 2400 xs1) 2413) = 0 → (rb_X12_load_218 (rs_I S 2400 xs1) (0 : Int32) Q)) ∧ (¬ (r_I (rs_I S 2400 xs1) 2413) = 0 → (rb_X12_load_218 (rs_I S 2400 xs1) (r_I (rs_I S 2400 xs1) 2415) Q))
set_option maxRecDepth 100000 in
set_option maxHeartbeats 4000000 in
theorem eb_X12_load_200 {m : Nat} {ad : Nat → Nat} {fo : Nat → Option Nat} {st : Nat → Nat} {S0 : q_S} (w : r_WF m ad fo st S0)  (S : r_S) (xs1 : Int32) (Q : Option Value → q_S → Prop) : wb_X12_load_200 (r_E m fo S S0) m m xs1 Q ↔ rb_X12_load_200 S xs1 (fun r S => Q r (r_E m fo S S0)) := by
  unfold wb_X12_load_200 rb_X12_load_200
  simp only [r_eK, r_eI, r_eIs, r_eP, r_eN, true_and, Option.some.injEq, exists_eq_left', r_all, w.1, eb_X12_load_218 w]
def rb_X12_load_125 (B125 : r_S → Int32 → Prop) (S : r_S) (x1 : Int32) (Q : Option Value → r_S → Prop) : Prop := ((r_I S 2415) ≤ x1 → (((r_I S 2413) = 0 → (rb_X12_load_200 S (1 : Int32) Q)) ∧ (¬ (r_I S 2413) = 0 → (rb_X12_load_200 S (0 : Int32) Q)))) ∧ (¬ (r_I S 2415) ≤ x1 → (rm_X12_things S x1 (fun r21_ S22_ => r21_ = none ∧ (∃ n23_ : Nat, rl_X12_load_143 B125 n23_ S22_ x1 ((16 : Int32) * x1) Q))))
set_option maxRecDepth 100000 in
set_option maxHeartbeats 4000000 in
theorem eb_X12_load_125 {m : Nat} {ad : Nat → Nat} {fo : Nat → Option Nat} {st : Nat → Nat} {S0 : q_S} (w : r_WF m ad fo st S0) {OB125 : q_S → Nat → Int32 → Prop} {B125 : r_S → Int32 → Prop} (hB125 : ∀ (S : r_S) (y2 : Int32), (OB125 (r_E m fo S S0) m y2 ↔ B125 S y2)) (S : r_S) (x1 : Int32) (Q : Option Value → q_S → Prop) : wb_X12_load_125 OB125 (r_E m fo S S0) m x1 Q ↔ rb_X12_load_125 B125 S x1 (fun r S => Q r (r_E m fo S S0)) := by
  unfold wb_X12_load_125 rb_X12_load_125
  simp only [r_eK, r_eI, r_eIs, r_eP, r_eN, true_and, Option.some.injEq, exists_eq_left', r_all, w.1, eb_X12_load_200 w, el_X12_load_143 w hB125, em_X12_things w, hB125]
def rl_X12_load_125  : Nat → r_S → Int32 → (Option Value → r_S → Prop) → Prop
  | 0, _, _, _ => False
  | n + 1, S, x1, Q => rb_X12_load_125 (fun S x1 => rl_X12_load_125 n S x1 Q) S x1 Q
set_option maxRecDepth 100000 in
theorem el_X12_load_125 {m : Nat} {ad : Nat → Nat} {fo : Nat → Option Nat} {st : Nat → Nat} {S0 : q_S} (w : r_WF m ad fo st S0)  (n : Nat) (S : r_S) (x1 : Int32) (Q : Option Value → q_S → Prop) : wl_X12_load_125 n (r_E m fo S S0) m x1 Q ↔ rl_X12_load_125 n S x1 (fun r S => Q r (r_E m fo S S0)) := by
  induction n generalizing S x1 with
  | zero => exact Iff.rfl
  | succ n ih => exact eb_X12_load_125 w (fun _ _ => ih _ _) S x1 Q
def rb_X12_load_123 (S : r_S) (Q : Option Value → r_S → Prop) : Prop := ∃ n24_ : Nat, rl_X12_load_125 n24_ S (0 : Int32) Q
set_option maxRecDepth 100000 in
set_option maxHeartbeats 4000000 in
theorem eb_X12_load_123 {m : Nat} {ad : Nat → Nat} {fo : Nat → Option Nat} {st : Nat → Nat} {S0 : q_S} (w : r_WF m ad fo st S0)  (S : r_S) (Q : Option Value → q_S → Prop) : wb_X12_load_123 (r_E m fo S S0) m Q ↔ rb_X12_load_123 S (fun r S => Q r (r_E m fo S S0)) := by
  unfold wb_X12_load_123 rb_X12_load_123
  simp only [r_eK, r_eI, r_eIs, r_eP, r_eN, true_and, Option.some.injEq, exists_eq_left', r_all, w.1, el_X12_load_125 w]
def rb_X12_load_88 (S : r_S) (xs1 : Int32) (Q : Option Value → r_S → Prop) : Prop := (narrow .boolean (.int xs1) = .int xs1 ∧ fits .boolean (.int xs1) = true) ∧ ((¬ (r_I (rs_I S 2413 xs1) 2413) = 0 → (rb_X12_load_123 (rs_I S 2413 xs1) Q)) ∧ ((r_I (rs_I S 2413 xs1) 2413) = 0 → (∀ S29_ : r_S, S29_ = (rs_I (rs_I (rs_I S 2413 xs1) 2415 (0 : Int32)) 2416 (0 : Int32)) → (∀ S30_ : r_S, S30_ = (rs_I (rs_I (rs_I S29_ 2417 (0 : Int32)) 2418 (0 : Int32)) 2419 (0 : Int32)) → (rb_X12_load_123 S30_ Q)))))
set_option maxRecDepth 100000 in
set_option maxHeartbeats 4000000 in
theorem eb_X12_load_88 {m : Nat} {ad : Nat → Nat} {fo : Nat → Option Nat} {st : Nat → Nat} {S0 : q_S} (w : r_WF m ad fo st S0)  (S : r_S) (xs1 : Int32) (Q : Option Value → q_S → Prop) : wb_X12_load_88 (r_E m fo S S0) m m xs1 Q ↔ rb_X12_load_88 S xs1 (fun r S => Q r (r_E m fo S S0)) := by
  unfold wb_X12_load_88 rb_X12_load_88
  simp only [r_eK, r_eI, r_eIs, r_eP, r_eN, true_and, Option.some.injEq, exists_eq_left', r_all, w.1, eb_X12_load_123 w]
def rb_X12_load_55 (B55 : r_S → Prop) (S : r_S) (Q : Option Value → r_S → Prop) : Prop := rm_X12_isKey S (24 : Int32) (fun r32_ S33_ => ∃ x34_ : Int32, r32_ = some (.int x34_) ∧ ((x34_ = 0 → (rm_X12_readFrame S33_ (fun r37_ S38_ => r37_ = none ∧ ((¬ (r_I S38_ 2411) = 0 → (rb_X12_load_88 S38_ (0 : Int32) Q)) ∧ ((r_I S38_ 2411) = 0 → (rb_X12_load_88 S38_ (1 : Int32) Q)))))) ∧ (¬ x34_ = 0 → (rm_X12_readChannel S33_ (fun r42_ S43_ => r42_ = none ∧ (B55 S43_))))))
set_option maxRecDepth 100000 in
set_option maxHeartbeats 4000000 in
theorem eb_X12_load_55 {m : Nat} {ad : Nat → Nat} {fo : Nat → Option Nat} {st : Nat → Nat} {S0 : q_S} (w : r_WF m ad fo st S0) {OB55 : q_S → Nat → Prop} {B55 : r_S → Prop} (hB55 : ∀ (S : r_S), (OB55 (r_E m fo S S0) m ↔ B55 S)) (S : r_S) (Q : Option Value → q_S → Prop) : wb_X12_load_55 OB55 (r_E m fo S S0) m Q ↔ rb_X12_load_55 B55 S (fun r S => Q r (r_E m fo S S0)) := by
  unfold wb_X12_load_55 rb_X12_load_55
  simp only [r_eK, r_eI, r_eIs, r_eP, r_eN, true_and, Option.some.injEq, exists_eq_left', r_all, w.1, eb_X12_load_88 w, em_X12_isKey w, em_X12_readChannel w, em_X12_readFrame w, hB55]
def rl_X12_load_55  : Nat → r_S → (Option Value → r_S → Prop) → Prop
  | 0, _, _ => False
  | n + 1, S, Q => rb_X12_load_55 (fun S => rl_X12_load_55 n S Q) S Q
set_option maxRecDepth 100000 in
theorem el_X12_load_55 {m : Nat} {ad : Nat → Nat} {fo : Nat → Option Nat} {st : Nat → Nat} {S0 : q_S} (w : r_WF m ad fo st S0)  (n : Nat) (S : r_S) (Q : Option Value → q_S → Prop) : wl_X12_load_55 n (r_E m fo S S0) m Q ↔ rl_X12_load_55 n S (fun r S => Q r (r_E m fo S S0)) := by
  induction n generalizing S with
  | zero => exact Iff.rfl
  | succ n ih => exact eb_X12_load_55 w (fun _ => ih _) S Q
def rb_X12_load_47 (B26 : r_S → Prop) (S : r_S) (Q : Option Value → r_S → Prop) : Prop := rm_X12_isKey S (0 : Int32) (fun r45_ S46_ => ∃ x47_ : Int32, r45_ = some (.int x47_) ∧ ((¬ x47_ = 0 → (B26 S46_)) ∧ (x47_ = 0 → (∃ n49_ : Nat, rl_X12_load_55 n49_ S46_ Q))))
set_option maxRecDepth 100000 in
set_option maxHeartbeats 4000000 in
theorem eb_X12_load_47 {m : Nat} {ad : Nat → Nat} {fo : Nat → Option Nat} {st : Nat → Nat} {S0 : q_S} (w : r_WF m ad fo st S0) {OB26 : q_S → Nat → Prop} {B26 : r_S → Prop} (hB26 : ∀ (S : r_S), (OB26 (r_E m fo S S0) m ↔ B26 S)) (S : r_S) (Q : Option Value → q_S → Prop) : wb_X12_load_47 OB26 (r_E m fo S S0) m Q ↔ rb_X12_load_47 B26 S (fun r S => Q r (r_E m fo S S0)) := by
  unfold wb_X12_load_47 rb_X12_load_47
  simp only [r_eK, r_eI, r_eIs, r_eP, r_eN, true_and, Option.some.injEq, exists_eq_left', r_all, w.1, el_X12_load_55 w, em_X12_isKey w, hB26]
def rb_X12_load_26 (B26 : r_S → Prop) (S : r_S) (Q : Option Value → r_S → Prop) : Prop := rm_X12_isKey S (0 : Int32) (fun r51_ S52_ => ∃ x53_ : Int32, r51_ = some (.int x53_) ∧ ((x53_ = 0 → (rm_X12_failHere S52_ (1 : Int32) (fun r56_ S57_ => ∃ x58_ : Int32, r56_ = some (.int x58_) ∧ (rb_X12_load_47 B26 S57_ Q)))) ∧ (¬ x53_ = 0 → (rm_X12_readPartition S52_ (fun r60_ S61_ => r60_ = none ∧ (rb_X12_load_47 B26 S61_ Q))))))
set_option maxRecDepth 100000 in
set_option maxHeartbeats 4000000 in
theorem eb_X12_load_26 {m : Nat} {ad : Nat → Nat} {fo : Nat → Option Nat} {st : Nat → Nat} {S0 : q_S} (w : r_WF m ad fo st S0) {OB26 : q_S → Nat → Prop} {B26 : r_S → Prop} (hB26 : ∀ (S : r_S), (OB26 (r_E m fo S S0) m ↔ B26 S)) (S : r_S) (Q : Option Value → q_S → Prop) : wb_X12_load_26 OB26 (r_E m fo S S0) m Q ↔ rb_X12_load_26 B26 S (fun r S => Q r (r_E m fo S S0)) := by
  unfold wb_X12_load_26 rb_X12_load_26
  simp only [r_eK, r_eI, r_eIs, r_eP, r_eN, true_and, Option.some.injEq, exists_eq_left', r_all, w.1, eb_X12_load_47 w hB26, em_X12_failHere w, em_X12_isKey w, em_X12_readPartition w, hB26]
def rl_X12_load_26  : Nat → r_S → (Option Value → r_S → Prop) → Prop
  | 0, _, _ => False
  | n + 1, S, Q => rb_X12_load_26 (fun S => rl_X12_load_26 n S Q) S Q
set_option maxRecDepth 100000 in
theorem el_X12_load_26 {m : Nat} {ad : Nat → Nat} {fo : Nat → Option Nat} {st : Nat → Nat} {S0 : q_S} (w : r_WF m ad fo st S0)  (n : Nat) (S : r_S) (Q : Option Value → q_S → Prop) : wl_X12_load_26 n (r_E m fo S S0) m Q ↔ rl_X12_load_26 n S (fun r S => Q r (r_E m fo S S0)) := by
  induction n generalizing S with
  | zero => exact Iff.rfl
  | succ n ih => exact eb_X12_load_26 w (fun _ => ih _) S Q
def rm_X12_load (S : r_S) (Q : Option Value → r_S → Prop) : Prop := rm_X12_forget (rs_I (rs_I S 2404 (r_I S 2403)) 2403 (0 : Int32)) (fun r63_ S64_ => r63_ = none ∧ (rm_X12_next (rs_I S64_ 2405 (0 : Int32)) (fun r66_ S67_ => r66_ = none ∧ (∃ n68_ : Nat, rl_X12_load_26 n68_ S67_ Q))))
set_option maxRecDepth 100000 in
set_option maxHeartbeats 4000000 in
theorem em_X12_load {m : Nat} {ad : Nat → Nat} {fo : Nat → Option Nat} {st : Nat → Nat} {S0 : q_S} (w : r_WF m ad fo st S0)  (S : r_S) (Q : Option Value → q_S → Prop) : wm_X12_load (r_E m fo S S0) m Q ↔ rm_X12_load S (fun r S => Q r (r_E m fo S S0)) := by
  unfold wm_X12_load rm_X12_load
  simp only [r_eK, r_eI, r_eIs, r_eP, r_eN, true_and, Option.some.injEq, exists_eq_left', r_all, w.1, el_X12_load_26 w, em_X12_forget w, em_X12_next w]
def rb_X12_fault_29 (S : r_S) (xs0 : Int32) (Q : Option Value → r_S → Prop) : Prop := Q (some (.int xs0)) S
set_option maxRecDepth 100000 in
set_option maxHeartbeats 4000000 in
theorem eb_X12_fault_29 {m : Nat} {ad : Nat → Nat} {fo : Nat → Option Nat} {st : Nat → Nat} {S0 : q_S} (w : r_WF m ad fo st S0)  (S : r_S) (xs0 : Int32) (Q : Option Value → q_S → Prop) : wb_X12_fault_29 (r_E m fo S S0) xs0 Q ↔ rb_X12_fault_29 S xs0 (fun r S => Q r (r_E m fo S S0)) := by
  unfold wb_X12_fault_29 rb_X12_fault_29
  simp only [r_eK, r_eI, r_eIs, r_eP, r_eN, true_and, Option.some.injEq, exists_eq_left', r_all, w.1]
def rm_X12_fault (S : r_S) (x1 : Int32) (Q : Option Value → r_S → Prop) : Prop := (¬ x1 = 0 → ((¬ x1 = (1 : Int32) → (rb_X12_fault_29 (rs_I S 2400 (0 : Int32)) (-1 : Int32) Q)) ∧ (x1 = (1 : Int32) → (rb_X12_fault_29 (rs_I S 2400 (0 : Int32)) (r_I (rs_I S 2400 (0 : Int32)) 2412) Q)))) ∧ (x1 = 0 → (rb_X12_fault_29 (rs_I S 2400 (0 : Int32)) (r_I (rs_I S 2400 (0 : Int32)) 2411) Q))
set_option maxRecDepth 100000 in
set_option maxHeartbeats 4000000 in
theorem em_X12_fault {m : Nat} {ad : Nat → Nat} {fo : Nat → Option Nat} {st : Nat → Nat} {S0 : q_S} (w : r_WF m ad fo st S0)  (S : r_S) (x1 : Int32) (Q : Option Value → q_S → Prop) : wm_X12_fault (r_E m fo S S0) m x1 Q ↔ rm_X12_fault S x1 (fun r S => Q r (r_E m fo S S0)) := by
  unfold wm_X12_fault rm_X12_fault
  simp only [r_eK, r_eI, r_eIs, r_eP, r_eN, true_and, Option.some.injEq, exists_eq_left', r_all, w.1, eb_X12_fault_29 w]
def rb_X12_isPartition_17 (S : r_S) (xs0 : Int32) (Q : Option Value → r_S → Prop) : Prop := narrow .boolean (.int xs0) = .int xs0 ∧ Q (some (.int xs0)) S
set_option maxRecDepth 100000 in
set_option maxHeartbeats 4000000 in
theorem eb_X12_isPartition_17 {m : Nat} {ad : Nat → Nat} {fo : Nat → Option Nat} {st : Nat → Nat} {S0 : q_S} (w : r_WF m ad fo st S0)  (S : r_S) (xs0 : Int32) (Q : Option Value → q_S → Prop) : wb_X12_isPartition_17 (r_E m fo S S0) xs0 Q ↔ rb_X12_isPartition_17 S xs0 (fun r S => Q r (r_E m fo S S0)) := by
  unfold wb_X12_isPartition_17 rb_X12_isPartition_17
  simp only [r_eK, r_eI, r_eIs, r_eP, r_eN, true_and, Option.some.injEq, exists_eq_left', r_all, w.1]
def rb_X12_isPartition_16 (S : r_S) (Q : Option Value → r_S → Prop) : Prop := rb_X12_isPartition_17 S (0 : Int32) Q
set_option maxRecDepth 100000 in
set_option maxHeartbeats 4000000 in
theorem eb_X12_isPartition_16 {m : Nat} {ad : Nat → Nat} {fo : Nat → Option Nat} {st : Nat → Nat} {S0 : q_S} (w : r_WF m ad fo st S0)  (S : r_S) (Q : Option Value → q_S → Prop) : wb_X12_isPartition_16 (r_E m fo S S0) Q ↔ rb_X12_isPartition_16 S (fun r S => Q r (r_E m fo S S0)) := by
  unfold wb_X12_isPartition_16 rb_X12_isPartition_16
  simp only [r_eK, r_eI, r_eIs, r_eP, r_eN, true_and, Option.some.injEq, exists_eq_left', r_all, w.1, eb_X12_isPartition_17 w]
def rm_X12_isPartition (S : r_S) (x1 : Int32) (Q : Option Value → r_S → Prop) : Prop := (x1 < 0 → (rb_X12_isPartition_16 S Q)) ∧ (¬ x1 < 0 → (((r_I S 2415) ≤ x1 → (rb_X12_isPartition_16 S Q)) ∧ (¬ (r_I S 2415) ≤ x1 → (rb_X12_isPartition_17 S (1 : Int32) Q))))
set_option maxRecDepth 100000 in
set_option maxHeartbeats 4000000 in
theorem em_X12_isPartition {m : Nat} {ad : Nat → Nat} {fo : Nat → Option Nat} {st : Nat → Nat} {S0 : q_S} (w : r_WF m ad fo st S0)  (S : r_S) (x1 : Int32) (Q : Option Value → q_S → Prop) : wm_X12_isPartition (r_E m fo S S0) m x1 Q ↔ rm_X12_isPartition S x1 (fun r S => Q r (r_E m fo S S0)) := by
  unfold wm_X12_isPartition rm_X12_isPartition
  simp only [r_eK, r_eI, r_eIs, r_eP, r_eN, true_and, Option.some.injEq, exists_eq_left', r_all, w.1, eb_X12_isPartition_16 w, eb_X12_isPartition_17 w]
def rb_X12_isPlace_33 (S : r_S) (xs0 : Int32) (Q : Option Value → r_S → Prop) : Prop := narrow .boolean (.int xs0) = .int xs0 ∧ Q (some (.int xs0)) S
set_option maxRecDepth 100000 in
set_option maxHeartbeats 4000000 in
theorem eb_X12_isPlace_33 {m : Nat} {ad : Nat → Nat} {fo : Nat → Option Nat} {st : Nat → Nat} {S0 : q_S} (w : r_WF m ad fo st S0)  (S : r_S) (xs0 : Int32) (Q : Option Value → q_S → Prop) : wb_X12_isPlace_33 (r_E m fo S S0) xs0 Q ↔ rb_X12_isPlace_33 S xs0 (fun r S => Q r (r_E m fo S S0)) := by
  unfold wb_X12_isPlace_33 rb_X12_isPlace_33
  simp only [r_eK, r_eI, r_eIs, r_eP, r_eN, true_and, Option.some.injEq, exists_eq_left', r_all, w.1]
def rb_X12_isPlace_32 (S : r_S) (Q : Option Value → r_S → Prop) : Prop := rb_X12_isPlace_33 S (0 : Int32) Q
set_option maxRecDepth 100000 in
set_option maxHeartbeats 4000000 in
theorem eb_X12_isPlace_32 {m : Nat} {ad : Nat → Nat} {fo : Nat → Option Nat} {st : Nat → Nat} {S0 : q_S} (w : r_WF m ad fo st S0)  (S : r_S) (Q : Option Value → q_S → Prop) : wb_X12_isPlace_32 (r_E m fo S S0) Q ↔ rb_X12_isPlace_32 S (fun r S => Q r (r_E m fo S S0)) := by
  unfold wb_X12_isPlace_32 rb_X12_isPlace_32
  simp only [r_eK, r_eI, r_eIs, r_eP, r_eN, true_and, Option.some.injEq, exists_eq_left', r_all, w.1, eb_X12_isPlace_33 w]
def rm_X12_isPlace (S : r_S) (x1 : Int32) (x2 : Int32) (Q : Option Value → r_S → Prop) : Prop := rm_X12_isPartition S x1 (fun r2_ S3_ => ∃ x4_ : Int32, r2_ = some (.int x4_) ∧ ((x4_ = 0 → (rb_X12_isPlace_32 S3_ Q)) ∧ (¬ x4_ = 0 → ((x2 < 0 → (rb_X12_isPlace_32 S3_ Q)) ∧ (¬ x2 < 0 → (vp_in x1 (r_N 2425) ∧ (((r_A S3_ 2425 x1.toNatClampNeg) ≤ x2 → (rb_X12_isPlace_32 S3_ Q)) ∧ (¬ (r_A S3_ 2425 x1.toNatClampNeg) ≤ x2 → ((¬ (x2 - x2 / (4 : Int32) * (4 : Int32)) = 0 → (rb_X12_isPlace_32 S3_ Q)) ∧ ((x2 - x2 / (4 : Int32) * (4 : Int32)) = 0 → (rb_X12_isPlace_33 S3_ (1 : Int32) Q)))))))))))
set_option maxRecDepth 100000 in
set_option maxHeartbeats 4000000 in
theorem em_X12_isPlace {m : Nat} {ad : Nat → Nat} {fo : Nat → Option Nat} {st : Nat → Nat} {S0 : q_S} (w : r_WF m ad fo st S0)  (S : r_S) (x1 : Int32) (x2 : Int32) (Q : Option Value → q_S → Prop) : wm_X12_isPlace (r_E m fo S S0) m x1 x2 Q ↔ rm_X12_isPlace S x1 x2 (fun r S => Q r (r_E m fo S S0)) := by
  unfold wm_X12_isPlace rm_X12_isPlace
  simp only [r_eK, r_eI, r_eIs, r_eP, r_eN, true_and, Option.some.injEq, exists_eq_left', r_all, w.1, r_w1 w 2425 rfl, r_w2 w 2425 21 rfl rfl, r_w3 w 2425 rfl, r_eA w 2425 rfl, r_eAs w 2425 rfl, eb_X12_isPlace_32 w, eb_X12_isPlace_33 w, em_X12_isPartition w]
def rb_X12_image_47 (B47 : r_S → Int32 → Int32 → Int32 → Int32 → Prop) (S : r_S) (x1 : Int32) (x2 : Int32) (x3 : Int32) (x4 : Int32) (Q : Option Value → r_S → Prop) : Prop := ((4 : Int32) ≤ x4 → (Q none S)) ∧ (¬ (4 : Int32) ≤ x4 → (vp_in ((((8192 : Int32) * x1) + x2) + x4) (r_N 2465) ∧ (B47 (rs_A S 2465 ((((8192 : Int32) * x1) + x2) + x4).toNatClampNeg (vp_nar .byte (x3 >>> (((8 : Int32) * x4) &&& 31)).toInt8.toInt32)) x1 x2 x3 (x4 + 1))))
set_option maxRecDepth 100000 in
set_option maxHeartbeats 4000000 in
theorem eb_X12_image_47 {m : Nat} {ad : Nat → Nat} {fo : Nat → Option Nat} {st : Nat → Nat} {S0 : q_S} (w : r_WF m ad fo st S0) {OB47 : q_S → Nat → Int32 → Int32 → Int32 → Int32 → Prop} {B47 : r_S → Int32 → Int32 → Int32 → Int32 → Prop} (hB47 : ∀ (S : r_S) (y2 : Int32) (y3 : Int32) (y4 : Int32) (y5 : Int32), (OB47 (r_E m fo S S0) m y2 y3 y4 y5 ↔ B47 S y2 y3 y4 y5)) (S : r_S) (x1 : Int32) (x2 : Int32) (x3 : Int32) (x4 : Int32) (Q : Option Value → q_S → Prop) : wb_X12_image_47 OB47 (r_E m fo S S0) m x1 x2 x3 x4 Q ↔ rb_X12_image_47 B47 S x1 x2 x3 x4 (fun r S => Q r (r_E m fo S S0)) := by
  unfold wb_X12_image_47 rb_X12_image_47
  simp only [r_eK, r_eI, r_eIs, r_eP, r_eN, true_and, Option.some.injEq, exists_eq_left', r_all, w.1, r_w1 w 2465 rfl, r_w2 w 2465 20 rfl rfl, r_w3 w 2465 rfl, r_eA w 2465 rfl, r_eAs w 2465 rfl, hB47]
def rl_X12_image_47  : Nat → r_S → Int32 → Int32 → Int32 → Int32 → (Option Value → r_S → Prop) → Prop
  | 0, _, _, _, _, _, _ => False
  | n + 1, S, x1, x2, x3, x4, Q => rb_X12_image_47 (fun S x1 x2 x3 x4 => rl_X12_image_47 n S x1 x2 x3 x4 Q) S x1 x2 x3 x4 Q
set_option maxRecDepth 100000 in
theorem el_X12_image_47 {m : Nat} {ad : Nat → Nat} {fo : Nat → Option Nat} {st : Nat → Nat} {S0 : q_S} (w : r_WF m ad fo st S0)  (n : Nat) (S : r_S) (x1 : Int32) (x2 : Int32) (x3 : Int32) (x4 : Int32) (Q : Option Value → q_S → Prop) : wl_X12_image_47 n (r_E m fo S S0) m x1 x2 x3 x4 Q ↔ rl_X12_image_47 n S x1 x2 x3 x4 (fun r S => Q r (r_E m fo S S0)) := by
  induction n generalizing S x1 x2 x3 x4 with
  | zero => exact Iff.rfl
  | succ n ih => exact eb_X12_image_47 w (fun _ _ _ _ _ => ih _ _ _ _ _) S x1 x2 x3 x4 Q
def rb_X12_image_33 (S : r_S) (x1 : Int32) (x2 : Int32) (x3 : Int32) (xs1 : Int32) (Q : Option Value → r_S → Prop) : Prop := ((r_I (rs_I S 2400 xs1) 2400) ≤ 0 → (∃ n10_ : Nat, rl_X12_image_47 n10_ (rs_I S 2400 xs1) x1 x2 x3 (0 : Int32) Q)) ∧ (¬ (r_I (rs_I S 2400 xs1) 2400) ≤ 0 → (Q none (rs_I S 2400 xs1)))
set_option maxRecDepth 100000 in
set_option maxHeartbeats 4000000 in
theorem eb_X12_image_33 {m : Nat} {ad : Nat → Nat} {fo : Nat → Option Nat} {st : Nat → Nat} {S0 : q_S} (w : r_WF m ad fo st S0)  (S : r_S) (x1 : Int32) (x2 : Int32) (x3 : Int32) (xs1 : Int32) (Q : Option Value → q_S → Prop) : wb_X12_image_33 (r_E m fo S S0) m x1 x2 x3 m xs1 Q ↔ rb_X12_image_33 S x1 x2 x3 xs1 (fun r S => Q r (r_E m fo S S0)) := by
  unfold wb_X12_image_33 rb_X12_image_33
  simp only [r_eK, r_eI, r_eIs, r_eP, r_eN, true_and, Option.some.injEq, exists_eq_left', r_all, w.1, el_X12_image_47 w]
def rb_X12_image_15 (S : r_S) (x1 : Int32) (x2 : Int32) (x3 : Int32) (Q : Option Value → r_S → Prop) : Prop := rb_X12_image_33 S x1 x2 x3 (2 : Int32) Q
set_option maxRecDepth 100000 in
set_option maxHeartbeats 4000000 in
theorem eb_X12_image_15 {m : Nat} {ad : Nat → Nat} {fo : Nat → Option Nat} {st : Nat → Nat} {S0 : q_S} (w : r_WF m ad fo st S0)  (S : r_S) (x1 : Int32) (x2 : Int32) (x3 : Int32) (Q : Option Value → q_S → Prop) : wb_X12_image_15 (r_E m fo S S0) m x1 x2 x3 m Q ↔ rb_X12_image_15 S x1 x2 x3 (fun r S => Q r (r_E m fo S S0)) := by
  unfold wb_X12_image_15 rb_X12_image_15
  simp only [r_eK, r_eI, r_eIs, r_eP, r_eN, true_and, Option.some.injEq, exists_eq_left', r_all, w.1, eb_X12_image_33 w]
def rm_X12_image (S : r_S) (x1 : Int32) (x2 : Int32) (x3 : Int32) (Q : Option Value → r_S → Prop) : Prop := ((r_I S 2413) = 0 → (rb_X12_image_15 S x1 x2 x3 Q)) ∧ (¬ (r_I S 2413) = 0 → (((r_I S 2414) = 0 → (rm_X12_isPlace S x1 x2 (fun r14_ S15_ => ∃ x16_ : Int32, r14_ = some (.int x16_) ∧ ((¬ x16_ = 0 → (rb_X12_image_33 S15_ x1 x2 x3 (0 : Int32) Q)) ∧ (x16_ = 0 → (rb_X12_image_33 S15_ x1 x2 x3 (1 : Int32) Q)))))) ∧ (¬ (r_I S 2414) = 0 → (rb_X12_image_15 S x1 x2 x3 Q))))
set_option maxRecDepth 100000 in
set_option maxHeartbeats 4000000 in
theorem em_X12_image {m : Nat} {ad : Nat → Nat} {fo : Nat → Option Nat} {st : Nat → Nat} {S0 : q_S} (w : r_WF m ad fo st S0)  (S : r_S) (x1 : Int32) (x2 : Int32) (x3 : Int32) (Q : Option Value → q_S → Prop) : wm_X12_image (r_E m fo S S0) m x1 x2 x3 Q ↔ rm_X12_image S x1 x2 x3 (fun r S => Q r (r_E m fo S S0)) := by
  unfold wm_X12_image rm_X12_image
  simp only [r_eK, r_eI, r_eIs, r_eP, r_eN, true_and, Option.some.injEq, exists_eq_left', r_all, w.1, eb_X12_image_15 w, eb_X12_image_33 w, em_X12_isPlace w]
def rb_X12_input_99 (S : r_S) (x1 : Int32) (x2 : Int32) (x3 : Int32) (x4 : Int32) (xs1 : Int32) (Q : Option Value → r_S → Prop) : Prop := ((r_I (rs_I S 2400 xs1) 2400) ≤ 0 → (vp_in (((60 : Int32) * x1) + x4) (r_N 2506) ∧ (vp_in (((60 : Int32) * x1) + x4) (r_N 2507) ∧ (∀ S12_ : r_S, S12_ = (rs_A (rs_A (rs_I S 2400 xs1) 2506 (((60 : Int32) * x1) + x4).toNatClampNeg x2) 2507 (((60 : Int32) * x1) + x4).toNatClampNeg x3) → (vp_in x1 (r_N 2504) ∧ (vp_in x1 (r_N 2504) ∧ (Q none (rs_A S12_ 2504 x1.toNatClampNeg ((r_A S12_ 2504 x1.toNatClampNeg) + (1 : Int32)))))))))) ∧ (¬ (r_I (rs_I S 2400 xs1) 2400) ≤ 0 → (Q none (rs_I S 2400 xs1)))
set_option maxRecDepth 100000 in
set_option maxHeartbeats 4000000 in
theorem eb_X12_input_99 {m : Nat} {ad : Nat → Nat} {fo : Nat → Option Nat} {st : Nat → Nat} {S0 : q_S} (w : r_WF m ad fo st S0)  (S : r_S) (x1 : Int32) (x2 : Int32) (x3 : Int32) (x4 : Int32) (xs1 : Int32) (Q : Option Value → q_S → Prop) : wb_X12_input_99 (r_E m fo S S0) m x1 x2 x3 x4 m xs1 Q ↔ rb_X12_input_99 S x1 x2 x3 x4 xs1 (fun r S => Q r (r_E m fo S S0)) := by
  unfold wb_X12_input_99 rb_X12_input_99
  simp only [r_eK, r_eI, r_eIs, r_eP, r_eN, true_and, Option.some.injEq, exists_eq_left', r_all, w.1, r_w1 w 2504 rfl, r_w2 w 2504 21 rfl rfl, r_w3 w 2504 rfl, r_eA w 2504 rfl, r_eAs w 2504 rfl, r_w1 w 2506 rfl, r_w2 w 2506 21 rfl rfl, r_w3 w 2506 rfl, r_eA w 2506 rfl, r_eAs w 2506 rfl, r_w1 w 2507 rfl, r_w2 w 2507 21 rfl rfl, r_w3 w 2507 rfl, r_eA w 2507 rfl, r_eAs w 2507 rfl]
def rb_X12_input_83 (S : r_S) (x1 : Int32) (x2 : Int32) (x3 : Int32) (x4 : Int32) (Q : Option Value → r_S → Prop) : Prop := rb_X12_input_99 S x1 x2 x3 x4 (2 : Int32) Q
set_option maxRecDepth 100000 in
set_option maxHeartbeats 4000000 in
theorem eb_X12_input_83 {m : Nat} {ad : Nat → Nat} {fo : Nat → Option Nat} {st : Nat → Nat} {S0 : q_S} (w : r_WF m ad fo st S0)  (S : r_S) (x1 : Int32) (x2 : Int32) (x3 : Int32) (x4 : Int32) (Q : Option Value → q_S → Prop) : wb_X12_input_83 (r_E m fo S S0) m x1 x2 x3 x4 m Q ↔ rb_X12_input_83 S x1 x2 x3 x4 (fun r S => Q r (r_E m fo S S0)) := by
  unfold wb_X12_input_83 rb_X12_input_83
  simp only [r_eK, r_eI, r_eIs, r_eP, r_eN, true_and, Option.some.injEq, exists_eq_left', r_all, w.1, eb_X12_input_99 w]
def rb_X12_input_87 (S : r_S) (x1 : Int32) (x2 : Int32) (x3 : Int32) (x4 : Int32) (Q : Option Value → r_S → Prop) : Prop := (¬ x4 = (60 : Int32) → (rb_X12_input_99 S x1 x2 x3 x4 (0 : Int32) Q)) ∧ (x4 = (60 : Int32) → (rb_X12_input_99 S x1 x2 x3 x4 (3 : Int32) Q))
set_option maxRecDepth 100000 in
set_option maxHeartbeats 4000000 in
theorem eb_X12_input_87 {m : Nat} {ad : Nat → Nat} {fo : Nat → Option Nat} {st : Nat → Nat} {S0 : q_S} (w : r_WF m ad fo st S0)  (S : r_S) (x1 : Int32) (x2 : Int32) (x3 : Int32) (x4 : Int32) (Q : Option Value → q_S → Prop) : wb_X12_input_87 (r_E m fo S S0) m x1 x2 x3 x4 m Q ↔ rb_X12_input_87 S x1 x2 x3 x4 (fun r S => Q r (r_E m fo S S0)) := by
  unfold wb_X12_input_87 rb_X12_input_87
  simp only [r_eK, r_eI, r_eIs, r_eP, r_eN, true_and, Option.some.injEq, exists_eq_left', r_all, w.1, eb_X12_input_99 w]
def rb_X12_input_36 (S : r_S) (x1 : Int32) (x2 : Int32) (x3 : Int32) (xs1 : Int32) (Q : Option Value → r_S → Prop) : Prop := ((r_I (rs_I S 2400 xs1) 2400) ≤ 0 → (vp_in x1 (r_N 2504) ∧ ((x2 < 0 → (rb_X12_input_83 (rs_I S 2400 xs1) x1 x2 x3 (r_A (rs_I S 2400 xs1) 2504 x1.toNatClampNeg) Q)) ∧ (¬ x2 < 0 → (((r_A (rs_I S 2400 xs1) 2504 x1.toNatClampNeg) ≤ 0 → (rb_X12_input_87 (rs_I S 2400 xs1) x1 x2 x3 (r_A (rs_I S 2400 xs1) 2504 x1.toNatClampNeg) Q)) ∧ (¬ (r_A (rs_I S 2400 xs1) 2504 x1.toNatClampNeg) ≤ 0 → (vp_in ((((60 : Int32) * x1) + (r_A (rs_I S 2400 xs1) 2504 x1.toNatClampNeg)) - (1 : Int32)) (r_N 2506) ∧ (((r_A (rs_I S 2400 xs1) 2506 ((((60 : Int32) * x1) + (r_A (rs_I S 2400 xs1) 2504 x1.toNatClampNeg)) - (1 : Int32)).toNatClampNeg) < x2 → (rb_X12_input_87 (rs_I S 2400 xs1) x1 x2 x3 (r_A (rs_I S 2400 xs1) 2504 x1.toNatClampNeg) Q)) ∧ (¬ (r_A (rs_I S 2400 xs1) 2506 ((((60 : Int32) * x1) + (r_A (rs_I S 2400 xs1) 2504 x1.toNatClampNeg)) - (1 : Int32)).toNatClampNeg) < x2 → (rb_X12_input_83 (rs_I S 2400 xs1) x1 x2 x3 (r_A (rs_I S 2400 xs1) 2504 x1.toNatClampNeg) Q)))))))))) ∧ (¬ (r_I (rs_I S 2400 xs1) 2400) ≤ 0 → (Q none (rs_I S 2400 xs1)))
set_option maxRecDepth 100000 in
set_option maxHeartbeats 4000000 in
theorem eb_X12_input_36 {m : Nat} {ad : Nat → Nat} {fo : Nat → Option Nat} {st : Nat → Nat} {S0 : q_S} (w : r_WF m ad fo st S0)  (S : r_S) (x1 : Int32) (x2 : Int32) (x3 : Int32) (xs1 : Int32) (Q : Option Value → q_S → Prop) : wb_X12_input_36 (r_E m fo S S0) m x1 x2 x3 m xs1 Q ↔ rb_X12_input_36 S x1 x2 x3 xs1 (fun r S => Q r (r_E m fo S S0)) := by
  unfold wb_X12_input_36 rb_X12_input_36
  simp only [r_eK, r_eI, r_eIs, r_eP, r_eN, true_and, Option.some.injEq, exists_eq_left', r_all, w.1, r_w1 w 2504 rfl, r_w2 w 2504 21 rfl rfl, r_w3 w 2504 rfl, r_eA w 2504 rfl, r_eAs w 2504 rfl, r_w1 w 2506 rfl, r_w2 w 2506 21 rfl rfl, r_w3 w 2506 rfl, r_eA w 2506 rfl, r_eAs w 2506 rfl, eb_X12_input_83 w, eb_X12_input_87 w]
def rb_X12_input_15 (S : r_S) (x1 : Int32) (x2 : Int32) (x3 : Int32) (Q : Option Value → r_S → Prop) : Prop := rb_X12_input_36 S x1 x2 x3 (3 : Int32) Q
set_option maxRecDepth 100000 in
set_option maxHeartbeats 4000000 in
theorem eb_X12_input_15 {m : Nat} {ad : Nat → Nat} {fo : Nat → Option Nat} {st : Nat → Nat} {S0 : q_S} (w : r_WF m ad fo st S0)  (S : r_S) (x1 : Int32) (x2 : Int32) (x3 : Int32) (Q : Option Value → q_S → Prop) : wb_X12_input_15 (r_E m fo S S0) m x1 x2 x3 m Q ↔ rb_X12_input_15 S x1 x2 x3 (fun r S => Q r (r_E m fo S S0)) := by
  unfold wb_X12_input_15 rb_X12_input_15
  simp only [r_eK, r_eI, r_eIs, r_eP, r_eN, true_and, Option.some.injEq, exists_eq_left', r_all, w.1, eb_X12_input_36 w]
def rb_X12_input_31 (S : r_S) (x1 : Int32) (x2 : Int32) (x3 : Int32) (Q : Option Value → r_S → Prop) : Prop := rb_X12_input_36 S x1 x2 x3 (1 : Int32) Q
set_option maxRecDepth 100000 in
set_option maxHeartbeats 4000000 in
theorem eb_X12_input_31 {m : Nat} {ad : Nat → Nat} {fo : Nat → Option Nat} {st : Nat → Nat} {S0 : q_S} (w : r_WF m ad fo st S0)  (S : r_S) (x1 : Int32) (x2 : Int32) (x3 : Int32) (Q : Option Value → q_S → Prop) : wb_X12_input_31 (r_E m fo S S0) m x1 x2 x3 m Q ↔ rb_X12_input_31 S x1 x2 x3 (fun r S => Q r (r_E m fo S S0)) := by
  unfold wb_X12_input_31 rb_X12_input_31
  simp only [r_eK, r_eI, r_eIs, r_eP, r_eN, true_and, Option.some.injEq, exists_eq_left', r_all, w.1, eb_X12_input_36 w]
def rm_X12_input (S : r_S) (x1 : Int32) (x2 : Int32) (x3 : Int32) (Q : Option Value → r_S → Prop) : Prop := ((r_I S 2413) = 0 → (rb_X12_input_15 S x1 x2 x3 Q)) ∧ (¬ (r_I S 2413) = 0 → (((r_I S 2414) = 0 → ((x1 < 0 → (rb_X12_input_31 S x1 x2 x3 Q)) ∧ (¬ x1 < 0 → ((x1 < (r_I S 2418) → (rb_X12_input_36 S x1 x2 x3 (0 : Int32) Q)) ∧ (¬ x1 < (r_I S 2418) → (rb_X12_input_31 S x1 x2 x3 Q)))))) ∧ (¬ (r_I S 2414) = 0 → (rb_X12_input_15 S x1 x2 x3 Q))))
set_option maxRecDepth 100000 in
set_option maxHeartbeats 4000000 in
theorem em_X12_input {m : Nat} {ad : Nat → Nat} {fo : Nat → Option Nat} {st : Nat → Nat} {S0 : q_S} (w : r_WF m ad fo st S0)  (S : r_S) (x1 : Int32) (x2 : Int32) (x3 : Int32) (Q : Option Value → q_S → Prop) : wm_X12_input (r_E m fo S S0) m x1 x2 x3 Q ↔ rm_X12_input S x1 x2 x3 (fun r S => Q r (r_E m fo S S0)) := by
  unfold wm_X12_input rm_X12_input
  simp only [r_eK, r_eI, r_eIs, r_eP, r_eN, true_and, Option.some.injEq, exists_eq_left', r_all, w.1, eb_X12_input_15 w, eb_X12_input_31 w, eb_X12_input_36 w]
def rm_X12_lastOf (S : r_S) (x1 : Int32) (Q : Option Value → r_S → Prop) : Prop := vp_in (((6 : Int32) * x1) + (5 : Int32)) (r_N 2435) ∧ (Q (some (.int (((16 : Int32) * x1) + (r_A S 2435 (((6 : Int32) * x1) + (5 : Int32)).toNatClampNeg)))) S)
set_option maxRecDepth 100000 in
set_option maxHeartbeats 4000000 in
theorem em_X12_lastOf {m : Nat} {ad : Nat → Nat} {fo : Nat → Option Nat} {st : Nat → Nat} {S0 : q_S} (w : r_WF m ad fo st S0)  (S : r_S) (x1 : Int32) (Q : Option Value → q_S → Prop) : wm_X12_lastOf (r_E m fo S S0) m x1 Q ↔ rm_X12_lastOf S x1 (fun r S => Q r (r_E m fo S S0)) := by
  unfold wm_X12_lastOf rm_X12_lastOf
  simp only [r_eK, r_eI, r_eIs, r_eP, r_eN, true_and, Option.some.injEq, exists_eq_left', r_all, w.1, r_w1 w 2435 rfl, r_w2 w 2435 21 rfl rfl, r_w3 w 2435 rfl, r_eA w 2435 rfl, r_eAs w 2435 rfl]
def rm_X12_partitionOf (S : r_S) (x1 : Int32) (Q : Option Value → r_S → Prop) : Prop := Q (some (.int (x1 / (16 : Int32)))) S
set_option maxRecDepth 100000 in
set_option maxHeartbeats 4000000 in
theorem em_X12_partitionOf {m : Nat} {ad : Nat → Nat} {fo : Nat → Option Nat} {st : Nat → Nat} {S0 : q_S} (w : r_WF m ad fo st S0)  (S : r_S) (x1 : Int32) (Q : Option Value → q_S → Prop) : wm_X12_partitionOf (r_E m fo S S0) m x1 Q ↔ rm_X12_partitionOf S x1 (fun r S => Q r (r_E m fo S S0)) := by
  unfold wm_X12_partitionOf rm_X12_partitionOf
  simp only [r_eK, r_eI, r_eIs, r_eP, r_eN, true_and, Option.some.injEq, exists_eq_left', r_all, w.1]
def rb_X12_unlock_31 (S : r_S) (Q : Option Value → r_S → Prop) : Prop := Q none S
set_option maxRecDepth 100000 in
set_option maxHeartbeats 4000000 in
theorem eb_X12_unlock_31 {m : Nat} {ad : Nat → Nat} {fo : Nat → Option Nat} {st : Nat → Nat} {S0 : q_S} (w : r_WF m ad fo st S0)  (S : r_S) (Q : Option Value → q_S → Prop) : wb_X12_unlock_31 (r_E m fo S S0) Q ↔ rb_X12_unlock_31 S (fun r S => Q r (r_E m fo S S0)) := by
  unfold wb_X12_unlock_31 rb_X12_unlock_31
  simp only [r_eK, r_eI, r_eIs, r_eP, r_eN, true_and, Option.some.injEq, exists_eq_left', r_all, w.1]
def rm_X12_unlock (S : r_S) (x1 : Int32) (Q : Option Value → r_S → Prop) : Prop := vp_in x1 (r_N 2486) ∧ (((r_A S 2486 x1.toNatClampNeg) ≤ 0 → (rb_X12_unlock_31 S Q)) ∧ (¬ (r_A S 2486 x1.toNatClampNeg) ≤ 0 → (vp_in x1 (r_N 2487) ∧ (vp_in (r_A S 2487 x1.toNatClampNeg) (r_N 2467) ∧ (((r_A S 2467 (r_A S 2487 x1.toNatClampNeg).toNatClampNeg) = (1 : Int32) → (rb_X12_unlock_31 S Q)) ∧ (¬ (r_A S 2467 (r_A S 2487 x1.toNatClampNeg).toNatClampNeg) = (1 : Int32) → (vp_in x1 (r_N 2486) ∧ (rb_X12_unlock_31 (rs_A S 2486 x1.toNatClampNeg (0 : Int32)) Q))))))))
set_option maxRecDepth 100000 in
set_option maxHeartbeats 4000000 in
theorem em_X12_unlock {m : Nat} {ad : Nat → Nat} {fo : Nat → Option Nat} {st : Nat → Nat} {S0 : q_S} (w : r_WF m ad fo st S0)  (S : r_S) (x1 : Int32) (Q : Option Value → q_S → Prop) : wm_X12_unlock (r_E m fo S S0) m x1 Q ↔ rm_X12_unlock S x1 (fun r S => Q r (r_E m fo S S0)) := by
  unfold wm_X12_unlock rm_X12_unlock
  simp only [r_eK, r_eI, r_eIs, r_eP, r_eN, true_and, Option.some.injEq, exists_eq_left', r_all, w.1, r_w1 w 2467 rfl, r_w2 w 2467 21 rfl rfl, r_w3 w 2467 rfl, r_eA w 2467 rfl, r_eAs w 2467 rfl, r_w1 w 2486 rfl, r_w2 w 2486 21 rfl rfl, r_w3 w 2486 rfl, r_eA w 2486 rfl, r_eAs w 2486 rfl, r_w1 w 2487 rfl, r_w2 w 2487 21 rfl rfl, r_w3 w 2487 rfl, r_eA w 2487 rfl, r_eAs w 2487 rfl, eb_X12_unlock_31 w]
def rm_X12_sleeps (S : r_S) (x1 : Int32) (Q : Option Value → r_S → Prop) : Prop := vp_in x1 (r_N 2467) ∧ (vp_in x1 (r_N 2472) ∧ (vp_in x1 (r_N 2478) ∧ (∀ S14_ : r_S, S14_ = (rs_A (rs_A (rs_A S 2467 x1.toNatClampNeg (0 : Int32)) 2472 x1.toNatClampNeg (-1 : Int32)) 2478 x1.toNatClampNeg (0 : Int32)) → (vp_in x1 (r_N 2475) ∧ (vp_in x1 (r_N 2470) ∧ (rm_X12_partitionOf (rs_A (rs_A S14_ 2475 x1.toNatClampNeg (vp_nar .boolean (0 : Int32))) 2470 x1.toNatClampNeg (vp_nar .boolean (0 : Int32))) x1 (fun r23_ S24_ => ∃ x25_ : Int32, r23_ = some (.int x25_) ∧ (rm_X12_unlock S24_ x25_ (fun r27_ S28_ => r27_ = none ∧ (Q none S28_))))))))))
set_option maxRecDepth 100000 in
set_option maxHeartbeats 4000000 in
theorem em_X12_sleeps {m : Nat} {ad : Nat → Nat} {fo : Nat → Option Nat} {st : Nat → Nat} {S0 : q_S} (w : r_WF m ad fo st S0)  (S : r_S) (x1 : Int32) (Q : Option Value → q_S → Prop) : wm_X12_sleeps (r_E m fo S S0) m x1 Q ↔ rm_X12_sleeps S x1 (fun r S => Q r (r_E m fo S S0)) := by
  unfold wm_X12_sleeps rm_X12_sleeps
  simp only [r_eK, r_eI, r_eIs, r_eP, r_eN, true_and, Option.some.injEq, exists_eq_left', r_all, w.1, r_w1 w 2467 rfl, r_w2 w 2467 21 rfl rfl, r_w3 w 2467 rfl, r_eA w 2467 rfl, r_eAs w 2467 rfl, r_w1 w 2470 rfl, r_w2 w 2470 22 rfl rfl, r_w3 w 2470 rfl, r_eA w 2470 rfl, r_eAs w 2470 rfl, r_w1 w 2472 rfl, r_w2 w 2472 21 rfl rfl, r_w3 w 2472 rfl, r_eA w 2472 rfl, r_eAs w 2472 rfl, r_w1 w 2475 rfl, r_w2 w 2475 22 rfl rfl, r_w3 w 2475 rfl, r_eA w 2475 rfl, r_eAs w 2475 rfl, r_w1 w 2478 rfl, r_w2 w 2478 21 rfl rfl, r_w3 w 2478 rfl, r_eA w 2478 rfl, r_eAs w 2478 rfl, em_X12_partitionOf w, em_X12_unlock w]
def rb_X12_isHandler_19 (S : r_S) (xs0 : Int32) (Q : Option Value → r_S → Prop) : Prop := narrow .boolean (.int xs0) = .int xs0 ∧ Q (some (.int xs0)) S
set_option maxRecDepth 100000 in
set_option maxHeartbeats 4000000 in
theorem eb_X12_isHandler_19 {m : Nat} {ad : Nat → Nat} {fo : Nat → Option Nat} {st : Nat → Nat} {S0 : q_S} (w : r_WF m ad fo st S0)  (S : r_S) (xs0 : Int32) (Q : Option Value → q_S → Prop) : wb_X12_isHandler_19 (r_E m fo S S0) xs0 Q ↔ rb_X12_isHandler_19 S xs0 (fun r S => Q r (r_E m fo S S0)) := by
  unfold wb_X12_isHandler_19 rb_X12_isHandler_19
  simp only [r_eK, r_eI, r_eIs, r_eP, r_eN, true_and, Option.some.injEq, exists_eq_left', r_all, w.1]
def rm_X12_isHandler (S : r_S) (x1 : Int32) (Q : Option Value → r_S → Prop) : Prop := rm_X12_partitionOf S x1 (fun r2_ S3_ => ∃ x4_ : Int32, r2_ = some (.int x4_) ∧ (vp_in x4_ (r_N 2442) ∧ ((¬ (r_A S3_ 2442 x4_.toNatClampNeg) = x1 → (rb_X12_isHandler_19 S3_ (0 : Int32) Q)) ∧ ((r_A S3_ 2442 x4_.toNatClampNeg) = x1 → (rb_X12_isHandler_19 S3_ (1 : Int32) Q)))))
set_option maxRecDepth 100000 in
set_option maxHeartbeats 4000000 in
theorem em_X12_isHandler {m : Nat} {ad : Nat → Nat} {fo : Nat → Option Nat} {st : Nat → Nat} {S0 : q_S} (w : r_WF m ad fo st S0)  (S : r_S) (x1 : Int32) (Q : Option Value → q_S → Prop) : wm_X12_isHandler (r_E m fo S S0) m x1 Q ↔ rm_X12_isHandler S x1 (fun r S => Q r (r_E m fo S S0)) := by
  unfold wm_X12_isHandler rm_X12_isHandler
  simp only [r_eK, r_eI, r_eIs, r_eP, r_eN, true_and, Option.some.injEq, exists_eq_left', r_all, w.1, r_w1 w 2442 rfl, r_w2 w 2442 21 rfl rfl, r_w3 w 2442 rfl, r_eA w 2442 rfl, r_eAs w 2442 rfl, eb_X12_isHandler_19 w, em_X12_partitionOf w]
def rm_X12_isReady (S : r_S) (x1 : Int32) (Q : Option Value → r_S → Prop) : Prop := vp_in x1 (r_N 2467) ∧ (vp_in x1 (r_N 2472) ∧ (vp_in x1 (r_N 2478) ∧ (∀ S14_ : r_S, S14_ = (rs_A (rs_A (rs_A S 2467 x1.toNatClampNeg (1 : Int32)) 2472 x1.toNatClampNeg (-1 : Int32)) 2478 x1.toNatClampNeg (0 : Int32)) → (vp_in x1 (r_N 2476) ∧ (∀ S19_ : r_S, S19_ = (rs_A (rs_I S14_ 2464 ((r_I S14_ 2464) + (1 : Int32))) 2476 x1.toNatClampNeg (r_I (rs_I S14_ 2464 ((r_I S14_ 2464) + (1 : Int32))) 2464)) → (Q none S19_))))))
set_option maxRecDepth 100000 in
set_option maxHeartbeats 4000000 in
theorem em_X12_isReady {m : Nat} {ad : Nat → Nat} {fo : Nat → Option Nat} {st : Nat → Nat} {S0 : q_S} (w : r_WF m ad fo st S0)  (S : r_S) (x1 : Int32) (Q : Option Value → q_S → Prop) : wm_X12_isReady (r_E m fo S S0) m x1 Q ↔ rm_X12_isReady S x1 (fun r S => Q r (r_E m fo S S0)) := by
  unfold wm_X12_isReady rm_X12_isReady
  simp only [r_eK, r_eI, r_eIs, r_eP, r_eN, true_and, Option.some.injEq, exists_eq_left', r_all, w.1, r_w1 w 2467 rfl, r_w2 w 2467 21 rfl rfl, r_w3 w 2467 rfl, r_eA w 2467 rfl, r_eAs w 2467 rfl, r_w1 w 2472 rfl, r_w2 w 2472 21 rfl rfl, r_w3 w 2472 rfl, r_eA w 2472 rfl, r_eAs w 2472 rfl, r_w1 w 2476 rfl, r_w2 w 2476 21 rfl rfl, r_w3 w 2476 rfl, r_eA w 2476 rfl, r_eAs w 2476 rfl, r_w1 w 2478 rfl, r_w2 w 2478 21 rfl rfl, r_w3 w 2478 rfl, r_eA w 2478 rfl, r_eAs w 2478 rfl]
def rb_X12_startsAt_113 (S : r_S) (x1 : Int32) (Q : Option Value → r_S → Prop) : Prop := rm_X12_partitionOf S x1 (fun r2_ S3_ => ∃ x4_ : Int32, r2_ = some (.int x4_) ∧ (rm_X12_unlock S3_ x4_ (fun r6_ S7_ => r6_ = none ∧ (Q none S7_))))
set_option maxRecDepth 100000 in
set_option maxHeartbeats 4000000 in
theorem eb_X12_startsAt_113 {m : Nat} {ad : Nat → Nat} {fo : Nat → Option Nat} {st : Nat → Nat} {S0 : q_S} (w : r_WF m ad fo st S0)  (S : r_S) (x1 : Int32) (Q : Option Value → q_S → Prop) : wb_X12_startsAt_113 (r_E m fo S S0) m x1 Q ↔ rb_X12_startsAt_113 S x1 (fun r S => Q r (r_E m fo S S0)) := by
  unfold wb_X12_startsAt_113 rb_X12_startsAt_113
  simp only [r_eK, r_eI, r_eIs, r_eP, r_eN, true_and, Option.some.injEq, exists_eq_left', r_all, w.1, em_X12_partitionOf w, em_X12_unlock w]
def rb_X12_startsAt_71 (S : r_S) (x1 : Int32) (x2 : Int32) (xs1 : Int32) (xs2 : Int32) (Q : Option Value → r_S → Prop) : Prop := vp_in xs1 (r_N 2470) ∧ (vp_in x1 (r_N 2439) ∧ (vp_in x1 (r_N 2471) ∧ (∀ S21_ : r_S, S21_ = (rs_A (rs_A S 2470 xs1.toNatClampNeg (vp_nar .boolean xs2)) 2471 x1.toNatClampNeg (x2 + (r_A (rs_A S 2470 xs1.toNatClampNeg (vp_nar .boolean xs2)) 2439 x1.toNatClampNeg))) → (rm_X12_isReady S21_ x1 (fun r22_ S23_ => r22_ = none ∧ ((x2 ≤ (r_I S23_ 2463) → (rb_X12_startsAt_113 S23_ x1 Q)) ∧ (¬ x2 ≤ (r_I S23_ 2463) → (vp_in x1 (r_N 2467) ∧ (vp_in x1 (r_N 2472) ∧ (rb_X12_startsAt_113 (rs_A (rs_A S23_ 2467 x1.toNatClampNeg (2 : Int32)) 2472 x1.toNatClampNeg x2) x1 Q))))))))))
set_option maxRecDepth 100000 in
set_option maxHeartbeats 4000000 in
theorem eb_X12_startsAt_71 {m : Nat} {ad : Nat → Nat} {fo : Nat → Option Nat} {st : Nat → Nat} {S0 : q_S} (w : r_WF m ad fo st S0)  (S : r_S) (x1 : Int32) (x2 : Int32) (xs1 : Int32) (xs2 : Int32) (Q : Option Value → q_S → Prop) : wb_X12_startsAt_71 (r_E m fo S S0) m x1 x2 (some (ad 2470)) xs1 xs2 Q ↔ rb_X12_startsAt_71 S x1 x2 xs1 xs2 (fun r S => Q r (r_E m fo S S0)) := by
  unfold wb_X12_startsAt_71 rb_X12_startsAt_71
  simp only [r_eK, r_eI, r_eIs, r_eP, r_eN, true_and, Option.some.injEq, exists_eq_left', r_all, w.1, r_w1 w 2439 rfl, r_w2 w 2439 21 rfl rfl, r_w3 w 2439 rfl, r_eA w 2439 rfl, r_eAs w 2439 rfl, r_w1 w 2467 rfl, r_w2 w 2467 21 rfl rfl, r_w3 w 2467 rfl, r_eA w 2467 rfl, r_eAs w 2467 rfl, r_w1 w 2470 rfl, r_w2 w 2470 22 rfl rfl, r_w3 w 2470 rfl, r_eA w 2470 rfl, r_eAs w 2470 rfl, r_w1 w 2471 rfl, r_w2 w 2471 21 rfl rfl, r_w3 w 2471 rfl, r_eA w 2471 rfl, r_eAs w 2471 rfl, r_w1 w 2472 rfl, r_w2 w 2472 21 rfl rfl, r_w3 w 2472 rfl, r_eA w 2472 rfl, r_eAs w 2472 rfl, eb_X12_startsAt_113 w, em_X12_isReady w]
def rb_X12_startsAt_2 (B2 : r_S → Int32 → Int32 → Int32 → Prop) (S : r_S) (x1 : Int32) (x2 : Int32) (x3 : Int32) (Q : Option Value → r_S → Prop) : Prop := ((32 : Int32) ≤ x3 → (vp_in x1 (r_N 2436) ∧ (vp_in x1 (r_N 2468) ∧ (vp_in x1 (r_N 2475) ∧ (vp_in x1 (r_N 2473) ∧ (∀ S52_ : r_S, S52_ = (rs_A (rs_A (rs_A S 2468 x1.toNatClampNeg (r_A S 2436 x1.toNatClampNeg)) 2475 x1.toNatClampNeg (vp_nar .boolean (0 : Int32))) 2473 x1.toNatClampNeg x2) → (vp_in x1 (r_N 2439) ∧ (((r_A S52_ 2439 x1.toNatClampNeg) ≤ 0 → (rb_X12_startsAt_71 S52_ x1 x2 x1 (0 : Int32) Q)) ∧ (¬ (r_A S52_ 2439 x1.toNatClampNeg) ≤ 0 → (rb_X12_startsAt_71 S52_ x1 x2 x1 (1 : Int32) Q)))))))))) ∧ (¬ (32 : Int32) ≤ x3 → (vp_in (((32 : Int32) * x1) + x3) (r_N 2477) ∧ (B2 (rs_A S 2477 (((32 : Int32) * x1) + x3).toNatClampNeg (0 : Int32)) x1 x2 (x3 + 1))))
set_option maxRecDepth 100000 in
set_option maxHeartbeats 4000000 in
theorem eb_X12_startsAt_2 {m : Nat} {ad : Nat → Nat} {fo : Nat → Option Nat} {st : Nat → Nat} {S0 : q_S} (w : r_WF m ad fo st S0) {OB2 : q_S → Nat → Int32 → Int32 → Int32 → Prop} {B2 : r_S → Int32 → Int32 → Int32 → Prop} (hB2 : ∀ (S : r_S) (y2 : Int32) (y3 : Int32) (y4 : Int32), (OB2 (r_E m fo S S0) m y2 y3 y4 ↔ B2 S y2 y3 y4)) (S : r_S) (x1 : Int32) (x2 : Int32) (x3 : Int32) (Q : Option Value → q_S → Prop) : wb_X12_startsAt_2 OB2 (r_E m fo S S0) m x1 x2 x3 Q ↔ rb_X12_startsAt_2 B2 S x1 x2 x3 (fun r S => Q r (r_E m fo S S0)) := by
  unfold wb_X12_startsAt_2 rb_X12_startsAt_2
  simp only [r_eK, r_eI, r_eIs, r_eP, r_eN, true_and, Option.some.injEq, exists_eq_left', r_all, w.1, r_w1 w 2436 rfl, r_w2 w 2436 21 rfl rfl, r_w3 w 2436 rfl, r_eA w 2436 rfl, r_eAs w 2436 rfl, r_w1 w 2439 rfl, r_w2 w 2439 21 rfl rfl, r_w3 w 2439 rfl, r_eA w 2439 rfl, r_eAs w 2439 rfl, r_w1 w 2468 rfl, r_w2 w 2468 21 rfl rfl, r_w3 w 2468 rfl, r_eA w 2468 rfl, r_eAs w 2468 rfl, r_w1 w 2470 rfl, r_w2 w 2470 22 rfl rfl, r_w3 w 2470 rfl, r_eA w 2470 rfl, r_eAs w 2470 rfl, r_w1 w 2473 rfl, r_w2 w 2473 21 rfl rfl, r_w3 w 2473 rfl, r_eA w 2473 rfl, r_eAs w 2473 rfl, r_w1 w 2475 rfl, r_w2 w 2475 22 rfl rfl, r_w3 w 2475 rfl, r_eA w 2475 rfl, r_eAs w 2475 rfl, r_w1 w 2477 rfl, r_w2 w 2477 21 rfl rfl, r_w3 w 2477 rfl, r_eA w 2477 rfl, r_eAs w 2477 rfl, eb_X12_startsAt_71 w, hB2]
def rl_X12_startsAt_2  : Nat → r_S → Int32 → Int32 → Int32 → (Option Value → r_S → Prop) → Prop
  | 0, _, _, _, _, _ => False
  | n + 1, S, x1, x2, x3, Q => rb_X12_startsAt_2 (fun S x1 x2 x3 => rl_X12_startsAt_2 n S x1 x2 x3 Q) S x1 x2 x3 Q
set_option maxRecDepth 100000 in
theorem el_X12_startsAt_2 {m : Nat} {ad : Nat → Nat} {fo : Nat → Option Nat} {st : Nat → Nat} {S0 : q_S} (w : r_WF m ad fo st S0)  (n : Nat) (S : r_S) (x1 : Int32) (x2 : Int32) (x3 : Int32) (Q : Option Value → q_S → Prop) : wl_X12_startsAt_2 n (r_E m fo S S0) m x1 x2 x3 Q ↔ rl_X12_startsAt_2 n S x1 x2 x3 (fun r S => Q r (r_E m fo S S0)) := by
  induction n generalizing S x1 x2 x3 with
  | zero => exact Iff.rfl
  | succ n ih => exact eb_X12_startsAt_2 w (fun _ _ _ _ => ih _ _ _ _) S x1 x2 x3 Q
def rm_X12_startsAt (S : r_S) (x1 : Int32) (x2 : Int32) (Q : Option Value → r_S → Prop) : Prop := ∃ n63_ : Nat, rl_X12_startsAt_2 n63_ S x1 x2 (0 : Int32) Q
set_option maxRecDepth 100000 in
set_option maxHeartbeats 4000000 in
theorem em_X12_startsAt {m : Nat} {ad : Nat → Nat} {fo : Nat → Option Nat} {st : Nat → Nat} {S0 : q_S} (w : r_WF m ad fo st S0)  (S : r_S) (x1 : Int32) (x2 : Int32) (Q : Option Value → q_S → Prop) : wm_X12_startsAt (r_E m fo S S0) m x1 x2 Q ↔ rm_X12_startsAt S x1 x2 (fun r S => Q r (r_E m fo S S0)) := by
  unfold wm_X12_startsAt rm_X12_startsAt
  simp only [r_eK, r_eI, r_eIs, r_eP, r_eN, true_and, Option.some.injEq, exists_eq_left', r_all, w.1, el_X12_startsAt_2 w]
def rb_X12_begins_174 (B127 : r_S → Int32 → Int32 → Prop) (S : r_S) (x1 : Int32) (x4 : Int32) (Q : Option Value → r_S → Prop) : Prop := B127 S x1 (x4 + 1)
set_option maxRecDepth 100000 in
set_option maxHeartbeats 4000000 in
theorem eb_X12_begins_174 {m : Nat} {ad : Nat → Nat} {fo : Nat → Option Nat} {st : Nat → Nat} {S0 : q_S} (w : r_WF m ad fo st S0) {OB127 : q_S → Nat → Int32 → Int32 → Prop} {B127 : r_S → Int32 → Int32 → Prop} (hB127 : ∀ (S : r_S) (y2 : Int32) (y3 : Int32), (OB127 (r_E m fo S S0) m y2 y3 ↔ B127 S y2 y3)) (S : r_S) (x1 : Int32) (x4 : Int32) (Q : Option Value → q_S → Prop) : wb_X12_begins_174 OB127 (r_E m fo S S0) m x1 x4 Q ↔ rb_X12_begins_174 B127 S x1 x4 (fun r S => Q r (r_E m fo S S0)) := by
  unfold wb_X12_begins_174 rb_X12_begins_174
  simp only [r_eK, r_eI, r_eIs, r_eP, r_eN, true_and, Option.some.injEq, exists_eq_left', r_all, w.1, hB127]
def rb_X12_begins_127 (B127 : r_S → Int32 → Int32 → Prop) (S : r_S) (x1 : Int32) (x4 : Int32) (Q : Option Value → r_S → Prop) : Prop := rm_X12_lastOf S x1 (fun r2_ S3_ => ∃ x4_ : Int32, r2_ = some (.int x4_) ∧ ((x4_ ≤ x4 → (Q none S3_)) ∧ (¬ x4_ ≤ x4 → (rm_X12_isHandler S3_ x4 (fun r7_ S8_ => ∃ x9_ : Int32, r7_ = some (.int x9_) ∧ ((¬ x9_ = 0 → (rb_X12_begins_174 B127 S8_ x1 x4 Q)) ∧ (x9_ = 0 → (vp_in x4 (r_N 2441) ∧ ((¬ (r_A S8_ 2441 x4.toNatClampNeg) = 0 → (rb_X12_begins_174 B127 S8_ x1 x4 Q)) ∧ ((r_A S8_ 2441 x4.toNatClampNeg) = 0 → (vp_in x4 (r_N 2440) ∧ (rm_X12_startsAt S8_ x4 ((r_I S8_ 2463) + (r_A S8_ 2440 x4.toNatClampNeg)) (fun r21_ S22_ => r21_ = none ∧ (rb_X12_begins_174 B127 S22_ x1 x4 Q))))))))))))))
set_option maxRecDepth 100000 in
set_option maxHeartbeats 4000000 in
theorem eb_X12_begins_127 {m : Nat} {ad : Nat → Nat} {fo : Nat → Option Nat} {st : Nat → Nat} {S0 : q_S} (w : r_WF m ad fo st S0) {OB127 : q_S → Nat → Int32 → Int32 → Prop} {B127 : r_S → Int32 → Int32 → Prop} (hB127 : ∀ (S : r_S) (y2 : Int32) (y3 : Int32), (OB127 (r_E m fo S S0) m y2 y3 ↔ B127 S y2 y3)) (S : r_S) (x1 : Int32) (x4 : Int32) (Q : Option Value → q_S → Prop) : wb_X12_begins_127 OB127 (r_E m fo S S0) m x1 x4 Q ↔ rb_X12_begins_127 B127 S x1 x4 (fun r S => Q r (r_E m fo S S0)) := by
  unfold wb_X12_begins_127 rb_X12_begins_127
  simp only [r_eK, r_eI, r_eIs, r_eP, r_eN, true_and, Option.some.injEq, exists_eq_left', r_all, w.1, r_w1 w 2440 rfl, r_w2 w 2440 21 rfl rfl, r_w3 w 2440 rfl, r_eA w 2440 rfl, r_eAs w 2440 rfl, r_w1 w 2441 rfl, r_w2 w 2441 22 rfl rfl, r_w3 w 2441 rfl, r_eA w 2441 rfl, r_eAs w 2441 rfl, eb_X12_begins_174 w hB127, em_X12_isHandler w, em_X12_lastOf w, em_X12_startsAt w, hB127]
def rl_X12_begins_127  : Nat → r_S → Int32 → Int32 → (Option Value → r_S → Prop) → Prop
  | 0, _, _, _, _ => False
  | n + 1, S, x1, x4, Q => rb_X12_begins_127 (fun S x1 x4 => rl_X12_begins_127 n S x1 x4 Q) S x1 x4 Q
set_option maxRecDepth 100000 in
theorem el_X12_begins_127 {m : Nat} {ad : Nat → Nat} {fo : Nat → Option Nat} {st : Nat → Nat} {S0 : q_S} (w : r_WF m ad fo st S0)  (n : Nat) (S : r_S) (x1 : Int32) (x4 : Int32) (Q : Option Value → q_S → Prop) : wl_X12_begins_127 n (r_E m fo S S0) m x1 x4 Q ↔ rl_X12_begins_127 n S x1 x4 (fun r S => Q r (r_E m fo S S0)) := by
  induction n generalizing S x1 x4 with
  | zero => exact Iff.rfl
  | succ n ih => exact eb_X12_begins_127 w (fun _ _ _ => ih _ _ _) S x1 x4 Q
def rb_X12_begins_99 (B99 : r_S → Int32 → Int32 → Prop) (S : r_S) (x1 : Int32) (x4 : Int32) (Q : Option Value → r_S → Prop) : Prop := rm_X12_lastOf S x1 (fun r24_ S25_ => ∃ x26_ : Int32, r24_ = some (.int x26_) ∧ ((x26_ ≤ x4 → (∃ n28_ : Nat, rl_X12_begins_127 n28_ S25_ x1 ((16 : Int32) * x1) Q)) ∧ (¬ x26_ ≤ x4 → (rm_X12_sleeps S25_ x4 (fun r30_ S31_ => r30_ = none ∧ (B99 S31_ x1 (x4 + 1)))))))
set_option maxRecDepth 100000 in
set_option maxHeartbeats 4000000 in
theorem eb_X12_begins_99 {m : Nat} {ad : Nat → Nat} {fo : Nat → Option Nat} {st : Nat → Nat} {S0 : q_S} (w : r_WF m ad fo st S0) {OB99 : q_S → Nat → Int32 → Int32 → Prop} {B99 : r_S → Int32 → Int32 → Prop} (hB99 : ∀ (S : r_S) (y2 : Int32) (y3 : Int32), (OB99 (r_E m fo S S0) m y2 y3 ↔ B99 S y2 y3)) (S : r_S) (x1 : Int32) (x4 : Int32) (Q : Option Value → q_S → Prop) : wb_X12_begins_99 OB99 (r_E m fo S S0) m x1 x4 Q ↔ rb_X12_begins_99 B99 S x1 x4 (fun r S => Q r (r_E m fo S S0)) := by
  unfold wb_X12_begins_99 rb_X12_begins_99
  simp only [r_eK, r_eI, r_eIs, r_eP, r_eN, true_and, Option.some.injEq, exists_eq_left', r_all, w.1, el_X12_begins_127 w, em_X12_lastOf w, em_X12_sleeps w, hB99]
def rl_X12_begins_99  : Nat → r_S → Int32 → Int32 → (Option Value → r_S → Prop) → Prop
  | 0, _, _, _, _ => False
  | n + 1, S, x1, x4, Q => rb_X12_begins_99 (fun S x1 x4 => rl_X12_begins_99 n S x1 x4 Q) S x1 x4 Q
set_option maxRecDepth 100000 in
theorem el_X12_begins_99 {m : Nat} {ad : Nat → Nat} {fo : Nat → Option Nat} {st : Nat → Nat} {S0 : q_S} (w : r_WF m ad fo st S0)  (n : Nat) (S : r_S) (x1 : Int32) (x4 : Int32) (Q : Option Value → q_S → Prop) : wl_X12_begins_99 n (r_E m fo S S0) m x1 x4 Q ↔ rl_X12_begins_99 n S x1 x4 (fun r S => Q r (r_E m fo S S0)) := by
  induction n generalizing S x1 x4 with
  | zero => exact Iff.rfl
  | succ n ih => exact eb_X12_begins_99 w (fun _ _ _ => ih _ _ _) S x1 x4 Q
def rb_X12_begins_93 (S : r_S) (x1 : Int32) (Q : Option Value → r_S → Prop) : Prop := ∃ n32_ : Nat, rl_X12_begins_99 n32_ S x1 ((16 : Int32) * x1) Q
set_option maxRecDepth 100000 in
set_option maxHeartbeats 4000000 in
theorem eb_X12_begins_93 {m : Nat} {ad : Nat → Nat} {fo : Nat → Option Nat} {st : Nat → Nat} {S0 : q_S} (w : r_WF m ad fo st S0)  (S : r_S) (x1 : Int32) (Q : Option Value → q_S → Prop) : wb_X12_begins_93 (r_E m fo S S0) m x1 Q ↔ rb_X12_begins_93 S x1 (fun r S => Q r (r_E m fo S S0)) := by
  unfold wb_X12_begins_93 rb_X12_begins_93
  simp only [r_eK, r_eI, r_eIs, r_eP, r_eN, true_and, Option.some.injEq, exists_eq_left', r_all, w.1, el_X12_begins_99 w]
def rb_X12_begins_46 (B46 : r_S → Int32 → Int32 → Int32 → Prop) (S : r_S) (x1 : Int32) (x3 : Int32) (x4 : Int32) (Q : Option Value → r_S → Prop) : Prop := vp_in x1 (r_N 2425) ∧ (((r_A S 2425 x1.toNatClampNeg) ≤ x4 → (rb_X12_begins_93 S x1 Q)) ∧ (¬ (r_A S 2425 x1.toNatClampNeg) ≤ x4 → ((x3 = 0 → (rb_X12_begins_93 S x1 Q)) ∧ (¬ x3 = 0 → (vp_in (((8192 : Int32) * x1) + x4) (r_N 2465) ∧ (vp_in (((8192 : Int32) * x1) + x4) (r_N 2466) ∧ (B46 (rs_A S 2466 (((8192 : Int32) * x1) + x4).toNatClampNeg (vp_nar .byte (r_A S 2465 (((8192 : Int32) * x1) + x4).toNatClampNeg))) x1 x3 (x4 + 1))))))))
set_option maxRecDepth 100000 in
set_option maxHeartbeats 4000000 in
theorem eb_X12_begins_46 {m : Nat} {ad : Nat → Nat} {fo : Nat → Option Nat} {st : Nat → Nat} {S0 : q_S} (w : r_WF m ad fo st S0) {OB46 : q_S → Nat → Int32 → Int32 → Int32 → Prop} {B46 : r_S → Int32 → Int32 → Int32 → Prop} (hB46 : ∀ (S : r_S) (y2 : Int32) (y3 : Int32) (y4 : Int32), (OB46 (r_E m fo S S0) m y2 y3 y4 ↔ B46 S y2 y3 y4)) (S : r_S) (x1 : Int32) (x3 : Int32) (x4 : Int32) (Q : Option Value → q_S → Prop) : wb_X12_begins_46 OB46 (r_E m fo S S0) m x1 x3 x4 Q ↔ rb_X12_begins_46 B46 S x1 x3 x4 (fun r S => Q r (r_E m fo S S0)) := by
  unfold wb_X12_begins_46 rb_X12_begins_46
  simp only [r_eK, r_eI, r_eIs, r_eP, r_eN, true_and, Option.some.injEq, exists_eq_left', r_all, w.1, r_w1 w 2425 rfl, r_w2 w 2425 21 rfl rfl, r_w3 w 2425 rfl, r_eA w 2425 rfl, r_eAs w 2425 rfl, r_w1 w 2465 rfl, r_w2 w 2465 20 rfl rfl, r_w3 w 2465 rfl, r_eA w 2465 rfl, r_eAs w 2465 rfl, r_w1 w 2466 rfl, r_w2 w 2466 20 rfl rfl, r_w3 w 2466 rfl, r_eA w 2466 rfl, r_eAs w 2466 rfl, eb_X12_begins_93 w, hB46]
def rl_X12_begins_46  : Nat → r_S → Int32 → Int32 → Int32 → (Option Value → r_S → Prop) → Prop
  | 0, _, _, _, _, _ => False
  | n + 1, S, x1, x3, x4, Q => rb_X12_begins_46 (fun S x1 x3 x4 => rl_X12_begins_46 n S x1 x3 x4 Q) S x1 x3 x4 Q
set_option maxRecDepth 100000 in
theorem el_X12_begins_46 {m : Nat} {ad : Nat → Nat} {fo : Nat → Option Nat} {st : Nat → Nat} {S0 : q_S} (w : r_WF m ad fo st S0)  (n : Nat) (S : r_S) (x1 : Int32) (x3 : Int32) (x4 : Int32) (Q : Option Value → q_S → Prop) : wl_X12_begins_46 n (r_E m fo S S0) m x1 x3 x4 Q ↔ rl_X12_begins_46 n S x1 x3 x4 (fun r S => Q r (r_E m fo S S0)) := by
  induction n generalizing S x1 x3 x4 with
  | zero => exact Iff.rfl
  | succ n ih => exact eb_X12_begins_46 w (fun _ _ _ _ => ih _ _ _ _) S x1 x3 x4 Q
def rm_X12_begins (S : r_S) (x1 : Int32) (x2 : Int32) (x3 : Int32) (Q : Option Value → r_S → Prop) : Prop := vp_in x1 (r_N 2483) ∧ (vp_in x1 (r_N 2484) ∧ (vp_in x1 (r_N 2485) ∧ (vp_in x1 (r_N 2485) ∧ (∀ S62_ : r_S, S62_ = (rs_A (rs_A (rs_A S 2483 x1.toNatClampNeg (0 : Int32)) 2484 x1.toNatClampNeg x2) 2485 x1.toNatClampNeg ((r_A (rs_A (rs_A S 2483 x1.toNatClampNeg (0 : Int32)) 2484 x1.toNatClampNeg x2) 2485 x1.toNatClampNeg) + (1 : Int32))) → (vp_in x1 (r_N 2486) ∧ (vp_in x1 (r_N 2488) ∧ (rm_X12_things (rs_A (rs_A S62_ 2486 x1.toNatClampNeg (0 : Int32)) 2488 x1.toNatClampNeg (-1 : Int32)) x1 (fun r71_ S72_ => r71_ = none ∧ (∃ n73_ : Nat, rl_X12_begins_46 n73_ S72_ x1 x3 (0 : Int32) Q)))))))))
set_option maxRecDepth 100000 in
set_option maxHeartbeats 4000000 in
theorem em_X12_begins {m : Nat} {ad : Nat → Nat} {fo : Nat → Option Nat} {st : Nat → Nat} {S0 : q_S} (w : r_WF m ad fo st S0)  (S : r_S) (x1 : Int32) (x2 : Int32) (x3 : Int32) (Q : Option Value → q_S → Prop) : wm_X12_begins (r_E m fo S S0) m x1 x2 x3 Q ↔ rm_X12_begins S x1 x2 x3 (fun r S => Q r (r_E m fo S S0)) := by
  unfold wm_X12_begins rm_X12_begins
  simp only [r_eK, r_eI, r_eIs, r_eP, r_eN, true_and, Option.some.injEq, exists_eq_left', r_all, w.1, r_w1 w 2483 rfl, r_w2 w 2483 21 rfl rfl, r_w3 w 2483 rfl, r_eA w 2483 rfl, r_eAs w 2483 rfl, r_w1 w 2484 rfl, r_w2 w 2484 21 rfl rfl, r_w3 w 2484 rfl, r_eA w 2484 rfl, r_eAs w 2484 rfl, r_w1 w 2485 rfl, r_w2 w 2485 21 rfl rfl, r_w3 w 2485 rfl, r_eA w 2485 rfl, r_eAs w 2485 rfl, r_w1 w 2486 rfl, r_w2 w 2486 21 rfl rfl, r_w3 w 2486 rfl, r_eA w 2486 rfl, r_eAs w 2486 rfl, r_w1 w 2488 rfl, r_w2 w 2488 21 rfl rfl, r_w3 w 2488 rfl, r_eA w 2488 rfl, r_eAs w 2488 rfl, el_X12_begins_46 w, em_X12_things w]
