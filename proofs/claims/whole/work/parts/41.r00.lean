def rm_X12_thrown (S : r_S) (Q : Option Value → r_S → Prop) : Prop := Q (some (.int (r_I S 2400))) S
set_option maxRecDepth 100000 in
set_option maxHeartbeats 4000000 in
theorem em_X12_thrown {m : Nat} {ad : Nat → Nat} {fo : Nat → Option Nat} {st : Nat → Nat} {S0 : q_S} (w : r_WF m ad fo st S0)  (S : r_S) (Q : Option Value → q_S → Prop) : wm_X12_thrown (r_E m fo S S0) m Q ↔ rm_X12_thrown S (fun r S => Q r (r_E m fo S S0)) := by
  unfold wm_X12_thrown rm_X12_thrown
  simp only [r_eK, r_eI, r_eIs, r_eP, r_eN, true_and, Option.some.injEq, exists_eq_left', r_all, w.1]
def rb_X12_isLetter_17 (S : r_S) (xs0 : Int32) (Q : Option Value → r_S → Prop) : Prop := narrow .boolean (.int xs0) = .int xs0 ∧ Q (some (.int xs0)) S
set_option maxRecDepth 100000 in
set_option maxHeartbeats 4000000 in
theorem eb_X12_isLetter_17 {m : Nat} {ad : Nat → Nat} {fo : Nat → Option Nat} {st : Nat → Nat} {S0 : q_S} (w : r_WF m ad fo st S0)  (S : r_S) (xs0 : Int32) (Q : Option Value → q_S → Prop) : wb_X12_isLetter_17 (r_E m fo S S0) xs0 Q ↔ rb_X12_isLetter_17 S xs0 (fun r S => Q r (r_E m fo S S0)) := by
  unfold wb_X12_isLetter_17 rb_X12_isLetter_17
  simp only [r_eK, r_eI, r_eIs, r_eP, r_eN, true_and, Option.some.injEq, exists_eq_left', r_all, w.1]
def rb_X12_isLetter_16 (S : r_S) (Q : Option Value → r_S → Prop) : Prop := rb_X12_isLetter_17 S (0 : Int32) Q
set_option maxRecDepth 100000 in
set_option maxHeartbeats 4000000 in
theorem eb_X12_isLetter_16 {m : Nat} {ad : Nat → Nat} {fo : Nat → Option Nat} {st : Nat → Nat} {S0 : q_S} (w : r_WF m ad fo st S0)  (S : r_S) (Q : Option Value → q_S → Prop) : wb_X12_isLetter_16 (r_E m fo S S0) Q ↔ rb_X12_isLetter_16 S (fun r S => Q r (r_E m fo S S0)) := by
  unfold wb_X12_isLetter_16 rb_X12_isLetter_16
  simp only [r_eK, r_eI, r_eIs, r_eP, r_eN, true_and, Option.some.injEq, exists_eq_left', r_all, w.1, eb_X12_isLetter_17 w]
def rm_X12_isLetter (S : r_S) (x1 : Int32) (Q : Option Value → r_S → Prop) : Prop := (x1 < (97 : Int32) → (rb_X12_isLetter_16 S Q)) ∧ (¬ x1 < (97 : Int32) → (((122 : Int32) < x1 → (rb_X12_isLetter_16 S Q)) ∧ (¬ (122 : Int32) < x1 → (rb_X12_isLetter_17 S (1 : Int32) Q))))
set_option maxRecDepth 100000 in
set_option maxHeartbeats 4000000 in
theorem em_X12_isLetter {m : Nat} {ad : Nat → Nat} {fo : Nat → Option Nat} {st : Nat → Nat} {S0 : q_S} (w : r_WF m ad fo st S0)  (S : r_S) (x1 : Int32) (Q : Option Value → q_S → Prop) : wm_X12_isLetter (r_E m fo S S0) m x1 Q ↔ rm_X12_isLetter S x1 (fun r S => Q r (r_E m fo S S0)) := by
  unfold wm_X12_isLetter rm_X12_isLetter
  simp only [r_eK, r_eI, r_eIs, r_eP, r_eN, true_and, Option.some.injEq, exists_eq_left', r_all, w.1, eb_X12_isLetter_16 w, eb_X12_isLetter_17 w]
def rb_X12_isDigit_17 (S : r_S) (xs0 : Int32) (Q : Option Value → r_S → Prop) : Prop := narrow .boolean (.int xs0) = .int xs0 ∧ Q (some (.int xs0)) S
set_option maxRecDepth 100000 in
set_option maxHeartbeats 4000000 in
theorem eb_X12_isDigit_17 {m : Nat} {ad : Nat → Nat} {fo : Nat → Option Nat} {st : Nat → Nat} {S0 : q_S} (w : r_WF m ad fo st S0)  (S : r_S) (xs0 : Int32) (Q : Option Value → q_S → Prop) : wb_X12_isDigit_17 (r_E m fo S S0) xs0 Q ↔ rb_X12_isDigit_17 S xs0 (fun r S => Q r (r_E m fo S S0)) := by
  unfold wb_X12_isDigit_17 rb_X12_isDigit_17
  simp only [r_eK, r_eI, r_eIs, r_eP, r_eN, true_and, Option.some.injEq, exists_eq_left', r_all, w.1]
def rb_X12_isDigit_16 (S : r_S) (Q : Option Value → r_S → Prop) : Prop := rb_X12_isDigit_17 S (0 : Int32) Q
set_option maxRecDepth 100000 in
set_option maxHeartbeats 4000000 in
theorem eb_X12_isDigit_16 {m : Nat} {ad : Nat → Nat} {fo : Nat → Option Nat} {st : Nat → Nat} {S0 : q_S} (w : r_WF m ad fo st S0)  (S : r_S) (Q : Option Value → q_S → Prop) : wb_X12_isDigit_16 (r_E m fo S S0) Q ↔ rb_X12_isDigit_16 S (fun r S => Q r (r_E m fo S S0)) := by
  unfold wb_X12_isDigit_16 rb_X12_isDigit_16
  simp only [r_eK, r_eI, r_eIs, r_eP, r_eN, true_and, Option.some.injEq, exists_eq_left', r_all, w.1, eb_X12_isDigit_17 w]
def rm_X12_isDigit (S : r_S) (x1 : Int32) (Q : Option Value → r_S → Prop) : Prop := (x1 < (48 : Int32) → (rb_X12_isDigit_16 S Q)) ∧ (¬ x1 < (48 : Int32) → (((57 : Int32) < x1 → (rb_X12_isDigit_16 S Q)) ∧ (¬ (57 : Int32) < x1 → (rb_X12_isDigit_17 S (1 : Int32) Q))))
set_option maxRecDepth 100000 in
set_option maxHeartbeats 4000000 in
theorem em_X12_isDigit {m : Nat} {ad : Nat → Nat} {fo : Nat → Option Nat} {st : Nat → Nat} {S0 : q_S} (w : r_WF m ad fo st S0)  (S : r_S) (x1 : Int32) (Q : Option Value → q_S → Prop) : wm_X12_isDigit (r_E m fo S S0) m x1 Q ↔ rm_X12_isDigit S x1 (fun r S => Q r (r_E m fo S S0)) := by
  unfold wm_X12_isDigit rm_X12_isDigit
  simp only [r_eK, r_eI, r_eIs, r_eP, r_eN, true_and, Option.some.injEq, exists_eq_left', r_all, w.1, eb_X12_isDigit_16 w, eb_X12_isDigit_17 w]
def rb_X12_byteAt_18 (S : r_S) (xs0 : Int32) (Q : Option Value → r_S → Prop) : Prop := Q (some (.int xs0)) S
set_option maxRecDepth 100000 in
set_option maxHeartbeats 4000000 in
theorem eb_X12_byteAt_18 {m : Nat} {ad : Nat → Nat} {fo : Nat → Option Nat} {st : Nat → Nat} {S0 : q_S} (w : r_WF m ad fo st S0)  (S : r_S) (xs0 : Int32) (Q : Option Value → q_S → Prop) : wb_X12_byteAt_18 (r_E m fo S S0) xs0 Q ↔ rb_X12_byteAt_18 S xs0 (fun r S => Q r (r_E m fo S S0)) := by
  unfold wb_X12_byteAt_18 rb_X12_byteAt_18
  simp only [r_eK, r_eI, r_eIs, r_eP, r_eN, true_and, Option.some.injEq, exists_eq_left', r_all, w.1]
def rm_X12_byteAt (S : r_S) (x1 : Int32) (Q : Option Value → r_S → Prop) : Prop := ((r_I S 2404) ≤ x1 → (rb_X12_byteAt_18 S (-1 : Int32) Q)) ∧ (¬ (r_I S 2404) ≤ x1 → (vp_in x1 (r_N 2402) ∧ (rb_X12_byteAt_18 S (r_A S 2402 x1.toNatClampNeg) Q)))
set_option maxRecDepth 100000 in
set_option maxHeartbeats 4000000 in
theorem em_X12_byteAt {m : Nat} {ad : Nat → Nat} {fo : Nat → Option Nat} {st : Nat → Nat} {S0 : q_S} (w : r_WF m ad fo st S0)  (S : r_S) (x1 : Int32) (Q : Option Value → q_S → Prop) : wm_X12_byteAt (r_E m fo S S0) m x1 Q ↔ rm_X12_byteAt S x1 (fun r S => Q r (r_E m fo S S0)) := by
  unfold wm_X12_byteAt rm_X12_byteAt
  simp only [r_eK, r_eI, r_eIs, r_eP, r_eN, true_and, Option.some.injEq, exists_eq_left', r_all, w.1, r_w1 w 2402 rfl, r_w2 w 2402 20 rfl rfl, r_w3 w 2402 rfl, r_eA w 2402 rfl, r_eAs w 2402 rfl, eb_X12_byteAt_18 w]
def rb_X12_numberOf_95 (B4 : r_S → Nat → Int32 → Int32 → Prop) (B53 : r_S → Nat → Int32 → Int32 → Int32 → Int32 → Int32 → Prop) (S : r_S) (k1 : Nat) (x2 : Int32) (x3 : Int32) (x4 : Int32) (x6 : Int32) (xs0 : Int32) (Q : Option Value → r_S → Prop) : Prop := B53 S k1 x2 x3 x4 xs0 (x6 + 1)
set_option maxRecDepth 100000 in
set_option maxHeartbeats 4000000 in
theorem eb_X12_numberOf_95 {m : Nat} {ad : Nat → Nat} {fo : Nat → Option Nat} {st : Nat → Nat} {S0 : q_S} (w : r_WF m ad fo st S0) {OB4 : q_S → Nat → Option Nat → Int32 → Int32 → Prop} {B4 : r_S → Nat → Int32 → Int32 → Prop} {OB53 : q_S → Nat → Option Nat → Int32 → Int32 → Int32 → Int32 → Int32 → Prop} {B53 : r_S → Nat → Int32 → Int32 → Int32 → Int32 → Int32 → Prop} (hB4 : ∀ (S : r_S) (y2 : Nat) (y3 : Int32) (y4 : Int32), y2 < 15 → (OB4 (r_E m fo S S0) m (some (st y2)) y3 y4 ↔ B4 S y2 y3 y4)) (hB53 : ∀ (S : r_S) (y2 : Nat) (y3 : Int32) (y4 : Int32) (y5 : Int32) (y6 : Int32) (y7 : Int32), y2 < 15 → (OB53 (r_E m fo S S0) m (some (st y2)) y3 y4 y5 y6 y7 ↔ B53 S y2 y3 y4 y5 y6 y7)) (S : r_S) (k1 : Nat) (x2 : Int32) (x3 : Int32) (x4 : Int32) (x6 : Int32) (xs0 : Int32) (hk : k1 < 15) (Q : Option Value → q_S → Prop) : wb_X12_numberOf_95 OB4 OB53 (r_E m fo S S0) m (some (st k1)) x2 x3 x4 x6 xs0 Q ↔ rb_X12_numberOf_95 B4 B53 S k1 x2 x3 x4 x6 xs0 (fun r S => Q r (r_E m fo S S0)) := by
  unfold wb_X12_numberOf_95 rb_X12_numberOf_95
  simp only [r_eK, r_eI, r_eIs, r_eP, r_eN, true_and, Option.some.injEq, exists_eq_left', r_all, w.1, hB4, hB53, r_chx w, r_lnx w, hk, (w.2.2.2.1 k1 hk).1]
def rb_X12_numberOf_103 (B4 : r_S → Nat → Int32 → Int32 → Prop) (S : r_S) (k1 : Nat) (x2 : Int32) (x4 : Int32) (x5 : Int32) (Q : Option Value → r_S → Prop) : Prop := (x5 = 0 → (B4 S k1 (x2 + 1) (x4 + (1 : Int32)))) ∧ (¬ x5 = 0 → (Q (some (.int x2)) S))
set_option maxRecDepth 100000 in
set_option maxHeartbeats 4000000 in
theorem eb_X12_numberOf_103 {m : Nat} {ad : Nat → Nat} {fo : Nat → Option Nat} {st : Nat → Nat} {S0 : q_S} (w : r_WF m ad fo st S0) {OB4 : q_S → Nat → Option Nat → Int32 → Int32 → Prop} {B4 : r_S → Nat → Int32 → Int32 → Prop} (hB4 : ∀ (S : r_S) (y2 : Nat) (y3 : Int32) (y4 : Int32), y2 < 15 → (OB4 (r_E m fo S S0) m (some (st y2)) y3 y4 ↔ B4 S y2 y3 y4)) (S : r_S) (k1 : Nat) (x2 : Int32) (x4 : Int32) (x5 : Int32) (hk : k1 < 15) (Q : Option Value → q_S → Prop) : wb_X12_numberOf_103 OB4 (r_E m fo S S0) m (some (st k1)) x2 x4 x5 Q ↔ rb_X12_numberOf_103 B4 S k1 x2 x4 x5 (fun r S => Q r (r_E m fo S S0)) := by
  unfold wb_X12_numberOf_103 rb_X12_numberOf_103
  simp only [r_eK, r_eI, r_eIs, r_eP, r_eN, true_and, Option.some.injEq, exists_eq_left', r_all, w.1, hB4, r_chx w, r_lnx w, hk, (w.2.2.2.1 k1 hk).1]
def rb_X12_numberOf_53 (B4 : r_S → Nat → Int32 → Int32 → Prop) (B53 : r_S → Nat → Int32 → Int32 → Int32 → Int32 → Int32 → Prop) (S : r_S) (k1 : Nat) (x2 : Int32) (x3 : Int32) (x4 : Int32) (x5 : Int32) (x6 : Int32) (Q : Option Value → r_S → Prop) : Prop := ((r_I S 2410) ≤ x6 → (rb_X12_numberOf_103 B4 S k1 x2 x4 x5 Q)) ∧ (¬ (r_I S 2410) ≤ x6 → ((x5 = 0 → (rb_X12_numberOf_103 B4 S k1 x2 x4 x5 Q)) ∧ (¬ x5 = 0 → (r_ch k1 S (x3 + x6) (fun r8_ S9_ => ∃ x10_ : Int32, r8_ = some (.int x10_) ∧ (vp_in ((r_I S9_ 2409) + x6) (r_N 2402) ∧ ((¬ x10_ = (r_A S9_ 2402 ((r_I S9_ 2409) + x6).toNatClampNeg) → (rb_X12_numberOf_95 B4 B53 S9_ k1 x2 x3 x4 x6 (0 : Int32) Q)) ∧ (x10_ = (r_A S9_ 2402 ((r_I S9_ 2409) + x6).toNatClampNeg) → (rb_X12_numberOf_95 B4 B53 S9_ k1 x2 x3 x4 x6 (1 : Int32) Q)))))))))
set_option maxRecDepth 100000 in
set_option maxHeartbeats 4000000 in
theorem eb_X12_numberOf_53 {m : Nat} {ad : Nat → Nat} {fo : Nat → Option Nat} {st : Nat → Nat} {S0 : q_S} (w : r_WF m ad fo st S0) {OB4 : q_S → Nat → Option Nat → Int32 → Int32 → Prop} {B4 : r_S → Nat → Int32 → Int32 → Prop} {OB53 : q_S → Nat → Option Nat → Int32 → Int32 → Int32 → Int32 → Int32 → Prop} {B53 : r_S → Nat → Int32 → Int32 → Int32 → Int32 → Int32 → Prop} (hB4 : ∀ (S : r_S) (y2 : Nat) (y3 : Int32) (y4 : Int32), y2 < 15 → (OB4 (r_E m fo S S0) m (some (st y2)) y3 y4 ↔ B4 S y2 y3 y4)) (hB53 : ∀ (S : r_S) (y2 : Nat) (y3 : Int32) (y4 : Int32) (y5 : Int32) (y6 : Int32) (y7 : Int32), y2 < 15 → (OB53 (r_E m fo S S0) m (some (st y2)) y3 y4 y5 y6 y7 ↔ B53 S y2 y3 y4 y5 y6 y7)) (S : r_S) (k1 : Nat) (x2 : Int32) (x3 : Int32) (x4 : Int32) (x5 : Int32) (x6 : Int32) (hk : k1 < 15) (Q : Option Value → q_S → Prop) : wb_X12_numberOf_53 OB4 OB53 (r_E m fo S S0) m (some (st k1)) x2 x3 x4 x5 x6 Q ↔ rb_X12_numberOf_53 B4 B53 S k1 x2 x3 x4 x5 x6 (fun r S => Q r (r_E m fo S S0)) := by
  unfold wb_X12_numberOf_53 rb_X12_numberOf_53
  simp only [r_eK, r_eI, r_eIs, r_eP, r_eN, true_and, Option.some.injEq, exists_eq_left', r_all, w.1, r_w1 w 2402 rfl, r_w2 w 2402 20 rfl rfl, r_w3 w 2402 rfl, r_eA w 2402 rfl, r_eAs w 2402 rfl, eb_X12_numberOf_103 w hB4, eb_X12_numberOf_95 w hB4 hB53, hB4, hB53, r_chx w, r_lnx w, hk, (w.2.2.2.1 k1 hk).1]
def rl_X12_numberOf_53 (B4 : r_S → Nat → Int32 → Int32 → Prop) : Nat → r_S → Nat → Int32 → Int32 → Int32 → Int32 → Int32 → (Option Value → r_S → Prop) → Prop
  | 0, _, _, _, _, _, _, _, _ => False
  | n + 1, S, k1, x2, x3, x4, x5, x6, Q => rb_X12_numberOf_53 B4 (fun S k1 x2 x3 x4 x5 x6 => rl_X12_numberOf_53 B4 n S k1 x2 x3 x4 x5 x6 Q) S k1 x2 x3 x4 x5 x6 Q
set_option maxRecDepth 100000 in
theorem el_X12_numberOf_53 {m : Nat} {ad : Nat → Nat} {fo : Nat → Option Nat} {st : Nat → Nat} {S0 : q_S} (w : r_WF m ad fo st S0) {OB4 : q_S → Nat → Option Nat → Int32 → Int32 → Prop} {B4 : r_S → Nat → Int32 → Int32 → Prop} (hB4 : ∀ (S : r_S) (y2 : Nat) (y3 : Int32) (y4 : Int32), y2 < 15 → (OB4 (r_E m fo S S0) m (some (st y2)) y3 y4 ↔ B4 S y2 y3 y4)) (n : Nat) (S : r_S) (k1 : Nat) (x2 : Int32) (x3 : Int32) (x4 : Int32) (x5 : Int32) (x6 : Int32) (hk : k1 < 15) (Q : Option Value → q_S → Prop) : wl_X12_numberOf_53 OB4 n (r_E m fo S S0) m (some (st k1)) x2 x3 x4 x5 x6 Q ↔ rl_X12_numberOf_53 B4 n S k1 x2 x3 x4 x5 x6 (fun r S => Q r (r_E m fo S S0)) := by
  induction n generalizing S k1 x2 x3 x4 x5 x6 with
  | zero => exact Iff.rfl
  | succ n ih => exact eb_X12_numberOf_53 w hB4 (fun _ _ _ _ _ _ _ h_ => ih _ _ _ _ _ _ _ h_) S k1 x2 x3 x4 x5 x6 hk Q
def rb_X12_numberOf_48 (B4 : r_S → Nat → Int32 → Int32 → Prop) (S : r_S) (k1 : Nat) (x2 : Int32) (x3 : Int32) (x4 : Int32) (xs0 : Int32) (Q : Option Value → r_S → Prop) : Prop := ∃ n17_ : Nat, rl_X12_numberOf_53 B4 n17_ S k1 x2 x3 x4 xs0 (0 : Int32) Q
set_option maxRecDepth 100000 in
set_option maxHeartbeats 4000000 in
theorem eb_X12_numberOf_48 {m : Nat} {ad : Nat → Nat} {fo : Nat → Option Nat} {st : Nat → Nat} {S0 : q_S} (w : r_WF m ad fo st S0) {OB4 : q_S → Nat → Option Nat → Int32 → Int32 → Prop} {B4 : r_S → Nat → Int32 → Int32 → Prop} (hB4 : ∀ (S : r_S) (y2 : Nat) (y3 : Int32) (y4 : Int32), y2 < 15 → (OB4 (r_E m fo S S0) m (some (st y2)) y3 y4 ↔ B4 S y2 y3 y4)) (S : r_S) (k1 : Nat) (x2 : Int32) (x3 : Int32) (x4 : Int32) (xs0 : Int32) (hk : k1 < 15) (Q : Option Value → q_S → Prop) : wb_X12_numberOf_48 OB4 (r_E m fo S S0) m (some (st k1)) x2 x3 x4 xs0 Q ↔ rb_X12_numberOf_48 B4 S k1 x2 x3 x4 xs0 (fun r S => Q r (r_E m fo S S0)) := by
  unfold wb_X12_numberOf_48 rb_X12_numberOf_48
  simp only [r_eK, r_eI, r_eIs, r_eP, r_eN, true_and, Option.some.injEq, exists_eq_left', r_all, w.1, el_X12_numberOf_53 w hB4, hB4, r_chx w, r_lnx w, hk, (w.2.2.2.1 k1 hk).1]
def rb_X12_numberOf_15 (B4 : r_S → Nat → Int32 → Int32 → Prop) (B15 : r_S → Nat → Int32 → Int32 → Int32 → Prop) (S : r_S) (k1 : Nat) (x2 : Int32) (x3 : Int32) (x4 : Int32) (Q : Option Value → r_S → Prop) : Prop := r_ch k1 S x4 (fun r21_ S22_ => ∃ x23_ : Int32, r21_ = some (.int x23_) ∧ ((x23_ = (32 : Int32) → ((¬ (x4 - x3) = (r_I S22_ 2410) → (rb_X12_numberOf_48 B4 S22_ k1 x2 x3 x4 (0 : Int32) Q)) ∧ ((x4 - x3) = (r_I S22_ 2410) → (rb_X12_numberOf_48 B4 S22_ k1 x2 x3 x4 (1 : Int32) Q)))) ∧ (¬ x23_ = (32 : Int32) → (B15 S22_ k1 x2 x3 (x4 + 1)))))
set_option maxRecDepth 100000 in
set_option maxHeartbeats 4000000 in
theorem eb_X12_numberOf_15 {m : Nat} {ad : Nat → Nat} {fo : Nat → Option Nat} {st : Nat → Nat} {S0 : q_S} (w : r_WF m ad fo st S0) {OB4 : q_S → Nat → Option Nat → Int32 → Int32 → Prop} {B4 : r_S → Nat → Int32 → Int32 → Prop} {OB15 : q_S → Nat → Option Nat → Int32 → Int32 → Int32 → Prop} {B15 : r_S → Nat → Int32 → Int32 → Int32 → Prop} (hB4 : ∀ (S : r_S) (y2 : Nat) (y3 : Int32) (y4 : Int32), y2 < 15 → (OB4 (r_E m fo S S0) m (some (st y2)) y3 y4 ↔ B4 S y2 y3 y4)) (hB15 : ∀ (S : r_S) (y2 : Nat) (y3 : Int32) (y4 : Int32) (y5 : Int32), y2 < 15 → (OB15 (r_E m fo S S0) m (some (st y2)) y3 y4 y5 ↔ B15 S y2 y3 y4 y5)) (S : r_S) (k1 : Nat) (x2 : Int32) (x3 : Int32) (x4 : Int32) (hk : k1 < 15) (Q : Option Value → q_S → Prop) : wb_X12_numberOf_15 OB4 OB15 (r_E m fo S S0) m (some (st k1)) x2 x3 x4 Q ↔ rb_X12_numberOf_15 B4 B15 S k1 x2 x3 x4 (fun r S => Q r (r_E m fo S S0)) := by
  unfold wb_X12_numberOf_15 rb_X12_numberOf_15
  simp only [r_eK, r_eI, r_eIs, r_eP, r_eN, true_and, Option.some.injEq, exists_eq_left', r_all, w.1, eb_X12_numberOf_48 w hB4, hB4, hB15, r_chx w, r_lnx w, hk, (w.2.2.2.1 k1 hk).1]
def rl_X12_numberOf_15 (B4 : r_S → Nat → Int32 → Int32 → Prop) : Nat → r_S → Nat → Int32 → Int32 → Int32 → (Option Value → r_S → Prop) → Prop
  | 0, _, _, _, _, _, _ => False
  | n + 1, S, k1, x2, x3, x4, Q => rb_X12_numberOf_15 B4 (fun S k1 x2 x3 x4 => rl_X12_numberOf_15 B4 n S k1 x2 x3 x4 Q) S k1 x2 x3 x4 Q
set_option maxRecDepth 100000 in
theorem el_X12_numberOf_15 {m : Nat} {ad : Nat → Nat} {fo : Nat → Option Nat} {st : Nat → Nat} {S0 : q_S} (w : r_WF m ad fo st S0) {OB4 : q_S → Nat → Option Nat → Int32 → Int32 → Prop} {B4 : r_S → Nat → Int32 → Int32 → Prop} (hB4 : ∀ (S : r_S) (y2 : Nat) (y3 : Int32) (y4 : Int32), y2 < 15 → (OB4 (r_E m fo S S0) m (some (st y2)) y3 y4 ↔ B4 S y2 y3 y4)) (n : Nat) (S : r_S) (k1 : Nat) (x2 : Int32) (x3 : Int32) (x4 : Int32) (hk : k1 < 15) (Q : Option Value → q_S → Prop) : wl_X12_numberOf_15 OB4 n (r_E m fo S S0) m (some (st k1)) x2 x3 x4 Q ↔ rl_X12_numberOf_15 B4 n S k1 x2 x3 x4 (fun r S => Q r (r_E m fo S S0)) := by
  induction n generalizing S k1 x2 x3 x4 with
  | zero => exact Iff.rfl
  | succ n ih => exact eb_X12_numberOf_15 w hB4 (fun _ _ _ _ _ h_ => ih _ _ _ _ _ h_) S k1 x2 x3 x4 hk Q
def rb_X12_numberOf_4 (B4 : r_S → Nat → Int32 → Int32 → Prop) (S : r_S) (k1 : Nat) (x2 : Int32) (x3 : Int32) (Q : Option Value → r_S → Prop) : Prop := r_ln k1 S (fun r30_ S31_ => ∃ x32_ : Int32, r30_ = some (.int x32_) ∧ ((x32_ ≤ x3 → (Q (some (.int (-1 : Int32))) S31_)) ∧ (¬ x32_ ≤ x3 → (∃ n34_ : Nat, rl_X12_numberOf_15 B4 n34_ S31_ k1 x2 x3 x3 Q))))
set_option maxRecDepth 100000 in
set_option maxHeartbeats 4000000 in
theorem eb_X12_numberOf_4 {m : Nat} {ad : Nat → Nat} {fo : Nat → Option Nat} {st : Nat → Nat} {S0 : q_S} (w : r_WF m ad fo st S0) {OB4 : q_S → Nat → Option Nat → Int32 → Int32 → Prop} {B4 : r_S → Nat → Int32 → Int32 → Prop} (hB4 : ∀ (S : r_S) (y2 : Nat) (y3 : Int32) (y4 : Int32), y2 < 15 → (OB4 (r_E m fo S S0) m (some (st y2)) y3 y4 ↔ B4 S y2 y3 y4)) (S : r_S) (k1 : Nat) (x2 : Int32) (x3 : Int32) (hk : k1 < 15) (Q : Option Value → q_S → Prop) : wb_X12_numberOf_4 OB4 (r_E m fo S S0) m (some (st k1)) x2 x3 Q ↔ rb_X12_numberOf_4 B4 S k1 x2 x3 (fun r S => Q r (r_E m fo S S0)) := by
  unfold wb_X12_numberOf_4 rb_X12_numberOf_4
  simp only [r_eK, r_eI, r_eIs, r_eP, r_eN, true_and, Option.some.injEq, exists_eq_left', r_all, w.1, el_X12_numberOf_15 w hB4, hB4, r_chx w, r_lnx w, hk, (w.2.2.2.1 k1 hk).1]
def rl_X12_numberOf_4  : Nat → r_S → Nat → Int32 → Int32 → (Option Value → r_S → Prop) → Prop
  | 0, _, _, _, _, _ => False
  | n + 1, S, k1, x2, x3, Q => rb_X12_numberOf_4 (fun S k1 x2 x3 => rl_X12_numberOf_4 n S k1 x2 x3 Q) S k1 x2 x3 Q
set_option maxRecDepth 100000 in
theorem el_X12_numberOf_4 {m : Nat} {ad : Nat → Nat} {fo : Nat → Option Nat} {st : Nat → Nat} {S0 : q_S} (w : r_WF m ad fo st S0)  (n : Nat) (S : r_S) (k1 : Nat) (x2 : Int32) (x3 : Int32) (hk : k1 < 15) (Q : Option Value → q_S → Prop) : wl_X12_numberOf_4 n (r_E m fo S S0) m (some (st k1)) x2 x3 Q ↔ rl_X12_numberOf_4 n S k1 x2 x3 (fun r S => Q r (r_E m fo S S0)) := by
  induction n generalizing S k1 x2 x3 with
  | zero => exact Iff.rfl
  | succ n ih => exact eb_X12_numberOf_4 w (fun _ _ _ _ h_ => ih _ _ _ _ h_) S k1 x2 x3 hk Q
def rm_X12_numberOf (S : r_S) (k1 : Nat) (Q : Option Value → r_S → Prop) : Prop := ∃ n35_ : Nat, rl_X12_numberOf_4 n35_ S k1 (0 : Int32) (1 : Int32) Q
set_option maxRecDepth 100000 in
set_option maxHeartbeats 4000000 in
theorem em_X12_numberOf {m : Nat} {ad : Nat → Nat} {fo : Nat → Option Nat} {st : Nat → Nat} {S0 : q_S} (w : r_WF m ad fo st S0)  (S : r_S) (k1 : Nat) (hk : k1 < 15) (Q : Option Value → q_S → Prop) : wm_X12_numberOf (r_E m fo S S0) m (some (st k1)) Q ↔ rm_X12_numberOf S k1 (fun r S => Q r (r_E m fo S S0)) := by
  unfold wm_X12_numberOf rm_X12_numberOf
  simp only [r_eK, r_eI, r_eIs, r_eP, r_eN, true_and, Option.some.injEq, exists_eq_left', r_all, w.1, el_X12_numberOf_4 w, r_chx w, r_lnx w, hk, (w.2.2.2.1 k1 hk).1]
def rb_X12_next_39 (B0 : r_S → Prop) (S : r_S) (Q : Option Value → r_S → Prop) : Prop := B0 (rs_I S 2405 ((r_I S 2405) + (1 : Int32)))
set_option maxRecDepth 100000 in
set_option maxHeartbeats 4000000 in
theorem eb_X12_next_39 {m : Nat} {ad : Nat → Nat} {fo : Nat → Option Nat} {st : Nat → Nat} {S0 : q_S} (w : r_WF m ad fo st S0) {OB0 : q_S → Nat → Prop} {B0 : r_S → Prop} (hB0 : ∀ (S : r_S), (OB0 (r_E m fo S S0) m ↔ B0 S)) (S : r_S) (Q : Option Value → q_S → Prop) : wb_X12_next_39 OB0 (r_E m fo S S0) m Q ↔ rb_X12_next_39 B0 S (fun r S => Q r (r_E m fo S S0)) := by
  unfold wb_X12_next_39 rb_X12_next_39
  simp only [r_eK, r_eI, r_eIs, r_eP, r_eN, true_and, Option.some.injEq, exists_eq_left', r_all, w.1, hB0]
def rb_X12_next_390 (S : r_S) (Q : Option Value → r_S → Prop) : Prop := Q none S
set_option maxRecDepth 100000 in
set_option maxHeartbeats 4000000 in
theorem eb_X12_next_390 {m : Nat} {ad : Nat → Nat} {fo : Nat → Option Nat} {st : Nat → Nat} {S0 : q_S} (w : r_WF m ad fo st S0)  (S : r_S) (Q : Option Value → q_S → Prop) : wb_X12_next_390 (r_E m fo S S0) Q ↔ rb_X12_next_390 S (fun r S => Q r (r_E m fo S S0)) := by
  unfold wb_X12_next_390 rb_X12_next_390
  simp only [r_eK, r_eI, r_eIs, r_eP, r_eN, true_and, Option.some.injEq, exists_eq_left', r_all, w.1]
def rb_X12_next_134 (B104 : r_S → Prop) (S : r_S) (Q : Option Value → r_S → Prop) : Prop := B104 (rs_I S 2405 ((r_I S 2405) + (1 : Int32)))
set_option maxRecDepth 100000 in
set_option maxHeartbeats 4000000 in
theorem eb_X12_next_134 {m : Nat} {ad : Nat → Nat} {fo : Nat → Option Nat} {st : Nat → Nat} {S0 : q_S} (w : r_WF m ad fo st S0) {OB104 : q_S → Nat → Prop} {B104 : r_S → Prop} (hB104 : ∀ (S : r_S), (OB104 (r_E m fo S S0) m ↔ B104 S)) (S : r_S) (Q : Option Value → q_S → Prop) : wb_X12_next_134 OB104 (r_E m fo S S0) m Q ↔ rb_X12_next_134 B104 S (fun r S => Q r (r_E m fo S S0)) := by
  unfold wb_X12_next_134 rb_X12_next_134
  simp only [r_eK, r_eI, r_eIs, r_eP, r_eN, true_and, Option.some.injEq, exists_eq_left', r_all, w.1, hB104]
def rb_X12_next_197 (S : r_S) (xs1 : Int32) (Q : Option Value → r_S → Prop) : Prop := rb_X12_next_390 (rs_I S 2406 xs1) Q
set_option maxRecDepth 100000 in
set_option maxHeartbeats 4000000 in
theorem eb_X12_next_197 {m : Nat} {ad : Nat → Nat} {fo : Nat → Option Nat} {st : Nat → Nat} {S0 : q_S} (w : r_WF m ad fo st S0)  (S : r_S) (xs1 : Int32) (Q : Option Value → q_S → Prop) : wb_X12_next_197 (r_E m fo S S0) m xs1 Q ↔ rb_X12_next_197 S xs1 (fun r S => Q r (r_E m fo S S0)) := by
  unfold wb_X12_next_197 rb_X12_next_197
  simp only [r_eK, r_eI, r_eIs, r_eP, r_eN, true_and, Option.some.injEq, exists_eq_left', r_all, w.1, eb_X12_next_390 w]
def rb_X12_next_104 (B104 : r_S → Prop) (S : r_S) (Q : Option Value → r_S → Prop) : Prop := rm_X12_byteAt S (r_I S 2405) (fun r5_ S6_ => ∃ x7_ : Int32, r5_ = some (.int x7_) ∧ (rm_X12_isLetter S6_ x7_ (fun r9_ S10_ => ∃ x11_ : Int32, r9_ = some (.int x11_) ∧ ((¬ x11_ = 0 → (rb_X12_next_134 B104 S10_ Q)) ∧ (x11_ = 0 → (rm_X12_byteAt S10_ (r_I S10_ 2405) (fun r14_ S15_ => ∃ x16_ : Int32, r14_ = some (.int x16_) ∧ (rm_X12_isDigit S15_ x16_ (fun r18_ S19_ => ∃ x20_ : Int32, r18_ = some (.int x20_) ∧ ((x20_ = 0 → (rm_X12_numberOf (rs_I S19_ 2410 ((r_I S19_ 2405) - (r_I S19_ 2409))) 12 (fun r26_ S27_ => ∃ x28_ : Int32, r26_ = some (.int x28_) ∧ (((r_I (rs_I S27_ 2408 x28_) 2410) ≤ (12 : Int32) → (((r_I (rs_I S27_ 2408 x28_) 2408) < 0 → (rb_X12_next_197 (rs_I S27_ 2408 x28_) (1 : Int32) Q)) ∧ (¬ (r_I (rs_I S27_ 2408 x28_) 2408) < 0 → (rb_X12_next_197 (rs_I S27_ 2408 x28_) (4 : Int32) Q)))) ∧ (¬ (r_I (rs_I S27_ 2408 x28_) 2410) ≤ (12 : Int32) → (rb_X12_next_197 (rs_I S27_ 2408 x28_) (5 : Int32) Q)))))) ∧ (¬ x20_ = 0 → (rb_X12_next_134 B104 S19_ Q))))))))))))
set_option maxRecDepth 100000 in
set_option maxHeartbeats 4000000 in
theorem eb_X12_next_104 {m : Nat} {ad : Nat → Nat} {fo : Nat → Option Nat} {st : Nat → Nat} {S0 : q_S} (w : r_WF m ad fo st S0) {OB104 : q_S → Nat → Prop} {B104 : r_S → Prop} (hB104 : ∀ (S : r_S), (OB104 (r_E m fo S S0) m ↔ B104 S)) (S : r_S) (Q : Option Value → q_S → Prop) : wb_X12_next_104 OB104 (r_E m fo S S0) m Q ↔ rb_X12_next_104 B104 S (fun r S => Q r (r_E m fo S S0)) := by
  unfold wb_X12_next_104 rb_X12_next_104
  simp only [r_eK, r_eI, r_eIs, r_eP, r_eN, true_and, Option.some.injEq, exists_eq_left', r_all, w.1, r_ws w (k := 12) (by decide), eb_X12_next_134 w hB104, eb_X12_next_197 w, em_X12_byteAt w, em_X12_isDigit w, em_X12_isLetter w, em_X12_numberOf w _ 12 (by decide), hB104]
def rl_X12_next_104  : Nat → r_S → (Option Value → r_S → Prop) → Prop
  | 0, _, _ => False
  | n + 1, S, Q => rb_X12_next_104 (fun S => rl_X12_next_104 n S Q) S Q
set_option maxRecDepth 100000 in
theorem el_X12_next_104 {m : Nat} {ad : Nat → Nat} {fo : Nat → Option Nat} {st : Nat → Nat} {S0 : q_S} (w : r_WF m ad fo st S0)  (n : Nat) (S : r_S) (Q : Option Value → q_S → Prop) : wl_X12_next_104 n (r_E m fo S S0) m Q ↔ rl_X12_next_104 n S (fun r S => Q r (r_E m fo S S0)) := by
  induction n generalizing S with
  | zero => exact Iff.rfl
  | succ n ih => exact eb_X12_next_104 w (fun _ => ih _) S Q
def rb_X12_next_272 (B216 : r_S → Prop) (S : r_S) (xs1 : Int32) (Q : Option Value → r_S → Prop) : Prop := ∀ S34_ : r_S, S34_ = (rs_I (rs_I S 2408 xs1) 2405 ((r_I (rs_I S 2408 xs1) 2405) + (1 : Int32))) → (B216 S34_)
set_option maxRecDepth 100000 in
set_option maxHeartbeats 4000000 in
theorem eb_X12_next_272 {m : Nat} {ad : Nat → Nat} {fo : Nat → Option Nat} {st : Nat → Nat} {S0 : q_S} (w : r_WF m ad fo st S0) {OB216 : q_S → Nat → Prop} {B216 : r_S → Prop} (hB216 : ∀ (S : r_S), (OB216 (r_E m fo S S0) m ↔ B216 S)) (S : r_S) (xs1 : Int32) (Q : Option Value → q_S → Prop) : wb_X12_next_272 OB216 (r_E m fo S S0) m m xs1 Q ↔ rb_X12_next_272 B216 S xs1 (fun r S => Q r (r_E m fo S S0)) := by
  unfold wb_X12_next_272 rb_X12_next_272
  simp only [r_eK, r_eI, r_eIs, r_eP, r_eN, true_and, Option.some.injEq, exists_eq_left', r_all, w.1, hB216]
def rb_X12_next_308 (S : r_S) (xs1 : Int32) (Q : Option Value → r_S → Prop) : Prop := rb_X12_next_390 (rs_I S 2406 xs1) Q
set_option maxRecDepth 100000 in
set_option maxHeartbeats 4000000 in
theorem eb_X12_next_308 {m : Nat} {ad : Nat → Nat} {fo : Nat → Option Nat} {st : Nat → Nat} {S0 : q_S} (w : r_WF m ad fo st S0)  (S : r_S) (xs1 : Int32) (Q : Option Value → q_S → Prop) : wb_X12_next_308 (r_E m fo S S0) m xs1 Q ↔ rb_X12_next_308 S xs1 (fun r S => Q r (r_E m fo S S0)) := by
  unfold wb_X12_next_308 rb_X12_next_308
  simp only [r_eK, r_eI, r_eIs, r_eP, r_eN, true_and, Option.some.injEq, exists_eq_left', r_all, w.1, eb_X12_next_390 w]
def rb_X12_next_216 (B216 : r_S → Prop) (S : r_S) (Q : Option Value → r_S → Prop) : Prop := rm_X12_byteAt S (r_I S 2405) (fun r37_ S38_ => ∃ x39_ : Int32, r37_ = some (.int x39_) ∧ (rm_X12_isDigit S38_ x39_ (fun r41_ S42_ => ∃ x43_ : Int32, r41_ = some (.int x43_) ∧ ((x43_ = 0 → ((((r_I S42_ 2405) - (r_I S42_ 2409)) ≤ (6 : Int32) → (rb_X12_next_308 S42_ (2 : Int32) Q)) ∧ (¬ ((r_I S42_ 2405) - (r_I S42_ 2409)) ≤ (6 : Int32) → (rb_X12_next_308 S42_ (5 : Int32) Q)))) ∧ (¬ x43_ = 0 → (((6 : Int32) ≤ ((r_I S42_ 2405) - (r_I S42_ 2409)) → (rb_X12_next_272 B216 S42_ (r_I S42_ 2408) Q)) ∧ (¬ (6 : Int32) ≤ ((r_I S42_ 2405) - (r_I S42_ 2409)) → (rm_X12_byteAt S42_ (r_I S42_ 2405) (fun r49_ S50_ => ∃ x51_ : Int32, r49_ = some (.int x51_) ∧ (rb_X12_next_272 B216 S50_ ((((10 : Int32) * (r_I S42_ 2408)) + x51_) - (48 : Int32)) Q))))))))))
set_option maxRecDepth 100000 in
set_option maxHeartbeats 4000000 in
theorem eb_X12_next_216 {m : Nat} {ad : Nat → Nat} {fo : Nat → Option Nat} {st : Nat → Nat} {S0 : q_S} (w : r_WF m ad fo st S0) {OB216 : q_S → Nat → Prop} {B216 : r_S → Prop} (hB216 : ∀ (S : r_S), (OB216 (r_E m fo S S0) m ↔ B216 S)) (S : r_S) (Q : Option Value → q_S → Prop) : wb_X12_next_216 OB216 (r_E m fo S S0) m Q ↔ rb_X12_next_216 B216 S (fun r S => Q r (r_E m fo S S0)) := by
  unfold wb_X12_next_216 rb_X12_next_216
  simp only [r_eK, r_eI, r_eIs, r_eP, r_eN, true_and, Option.some.injEq, exists_eq_left', r_all, w.1, eb_X12_next_272 w hB216, eb_X12_next_308 w, em_X12_byteAt w, em_X12_isDigit w, hB216]
def rl_X12_next_216  : Nat → r_S → (Option Value → r_S → Prop) → Prop
  | 0, _, _ => False
  | n + 1, S, Q => rb_X12_next_216 (fun S => rl_X12_next_216 n S Q) S Q
set_option maxRecDepth 100000 in
theorem el_X12_next_216 {m : Nat} {ad : Nat → Nat} {fo : Nat → Option Nat} {st : Nat → Nat} {S0 : q_S} (w : r_WF m ad fo st S0)  (n : Nat) (S : r_S) (Q : Option Value → q_S → Prop) : wl_X12_next_216 n (r_E m fo S S0) m Q ↔ rl_X12_next_216 n S (fun r S => Q r (r_E m fo S S0)) := by
  induction n generalizing S with
  | zero => exact Iff.rfl
  | succ n ih => exact eb_X12_next_216 w (fun _ => ih _) S Q
def rb_X12_next_372 (S : r_S) (x1 : Int32) (xs1 : Int32) (Q : Option Value → r_S → Prop) : Prop := ∀ S54_ : r_S, S54_ = (rs_I (rs_I (rs_I S 2406 xs1) 2408 x1) 2405 ((r_I (rs_I (rs_I S 2406 xs1) 2408 x1) 2405) + (1 : Int32))) → (rb_X12_next_390 S54_ Q)
set_option maxRecDepth 100000 in
set_option maxHeartbeats 4000000 in
theorem eb_X12_next_372 {m : Nat} {ad : Nat → Nat} {fo : Nat → Option Nat} {st : Nat → Nat} {S0 : q_S} (w : r_WF m ad fo st S0)  (S : r_S) (x1 : Int32) (xs1 : Int32) (Q : Option Value → q_S → Prop) : wb_X12_next_372 (r_E m fo S S0) m x1 m xs1 Q ↔ rb_X12_next_372 S x1 xs1 (fun r S => Q r (r_E m fo S S0)) := by
  unfold wb_X12_next_372 rb_X12_next_372
  simp only [r_eK, r_eI, r_eIs, r_eP, r_eN, true_and, Option.some.injEq, exists_eq_left', r_all, w.1, eb_X12_next_390 w]
def rb_X12_next_361 (S : r_S) (x1 : Int32) (xs0 : Int32) (Q : Option Value → r_S → Prop) : Prop := (xs0 = 0 → (rb_X12_next_372 S x1 (5 : Int32) Q)) ∧ (¬ xs0 = 0 → (rb_X12_next_372 S x1 (3 : Int32) Q))
set_option maxRecDepth 100000 in
set_option maxHeartbeats 4000000 in
theorem eb_X12_next_361 {m : Nat} {ad : Nat → Nat} {fo : Nat → Option Nat} {st : Nat → Nat} {S0 : q_S} (w : r_WF m ad fo st S0)  (S : r_S) (x1 : Int32) (xs0 : Int32) (Q : Option Value → q_S → Prop) : wb_X12_next_361 (r_E m fo S S0) m x1 xs0 Q ↔ rb_X12_next_361 S x1 xs0 (fun r S => Q r (r_E m fo S S0)) := by
  unfold wb_X12_next_361 rb_X12_next_361
  simp only [r_eK, r_eI, r_eIs, r_eP, r_eN, true_and, Option.some.injEq, exists_eq_left', r_all, w.1, eb_X12_next_372 w]
def rb_X12_next_356 (S : r_S) (x1 : Int32) (Q : Option Value → r_S → Prop) : Prop := rb_X12_next_361 S x1 (1 : Int32) Q
set_option maxRecDepth 100000 in
set_option maxHeartbeats 4000000 in
theorem eb_X12_next_356 {m : Nat} {ad : Nat → Nat} {fo : Nat → Option Nat} {st : Nat → Nat} {S0 : q_S} (w : r_WF m ad fo st S0)  (S : r_S) (x1 : Int32) (Q : Option Value → q_S → Prop) : wb_X12_next_356 (r_E m fo S S0) m x1 Q ↔ rb_X12_next_356 S x1 (fun r S => Q r (r_E m fo S S0)) := by
  unfold wb_X12_next_356 rb_X12_next_356
  simp only [r_eK, r_eI, r_eIs, r_eP, r_eN, true_and, Option.some.injEq, exists_eq_left', r_all, w.1, eb_X12_next_361 w]
def rb_X12_next_52 (S : r_S) (Q : Option Value → r_S → Prop) : Prop := ∀ S57_ : r_S, S57_ = (rs_I (rs_I S 2407 (r_I S 2405)) 2409 (r_I (rs_I S 2407 (r_I S 2405)) 2405)) → (rm_X12_byteAt S57_ (r_I S57_ 2405) (fun r58_ S59_ => ∃ x60_ : Int32, r58_ = some (.int x60_) ∧ (((r_I S59_ 2405) < (r_I S59_ 2404) → (rm_X12_isLetter S59_ x60_ (fun r63_ S64_ => ∃ x65_ : Int32, r63_ = some (.int x65_) ∧ ((x65_ = 0 → (rm_X12_isDigit S64_ x60_ (fun r68_ S69_ => ∃ x70_ : Int32, r68_ = some (.int x70_) ∧ ((x70_ = 0 → ((x60_ = (123 : Int32) → (rb_X12_next_356 S69_ x60_ Q)) ∧ (¬ x60_ = (123 : Int32) → ((x60_ = (125 : Int32) → (rb_X12_next_356 S69_ x60_ Q)) ∧ (¬ x60_ = (125 : Int32) → ((x60_ = (59 : Int32) → (rb_X12_next_356 S69_ x60_ Q)) ∧ (¬ x60_ = (59 : Int32) → ((x60_ = (58 : Int32) → (rb_X12_next_356 S69_ x60_ Q)) ∧ (¬ x60_ = (58 : Int32) → ((x60_ = (46 : Int32) → (rb_X12_next_356 S69_ x60_ Q)) ∧ (¬ x60_ = (46 : Int32) → ((x60_ = (44 : Int32) → (rb_X12_next_356 S69_ x60_ Q)) ∧ (¬ x60_ = (44 : Int32) → ((¬ x60_ = (62 : Int32) → (rb_X12_next_361 S69_ x60_ (0 : Int32) Q)) ∧ (x60_ = (62 : Int32) → (rb_X12_next_356 S69_ x60_ Q)))))))))))))))) ∧ (¬ x70_ = 0 → (∃ n80_ : Nat, rl_X12_next_216 n80_ (rs_I S69_ 2408 (0 : Int32)) Q)))))) ∧ (¬ x65_ = 0 → (∃ n81_ : Nat, rl_X12_next_104 n81_ S64_ Q)))))) ∧ (¬ (r_I S59_ 2405) < (r_I S59_ 2404) → (rb_X12_next_390 (rs_I S59_ 2406 (0 : Int32)) Q)))))
set_option maxRecDepth 100000 in
set_option maxHeartbeats 4000000 in
theorem eb_X12_next_52 {m : Nat} {ad : Nat → Nat} {fo : Nat → Option Nat} {st : Nat → Nat} {S0 : q_S} (w : r_WF m ad fo st S0)  (S : r_S) (Q : Option Value → q_S → Prop) : wb_X12_next_52 (r_E m fo S S0) m Q ↔ rb_X12_next_52 S (fun r S => Q r (r_E m fo S S0)) := by
  unfold wb_X12_next_52 rb_X12_next_52
  simp only [r_eK, r_eI, r_eIs, r_eP, r_eN, true_and, Option.some.injEq, exists_eq_left', r_all, w.1, eb_X12_next_356 w, eb_X12_next_361 w, eb_X12_next_390 w, el_X12_next_104 w, el_X12_next_216 w, em_X12_byteAt w, em_X12_isDigit w, em_X12_isLetter w]
def rb_X12_next_0 (B0 : r_S → Prop) (S : r_S) (Q : Option Value → r_S → Prop) : Prop := ((r_I S 2404) ≤ (r_I S 2405) → (rb_X12_next_52 S Q)) ∧ (¬ (r_I S 2404) ≤ (r_I S 2405) → (vp_in (r_I S 2405) (r_N 2402) ∧ (((r_A S 2402 (r_I S 2405).toNatClampNeg) = (32 : Int32) → (rb_X12_next_39 B0 S Q)) ∧ (¬ (r_A S 2402 (r_I S 2405).toNatClampNeg) = (32 : Int32) → (vp_in (r_I S 2405) (r_N 2402) ∧ ((¬ (r_A S 2402 (r_I S 2405).toNatClampNeg) = (10 : Int32) → (rb_X12_next_52 S Q)) ∧ ((r_A S 2402 (r_I S 2405).toNatClampNeg) = (10 : Int32) → (rb_X12_next_39 B0 S Q))))))))
set_option maxRecDepth 100000 in
set_option maxHeartbeats 4000000 in
theorem eb_X12_next_0 {m : Nat} {ad : Nat → Nat} {fo : Nat → Option Nat} {st : Nat → Nat} {S0 : q_S} (w : r_WF m ad fo st S0) {OB0 : q_S → Nat → Prop} {B0 : r_S → Prop} (hB0 : ∀ (S : r_S), (OB0 (r_E m fo S S0) m ↔ B0 S)) (S : r_S) (Q : Option Value → q_S → Prop) : wb_X12_next_0 OB0 (r_E m fo S S0) m Q ↔ rb_X12_next_0 B0 S (fun r S => Q r (r_E m fo S S0)) := by
  unfold wb_X12_next_0 rb_X12_next_0
  simp only [r_eK, r_eI, r_eIs, r_eP, r_eN, true_and, Option.some.injEq, exists_eq_left', r_all, w.1, r_w1 w 2402 rfl, r_w2 w 2402 20 rfl rfl, r_w3 w 2402 rfl, r_eA w 2402 rfl, r_eAs w 2402 rfl, eb_X12_next_39 w hB0, eb_X12_next_52 w, hB0]
def rl_X12_next_0  : Nat → r_S → (Option Value → r_S → Prop) → Prop
  | 0, _, _ => False
  | n + 1, S, Q => rb_X12_next_0 (fun S => rl_X12_next_0 n S Q) S Q
set_option maxRecDepth 100000 in
theorem el_X12_next_0 {m : Nat} {ad : Nat → Nat} {fo : Nat → Option Nat} {st : Nat → Nat} {S0 : q_S} (w : r_WF m ad fo st S0)  (n : Nat) (S : r_S) (Q : Option Value → q_S → Prop) : wl_X12_next_0 n (r_E m fo S S0) m Q ↔ rl_X12_next_0 n S (fun r S => Q r (r_E m fo S S0)) := by
  induction n generalizing S with
  | zero => exact Iff.rfl
  | succ n ih => exact eb_X12_next_0 w (fun _ => ih _) S Q
def rm_X12_next (S : r_S) (Q : Option Value → r_S → Prop) : Prop := ∃ n91_ : Nat, rl_X12_next_0 n91_ S Q
set_option maxRecDepth 100000 in
set_option maxHeartbeats 4000000 in
theorem em_X12_next {m : Nat} {ad : Nat → Nat} {fo : Nat → Option Nat} {st : Nat → Nat} {S0 : q_S} (w : r_WF m ad fo st S0)  (S : r_S) (Q : Option Value → q_S → Prop) : wm_X12_next (r_E m fo S S0) m Q ↔ rm_X12_next S (fun r S => Q r (r_E m fo S S0)) := by
  unfold wm_X12_next rm_X12_next
  simp only [r_eK, r_eI, r_eIs, r_eP, r_eN, true_and, Option.some.injEq, exists_eq_left', r_all, w.1, el_X12_next_0 w]
def rb_X12_fail_17 (S : r_S) (Q : Option Value → r_S → Prop) : Prop := Q (some (.int (0 : Int32))) S
set_option maxRecDepth 100000 in
set_option maxHeartbeats 4000000 in
theorem eb_X12_fail_17 {m : Nat} {ad : Nat → Nat} {fo : Nat → Option Nat} {st : Nat → Nat} {S0 : q_S} (w : r_WF m ad fo st S0)  (S : r_S) (Q : Option Value → q_S → Prop) : wb_X12_fail_17 (r_E m fo S S0) Q ↔ rb_X12_fail_17 S (fun r S => Q r (r_E m fo S S0)) := by
  unfold wb_X12_fail_17 rb_X12_fail_17
  simp only [r_eK, r_eI, r_eIs, r_eP, r_eN, true_and, Option.some.injEq, exists_eq_left', r_all, w.1]
def rm_X12_fail (S : r_S) (x1 : Int32) (x2 : Int32) (Q : Option Value → r_S → Prop) : Prop := (¬ (r_I S 2411) = 0 → (rb_X12_fail_17 S Q)) ∧ ((r_I S 2411) = 0 → (rb_X12_fail_17 (rs_I (rs_I S 2411 x1) 2412 x2) Q))
set_option maxRecDepth 100000 in
set_option maxHeartbeats 4000000 in
theorem em_X12_fail {m : Nat} {ad : Nat → Nat} {fo : Nat → Option Nat} {st : Nat → Nat} {S0 : q_S} (w : r_WF m ad fo st S0)  (S : r_S) (x1 : Int32) (x2 : Int32) (Q : Option Value → q_S → Prop) : wm_X12_fail (r_E m fo S S0) m x1 x2 Q ↔ rm_X12_fail S x1 x2 (fun r S => Q r (r_E m fo S S0)) := by
  unfold wm_X12_fail rm_X12_fail
  simp only [r_eK, r_eI, r_eIs, r_eP, r_eN, true_and, Option.some.injEq, exists_eq_left', r_all, w.1, eb_X12_fail_17 w]
def rb_X12_failHere_14 (S : r_S) (xs1 : Int32) (Q : Option Value → r_S → Prop) : Prop := rm_X12_fail S xs1 (r_I S 2407) (fun r3_ S4_ => ∃ x5_ : Int32, r3_ = some (.int x5_) ∧ (narrow .boolean (.int x5_) = .int x5_ ∧ Q (some (.int x5_)) S4_))
set_option maxRecDepth 100000 in
set_option maxHeartbeats 4000000 in
theorem eb_X12_failHere_14 {m : Nat} {ad : Nat → Nat} {fo : Nat → Option Nat} {st : Nat → Nat} {S0 : q_S} (w : r_WF m ad fo st S0)  (S : r_S) (xs1 : Int32) (Q : Option Value → q_S → Prop) : wb_X12_failHere_14 (r_E m fo S S0) m m xs1 Q ↔ rb_X12_failHere_14 S xs1 (fun r S => Q r (r_E m fo S S0)) := by
  unfold wb_X12_failHere_14 rb_X12_failHere_14
  simp only [r_eK, r_eI, r_eIs, r_eP, r_eN, true_and, Option.some.injEq, exists_eq_left', r_all, w.1, em_X12_fail w]
def rm_X12_failHere (S : r_S) (x1 : Int32) (Q : Option Value → r_S → Prop) : Prop := (¬ (r_I S 2406) = (5 : Int32) → (rb_X12_failHere_14 S x1 Q)) ∧ ((r_I S 2406) = (5 : Int32) → (rb_X12_failHere_14 S (2 : Int32) Q))
set_option maxRecDepth 100000 in
set_option maxHeartbeats 4000000 in
theorem em_X12_failHere {m : Nat} {ad : Nat → Nat} {fo : Nat → Option Nat} {st : Nat → Nat} {S0 : q_S} (w : r_WF m ad fo st S0)  (S : r_S) (x1 : Int32) (Q : Option Value → q_S → Prop) : wm_X12_failHere (r_E m fo S S0) m x1 Q ↔ rm_X12_failHere S x1 (fun r S => Q r (r_E m fo S S0)) := by
  unfold wm_X12_failHere rm_X12_failHere
  simp only [r_eK, r_eI, r_eIs, r_eP, r_eN, true_and, Option.some.injEq, exists_eq_left', r_all, w.1, eb_X12_failHere_14 w]
def rb_X12_isKey_28 (S : r_S) (xs0 : Int32) (Q : Option Value → r_S → Prop) : Prop := narrow .boolean (.int xs0) = .int xs0 ∧ Q (some (.int xs0)) S
set_option maxRecDepth 100000 in
set_option maxHeartbeats 4000000 in
theorem eb_X12_isKey_28 {m : Nat} {ad : Nat → Nat} {fo : Nat → Option Nat} {st : Nat → Nat} {S0 : q_S} (w : r_WF m ad fo st S0)  (S : r_S) (xs0 : Int32) (Q : Option Value → q_S → Prop) : wb_X12_isKey_28 (r_E m fo S S0) xs0 Q ↔ rb_X12_isKey_28 S xs0 (fun r S => Q r (r_E m fo S S0)) := by
  unfold wb_X12_isKey_28 rb_X12_isKey_28
  simp only [r_eK, r_eI, r_eIs, r_eP, r_eN, true_and, Option.some.injEq, exists_eq_left', r_all, w.1]
def rb_X12_isKey_27 (S : r_S) (Q : Option Value → r_S → Prop) : Prop := rb_X12_isKey_28 S (0 : Int32) Q
set_option maxRecDepth 100000 in
set_option maxHeartbeats 4000000 in
theorem eb_X12_isKey_27 {m : Nat} {ad : Nat → Nat} {fo : Nat → Option Nat} {st : Nat → Nat} {S0 : q_S} (w : r_WF m ad fo st S0)  (S : r_S) (Q : Option Value → q_S → Prop) : wb_X12_isKey_27 (r_E m fo S S0) Q ↔ rb_X12_isKey_27 S (fun r S => Q r (r_E m fo S S0)) := by
  unfold wb_X12_isKey_27 rb_X12_isKey_27
  simp only [r_eK, r_eI, r_eIs, r_eP, r_eN, true_and, Option.some.injEq, exists_eq_left', r_all, w.1, eb_X12_isKey_28 w]
def rm_X12_isKey (S : r_S) (x1 : Int32) (Q : Option Value → r_S → Prop) : Prop := (¬ (r_I S 2411) = 0 → (rb_X12_isKey_27 S Q)) ∧ ((r_I S 2411) = 0 → ((¬ (r_I S 2406) = (4 : Int32) → (rb_X12_isKey_27 S Q)) ∧ ((r_I S 2406) = (4 : Int32) → ((¬ (r_I S 2408) = x1 → (rb_X12_isKey_27 S Q)) ∧ ((r_I S 2408) = x1 → (rb_X12_isKey_28 S (1 : Int32) Q))))))
set_option maxRecDepth 100000 in
set_option maxHeartbeats 4000000 in
theorem em_X12_isKey {m : Nat} {ad : Nat → Nat} {fo : Nat → Option Nat} {st : Nat → Nat} {S0 : q_S} (w : r_WF m ad fo st S0)  (S : r_S) (x1 : Int32) (Q : Option Value → q_S → Prop) : wm_X12_isKey (r_E m fo S S0) m x1 Q ↔ rm_X12_isKey S x1 (fun r S => Q r (r_E m fo S S0)) := by
  unfold wm_X12_isKey rm_X12_isKey
  simp only [r_eK, r_eI, r_eIs, r_eP, r_eN, true_and, Option.some.injEq, exists_eq_left', r_all, w.1, eb_X12_isKey_27 w, eb_X12_isKey_28 w]
def rb_X12_isSign_28 (S : r_S) (xs0 : Int32) (Q : Option Value → r_S → Prop) : Prop := narrow .boolean (.int xs0) = .int xs0 ∧ Q (some (.int xs0)) S
set_option maxRecDepth 100000 in
set_option maxHeartbeats 4000000 in
theorem eb_X12_isSign_28 {m : Nat} {ad : Nat → Nat} {fo : Nat → Option Nat} {st : Nat → Nat} {S0 : q_S} (w : r_WF m ad fo st S0)  (S : r_S) (xs0 : Int32) (Q : Option Value → q_S → Prop) : wb_X12_isSign_28 (r_E m fo S S0) xs0 Q ↔ rb_X12_isSign_28 S xs0 (fun r S => Q r (r_E m fo S S0)) := by
  unfold wb_X12_isSign_28 rb_X12_isSign_28
  simp only [r_eK, r_eI, r_eIs, r_eP, r_eN, true_and, Option.some.injEq, exists_eq_left', r_all, w.1]
def rb_X12_isSign_27 (S : r_S) (Q : Option Value → r_S → Prop) : Prop := rb_X12_isSign_28 S (0 : Int32) Q
set_option maxRecDepth 100000 in
set_option maxHeartbeats 4000000 in
theorem eb_X12_isSign_27 {m : Nat} {ad : Nat → Nat} {fo : Nat → Option Nat} {st : Nat → Nat} {S0 : q_S} (w : r_WF m ad fo st S0)  (S : r_S) (Q : Option Value → q_S → Prop) : wb_X12_isSign_27 (r_E m fo S S0) Q ↔ rb_X12_isSign_27 S (fun r S => Q r (r_E m fo S S0)) := by
  unfold wb_X12_isSign_27 rb_X12_isSign_27
  simp only [r_eK, r_eI, r_eIs, r_eP, r_eN, true_and, Option.some.injEq, exists_eq_left', r_all, w.1, eb_X12_isSign_28 w]
def rm_X12_isSign (S : r_S) (x1 : Int32) (Q : Option Value → r_S → Prop) : Prop := (¬ (r_I S 2411) = 0 → (rb_X12_isSign_27 S Q)) ∧ ((r_I S 2411) = 0 → ((¬ (r_I S 2406) = (3 : Int32) → (rb_X12_isSign_27 S Q)) ∧ ((r_I S 2406) = (3 : Int32) → ((¬ (r_I S 2408) = x1 → (rb_X12_isSign_27 S Q)) ∧ ((r_I S 2408) = x1 → (rb_X12_isSign_28 S (1 : Int32) Q))))))
set_option maxRecDepth 100000 in
set_option maxHeartbeats 4000000 in
theorem em_X12_isSign {m : Nat} {ad : Nat → Nat} {fo : Nat → Option Nat} {st : Nat → Nat} {S0 : q_S} (w : r_WF m ad fo st S0)  (S : r_S) (x1 : Int32) (Q : Option Value → q_S → Prop) : wm_X12_isSign (r_E m fo S S0) m x1 Q ↔ rm_X12_isSign S x1 (fun r S => Q r (r_E m fo S S0)) := by
  unfold wm_X12_isSign rm_X12_isSign
  simp only [r_eK, r_eI, r_eIs, r_eP, r_eN, true_and, Option.some.injEq, exists_eq_left', r_all, w.1, eb_X12_isSign_27 w, eb_X12_isSign_28 w]
def rm_X12_sign (S : r_S) (x1 : Int32) (Q : Option Value → r_S → Prop) : Prop := ((r_I S 2411) ≤ 0 → (rm_X12_isSign S x1 (fun r3_ S4_ => ∃ x5_ : Int32, r3_ = some (.int x5_) ∧ ((¬ x5_ = 0 → (rm_X12_next S4_ (fun r8_ S9_ => r8_ = none ∧ (Q (some (.int (1 : Int32))) S9_)))) ∧ (x5_ = 0 → (rm_X12_failHere S4_ (1 : Int32) (fun r11_ S12_ => ∃ x13_ : Int32, r11_ = some (.int x13_) ∧ (narrow .boolean (.int x13_) = .int x13_ ∧ Q (some (.int x13_)) S12_)))))))) ∧ (¬ (r_I S 2411) ≤ 0 → (Q (some (.int (0 : Int32))) S))
set_option maxRecDepth 100000 in
set_option maxHeartbeats 4000000 in
theorem em_X12_sign {m : Nat} {ad : Nat → Nat} {fo : Nat → Option Nat} {st : Nat → Nat} {S0 : q_S} (w : r_WF m ad fo st S0)  (S : r_S) (x1 : Int32) (Q : Option Value → q_S → Prop) : wm_X12_sign (r_E m fo S S0) m x1 Q ↔ rm_X12_sign S x1 (fun r S => Q r (r_E m fo S S0)) := by
  unfold wm_X12_sign rm_X12_sign
  simp only [r_eK, r_eI, r_eIs, r_eP, r_eN, true_and, Option.some.injEq, exists_eq_left', r_all, w.1, em_X12_failHere w, em_X12_isSign w, em_X12_next w]
def rm_X12_key (S : r_S) (x1 : Int32) (Q : Option Value → r_S → Prop) : Prop := ((r_I S 2411) ≤ 0 → (rm_X12_isKey S x1 (fun r3_ S4_ => ∃ x5_ : Int32, r3_ = some (.int x5_) ∧ ((¬ x5_ = 0 → (rm_X12_next S4_ (fun r8_ S9_ => r8_ = none ∧ (Q (some (.int (1 : Int32))) S9_)))) ∧ (x5_ = 0 → (rm_X12_failHere S4_ (1 : Int32) (fun r11_ S12_ => ∃ x13_ : Int32, r11_ = some (.int x13_) ∧ (narrow .boolean (.int x13_) = .int x13_ ∧ Q (some (.int x13_)) S12_)))))))) ∧ (¬ (r_I S 2411) ≤ 0 → (Q (some (.int (0 : Int32))) S))
set_option maxRecDepth 100000 in
set_option maxHeartbeats 4000000 in
theorem em_X12_key {m : Nat} {ad : Nat → Nat} {fo : Nat → Option Nat} {st : Nat → Nat} {S0 : q_S} (w : r_WF m ad fo st S0)  (S : r_S) (x1 : Int32) (Q : Option Value → q_S → Prop) : wm_X12_key (r_E m fo S S0) m x1 Q ↔ rm_X12_key S x1 (fun r S => Q r (r_E m fo S S0)) := by
  unfold wm_X12_key rm_X12_key
  simp only [r_eK, r_eI, r_eIs, r_eP, r_eN, true_and, Option.some.injEq, exists_eq_left', r_all, w.1, em_X12_failHere w, em_X12_isKey w, em_X12_next w]
def rb_X12_number_67 (S : r_S) (x4 : Int32) (Q : Option Value → r_S → Prop) : Prop := Q (some (.int x4)) S
set_option maxRecDepth 100000 in
set_option maxHeartbeats 4000000 in
theorem eb_X12_number_67 {m : Nat} {ad : Nat → Nat} {fo : Nat → Option Nat} {st : Nat → Nat} {S0 : q_S} (w : r_WF m ad fo st S0)  (S : r_S) (x4 : Int32) (Q : Option Value → q_S → Prop) : wb_X12_number_67 (r_E m fo S S0) x4 Q ↔ rb_X12_number_67 S x4 (fun r S => Q r (r_E m fo S S0)) := by
  unfold wb_X12_number_67 rb_X12_number_67
  simp only [r_eK, r_eI, r_eIs, r_eP, r_eN, true_and, Option.some.injEq, exists_eq_left', r_all, w.1]
def rb_X12_number_50 (S : r_S) (x4 : Int32) (Q : Option Value → r_S → Prop) : Prop := rm_X12_fail S (5 : Int32) (r_I S 2407) (fun r2_ S3_ => ∃ x4_ : Int32, r2_ = some (.int x4_) ∧ (rb_X12_number_67 S3_ x4 Q))
set_option maxRecDepth 100000 in
set_option maxHeartbeats 4000000 in
theorem eb_X12_number_50 {m : Nat} {ad : Nat → Nat} {fo : Nat → Option Nat} {st : Nat → Nat} {S0 : q_S} (w : r_WF m ad fo st S0)  (S : r_S) (x4 : Int32) (Q : Option Value → q_S → Prop) : wb_X12_number_50 (r_E m fo S S0) m x4 Q ↔ rb_X12_number_50 S x4 (fun r S => Q r (r_E m fo S S0)) := by
  unfold wb_X12_number_50 rb_X12_number_50
  simp only [r_eK, r_eI, r_eIs, r_eP, r_eN, true_and, Option.some.injEq, exists_eq_left', r_all, w.1, eb_X12_number_67 w, em_X12_fail w]
def rm_X12_number (S : r_S) (x1 : Int32) (x2 : Int32) (x3 : Int32) (Q : Option Value → r_S → Prop) : Prop := ((r_I S 2411) ≤ 0 → (((r_I S 2406) = (2 : Int32) → (((r_I S 2408) < x1 → (rb_X12_number_50 S (r_I S 2408) Q)) ∧ (¬ (r_I S 2408) < x1 → ((x2 < (r_I S 2408) → (rb_X12_number_50 S (r_I S 2408) Q)) ∧ (¬ x2 < (r_I S 2408) → ((¬ x3 = 0) ∧ ((((r_I S 2408) - (r_I S 2408) / x3 * x3) = 0 → (rm_X12_next S (fun r12_ S13_ => r12_ = none ∧ (rb_X12_number_67 S13_ (r_I S 2408) Q)))) ∧ (¬ ((r_I S 2408) - (r_I S 2408) / x3 * x3) = 0 → (rb_X12_number_50 S (r_I S 2408) Q))))))))) ∧ (¬ (r_I S 2406) = (2 : Int32) → (rm_X12_failHere S (1 : Int32) (fun r14_ S15_ => ∃ x16_ : Int32, r14_ = some (.int x16_) ∧ (Q (some (.int (0 : Int32))) S15_)))))) ∧ (¬ (r_I S 2411) ≤ 0 → (Q (some (.int (0 : Int32))) S))
set_option maxRecDepth 100000 in
set_option maxHeartbeats 4000000 in
theorem em_X12_number {m : Nat} {ad : Nat → Nat} {fo : Nat → Option Nat} {st : Nat → Nat} {S0 : q_S} (w : r_WF m ad fo st S0)  (S : r_S) (x1 : Int32) (x2 : Int32) (x3 : Int32) (Q : Option Value → q_S → Prop) : wm_X12_number (r_E m fo S S0) m x1 x2 x3 Q ↔ rm_X12_number S x1 x2 x3 (fun r S => Q r (r_E m fo S S0)) := by
  unfold wm_X12_number rm_X12_number
  simp only [r_eK, r_eI, r_eIs, r_eP, r_eN, true_and, Option.some.injEq, exists_eq_left', r_all, w.1, eb_X12_number_50 w, eb_X12_number_67 w, em_X12_failHere w, em_X12_next w]
def rb_X12_isLike_56 (B17 : r_S → Int32 → Int32 → Int32 → Int32 → Prop) (S : r_S) (x1 : Int32) (x2 : Int32) (x4 : Int32) (xs0 : Int32) (Q : Option Value → r_S → Prop) : Prop := B17 S x1 x2 xs0 (x4 + 1)
set_option maxRecDepth 100000 in
set_option maxHeartbeats 4000000 in
theorem eb_X12_isLike_56 {m : Nat} {ad : Nat → Nat} {fo : Nat → Option Nat} {st : Nat → Nat} {S0 : q_S} (w : r_WF m ad fo st S0) {OB17 : q_S → Nat → Int32 → Int32 → Int32 → Int32 → Prop} {B17 : r_S → Int32 → Int32 → Int32 → Int32 → Prop} (hB17 : ∀ (S : r_S) (y2 : Int32) (y3 : Int32) (y4 : Int32) (y5 : Int32), (OB17 (r_E m fo S S0) m y2 y3 y4 y5 ↔ B17 S y2 y3 y4 y5)) (S : r_S) (x1 : Int32) (x2 : Int32) (x4 : Int32) (xs0 : Int32) (Q : Option Value → q_S → Prop) : wb_X12_isLike_56 OB17 (r_E m fo S S0) m x1 x2 x4 xs0 Q ↔ rb_X12_isLike_56 B17 S x1 x2 x4 xs0 (fun r S => Q r (r_E m fo S S0)) := by
  unfold wb_X12_isLike_56 rb_X12_isLike_56
  simp only [r_eK, r_eI, r_eIs, r_eP, r_eN, true_and, Option.some.injEq, exists_eq_left', r_all, w.1, hB17]
def rb_X12_isLike_63 (S : r_S) (x3 : Int32) (Q : Option Value → r_S → Prop) : Prop := narrow .boolean (.int x3) = .int x3 ∧ Q (some (.int x3)) S
set_option maxRecDepth 100000 in
set_option maxHeartbeats 4000000 in
theorem eb_X12_isLike_63 {m : Nat} {ad : Nat → Nat} {fo : Nat → Option Nat} {st : Nat → Nat} {S0 : q_S} (w : r_WF m ad fo st S0)  (S : r_S) (x3 : Int32) (Q : Option Value → q_S → Prop) : wb_X12_isLike_63 (r_E m fo S S0) x3 Q ↔ rb_X12_isLike_63 S x3 (fun r S => Q r (r_E m fo S S0)) := by
  unfold wb_X12_isLike_63 rb_X12_isLike_63
  simp only [r_eK, r_eI, r_eIs, r_eP, r_eN, true_and, Option.some.injEq, exists_eq_left', r_all, w.1]
def rb_X12_isLike_17 (B17 : r_S → Int32 → Int32 → Int32 → Int32 → Prop) (S : r_S) (x1 : Int32) (x2 : Int32) (x3 : Int32) (x4 : Int32) (Q : Option Value → r_S → Prop) : Prop := (x2 ≤ x4 → (rb_X12_isLike_63 S x3 Q)) ∧ (¬ x2 ≤ x4 → ((x3 = 0 → (rb_X12_isLike_63 S x3 Q)) ∧ (¬ x3 = 0 → (vp_in (x1 + x4) (r_N 2421) ∧ (vp_in ((r_I S 2409) + x4) (r_N 2402) ∧ ((¬ (r_A S 2421 (x1 + x4).toNatClampNeg) = (r_A S 2402 ((r_I S 2409) + x4).toNatClampNeg) → (rb_X12_isLike_56 B17 S x1 x2 x4 (0 : Int32) Q)) ∧ ((r_A S 2421 (x1 + x4).toNatClampNeg) = (r_A S 2402 ((r_I S 2409) + x4).toNatClampNeg) → (rb_X12_isLike_56 B17 S x1 x2 x4 (1 : Int32) Q))))))))
set_option maxRecDepth 100000 in
set_option maxHeartbeats 4000000 in
theorem eb_X12_isLike_17 {m : Nat} {ad : Nat → Nat} {fo : Nat → Option Nat} {st : Nat → Nat} {S0 : q_S} (w : r_WF m ad fo st S0) {OB17 : q_S → Nat → Int32 → Int32 → Int32 → Int32 → Prop} {B17 : r_S → Int32 → Int32 → Int32 → Int32 → Prop} (hB17 : ∀ (S : r_S) (y2 : Int32) (y3 : Int32) (y4 : Int32) (y5 : Int32), (OB17 (r_E m fo S S0) m y2 y3 y4 y5 ↔ B17 S y2 y3 y4 y5)) (S : r_S) (x1 : Int32) (x2 : Int32) (x3 : Int32) (x4 : Int32) (Q : Option Value → q_S → Prop) : wb_X12_isLike_17 OB17 (r_E m fo S S0) m x1 x2 x3 x4 Q ↔ rb_X12_isLike_17 B17 S x1 x2 x3 x4 (fun r S => Q r (r_E m fo S S0)) := by
  unfold wb_X12_isLike_17 rb_X12_isLike_17
  simp only [r_eK, r_eI, r_eIs, r_eP, r_eN, true_and, Option.some.injEq, exists_eq_left', r_all, w.1, r_w1 w 2402 rfl, r_w2 w 2402 20 rfl rfl, r_w3 w 2402 rfl, r_eA w 2402 rfl, r_eAs w 2402 rfl, r_w1 w 2421 rfl, r_w2 w 2421 20 rfl rfl, r_w3 w 2421 rfl, r_eA w 2421 rfl, r_eAs w 2421 rfl, eb_X12_isLike_56 w hB17, eb_X12_isLike_63 w, hB17]
def rl_X12_isLike_17  : Nat → r_S → Int32 → Int32 → Int32 → Int32 → (Option Value → r_S → Prop) → Prop
  | 0, _, _, _, _, _, _ => False
  | n + 1, S, x1, x2, x3, x4, Q => rb_X12_isLike_17 (fun S x1 x2 x3 x4 => rl_X12_isLike_17 n S x1 x2 x3 x4 Q) S x1 x2 x3 x4 Q
set_option maxRecDepth 100000 in
theorem el_X12_isLike_17 {m : Nat} {ad : Nat → Nat} {fo : Nat → Option Nat} {st : Nat → Nat} {S0 : q_S} (w : r_WF m ad fo st S0)  (n : Nat) (S : r_S) (x1 : Int32) (x2 : Int32) (x3 : Int32) (x4 : Int32) (Q : Option Value → q_S → Prop) : wl_X12_isLike_17 n (r_E m fo S S0) m x1 x2 x3 x4 Q ↔ rl_X12_isLike_17 n S x1 x2 x3 x4 (fun r S => Q r (r_E m fo S S0)) := by
  induction n generalizing S x1 x2 x3 x4 with
  | zero => exact Iff.rfl
  | succ n ih => exact eb_X12_isLike_17 w (fun _ _ _ _ _ => ih _ _ _ _ _) S x1 x2 x3 x4 Q
def rb_X12_isLike_13 (S : r_S) (x1 : Int32) (x2 : Int32) (xs0 : Int32) (Q : Option Value → r_S → Prop) : Prop := ∃ n13_ : Nat, rl_X12_isLike_17 n13_ S x1 x2 xs0 (0 : Int32) Q
set_option maxRecDepth 100000 in
set_option maxHeartbeats 4000000 in
theorem eb_X12_isLike_13 {m : Nat} {ad : Nat → Nat} {fo : Nat → Option Nat} {st : Nat → Nat} {S0 : q_S} (w : r_WF m ad fo st S0)  (S : r_S) (x1 : Int32) (x2 : Int32) (xs0 : Int32) (Q : Option Value → q_S → Prop) : wb_X12_isLike_13 (r_E m fo S S0) m x1 x2 xs0 Q ↔ rb_X12_isLike_13 S x1 x2 xs0 (fun r S => Q r (r_E m fo S S0)) := by
  unfold wb_X12_isLike_13 rb_X12_isLike_13
  simp only [r_eK, r_eI, r_eIs, r_eP, r_eN, true_and, Option.some.injEq, exists_eq_left', r_all, w.1, el_X12_isLike_17 w]
def rm_X12_isLike (S : r_S) (x1 : Int32) (x2 : Int32) (Q : Option Value → r_S → Prop) : Prop := (¬ x2 = (r_I S 2410) → (rb_X12_isLike_13 S x1 x2 (0 : Int32) Q)) ∧ (x2 = (r_I S 2410) → (rb_X12_isLike_13 S x1 x2 (1 : Int32) Q))
set_option maxRecDepth 100000 in
set_option maxHeartbeats 4000000 in
theorem em_X12_isLike {m : Nat} {ad : Nat → Nat} {fo : Nat → Option Nat} {st : Nat → Nat} {S0 : q_S} (w : r_WF m ad fo st S0)  (S : r_S) (x1 : Int32) (x2 : Int32) (Q : Option Value → q_S → Prop) : wm_X12_isLike (r_E m fo S S0) m x1 x2 Q ↔ rm_X12_isLike S x1 x2 (fun r S => Q r (r_E m fo S S0)) := by
  unfold wm_X12_isLike rm_X12_isLike
  simp only [r_eK, r_eI, r_eIs, r_eP, r_eN, true_and, Option.some.injEq, exists_eq_left', r_all, w.1, eb_X12_isLike_13 w]
def rb_X12_keep_2 (B2 : r_S → Int32 → Prop) (S : r_S) (x1 : Int32) (Q : Option Value → r_S → Prop) : Prop := ((r_I S 2410) ≤ x1 → (Q (some (.int ((r_I (rs_I S 2422 ((r_I S 2422) + (r_I S 2410))) 2422) - (r_I (rs_I S 2422 ((r_I S 2422) + (r_I S 2410))) 2410)))) (rs_I S 2422 ((r_I S 2422) + (r_I S 2410))))) ∧ (¬ (r_I S 2410) ≤ x1 → (vp_in ((r_I S 2409) + x1) (r_N 2402) ∧ (vp_in ((r_I S 2422) + x1) (r_N 2421) ∧ (B2 (rs_A S 2421 ((r_I S 2422) + x1).toNatClampNeg (vp_nar .byte (r_A S 2402 ((r_I S 2409) + x1).toNatClampNeg))) (x1 + 1)))))
set_option maxRecDepth 100000 in
set_option maxHeartbeats 4000000 in
theorem eb_X12_keep_2 {m : Nat} {ad : Nat → Nat} {fo : Nat → Option Nat} {st : Nat → Nat} {S0 : q_S} (w : r_WF m ad fo st S0) {OB2 : q_S → Nat → Int32 → Prop} {B2 : r_S → Int32 → Prop} (hB2 : ∀ (S : r_S) (y2 : Int32), (OB2 (r_E m fo S S0) m y2 ↔ B2 S y2)) (S : r_S) (x1 : Int32) (Q : Option Value → q_S → Prop) : wb_X12_keep_2 OB2 (r_E m fo S S0) m x1 Q ↔ rb_X12_keep_2 B2 S x1 (fun r S => Q r (r_E m fo S S0)) := by
  unfold wb_X12_keep_2 rb_X12_keep_2
  simp only [r_eK, r_eI, r_eIs, r_eP, r_eN, true_and, Option.some.injEq, exists_eq_left', r_all, w.1, r_w1 w 2402 rfl, r_w2 w 2402 20 rfl rfl, r_w3 w 2402 rfl, r_eA w 2402 rfl, r_eAs w 2402 rfl, r_w1 w 2421 rfl, r_w2 w 2421 20 rfl rfl, r_w3 w 2421 rfl, r_eA w 2421 rfl, r_eAs w 2421 rfl, hB2]
def rl_X12_keep_2  : Nat → r_S → Int32 → (Option Value → r_S → Prop) → Prop
  | 0, _, _, _ => False
  | n + 1, S, x1, Q => rb_X12_keep_2 (fun S x1 => rl_X12_keep_2 n S x1 Q) S x1 Q
set_option maxRecDepth 100000 in
theorem el_X12_keep_2 {m : Nat} {ad : Nat → Nat} {fo : Nat → Option Nat} {st : Nat → Nat} {S0 : q_S} (w : r_WF m ad fo st S0)  (n : Nat) (S : r_S) (x1 : Int32) (Q : Option Value → q_S → Prop) : wl_X12_keep_2 n (r_E m fo S S0) m x1 Q ↔ rl_X12_keep_2 n S x1 (fun r S => Q r (r_E m fo S S0)) := by
  induction n generalizing S x1 with
  | zero => exact Iff.rfl
  | succ n ih => exact eb_X12_keep_2 w (fun _ _ => ih _ _) S x1 Q
def rm_X12_keep (S : r_S) (Q : Option Value → r_S → Prop) : Prop := ∃ n11_ : Nat, rl_X12_keep_2 n11_ S (0 : Int32) Q
set_option maxRecDepth 100000 in
set_option maxHeartbeats 4000000 in
theorem em_X12_keep {m : Nat} {ad : Nat → Nat} {fo : Nat → Option Nat} {st : Nat → Nat} {S0 : q_S} (w : r_WF m ad fo st S0)  (S : r_S) (Q : Option Value → q_S → Prop) : wm_X12_keep (r_E m fo S S0) m Q ↔ rm_X12_keep S (fun r S => Q r (r_E m fo S S0)) := by
  unfold wm_X12_keep rm_X12_keep
  simp only [r_eK, r_eI, r_eIs, r_eP, r_eN, true_and, Option.some.injEq, exists_eq_left', r_all, w.1, el_X12_keep_2 w]
def rb_X12_partitionNamed_2 (B2 : r_S → Int32 → Prop) (S : r_S) (x1 : Int32) (Q : Option Value → r_S → Prop) : Prop := ((r_I S 2415) ≤ x1 → (Q (some (.int (-1 : Int32))) S)) ∧ (¬ (r_I S 2415) ≤ x1 → (vp_in x1 (r_N 2423) ∧ (vp_in x1 (r_N 2424) ∧ (rm_X12_isLike S (r_A S 2423 x1.toNatClampNeg) (r_A S 2424 x1.toNatClampNeg) (fun r11_ S12_ => ∃ x13_ : Int32, r11_ = some (.int x13_) ∧ ((x13_ = 0 → (B2 S12_ (x1 + 1))) ∧ (¬ x13_ = 0 → (Q (some (.int x1)) S12_))))))))
set_option maxRecDepth 100000 in
set_option maxHeartbeats 4000000 in
theorem eb_X12_partitionNamed_2 {m : Nat} {ad : Nat → Nat} {fo : Nat → Option Nat} {st : Nat → Nat} {S0 : q_S} (w : r_WF m ad fo st S0) {OB2 : q_S → Nat → Int32 → Prop} {B2 : r_S → Int32 → Prop} (hB2 : ∀ (S : r_S) (y2 : Int32), (OB2 (r_E m fo S S0) m y2 ↔ B2 S y2)) (S : r_S) (x1 : Int32) (Q : Option Value → q_S → Prop) : wb_X12_partitionNamed_2 OB2 (r_E m fo S S0) m x1 Q ↔ rb_X12_partitionNamed_2 B2 S x1 (fun r S => Q r (r_E m fo S S0)) := by
  unfold wb_X12_partitionNamed_2 rb_X12_partitionNamed_2
  simp only [r_eK, r_eI, r_eIs, r_eP, r_eN, true_and, Option.some.injEq, exists_eq_left', r_all, w.1, r_w1 w 2423 rfl, r_w2 w 2423 21 rfl rfl, r_w3 w 2423 rfl, r_eA w 2423 rfl, r_eAs w 2423 rfl, r_w1 w 2424 rfl, r_w2 w 2424 21 rfl rfl, r_w3 w 2424 rfl, r_eA w 2424 rfl, r_eAs w 2424 rfl, em_X12_isLike w, hB2]
def rl_X12_partitionNamed_2  : Nat → r_S → Int32 → (Option Value → r_S → Prop) → Prop
  | 0, _, _, _ => False
  | n + 1, S, x1, Q => rb_X12_partitionNamed_2 (fun S x1 => rl_X12_partitionNamed_2 n S x1 Q) S x1 Q
set_option maxRecDepth 100000 in
theorem el_X12_partitionNamed_2 {m : Nat} {ad : Nat → Nat} {fo : Nat → Option Nat} {st : Nat → Nat} {S0 : q_S} (w : r_WF m ad fo st S0)  (n : Nat) (S : r_S) (x1 : Int32) (Q : Option Value → q_S → Prop) : wl_X12_partitionNamed_2 n (r_E m fo S S0) m x1 Q ↔ rl_X12_partitionNamed_2 n S x1 (fun r S => Q r (r_E m fo S S0)) := by
  induction n generalizing S x1 with
  | zero => exact Iff.rfl
  | succ n ih => exact eb_X12_partitionNamed_2 w (fun _ _ => ih _ _) S x1 Q
def rm_X12_partitionNamed (S : r_S) (Q : Option Value → r_S → Prop) : Prop := ∃ n15_ : Nat, rl_X12_partitionNamed_2 n15_ S (0 : Int32) Q
set_option maxRecDepth 100000 in
set_option maxHeartbeats 4000000 in
theorem em_X12_partitionNamed {m : Nat} {ad : Nat → Nat} {fo : Nat → Option Nat} {st : Nat → Nat} {S0 : q_S} (w : r_WF m ad fo st S0)  (S : r_S) (Q : Option Value → q_S → Prop) : wm_X12_partitionNamed (r_E m fo S S0) m Q ↔ rm_X12_partitionNamed S (fun r S => Q r (r_E m fo S S0)) := by
  unfold wm_X12_partitionNamed rm_X12_partitionNamed
  simp only [r_eK, r_eI, r_eIs, r_eP, r_eN, true_and, Option.some.injEq, exists_eq_left', r_all, w.1, el_X12_partitionNamed_2 w]
def rb_X12_thingNamed_5 (B5 : r_S → Int32 → Int32 → Prop) (S : r_S) (x1 : Int32) (x2 : Int32) (Q : Option Value → r_S → Prop) : Prop := vp_in x1 (r_N 2430) ∧ (((((64 : Int32) * x1) + (r_A S 2430 x1.toNatClampNeg)) ≤ x2 → (Q (some (.int (-1 : Int32))) S)) ∧ (¬ (((64 : Int32) * x1) + (r_A S 2430 x1.toNatClampNeg)) ≤ x2 → (vp_in x2 (r_N 2431) ∧ (vp_in x2 (r_N 2432) ∧ (rm_X12_isLike S (r_A S 2431 x2.toNatClampNeg) (r_A S 2432 x2.toNatClampNeg) (fun r15_ S16_ => ∃ x17_ : Int32, r15_ = some (.int x17_) ∧ ((x17_ = 0 → (B5 S16_ x1 (x2 + 1))) ∧ (¬ x17_ = 0 → (Q (some (.int x2)) S16_)))))))))
set_option maxRecDepth 100000 in
set_option maxHeartbeats 4000000 in
theorem eb_X12_thingNamed_5 {m : Nat} {ad : Nat → Nat} {fo : Nat → Option Nat} {st : Nat → Nat} {S0 : q_S} (w : r_WF m ad fo st S0) {OB5 : q_S → Nat → Int32 → Int32 → Prop} {B5 : r_S → Int32 → Int32 → Prop} (hB5 : ∀ (S : r_S) (y2 : Int32) (y3 : Int32), (OB5 (r_E m fo S S0) m y2 y3 ↔ B5 S y2 y3)) (S : r_S) (x1 : Int32) (x2 : Int32) (Q : Option Value → q_S → Prop) : wb_X12_thingNamed_5 OB5 (r_E m fo S S0) m x1 x2 Q ↔ rb_X12_thingNamed_5 B5 S x1 x2 (fun r S => Q r (r_E m fo S S0)) := by
  unfold wb_X12_thingNamed_5 rb_X12_thingNamed_5
  simp only [r_eK, r_eI, r_eIs, r_eP, r_eN, true_and, Option.some.injEq, exists_eq_left', r_all, w.1, r_w1 w 2430 rfl, r_w2 w 2430 21 rfl rfl, r_w3 w 2430 rfl, r_eA w 2430 rfl, r_eAs w 2430 rfl, r_w1 w 2431 rfl, r_w2 w 2431 21 rfl rfl, r_w3 w 2431 rfl, r_eA w 2431 rfl, r_eAs w 2431 rfl, r_w1 w 2432 rfl, r_w2 w 2432 21 rfl rfl, r_w3 w 2432 rfl, r_eA w 2432 rfl, r_eAs w 2432 rfl, em_X12_isLike w, hB5]
def rl_X12_thingNamed_5  : Nat → r_S → Int32 → Int32 → (Option Value → r_S → Prop) → Prop
  | 0, _, _, _, _ => False
  | n + 1, S, x1, x2, Q => rb_X12_thingNamed_5 (fun S x1 x2 => rl_X12_thingNamed_5 n S x1 x2 Q) S x1 x2 Q
set_option maxRecDepth 100000 in
theorem el_X12_thingNamed_5 {m : Nat} {ad : Nat → Nat} {fo : Nat → Option Nat} {st : Nat → Nat} {S0 : q_S} (w : r_WF m ad fo st S0)  (n : Nat) (S : r_S) (x1 : Int32) (x2 : Int32) (Q : Option Value → q_S → Prop) : wl_X12_thingNamed_5 n (r_E m fo S S0) m x1 x2 Q ↔ rl_X12_thingNamed_5 n S x1 x2 (fun r S => Q r (r_E m fo S S0)) := by
  induction n generalizing S x1 x2 with
  | zero => exact Iff.rfl
  | succ n ih => exact eb_X12_thingNamed_5 w (fun _ _ _ => ih _ _ _) S x1 x2 Q
def rm_X12_thingNamed (S : r_S) (x1 : Int32) (Q : Option Value → r_S → Prop) : Prop := ∃ n19_ : Nat, rl_X12_thingNamed_5 n19_ S x1 ((64 : Int32) * x1) Q
set_option maxRecDepth 100000 in
set_option maxHeartbeats 4000000 in
theorem em_X12_thingNamed {m : Nat} {ad : Nat → Nat} {fo : Nat → Option Nat} {st : Nat → Nat} {S0 : q_S} (w : r_WF m ad fo st S0)  (S : r_S) (x1 : Int32) (Q : Option Value → q_S → Prop) : wm_X12_thingNamed (r_E m fo S S0) m x1 Q ↔ rm_X12_thingNamed S x1 (fun r S => Q r (r_E m fo S S0)) := by
  unfold wm_X12_thingNamed rm_X12_thingNamed
  simp only [r_eK, r_eI, r_eIs, r_eP, r_eN, true_and, Option.some.injEq, exists_eq_left', r_all, w.1, el_X12_thingNamed_5 w]
def rm_X12_newThing (S : r_S) (x1 : Int32) (x2 : Int32) (x3 : Int32) (Q : Option Value → r_S → Prop) : Prop := ((r_I S 2411) ≤ 0 → (rm_X12_next S (fun r3_ S4_ => r3_ = none ∧ (vp_in (((6 : Int32) * x1) + x2) (r_N 2435) ∧ ((¬ (r_A S4_ 2435 (((6 : Int32) * x1) + x2).toNatClampNeg) = x3 → (((r_I S4_ 2406) = (1 : Int32) → (rm_X12_thingNamed S4_ x1 (fun r12_ S13_ => ∃ x14_ : Int32, r12_ = some (.int x14_) ∧ ((x14_ = (-1 : Int32) → (vp_in x1 (r_N 2430) ∧ (rm_X12_keep S13_ (fun r21_ S22_ => ∃ x23_ : Int32, r21_ = some (.int x23_) ∧ (vp_in (((64 : Int32) * x1) + (r_A S13_ 2430 x1.toNatClampNeg)) (r_N 2431) ∧ (vp_in (((64 : Int32) * x1) + (r_A S13_ 2430 x1.toNatClampNeg)) (r_N 2432) ∧ (∀ S33_ : r_S, S33_ = (rs_A (rs_A S22_ 2431 (((64 : Int32) * x1) + (r_A S13_ 2430 x1.toNatClampNeg)).toNatClampNeg x23_) 2432 (((64 : Int32) * x1) + (r_A S13_ 2430 x1.toNatClampNeg)).toNatClampNeg (r_I (rs_A S22_ 2431 (((64 : Int32) * x1) + (r_A S13_ 2430 x1.toNatClampNeg)).toNatClampNeg x23_) 2410)) → (vp_in (((64 : Int32) * x1) + (r_A S13_ 2430 x1.toNatClampNeg)) (r_N 2433) ∧ (vp_in (((64 : Int32) * x1) + (r_A S13_ 2430 x1.toNatClampNeg)) (r_N 2434) ∧ (vp_in x1 (r_N 2430) ∧ (vp_in x1 (r_N 2430) ∧ (∀ S47_ : r_S, S47_ = (rs_A (rs_A (rs_A S33_ 2433 (((64 : Int32) * x1) + (r_A S13_ 2430 x1.toNatClampNeg)).toNatClampNeg x2) 2434 (((64 : Int32) * x1) + (r_A S13_ 2430 x1.toNatClampNeg)).toNatClampNeg (r_A S4_ 2435 (((6 : Int32) * x1) + x2).toNatClampNeg)) 2430 x1.toNatClampNeg ((r_A (rs_A (rs_A S33_ 2433 (((64 : Int32) * x1) + (r_A S13_ 2430 x1.toNatClampNeg)).toNatClampNeg x2) 2434 (((64 : Int32) * x1) + (r_A S13_ 2430 x1.toNatClampNeg)).toNatClampNeg (r_A S4_ 2435 (((6 : Int32) * x1) + x2).toNatClampNeg)) 2430 x1.toNatClampNeg) + (1 : Int32))) → (vp_in (((6 : Int32) * x1) + x2) (r_N 2435) ∧ (vp_in (((6 : Int32) * x1) + x2) (r_N 2435) ∧ (rm_X12_next (rs_A S47_ 2435 (((6 : Int32) * x1) + x2).toNatClampNeg ((r_A S47_ 2435 (((6 : Int32) * x1) + x2).toNatClampNeg) + (1 : Int32))) (fun r53_ S54_ => r53_ = none ∧ (Q (some (.int (r_A S4_ 2435 (((6 : Int32) * x1) + x2).toNatClampNeg))) S54_))))))))))))))))) ∧ (¬ x14_ = (-1 : Int32) → (rm_X12_fail S13_ (3 : Int32) (r_I S13_ 2407) (fun r56_ S57_ => ∃ x58_ : Int32, r56_ = some (.int x58_) ∧ (Q (some (.int (0 : Int32))) S57_)))))))) ∧ (¬ (r_I S4_ 2406) = (1 : Int32) → (rm_X12_failHere S4_ (1 : Int32) (fun r59_ S60_ => ∃ x61_ : Int32, r59_ = some (.int x61_) ∧ (Q (some (.int (0 : Int32))) S60_)))))) ∧ ((r_A S4_ 2435 (((6 : Int32) * x1) + x2).toNatClampNeg) = x3 → (rm_X12_failHere S4_ (4 : Int32) (fun r62_ S63_ => ∃ x64_ : Int32, r62_ = some (.int x64_) ∧ (Q (some (.int (0 : Int32))) S63_))))))))) ∧ (¬ (r_I S 2411) ≤ 0 → (Q (some (.int (0 : Int32))) S))
set_option maxRecDepth 100000 in
set_option maxHeartbeats 4000000 in
theorem em_X12_newThing {m : Nat} {ad : Nat → Nat} {fo : Nat → Option Nat} {st : Nat → Nat} {S0 : q_S} (w : r_WF m ad fo st S0)  (S : r_S) (x1 : Int32) (x2 : Int32) (x3 : Int32) (Q : Option Value → q_S → Prop) : wm_X12_newThing (r_E m fo S S0) m x1 x2 x3 Q ↔ rm_X12_newThing S x1 x2 x3 (fun r S => Q r (r_E m fo S S0)) := by
  unfold wm_X12_newThing rm_X12_newThing
  simp only [r_eK, r_eI, r_eIs, r_eP, r_eN, true_and, Option.some.injEq, exists_eq_left', r_all, w.1, r_w1 w 2430 rfl, r_w2 w 2430 21 rfl rfl, r_w3 w 2430 rfl, r_eA w 2430 rfl, r_eAs w 2430 rfl, r_w1 w 2431 rfl, r_w2 w 2431 21 rfl rfl, r_w3 w 2431 rfl, r_eA w 2431 rfl, r_eAs w 2431 rfl, r_w1 w 2432 rfl, r_w2 w 2432 21 rfl rfl, r_w3 w 2432 rfl, r_eA w 2432 rfl, r_eAs w 2432 rfl, r_w1 w 2433 rfl, r_w2 w 2433 21 rfl rfl, r_w3 w 2433 rfl, r_eA w 2433 rfl, r_eAs w 2433 rfl, r_w1 w 2434 rfl, r_w2 w 2434 21 rfl rfl, r_w3 w 2434 rfl, r_eA w 2434 rfl, r_eAs w 2434 rfl, r_w1 w 2435 rfl, r_w2 w 2435 21 rfl rfl, r_w3 w 2435 rfl, r_eA w 2435 rfl, r_eAs w 2435 rfl, em_X12_fail w, em_X12_failHere w, em_X12_keep w, em_X12_next w, em_X12_thingNamed w]
def rb_X12_readRegions_188 (B76 : r_S → Int32 → Int32 → Int32 → Prop) (S : r_S) (x1 : Int32) (x2 : Int32) (x3 : Int32) (x4 : Int32) (x5 : Int32) (Q : Option Value → r_S → Prop) : Prop := ((r_I S 2411) ≤ 0 → (vp_in x4 (r_N 2427) ∧ (vp_in x4 (r_N 2428) ∧ (vp_in x4 (r_N 2429) ∧ (∀ S15_ : r_S, S15_ = (rs_A (rs_A (rs_A S 2427 x4.toNatClampNeg x3) 2428 x4.toNatClampNeg x5) 2429 x4.toNatClampNeg ((r_I (rs_A (rs_A S 2427 x4.toNatClampNeg x3) 2428 x4.toNatClampNeg x5) 2408) - (3 : Int32))) → (vp_in x1 (r_N 2426) ∧ (vp_in x1 (r_N 2426) ∧ (rm_X12_next (rs_A S15_ 2426 x1.toNatClampNeg ((r_A S15_ 2426 x1.toNatClampNeg) + (1 : Int32))) (fun r21_ S22_ => r21_ = none ∧ (rm_X12_sign S22_ (59 : Int32) (fun r24_ S25_ => ∃ x26_ : Int32, r24_ = some (.int x26_) ∧ (B76 S25_ x1 x2 (x3 + x5))))))))))))) ∧ (¬ (r_I S 2411) ≤ 0 → (Q none S))
set_option maxRecDepth 100000 in
set_option maxHeartbeats 4000000 in
theorem eb_X12_readRegions_188 {m : Nat} {ad : Nat → Nat} {fo : Nat → Option Nat} {st : Nat → Nat} {S0 : q_S} (w : r_WF m ad fo st S0) {OB76 : q_S → Nat → Int32 → Int32 → Int32 → Prop} {B76 : r_S → Int32 → Int32 → Int32 → Prop} (hB76 : ∀ (S : r_S) (y2 : Int32) (y3 : Int32) (y4 : Int32), (OB76 (r_E m fo S S0) m y2 y3 y4 ↔ B76 S y2 y3 y4)) (S : r_S) (x1 : Int32) (x2 : Int32) (x3 : Int32) (x4 : Int32) (x5 : Int32) (Q : Option Value → q_S → Prop) : wb_X12_readRegions_188 OB76 (r_E m fo S S0) m x1 x2 x3 x4 x5 Q ↔ rb_X12_readRegions_188 B76 S x1 x2 x3 x4 x5 (fun r S => Q r (r_E m fo S S0)) := by
  unfold wb_X12_readRegions_188 rb_X12_readRegions_188
  simp only [r_eK, r_eI, r_eIs, r_eP, r_eN, true_and, Option.some.injEq, exists_eq_left', r_all, w.1, r_w1 w 2426 rfl, r_w2 w 2426 21 rfl rfl, r_w3 w 2426 rfl, r_eA w 2426 rfl, r_eAs w 2426 rfl, r_w1 w 2427 rfl, r_w2 w 2427 21 rfl rfl, r_w3 w 2427 rfl, r_eA w 2427 rfl, r_eAs w 2427 rfl, r_w1 w 2428 rfl, r_w2 w 2428 21 rfl rfl, r_w3 w 2428 rfl, r_eA w 2428 rfl, r_eAs w 2428 rfl, r_w1 w 2429 rfl, r_w2 w 2429 21 rfl rfl, r_w3 w 2429 rfl, r_eA w 2429 rfl, r_eAs w 2429 rfl, em_X12_next w, em_X12_sign w, hB76]
def rb_X12_readRegions_182 (B76 : r_S → Int32 → Int32 → Int32 → Prop) (S : r_S) (x1 : Int32) (x2 : Int32) (x3 : Int32) (x4 : Int32) (x5 : Int32) (Q : Option Value → r_S → Prop) : Prop := rm_X12_failHere S (1 : Int32) (fun r28_ S29_ => ∃ x30_ : Int32, r28_ = some (.int x30_) ∧ (rb_X12_readRegions_188 B76 S29_ x1 x2 x3 x4 x5 Q))
set_option maxRecDepth 100000 in
set_option maxHeartbeats 4000000 in
theorem eb_X12_readRegions_182 {m : Nat} {ad : Nat → Nat} {fo : Nat → Option Nat} {st : Nat → Nat} {S0 : q_S} (w : r_WF m ad fo st S0) {OB76 : q_S → Nat → Int32 → Int32 → Int32 → Prop} {B76 : r_S → Int32 → Int32 → Int32 → Prop} (hB76 : ∀ (S : r_S) (y2 : Int32) (y3 : Int32) (y4 : Int32), (OB76 (r_E m fo S S0) m y2 y3 y4 ↔ B76 S y2 y3 y4)) (S : r_S) (x1 : Int32) (x2 : Int32) (x3 : Int32) (x4 : Int32) (x5 : Int32) (Q : Option Value → q_S → Prop) : wb_X12_readRegions_182 OB76 (r_E m fo S S0) m x1 x2 x3 x4 x5 Q ↔ rb_X12_readRegions_182 B76 S x1 x2 x3 x4 x5 (fun r S => Q r (r_E m fo S S0)) := by
  unfold wb_X12_readRegions_182 rb_X12_readRegions_182
  simp only [r_eK, r_eI, r_eIs, r_eP, r_eN, true_and, Option.some.injEq, exists_eq_left', r_all, w.1, eb_X12_readRegions_188 w hB76, em_X12_failHere w, hB76]
def rb_X12_readRegions_101 (B76 : r_S → Int32 → Int32 → Int32 → Prop) (S : r_S) (x1 : Int32) (x2 : Int32) (x3 : Int32) (Q : Option Value → r_S → Prop) : Prop := vp_in x1 (r_N 2426) ∧ ((¬ (r_A S 2426 x1.toNatClampNeg) = (6 : Int32) → (vp_in x1 (r_N 2426) ∧ (vp_in x1 (r_N 2425) ∧ (rm_X12_number S (64 : Int32) ((r_A S 2425 x1.toNatClampNeg) - x3) (64 : Int32) (fun r42_ S43_ => ∃ x44_ : Int32, r42_ = some (.int x44_) ∧ ((¬ (r_I S43_ 2411) = 0 → (rb_X12_readRegions_188 B76 S43_ x1 x2 x3 (((6 : Int32) * x1) + (r_A S 2426 x1.toNatClampNeg)) x44_ Q)) ∧ ((r_I S43_ 2411) = 0 → ((¬ (r_I S43_ 2406) = (4 : Int32) → (rb_X12_readRegions_182 B76 S43_ x1 x2 x3 (((6 : Int32) * x1) + (r_A S 2426 x1.toNatClampNeg)) x44_ Q)) ∧ ((r_I S43_ 2406) = (4 : Int32) → (((r_I S43_ 2408) < (3 : Int32) → (rb_X12_readRegions_182 B76 S43_ x1 x2 x3 (((6 : Int32) * x1) + (r_A S 2426 x1.toNatClampNeg)) x44_ Q)) ∧ (¬ (r_I S43_ 2408) < (3 : Int32) → (((r_I S43_ 2408) ≤ (6 : Int32) → (rb_X12_readRegions_188 B76 S43_ x1 x2 x3 (((6 : Int32) * x1) + (r_A S 2426 x1.toNatClampNeg)) x44_ Q)) ∧ (¬ (r_I S43_ 2408) ≤ (6 : Int32) → (rb_X12_readRegions_182 B76 S43_ x1 x2 x3 (((6 : Int32) * x1) + (r_A S 2426 x1.toNatClampNeg)) x44_ Q)))))))))))))) ∧ ((r_A S 2426 x1.toNatClampNeg) = (6 : Int32) → (rm_X12_failHere S (4 : Int32) (fun r50_ S51_ => ∃ x52_ : Int32, r50_ = some (.int x52_) ∧ (Q none S51_)))))
set_option maxRecDepth 100000 in
set_option maxHeartbeats 4000000 in
theorem eb_X12_readRegions_101 {m : Nat} {ad : Nat → Nat} {fo : Nat → Option Nat} {st : Nat → Nat} {S0 : q_S} (w : r_WF m ad fo st S0) {OB76 : q_S → Nat → Int32 → Int32 → Int32 → Prop} {B76 : r_S → Int32 → Int32 → Int32 → Prop} (hB76 : ∀ (S : r_S) (y2 : Int32) (y3 : Int32) (y4 : Int32), (OB76 (r_E m fo S S0) m y2 y3 y4 ↔ B76 S y2 y3 y4)) (S : r_S) (x1 : Int32) (x2 : Int32) (x3 : Int32) (Q : Option Value → q_S → Prop) : wb_X12_readRegions_101 OB76 (r_E m fo S S0) m x1 x2 x3 Q ↔ rb_X12_readRegions_101 B76 S x1 x2 x3 (fun r S => Q r (r_E m fo S S0)) := by
  unfold wb_X12_readRegions_101 rb_X12_readRegions_101
  simp only [r_eK, r_eI, r_eIs, r_eP, r_eN, true_and, Option.some.injEq, exists_eq_left', r_all, w.1, r_w1 w 2425 rfl, r_w2 w 2425 21 rfl rfl, r_w3 w 2425 rfl, r_eA w 2425 rfl, r_eAs w 2425 rfl, r_w1 w 2426 rfl, r_w2 w 2426 21 rfl rfl, r_w3 w 2426 rfl, r_eA w 2426 rfl, r_eAs w 2426 rfl, eb_X12_readRegions_182 w hB76, eb_X12_readRegions_188 w hB76, em_X12_failHere w, em_X12_number w, hB76]
def rb_X12_readRegions_280 (S : r_S) (Q : Option Value → r_S → Prop) : Prop := rm_X12_sign S (125 : Int32) (fun r54_ S55_ => ∃ x56_ : Int32, r54_ = some (.int x56_) ∧ (Q none S55_))
set_option maxRecDepth 100000 in
set_option maxHeartbeats 4000000 in
theorem eb_X12_readRegions_280 {m : Nat} {ad : Nat → Nat} {fo : Nat → Option Nat} {st : Nat → Nat} {S0 : q_S} (w : r_WF m ad fo st S0)  (S : r_S) (Q : Option Value → q_S → Prop) : wb_X12_readRegions_280 (r_E m fo S S0) m Q ↔ rb_X12_readRegions_280 S (fun r S => Q r (r_E m fo S S0)) := by
  unfold wb_X12_readRegions_280 rb_X12_readRegions_280
  simp only [r_eK, r_eI, r_eIs, r_eP, r_eN, true_and, Option.some.injEq, exists_eq_left', r_all, w.1, em_X12_sign w]
def rb_X12_readRegions_255 (S : r_S) (x1 : Int32) (x2 : Int32) (x3 : Int32) (Q : Option Value → r_S → Prop) : Prop := (¬ (r_I S 2411) = 0 → (rb_X12_readRegions_280 S Q)) ∧ ((r_I S 2411) = 0 → (vp_in x1 (r_N 2425) ∧ ((x3 = (r_A S 2425 x1.toNatClampNeg) → (rb_X12_readRegions_280 S Q)) ∧ (¬ x3 = (r_A S 2425 x1.toNatClampNeg) → (rm_X12_fail S (7 : Int32) x2 (fun r64_ S65_ => ∃ x66_ : Int32, r64_ = some (.int x66_) ∧ (rb_X12_readRegions_280 S65_ Q)))))))
set_option maxRecDepth 100000 in
set_option maxHeartbeats 4000000 in
theorem eb_X12_readRegions_255 {m : Nat} {ad : Nat → Nat} {fo : Nat → Option Nat} {st : Nat → Nat} {S0 : q_S} (w : r_WF m ad fo st S0)  (S : r_S) (x1 : Int32) (x2 : Int32) (x3 : Int32) (Q : Option Value → q_S → Prop) : wb_X12_readRegions_255 (r_E m fo S S0) m x1 x2 x3 Q ↔ rb_X12_readRegions_255 S x1 x2 x3 (fun r S => Q r (r_E m fo S S0)) := by
  unfold wb_X12_readRegions_255 rb_X12_readRegions_255
  simp only [r_eK, r_eI, r_eIs, r_eP, r_eN, true_and, Option.some.injEq, exists_eq_left', r_all, w.1, r_w1 w 2425 rfl, r_w2 w 2425 21 rfl rfl, r_w3 w 2425 rfl, r_eA w 2425 rfl, r_eAs w 2425 rfl, eb_X12_readRegions_280 w, em_X12_fail w]
def rb_X12_readRegions_76 (B76 : r_S → Int32 → Int32 → Int32 → Prop) (S : r_S) (x1 : Int32) (x2 : Int32) (x3 : Int32) (Q : Option Value → r_S → Prop) : Prop := (¬ (r_I S 2411) = 0 → (rb_X12_readRegions_255 S x1 x2 x3 Q)) ∧ ((r_I S 2411) = 0 → (vp_in x1 (r_N 2426) ∧ (((r_A S 2426 x1.toNatClampNeg) = 0 → (rb_X12_readRegions_101 B76 S x1 x2 x3 Q)) ∧ (¬ (r_A S 2426 x1.toNatClampNeg) = 0 → (rm_X12_isSign S (125 : Int32) (fun r74_ S75_ => ∃ x76_ : Int32, r74_ = some (.int x76_) ∧ ((¬ x76_ = 0 → (rb_X12_readRegions_255 S75_ x1 x2 x3 Q)) ∧ (x76_ = 0 → (rb_X12_readRegions_101 B76 S75_ x1 x2 x3 Q)))))))))
set_option maxRecDepth 100000 in
set_option maxHeartbeats 4000000 in
theorem eb_X12_readRegions_76 {m : Nat} {ad : Nat → Nat} {fo : Nat → Option Nat} {st : Nat → Nat} {S0 : q_S} (w : r_WF m ad fo st S0) {OB76 : q_S → Nat → Int32 → Int32 → Int32 → Prop} {B76 : r_S → Int32 → Int32 → Int32 → Prop} (hB76 : ∀ (S : r_S) (y2 : Int32) (y3 : Int32) (y4 : Int32), (OB76 (r_E m fo S S0) m y2 y3 y4 ↔ B76 S y2 y3 y4)) (S : r_S) (x1 : Int32) (x2 : Int32) (x3 : Int32) (Q : Option Value → q_S → Prop) : wb_X12_readRegions_76 OB76 (r_E m fo S S0) m x1 x2 x3 Q ↔ rb_X12_readRegions_76 B76 S x1 x2 x3 (fun r S => Q r (r_E m fo S S0)) := by
  unfold wb_X12_readRegions_76 rb_X12_readRegions_76
  simp only [r_eK, r_eI, r_eIs, r_eP, r_eN, true_and, Option.some.injEq, exists_eq_left', r_all, w.1, r_w1 w 2426 rfl, r_w2 w 2426 21 rfl rfl, r_w3 w 2426 rfl, r_eA w 2426 rfl, r_eAs w 2426 rfl, eb_X12_readRegions_101 w hB76, eb_X12_readRegions_255 w, em_X12_isSign w, hB76]
def rl_X12_readRegions_76  : Nat → r_S → Int32 → Int32 → Int32 → (Option Value → r_S → Prop) → Prop
  | 0, _, _, _, _, _ => False
  | n + 1, S, x1, x2, x3, Q => rb_X12_readRegions_76 (fun S x1 x2 x3 => rl_X12_readRegions_76 n S x1 x2 x3 Q) S x1 x2 x3 Q
set_option maxRecDepth 100000 in
theorem el_X12_readRegions_76 {m : Nat} {ad : Nat → Nat} {fo : Nat → Option Nat} {st : Nat → Nat} {S0 : q_S} (w : r_WF m ad fo st S0)  (n : Nat) (S : r_S) (x1 : Int32) (x2 : Int32) (x3 : Int32) (Q : Option Value → q_S → Prop) : wl_X12_readRegions_76 n (r_E m fo S S0) m x1 x2 x3 Q ↔ rl_X12_readRegions_76 n S x1 x2 x3 (fun r S => Q r (r_E m fo S S0)) := by
  induction n generalizing S x1 x2 x3 with
  | zero => exact Iff.rfl
  | succ n ih => exact eb_X12_readRegions_76 w (fun _ _ _ _ => ih _ _ _ _) S x1 x2 x3 Q
def rm_X12_readRegions (S : r_S) (x1 : Int32) (Q : Option Value → r_S → Prop) : Prop := vp_in x1 (r_N 2426) ∧ (rm_X12_isKey (rs_A S 2426 x1.toNatClampNeg (0 : Int32)) (2 : Int32) (fun r83_ S84_ => ∃ x85_ : Int32, r83_ = some (.int x85_) ∧ ((¬ x85_ = 0 → (rm_X12_next S84_ (fun r88_ S89_ => r88_ = none ∧ (rm_X12_sign S89_ (123 : Int32) (fun r91_ S92_ => ∃ x93_ : Int32, r91_ = some (.int x93_) ∧ (∃ n94_ : Nat, rl_X12_readRegions_76 n94_ S92_ x1 (r_I S84_ 2407) (0 : Int32) Q)))))) ∧ (x85_ = 0 → (vp_in x1 (r_N 2426) ∧ (vp_in ((6 : Int32) * x1) (r_N 2427) ∧ (vp_in x1 (r_N 2425) ∧ (vp_in ((6 : Int32) * x1) (r_N 2428) ∧ (∀ S112_ : r_S, S112_ = (rs_A (rs_A (rs_A S84_ 2426 x1.toNatClampNeg (1 : Int32)) 2427 ((6 : Int32) * x1).toNatClampNeg (0 : Int32)) 2428 ((6 : Int32) * x1).toNatClampNeg (r_A (rs_A (rs_A S84_ 2426 x1.toNatClampNeg (1 : Int32)) 2427 ((6 : Int32) * x1).toNatClampNeg (0 : Int32)) 2425 x1.toNatClampNeg)) → (vp_in ((6 : Int32) * x1) (r_N 2429) ∧ (Q none (rs_A S112_ 2429 ((6 : Int32) * x1).toNatClampNeg (3 : Int32)))))))))))))
set_option maxRecDepth 100000 in
set_option maxHeartbeats 4000000 in
theorem em_X12_readRegions {m : Nat} {ad : Nat → Nat} {fo : Nat → Option Nat} {st : Nat → Nat} {S0 : q_S} (w : r_WF m ad fo st S0)  (S : r_S) (x1 : Int32) (Q : Option Value → q_S → Prop) : wm_X12_readRegions (r_E m fo S S0) m x1 Q ↔ rm_X12_readRegions S x1 (fun r S => Q r (r_E m fo S S0)) := by
  unfold wm_X12_readRegions rm_X12_readRegions
  simp only [r_eK, r_eI, r_eIs, r_eP, r_eN, true_and, Option.some.injEq, exists_eq_left', r_all, w.1, r_w1 w 2425 rfl, r_w2 w 2425 21 rfl rfl, r_w3 w 2425 rfl, r_eA w 2425 rfl, r_eAs w 2425 rfl, r_w1 w 2426 rfl, r_w2 w 2426 21 rfl rfl, r_w3 w 2426 rfl, r_eA w 2426 rfl, r_eAs w 2426 rfl, r_w1 w 2427 rfl, r_w2 w 2427 21 rfl rfl, r_w3 w 2427 rfl, r_eA w 2427 rfl, r_eAs w 2427 rfl, r_w1 w 2428 rfl, r_w2 w 2428 21 rfl rfl, r_w3 w 2428 rfl, r_eA w 2428 rfl, r_eAs w 2428 rfl, r_w1 w 2429 rfl, r_w2 w 2429 21 rfl rfl, r_w3 w 2429 rfl, r_eA w 2429 rfl, r_eAs w 2429 rfl, el_X12_readRegions_76 w, em_X12_isKey w, em_X12_next w, em_X12_sign w]
