def km_X0_takeSemaphore (L : c_L) (S : c_S) (a0 : Nat) (r1 : Option Nat) (x2 : Int32) (x3 : Int32) (Q : Int32 → c_S → Prop) : Prop := km_X0_isNoTime L S a0 x3 (fun x4_ S3_ => ((x4_ = 0 → (∃ a6_ : Nat, r1 = some a6_ ∧ (c_mk L 10 a6_ ∧ ((0 < (c_I S3_ 2001 a6_) → (Q (0 : Int32) (cs_I S3_ 2001 a6_ ((c_I S3_ 2001 a6_) - (1 : Int32))))) ∧ (¬ 0 < (c_I S3_ 2001 a6_) → (km_X0_waitFor L S3_ a0 ((0 : Int32) + x2) x3 (fun x13_ S12_ => (Q x13_ S12_)))))))) ∧ (¬ x4_ = 0 → (Q (1 : Int32) S3_))))
set_option maxRecDepth 100000 in
set_option maxHeartbeats 4000000 in
theorem um_X0_takeSemaphore {L : c_L} {T : q_S} (g : c_G L T) (S : c_S) (a0 : Nat) (r1 : Option Nat) (x2 : Int32) (x3 : Int32) (m_a0 : c_mk L 0 a0) {Q1 : Int32 → c_S → Prop} {Q : Option Value → q_S → Prop} (h : km_X0_takeSemaphore L  S a0 r1 x2 x3 Q1) (hQ : ∀ (v : Int32) (K : c_S), Q1 v K → Q (some (.int v)) (c_E L K T)) : wm_X0_takeSemaphore  (c_E L S T) (c_ob L 0 a0) (r1.map (c_ob L 10)) x2 x3 Q := by
  unfold wm_X0_takeSemaphore
  unfold km_X0_takeSemaphore at h
  try simp only [c_gk g m_a0 1 rfl, true_and, Option.some.injEq, exists_eq_left', c_xm, c_xn, c_xs]
  refine um_X0_isNoTime g _ a0 _ m_a0 h (fun x4_ S3_ h => ?_)
  refine ⟨_, rfl, ?_⟩
  try simp only [c_gk g m_a0 1 rfl, true_and, Option.some.injEq, exists_eq_left', c_xm, c_xn, c_xs]
  refine ⟨fun hc => ?_, fun hc => ?_⟩
  · have h := h.1 hc
    obtain ⟨a6_, e_a6_, m_a6_, h⟩ := h
    refine ⟨a6_, e_a6_, ?_⟩
    try simp only [c_gk g m_a0 1 rfl, c_gk g m_a6_ 11 rfl, c_eI (f := 2001) m_a6_ rfl, c_eIs (f := 2001) (c_gw g) m_a6_ rfl, true_and, Option.some.injEq, exists_eq_left', c_xm, c_xn, c_xs]
    refine ⟨fun hc => ?_, fun hc => ?_⟩
    · have h := h.1 hc
      exact hQ _ _ h
    · have h := h.2 hc
      refine um_X0_waitFor g _ a0 _ _ m_a0 h (fun x13_ S12_ h => ?_)
      refine ⟨_, rfl, ?_⟩
      try simp only [c_gk g m_a0 1 rfl, c_gk g m_a6_ 11 rfl, c_eI (f := 2001) m_a6_ rfl, c_eIs (f := 2001) (c_gw g) m_a6_ rfl, true_and, Option.some.injEq, exists_eq_left', c_xm, c_xn, c_xs]
      exact hQ _ _ h
  · have h := h.2 hc
    exact hQ _ _ h
def kb_X7_isAheadOf_31 (L : c_L) (S : c_S) (xs0 : Int32) (Q : Int32 → c_S → Prop) : Prop := narrow .boolean (.int xs0) = .int xs0 ∧ (Q xs0 S)
set_option maxRecDepth 100000 in
set_option maxHeartbeats 4000000 in
theorem ub_X7_isAheadOf_31 {L : c_L} {T : q_S} (g : c_G L T) (S : c_S) (xs0 : Int32)  {Q1 : Int32 → c_S → Prop} {Q : Option Value → q_S → Prop} (h : kb_X7_isAheadOf_31 L  S xs0 Q1) (hQ : ∀ (v : Int32) (K : c_S), Q1 v K → Q (some (.int v)) (c_E L K T)) : wb_X7_isAheadOf_31  (c_E L S T) xs0 Q := by
  unfold wb_X7_isAheadOf_31
  unfold kb_X7_isAheadOf_31 at h
  try simp only [true_and, Option.some.injEq, exists_eq_left', c_xm, c_xn, c_xs]
  refine ⟨h.1, ?_⟩
  have h := h.2
  exact hQ _ _ h
def kb_X7_isAheadOf_48 (L : c_L) (S : c_S) (xs0 : Int32) (Q : Int32 → c_S → Prop) : Prop := narrow .boolean (.int xs0) = .int xs0 ∧ (Q xs0 S)
set_option maxRecDepth 100000 in
set_option maxHeartbeats 4000000 in
theorem ub_X7_isAheadOf_48 {L : c_L} {T : q_S} (g : c_G L T) (S : c_S) (xs0 : Int32)  {Q1 : Int32 → c_S → Prop} {Q : Option Value → q_S → Prop} (h : kb_X7_isAheadOf_48 L  S xs0 Q1) (hQ : ∀ (v : Int32) (K : c_S), Q1 v K → Q (some (.int v)) (c_E L K T)) : wb_X7_isAheadOf_48  (c_E L S T) xs0 Q := by
  unfold wb_X7_isAheadOf_48
  unfold kb_X7_isAheadOf_48 at h
  try simp only [true_and, Option.some.injEq, exists_eq_left', c_xm, c_xn, c_xs]
  refine ⟨h.1, ?_⟩
  have h := h.2
  exact hQ _ _ h
def kb_X7_isAheadOf_32 (L : c_L) (S : c_S) (a0 : Nat) (r1 : Option Nat) (Q : Int32 → c_S → Prop) : Prop := ∃ a2_ : Nat, r1 = some a2_ ∧ (c_mk L 7 a2_ ∧ (((c_I S 1417 a2_) ≤ (c_I S 1417 a0) → (kb_X7_isAheadOf_48 L S (0 : Int32) Q)) ∧ (¬ (c_I S 1417 a2_) ≤ (c_I S 1417 a0) → (kb_X7_isAheadOf_48 L S (1 : Int32) Q))))
set_option maxRecDepth 100000 in
set_option maxHeartbeats 4000000 in
theorem ub_X7_isAheadOf_32 {L : c_L} {T : q_S} (g : c_G L T) (S : c_S) (a0 : Nat) (r1 : Option Nat) (m_a0 : c_mk L 7 a0) {Q1 : Int32 → c_S → Prop} {Q : Option Value → q_S → Prop} (h : kb_X7_isAheadOf_32 L  S a0 r1 Q1) (hQ : ∀ (v : Int32) (K : c_S), Q1 v K → Q (some (.int v)) (c_E L K T)) : wb_X7_isAheadOf_32  (c_E L S T) (c_ob L 7 a0) (r1.map (c_ob L 7)) Q := by
  unfold wb_X7_isAheadOf_32
  unfold kb_X7_isAheadOf_32 at h
  try simp only [c_gk g m_a0 8 rfl, c_eI (f := 1417) m_a0 rfl, true_and, Option.some.injEq, exists_eq_left', c_xm, c_xn, c_xs]
  obtain ⟨a2_, e_a2_, m_a2_, h⟩ := h
  refine ⟨a2_, e_a2_, ?_⟩
  try simp only [c_gk g m_a0 8 rfl, c_gk g m_a2_ 8 rfl, c_eI (f := 1417) m_a0 rfl, c_eI (f := 1417) m_a2_ rfl, true_and, Option.some.injEq, exists_eq_left', c_xm, c_xn, c_xs]
  refine ⟨fun hc => ?_, fun hc => ?_⟩
  · have h := h.1 hc
    exact ub_X7_isAheadOf_48 g _ _  h hQ
  · have h := h.2 hc
    exact ub_X7_isAheadOf_48 g _ _  h hQ
def km_X7_isAheadOf (L : c_L) (S : c_S) (a0 : Nat) (r1 : Option Nat) (x2 : Int32) (Q : Int32 → c_S → Prop) : Prop := (¬ x2 = 0 → (kb_X7_isAheadOf_32 L S a0 r1 Q)) ∧ (x2 = 0 → (∃ a8_ : Nat, r1 = some a8_ ∧ (c_mk L 7 a8_ ∧ (((c_I S 1403 a0) = (c_I S 1403 a8_) → (kb_X7_isAheadOf_32 L S a0 r1 Q)) ∧ (¬ (c_I S 1403 a0) = (c_I S 1403 a8_) → (((c_I S 1403 a0) ≤ (c_I S 1403 a8_) → (kb_X7_isAheadOf_31 L S (0 : Int32) Q)) ∧ (¬ (c_I S 1403 a0) ≤ (c_I S 1403 a8_) → (kb_X7_isAheadOf_31 L S (1 : Int32) Q))))))))
set_option maxRecDepth 100000 in
set_option maxHeartbeats 4000000 in
theorem um_X7_isAheadOf {L : c_L} {T : q_S} (g : c_G L T) (S : c_S) (a0 : Nat) (r1 : Option Nat) (x2 : Int32) (m_a0 : c_mk L 7 a0) {Q1 : Int32 → c_S → Prop} {Q : Option Value → q_S → Prop} (h : km_X7_isAheadOf L  S a0 r1 x2 Q1) (hQ : ∀ (v : Int32) (K : c_S), Q1 v K → Q (some (.int v)) (c_E L K T)) : wm_X7_isAheadOf  (c_E L S T) (c_ob L 7 a0) (r1.map (c_ob L 7)) x2 Q := by
  unfold wm_X7_isAheadOf
  unfold km_X7_isAheadOf at h
  try simp only [c_gk g m_a0 8 rfl, c_eI (f := 1403) m_a0 rfl, true_and, Option.some.injEq, exists_eq_left', c_xm, c_xn, c_xs]
  refine ⟨fun hc => ?_, fun hc => ?_⟩
  · have h := h.1 hc
    exact ub_X7_isAheadOf_32 g _ a0 r1 m_a0 h hQ
  · have h := h.2 hc
    obtain ⟨a8_, e_a8_, m_a8_, h⟩ := h
    refine ⟨a8_, e_a8_, ?_⟩
    try simp only [c_gk g m_a0 8 rfl, c_gk g m_a8_ 8 rfl, c_eI (f := 1403) m_a0 rfl, c_eI (f := 1403) m_a8_ rfl, true_and, Option.some.injEq, exists_eq_left', c_xm, c_xn, c_xs]
    refine ⟨fun hc => ?_, fun hc => ?_⟩
    · have h := h.1 hc
      exact ub_X7_isAheadOf_32 g _ a0 r1 m_a0 h hQ
    · have h := h.2 hc
      refine ⟨fun hc => ?_, fun hc => ?_⟩
      · have h := h.1 hc
        exact ub_X7_isAheadOf_31 g _ _  h hQ
      · have h := h.2 hc
        exact ub_X7_isAheadOf_31 g _ _  h hQ
def kb_X5_firstWaiting_49 (L : c_L) (B5 : c_S → Nat → Int32 → Int32 → Option Nat → Int32 → Prop) (S : c_S) (a0 : Nat) (x1 : Int32) (x2 : Int32) (r3 : Option Nat) (x4 : Int32) (Q : Option Nat → c_S → Prop) : Prop := B5 S a0 x1 x2 r3 (x4 + 1)
set_option maxRecDepth 100000 in
set_option maxHeartbeats 4000000 in
theorem ub_X5_firstWaiting_49 {L : c_L} {T : q_S} (g : c_G L T) {OB5 : q_S → Nat → Int32 → Int32 → Option Nat → Int32 → Prop} {B5 : c_S → Nat → Int32 → Int32 → Option Nat → Int32 → Prop} (hB5 : ∀ (S1 : c_S) (a0 : Nat) (x1 : Int32) (x2 : Int32) (r3 : Option Nat) (x4 : Int32), c_mk L 5 a0 → B5 S1 a0 x1 x2 r3 x4 → OB5 (c_E L S1 T) (c_ob L 5 a0) x1 x2 (r3.map (c_ob L 7)) x4) (S : c_S) (a0 : Nat) (x1 : Int32) (x2 : Int32) (r3 : Option Nat) (x4 : Int32) (m_a0 : c_mk L 5 a0) {Q1 : Option Nat → c_S → Prop} {Q : Option Value → q_S → Prop} (h : kb_X5_firstWaiting_49 L B5 S a0 x1 x2 r3 x4 Q1) (hQ : ∀ (v : Option Nat) (K : c_S), Q1 v K → Q (some (va_rf (v.map (c_ob L 7)))) (c_E L K T)) : wb_X5_firstWaiting_49 OB5 (c_E L S T) (c_ob L 5 a0) x1 x2 (r3.map (c_ob L 7)) x4 Q := by
  unfold wb_X5_firstWaiting_49
  unfold kb_X5_firstWaiting_49 at h
  try simp only [c_gk g m_a0 6 rfl, true_and, Option.some.injEq, exists_eq_left', c_xm, c_xn, c_xs]
  exact hB5 _ a0 _ _ r3 _ m_a0 h
def kb_X5_firstWaiting_46 (L : c_L) (B5 : c_S → Nat → Int32 → Int32 → Option Nat → Int32 → Prop) (S : c_S) (a0 : Nat) (x1 : Int32) (x2 : Int32) (x4 : Int32) (r5 : Option Nat) (Q : Option Nat → c_S → Prop) : Prop := kb_X5_firstWaiting_49 L B5 S a0 x1 x2 r5 x4 Q
set_option maxRecDepth 100000 in
set_option maxHeartbeats 4000000 in
theorem ub_X5_firstWaiting_46 {L : c_L} {T : q_S} (g : c_G L T) {OB5 : q_S → Nat → Int32 → Int32 → Option Nat → Int32 → Prop} {B5 : c_S → Nat → Int32 → Int32 → Option Nat → Int32 → Prop} (hB5 : ∀ (S1 : c_S) (a0 : Nat) (x1 : Int32) (x2 : Int32) (r3 : Option Nat) (x4 : Int32), c_mk L 5 a0 → B5 S1 a0 x1 x2 r3 x4 → OB5 (c_E L S1 T) (c_ob L 5 a0) x1 x2 (r3.map (c_ob L 7)) x4) (S : c_S) (a0 : Nat) (x1 : Int32) (x2 : Int32) (x4 : Int32) (r5 : Option Nat) (m_a0 : c_mk L 5 a0) {Q1 : Option Nat → c_S → Prop} {Q : Option Value → q_S → Prop} (h : kb_X5_firstWaiting_46 L B5 S a0 x1 x2 x4 r5 Q1) (hQ : ∀ (v : Option Nat) (K : c_S), Q1 v K → Q (some (va_rf (v.map (c_ob L 7)))) (c_E L K T)) : wb_X5_firstWaiting_46 OB5 (c_E L S T) (c_ob L 5 a0) x1 x2 x4 (r5.map (c_ob L 7)) Q := by
  unfold wb_X5_firstWaiting_46
  unfold kb_X5_firstWaiting_46 at h
  try simp only [c_gk g m_a0 6 rfl, true_and, Option.some.injEq, exists_eq_left', c_xm, c_xn, c_xs]
  exact ub_X5_firstWaiting_49 g hB5 _ a0 _ _ r5 _ m_a0 h hQ
def kb_X5_firstWaiting_5 (L : c_L) (B5 : c_S → Nat → Int32 → Int32 → Option Nat → Int32 → Prop) (S : c_S) (a0 : Nat) (x1 : Int32) (x2 : Int32) (r3 : Option Nat) (x4 : Int32) (Q : Option Nat → c_S → Prop) : Prop := ((c_I S 1004 a0) ≤ x4 → (Q r3 S)) ∧ (¬ (c_I S 1004 a0) ≤ x4 → (vp_in x4 16 ∧ (∃ a7_ : Nat, (c_e7 L a0 x4.toNatClampNeg) = some a7_ ∧ (c_mk L 7 a7_ ∧ ((¬ (c_I S 1418 a7_) = x1 → (kb_X5_firstWaiting_49 L B5 S a0 x1 x2 r3 x4 Q)) ∧ ((c_I S 1418 a7_) = x1 → ((r3 = none → (kb_X5_firstWaiting_46 L B5 S a0 x1 x2 x4 (c_e7 L a0 x4.toNatClampNeg) Q)) ∧ (¬ r3 = none → (km_X7_isAheadOf L S a7_ r3 x2 (fun x14_ S13_ => ((x14_ = 0 → (kb_X5_firstWaiting_49 L B5 S13_ a0 x1 x2 r3 x4 Q)) ∧ (¬ x14_ = 0 → (kb_X5_firstWaiting_46 L B5 S13_ a0 x1 x2 x4 (c_e7 L a0 x4.toNatClampNeg) Q)))))))))))))
set_option maxRecDepth 100000 in
set_option maxHeartbeats 4000000 in
theorem ub_X5_firstWaiting_5 {L : c_L} {T : q_S} (g : c_G L T) {OB5 : q_S → Nat → Int32 → Int32 → Option Nat → Int32 → Prop} {B5 : c_S → Nat → Int32 → Int32 → Option Nat → Int32 → Prop} (hB5 : ∀ (S1 : c_S) (a0 : Nat) (x1 : Int32) (x2 : Int32) (r3 : Option Nat) (x4 : Int32), c_mk L 5 a0 → B5 S1 a0 x1 x2 r3 x4 → OB5 (c_E L S1 T) (c_ob L 5 a0) x1 x2 (r3.map (c_ob L 7)) x4) (S : c_S) (a0 : Nat) (x1 : Int32) (x2 : Int32) (r3 : Option Nat) (x4 : Int32) (m_a0 : c_mk L 5 a0) {Q1 : Option Nat → c_S → Prop} {Q : Option Value → q_S → Prop} (h : kb_X5_firstWaiting_5 L B5 S a0 x1 x2 r3 x4 Q1) (hQ : ∀ (v : Option Nat) (K : c_S), Q1 v K → Q (some (va_rf (v.map (c_ob L 7)))) (c_E L K T)) : wb_X5_firstWaiting_5 OB5 (c_E L S T) (c_ob L 5 a0) x1 x2 (r3.map (c_ob L 7)) x4 Q := by
  unfold wb_X5_firstWaiting_5
  unfold kb_X5_firstWaiting_5 at h
  try simp only [c_gk g m_a0 6 rfl, c_eI (f := 1004) m_a0 rfl, true_and, Option.some.injEq, exists_eq_left', c_xm, c_xn, c_xs]
  refine ⟨fun hc => ?_, fun hc => ?_⟩
  · have h := h.1 hc
    exact hQ _ _ h
  · have h := h.2 hc
    have n1003_a0 := c_gA g 1003 rfl (by decide) m_a0
    try simp only [c_gk g m_a0 6 rfl, c_gr g n1003_a0 26 rfl, c_gN g n1003_a0 16 (by decide), c_g7 g m_a0, c_ga g 1003 rfl rfl (by decide) m_a0, c_eI (f := 1004) m_a0 rfl, true_and, Option.some.injEq, exists_eq_left', c_xm, c_xn, c_xs]
    refine ⟨h.1, ?_⟩
    have h := h.2
    obtain ⟨a7_, e_a7_, m_a7_, h⟩ := h
    refine ⟨a7_, e_a7_, ?_⟩
    try simp only [c_gk g m_a0 6 rfl, c_gk g m_a7_ 8 rfl, c_gr g n1003_a0 26 rfl, c_gN g n1003_a0 16 (by decide), c_g7 g m_a0, c_ga g 1003 rfl rfl (by decide) m_a0, c_eI (f := 1004) m_a0 rfl, c_eI (f := 1418) m_a7_ rfl, true_and, Option.some.injEq, exists_eq_left', c_xm, c_xn, c_xs]
    refine ⟨fun hc => ?_, fun hc => ?_⟩
    · have h := h.1 hc
      exact ub_X5_firstWaiting_49 g hB5 _ a0 _ _ r3 _ m_a0 h hQ
    · have h := h.2 hc
      refine ⟨fun hc => ?_, fun hc => ?_⟩
      · have h := h.1 hc
        exact ub_X5_firstWaiting_46 g hB5 _ a0 _ _ _ (c_e7 L a0 x4.toNatClampNeg) m_a0 h hQ
      · have h := h.2 hc
        refine um_X7_isAheadOf g _ a7_ r3 _ m_a7_ h (fun x14_ S13_ h => ?_)
        refine ⟨_, rfl, ?_⟩
        try simp only [c_gk g m_a0 6 rfl, c_gk g m_a7_ 8 rfl, c_gr g n1003_a0 26 rfl, c_gN g n1003_a0 16 (by decide), c_g7 g m_a0, c_ga g 1003 rfl rfl (by decide) m_a0, c_eI (f := 1004) m_a0 rfl, c_eI (f := 1418) m_a7_ rfl, true_and, Option.some.injEq, exists_eq_left', c_xm, c_xn, c_xs]
        refine ⟨fun hc => ?_, fun hc => ?_⟩
        · have h := h.1 hc
          exact ub_X5_firstWaiting_49 g hB5 _ a0 _ _ r3 _ m_a0 h hQ
        · have h := h.2 hc
          exact ub_X5_firstWaiting_46 g hB5 _ a0 _ _ _ (c_e7 L a0 x4.toNatClampNeg) m_a0 h hQ
def kl_X5_firstWaiting_5 (L : c_L)  : Nat → c_S → Nat → Int32 → Int32 → Option Nat → Int32 → (Option Nat → c_S → Prop) → Prop
  | 0, _, _, _, _, _, _, _ => False
  | n + 1, S, a0, x1, x2, r3, x4, Q => kb_X5_firstWaiting_5 L (fun S a0 x1 x2 r3 x4 => kl_X5_firstWaiting_5 L n S a0 x1 x2 r3 x4 Q) S a0 x1 x2 r3 x4 Q
theorem ul_X5_firstWaiting_5 {L : c_L} {T : q_S} (g : c_G L T) (n : Nat) (S : c_S) (a0 : Nat) (x1 : Int32) (x2 : Int32) (r3 : Option Nat) (x4 : Int32) (m_a0 : c_mk L 5 a0) {Q1 : Option Nat → c_S → Prop} {Q : Option Value → q_S → Prop} (h : kl_X5_firstWaiting_5 L  n S a0 x1 x2 r3 x4 Q1) (hQ : ∀ (v : Option Nat) (K : c_S), Q1 v K → Q (some (va_rf (v.map (c_ob L 7)))) (c_E L K T)) : wl_X5_firstWaiting_5  n (c_E L S T) (c_ob L 5 a0) x1 x2 (r3.map (c_ob L 7)) x4 Q := by
  induction n generalizing S a0 x1 x2 r3 x4 with
  | zero => exact h.elim
  | succ n ih => exact ub_X5_firstWaiting_5 g (fun u0 u1 u2 u3 u4 u5 w0 h => ih u0 u1 u2 u3 u4 u5 w0 h) S a0 x1 x2 r3 x4 m_a0 h hQ
def km_X5_firstWaiting (L : c_L) (S : c_S) (a0 : Nat) (x1 : Int32) (x2 : Int32) (Q : Option Nat → c_S → Prop) : Prop := ∃ n16_ : Nat, kl_X5_firstWaiting_5 L n16_ S a0 x1 x2 none (0 : Int32) Q
set_option maxRecDepth 100000 in
set_option maxHeartbeats 4000000 in
theorem um_X5_firstWaiting {L : c_L} {T : q_S} (g : c_G L T) (S : c_S) (a0 : Nat) (x1 : Int32) (x2 : Int32) (m_a0 : c_mk L 5 a0) {Q1 : Option Nat → c_S → Prop} {Q : Option Value → q_S → Prop} (h : km_X5_firstWaiting L  S a0 x1 x2 Q1) (hQ : ∀ (v : Option Nat) (K : c_S), Q1 v K → Q (some (va_rf (v.map (c_ob L 7)))) (c_E L K T)) : wm_X5_firstWaiting  (c_E L S T) (c_ob L 5 a0) x1 x2 Q := by
  unfold wm_X5_firstWaiting
  unfold km_X5_firstWaiting at h
  try simp only [c_gk g m_a0 6 rfl, true_and, Option.some.injEq, exists_eq_left', c_xm, c_xn, c_xs]
  obtain ⟨n16_, h⟩ := h
  refine ⟨n16_, ?_⟩
  exact ul_X5_firstWaiting_5 g n16_ _ a0 _ _ none _ m_a0 h hQ
def km_X5_answerWaiter (L : c_L) (S : c_S) (a0 : Nat) (r1 : Option Nat) (x2 : Int32) (Q : c_S → Prop) : Prop := km_X5_makeReady L S a0 r1 (fun S3_ => (∃ a4_ : Nat, r1 = some a4_ ∧ (c_mk L 7 a4_ ∧ (vp_in (10 : Int32) 32 ∧ (Q (cs_A S3_ 1411 a4_ (10 : Int32).toNatClampNeg x2))))))
set_option maxRecDepth 100000 in
set_option maxHeartbeats 4000000 in
theorem um_X5_answerWaiter {L : c_L} {T : q_S} (g : c_G L T) (S : c_S) (a0 : Nat) (r1 : Option Nat) (x2 : Int32) (m_a0 : c_mk L 5 a0) {Q1 : c_S → Prop} {Q : Option Value → q_S → Prop} (h : km_X5_answerWaiter L  S a0 r1 x2 Q1) (hQ : ∀ K : c_S, Q1 K → Q none (c_E L K T)) : wm_X5_answerWaiter  (c_E L S T) (c_ob L 5 a0) (r1.map (c_ob L 7)) x2 Q := by
  unfold wm_X5_answerWaiter
  unfold km_X5_answerWaiter at h
  try simp only [c_gk g m_a0 6 rfl, true_and, Option.some.injEq, exists_eq_left', c_xm, c_xn, c_xs]
  refine um_X5_makeReady g _ a0 r1 m_a0 h (fun S3_ h => ?_)
  refine ⟨rfl, ?_⟩
  try simp only [c_gk g m_a0 6 rfl, true_and, Option.some.injEq, exists_eq_left', c_xm, c_xn, c_xs]
  obtain ⟨a4_, e_a4_, m_a4_, h⟩ := h
  refine ⟨a4_, e_a4_, ?_⟩
  try simp only [c_gk g m_a0 6 rfl, c_gk g m_a4_ 8 rfl, true_and, Option.some.injEq, exists_eq_left', c_xm, c_xn, c_xs]
  have n1411_a4_ := c_gA g 1411 rfl (by decide) m_a4_
  try simp only [c_gk g m_a0 6 rfl, c_gk g m_a4_ 8 rfl, c_gr g n1411_a4_ 21 rfl, c_gN g n1411_a4_ 32 (by decide), c_eA n1411_a4_, c_eAs (c_gw g) n1411_a4_, c_ga g 1411 rfl rfl (by decide) m_a4_, true_and, Option.some.injEq, exists_eq_left', c_xm, c_xn, c_xs]
  refine ⟨h.1, ?_⟩
  have h := h.2
  exact hQ _ h
def km_X0_giveSemaphore (L : c_L) (S : c_S) (a0 : Nat) (r1 : Option Nat) (x2 : Int32) (Q : Int32 → c_S → Prop) : Prop := ∃ a2_ : Nat, r1 = some a2_ ∧ (c_mk L 10 a2_ ∧ (∃ a5_ : Nat, (c_P S 1 a0) = some a5_ ∧ (c_mk L 5 a5_ ∧ (km_X5_firstWaiting L S a5_ ((0 : Int32) + x2) (c_I S 2004 a2_) (fun r10_ S9_ => ((r10_ = none → (((c_I S9_ 2001 a2_) < (c_I S9_ 2003 a2_) → (Q (0 : Int32) (cs_I S9_ 2001 a2_ ((c_I S9_ 2001 a2_) + (1 : Int32))))) ∧ (¬ (c_I S9_ 2001 a2_) < (c_I S9_ 2003 a2_) → (Q (2 : Int32) S9_)))) ∧ (¬ r10_ = none → (∃ a15_ : Nat, (c_P S9_ 1 a0) = some a15_ ∧ (c_mk L 5 a15_ ∧ (km_X5_answerWaiter L S9_ a15_ r10_ (0 : Int32) (fun S19_ => (Q (0 : Int32) S19_))))))))))))
set_option maxRecDepth 100000 in
set_option maxHeartbeats 4000000 in
theorem um_X0_giveSemaphore {L : c_L} {T : q_S} (g : c_G L T) (S : c_S) (a0 : Nat) (r1 : Option Nat) (x2 : Int32) (m_a0 : c_mk L 0 a0) {Q1 : Int32 → c_S → Prop} {Q : Option Value → q_S → Prop} (h : km_X0_giveSemaphore L  S a0 r1 x2 Q1) (hQ : ∀ (v : Int32) (K : c_S), Q1 v K → Q (some (.int v)) (c_E L K T)) : wm_X0_giveSemaphore  (c_E L S T) (c_ob L 0 a0) (r1.map (c_ob L 10)) x2 Q := by
  unfold wm_X0_giveSemaphore
  unfold km_X0_giveSemaphore at h
  try simp only [c_gk g m_a0 1 rfl, c_eD1 m_a0, c_eDs1 (c_gw g) m_a0, true_and, Option.some.injEq, exists_eq_left', c_xm, c_xn, c_xs]
  obtain ⟨a2_, e_a2_, m_a2_, h⟩ := h
  refine ⟨a2_, e_a2_, ?_⟩
  try simp only [c_gk g m_a0 1 rfl, c_gk g m_a2_ 11 rfl, c_eD1 m_a0, c_eDs1 (c_gw g) m_a0, c_eI (f := 2001) m_a2_ rfl, c_eI (f := 2003) m_a2_ rfl, c_eI (f := 2004) m_a2_ rfl, c_eIs (f := 2001) (c_gw g) m_a2_ rfl, true_and, Option.some.injEq, exists_eq_left', c_xm, c_xn, c_xs]
  obtain ⟨a5_, e_a5_, m_a5_, h⟩ := h
  refine ⟨a5_, e_a5_, ?_⟩
  try simp only [c_gk g m_a0 1 rfl, c_gk g m_a2_ 11 rfl, c_gk g m_a5_ 6 rfl, c_eD1 m_a0, c_eDs1 (c_gw g) m_a0, c_eI (f := 2001) m_a2_ rfl, c_eI (f := 2003) m_a2_ rfl, c_eI (f := 2004) m_a2_ rfl, c_eIs (f := 2001) (c_gw g) m_a2_ rfl, true_and, Option.some.injEq, exists_eq_left', c_xm, c_xn, c_xs]
  refine um_X5_firstWaiting g _ a5_ _ _ m_a5_ h (fun r10_ S9_ h => ?_)
  refine ⟨_, rfl, ?_⟩
  try simp only [c_gk g m_a0 1 rfl, c_gk g m_a2_ 11 rfl, c_gk g m_a5_ 6 rfl, c_eD1 m_a0, c_eDs1 (c_gw g) m_a0, c_eI (f := 2001) m_a2_ rfl, c_eI (f := 2003) m_a2_ rfl, c_eI (f := 2004) m_a2_ rfl, c_eIs (f := 2001) (c_gw g) m_a2_ rfl, true_and, Option.some.injEq, exists_eq_left', c_xm, c_xn, c_xs]
  refine ⟨fun hc => ?_, fun hc => ?_⟩
  · have h := h.1 hc
    refine ⟨fun hc => ?_, fun hc => ?_⟩
    · have h := h.1 hc
      exact hQ _ _ h
    · have h := h.2 hc
      exact hQ _ _ h
  · have h := h.2 hc
    obtain ⟨a15_, e_a15_, m_a15_, h⟩ := h
    refine ⟨a15_, e_a15_, ?_⟩
    try simp only [c_gk g m_a0 1 rfl, c_gk g m_a2_ 11 rfl, c_gk g m_a5_ 6 rfl, c_gk g m_a15_ 6 rfl, c_eD1 m_a0, c_eDs1 (c_gw g) m_a0, c_eI (f := 2001) m_a2_ rfl, c_eI (f := 2003) m_a2_ rfl, c_eI (f := 2004) m_a2_ rfl, c_eIs (f := 2001) (c_gw g) m_a2_ rfl, true_and, Option.some.injEq, exists_eq_left', c_xm, c_xn, c_xs]
    refine um_X5_answerWaiter g _ a15_ r10_ _ m_a15_ h (fun S19_ h => ?_)
    refine ⟨rfl, ?_⟩
    try simp only [c_gk g m_a0 1 rfl, c_gk g m_a2_ 11 rfl, c_gk g m_a5_ 6 rfl, c_gk g m_a15_ 6 rfl, c_eD1 m_a0, c_eDs1 (c_gw g) m_a0, c_eI (f := 2001) m_a2_ rfl, c_eI (f := 2003) m_a2_ rfl, c_eI (f := 2004) m_a2_ rfl, c_eIs (f := 2001) (c_gw g) m_a2_ rfl, true_and, Option.some.injEq, exists_eq_left', c_xm, c_xn, c_xs]
    exact hQ _ _ h
def kb_X5_wakeAll_34 (L : c_L) (B2 : c_S → Nat → Int32 → Int32 → Prop) (S : c_S) (a0 : Nat) (x1 : Int32) (x2 : Int32) (Q : c_S → Prop) : Prop := B2 S a0 x1 (x2 + 1)
set_option maxRecDepth 100000 in
set_option maxHeartbeats 4000000 in
theorem ub_X5_wakeAll_34 {L : c_L} {T : q_S} (g : c_G L T) {OB2 : q_S → Nat → Int32 → Int32 → Prop} {B2 : c_S → Nat → Int32 → Int32 → Prop} (hB2 : ∀ (S1 : c_S) (a0 : Nat) (x1 : Int32) (x2 : Int32), c_mk L 5 a0 → B2 S1 a0 x1 x2 → OB2 (c_E L S1 T) (c_ob L 5 a0) x1 x2) (S : c_S) (a0 : Nat) (x1 : Int32) (x2 : Int32) (m_a0 : c_mk L 5 a0) {Q1 : c_S → Prop} {Q : Option Value → q_S → Prop} (h : kb_X5_wakeAll_34 L B2 S a0 x1 x2 Q1) (hQ : ∀ K : c_S, Q1 K → Q none (c_E L K T)) : wb_X5_wakeAll_34 OB2 (c_E L S T) (c_ob L 5 a0) x1 x2 Q := by
  unfold wb_X5_wakeAll_34
  unfold kb_X5_wakeAll_34 at h
  try simp only [c_gk g m_a0 6 rfl, true_and, Option.some.injEq, exists_eq_left', c_xm, c_xn, c_xs]
  exact hB2 _ a0 _ _ m_a0 h
def kb_X5_wakeAll_2 (L : c_L) (B2 : c_S → Nat → Int32 → Int32 → Prop) (S : c_S) (a0 : Nat) (x1 : Int32) (x2 : Int32) (Q : c_S → Prop) : Prop := ((c_I S 1004 a0) ≤ x2 → (Q S)) ∧ (¬ (c_I S 1004 a0) ≤ x2 → (vp_in x2 16 ∧ (∃ a7_ : Nat, (c_e7 L a0 x2.toNatClampNeg) = some a7_ ∧ (c_mk L 7 a7_ ∧ ((¬ (c_I S 1418 a7_) = x1 → (kb_X5_wakeAll_34 L B2 S a0 x1 x2 Q)) ∧ ((c_I S 1418 a7_) = x1 → (vp_in x2 16 ∧ (km_X5_answerWaiter L S a0 (c_e7 L a0 x2.toNatClampNeg) (0 : Int32) (fun S13_ => (kb_X5_wakeAll_34 L B2 S13_ a0 x1 x2 Q))))))))))
set_option maxRecDepth 100000 in
set_option maxHeartbeats 4000000 in
theorem ub_X5_wakeAll_2 {L : c_L} {T : q_S} (g : c_G L T) {OB2 : q_S → Nat → Int32 → Int32 → Prop} {B2 : c_S → Nat → Int32 → Int32 → Prop} (hB2 : ∀ (S1 : c_S) (a0 : Nat) (x1 : Int32) (x2 : Int32), c_mk L 5 a0 → B2 S1 a0 x1 x2 → OB2 (c_E L S1 T) (c_ob L 5 a0) x1 x2) (S : c_S) (a0 : Nat) (x1 : Int32) (x2 : Int32) (m_a0 : c_mk L 5 a0) {Q1 : c_S → Prop} {Q : Option Value → q_S → Prop} (h : kb_X5_wakeAll_2 L B2 S a0 x1 x2 Q1) (hQ : ∀ K : c_S, Q1 K → Q none (c_E L K T)) : wb_X5_wakeAll_2 OB2 (c_E L S T) (c_ob L 5 a0) x1 x2 Q := by
  unfold wb_X5_wakeAll_2
  unfold kb_X5_wakeAll_2 at h
  try simp only [c_gk g m_a0 6 rfl, c_eI (f := 1004) m_a0 rfl, true_and, Option.some.injEq, exists_eq_left', c_xm, c_xn, c_xs]
  refine ⟨fun hc => ?_, fun hc => ?_⟩
  · have h := h.1 hc
    exact hQ _ h
  · have h := h.2 hc
    have n1003_a0 := c_gA g 1003 rfl (by decide) m_a0
    try simp only [c_gk g m_a0 6 rfl, c_gr g n1003_a0 26 rfl, c_gN g n1003_a0 16 (by decide), c_g7 g m_a0, c_ga g 1003 rfl rfl (by decide) m_a0, c_eI (f := 1004) m_a0 rfl, true_and, Option.some.injEq, exists_eq_left', c_xm, c_xn, c_xs]
    refine ⟨h.1, ?_⟩
    have h := h.2
    obtain ⟨a7_, e_a7_, m_a7_, h⟩ := h
    refine ⟨a7_, e_a7_, ?_⟩
    try simp only [c_gk g m_a0 6 rfl, c_gk g m_a7_ 8 rfl, c_gr g n1003_a0 26 rfl, c_gN g n1003_a0 16 (by decide), c_g7 g m_a0, c_ga g 1003 rfl rfl (by decide) m_a0, c_eI (f := 1004) m_a0 rfl, c_eI (f := 1418) m_a7_ rfl, true_and, Option.some.injEq, exists_eq_left', c_xm, c_xn, c_xs]
    refine ⟨fun hc => ?_, fun hc => ?_⟩
    · have h := h.1 hc
      exact ub_X5_wakeAll_34 g hB2 _ a0 _ _ m_a0 h hQ
    · have h := h.2 hc
      refine ⟨h.1, ?_⟩
      have h := h.2
      refine um_X5_answerWaiter g _ a0 (c_e7 L a0 x2.toNatClampNeg) _ m_a0 h (fun S13_ h => ?_)
      refine ⟨rfl, ?_⟩
      try simp only [c_gk g m_a0 6 rfl, c_gk g m_a7_ 8 rfl, c_gr g n1003_a0 26 rfl, c_gN g n1003_a0 16 (by decide), c_g7 g m_a0, c_ga g 1003 rfl rfl (by decide) m_a0, c_eI (f := 1004) m_a0 rfl, c_eI (f := 1418) m_a7_ rfl, true_and, Option.some.injEq, exists_eq_left', c_xm, c_xn, c_xs]
      exact ub_X5_wakeAll_34 g hB2 _ a0 _ _ m_a0 h hQ
def kl_X5_wakeAll_2 (L : c_L)  : Nat → c_S → Nat → Int32 → Int32 → (c_S → Prop) → Prop
  | 0, _, _, _, _, _ => False
  | n + 1, S, a0, x1, x2, Q => kb_X5_wakeAll_2 L (fun S a0 x1 x2 => kl_X5_wakeAll_2 L n S a0 x1 x2 Q) S a0 x1 x2 Q
theorem ul_X5_wakeAll_2 {L : c_L} {T : q_S} (g : c_G L T) (n : Nat) (S : c_S) (a0 : Nat) (x1 : Int32) (x2 : Int32) (m_a0 : c_mk L 5 a0) {Q1 : c_S → Prop} {Q : Option Value → q_S → Prop} (h : kl_X5_wakeAll_2 L  n S a0 x1 x2 Q1) (hQ : ∀ K : c_S, Q1 K → Q none (c_E L K T)) : wl_X5_wakeAll_2  n (c_E L S T) (c_ob L 5 a0) x1 x2 Q := by
  induction n generalizing S a0 x1 x2 with
  | zero => exact h.elim
  | succ n ih => exact ub_X5_wakeAll_2 g (fun u0 u1 u2 u3 w0 h => ih u0 u1 u2 u3 w0 h) S a0 x1 x2 m_a0 h hQ
def km_X5_wakeAll (L : c_L) (S : c_S) (a0 : Nat) (x1 : Int32) (Q : c_S → Prop) : Prop := ∃ n14_ : Nat, kl_X5_wakeAll_2 L n14_ S a0 x1 (0 : Int32) Q
set_option maxRecDepth 100000 in
set_option maxHeartbeats 4000000 in
theorem um_X5_wakeAll {L : c_L} {T : q_S} (g : c_G L T) (S : c_S) (a0 : Nat) (x1 : Int32) (m_a0 : c_mk L 5 a0) {Q1 : c_S → Prop} {Q : Option Value → q_S → Prop} (h : km_X5_wakeAll L  S a0 x1 Q1) (hQ : ∀ K : c_S, Q1 K → Q none (c_E L K T)) : wm_X5_wakeAll  (c_E L S T) (c_ob L 5 a0) x1 Q := by
  unfold wm_X5_wakeAll
  unfold km_X5_wakeAll at h
  try simp only [c_gk g m_a0 6 rfl, true_and, Option.some.injEq, exists_eq_left', c_xm, c_xn, c_xs]
  obtain ⟨n14_, h⟩ := h
  refine ⟨n14_, ?_⟩
  exact ul_X5_wakeAll_2 g n14_ _ a0 _ _ m_a0 h hQ
def kb_X0_ofSignals_135 (L : c_L) (S : c_S) (xs0 : Int32) (Q : Int32 → c_S → Prop) : Prop := Q xs0 S
set_option maxRecDepth 100000 in
set_option maxHeartbeats 4000000 in
theorem ub_X0_ofSignals_135 {L : c_L} {T : q_S} (g : c_G L T) (S : c_S) (xs0 : Int32)  {Q1 : Int32 → c_S → Prop} {Q : Option Value → q_S → Prop} (h : kb_X0_ofSignals_135 L  S xs0 Q1) (hQ : ∀ (v : Int32) (K : c_S), Q1 v K → Q (some (.int v)) (c_E L K T)) : wb_X0_ofSignals_135  (c_E L S T) xs0 Q := by
  unfold wb_X0_ofSignals_135
  unfold kb_X0_ofSignals_135 at h
  try simp only [true_and, Option.some.injEq, exists_eq_left', c_xm, c_xn, c_xs]
  exact hQ _ _ h
def kb_X0_ofSignals_15 (L : c_L) (S : c_S) (a0 : Nat) (x1 : Int32) (x2 : Int32) (x3 : Int32) (rs0 : Option Nat) (xs1 : Int32) (Q : Int32 → c_S → Prop) : Prop := ∃ a1_ : Nat, rs0 = some a1_ ∧ (c_mk L 5 a1_ ∧ (km_X5_thingAt L S a1_ xs1 x2 (fun r6_ S5_ => ((¬ r6_ = none → ((x1.toInt < 8 ∨ 11 < x1.toInt → (km_X0_isNoTime L S5_ a0 x3 (fun x11_ S10_ => ((x11_ = 0 → (∃ a13_ : Nat, r6_ = some a13_ ∧ (c_mk L 10 a13_ ∧ (((c_I S10_ 2001 a13_) = 0 → (km_X0_waitFor L S10_ a0 ((8 : Int32) + x2) x3 (fun x20_ S19_ => (kb_X0_ofSignals_135 L S19_ x20_ Q)))) ∧ (¬ (c_I S10_ 2001 a13_) = 0 → (kb_X0_ofSignals_135 L S10_ (0 : Int32) Q)))))) ∧ (¬ x11_ = 0 → (Q (1 : Int32) S10_)))))) ∧ (x1 = (8 : Int32) → (km_X0_takeSemaphore L S5_ a0 r6_ x2 x3 (fun x24_ S23_ => (Q x24_ S23_)))) ∧ (x1 = (9 : Int32) → (km_X0_giveSemaphore L S5_ a0 r6_ x2 (fun x28_ S27_ => (Q x28_ S27_)))) ∧ (x1 = (10 : Int32) → (∃ a29_ : Nat, r6_ = some a29_ ∧ (c_mk L 10 a29_ ∧ (∃ a33_ : Nat, (c_P (cs_I S5_ 2001 a29_ (1 : Int32)) 1 a0) = some a33_ ∧ (c_mk L 5 a33_ ∧ (km_X5_wakeAll L (cs_I S5_ 2001 a29_ (1 : Int32)) a33_ ((8 : Int32) + x2) (fun S37_ => (Q (0 : Int32) S37_)))))))) ∧ (x1 = (11 : Int32) → (∃ a38_ : Nat, r6_ = some a38_ ∧ (c_mk L 10 a38_ ∧ (Q (0 : Int32) (cs_I S5_ 2001 a38_ (0 : Int32)))))))) ∧ (r6_ = none → (Q (1 : Int32) S5_))))))
set_option maxRecDepth 100000 in
set_option maxHeartbeats 4000000 in
theorem ub_X0_ofSignals_15 {L : c_L} {T : q_S} (g : c_G L T) (S : c_S) (a0 : Nat) (x1 : Int32) (x2 : Int32) (x3 : Int32) (rs0 : Option Nat) (xs1 : Int32) (m_a0 : c_mk L 0 a0) {Q1 : Int32 → c_S → Prop} {Q : Option Value → q_S → Prop} (h : kb_X0_ofSignals_15 L  S a0 x1 x2 x3 rs0 xs1 Q1) (hQ : ∀ (v : Int32) (K : c_S), Q1 v K → Q (some (.int v)) (c_E L K T)) : wb_X0_ofSignals_15  (c_E L S T) (c_ob L 0 a0) x1 x2 x3 (rs0.map (c_ob L 5)) xs1 Q := by
  unfold wb_X0_ofSignals_15
  unfold kb_X0_ofSignals_15 at h
  try simp only [c_gk g m_a0 1 rfl, c_eD1 m_a0, c_eDs1 (c_gw g) m_a0, true_and, Option.some.injEq, exists_eq_left', c_xm, c_xn, c_xs]
  obtain ⟨a1_, e_a1_, m_a1_, h⟩ := h
  refine ⟨a1_, e_a1_, ?_⟩
  try simp only [c_gk g m_a0 1 rfl, c_gk g m_a1_ 6 rfl, c_eD1 m_a0, c_eDs1 (c_gw g) m_a0, true_and, Option.some.injEq, exists_eq_left', c_xm, c_xn, c_xs]
  refine um_X5_thingAt g _ a1_ _ _ m_a1_ h (fun r6_ S5_ h => ?_)
  refine ⟨_, rfl, ?_⟩
  try simp only [c_gk g m_a0 1 rfl, c_gk g m_a1_ 6 rfl, c_eD1 m_a0, c_eDs1 (c_gw g) m_a0, true_and, Option.some.injEq, exists_eq_left', c_xm, c_xn, c_xs]
  refine ⟨fun hc => ?_, fun hc => ?_⟩
  · have h := h.1 hc
    refine ⟨fun hc => ?_, fun hc => ?_, fun hc => ?_, fun hc => ?_, fun hc => ?_⟩
    · have h := h.1 hc
      refine um_X0_isNoTime g _ a0 _ m_a0 h (fun x11_ S10_ h => ?_)
      refine ⟨_, rfl, ?_⟩
      try simp only [c_gk g m_a0 1 rfl, c_gk g m_a1_ 6 rfl, c_eD1 m_a0, c_eDs1 (c_gw g) m_a0, true_and, Option.some.injEq, exists_eq_left', c_xm, c_xn, c_xs]
      refine ⟨fun hc => ?_, fun hc => ?_⟩
      · have h := h.1 hc
        obtain ⟨a13_, e_a13_, m_a13_, h⟩ := h
        refine ⟨a13_, e_a13_, ?_⟩
        try simp only [c_gk g m_a0 1 rfl, c_gk g m_a1_ 6 rfl, c_gk g m_a13_ 11 rfl, c_eD1 m_a0, c_eDs1 (c_gw g) m_a0, c_eI (f := 2001) m_a13_ rfl, c_eIs (f := 2001) (c_gw g) m_a13_ rfl, true_and, Option.some.injEq, exists_eq_left', c_xm, c_xn, c_xs]
        refine ⟨fun hc => ?_, fun hc => ?_⟩
        · have h := h.1 hc
          refine um_X0_waitFor g _ a0 _ _ m_a0 h (fun x20_ S19_ h => ?_)
          refine ⟨_, rfl, ?_⟩
          try simp only [c_gk g m_a0 1 rfl, c_gk g m_a1_ 6 rfl, c_gk g m_a13_ 11 rfl, c_eD1 m_a0, c_eDs1 (c_gw g) m_a0, c_eI (f := 2001) m_a13_ rfl, c_eIs (f := 2001) (c_gw g) m_a13_ rfl, true_and, Option.some.injEq, exists_eq_left', c_xm, c_xn, c_xs]
          exact ub_X0_ofSignals_135 g _ _  h hQ
        · have h := h.2 hc
          exact ub_X0_ofSignals_135 g _ _  h hQ
      · have h := h.2 hc
        exact hQ _ _ h
    · have h := h.2.1 hc
      refine um_X0_takeSemaphore g _ a0 r6_ _ _ m_a0 h (fun x24_ S23_ h => ?_)
      refine ⟨_, rfl, ?_⟩
      try simp only [c_gk g m_a0 1 rfl, c_gk g m_a1_ 6 rfl, c_eD1 m_a0, c_eDs1 (c_gw g) m_a0, true_and, Option.some.injEq, exists_eq_left', c_xm, c_xn, c_xs]
      exact hQ _ _ h
    · have h := h.2.2.1 hc
      refine um_X0_giveSemaphore g _ a0 r6_ _ m_a0 h (fun x28_ S27_ h => ?_)
      refine ⟨_, rfl, ?_⟩
      try simp only [c_gk g m_a0 1 rfl, c_gk g m_a1_ 6 rfl, c_eD1 m_a0, c_eDs1 (c_gw g) m_a0, true_and, Option.some.injEq, exists_eq_left', c_xm, c_xn, c_xs]
      exact hQ _ _ h
    · have h := h.2.2.2.1 hc
      obtain ⟨a29_, e_a29_, m_a29_, h⟩ := h
      refine ⟨a29_, e_a29_, ?_⟩
      try simp only [c_gk g m_a0 1 rfl, c_gk g m_a1_ 6 rfl, c_gk g m_a29_ 11 rfl, c_eD1 m_a0, c_eDs1 (c_gw g) m_a0, c_eI (f := 2001) m_a29_ rfl, c_eIs (f := 2001) (c_gw g) m_a29_ rfl, true_and, Option.some.injEq, exists_eq_left', c_xm, c_xn, c_xs]
      obtain ⟨a33_, e_a33_, m_a33_, h⟩ := h
      refine ⟨a33_, e_a33_, ?_⟩
      try simp only [c_gk g m_a0 1 rfl, c_gk g m_a1_ 6 rfl, c_gk g m_a29_ 11 rfl, c_gk g m_a33_ 6 rfl, c_eD1 m_a0, c_eDs1 (c_gw g) m_a0, c_eI (f := 2001) m_a29_ rfl, c_eIs (f := 2001) (c_gw g) m_a29_ rfl, true_and, Option.some.injEq, exists_eq_left', c_xm, c_xn, c_xs]
      refine um_X5_wakeAll g _ a33_ _ m_a33_ h (fun S37_ h => ?_)
      refine ⟨rfl, ?_⟩
      try simp only [c_gk g m_a0 1 rfl, c_gk g m_a1_ 6 rfl, c_gk g m_a29_ 11 rfl, c_gk g m_a33_ 6 rfl, c_eD1 m_a0, c_eDs1 (c_gw g) m_a0, c_eI (f := 2001) m_a29_ rfl, c_eIs (f := 2001) (c_gw g) m_a29_ rfl, true_and, Option.some.injEq, exists_eq_left', c_xm, c_xn, c_xs]
      exact hQ _ _ h
    · have h := h.2.2.2.2 hc
      obtain ⟨a38_, e_a38_, m_a38_, h⟩ := h
      refine ⟨a38_, e_a38_, ?_⟩
      try simp only [c_gk g m_a0 1 rfl, c_gk g m_a1_ 6 rfl, c_gk g m_a38_ 11 rfl, c_eD1 m_a0, c_eDs1 (c_gw g) m_a0, c_eI (f := 2001) m_a38_ rfl, c_eIs (f := 2001) (c_gw g) m_a38_ rfl, true_and, Option.some.injEq, exists_eq_left', c_xm, c_xn, c_xs]
      exact hQ _ _ h
  · have h := h.2 hc
    exact hQ _ _ h
def km_X0_ofSignals (L : c_L) (S : c_S) (a0 : Nat) (x1 : Int32) (x2 : Int32) (x3 : Int32) (Q : Int32 → c_S → Prop) : Prop := ((9 : Int32) < x1 → (kb_X0_ofSignals_15 L S a0 x1 x2 x3 (c_P S 1 a0) (1 : Int32) Q)) ∧ (¬ (9 : Int32) < x1 → (kb_X0_ofSignals_15 L S a0 x1 x2 x3 (c_P S 1 a0) (0 : Int32) Q))
set_option maxRecDepth 100000 in
set_option maxHeartbeats 4000000 in
theorem um_X0_ofSignals {L : c_L} {T : q_S} (g : c_G L T) (S : c_S) (a0 : Nat) (x1 : Int32) (x2 : Int32) (x3 : Int32) (m_a0 : c_mk L 0 a0) {Q1 : Int32 → c_S → Prop} {Q : Option Value → q_S → Prop} (h : km_X0_ofSignals L  S a0 x1 x2 x3 Q1) (hQ : ∀ (v : Int32) (K : c_S), Q1 v K → Q (some (.int v)) (c_E L K T)) : wm_X0_ofSignals  (c_E L S T) (c_ob L 0 a0) x1 x2 x3 Q := by
  unfold wm_X0_ofSignals
  unfold km_X0_ofSignals at h
  try simp only [c_gk g m_a0 1 rfl, c_eD1 m_a0, c_eDs1 (c_gw g) m_a0, true_and, Option.some.injEq, exists_eq_left', c_xm, c_xn, c_xs]
  refine ⟨fun hc => ?_, fun hc => ?_⟩
  · have h := h.1 hc
    exact ub_X0_ofSignals_15 g _ a0 _ _ _ (c_P S 1 a0) _ m_a0 h hQ
  · have h := h.2 hc
    exact ub_X0_ofSignals_15 g _ a0 _ _ _ (c_P S 1 a0) _ m_a0 h hQ
def km_X5_giveTaker (L : c_L) (S : c_S) (a0 : Nat) (x1 : Int32) (x2 : Int32) (x3 : Int32) (Q : Int32 → c_S → Prop) : Prop := km_X5_firstWaiting L S a0 x1 x2 (fun r4_ S3_ => ((¬ r4_ = none → (km_X5_answerWaiter L S3_ a0 r4_ (0 : Int32) (fun S8_ => (∃ a9_ : Nat, r4_ = some a9_ ∧ (c_mk L 7 a9_ ∧ (vp_in (11 : Int32) 32 ∧ (Q (1 : Int32) (cs_A S8_ 1411 a9_ (11 : Int32).toNatClampNeg x3)))))))) ∧ (r4_ = none → (Q (0 : Int32) S3_))))
set_option maxRecDepth 100000 in
set_option maxHeartbeats 4000000 in
theorem um_X5_giveTaker {L : c_L} {T : q_S} (g : c_G L T) (S : c_S) (a0 : Nat) (x1 : Int32) (x2 : Int32) (x3 : Int32) (m_a0 : c_mk L 5 a0) {Q1 : Int32 → c_S → Prop} {Q : Option Value → q_S → Prop} (h : km_X5_giveTaker L  S a0 x1 x2 x3 Q1) (hQ : ∀ (v : Int32) (K : c_S), Q1 v K → Q (some (.int v)) (c_E L K T)) : wm_X5_giveTaker  (c_E L S T) (c_ob L 5 a0) x1 x2 x3 Q := by
  unfold wm_X5_giveTaker
  unfold km_X5_giveTaker at h
  try simp only [c_gk g m_a0 6 rfl, true_and, Option.some.injEq, exists_eq_left', c_xm, c_xn, c_xs]
  refine um_X5_firstWaiting g _ a0 _ _ m_a0 h (fun r4_ S3_ h => ?_)
  refine ⟨_, rfl, ?_⟩
  try simp only [c_gk g m_a0 6 rfl, true_and, Option.some.injEq, exists_eq_left', c_xm, c_xn, c_xs]
  refine ⟨fun hc => ?_, fun hc => ?_⟩
  · have h := h.1 hc
    refine um_X5_answerWaiter g _ a0 r4_ _ m_a0 h (fun S8_ h => ?_)
    refine ⟨rfl, ?_⟩
    try simp only [c_gk g m_a0 6 rfl, true_and, Option.some.injEq, exists_eq_left', c_xm, c_xn, c_xs]
    obtain ⟨a9_, e_a9_, m_a9_, h⟩ := h
    refine ⟨a9_, e_a9_, ?_⟩
    try simp only [c_gk g m_a0 6 rfl, c_gk g m_a9_ 8 rfl, true_and, Option.some.injEq, exists_eq_left', c_xm, c_xn, c_xs]
    have n1411_a9_ := c_gA g 1411 rfl (by decide) m_a9_
    try simp only [c_gk g m_a0 6 rfl, c_gk g m_a9_ 8 rfl, c_gr g n1411_a9_ 21 rfl, c_gN g n1411_a9_ 32 (by decide), c_eA n1411_a9_, c_eAs (c_gw g) n1411_a9_, c_ga g 1411 rfl rfl (by decide) m_a9_, true_and, Option.some.injEq, exists_eq_left', c_xm, c_xn, c_xs]
    refine ⟨h.1, ?_⟩
    have h := h.2
    exact hQ _ _ h
  · have h := h.2 hc
    exact hQ _ _ h
def kb_X8_indexOf_25 (L : c_L) (S : c_S) (xs0 : Int32) (Q : Int32 → c_S → Prop) : Prop := Q xs0 S
set_option maxRecDepth 100000 in
set_option maxHeartbeats 4000000 in
theorem ub_X8_indexOf_25 {L : c_L} {T : q_S} (g : c_G L T) (S : c_S) (xs0 : Int32)  {Q1 : Int32 → c_S → Prop} {Q : Option Value → q_S → Prop} (h : kb_X8_indexOf_25 L  S xs0 Q1) (hQ : ∀ (v : Int32) (K : c_S), Q1 v K → Q (some (.int v)) (c_E L K T)) : wb_X8_indexOf_25  (c_E L S T) xs0 Q := by
  unfold wb_X8_indexOf_25
  unfold kb_X8_indexOf_25 at h
  try simp only [true_and, Option.some.injEq, exists_eq_left', c_xm, c_xn, c_xs]
  exact hQ _ _ h
def km_X8_indexOf (L : c_L) (S : c_S) (a0 : Nat) (x1 : Int32) (Q : Int32 → c_S → Prop) : Prop := (((c_I S 1602 a0) + x1) < (c_I S 1601 a0) → (kb_X8_indexOf_25 L S ((c_I S 1602 a0) + x1) Q)) ∧ (¬ ((c_I S 1602 a0) + x1) < (c_I S 1601 a0) → (kb_X8_indexOf_25 L S (((c_I S 1602 a0) + x1) - (c_I S 1601 a0)) Q))
set_option maxRecDepth 100000 in
set_option maxHeartbeats 4000000 in
theorem um_X8_indexOf {L : c_L} {T : q_S} (g : c_G L T) (S : c_S) (a0 : Nat) (x1 : Int32) (m_a0 : c_mk L 8 a0) {Q1 : Int32 → c_S → Prop} {Q : Option Value → q_S → Prop} (h : km_X8_indexOf L  S a0 x1 Q1) (hQ : ∀ (v : Int32) (K : c_S), Q1 v K → Q (some (.int v)) (c_E L K T)) : wm_X8_indexOf  (c_E L S T) (c_ob L 8 a0) x1 Q := by
  unfold wm_X8_indexOf
  unfold km_X8_indexOf at h
  try simp only [c_gk g m_a0 9 rfl, c_eI (f := 1601) m_a0 rfl, c_eI (f := 1602) m_a0 rfl, true_and, Option.some.injEq, exists_eq_left', c_xm, c_xn, c_xs]
  refine ⟨fun hc => ?_, fun hc => ?_⟩
  · have h := h.1 hc
    exact ub_X8_indexOf_25 g _ _  h hQ
  · have h := h.2 hc
    exact ub_X8_indexOf_25 g _ _  h hQ
def km_X8_add (L : c_L) (S : c_S) (a0 : Nat) (x1 : Int32) (Q : Int32 → c_S → Prop) : Prop := ((c_I S 1603 a0) < (c_I S 1601 a0) → (km_X8_indexOf L S a0 (c_I S 1603 a0) (fun x5_ S4_ => (vp_in x5_ (c_ln L 1600 a0) ∧ (∀ S11_ : c_S, S11_ = (cs_I (cs_A S4_ 1600 a0 x5_.toNatClampNeg x1) 1603 a0 ((c_I (cs_A S4_ 1600 a0 x5_.toNatClampNeg x1) 1603 a0) + (1 : Int32))) → (Q (1 : Int32) S11_)))))) ∧ (¬ (c_I S 1603 a0) < (c_I S 1601 a0) → (Q (0 : Int32) S))
set_option maxRecDepth 100000 in
set_option maxHeartbeats 4000000 in
theorem um_X8_add {L : c_L} {T : q_S} (g : c_G L T) (S : c_S) (a0 : Nat) (x1 : Int32) (m_a0 : c_mk L 8 a0) {Q1 : Int32 → c_S → Prop} {Q : Option Value → q_S → Prop} (h : km_X8_add L  S a0 x1 Q1) (hQ : ∀ (v : Int32) (K : c_S), Q1 v K → Q (some (.int v)) (c_E L K T)) : wm_X8_add  (c_E L S T) (c_ob L 8 a0) x1 Q := by
  unfold wm_X8_add
  unfold km_X8_add at h
  try simp only [c_gk g m_a0 9 rfl, c_eI (f := 1601) m_a0 rfl, c_eI (f := 1603) m_a0 rfl, c_eIs (f := 1603) (c_gw g) m_a0 rfl, true_and, Option.some.injEq, exists_eq_left', c_xm, c_xn, c_xs]
  refine ⟨fun hc => ?_, fun hc => ?_⟩
  · have h := h.1 hc
    refine um_X8_indexOf g _ a0 _ m_a0 h (fun x5_ S4_ h => ?_)
    refine ⟨_, rfl, ?_⟩
    try simp only [c_gk g m_a0 9 rfl, c_eI (f := 1601) m_a0 rfl, c_eI (f := 1603) m_a0 rfl, c_eIs (f := 1603) (c_gw g) m_a0 rfl, true_and, Option.some.injEq, exists_eq_left', c_xm, c_xn, c_xs]
    have n1600_a0 := c_gA g 1600 rfl (by decide) m_a0
    try simp only [c_gk g m_a0 9 rfl, c_gr g n1600_a0 21 rfl, c_gn g n1600_a0, c_eA n1600_a0, c_eAs (c_gw g) n1600_a0, c_ga g 1600 rfl rfl (by decide) m_a0, c_eI (f := 1601) m_a0 rfl, c_eI (f := 1603) m_a0 rfl, c_eIs (f := 1603) (c_gw g) m_a0 rfl, true_and, Option.some.injEq, exists_eq_left', c_xm, c_xn, c_xs]
    refine ⟨h.1, ?_⟩
    have h := h.2
    refine fun S11_ e_S11_ => ?_
    have h := h S11_ e_S11_
    exact hQ _ _ h
  · have h := h.2 hc
    exact hQ _ _ h
def kb_X0_waitWith_25 (L : c_L) (S : c_S) (x4 : Int32) (Q : Int32 → c_S → Prop) : Prop := Q x4 S
set_option maxRecDepth 100000 in
set_option maxHeartbeats 4000000 in
theorem ub_X0_waitWith_25 {L : c_L} {T : q_S} (g : c_G L T) (S : c_S) (x4 : Int32)  {Q1 : Int32 → c_S → Prop} {Q : Option Value → q_S → Prop} (h : kb_X0_waitWith_25 L  S x4 Q1) (hQ : ∀ (v : Int32) (K : c_S), Q1 v K → Q (some (.int v)) (c_E L K T)) : wb_X0_waitWith_25  (c_E L S T) x4 Q := by
  unfold wb_X0_waitWith_25
  unfold kb_X0_waitWith_25 at h
  try simp only [true_and, Option.some.injEq, exists_eq_left', c_xm, c_xn, c_xs]
  exact hQ _ _ h
def km_X0_waitWith (L : c_L) (S : c_S) (a0 : Nat) (x1 : Int32) (x2 : Int32) (x3 : Int32) (Q : Int32 → c_S → Prop) : Prop := km_X0_waitFor L S a0 ((64 : Int32) + x1) x3 (fun x4_ S3_ => ((¬ x4_ = (-1 : Int32) → (kb_X0_waitWith_25 L S3_ x4_ Q)) ∧ (x4_ = (-1 : Int32) → (∃ a7_ : Nat, (c_P S3_ 2 a0) = some a7_ ∧ (c_mk L 7 a7_ ∧ (kb_X0_waitWith_25 L (cs_I S3_ 1419 a7_ x2) x4_ Q))))))
set_option maxRecDepth 100000 in
set_option maxHeartbeats 4000000 in
theorem um_X0_waitWith {L : c_L} {T : q_S} (g : c_G L T) (S : c_S) (a0 : Nat) (x1 : Int32) (x2 : Int32) (x3 : Int32) (m_a0 : c_mk L 0 a0) {Q1 : Int32 → c_S → Prop} {Q : Option Value → q_S → Prop} (h : km_X0_waitWith L  S a0 x1 x2 x3 Q1) (hQ : ∀ (v : Int32) (K : c_S), Q1 v K → Q (some (.int v)) (c_E L K T)) : wm_X0_waitWith  (c_E L S T) (c_ob L 0 a0) x1 x2 x3 Q := by
  unfold wm_X0_waitWith
  unfold km_X0_waitWith at h
  try simp only [c_gk g m_a0 1 rfl, c_eD2 m_a0, c_eDs2 (c_gw g) m_a0, true_and, Option.some.injEq, exists_eq_left', c_xm, c_xn, c_xs]
  refine um_X0_waitFor g _ a0 _ _ m_a0 h (fun x4_ S3_ h => ?_)
  refine ⟨_, rfl, ?_⟩
  try simp only [c_gk g m_a0 1 rfl, c_eD2 m_a0, c_eDs2 (c_gw g) m_a0, true_and, Option.some.injEq, exists_eq_left', c_xm, c_xn, c_xs]
  refine ⟨fun hc => ?_, fun hc => ?_⟩
  · have h := h.1 hc
    exact ub_X0_waitWith_25 g _ _  h hQ
  · have h := h.2 hc
    obtain ⟨a7_, e_a7_, m_a7_, h⟩ := h
    refine ⟨a7_, e_a7_, ?_⟩
    try simp only [c_gk g m_a0 1 rfl, c_gk g m_a7_ 8 rfl, c_eD2 m_a0, c_eDs2 (c_gw g) m_a0, c_eIs (f := 1419) (c_gw g) m_a7_ rfl, true_and, Option.some.injEq, exists_eq_left', c_xm, c_xn, c_xs]
    exact ub_X0_waitWith_25 g _ _  h hQ
def kb_X0_putIntoBuffer_45 (L : c_L) (S : c_S) (Q : Int32 → c_S → Prop) : Prop := Q (0 : Int32) S
set_option maxRecDepth 100000 in
set_option maxHeartbeats 4000000 in
theorem ub_X0_putIntoBuffer_45 {L : c_L} {T : q_S} (g : c_G L T) (S : c_S)  {Q1 : Int32 → c_S → Prop} {Q : Option Value → q_S → Prop} (h : kb_X0_putIntoBuffer_45 L  S Q1) (hQ : ∀ (v : Int32) (K : c_S), Q1 v K → Q (some (.int v)) (c_E L K T)) : wb_X0_putIntoBuffer_45  (c_E L S T) Q := by
  unfold wb_X0_putIntoBuffer_45
  unfold kb_X0_putIntoBuffer_45 at h
  try simp only [true_and, Option.some.injEq, exists_eq_left', c_xm, c_xn, c_xs]
  exact hQ _ _ h
def kb_X0_putIntoBuffer_47 (L : c_L) (S : c_S) (a0 : Nat) (x2 : Int32) (x3 : Int32) (x4 : Int32) (Q : Int32 → c_S → Prop) : Prop := km_X0_waitWith L S a0 x2 x3 x4 (fun x4_ S3_ => (Q x4_ S3_))
set_option maxRecDepth 100000 in
set_option maxHeartbeats 4000000 in
theorem ub_X0_putIntoBuffer_47 {L : c_L} {T : q_S} (g : c_G L T) (S : c_S) (a0 : Nat) (x2 : Int32) (x3 : Int32) (x4 : Int32) (m_a0 : c_mk L 0 a0) {Q1 : Int32 → c_S → Prop} {Q : Option Value → q_S → Prop} (h : kb_X0_putIntoBuffer_47 L  S a0 x2 x3 x4 Q1) (hQ : ∀ (v : Int32) (K : c_S), Q1 v K → Q (some (.int v)) (c_E L K T)) : wb_X0_putIntoBuffer_47  (c_E L S T) (c_ob L 0 a0) x2 x3 x4 Q := by
  unfold wb_X0_putIntoBuffer_47
  unfold kb_X0_putIntoBuffer_47 at h
  try simp only [c_gk g m_a0 1 rfl, true_and, Option.some.injEq, exists_eq_left', c_xm, c_xn, c_xs]
  refine um_X0_waitWith g _ a0 _ _ _ m_a0 h (fun x4_ S3_ h => ?_)
  refine ⟨_, rfl, ?_⟩
  try simp only [c_gk g m_a0 1 rfl, true_and, Option.some.injEq, exists_eq_left', c_xm, c_xn, c_xs]
  exact hQ _ _ h
def km_X0_putIntoBuffer (L : c_L) (S : c_S) (a0 : Nat) (r1 : Option Nat) (x2 : Int32) (x3 : Int32) (x4 : Int32) (Q : Int32 → c_S → Prop) : Prop := km_X0_isNoTime L S a0 x4 (fun x8_ S7_ => ((x8_ = 0 → (∃ a11_ : Nat, r1 = some a11_ ∧ (c_mk L 10 a11_ ∧ (∃ a14_ : Nat, (c_P S7_ 1 a0) = some a14_ ∧ (c_mk L 5 a14_ ∧ (km_X5_giveTaker L S7_ a14_ x2 (c_I S7_ 2004 a11_) x3 (fun x19_ S18_ => ((¬ x19_ = 0 → (kb_X0_putIntoBuffer_45 L S18_ Q)) ∧ (x19_ = 0 → (((c_qu a11_) = none → (kb_X0_putIntoBuffer_47 L S18_ a0 x2 x3 x4 Q)) ∧ (¬ (c_qu a11_) = none → (∃ a23_ : Nat, (c_qu a11_) = some a23_ ∧ (c_mk L 8 a23_ ∧ (km_X8_add L S18_ a23_ x3 (fun x28_ S27_ => ((x28_ = 0 → (kb_X0_putIntoBuffer_47 L S27_ a0 x2 x3 x4 Q)) ∧ (¬ x28_ = 0 → (kb_X0_putIntoBuffer_45 L S27_ Q)))))))))))))))))) ∧ (¬ x8_ = 0 → (Q (1 : Int32) S7_))))
set_option maxRecDepth 100000 in
set_option maxHeartbeats 4000000 in
theorem um_X0_putIntoBuffer {L : c_L} {T : q_S} (g : c_G L T) (S : c_S) (a0 : Nat) (r1 : Option Nat) (x2 : Int32) (x3 : Int32) (x4 : Int32) (m_a0 : c_mk L 0 a0) {Q1 : Int32 → c_S → Prop} {Q : Option Value → q_S → Prop} (h : km_X0_putIntoBuffer L  S a0 r1 x2 x3 x4 Q1) (hQ : ∀ (v : Int32) (K : c_S), Q1 v K → Q (some (.int v)) (c_E L K T)) : wm_X0_putIntoBuffer  (c_E L S T) (c_ob L 0 a0) (r1.map (c_ob L 10)) x2 x3 x4 Q := by
  unfold wm_X0_putIntoBuffer
  unfold km_X0_putIntoBuffer at h
  try simp only [c_gk g m_a0 1 rfl, c_eD1 m_a0, c_eDs1 (c_gw g) m_a0, true_and, Option.some.injEq, exists_eq_left', c_xm, c_xn, c_xs]
  refine um_X0_isNoTime g _ a0 _ m_a0 h (fun x8_ S7_ h => ?_)
  refine ⟨_, rfl, ?_⟩
  try simp only [c_gk g m_a0 1 rfl, c_eD1 m_a0, c_eDs1 (c_gw g) m_a0, true_and, Option.some.injEq, exists_eq_left', c_xm, c_xn, c_xs]
  refine ⟨fun hc => ?_, fun hc => ?_⟩
  · have h := h.1 hc
    obtain ⟨a11_, e_a11_, m_a11_, h⟩ := h
    refine ⟨a11_, e_a11_, ?_⟩
    try simp only [c_gk g m_a0 1 rfl, c_gk g m_a11_ 11 rfl, c_eD1 m_a0, c_eDs1 (c_gw g) m_a0, c_eI (f := 2004) m_a11_ rfl, c_gu g m_a11_, true_and, Option.some.injEq, exists_eq_left', c_xm, c_xn, c_xs]
    obtain ⟨a14_, e_a14_, m_a14_, h⟩ := h
    refine ⟨a14_, e_a14_, ?_⟩
    try simp only [c_gk g m_a0 1 rfl, c_gk g m_a11_ 11 rfl, c_gk g m_a14_ 6 rfl, c_eD1 m_a0, c_eDs1 (c_gw g) m_a0, c_eI (f := 2004) m_a11_ rfl, c_gu g m_a11_, true_and, Option.some.injEq, exists_eq_left', c_xm, c_xn, c_xs]
    refine um_X5_giveTaker g _ a14_ _ _ _ m_a14_ h (fun x19_ S18_ h => ?_)
    refine ⟨_, rfl, ?_⟩
    try simp only [c_gk g m_a0 1 rfl, c_gk g m_a11_ 11 rfl, c_gk g m_a14_ 6 rfl, c_eD1 m_a0, c_eDs1 (c_gw g) m_a0, c_eI (f := 2004) m_a11_ rfl, c_gu g m_a11_, true_and, Option.some.injEq, exists_eq_left', c_xm, c_xn, c_xs]
    refine ⟨fun hc => ?_, fun hc => ?_⟩
    · have h := h.1 hc
      exact ub_X0_putIntoBuffer_45 g _  h hQ
    · have h := h.2 hc
      refine ⟨fun hc => ?_, fun hc => ?_⟩
      · have h := h.1 hc
        exact ub_X0_putIntoBuffer_47 g _ a0 _ _ _ m_a0 h hQ
      · have h := h.2 hc
        obtain ⟨a23_, e_a23_, m_a23_, h⟩ := h
        refine ⟨a23_, e_a23_, ?_⟩
        try simp only [c_gk g m_a0 1 rfl, c_gk g m_a11_ 11 rfl, c_gk g m_a14_ 6 rfl, c_gk g m_a23_ 9 rfl, c_eD1 m_a0, c_eDs1 (c_gw g) m_a0, c_eI (f := 2004) m_a11_ rfl, c_gu g m_a11_, true_and, Option.some.injEq, exists_eq_left', c_xm, c_xn, c_xs]
        refine um_X8_add g _ a23_ _ m_a23_ h (fun x28_ S27_ h => ?_)
        refine ⟨_, rfl, ?_⟩
        try simp only [c_gk g m_a0 1 rfl, c_gk g m_a11_ 11 rfl, c_gk g m_a14_ 6 rfl, c_gk g m_a23_ 9 rfl, c_eD1 m_a0, c_eDs1 (c_gw g) m_a0, c_eI (f := 2004) m_a11_ rfl, c_gu g m_a11_, true_and, Option.some.injEq, exists_eq_left', c_xm, c_xn, c_xs]
        refine ⟨fun hc => ?_, fun hc => ?_⟩
        · have h := h.1 hc
          exact ub_X0_putIntoBuffer_47 g _ a0 _ _ _ m_a0 h hQ
        · have h := h.2 hc
          exact ub_X0_putIntoBuffer_45 g _  h hQ
  · have h := h.2 hc
    exact hQ _ _ h
def kb_X8_at_26 (L : c_L) (S : c_S) (xs0 : Int32) (Q : Int32 → c_S → Prop) : Prop := Q xs0 S
set_option maxRecDepth 100000 in
set_option maxHeartbeats 4000000 in
theorem ub_X8_at_26 {L : c_L} {T : q_S} (g : c_G L T) (S : c_S) (xs0 : Int32)  {Q1 : Int32 → c_S → Prop} {Q : Option Value → q_S → Prop} (h : kb_X8_at_26 L  S xs0 Q1) (hQ : ∀ (v : Int32) (K : c_S), Q1 v K → Q (some (.int v)) (c_E L K T)) : wb_X8_at_26  (c_E L S T) xs0 Q := by
  unfold wb_X8_at_26
  unfold kb_X8_at_26 at h
  try simp only [true_and, Option.some.injEq, exists_eq_left', c_xm, c_xn, c_xs]
  exact hQ _ _ h
def kb_X8_at_12 (L : c_L) (S : c_S) (Q : Int32 → c_S → Prop) : Prop := kb_X8_at_26 L S (0 : Int32) Q
set_option maxRecDepth 100000 in
set_option maxHeartbeats 4000000 in
theorem ub_X8_at_12 {L : c_L} {T : q_S} (g : c_G L T) (S : c_S)  {Q1 : Int32 → c_S → Prop} {Q : Option Value → q_S → Prop} (h : kb_X8_at_12 L  S Q1) (hQ : ∀ (v : Int32) (K : c_S), Q1 v K → Q (some (.int v)) (c_E L K T)) : wb_X8_at_12  (c_E L S T) Q := by
  unfold wb_X8_at_12
  unfold kb_X8_at_12 at h
  try simp only [true_and, Option.some.injEq, exists_eq_left', c_xm, c_xn, c_xs]
  exact ub_X8_at_26 g _ _  h hQ
def km_X8_at (L : c_L) (S : c_S) (a0 : Nat) (x1 : Int32) (Q : Int32 → c_S → Prop) : Prop := (x1 < 0 → (kb_X8_at_12 L S Q)) ∧ (¬ x1 < 0 → ((x1 < (c_I S 1603 a0) → (km_X8_indexOf L S a0 x1 (fun x6_ S5_ => (vp_in x6_ (c_ln L 1600 a0) ∧ (kb_X8_at_26 L S5_ (c_A S5_ 1600 a0 x6_.toNatClampNeg) Q))))) ∧ (¬ x1 < (c_I S 1603 a0) → (kb_X8_at_12 L S Q))))
set_option maxRecDepth 100000 in
set_option maxHeartbeats 4000000 in
theorem um_X8_at {L : c_L} {T : q_S} (g : c_G L T) (S : c_S) (a0 : Nat) (x1 : Int32) (m_a0 : c_mk L 8 a0) {Q1 : Int32 → c_S → Prop} {Q : Option Value → q_S → Prop} (h : km_X8_at L  S a0 x1 Q1) (hQ : ∀ (v : Int32) (K : c_S), Q1 v K → Q (some (.int v)) (c_E L K T)) : wm_X8_at  (c_E L S T) (c_ob L 8 a0) x1 Q := by
  unfold wm_X8_at
  unfold km_X8_at at h
  try simp only [c_gk g m_a0 9 rfl, c_eI (f := 1603) m_a0 rfl, true_and, Option.some.injEq, exists_eq_left', c_xm, c_xn, c_xs]
  refine ⟨fun hc => ?_, fun hc => ?_⟩
  · have h := h.1 hc
    exact ub_X8_at_12 g _  h hQ
  · have h := h.2 hc
    refine ⟨fun hc => ?_, fun hc => ?_⟩
    · have h := h.1 hc
      refine um_X8_indexOf g _ a0 _ m_a0 h (fun x6_ S5_ h => ?_)
      refine ⟨_, rfl, ?_⟩
      try simp only [c_gk g m_a0 9 rfl, c_eI (f := 1603) m_a0 rfl, true_and, Option.some.injEq, exists_eq_left', c_xm, c_xn, c_xs]
      have n1600_a0 := c_gA g 1600 rfl (by decide) m_a0
      try simp only [c_gk g m_a0 9 rfl, c_gr g n1600_a0 21 rfl, c_gn g n1600_a0, c_eA n1600_a0, c_eAs (c_gw g) n1600_a0, c_ga g 1600 rfl rfl (by decide) m_a0, c_eI (f := 1603) m_a0 rfl, true_and, Option.some.injEq, exists_eq_left', c_xm, c_xn, c_xs]
      refine ⟨h.1, ?_⟩
      have h := h.2
      exact ub_X8_at_26 g _ _  h hQ
    · have h := h.2 hc
      exact ub_X8_at_12 g _  h hQ
def kb_X8_take_32 (L : c_L) (S : c_S) (x1 : Int32) (Q : Int32 → c_S → Prop) : Prop := Q x1 S
set_option maxRecDepth 100000 in
set_option maxHeartbeats 4000000 in
theorem ub_X8_take_32 {L : c_L} {T : q_S} (g : c_G L T) (S : c_S) (x1 : Int32)  {Q1 : Int32 → c_S → Prop} {Q : Option Value → q_S → Prop} (h : kb_X8_take_32 L  S x1 Q1) (hQ : ∀ (v : Int32) (K : c_S), Q1 v K → Q (some (.int v)) (c_E L K T)) : wb_X8_take_32  (c_E L S T) x1 Q := by
  unfold wb_X8_take_32
  unfold kb_X8_take_32 at h
  try simp only [true_and, Option.some.injEq, exists_eq_left', c_xm, c_xn, c_xs]
  exact hQ _ _ h
def km_X8_take (L : c_L) (S : c_S) (a0 : Nat) (Q : Int32 → c_S → Prop) : Prop := km_X8_at L S a0 (0 : Int32) (fun x4_ S3_ => (((c_I S3_ 1603 a0) ≤ 0 → (kb_X8_take_32 L S3_ x4_ Q)) ∧ (¬ (c_I S3_ 1603 a0) ≤ 0 → (km_X8_indexOf L S3_ a0 (1 : Int32) (fun x9_ S8_ => (∀ S11_ : c_S, S11_ = (cs_I (cs_I S8_ 1602 a0 x9_) 1603 a0 ((c_I (cs_I S8_ 1602 a0 x9_) 1603 a0) - (1 : Int32))) → (kb_X8_take_32 L S11_ x4_ Q)))))))
set_option maxRecDepth 100000 in
set_option maxHeartbeats 4000000 in
theorem um_X8_take {L : c_L} {T : q_S} (g : c_G L T) (S : c_S) (a0 : Nat) (m_a0 : c_mk L 8 a0) {Q1 : Int32 → c_S → Prop} {Q : Option Value → q_S → Prop} (h : km_X8_take L  S a0 Q1) (hQ : ∀ (v : Int32) (K : c_S), Q1 v K → Q (some (.int v)) (c_E L K T)) : wm_X8_take  (c_E L S T) (c_ob L 8 a0) Q := by
  unfold wm_X8_take
  unfold km_X8_take at h
  try simp only [c_gk g m_a0 9 rfl, c_eI (f := 1603) m_a0 rfl, c_eIs (f := 1602) (c_gw g) m_a0 rfl, c_eIs (f := 1603) (c_gw g) m_a0 rfl, true_and, Option.some.injEq, exists_eq_left', c_xm, c_xn, c_xs]
  refine um_X8_at g _ a0 _ m_a0 h (fun x4_ S3_ h => ?_)
  refine ⟨_, rfl, ?_⟩
  try simp only [c_gk g m_a0 9 rfl, c_eI (f := 1603) m_a0 rfl, c_eIs (f := 1602) (c_gw g) m_a0 rfl, c_eIs (f := 1603) (c_gw g) m_a0 rfl, true_and, Option.some.injEq, exists_eq_left', c_xm, c_xn, c_xs]
  refine ⟨fun hc => ?_, fun hc => ?_⟩
  · have h := h.1 hc
    exact ub_X8_take_32 g _ _  h hQ
  · have h := h.2 hc
    refine um_X8_indexOf g _ a0 _ m_a0 h (fun x9_ S8_ h => ?_)
    refine ⟨_, rfl, ?_⟩
    try simp only [c_gk g m_a0 9 rfl, c_eI (f := 1603) m_a0 rfl, c_eIs (f := 1602) (c_gw g) m_a0 rfl, c_eIs (f := 1603) (c_gw g) m_a0 rfl, true_and, Option.some.injEq, exists_eq_left', c_xm, c_xn, c_xs]
    refine fun S11_ e_S11_ => ?_
    have h := h S11_ e_S11_
    exact ub_X8_take_32 g _ _  h hQ
def kb_X5_refill_35 (L : c_L) (S : c_S) (Q : c_S → Prop) : Prop := Q S
set_option maxRecDepth 100000 in
set_option maxHeartbeats 4000000 in
theorem ub_X5_refill_35 {L : c_L} {T : q_S} (g : c_G L T) (S : c_S)  {Q1 : c_S → Prop} {Q : Option Value → q_S → Prop} (h : kb_X5_refill_35 L  S Q1) (hQ : ∀ K : c_S, Q1 K → Q none (c_E L K T)) : wb_X5_refill_35  (c_E L S T) Q := by
  unfold wb_X5_refill_35
  unfold kb_X5_refill_35 at h
  try simp only [true_and, Option.some.injEq, exists_eq_left', c_xm, c_xn, c_xs]
  exact hQ _ h
def km_X5_refill (L : c_L) (S : c_S) (a0 : Nat) (r1 : Option Nat) (x2 : Int32) (x3 : Int32) (Q : c_S → Prop) : Prop := km_X5_firstWaiting L S a0 ((64 : Int32) + x2) x3 (fun r4_ S3_ => ((r4_ = none → (kb_X5_refill_35 L S3_ Q)) ∧ (¬ r4_ = none → (∃ a6_ : Nat, r4_ = some a6_ ∧ (c_mk L 7 a6_ ∧ (∃ a9_ : Nat, r1 = some a9_ ∧ (c_mk L 8 a9_ ∧ (km_X8_add L S3_ a9_ (c_I S3_ 1419 a6_) (fun x14_ S13_ => ((x14_ = 0 → (kb_X5_refill_35 L S13_ Q)) ∧ (¬ x14_ = 0 → (km_X5_answerWaiter L S13_ a0 r4_ (0 : Int32) (fun S18_ => (kb_X5_refill_35 L S18_ Q))))))))))))))
set_option maxRecDepth 100000 in
set_option maxHeartbeats 4000000 in
theorem um_X5_refill {L : c_L} {T : q_S} (g : c_G L T) (S : c_S) (a0 : Nat) (r1 : Option Nat) (x2 : Int32) (x3 : Int32) (m_a0 : c_mk L 5 a0) {Q1 : c_S → Prop} {Q : Option Value → q_S → Prop} (h : km_X5_refill L  S a0 r1 x2 x3 Q1) (hQ : ∀ K : c_S, Q1 K → Q none (c_E L K T)) : wm_X5_refill  (c_E L S T) (c_ob L 5 a0) (r1.map (c_ob L 8)) x2 x3 Q := by
  unfold wm_X5_refill
  unfold km_X5_refill at h
  try simp only [c_gk g m_a0 6 rfl, true_and, Option.some.injEq, exists_eq_left', c_xm, c_xn, c_xs]
  refine um_X5_firstWaiting g _ a0 _ _ m_a0 h (fun r4_ S3_ h => ?_)
  refine ⟨_, rfl, ?_⟩
  try simp only [c_gk g m_a0 6 rfl, true_and, Option.some.injEq, exists_eq_left', c_xm, c_xn, c_xs]
  refine ⟨fun hc => ?_, fun hc => ?_⟩
  · have h := h.1 hc
    exact ub_X5_refill_35 g _  h hQ
  · have h := h.2 hc
    obtain ⟨a6_, e_a6_, m_a6_, h⟩ := h
    refine ⟨a6_, e_a6_, ?_⟩
    try simp only [c_gk g m_a0 6 rfl, c_gk g m_a6_ 8 rfl, c_eI (f := 1419) m_a6_ rfl, true_and, Option.some.injEq, exists_eq_left', c_xm, c_xn, c_xs]
    obtain ⟨a9_, e_a9_, m_a9_, h⟩ := h
    refine ⟨a9_, e_a9_, ?_⟩
    try simp only [c_gk g m_a0 6 rfl, c_gk g m_a6_ 8 rfl, c_gk g m_a9_ 9 rfl, c_eI (f := 1419) m_a6_ rfl, true_and, Option.some.injEq, exists_eq_left', c_xm, c_xn, c_xs]
    refine um_X8_add g _ a9_ _ m_a9_ h (fun x14_ S13_ h => ?_)
    refine ⟨_, rfl, ?_⟩
    try simp only [c_gk g m_a0 6 rfl, c_gk g m_a6_ 8 rfl, c_gk g m_a9_ 9 rfl, c_eI (f := 1419) m_a6_ rfl, true_and, Option.some.injEq, exists_eq_left', c_xm, c_xn, c_xs]
    refine ⟨fun hc => ?_, fun hc => ?_⟩
    · have h := h.1 hc
      exact ub_X5_refill_35 g _  h hQ
    · have h := h.2 hc
      refine um_X5_answerWaiter g _ a0 r4_ _ m_a0 h (fun S18_ h => ?_)
      refine ⟨rfl, ?_⟩
      try simp only [c_gk g m_a0 6 rfl, c_gk g m_a6_ 8 rfl, c_gk g m_a9_ 9 rfl, c_eI (f := 1419) m_a6_ rfl, true_and, Option.some.injEq, exists_eq_left', c_xm, c_xn, c_xs]
      exact ub_X5_refill_35 g _  h hQ
def kb_X0_takeFrom_11 (L : c_L) (S : c_S) (a0 : Nat) (x2 : Int32) (x3 : Int32) (Q : Int32 → c_S → Prop) : Prop := km_X0_waitFor L S a0 x2 x3 (fun x4_ S3_ => (Q x4_ S3_))
set_option maxRecDepth 100000 in
set_option maxHeartbeats 4000000 in
theorem ub_X0_takeFrom_11 {L : c_L} {T : q_S} (g : c_G L T) (S : c_S) (a0 : Nat) (x2 : Int32) (x3 : Int32) (m_a0 : c_mk L 0 a0) {Q1 : Int32 → c_S → Prop} {Q : Option Value → q_S → Prop} (h : kb_X0_takeFrom_11 L  S a0 x2 x3 Q1) (hQ : ∀ (v : Int32) (K : c_S), Q1 v K → Q (some (.int v)) (c_E L K T)) : wb_X0_takeFrom_11  (c_E L S T) (c_ob L 0 a0) x2 x3 Q := by
  unfold wb_X0_takeFrom_11
  unfold kb_X0_takeFrom_11 at h
  try simp only [c_gk g m_a0 1 rfl, true_and, Option.some.injEq, exists_eq_left', c_xm, c_xn, c_xs]
  refine um_X0_waitFor g _ a0 _ _ m_a0 h (fun x4_ S3_ h => ?_)
  refine ⟨_, rfl, ?_⟩
  try simp only [c_gk g m_a0 1 rfl, true_and, Option.some.injEq, exists_eq_left', c_xm, c_xn, c_xs]
  exact hQ _ _ h
def kb_X0_takeFrom_44 (L : c_L) (S : c_S) (Q : Int32 → c_S → Prop) : Prop := Q (0 : Int32) S
set_option maxRecDepth 100000 in
set_option maxHeartbeats 4000000 in
theorem ub_X0_takeFrom_44 {L : c_L} {T : q_S} (g : c_G L T) (S : c_S)  {Q1 : Int32 → c_S → Prop} {Q : Option Value → q_S → Prop} (h : kb_X0_takeFrom_44 L  S Q1) (hQ : ∀ (v : Int32) (K : c_S), Q1 v K → Q (some (.int v)) (c_E L K T)) : wb_X0_takeFrom_44  (c_E L S T) Q := by
  unfold wb_X0_takeFrom_44
  unfold kb_X0_takeFrom_44 at h
  try simp only [true_and, Option.some.injEq, exists_eq_left', c_xm, c_xn, c_xs]
  exact hQ _ _ h
def km_X0_takeFrom (L : c_L) (S : c_S) (a0 : Nat) (r1 : Option Nat) (x2 : Int32) (x3 : Int32) (r4 : Option Nat) (x5 : Int32) (x6 : Int32) (Q : Int32 → c_S → Prop) : Prop := (r1 = none → (kb_X0_takeFrom_11 L S a0 x2 x3 Q)) ∧ (¬ r1 = none → (∃ a6_ : Nat, r1 = some a6_ ∧ (c_mk L 8 a6_ ∧ ((¬ (c_I S 1603 a6_) = 0 → (km_X8_take L S a6_ (fun x13_ S12_ => (∃ a14_ : Nat, (c_P S 3 a0) = some a14_ ∧ (c_mk L 7 a14_ ∧ (vp_in (11 : Int32) 32 ∧ ((r4 = none → (kb_X0_takeFrom_44 L (cs_A S12_ 1411 a14_ (11 : Int32).toNatClampNeg x13_) Q)) ∧ (¬ r4 = none → (∃ a19_ : Nat, r4 = some a19_ ∧ (c_mk L 5 a19_ ∧ (km_X5_refill L (cs_A S12_ 1411 a14_ (11 : Int32).toNatClampNeg x13_) a19_ r1 x5 x6 (fun S23_ => (kb_X0_takeFrom_44 L S23_ Q))))))))))))) ∧ ((c_I S 1603 a6_) = 0 → (kb_X0_takeFrom_11 L S a0 x2 x3 Q))))))
set_option maxRecDepth 100000 in
set_option maxHeartbeats 4000000 in
theorem um_X0_takeFrom {L : c_L} {T : q_S} (g : c_G L T) (S : c_S) (a0 : Nat) (r1 : Option Nat) (x2 : Int32) (x3 : Int32) (r4 : Option Nat) (x5 : Int32) (x6 : Int32) (m_a0 : c_mk L 0 a0) {Q1 : Int32 → c_S → Prop} {Q : Option Value → q_S → Prop} (h : km_X0_takeFrom L  S a0 r1 x2 x3 r4 x5 x6 Q1) (hQ : ∀ (v : Int32) (K : c_S), Q1 v K → Q (some (.int v)) (c_E L K T)) : wm_X0_takeFrom  (c_E L S T) (c_ob L 0 a0) (r1.map (c_ob L 8)) x2 x3 (r4.map (c_ob L 5)) x5 x6 Q := by
  unfold wm_X0_takeFrom
  unfold km_X0_takeFrom at h
  try simp only [c_gk g m_a0 1 rfl, c_eD3 m_a0, c_eDs3 (c_gw g) m_a0, true_and, Option.some.injEq, exists_eq_left', c_xm, c_xn, c_xs]
  refine ⟨fun hc => ?_, fun hc => ?_⟩
  · have h := h.1 hc
    exact ub_X0_takeFrom_11 g _ a0 _ _ m_a0 h hQ
  · have h := h.2 hc
    obtain ⟨a6_, e_a6_, m_a6_, h⟩ := h
    refine ⟨a6_, e_a6_, ?_⟩
    try simp only [c_gk g m_a0 1 rfl, c_gk g m_a6_ 9 rfl, c_eD3 m_a0, c_eDs3 (c_gw g) m_a0, c_eI (f := 1603) m_a6_ rfl, true_and, Option.some.injEq, exists_eq_left', c_xm, c_xn, c_xs]
    refine ⟨fun hc => ?_, fun hc => ?_⟩
    · have h := h.1 hc
      refine um_X8_take g _ a6_ m_a6_ h (fun x13_ S12_ h => ?_)
      refine ⟨_, rfl, ?_⟩
      try simp only [c_gk g m_a0 1 rfl, c_gk g m_a6_ 9 rfl, c_eD3 m_a0, c_eDs3 (c_gw g) m_a0, c_eI (f := 1603) m_a6_ rfl, true_and, Option.some.injEq, exists_eq_left', c_xm, c_xn, c_xs]
      obtain ⟨a14_, e_a14_, m_a14_, h⟩ := h
      have r_a14_ := c_gA g 1411 rfl (by decide) m_a14_
      refine ⟨a14_, e_a14_, ?_⟩
      try simp only [c_gk g m_a0 1 rfl, c_gk g m_a6_ 9 rfl, c_gk g m_a14_ 8 rfl, c_gr g r_a14_ 21 rfl, c_gN g r_a14_ 32 (by decide), c_eA r_a14_, c_eAs (c_gw g) r_a14_, c_eD3 m_a0, c_eDs3 (c_gw g) m_a0, c_eI (f := 1603) m_a6_ rfl, true_and, Option.some.injEq, exists_eq_left', c_xm, c_xn, c_xs]
      refine ⟨h.1, ?_⟩
      have h := h.2
      refine ⟨fun hc => ?_, fun hc => ?_⟩
      · have h := h.1 hc
        exact ub_X0_takeFrom_44 g _  h hQ
      · have h := h.2 hc
        obtain ⟨a19_, e_a19_, m_a19_, h⟩ := h
        refine ⟨a19_, e_a19_, ?_⟩
        try simp only [c_gk g m_a0 1 rfl, c_gk g m_a6_ 9 rfl, c_gk g m_a14_ 8 rfl, c_gk g m_a19_ 6 rfl, c_gr g r_a14_ 21 rfl, c_gN g r_a14_ 32 (by decide), c_eA r_a14_, c_eAs (c_gw g) r_a14_, c_eD3 m_a0, c_eDs3 (c_gw g) m_a0, c_eI (f := 1603) m_a6_ rfl, true_and, Option.some.injEq, exists_eq_left', c_xm, c_xn, c_xs]
        refine um_X5_refill g _ a19_ r1 _ _ m_a19_ h (fun S23_ h => ?_)
        refine ⟨rfl, ?_⟩
        try simp only [c_gk g m_a0 1 rfl, c_gk g m_a6_ 9 rfl, c_gk g m_a14_ 8 rfl, c_gk g m_a19_ 6 rfl, c_gr g r_a14_ 21 rfl, c_gN g r_a14_ 32 (by decide), c_eA r_a14_, c_eAs (c_gw g) r_a14_, c_eD3 m_a0, c_eDs3 (c_gw g) m_a0, c_eI (f := 1603) m_a6_ rfl, true_and, Option.some.injEq, exists_eq_left', c_xm, c_xn, c_xs]
        exact ub_X0_takeFrom_44 g _  h hQ
    · have h := h.2 hc
      exact ub_X0_takeFrom_11 g _ a0 _ _ m_a0 h hQ
def kb_X5_showAll_36 (L : c_L) (B2 : c_S → Nat → Int32 → Int32 → Int32 → Prop) (S : c_S) (a0 : Nat) (x1 : Int32) (x2 : Int32) (x3 : Int32) (Q : c_S → Prop) : Prop := B2 S a0 x1 x2 (x3 + 1)
set_option maxRecDepth 100000 in
set_option maxHeartbeats 4000000 in
theorem ub_X5_showAll_36 {L : c_L} {T : q_S} (g : c_G L T) {OB2 : q_S → Nat → Int32 → Int32 → Int32 → Prop} {B2 : c_S → Nat → Int32 → Int32 → Int32 → Prop} (hB2 : ∀ (S1 : c_S) (a0 : Nat) (x1 : Int32) (x2 : Int32) (x3 : Int32), c_mk L 5 a0 → B2 S1 a0 x1 x2 x3 → OB2 (c_E L S1 T) (c_ob L 5 a0) x1 x2 x3) (S : c_S) (a0 : Nat) (x1 : Int32) (x2 : Int32) (x3 : Int32) (m_a0 : c_mk L 5 a0) {Q1 : c_S → Prop} {Q : Option Value → q_S → Prop} (h : kb_X5_showAll_36 L B2 S a0 x1 x2 x3 Q1) (hQ : ∀ K : c_S, Q1 K → Q none (c_E L K T)) : wb_X5_showAll_36 OB2 (c_E L S T) (c_ob L 5 a0) x1 x2 x3 Q := by
  unfold wb_X5_showAll_36
  unfold kb_X5_showAll_36 at h
  try simp only [c_gk g m_a0 6 rfl, true_and, Option.some.injEq, exists_eq_left', c_xm, c_xn, c_xs]
  exact hB2 _ a0 _ _ _ m_a0 h
def kb_X5_showAll_2 (L : c_L) (B2 : c_S → Nat → Int32 → Int32 → Int32 → Prop) (S : c_S) (a0 : Nat) (x1 : Int32) (x2 : Int32) (x3 : Int32) (Q : c_S → Prop) : Prop := ((c_I S 1004 a0) ≤ x3 → (km_X5_wakeAll L S a0 x1 (fun S4_ => (Q S4_)))) ∧ (¬ (c_I S 1004 a0) ≤ x3 → (vp_in x3 16 ∧ (∃ a9_ : Nat, (c_e7 L a0 x3.toNatClampNeg) = some a9_ ∧ (c_mk L 7 a9_ ∧ ((¬ (c_I S 1418 a9_) = x1 → (kb_X5_showAll_36 L B2 S a0 x1 x2 x3 Q)) ∧ ((c_I S 1418 a9_) = x1 → (vp_in x3 16 ∧ (vp_in (11 : Int32) 32 ∧ (kb_X5_showAll_36 L B2 (cs_A S 1411 a9_ (11 : Int32).toNatClampNeg x2) a0 x1 x2 x3 Q)))))))))
set_option maxRecDepth 100000 in
set_option maxHeartbeats 4000000 in
theorem ub_X5_showAll_2 {L : c_L} {T : q_S} (g : c_G L T) {OB2 : q_S → Nat → Int32 → Int32 → Int32 → Prop} {B2 : c_S → Nat → Int32 → Int32 → Int32 → Prop} (hB2 : ∀ (S1 : c_S) (a0 : Nat) (x1 : Int32) (x2 : Int32) (x3 : Int32), c_mk L 5 a0 → B2 S1 a0 x1 x2 x3 → OB2 (c_E L S1 T) (c_ob L 5 a0) x1 x2 x3) (S : c_S) (a0 : Nat) (x1 : Int32) (x2 : Int32) (x3 : Int32) (m_a0 : c_mk L 5 a0) {Q1 : c_S → Prop} {Q : Option Value → q_S → Prop} (h : kb_X5_showAll_2 L B2 S a0 x1 x2 x3 Q1) (hQ : ∀ K : c_S, Q1 K → Q none (c_E L K T)) : wb_X5_showAll_2 OB2 (c_E L S T) (c_ob L 5 a0) x1 x2 x3 Q := by
  unfold wb_X5_showAll_2
  unfold kb_X5_showAll_2 at h
  try simp only [c_gk g m_a0 6 rfl, c_eI (f := 1004) m_a0 rfl, true_and, Option.some.injEq, exists_eq_left', c_xm, c_xn, c_xs]
  refine ⟨fun hc => ?_, fun hc => ?_⟩
  · have h := h.1 hc
    refine um_X5_wakeAll g _ a0 _ m_a0 h (fun S4_ h => ?_)
    refine ⟨rfl, ?_⟩
    try simp only [c_gk g m_a0 6 rfl, c_eI (f := 1004) m_a0 rfl, true_and, Option.some.injEq, exists_eq_left', c_xm, c_xn, c_xs]
    exact hQ _ h
  · have h := h.2 hc
    have n1003_a0 := c_gA g 1003 rfl (by decide) m_a0
    try simp only [c_gk g m_a0 6 rfl, c_gr g n1003_a0 26 rfl, c_gN g n1003_a0 16 (by decide), c_g7 g m_a0, c_ga g 1003 rfl rfl (by decide) m_a0, c_eI (f := 1004) m_a0 rfl, true_and, Option.some.injEq, exists_eq_left', c_xm, c_xn, c_xs]
    refine ⟨h.1, ?_⟩
    have h := h.2
    obtain ⟨a9_, e_a9_, m_a9_, h⟩ := h
    refine ⟨a9_, e_a9_, ?_⟩
    try simp only [c_gk g m_a0 6 rfl, c_gk g m_a9_ 8 rfl, c_gr g n1003_a0 26 rfl, c_gN g n1003_a0 16 (by decide), c_g7 g m_a0, c_ga g 1003 rfl rfl (by decide) m_a0, c_eI (f := 1004) m_a0 rfl, c_eI (f := 1418) m_a9_ rfl, true_and, Option.some.injEq, exists_eq_left', c_xm, c_xn, c_xs]
    refine ⟨fun hc => ?_, fun hc => ?_⟩
    · have h := h.1 hc
      exact ub_X5_showAll_36 g hB2 _ a0 _ _ _ m_a0 h hQ
    · have h := h.2 hc
      refine ⟨h.1, ?_⟩
      have h := h.2
      have n1411_a9_ := c_gA g 1411 rfl (by decide) m_a9_
      try simp only [c_gk g m_a0 6 rfl, c_gk g m_a9_ 8 rfl, c_gr g n1003_a0 26 rfl, c_gN g n1003_a0 16 (by decide), c_g7 g m_a0, c_gr g n1411_a9_ 21 rfl, c_gN g n1411_a9_ 32 (by decide), c_eA n1411_a9_, c_eAs (c_gw g) n1411_a9_, c_ga g 1003 rfl rfl (by decide) m_a0, c_ga g 1411 rfl rfl (by decide) m_a9_, c_eI (f := 1004) m_a0 rfl, c_eI (f := 1418) m_a9_ rfl, true_and, Option.some.injEq, exists_eq_left', c_xm, c_xn, c_xs]
      refine ⟨h.1, ?_⟩
      have h := h.2
      exact ub_X5_showAll_36 g hB2 _ a0 _ _ _ m_a0 h hQ
def kl_X5_showAll_2 (L : c_L)  : Nat → c_S → Nat → Int32 → Int32 → Int32 → (c_S → Prop) → Prop
  | 0, _, _, _, _, _, _ => False
  | n + 1, S, a0, x1, x2, x3, Q => kb_X5_showAll_2 L (fun S a0 x1 x2 x3 => kl_X5_showAll_2 L n S a0 x1 x2 x3 Q) S a0 x1 x2 x3 Q
theorem ul_X5_showAll_2 {L : c_L} {T : q_S} (g : c_G L T) (n : Nat) (S : c_S) (a0 : Nat) (x1 : Int32) (x2 : Int32) (x3 : Int32) (m_a0 : c_mk L 5 a0) {Q1 : c_S → Prop} {Q : Option Value → q_S → Prop} (h : kl_X5_showAll_2 L  n S a0 x1 x2 x3 Q1) (hQ : ∀ K : c_S, Q1 K → Q none (c_E L K T)) : wl_X5_showAll_2  n (c_E L S T) (c_ob L 5 a0) x1 x2 x3 Q := by
  induction n generalizing S a0 x1 x2 x3 with
  | zero => exact h.elim
  | succ n ih => exact ub_X5_showAll_2 g (fun u0 u1 u2 u3 u4 w0 h => ih u0 u1 u2 u3 u4 w0 h) S a0 x1 x2 x3 m_a0 h hQ
def km_X5_showAll (L : c_L) (S : c_S) (a0 : Nat) (x1 : Int32) (x2 : Int32) (Q : c_S → Prop) : Prop := ∃ n18_ : Nat, kl_X5_showAll_2 L n18_ S a0 x1 x2 (0 : Int32) Q
set_option maxRecDepth 100000 in
set_option maxHeartbeats 4000000 in
theorem um_X5_showAll {L : c_L} {T : q_S} (g : c_G L T) (S : c_S) (a0 : Nat) (x1 : Int32) (x2 : Int32) (m_a0 : c_mk L 5 a0) {Q1 : c_S → Prop} {Q : Option Value → q_S → Prop} (h : km_X5_showAll L  S a0 x1 x2 Q1) (hQ : ∀ K : c_S, Q1 K → Q none (c_E L K T)) : wm_X5_showAll  (c_E L S T) (c_ob L 5 a0) x1 x2 Q := by
  unfold wm_X5_showAll
  unfold km_X5_showAll at h
  try simp only [c_gk g m_a0 6 rfl, true_and, Option.some.injEq, exists_eq_left', c_xm, c_xn, c_xs]
  obtain ⟨n18_, h⟩ := h
  refine ⟨n18_, ?_⟩
  exact ul_X5_showAll_2 g n18_ _ a0 _ _ _ m_a0 h hQ
