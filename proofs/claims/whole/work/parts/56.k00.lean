def kb_X7_leave_18 (L : c_L) (S : c_S) (a0 : Nat) (as0 : Nat) (xs1 : Int32) (Q : c_S → Prop) : Prop := ∀ S3_ : c_S, S3_ = (cs_I (cs_I (cs_I S 1412 as0 xs1) 1413 a0 (-1 : Int32)) 1418 a0 (-1 : Int32)) → (Q (cs_I S3_ 1416 a0 (0 : Int32)))
set_option maxRecDepth 100000 in
set_option maxHeartbeats 4000000 in
theorem ub_X7_leave_18 {L : c_L} {T : q_S} (g : c_G L T) (S : c_S) (a0 : Nat) (as0 : Nat) (xs1 : Int32) (m_a0 : c_mk L 7 a0) (m_as0 : c_mk L 7 as0) {Q1 : c_S → Prop} {Q : Option Value → q_S → Prop} (h : kb_X7_leave_18 L  S a0 as0 xs1 Q1) (hQ : ∀ K : c_S, Q1 K → Q none (c_E L K T)) : wb_X7_leave_18  (c_E L S T) (c_ob L 7 a0) (c_ob L 7 as0) xs1 Q := by
  unfold wb_X7_leave_18
  unfold kb_X7_leave_18 at h
  try simp only [c_gk g m_a0 8 rfl, c_gk g m_as0 8 rfl, c_eIs (f := 1412) (c_gw g) m_a0 rfl, c_eIs (f := 1413) (c_gw g) m_a0 rfl, c_eIs (f := 1416) (c_gw g) m_a0 rfl, c_eIs (f := 1418) (c_gw g) m_a0 rfl, c_eIs (f := 1412) (c_gw g) m_as0 rfl, c_eIs (f := 1413) (c_gw g) m_as0 rfl, c_eIs (f := 1416) (c_gw g) m_as0 rfl, c_eIs (f := 1418) (c_gw g) m_as0 rfl, true_and, Option.some.injEq, exists_eq_left', c_xm, c_xn, c_xs]
  refine fun S3_ e_S3_ => ?_
  have h := h S3_ e_S3_
  exact hQ _ h
def km_X7_leave (L : c_L) (S : c_S) (a0 : Nat) (x1 : Int32) (Q : c_S → Prop) : Prop := (¬ x1 = 0 → (kb_X7_leave_18 L (cs_I S 1409 a0 x1) a0 a0 (c_I (cs_I S 1409 a0 x1) 1412 a0) Q)) ∧ (x1 = 0 → (kb_X7_leave_18 L (cs_I S 1409 a0 x1) a0 a0 (-1 : Int32) Q))
set_option maxRecDepth 100000 in
set_option maxHeartbeats 4000000 in
theorem um_X7_leave {L : c_L} {T : q_S} (g : c_G L T) (S : c_S) (a0 : Nat) (x1 : Int32) (m_a0 : c_mk L 7 a0) {Q1 : c_S → Prop} {Q : Option Value → q_S → Prop} (h : km_X7_leave L  S a0 x1 Q1) (hQ : ∀ K : c_S, Q1 K → Q none (c_E L K T)) : wm_X7_leave  (c_E L S T) (c_ob L 7 a0) x1 Q := by
  unfold wm_X7_leave
  unfold km_X7_leave at h
  try simp only [c_gk g m_a0 8 rfl, c_eI (f := 1412) m_a0 rfl, c_eIs (f := 1409) (c_gw g) m_a0 rfl, true_and, Option.some.injEq, exists_eq_left', c_xm, c_xn, c_xs]
  refine ⟨fun hc => ?_, fun hc => ?_⟩
  · have h := h.1 hc
    exact ub_X7_leave_18 g _ a0 a0 _ m_a0 m_a0 h hQ
  · have h := h.2 hc
    exact ub_X7_leave_18 g _ a0 a0 _ m_a0 m_a0 h hQ
def kb_X5_unlockOf_21 (L : c_L) (S : c_S) (Q : c_S → Prop) : Prop := Q S
set_option maxRecDepth 100000 in
set_option maxHeartbeats 4000000 in
theorem ub_X5_unlockOf_21 {L : c_L} {T : q_S} (g : c_G L T) (S : c_S)  {Q1 : c_S → Prop} {Q : Option Value → q_S → Prop} (h : kb_X5_unlockOf_21 L  S Q1) (hQ : ∀ K : c_S, Q1 K → Q none (c_E L K T)) : wb_X5_unlockOf_21  (c_E L S T) Q := by
  unfold wb_X5_unlockOf_21
  unfold kb_X5_unlockOf_21 at h
  try simp only [true_and, Option.some.injEq, exists_eq_left', c_xm, c_xn, c_xs]
  exact hQ _ h
def km_X5_unlockOf (L : c_L) (S : c_S) (a0 : Nat) (r1 : Option Nat) (Q : c_S → Prop) : Prop := ∃ a2_ : Nat, r1 = some a2_ ∧ (c_mk L 7 a2_ ∧ ((¬ (c_I S 1014 a0) = (c_I S 1400 a2_) → (kb_X5_unlockOf_21 L S Q)) ∧ ((c_I S 1014 a0) = (c_I S 1400 a2_) → (kb_X5_unlockOf_21 L (cs_I (cs_I S 1013 a0 (0 : Int32)) 1014 a0 (-1 : Int32)) Q))))
set_option maxRecDepth 100000 in
set_option maxHeartbeats 4000000 in
theorem um_X5_unlockOf {L : c_L} {T : q_S} (g : c_G L T) (S : c_S) (a0 : Nat) (r1 : Option Nat) (m_a0 : c_mk L 5 a0) {Q1 : c_S → Prop} {Q : Option Value → q_S → Prop} (h : km_X5_unlockOf L  S a0 r1 Q1) (hQ : ∀ K : c_S, Q1 K → Q none (c_E L K T)) : wm_X5_unlockOf  (c_E L S T) (c_ob L 5 a0) (r1.map (c_ob L 7)) Q := by
  unfold wm_X5_unlockOf
  unfold km_X5_unlockOf at h
  try simp only [c_gk g m_a0 6 rfl, c_eI (f := 1014) m_a0 rfl, c_eIs (f := 1013) (c_gw g) m_a0 rfl, c_eIs (f := 1014) (c_gw g) m_a0 rfl, true_and, Option.some.injEq, exists_eq_left', c_xm, c_xn, c_xs]
  obtain ⟨a2_, e_a2_, m_a2_, h⟩ := h
  refine ⟨a2_, e_a2_, ?_⟩
  try simp only [c_gk g m_a0 6 rfl, c_gk g m_a2_ 8 rfl, c_eI (f := 1014) m_a0 rfl, c_eIs (f := 1013) (c_gw g) m_a0 rfl, c_eIs (f := 1014) (c_gw g) m_a0 rfl, c_eI (f := 1400) m_a2_ rfl, true_and, Option.some.injEq, exists_eq_left', c_xm, c_xn, c_xs]
  refine ⟨fun hc => ?_, fun hc => ?_⟩
  · have h := h.1 hc
    exact ub_X5_unlockOf_21 g _  h hQ
  · have h := h.2 hc
    exact ub_X5_unlockOf_21 g _  h hQ
def kb_X5_processAt_22 (L : c_L) (S : c_S) (rs0 : Option Nat) (Q : Option Nat → c_S → Prop) : Prop := Q rs0 S
set_option maxRecDepth 100000 in
set_option maxHeartbeats 4000000 in
theorem ub_X5_processAt_22 {L : c_L} {T : q_S} (g : c_G L T) (S : c_S) (rs0 : Option Nat)  {Q1 : Option Nat → c_S → Prop} {Q : Option Value → q_S → Prop} (h : kb_X5_processAt_22 L  S rs0 Q1) (hQ : ∀ (v : Option Nat) (K : c_S), Q1 v K → Q (some (va_rf (v.map (c_ob L 7)))) (c_E L K T)) : wb_X5_processAt_22  (c_E L S T) (rs0.map (c_ob L 7)) Q := by
  unfold wb_X5_processAt_22
  unfold kb_X5_processAt_22 at h
  try simp only [true_and, Option.some.injEq, exists_eq_left', c_xm, c_xn, c_xs]
  exact hQ _ _ h
def kb_X5_processAt_12 (L : c_L) (S : c_S) (Q : Option Nat → c_S → Prop) : Prop := kb_X5_processAt_22 L S none Q
set_option maxRecDepth 100000 in
set_option maxHeartbeats 4000000 in
theorem ub_X5_processAt_12 {L : c_L} {T : q_S} (g : c_G L T) (S : c_S)  {Q1 : Option Nat → c_S → Prop} {Q : Option Value → q_S → Prop} (h : kb_X5_processAt_12 L  S Q1) (hQ : ∀ (v : Option Nat) (K : c_S), Q1 v K → Q (some (va_rf (v.map (c_ob L 7)))) (c_E L K T)) : wb_X5_processAt_12  (c_E L S T) Q := by
  unfold wb_X5_processAt_12
  unfold kb_X5_processAt_12 at h
  try simp only [true_and, Option.some.injEq, exists_eq_left', c_xm, c_xn, c_xs]
  exact ub_X5_processAt_22 g _ none  h hQ
def km_X5_processAt (L : c_L) (S : c_S) (a0 : Nat) (x1 : Int32) (Q : Option Nat → c_S → Prop) : Prop := (x1 < 0 → (kb_X5_processAt_12 L S Q)) ∧ (¬ x1 < 0 → ((x1 < (c_I S 1004 a0) → (vp_in x1 16 ∧ (kb_X5_processAt_22 L S (c_e7 L a0 x1.toNatClampNeg) Q))) ∧ (¬ x1 < (c_I S 1004 a0) → (kb_X5_processAt_12 L S Q))))
set_option maxRecDepth 100000 in
set_option maxHeartbeats 4000000 in
theorem um_X5_processAt {L : c_L} {T : q_S} (g : c_G L T) (S : c_S) (a0 : Nat) (x1 : Int32) (m_a0 : c_mk L 5 a0) {Q1 : Option Nat → c_S → Prop} {Q : Option Value → q_S → Prop} (h : km_X5_processAt L  S a0 x1 Q1) (hQ : ∀ (v : Option Nat) (K : c_S), Q1 v K → Q (some (va_rf (v.map (c_ob L 7)))) (c_E L K T)) : wm_X5_processAt  (c_E L S T) (c_ob L 5 a0) x1 Q := by
  unfold wm_X5_processAt
  unfold km_X5_processAt at h
  try simp only [c_gk g m_a0 6 rfl, c_eI (f := 1004) m_a0 rfl, true_and, Option.some.injEq, exists_eq_left', c_xm, c_xn, c_xs]
  refine ⟨fun hc => ?_, fun hc => ?_⟩
  · have h := h.1 hc
    exact ub_X5_processAt_12 g _  h hQ
  · have h := h.2 hc
    refine ⟨fun hc => ?_, fun hc => ?_⟩
    · have h := h.1 hc
      have n1003_a0 := c_gA g 1003 rfl (by decide) m_a0
      try simp only [c_gk g m_a0 6 rfl, c_gr g n1003_a0 26 rfl, c_gN g n1003_a0 16 (by decide), c_g7 g m_a0, c_ga g 1003 rfl rfl (by decide) m_a0, c_eI (f := 1004) m_a0 rfl, true_and, Option.some.injEq, exists_eq_left', c_xm, c_xn, c_xs]
      refine ⟨h.1, ?_⟩
      have h := h.2
      exact ub_X5_processAt_22 g _ (c_e7 L a0 x1.toNatClampNeg)  h hQ
    · have h := h.2 hc
      exact ub_X5_processAt_12 g _  h hQ
def kb_X5_rest_56 (L : c_L) (S : c_S) (Q : c_S → Prop) : Prop := Q S
set_option maxRecDepth 100000 in
set_option maxHeartbeats 4000000 in
theorem ub_X5_rest_56 {L : c_L} {T : q_S} (g : c_G L T) (S : c_S)  {Q1 : c_S → Prop} {Q : Option Value → q_S → Prop} (h : kb_X5_rest_56 L  S Q1) (hQ : ∀ K : c_S, Q1 K → Q none (c_E L K T)) : wb_X5_rest_56  (c_E L S T) Q := by
  unfold wb_X5_rest_56
  unfold kb_X5_rest_56 at h
  try simp only [true_and, Option.some.injEq, exists_eq_left', c_xm, c_xn, c_xs]
  exact hQ _ h
def kb_X5_rest_26 (L : c_L) (S : c_S) (a0 : Nat) (r1 : Option Nat) (Q : c_S → Prop) : Prop := km_X5_processAt L S a0 (c_I S 1016 a0) (fun r4_ S3_ => (∃ a5_ : Nat, r1 = some a5_ ∧ (c_mk L 7 a5_ ∧ (((c_I S3_ 1407 a5_) = 0 → (kb_X5_rest_56 L S3_ Q)) ∧ (¬ (c_I S3_ 1407 a5_) = 0 → ((r4_ = none → (kb_X5_rest_56 L S3_ Q)) ∧ (¬ r4_ = none → (∃ a10_ : Nat, r4_ = some a10_ ∧ (c_mk L 7 a10_ ∧ (km_X7_leave L S3_ a10_ (0 : Int32) (fun S14_ => (kb_X5_rest_56 L (cs_I S14_ 1016 a0 (-1 : Int32)) Q))))))))))))
set_option maxRecDepth 100000 in
set_option maxHeartbeats 4000000 in
theorem ub_X5_rest_26 {L : c_L} {T : q_S} (g : c_G L T) (S : c_S) (a0 : Nat) (r1 : Option Nat) (m_a0 : c_mk L 5 a0) {Q1 : c_S → Prop} {Q : Option Value → q_S → Prop} (h : kb_X5_rest_26 L  S a0 r1 Q1) (hQ : ∀ K : c_S, Q1 K → Q none (c_E L K T)) : wb_X5_rest_26  (c_E L S T) (c_ob L 5 a0) (r1.map (c_ob L 7)) Q := by
  unfold wb_X5_rest_26
  unfold kb_X5_rest_26 at h
  try simp only [c_gk g m_a0 6 rfl, c_eI (f := 1016) m_a0 rfl, c_eIs (f := 1016) (c_gw g) m_a0 rfl, true_and, Option.some.injEq, exists_eq_left', c_xm, c_xn, c_xs]
  refine um_X5_processAt g _ a0 _ m_a0 h (fun r4_ S3_ h => ?_)
  refine ⟨_, rfl, ?_⟩
  try simp only [c_gk g m_a0 6 rfl, c_eI (f := 1016) m_a0 rfl, c_eIs (f := 1016) (c_gw g) m_a0 rfl, true_and, Option.some.injEq, exists_eq_left', c_xm, c_xn, c_xs]
  obtain ⟨a5_, e_a5_, m_a5_, h⟩ := h
  refine ⟨a5_, e_a5_, ?_⟩
  try simp only [c_gk g m_a0 6 rfl, c_gk g m_a5_ 8 rfl, c_eI (f := 1016) m_a0 rfl, c_eIs (f := 1016) (c_gw g) m_a0 rfl, c_eI (f := 1407) m_a5_ rfl, true_and, Option.some.injEq, exists_eq_left', c_xm, c_xn, c_xs]
  refine ⟨fun hc => ?_, fun hc => ?_⟩
  · have h := h.1 hc
    exact ub_X5_rest_56 g _  h hQ
  · have h := h.2 hc
    refine ⟨fun hc => ?_, fun hc => ?_⟩
    · have h := h.1 hc
      exact ub_X5_rest_56 g _  h hQ
    · have h := h.2 hc
      obtain ⟨a10_, e_a10_, m_a10_, h⟩ := h
      refine ⟨a10_, e_a10_, ?_⟩
      try simp only [c_gk g m_a0 6 rfl, c_gk g m_a5_ 8 rfl, c_gk g m_a10_ 8 rfl, c_eI (f := 1016) m_a0 rfl, c_eIs (f := 1016) (c_gw g) m_a0 rfl, c_eI (f := 1407) m_a5_ rfl, c_eI (f := 1407) m_a10_ rfl, true_and, Option.some.injEq, exists_eq_left', c_xm, c_xn, c_xs]
      refine um_X7_leave g _ a10_ _ m_a10_ h (fun S14_ h => ?_)
      refine ⟨rfl, ?_⟩
      try simp only [c_gk g m_a0 6 rfl, c_gk g m_a5_ 8 rfl, c_gk g m_a10_ 8 rfl, c_eI (f := 1016) m_a0 rfl, c_eIs (f := 1016) (c_gw g) m_a0 rfl, c_eI (f := 1407) m_a5_ rfl, c_eI (f := 1407) m_a10_ rfl, true_and, Option.some.injEq, exists_eq_left', c_xm, c_xn, c_xs]
      exact ub_X5_rest_56 g _  h hQ
def km_X5_rest (L : c_L) (S : c_S) (a0 : Nat) (r1 : Option Nat) (Q : c_S → Prop) : Prop := ∃ a16_ : Nat, r1 = some a16_ ∧ (c_mk L 7 a16_ ∧ (km_X7_leave L S a16_ (0 : Int32) (fun S20_ => (km_X5_unlockOf L S20_ a0 r1 (fun S23_ => ((¬ (c_I S23_ 1400 a16_) = (c_I S23_ 1016 a0) → (kb_X5_rest_26 L S23_ a0 r1 Q)) ∧ ((c_I S23_ 1400 a16_) = (c_I S23_ 1016 a0) → (kb_X5_rest_26 L (cs_I S23_ 1016 a0 (-1 : Int32)) a0 r1 Q))))))))
set_option maxRecDepth 100000 in
set_option maxHeartbeats 4000000 in
theorem um_X5_rest {L : c_L} {T : q_S} (g : c_G L T) (S : c_S) (a0 : Nat) (r1 : Option Nat) (m_a0 : c_mk L 5 a0) {Q1 : c_S → Prop} {Q : Option Value → q_S → Prop} (h : km_X5_rest L  S a0 r1 Q1) (hQ : ∀ K : c_S, Q1 K → Q none (c_E L K T)) : wm_X5_rest  (c_E L S T) (c_ob L 5 a0) (r1.map (c_ob L 7)) Q := by
  unfold wm_X5_rest
  unfold km_X5_rest at h
  try simp only [c_gk g m_a0 6 rfl, c_eI (f := 1016) m_a0 rfl, c_eIs (f := 1016) (c_gw g) m_a0 rfl, true_and, Option.some.injEq, exists_eq_left', c_xm, c_xn, c_xs]
  obtain ⟨a16_, e_a16_, m_a16_, h⟩ := h
  refine ⟨a16_, e_a16_, ?_⟩
  try simp only [c_gk g m_a0 6 rfl, c_gk g m_a16_ 8 rfl, c_eI (f := 1016) m_a0 rfl, c_eIs (f := 1016) (c_gw g) m_a0 rfl, c_eI (f := 1400) m_a16_ rfl, true_and, Option.some.injEq, exists_eq_left', c_xm, c_xn, c_xs]
  refine um_X7_leave g _ a16_ _ m_a16_ h (fun S20_ h => ?_)
  refine ⟨rfl, ?_⟩
  try simp only [c_gk g m_a0 6 rfl, c_gk g m_a16_ 8 rfl, c_eI (f := 1016) m_a0 rfl, c_eIs (f := 1016) (c_gw g) m_a0 rfl, c_eI (f := 1400) m_a16_ rfl, true_and, Option.some.injEq, exists_eq_left', c_xm, c_xn, c_xs]
  refine um_X5_unlockOf g _ a0 r1 m_a0 h (fun S23_ h => ?_)
  refine ⟨rfl, ?_⟩
  try simp only [c_gk g m_a0 6 rfl, c_gk g m_a16_ 8 rfl, c_eI (f := 1016) m_a0 rfl, c_eIs (f := 1016) (c_gw g) m_a0 rfl, c_eI (f := 1400) m_a16_ rfl, true_and, Option.some.injEq, exists_eq_left', c_xm, c_xn, c_xs]
  refine ⟨fun hc => ?_, fun hc => ?_⟩
  · have h := h.1 hc
    exact ub_X5_rest_26 g _ a0 r1 m_a0 h hQ
  · have h := h.2 hc
    exact ub_X5_rest_26 g _ a0 r1 m_a0 h hQ
def kb_X0_mayNotWait_25 (L : c_L) (S : c_S) (xs0 : Int32) (Q : Int32 → c_S → Prop) : Prop := narrow .boolean (.int xs0) = .int xs0 ∧ (Q xs0 S)
set_option maxRecDepth 100000 in
set_option maxHeartbeats 4000000 in
theorem ub_X0_mayNotWait_25 {L : c_L} {T : q_S} (g : c_G L T) (S : c_S) (xs0 : Int32)  {Q1 : Int32 → c_S → Prop} {Q : Option Value → q_S → Prop} (h : kb_X0_mayNotWait_25 L  S xs0 Q1) (hQ : ∀ (v : Int32) (K : c_S), Q1 v K → Q (some (.int v)) (c_E L K T)) : wb_X0_mayNotWait_25  (c_E L S T) xs0 Q := by
  unfold wb_X0_mayNotWait_25
  unfold kb_X0_mayNotWait_25 at h
  try simp only [true_and, Option.some.injEq, exists_eq_left', c_xm, c_xn, c_xs]
  refine ⟨h.1, ?_⟩
  have h := h.2
  exact hQ _ _ h
def kb_X0_mayNotWait_20 (L : c_L) (S : c_S) (Q : Int32 → c_S → Prop) : Prop := kb_X0_mayNotWait_25 L S (1 : Int32) Q
set_option maxRecDepth 100000 in
set_option maxHeartbeats 4000000 in
theorem ub_X0_mayNotWait_20 {L : c_L} {T : q_S} (g : c_G L T) (S : c_S)  {Q1 : Int32 → c_S → Prop} {Q : Option Value → q_S → Prop} (h : kb_X0_mayNotWait_20 L  S Q1) (hQ : ∀ (v : Int32) (K : c_S), Q1 v K → Q (some (.int v)) (c_E L K T)) : wb_X0_mayNotWait_20  (c_E L S T) Q := by
  unfold wb_X0_mayNotWait_20
  unfold kb_X0_mayNotWait_20 at h
  try simp only [true_and, Option.some.injEq, exists_eq_left', c_xm, c_xn, c_xs]
  exact ub_X0_mayNotWait_25 g _ _  h hQ
def km_X0_mayNotWait (L : c_L) (S : c_S) (a0 : Nat) (Q : Int32 → c_S → Prop) : Prop := ∃ a2_ : Nat, (c_P S 1 a0) = some a2_ ∧ (c_mk L 5 a2_ ∧ ((0 < (c_I S 1013 a2_) → (kb_X0_mayNotWait_20 L S Q)) ∧ (¬ 0 < (c_I S 1013 a2_) → (∃ a6_ : Nat, (c_P S 2 a0) = some a6_ ∧ (c_mk L 7 a6_ ∧ (((c_I S 1407 a6_) = 0 → (kb_X0_mayNotWait_25 L S (0 : Int32) Q)) ∧ (¬ (c_I S 1407 a6_) = 0 → (kb_X0_mayNotWait_20 L S Q))))))))
set_option maxRecDepth 100000 in
set_option maxHeartbeats 4000000 in
theorem um_X0_mayNotWait {L : c_L} {T : q_S} (g : c_G L T) (S : c_S) (a0 : Nat) (m_a0 : c_mk L 0 a0) {Q1 : Int32 → c_S → Prop} {Q : Option Value → q_S → Prop} (h : km_X0_mayNotWait L  S a0 Q1) (hQ : ∀ (v : Int32) (K : c_S), Q1 v K → Q (some (.int v)) (c_E L K T)) : wm_X0_mayNotWait  (c_E L S T) (c_ob L 0 a0) Q := by
  unfold wm_X0_mayNotWait
  unfold km_X0_mayNotWait at h
  try simp only [c_gk g m_a0 1 rfl, c_eD1 m_a0, c_eDs1 (c_gw g) m_a0, c_eD2 m_a0, c_eDs2 (c_gw g) m_a0, true_and, Option.some.injEq, exists_eq_left', c_xm, c_xn, c_xs]
  obtain ⟨a2_, e_a2_, m_a2_, h⟩ := h
  refine ⟨a2_, e_a2_, ?_⟩
  try simp only [c_gk g m_a0 1 rfl, c_gk g m_a2_ 6 rfl, c_eD1 m_a0, c_eDs1 (c_gw g) m_a0, c_eD2 m_a0, c_eDs2 (c_gw g) m_a0, c_eI (f := 1013) m_a2_ rfl, true_and, Option.some.injEq, exists_eq_left', c_xm, c_xn, c_xs]
  refine ⟨fun hc => ?_, fun hc => ?_⟩
  · have h := h.1 hc
    exact ub_X0_mayNotWait_20 g _  h hQ
  · have h := h.2 hc
    obtain ⟨a6_, e_a6_, m_a6_, h⟩ := h
    refine ⟨a6_, e_a6_, ?_⟩
    try simp only [c_gk g m_a0 1 rfl, c_gk g m_a2_ 6 rfl, c_gk g m_a6_ 8 rfl, c_eD1 m_a0, c_eDs1 (c_gw g) m_a0, c_eD2 m_a0, c_eDs2 (c_gw g) m_a0, c_eI (f := 1013) m_a2_ rfl, c_eI (f := 1407) m_a6_ rfl, true_and, Option.some.injEq, exists_eq_left', c_xm, c_xn, c_xs]
    refine ⟨fun hc => ?_, fun hc => ?_⟩
    · have h := h.1 hc
      exact ub_X0_mayNotWait_25 g _ _  h hQ
    · have h := h.2 hc
      exact ub_X0_mayNotWait_20 g _  h hQ
def kb_X7_setRelease_26 (L : c_L) (S : c_S) (as0 : Nat) (xs1 : Int32) (Q : c_S → Prop) : Prop := Q (cs_I S 1412 as0 xs1)
set_option maxRecDepth 100000 in
set_option maxHeartbeats 4000000 in
theorem ub_X7_setRelease_26 {L : c_L} {T : q_S} (g : c_G L T) (S : c_S) (as0 : Nat) (xs1 : Int32) (m_as0 : c_mk L 7 as0) {Q1 : c_S → Prop} {Q : Option Value → q_S → Prop} (h : kb_X7_setRelease_26 L  S as0 xs1 Q1) (hQ : ∀ K : c_S, Q1 K → Q none (c_E L K T)) : wb_X7_setRelease_26  (c_E L S T) (c_ob L 7 as0) xs1 Q := by
  unfold wb_X7_setRelease_26
  unfold kb_X7_setRelease_26 at h
  try simp only [c_gk g m_as0 8 rfl, c_eIs (f := 1412) (c_gw g) m_as0 rfl, true_and, Option.some.injEq, exists_eq_left', c_xm, c_xn, c_xs]
  exact hQ _ h
def km_X7_setRelease (L : c_L) (S : c_S) (a0 : Nat) (x1 : Int32) (Q : c_S → Prop) : Prop := ((c_I (cs_I S 1415 a0 x1) 1405 a0) ≤ 0 → (kb_X7_setRelease_26 L (cs_I S 1415 a0 x1) a0 (-1 : Int32) Q)) ∧ (¬ (c_I (cs_I S 1415 a0 x1) 1405 a0) ≤ 0 → (kb_X7_setRelease_26 L (cs_I S 1415 a0 x1) a0 ((c_I (cs_I S 1415 a0 x1) 1415 a0) + (c_I (cs_I S 1415 a0 x1) 1405 a0)) Q))
set_option maxRecDepth 100000 in
set_option maxHeartbeats 4000000 in
theorem um_X7_setRelease {L : c_L} {T : q_S} (g : c_G L T) (S : c_S) (a0 : Nat) (x1 : Int32) (m_a0 : c_mk L 7 a0) {Q1 : c_S → Prop} {Q : Option Value → q_S → Prop} (h : km_X7_setRelease L  S a0 x1 Q1) (hQ : ∀ K : c_S, Q1 K → Q none (c_E L K T)) : wm_X7_setRelease  (c_E L S T) (c_ob L 7 a0) x1 Q := by
  unfold wm_X7_setRelease
  unfold km_X7_setRelease at h
  try simp only [c_gk g m_a0 8 rfl, c_eI (f := 1405) m_a0 rfl, c_eI (f := 1415) m_a0 rfl, c_eIs (f := 1415) (c_gw g) m_a0 rfl, true_and, Option.some.injEq, exists_eq_left', c_xm, c_xn, c_xs]
  refine ⟨fun hc => ?_, fun hc => ?_⟩
  · have h := h.1 hc
    exact ub_X7_setRelease_26 g _ a0 _ m_a0 h hQ
  · have h := h.2 hc
    exact ub_X7_setRelease_26 g _ a0 _ m_a0 h hQ
def km_X5_makeWait (L : c_L) (S : c_S) (a0 : Nat) (r1 : Option Nat) (x2 : Int32) (x3 : Int32) (Q : c_S → Prop) : Prop := ∃ a1_ : Nat, r1 = some a1_ ∧ (c_mk L 7 a1_ ∧ (∀ S4_ : c_S, S4_ = (cs_I (cs_I (cs_I S 1409 a1_ (2 : Int32)) 1418 a1_ x2) 1413 a1_ x3) → (∀ S6_ : c_S, S6_ = (cs_I (cs_I S4_ 1015 a0 ((c_I S4_ 1015 a0) + (1 : Int32))) 1417 a1_ (c_I (cs_I S4_ 1015 a0 ((c_I S4_ 1015 a0) + (1 : Int32))) 1015 a0)) → (Q S6_))))
set_option maxRecDepth 100000 in
set_option maxHeartbeats 4000000 in
theorem um_X5_makeWait {L : c_L} {T : q_S} (g : c_G L T) (S : c_S) (a0 : Nat) (r1 : Option Nat) (x2 : Int32) (x3 : Int32) (m_a0 : c_mk L 5 a0) {Q1 : c_S → Prop} {Q : Option Value → q_S → Prop} (h : km_X5_makeWait L  S a0 r1 x2 x3 Q1) (hQ : ∀ K : c_S, Q1 K → Q none (c_E L K T)) : wm_X5_makeWait  (c_E L S T) (c_ob L 5 a0) (r1.map (c_ob L 7)) x2 x3 Q := by
  unfold wm_X5_makeWait
  unfold km_X5_makeWait at h
  try simp only [c_gk g m_a0 6 rfl, c_eI (f := 1015) m_a0 rfl, c_eIs (f := 1015) (c_gw g) m_a0 rfl, true_and, Option.some.injEq, exists_eq_left', c_xm, c_xn, c_xs]
  obtain ⟨a1_, e_a1_, m_a1_, h⟩ := h
  refine ⟨a1_, e_a1_, ?_⟩
  try simp only [c_gk g m_a0 6 rfl, c_gk g m_a1_ 8 rfl, c_eI (f := 1015) m_a0 rfl, c_eIs (f := 1015) (c_gw g) m_a0 rfl, c_eIs (f := 1409) (c_gw g) m_a1_ rfl, c_eIs (f := 1413) (c_gw g) m_a1_ rfl, c_eIs (f := 1417) (c_gw g) m_a1_ rfl, c_eIs (f := 1418) (c_gw g) m_a1_ rfl, true_and, Option.some.injEq, exists_eq_left', c_xm, c_xn, c_xs]
  refine fun S4_ e_S4_ => ?_
  have h := h S4_ e_S4_
  refine fun S6_ e_S6_ => ?_
  have h := h S6_ e_S6_
  exact hQ _ h
def km_X0_waitUntil (L : c_L) (S : c_S) (a0 : Nat) (x1 : Int32) (Q : Int32 → c_S → Prop) : Prop := km_X0_mayNotWait L S a0 (fun x4_ S3_ => ((x4_ = 0 → (∃ a7_ : Nat, (c_P S3_ 1 a0) = some a7_ ∧ (c_mk L 5 a7_ ∧ (km_X5_makeWait L S3_ a7_ (c_P S3_ 2 a0) (128 : Int32) x1 (fun S11_ => (Q (0 : Int32) S11_)))))) ∧ (¬ x4_ = 0 → (Q (3 : Int32) S3_))))
set_option maxRecDepth 100000 in
set_option maxHeartbeats 4000000 in
theorem um_X0_waitUntil {L : c_L} {T : q_S} (g : c_G L T) (S : c_S) (a0 : Nat) (x1 : Int32) (m_a0 : c_mk L 0 a0) {Q1 : Int32 → c_S → Prop} {Q : Option Value → q_S → Prop} (h : km_X0_waitUntil L  S a0 x1 Q1) (hQ : ∀ (v : Int32) (K : c_S), Q1 v K → Q (some (.int v)) (c_E L K T)) : wm_X0_waitUntil  (c_E L S T) (c_ob L 0 a0) x1 Q := by
  unfold wm_X0_waitUntil
  unfold km_X0_waitUntil at h
  try simp only [c_gk g m_a0 1 rfl, c_eD1 m_a0, c_eDs1 (c_gw g) m_a0, c_eD2 m_a0, c_eDs2 (c_gw g) m_a0, true_and, Option.some.injEq, exists_eq_left', c_xm, c_xn, c_xs]
  refine um_X0_mayNotWait g _ a0 m_a0 h (fun x4_ S3_ h => ?_)
  refine ⟨_, rfl, ?_⟩
  try simp only [c_gk g m_a0 1 rfl, c_eD1 m_a0, c_eDs1 (c_gw g) m_a0, c_eD2 m_a0, c_eDs2 (c_gw g) m_a0, true_and, Option.some.injEq, exists_eq_left', c_xm, c_xn, c_xs]
  refine ⟨fun hc => ?_, fun hc => ?_⟩
  · have h := h.1 hc
    obtain ⟨a7_, e_a7_, m_a7_, h⟩ := h
    refine ⟨a7_, e_a7_, ?_⟩
    try simp only [c_gk g m_a0 1 rfl, c_gk g m_a7_ 6 rfl, c_eD1 m_a0, c_eDs1 (c_gw g) m_a0, c_eD2 m_a0, c_eDs2 (c_gw g) m_a0, true_and, Option.some.injEq, exists_eq_left', c_xm, c_xn, c_xs]
    refine um_X5_makeWait g _ a7_ (c_P S3_ 2 a0) _ _ m_a7_ h (fun S11_ h => ?_)
    refine ⟨rfl, ?_⟩
    try simp only [c_gk g m_a0 1 rfl, c_gk g m_a7_ 6 rfl, c_eD1 m_a0, c_eDs1 (c_gw g) m_a0, c_eD2 m_a0, c_eDs2 (c_gw g) m_a0, true_and, Option.some.injEq, exists_eq_left', c_xm, c_xn, c_xs]
    exact hQ _ _ h
  · have h := h.2 hc
    exact hQ _ _ h
def kb_X0_waitForPeriod_17 (L : c_L) (S : c_S) (Q : Int32 → c_S → Prop) : Prop := Q (3 : Int32) S
set_option maxRecDepth 100000 in
set_option maxHeartbeats 4000000 in
theorem ub_X0_waitForPeriod_17 {L : c_L} {T : q_S} (g : c_G L T) (S : c_S)  {Q1 : Int32 → c_S → Prop} {Q : Option Value → q_S → Prop} (h : kb_X0_waitForPeriod_17 L  S Q1) (hQ : ∀ (v : Int32) (K : c_S), Q1 v K → Q (some (.int v)) (c_E L K T)) : wb_X0_waitForPeriod_17  (c_E L S T) Q := by
  unfold wb_X0_waitForPeriod_17
  unfold kb_X0_waitForPeriod_17 at h
  try simp only [true_and, Option.some.injEq, exists_eq_left', c_xm, c_xn, c_xs]
  exact hQ _ _ h
def km_X0_waitForPeriod (L : c_L) (S : c_S) (a0 : Nat) (Q : Int32 → c_S → Prop) : Prop := ∃ a2_ : Nat, (c_P S 2 a0) = some a2_ ∧ (c_mk L 7 a2_ ∧ (((c_I S 1404 a2_) = 0 → (kb_X0_waitForPeriod_17 L S Q)) ∧ (¬ (c_I S 1404 a2_) = 0 → (km_X0_mayNotWait L S a0 (fun x8_ S7_ => ((x8_ = 0 → (∃ a11_ : Nat, (c_P S7_ 2 a0) = some a11_ ∧ (c_mk L 7 a11_ ∧ (km_X7_setRelease L S7_ a11_ ((c_I S7_ 1415 a11_) + (c_I S7_ 1404 a11_)) (fun S15_ => (∃ a17_ : Nat, (c_P S15_ 2 a0) = some a17_ ∧ (c_mk L 7 a17_ ∧ (km_X0_waitUntil L S15_ a0 (c_I S15_ 1415 a17_) (fun x22_ S21_ => (Q x22_ S21_)))))))))) ∧ (¬ x8_ = 0 → (kb_X0_waitForPeriod_17 L S7_ Q))))))))
set_option maxRecDepth 100000 in
set_option maxHeartbeats 4000000 in
theorem um_X0_waitForPeriod {L : c_L} {T : q_S} (g : c_G L T) (S : c_S) (a0 : Nat) (m_a0 : c_mk L 0 a0) {Q1 : Int32 → c_S → Prop} {Q : Option Value → q_S → Prop} (h : km_X0_waitForPeriod L  S a0 Q1) (hQ : ∀ (v : Int32) (K : c_S), Q1 v K → Q (some (.int v)) (c_E L K T)) : wm_X0_waitForPeriod  (c_E L S T) (c_ob L 0 a0) Q := by
  unfold wm_X0_waitForPeriod
  unfold km_X0_waitForPeriod at h
  try simp only [c_gk g m_a0 1 rfl, c_eD2 m_a0, c_eDs2 (c_gw g) m_a0, true_and, Option.some.injEq, exists_eq_left', c_xm, c_xn, c_xs]
  obtain ⟨a2_, e_a2_, m_a2_, h⟩ := h
  refine ⟨a2_, e_a2_, ?_⟩
  try simp only [c_gk g m_a0 1 rfl, c_gk g m_a2_ 8 rfl, c_eD2 m_a0, c_eDs2 (c_gw g) m_a0, c_eI (f := 1404) m_a2_ rfl, c_eI (f := 1415) m_a2_ rfl, true_and, Option.some.injEq, exists_eq_left', c_xm, c_xn, c_xs]
  refine ⟨fun hc => ?_, fun hc => ?_⟩
  · have h := h.1 hc
    exact ub_X0_waitForPeriod_17 g _  h hQ
  · have h := h.2 hc
    refine um_X0_mayNotWait g _ a0 m_a0 h (fun x8_ S7_ h => ?_)
    refine ⟨_, rfl, ?_⟩
    try simp only [c_gk g m_a0 1 rfl, c_gk g m_a2_ 8 rfl, c_eD2 m_a0, c_eDs2 (c_gw g) m_a0, c_eI (f := 1404) m_a2_ rfl, c_eI (f := 1415) m_a2_ rfl, true_and, Option.some.injEq, exists_eq_left', c_xm, c_xn, c_xs]
    refine ⟨fun hc => ?_, fun hc => ?_⟩
    · have h := h.1 hc
      obtain ⟨a11_, e_a11_, m_a11_, h⟩ := h
      refine ⟨a11_, e_a11_, ?_⟩
      try simp only [c_gk g m_a0 1 rfl, c_gk g m_a2_ 8 rfl, c_gk g m_a11_ 8 rfl, c_eD2 m_a0, c_eDs2 (c_gw g) m_a0, c_eI (f := 1404) m_a2_ rfl, c_eI (f := 1415) m_a2_ rfl, c_eI (f := 1404) m_a11_ rfl, c_eI (f := 1415) m_a11_ rfl, true_and, Option.some.injEq, exists_eq_left', c_xm, c_xn, c_xs]
      refine um_X7_setRelease g _ a11_ _ m_a11_ h (fun S15_ h => ?_)
      refine ⟨rfl, ?_⟩
      try simp only [c_gk g m_a0 1 rfl, c_gk g m_a2_ 8 rfl, c_gk g m_a11_ 8 rfl, c_eD2 m_a0, c_eDs2 (c_gw g) m_a0, c_eI (f := 1404) m_a2_ rfl, c_eI (f := 1415) m_a2_ rfl, c_eI (f := 1404) m_a11_ rfl, c_eI (f := 1415) m_a11_ rfl, true_and, Option.some.injEq, exists_eq_left', c_xm, c_xn, c_xs]
      obtain ⟨a17_, e_a17_, m_a17_, h⟩ := h
      refine ⟨a17_, e_a17_, ?_⟩
      try simp only [c_gk g m_a0 1 rfl, c_gk g m_a2_ 8 rfl, c_gk g m_a11_ 8 rfl, c_gk g m_a17_ 8 rfl, c_eD2 m_a0, c_eDs2 (c_gw g) m_a0, c_eI (f := 1404) m_a2_ rfl, c_eI (f := 1415) m_a2_ rfl, c_eI (f := 1404) m_a11_ rfl, c_eI (f := 1415) m_a11_ rfl, c_eI (f := 1404) m_a17_ rfl, c_eI (f := 1415) m_a17_ rfl, true_and, Option.some.injEq, exists_eq_left', c_xm, c_xn, c_xs]
      refine um_X0_waitUntil g _ a0 _ m_a0 h (fun x22_ S21_ h => ?_)
      refine ⟨_, rfl, ?_⟩
      try simp only [c_gk g m_a0 1 rfl, c_gk g m_a2_ 8 rfl, c_gk g m_a11_ 8 rfl, c_gk g m_a17_ 8 rfl, c_eD2 m_a0, c_eDs2 (c_gw g) m_a0, c_eI (f := 1404) m_a2_ rfl, c_eI (f := 1415) m_a2_ rfl, c_eI (f := 1404) m_a11_ rfl, c_eI (f := 1415) m_a11_ rfl, c_eI (f := 1404) m_a17_ rfl, c_eI (f := 1415) m_a17_ rfl, true_and, Option.some.injEq, exists_eq_left', c_xm, c_xn, c_xs]
      exact hQ _ _ h
    · have h := h.2 hc
      exact ub_X0_waitForPeriod_17 g _  h hQ
def kb_X0_isNoDelay_16 (L : c_L) (S : c_S) (xs0 : Int32) (Q : Int32 → c_S → Prop) : Prop := narrow .boolean (.int xs0) = .int xs0 ∧ (Q xs0 S)
set_option maxRecDepth 100000 in
set_option maxHeartbeats 4000000 in
theorem ub_X0_isNoDelay_16 {L : c_L} {T : q_S} (g : c_G L T) (S : c_S) (xs0 : Int32)  {Q1 : Int32 → c_S → Prop} {Q : Option Value → q_S → Prop} (h : kb_X0_isNoDelay_16 L  S xs0 Q1) (hQ : ∀ (v : Int32) (K : c_S), Q1 v K → Q (some (.int v)) (c_E L K T)) : wb_X0_isNoDelay_16  (c_E L S T) xs0 Q := by
  unfold wb_X0_isNoDelay_16
  unfold kb_X0_isNoDelay_16 at h
  try simp only [true_and, Option.some.injEq, exists_eq_left', c_xm, c_xn, c_xs]
  refine ⟨h.1, ?_⟩
  have h := h.2
  exact hQ _ _ h
def kb_X0_isNoDelay_11 (L : c_L) (S : c_S) (Q : Int32 → c_S → Prop) : Prop := kb_X0_isNoDelay_16 L S (1 : Int32) Q
set_option maxRecDepth 100000 in
set_option maxHeartbeats 4000000 in
theorem ub_X0_isNoDelay_11 {L : c_L} {T : q_S} (g : c_G L T) (S : c_S)  {Q1 : Int32 → c_S → Prop} {Q : Option Value → q_S → Prop} (h : kb_X0_isNoDelay_11 L  S Q1) (hQ : ∀ (v : Int32) (K : c_S), Q1 v K → Q (some (.int v)) (c_E L K T)) : wb_X0_isNoDelay_11  (c_E L S T) Q := by
  unfold wb_X0_isNoDelay_11
  unfold kb_X0_isNoDelay_11 at h
  try simp only [true_and, Option.some.injEq, exists_eq_left', c_xm, c_xn, c_xs]
  exact ub_X0_isNoDelay_16 g _ _  h hQ
def km_X0_isNoDelay (L : c_L) (S : c_S) (a0 : Nat) (x1 : Int32) (Q : Int32 → c_S → Prop) : Prop := (x1 < (1 : Int32) → (kb_X0_isNoDelay_11 L S Q)) ∧ (¬ x1 < (1 : Int32) → ((x1 ≤ (100000 : Int32) → (kb_X0_isNoDelay_16 L S (0 : Int32) Q)) ∧ (¬ x1 ≤ (100000 : Int32) → (kb_X0_isNoDelay_11 L S Q))))
set_option maxRecDepth 100000 in
set_option maxHeartbeats 4000000 in
theorem um_X0_isNoDelay {L : c_L} {T : q_S} (g : c_G L T) (S : c_S) (a0 : Nat) (x1 : Int32) (m_a0 : c_mk L 0 a0) {Q1 : Int32 → c_S → Prop} {Q : Option Value → q_S → Prop} (h : km_X0_isNoDelay L  S a0 x1 Q1) (hQ : ∀ (v : Int32) (K : c_S), Q1 v K → Q (some (.int v)) (c_E L K T)) : wm_X0_isNoDelay  (c_E L S T) (c_ob L 0 a0) x1 Q := by
  unfold wm_X0_isNoDelay
  unfold km_X0_isNoDelay at h
  try simp only [c_gk g m_a0 1 rfl, true_and, Option.some.injEq, exists_eq_left', c_xm, c_xn, c_xs]
  refine ⟨fun hc => ?_, fun hc => ?_⟩
  · have h := h.1 hc
    exact ub_X0_isNoDelay_11 g _  h hQ
  · have h := h.2 hc
    refine ⟨fun hc => ?_, fun hc => ?_⟩
    · have h := h.1 hc
      exact ub_X0_isNoDelay_16 g _ _  h hQ
    · have h := h.2 hc
      exact ub_X0_isNoDelay_11 g _  h hQ
def km_X7_restart (L : c_L) (S : c_S) (a0 : Nat) (Q : c_S → Prop) : Prop := km_J7_fill_53178 L S 1411 a0 (0 : Int32) (fun S3_ => (Q (cs_I (cs_I S3_ 1410 a0 (c_I S3_ 1402 a0)) 1416 a0 (0 : Int32))))
set_option maxRecDepth 100000 in
set_option maxHeartbeats 4000000 in
theorem um_X7_restart {L : c_L} {T : q_S} (g : c_G L T) (S : c_S) (a0 : Nat) (m_a0 : c_mk L 7 a0) {Q1 : c_S → Prop} {Q : Option Value → q_S → Prop} (h : km_X7_restart L  S a0 Q1) (hQ : ∀ K : c_S, Q1 K → Q none (c_E L K T)) : wm_X7_restart  (c_E L S T) (c_ob L 7 a0) Q := by
  unfold wm_X7_restart
  unfold km_X7_restart at h
  try simp only [c_gk g m_a0 8 rfl, c_eI (f := 1402) m_a0 rfl, c_eIs (f := 1410) (c_gw g) m_a0 rfl, c_eIs (f := 1416) (c_gw g) m_a0 rfl, true_and, Option.some.injEq, exists_eq_left', c_xm, c_xn, c_xs]
  have n1411_a0 := c_gA g 1411 rfl (by decide) m_a0
  try simp only [c_gk g m_a0 8 rfl, c_gr g n1411_a0 21 rfl, c_gN g n1411_a0 32 (by decide), c_eA n1411_a0, c_eAs (c_gw g) n1411_a0, c_ga g 1411 rfl rfl (by decide) m_a0, c_eI (f := 1402) m_a0 rfl, c_eIs (f := 1410) (c_gw g) m_a0 rfl, c_eIs (f := 1416) (c_gw g) m_a0 rfl, true_and, Option.some.injEq, exists_eq_left', c_xm, c_xn, c_xs]
  refine um_J7_fill_53178 g _ 1411 a0 _ n1411_a0 h (fun S3_ h => ?_)
  refine ⟨rfl, ?_⟩
  try simp only [c_gk g m_a0 8 rfl, c_gr g n1411_a0 21 rfl, c_gN g n1411_a0 32 (by decide), c_eA n1411_a0, c_eAs (c_gw g) n1411_a0, c_ga g 1411 rfl rfl (by decide) m_a0, c_eI (f := 1402) m_a0 rfl, c_eIs (f := 1410) (c_gw g) m_a0 rfl, c_eIs (f := 1416) (c_gw g) m_a0 rfl, true_and, Option.some.injEq, exists_eq_left', c_xm, c_xn, c_xs]
  exact hQ _ h
def km_X5_makeReady (L : c_L) (S : c_S) (a0 : Nat) (r1 : Option Nat) (Q : c_S → Prop) : Prop := ∃ a1_ : Nat, r1 = some a1_ ∧ (c_mk L 7 a1_ ∧ (∀ S4_ : c_S, S4_ = (cs_I (cs_I (cs_I S 1409 a1_ (1 : Int32)) 1418 a1_ (-1 : Int32)) 1413 a1_ (-1 : Int32)) → (∀ S6_ : c_S, S6_ = (cs_I (cs_I S4_ 1015 a0 ((c_I S4_ 1015 a0) + (1 : Int32))) 1417 a1_ (c_I (cs_I S4_ 1015 a0 ((c_I S4_ 1015 a0) + (1 : Int32))) 1015 a0)) → (Q S6_))))
set_option maxRecDepth 100000 in
set_option maxHeartbeats 4000000 in
theorem um_X5_makeReady {L : c_L} {T : q_S} (g : c_G L T) (S : c_S) (a0 : Nat) (r1 : Option Nat) (m_a0 : c_mk L 5 a0) {Q1 : c_S → Prop} {Q : Option Value → q_S → Prop} (h : km_X5_makeReady L  S a0 r1 Q1) (hQ : ∀ K : c_S, Q1 K → Q none (c_E L K T)) : wm_X5_makeReady  (c_E L S T) (c_ob L 5 a0) (r1.map (c_ob L 7)) Q := by
  unfold wm_X5_makeReady
  unfold km_X5_makeReady at h
  try simp only [c_gk g m_a0 6 rfl, c_eI (f := 1015) m_a0 rfl, c_eIs (f := 1015) (c_gw g) m_a0 rfl, true_and, Option.some.injEq, exists_eq_left', c_xm, c_xn, c_xs]
  obtain ⟨a1_, e_a1_, m_a1_, h⟩ := h
  refine ⟨a1_, e_a1_, ?_⟩
  try simp only [c_gk g m_a0 6 rfl, c_gk g m_a1_ 8 rfl, c_eI (f := 1015) m_a0 rfl, c_eIs (f := 1015) (c_gw g) m_a0 rfl, c_eIs (f := 1409) (c_gw g) m_a1_ rfl, c_eIs (f := 1413) (c_gw g) m_a1_ rfl, c_eIs (f := 1417) (c_gw g) m_a1_ rfl, c_eIs (f := 1418) (c_gw g) m_a1_ rfl, true_and, Option.some.injEq, exists_eq_left', c_xm, c_xn, c_xs]
  refine fun S4_ e_S4_ => ?_
  have h := h S4_ e_S4_
  refine fun S6_ e_S6_ => ?_
  have h := h S6_ e_S6_
  exact hQ _ h
def kb_X5_start_47 (L : c_L) (S : c_S) (Q : c_S → Prop) : Prop := Q S
set_option maxRecDepth 100000 in
set_option maxHeartbeats 4000000 in
theorem ub_X5_start_47 {L : c_L} {T : q_S} (g : c_G L T) (S : c_S)  {Q1 : c_S → Prop} {Q : Option Value → q_S → Prop} (h : kb_X5_start_47 L  S Q1) (hQ : ∀ K : c_S, Q1 K → Q none (c_E L K T)) : wb_X5_start_47  (c_E L S T) Q := by
  unfold wb_X5_start_47
  unfold kb_X5_start_47 at h
  try simp only [true_and, Option.some.injEq, exists_eq_left', c_xm, c_xn, c_xs]
  exact hQ _ h
def kb_X5_start_25 (L : c_L) (S : c_S) (a0 : Nat) (r1 : Option Nat) (x2 : Int32) (x3 : Int32) (Q : c_S → Prop) : Prop := (x2 ≤ x3 → (km_X5_makeReady L S a0 r1 (fun S4_ => (kb_X5_start_47 L S4_ Q)))) ∧ (¬ x2 ≤ x3 → (km_X5_makeWait L S a0 r1 (128 : Int32) x2 (fun S7_ => (kb_X5_start_47 L S7_ Q))))
set_option maxRecDepth 100000 in
set_option maxHeartbeats 4000000 in
theorem ub_X5_start_25 {L : c_L} {T : q_S} (g : c_G L T) (S : c_S) (a0 : Nat) (r1 : Option Nat) (x2 : Int32) (x3 : Int32) (m_a0 : c_mk L 5 a0) {Q1 : c_S → Prop} {Q : Option Value → q_S → Prop} (h : kb_X5_start_25 L  S a0 r1 x2 x3 Q1) (hQ : ∀ K : c_S, Q1 K → Q none (c_E L K T)) : wb_X5_start_25  (c_E L S T) (c_ob L 5 a0) (r1.map (c_ob L 7)) x2 x3 Q := by
  unfold wb_X5_start_25
  unfold kb_X5_start_25 at h
  try simp only [c_gk g m_a0 6 rfl, true_and, Option.some.injEq, exists_eq_left', c_xm, c_xn, c_xs]
  refine ⟨fun hc => ?_, fun hc => ?_⟩
  · have h := h.1 hc
    refine um_X5_makeReady g _ a0 r1 m_a0 h (fun S4_ h => ?_)
    refine ⟨rfl, ?_⟩
    try simp only [c_gk g m_a0 6 rfl, true_and, Option.some.injEq, exists_eq_left', c_xm, c_xn, c_xs]
    exact ub_X5_start_47 g _  h hQ
  · have h := h.2 hc
    refine um_X5_makeWait g _ a0 r1 _ _ m_a0 h (fun S7_ h => ?_)
    refine ⟨rfl, ?_⟩
    try simp only [c_gk g m_a0 6 rfl, true_and, Option.some.injEq, exists_eq_left', c_xm, c_xn, c_xs]
    exact ub_X5_start_47 g _  h hQ
def km_X5_start (L : c_L) (S : c_S) (a0 : Nat) (r1 : Option Nat) (x2 : Int32) (x3 : Int32) (Q : c_S → Prop) : Prop := ∃ a8_ : Nat, r1 = some a8_ ∧ (c_mk L 7 a8_ ∧ (km_X7_restart L S a8_ (fun S12_ => (km_X7_setRelease L S12_ a8_ x2 (fun S15_ => ((¬ (c_I S15_ 1400 a8_) = (c_I S15_ 1016 a0) → (kb_X5_start_25 L S15_ a0 r1 x2 x3 Q)) ∧ ((c_I S15_ 1400 a8_) = (c_I S15_ 1016 a0) → (kb_X5_start_25 L (cs_I S15_ 1016 a0 (-1 : Int32)) a0 r1 x2 x3 Q))))))))
set_option maxRecDepth 100000 in
set_option maxHeartbeats 4000000 in
theorem um_X5_start {L : c_L} {T : q_S} (g : c_G L T) (S : c_S) (a0 : Nat) (r1 : Option Nat) (x2 : Int32) (x3 : Int32) (m_a0 : c_mk L 5 a0) {Q1 : c_S → Prop} {Q : Option Value → q_S → Prop} (h : km_X5_start L  S a0 r1 x2 x3 Q1) (hQ : ∀ K : c_S, Q1 K → Q none (c_E L K T)) : wm_X5_start  (c_E L S T) (c_ob L 5 a0) (r1.map (c_ob L 7)) x2 x3 Q := by
  unfold wm_X5_start
  unfold km_X5_start at h
  try simp only [c_gk g m_a0 6 rfl, c_eI (f := 1016) m_a0 rfl, c_eIs (f := 1016) (c_gw g) m_a0 rfl, true_and, Option.some.injEq, exists_eq_left', c_xm, c_xn, c_xs]
  obtain ⟨a8_, e_a8_, m_a8_, h⟩ := h
  refine ⟨a8_, e_a8_, ?_⟩
  try simp only [c_gk g m_a0 6 rfl, c_gk g m_a8_ 8 rfl, c_eI (f := 1016) m_a0 rfl, c_eIs (f := 1016) (c_gw g) m_a0 rfl, c_eI (f := 1400) m_a8_ rfl, true_and, Option.some.injEq, exists_eq_left', c_xm, c_xn, c_xs]
  refine um_X7_restart g _ a8_ m_a8_ h (fun S12_ h => ?_)
  refine ⟨rfl, ?_⟩
  try simp only [c_gk g m_a0 6 rfl, c_gk g m_a8_ 8 rfl, c_eI (f := 1016) m_a0 rfl, c_eIs (f := 1016) (c_gw g) m_a0 rfl, c_eI (f := 1400) m_a8_ rfl, true_and, Option.some.injEq, exists_eq_left', c_xm, c_xn, c_xs]
  refine um_X7_setRelease g _ a8_ _ m_a8_ h (fun S15_ h => ?_)
  refine ⟨rfl, ?_⟩
  try simp only [c_gk g m_a0 6 rfl, c_gk g m_a8_ 8 rfl, c_eI (f := 1016) m_a0 rfl, c_eIs (f := 1016) (c_gw g) m_a0 rfl, c_eI (f := 1400) m_a8_ rfl, true_and, Option.some.injEq, exists_eq_left', c_xm, c_xn, c_xs]
  refine ⟨fun hc => ?_, fun hc => ?_⟩
  · have h := h.1 hc
    exact ub_X5_start_25 g _ a0 r1 _ _ m_a0 h hQ
  · have h := h.2 hc
    exact ub_X5_start_25 g _ a0 r1 _ _ m_a0 h hQ
def km_X0_startOther (L : c_L) (S : c_S) (a0 : Nat) (x1 : Int32) (x2 : Int32) (Q : Int32 → c_S → Prop) : Prop := ∃ a2_ : Nat, (c_P S 1 a0) = some a2_ ∧ (c_mk L 5 a2_ ∧ (km_X5_processAt L S a2_ x1 (fun r7_ S6_ => ((¬ r7_ = none → (∃ a9_ : Nat, r7_ = some a9_ ∧ (c_mk L 7 a9_ ∧ (((c_I S6_ 1409 a9_) = 0 → (((c_I S6_ 1407 a9_) = 0 → (∃ a15_ : Nat, (c_P S6_ 1 a0) = some a15_ ∧ (c_mk L 5 a15_ ∧ (km_X5_start L S6_ a15_ r7_ ((c_I S6_ 4 a0) + x2) (c_I S6_ 4 a0) (fun S19_ => (Q (0 : Int32) S19_)))))) ∧ (¬ (c_I S6_ 1407 a9_) = 0 → (Q (1 : Int32) S6_)))) ∧ (¬ (c_I S6_ 1409 a9_) = 0 → (Q (2 : Int32) S6_)))))) ∧ (r7_ = none → (Q (1 : Int32) S6_))))))
set_option maxRecDepth 100000 in
set_option maxHeartbeats 4000000 in
theorem um_X0_startOther {L : c_L} {T : q_S} (g : c_G L T) (S : c_S) (a0 : Nat) (x1 : Int32) (x2 : Int32) (m_a0 : c_mk L 0 a0) {Q1 : Int32 → c_S → Prop} {Q : Option Value → q_S → Prop} (h : km_X0_startOther L  S a0 x1 x2 Q1) (hQ : ∀ (v : Int32) (K : c_S), Q1 v K → Q (some (.int v)) (c_E L K T)) : wm_X0_startOther  (c_E L S T) (c_ob L 0 a0) x1 x2 Q := by
  unfold wm_X0_startOther
  unfold km_X0_startOther at h
  try simp only [c_gk g m_a0 1 rfl, c_eI (f := 4) m_a0 rfl, c_eD1 m_a0, c_eDs1 (c_gw g) m_a0, true_and, Option.some.injEq, exists_eq_left', c_xm, c_xn, c_xs]
  obtain ⟨a2_, e_a2_, m_a2_, h⟩ := h
  refine ⟨a2_, e_a2_, ?_⟩
  try simp only [c_gk g m_a0 1 rfl, c_gk g m_a2_ 6 rfl, c_eI (f := 4) m_a0 rfl, c_eD1 m_a0, c_eDs1 (c_gw g) m_a0, true_and, Option.some.injEq, exists_eq_left', c_xm, c_xn, c_xs]
  refine um_X5_processAt g _ a2_ _ m_a2_ h (fun r7_ S6_ h => ?_)
  refine ⟨_, rfl, ?_⟩
  try simp only [c_gk g m_a0 1 rfl, c_gk g m_a2_ 6 rfl, c_eI (f := 4) m_a0 rfl, c_eD1 m_a0, c_eDs1 (c_gw g) m_a0, true_and, Option.some.injEq, exists_eq_left', c_xm, c_xn, c_xs]
  refine ⟨fun hc => ?_, fun hc => ?_⟩
  · have h := h.1 hc
    obtain ⟨a9_, e_a9_, m_a9_, h⟩ := h
    refine ⟨a9_, e_a9_, ?_⟩
    try simp only [c_gk g m_a0 1 rfl, c_gk g m_a2_ 6 rfl, c_gk g m_a9_ 8 rfl, c_eI (f := 4) m_a0 rfl, c_eD1 m_a0, c_eDs1 (c_gw g) m_a0, c_eI (f := 1407) m_a9_ rfl, c_eI (f := 1409) m_a9_ rfl, true_and, Option.some.injEq, exists_eq_left', c_xm, c_xn, c_xs]
    refine ⟨fun hc => ?_, fun hc => ?_⟩
    · have h := h.1 hc
      refine ⟨fun hc => ?_, fun hc => ?_⟩
      · have h := h.1 hc
        obtain ⟨a15_, e_a15_, m_a15_, h⟩ := h
        refine ⟨a15_, e_a15_, ?_⟩
        try simp only [c_gk g m_a0 1 rfl, c_gk g m_a2_ 6 rfl, c_gk g m_a9_ 8 rfl, c_gk g m_a15_ 6 rfl, c_eI (f := 4) m_a0 rfl, c_eD1 m_a0, c_eDs1 (c_gw g) m_a0, c_eI (f := 1407) m_a9_ rfl, c_eI (f := 1409) m_a9_ rfl, true_and, Option.some.injEq, exists_eq_left', c_xm, c_xn, c_xs]
        refine um_X5_start g _ a15_ r7_ _ _ m_a15_ h (fun S19_ h => ?_)
        refine ⟨rfl, ?_⟩
        try simp only [c_gk g m_a0 1 rfl, c_gk g m_a2_ 6 rfl, c_gk g m_a9_ 8 rfl, c_gk g m_a15_ 6 rfl, c_eI (f := 4) m_a0 rfl, c_eD1 m_a0, c_eDs1 (c_gw g) m_a0, c_eI (f := 1407) m_a9_ rfl, c_eI (f := 1409) m_a9_ rfl, true_and, Option.some.injEq, exists_eq_left', c_xm, c_xn, c_xs]
        exact hQ _ _ h
      · have h := h.2 hc
        exact hQ _ _ h
    · have h := h.2 hc
      exact hQ _ _ h
  · have h := h.2 hc
    exact hQ _ _ h
def kb_X0_stopOther_20 (L : c_L) (S : c_S) (Q : Int32 → c_S → Prop) : Prop := Q (1 : Int32) S
set_option maxRecDepth 100000 in
set_option maxHeartbeats 4000000 in
theorem ub_X0_stopOther_20 {L : c_L} {T : q_S} (g : c_G L T) (S : c_S)  {Q1 : Int32 → c_S → Prop} {Q : Option Value → q_S → Prop} (h : kb_X0_stopOther_20 L  S Q1) (hQ : ∀ (v : Int32) (K : c_S), Q1 v K → Q (some (.int v)) (c_E L K T)) : wb_X0_stopOther_20  (c_E L S T) Q := by
  unfold wb_X0_stopOther_20
  unfold kb_X0_stopOther_20 at h
  try simp only [true_and, Option.some.injEq, exists_eq_left', c_xm, c_xn, c_xs]
  exact hQ _ _ h
def kb_X0_stopOther_52 (L : c_L) (S : c_S) (xs0 : Int32) (Q : Int32 → c_S → Prop) : Prop := Q xs0 S
set_option maxRecDepth 100000 in
set_option maxHeartbeats 4000000 in
theorem ub_X0_stopOther_52 {L : c_L} {T : q_S} (g : c_G L T) (S : c_S) (xs0 : Int32)  {Q1 : Int32 → c_S → Prop} {Q : Option Value → q_S → Prop} (h : kb_X0_stopOther_52 L  S xs0 Q1) (hQ : ∀ (v : Int32) (K : c_S), Q1 v K → Q (some (.int v)) (c_E L K T)) : wb_X0_stopOther_52  (c_E L S T) xs0 Q := by
  unfold wb_X0_stopOther_52
  unfold kb_X0_stopOther_52 at h
  try simp only [true_and, Option.some.injEq, exists_eq_left', c_xm, c_xn, c_xs]
  exact hQ _ _ h
def km_X0_stopOther (L : c_L) (S : c_S) (a0 : Nat) (x1 : Int32) (Q : Int32 → c_S → Prop) : Prop := ∃ a2_ : Nat, (c_P S 1 a0) = some a2_ ∧ (c_mk L 5 a2_ ∧ (km_X5_processAt L S a2_ x1 (fun r7_ S6_ => ((r7_ = none → (kb_X0_stopOther_20 L S6_ Q)) ∧ (¬ r7_ = none → (∃ a9_ : Nat, r7_ = some a9_ ∧ (c_mk L 7 a9_ ∧ (((c_I S6_ 1407 a9_) = 0 → ((¬ (c_I S6_ 1409 a9_) = 0 → (∃ a15_ : Nat, (c_P S6_ 1 a0) = some a15_ ∧ (c_mk L 5 a15_ ∧ (km_X5_rest L S6_ a15_ r7_ (fun S19_ => ((∀ i : Nat, r7_ = some i → c_mk L 7 i) ∧ (∀ i : Nat, (c_P S19_ 2 a0) = some i → c_mk L 7 i) ∧ ((¬ r7_ = (c_P S19_ 2 a0) → (kb_X0_stopOther_52 L S19_ (0 : Int32) Q)) ∧ (r7_ = (c_P S19_ 2 a0) → (kb_X0_stopOther_52 L S19_ (-1 : Int32) Q))))))))) ∧ ((c_I S6_ 1409 a9_) = 0 → (Q (2 : Int32) S6_)))) ∧ (¬ (c_I S6_ 1407 a9_) = 0 → (kb_X0_stopOther_20 L S6_ Q))))))))))
set_option maxRecDepth 100000 in
set_option maxHeartbeats 4000000 in
theorem um_X0_stopOther {L : c_L} {T : q_S} (g : c_G L T) (S : c_S) (a0 : Nat) (x1 : Int32) (m_a0 : c_mk L 0 a0) {Q1 : Int32 → c_S → Prop} {Q : Option Value → q_S → Prop} (h : km_X0_stopOther L  S a0 x1 Q1) (hQ : ∀ (v : Int32) (K : c_S), Q1 v K → Q (some (.int v)) (c_E L K T)) : wm_X0_stopOther  (c_E L S T) (c_ob L 0 a0) x1 Q := by
  unfold wm_X0_stopOther
  unfold km_X0_stopOther at h
  try simp only [c_gk g m_a0 1 rfl, c_eD1 m_a0, c_eDs1 (c_gw g) m_a0, c_eD2 m_a0, c_eDs2 (c_gw g) m_a0, true_and, Option.some.injEq, exists_eq_left', c_xm, c_xn, c_xs]
  obtain ⟨a2_, e_a2_, m_a2_, h⟩ := h
  refine ⟨a2_, e_a2_, ?_⟩
  try simp only [c_gk g m_a0 1 rfl, c_gk g m_a2_ 6 rfl, c_eD1 m_a0, c_eDs1 (c_gw g) m_a0, c_eD2 m_a0, c_eDs2 (c_gw g) m_a0, true_and, Option.some.injEq, exists_eq_left', c_xm, c_xn, c_xs]
  refine um_X5_processAt g _ a2_ _ m_a2_ h (fun r7_ S6_ h => ?_)
  refine ⟨_, rfl, ?_⟩
  try simp only [c_gk g m_a0 1 rfl, c_gk g m_a2_ 6 rfl, c_eD1 m_a0, c_eDs1 (c_gw g) m_a0, c_eD2 m_a0, c_eDs2 (c_gw g) m_a0, true_and, Option.some.injEq, exists_eq_left', c_xm, c_xn, c_xs]
  refine ⟨fun hc => ?_, fun hc => ?_⟩
  · have h := h.1 hc
    exact ub_X0_stopOther_20 g _  h hQ
  · have h := h.2 hc
    obtain ⟨a9_, e_a9_, m_a9_, h⟩ := h
    refine ⟨a9_, e_a9_, ?_⟩
    try simp only [c_gk g m_a0 1 rfl, c_gk g m_a2_ 6 rfl, c_gk g m_a9_ 8 rfl, c_eD1 m_a0, c_eDs1 (c_gw g) m_a0, c_eD2 m_a0, c_eDs2 (c_gw g) m_a0, c_eI (f := 1407) m_a9_ rfl, c_eI (f := 1409) m_a9_ rfl, true_and, Option.some.injEq, exists_eq_left', c_xm, c_xn, c_xs]
    refine ⟨fun hc => ?_, fun hc => ?_⟩
    · have h := h.1 hc
      refine ⟨fun hc => ?_, fun hc => ?_⟩
      · have h := h.1 hc
        obtain ⟨a15_, e_a15_, m_a15_, h⟩ := h
        refine ⟨a15_, e_a15_, ?_⟩
        try simp only [c_gk g m_a0 1 rfl, c_gk g m_a2_ 6 rfl, c_gk g m_a9_ 8 rfl, c_gk g m_a15_ 6 rfl, c_eD1 m_a0, c_eDs1 (c_gw g) m_a0, c_eD2 m_a0, c_eDs2 (c_gw g) m_a0, c_eI (f := 1407) m_a9_ rfl, c_eI (f := 1409) m_a9_ rfl, true_and, Option.some.injEq, exists_eq_left', c_xm, c_xn, c_xs]
        refine um_X5_rest g _ a15_ r7_ m_a15_ h (fun S19_ h => ?_)
        refine ⟨rfl, ?_⟩
        try simp only [c_gk g m_a0 1 rfl, c_gk g m_a2_ 6 rfl, c_gk g m_a9_ 8 rfl, c_gk g m_a15_ 6 rfl, c_eD1 m_a0, c_eDs1 (c_gw g) m_a0, c_eD2 m_a0, c_eDs2 (c_gw g) m_a0, c_eI (f := 1407) m_a9_ rfl, c_eI (f := 1409) m_a9_ rfl, true_and, Option.some.injEq, exists_eq_left', c_xm, c_xn, c_xs]
        obtain ⟨hg1, hg2, h⟩ := h
        simp only [c_xe (c_gw g) hg1 hg2]
        refine ⟨fun hc => ?_, fun hc => ?_⟩
        · have h := h.1 hc
          exact ub_X0_stopOther_52 g _ _  h hQ
        · have h := h.2 hc
          exact ub_X0_stopOther_52 g _ _  h hQ
      · have h := h.2 hc
        exact hQ _ _ h
    · have h := h.2 hc
      exact ub_X0_stopOther_20 g _  h hQ
def kb_X0_setPriority_23 (L : c_L) (S : c_S) (Q : Int32 → c_S → Prop) : Prop := Q (1 : Int32) S
set_option maxRecDepth 100000 in
set_option maxHeartbeats 4000000 in
theorem ub_X0_setPriority_23 {L : c_L} {T : q_S} (g : c_G L T) (S : c_S)  {Q1 : Int32 → c_S → Prop} {Q : Option Value → q_S → Prop} (h : kb_X0_setPriority_23 L  S Q1) (hQ : ∀ (v : Int32) (K : c_S), Q1 v K → Q (some (.int v)) (c_E L K T)) : wb_X0_setPriority_23  (c_E L S T) Q := by
  unfold wb_X0_setPriority_23
  unfold kb_X0_setPriority_23 at h
  try simp only [true_and, Option.some.injEq, exists_eq_left', c_xm, c_xn, c_xs]
  exact hQ _ _ h
def km_X0_setPriority (L : c_L) (S : c_S) (a0 : Nat) (x1 : Int32) (x2 : Int32) (Q : Int32 → c_S → Prop) : Prop := ∃ a2_ : Nat, (c_P S 1 a0) = some a2_ ∧ (c_mk L 5 a2_ ∧ (km_X5_processAt L S a2_ x1 (fun r7_ S6_ => ((r7_ = none → (kb_X0_setPriority_23 L S6_ Q)) ∧ (¬ r7_ = none → ((x2 < 0 → (kb_X0_setPriority_23 L S6_ Q)) ∧ (¬ x2 < 0 → ((x2 ≤ (15 : Int32) → (∃ a11_ : Nat, r7_ = some a11_ ∧ (c_mk L 7 a11_ ∧ (Q (0 : Int32) (cs_I S6_ 1403 a11_ x2))))) ∧ (¬ x2 ≤ (15 : Int32) → (kb_X0_setPriority_23 L S6_ Q))))))))))
set_option maxRecDepth 100000 in
set_option maxHeartbeats 4000000 in
theorem um_X0_setPriority {L : c_L} {T : q_S} (g : c_G L T) (S : c_S) (a0 : Nat) (x1 : Int32) (x2 : Int32) (m_a0 : c_mk L 0 a0) {Q1 : Int32 → c_S → Prop} {Q : Option Value → q_S → Prop} (h : km_X0_setPriority L  S a0 x1 x2 Q1) (hQ : ∀ (v : Int32) (K : c_S), Q1 v K → Q (some (.int v)) (c_E L K T)) : wm_X0_setPriority  (c_E L S T) (c_ob L 0 a0) x1 x2 Q := by
  unfold wm_X0_setPriority
  unfold km_X0_setPriority at h
  try simp only [c_gk g m_a0 1 rfl, c_eD1 m_a0, c_eDs1 (c_gw g) m_a0, true_and, Option.some.injEq, exists_eq_left', c_xm, c_xn, c_xs]
  obtain ⟨a2_, e_a2_, m_a2_, h⟩ := h
  refine ⟨a2_, e_a2_, ?_⟩
  try simp only [c_gk g m_a0 1 rfl, c_gk g m_a2_ 6 rfl, c_eD1 m_a0, c_eDs1 (c_gw g) m_a0, true_and, Option.some.injEq, exists_eq_left', c_xm, c_xn, c_xs]
  refine um_X5_processAt g _ a2_ _ m_a2_ h (fun r7_ S6_ h => ?_)
  refine ⟨_, rfl, ?_⟩
  try simp only [c_gk g m_a0 1 rfl, c_gk g m_a2_ 6 rfl, c_eD1 m_a0, c_eDs1 (c_gw g) m_a0, true_and, Option.some.injEq, exists_eq_left', c_xm, c_xn, c_xs]
  refine ⟨fun hc => ?_, fun hc => ?_⟩
  · have h := h.1 hc
    exact ub_X0_setPriority_23 g _  h hQ
  · have h := h.2 hc
    refine ⟨fun hc => ?_, fun hc => ?_⟩
    · have h := h.1 hc
      exact ub_X0_setPriority_23 g _  h hQ
    · have h := h.2 hc
      refine ⟨fun hc => ?_, fun hc => ?_⟩
      · have h := h.1 hc
        obtain ⟨a11_, e_a11_, m_a11_, h⟩ := h
        refine ⟨a11_, e_a11_, ?_⟩
        try simp only [c_gk g m_a0 1 rfl, c_gk g m_a2_ 6 rfl, c_gk g m_a11_ 8 rfl, c_eD1 m_a0, c_eDs1 (c_gw g) m_a0, c_eIs (f := 1403) (c_gw g) m_a11_ rfl, true_and, Option.some.injEq, exists_eq_left', c_xm, c_xn, c_xs]
        exact hQ _ _ h
      · have h := h.2 hc
        exact ub_X0_setPriority_23 g _  h hQ
def km_X5_toTheBack (L : c_L) (S : c_S) (a0 : Nat) (r1 : Option Nat) (Q : c_S → Prop) : Prop := ∃ a2_ : Nat, r1 = some a2_ ∧ (c_mk L 7 a2_ ∧ (∀ S5_ : c_S, S5_ = (cs_I (cs_I S 1015 a0 ((c_I S 1015 a0) + (1 : Int32))) 1417 a2_ (c_I (cs_I S 1015 a0 ((c_I S 1015 a0) + (1 : Int32))) 1015 a0)) → (Q S5_)))
set_option maxRecDepth 100000 in
set_option maxHeartbeats 4000000 in
theorem um_X5_toTheBack {L : c_L} {T : q_S} (g : c_G L T) (S : c_S) (a0 : Nat) (r1 : Option Nat) (m_a0 : c_mk L 5 a0) {Q1 : c_S → Prop} {Q : Option Value → q_S → Prop} (h : km_X5_toTheBack L  S a0 r1 Q1) (hQ : ∀ K : c_S, Q1 K → Q none (c_E L K T)) : wm_X5_toTheBack  (c_E L S T) (c_ob L 5 a0) (r1.map (c_ob L 7)) Q := by
  unfold wm_X5_toTheBack
  unfold km_X5_toTheBack at h
  try simp only [c_gk g m_a0 6 rfl, c_eI (f := 1015) m_a0 rfl, c_eIs (f := 1015) (c_gw g) m_a0 rfl, true_and, Option.some.injEq, exists_eq_left', c_xm, c_xn, c_xs]
  obtain ⟨a2_, e_a2_, m_a2_, h⟩ := h
  refine ⟨a2_, e_a2_, ?_⟩
  try simp only [c_gk g m_a0 6 rfl, c_gk g m_a2_ 8 rfl, c_eI (f := 1015) m_a0 rfl, c_eIs (f := 1015) (c_gw g) m_a0 rfl, c_eIs (f := 1417) (c_gw g) m_a2_ rfl, true_and, Option.some.injEq, exists_eq_left', c_xm, c_xn, c_xs]
  refine fun S5_ e_S5_ => ?_
  have h := h S5_ e_S5_
  exact hQ _ h
def kb_X0_ofProcesses_84 (L : c_L) (S : c_S) (xs0 : Int32) (Q : Int32 → c_S → Prop) : Prop := Q xs0 S
set_option maxRecDepth 100000 in
set_option maxHeartbeats 4000000 in
theorem ub_X0_ofProcesses_84 {L : c_L} {T : q_S} (g : c_G L T) (S : c_S) (xs0 : Int32)  {Q1 : Int32 → c_S → Prop} {Q : Option Value → q_S → Prop} (h : kb_X0_ofProcesses_84 L  S xs0 Q1) (hQ : ∀ (v : Int32) (K : c_S), Q1 v K → Q (some (.int v)) (c_E L K T)) : wb_X0_ofProcesses_84  (c_E L S T) xs0 Q := by
  unfold wb_X0_ofProcesses_84
  unfold kb_X0_ofProcesses_84 at h
  try simp only [true_and, Option.some.injEq, exists_eq_left', c_xm, c_xn, c_xs]
  exact hQ _ _ h
def km_X0_ofProcesses (L : c_L) (S : c_S) (a0 : Nat) (x1 : Int32) (x2 : Int32) (x3 : Int32) (Q : Int32 → c_S → Prop) : Prop := (x1.toInt < 0 ∨ 6 < x1.toInt → (∃ a2_ : Nat, (c_P S 1 a0) = some a2_ ∧ (c_mk L 5 a2_ ∧ (km_X5_toTheBack L S a2_ (c_P S 2 a0) (fun S6_ => (Q (0 : Int32) S6_)))))) ∧ (x1 = (0 : Int32) → (∃ a8_ : Nat, (c_P S 1 a0) = some a8_ ∧ (c_mk L 5 a8_ ∧ (km_X5_rest L S a8_ (c_P S 2 a0) (fun S12_ => (Q (-1 : Int32) S12_)))))) ∧ (x1 = (1 : Int32) → (km_X0_waitForPeriod L S a0 (fun x16_ S15_ => (Q x16_ S15_)))) ∧ (x1 = (2 : Int32) → (km_X0_isNoDelay L S a0 x2 (fun x20_ S19_ => ((x20_ = 0 → (km_X0_waitUntil L S19_ a0 ((c_I S19_ 4 a0) + x2) (fun x25_ S24_ => (kb_X0_ofProcesses_84 L S24_ x25_ Q)))) ∧ (¬ x20_ = 0 → (kb_X0_ofProcesses_84 L S19_ (1 : Int32) Q)))))) ∧ (x1 = (3 : Int32) → (km_X0_startOther L S a0 x2 (0 : Int32) (fun x29_ S28_ => (Q x29_ S28_)))) ∧ (x1 = (4 : Int32) → (km_X0_stopOther L S a0 x2 (fun x33_ S32_ => (Q x33_ S32_)))) ∧ (x1 = (5 : Int32) → (km_X0_setPriority L S a0 x2 x3 (fun x37_ S36_ => (Q x37_ S36_)))) ∧ (x1 = (6 : Int32) → (Q (c_I S 4 a0) S))
set_option maxRecDepth 100000 in
set_option maxHeartbeats 4000000 in
theorem um_X0_ofProcesses {L : c_L} {T : q_S} (g : c_G L T) (S : c_S) (a0 : Nat) (x1 : Int32) (x2 : Int32) (x3 : Int32) (m_a0 : c_mk L 0 a0) {Q1 : Int32 → c_S → Prop} {Q : Option Value → q_S → Prop} (h : km_X0_ofProcesses L  S a0 x1 x2 x3 Q1) (hQ : ∀ (v : Int32) (K : c_S), Q1 v K → Q (some (.int v)) (c_E L K T)) : wm_X0_ofProcesses  (c_E L S T) (c_ob L 0 a0) x1 x2 x3 Q := by
  unfold wm_X0_ofProcesses
  unfold km_X0_ofProcesses at h
  try simp only [c_gk g m_a0 1 rfl, c_eI (f := 4) m_a0 rfl, c_eD1 m_a0, c_eDs1 (c_gw g) m_a0, c_eD2 m_a0, c_eDs2 (c_gw g) m_a0, true_and, Option.some.injEq, exists_eq_left', c_xm, c_xn, c_xs]
  refine ⟨fun hc => ?_, fun hc => ?_, fun hc => ?_, fun hc => ?_, fun hc => ?_, fun hc => ?_, fun hc => ?_, fun hc => ?_⟩
  · have h := h.1 hc
    obtain ⟨a2_, e_a2_, m_a2_, h⟩ := h
    refine ⟨a2_, e_a2_, ?_⟩
    try simp only [c_gk g m_a0 1 rfl, c_gk g m_a2_ 6 rfl, c_eI (f := 4) m_a0 rfl, c_eD1 m_a0, c_eDs1 (c_gw g) m_a0, c_eD2 m_a0, c_eDs2 (c_gw g) m_a0, true_and, Option.some.injEq, exists_eq_left', c_xm, c_xn, c_xs]
    refine um_X5_toTheBack g _ a2_ (c_P S 2 a0) m_a2_ h (fun S6_ h => ?_)
    refine ⟨rfl, ?_⟩
    try simp only [c_gk g m_a0 1 rfl, c_gk g m_a2_ 6 rfl, c_eI (f := 4) m_a0 rfl, c_eD1 m_a0, c_eDs1 (c_gw g) m_a0, c_eD2 m_a0, c_eDs2 (c_gw g) m_a0, true_and, Option.some.injEq, exists_eq_left', c_xm, c_xn, c_xs]
    exact hQ _ _ h
  · have h := h.2.1 hc
    obtain ⟨a8_, e_a8_, m_a8_, h⟩ := h
    refine ⟨a8_, e_a8_, ?_⟩
    try simp only [c_gk g m_a0 1 rfl, c_gk g m_a8_ 6 rfl, c_eI (f := 4) m_a0 rfl, c_eD1 m_a0, c_eDs1 (c_gw g) m_a0, c_eD2 m_a0, c_eDs2 (c_gw g) m_a0, true_and, Option.some.injEq, exists_eq_left', c_xm, c_xn, c_xs]
    refine um_X5_rest g _ a8_ (c_P S 2 a0) m_a8_ h (fun S12_ h => ?_)
    refine ⟨rfl, ?_⟩
    try simp only [c_gk g m_a0 1 rfl, c_gk g m_a8_ 6 rfl, c_eI (f := 4) m_a0 rfl, c_eD1 m_a0, c_eDs1 (c_gw g) m_a0, c_eD2 m_a0, c_eDs2 (c_gw g) m_a0, true_and, Option.some.injEq, exists_eq_left', c_xm, c_xn, c_xs]
    exact hQ _ _ h
  · have h := h.2.2.1 hc
    refine um_X0_waitForPeriod g _ a0 m_a0 h (fun x16_ S15_ h => ?_)
    refine ⟨_, rfl, ?_⟩
    try simp only [c_gk g m_a0 1 rfl, c_eI (f := 4) m_a0 rfl, c_eD1 m_a0, c_eDs1 (c_gw g) m_a0, c_eD2 m_a0, c_eDs2 (c_gw g) m_a0, true_and, Option.some.injEq, exists_eq_left', c_xm, c_xn, c_xs]
    exact hQ _ _ h
  · have h := h.2.2.2.1 hc
    refine um_X0_isNoDelay g _ a0 _ m_a0 h (fun x20_ S19_ h => ?_)
    refine ⟨_, rfl, ?_⟩
    try simp only [c_gk g m_a0 1 rfl, c_eI (f := 4) m_a0 rfl, c_eD1 m_a0, c_eDs1 (c_gw g) m_a0, c_eD2 m_a0, c_eDs2 (c_gw g) m_a0, true_and, Option.some.injEq, exists_eq_left', c_xm, c_xn, c_xs]
    refine ⟨fun hc => ?_, fun hc => ?_⟩
    · have h := h.1 hc
      refine um_X0_waitUntil g _ a0 _ m_a0 h (fun x25_ S24_ h => ?_)
      refine ⟨_, rfl, ?_⟩
      try simp only [c_gk g m_a0 1 rfl, c_eI (f := 4) m_a0 rfl, c_eD1 m_a0, c_eDs1 (c_gw g) m_a0, c_eD2 m_a0, c_eDs2 (c_gw g) m_a0, true_and, Option.some.injEq, exists_eq_left', c_xm, c_xn, c_xs]
      exact ub_X0_ofProcesses_84 g _ _  h hQ
    · have h := h.2 hc
      exact ub_X0_ofProcesses_84 g _ _  h hQ
  · have h := h.2.2.2.2.1 hc
    refine um_X0_startOther g _ a0 _ _ m_a0 h (fun x29_ S28_ h => ?_)
    refine ⟨_, rfl, ?_⟩
    try simp only [c_gk g m_a0 1 rfl, c_eI (f := 4) m_a0 rfl, c_eD1 m_a0, c_eDs1 (c_gw g) m_a0, c_eD2 m_a0, c_eDs2 (c_gw g) m_a0, true_and, Option.some.injEq, exists_eq_left', c_xm, c_xn, c_xs]
    exact hQ _ _ h
  · have h := h.2.2.2.2.2.1 hc
    refine um_X0_stopOther g _ a0 _ m_a0 h (fun x33_ S32_ h => ?_)
    refine ⟨_, rfl, ?_⟩
    try simp only [c_gk g m_a0 1 rfl, c_eI (f := 4) m_a0 rfl, c_eD1 m_a0, c_eDs1 (c_gw g) m_a0, c_eD2 m_a0, c_eDs2 (c_gw g) m_a0, true_and, Option.some.injEq, exists_eq_left', c_xm, c_xn, c_xs]
    exact hQ _ _ h
  · have h := h.2.2.2.2.2.2.1 hc
    refine um_X0_setPriority g _ a0 _ _ m_a0 h (fun x37_ S36_ h => ?_)
    refine ⟨_, rfl, ?_⟩
    try simp only [c_gk g m_a0 1 rfl, c_eI (f := 4) m_a0 rfl, c_eD1 m_a0, c_eDs1 (c_gw g) m_a0, c_eD2 m_a0, c_eDs2 (c_gw g) m_a0, true_and, Option.some.injEq, exists_eq_left', c_xm, c_xn, c_xs]
    exact hQ _ _ h
  · have h := h.2.2.2.2.2.2.2 hc
    exact hQ _ _ h
def kb_X5_thingAt_23 (L : c_L) (S : c_S) (Q : Option Nat → c_S → Prop) : Prop := Q none S
set_option maxRecDepth 100000 in
set_option maxHeartbeats 4000000 in
theorem ub_X5_thingAt_23 {L : c_L} {T : q_S} (g : c_G L T) (S : c_S)  {Q1 : Option Nat → c_S → Prop} {Q : Option Value → q_S → Prop} (h : kb_X5_thingAt_23 L  S Q1) (hQ : ∀ (v : Option Nat) (K : c_S), Q1 v K → Q (some (va_rf (v.map (c_ob L 10)))) (c_E L K T)) : wb_X5_thingAt_23  (c_E L S T) Q := by
  unfold wb_X5_thingAt_23
  unfold kb_X5_thingAt_23 at h
  try simp only [true_and, Option.some.injEq, exists_eq_left', c_xm, c_xn, c_xs]
  exact hQ _ _ h
def km_X5_thingAt (L : c_L) (S : c_S) (a0 : Nat) (x1 : Int32) (x2 : Int32) (Q : Option Nat → c_S → Prop) : Prop := (x1 < 0 → (kb_X5_thingAt_23 L S Q)) ∧ (¬ x1 < 0 → (((5 : Int32) ≤ x1 → (kb_X5_thingAt_23 L S Q)) ∧ (¬ (5 : Int32) ≤ x1 → ((x2 < 0 → (kb_X5_thingAt_23 L S Q)) ∧ (¬ x2 < 0 → (vp_in x1 5 ∧ ((x2 < (c_A S 1006 a0 x1.toNatClampNeg) → (vp_in ((x1 * (8 : Int32)) + x2) 48 ∧ (Q (c_e10 L a0 ((x1 * (8 : Int32)) + x2).toNatClampNeg) S))) ∧ (¬ x2 < (c_A S 1006 a0 x1.toNatClampNeg) → (kb_X5_thingAt_23 L S Q)))))))))
set_option maxRecDepth 100000 in
set_option maxHeartbeats 4000000 in
theorem um_X5_thingAt {L : c_L} {T : q_S} (g : c_G L T) (S : c_S) (a0 : Nat) (x1 : Int32) (x2 : Int32) (m_a0 : c_mk L 5 a0) {Q1 : Option Nat → c_S → Prop} {Q : Option Value → q_S → Prop} (h : km_X5_thingAt L  S a0 x1 x2 Q1) (hQ : ∀ (v : Option Nat) (K : c_S), Q1 v K → Q (some (va_rf (v.map (c_ob L 10)))) (c_E L K T)) : wm_X5_thingAt  (c_E L S T) (c_ob L 5 a0) x1 x2 Q := by
  unfold wm_X5_thingAt
  unfold km_X5_thingAt at h
  try simp only [c_gk g m_a0 6 rfl, true_and, Option.some.injEq, exists_eq_left', c_xm, c_xn, c_xs]
  refine ⟨fun hc => ?_, fun hc => ?_⟩
  · have h := h.1 hc
    exact ub_X5_thingAt_23 g _  h hQ
  · have h := h.2 hc
    refine ⟨fun hc => ?_, fun hc => ?_⟩
    · have h := h.1 hc
      exact ub_X5_thingAt_23 g _  h hQ
    · have h := h.2 hc
      refine ⟨fun hc => ?_, fun hc => ?_⟩
      · have h := h.1 hc
        exact ub_X5_thingAt_23 g _  h hQ
      · have h := h.2 hc
        have n1006_a0 := c_gA g 1006 rfl (by decide) m_a0
        try simp only [c_gk g m_a0 6 rfl, c_gr g n1006_a0 21 rfl, c_gN g n1006_a0 5 (by decide), c_eA n1006_a0, c_eAs (c_gw g) n1006_a0, c_ga g 1006 rfl rfl (by decide) m_a0, true_and, Option.some.injEq, exists_eq_left', c_xm, c_xn, c_xs]
        refine ⟨h.1, ?_⟩
        have h := h.2
        refine ⟨fun hc => ?_, fun hc => ?_⟩
        · have h := h.1 hc
          have n1005_a0 := c_gA g 1005 rfl (by decide) m_a0
          try simp only [c_gk g m_a0 6 rfl, c_gr g n1006_a0 21 rfl, c_gN g n1006_a0 5 (by decide), c_eA n1006_a0, c_eAs (c_gw g) n1006_a0, c_gr g n1005_a0 27 rfl, c_gN g n1005_a0 48 (by decide), c_g10 g m_a0, c_ga g 1006 rfl rfl (by decide) m_a0, c_ga g 1005 rfl rfl (by decide) m_a0, true_and, Option.some.injEq, exists_eq_left', c_xm, c_xn, c_xs]
          refine ⟨h.1, ?_⟩
          have h := h.2
          exact hQ _ _ h
        · have h := h.2 hc
          exact ub_X5_thingAt_23 g _  h hQ
def kb_X0_isNoTime_16 (L : c_L) (S : c_S) (xs0 : Int32) (Q : Int32 → c_S → Prop) : Prop := narrow .boolean (.int xs0) = .int xs0 ∧ (Q xs0 S)
set_option maxRecDepth 100000 in
set_option maxHeartbeats 4000000 in
theorem ub_X0_isNoTime_16 {L : c_L} {T : q_S} (g : c_G L T) (S : c_S) (xs0 : Int32)  {Q1 : Int32 → c_S → Prop} {Q : Option Value → q_S → Prop} (h : kb_X0_isNoTime_16 L  S xs0 Q1) (hQ : ∀ (v : Int32) (K : c_S), Q1 v K → Q (some (.int v)) (c_E L K T)) : wb_X0_isNoTime_16  (c_E L S T) xs0 Q := by
  unfold wb_X0_isNoTime_16
  unfold kb_X0_isNoTime_16 at h
  try simp only [true_and, Option.some.injEq, exists_eq_left', c_xm, c_xn, c_xs]
  refine ⟨h.1, ?_⟩
  have h := h.2
  exact hQ _ _ h
def kb_X0_isNoTime_11 (L : c_L) (S : c_S) (Q : Int32 → c_S → Prop) : Prop := kb_X0_isNoTime_16 L S (1 : Int32) Q
set_option maxRecDepth 100000 in
set_option maxHeartbeats 4000000 in
theorem ub_X0_isNoTime_11 {L : c_L} {T : q_S} (g : c_G L T) (S : c_S)  {Q1 : Int32 → c_S → Prop} {Q : Option Value → q_S → Prop} (h : kb_X0_isNoTime_11 L  S Q1) (hQ : ∀ (v : Int32) (K : c_S), Q1 v K → Q (some (.int v)) (c_E L K T)) : wb_X0_isNoTime_11  (c_E L S T) Q := by
  unfold wb_X0_isNoTime_11
  unfold kb_X0_isNoTime_11 at h
  try simp only [true_and, Option.some.injEq, exists_eq_left', c_xm, c_xn, c_xs]
  exact ub_X0_isNoTime_16 g _ _  h hQ
def km_X0_isNoTime (L : c_L) (S : c_S) (a0 : Nat) (x1 : Int32) (Q : Int32 → c_S → Prop) : Prop := (x1 < (-1 : Int32) → (kb_X0_isNoTime_11 L S Q)) ∧ (¬ x1 < (-1 : Int32) → ((x1 ≤ (100000 : Int32) → (kb_X0_isNoTime_16 L S (0 : Int32) Q)) ∧ (¬ x1 ≤ (100000 : Int32) → (kb_X0_isNoTime_11 L S Q))))
set_option maxRecDepth 100000 in
set_option maxHeartbeats 4000000 in
theorem um_X0_isNoTime {L : c_L} {T : q_S} (g : c_G L T) (S : c_S) (a0 : Nat) (x1 : Int32) (m_a0 : c_mk L 0 a0) {Q1 : Int32 → c_S → Prop} {Q : Option Value → q_S → Prop} (h : km_X0_isNoTime L  S a0 x1 Q1) (hQ : ∀ (v : Int32) (K : c_S), Q1 v K → Q (some (.int v)) (c_E L K T)) : wm_X0_isNoTime  (c_E L S T) (c_ob L 0 a0) x1 Q := by
  unfold wm_X0_isNoTime
  unfold km_X0_isNoTime at h
  try simp only [c_gk g m_a0 1 rfl, true_and, Option.some.injEq, exists_eq_left', c_xm, c_xn, c_xs]
  refine ⟨fun hc => ?_, fun hc => ?_⟩
  · have h := h.1 hc
    exact ub_X0_isNoTime_11 g _  h hQ
  · have h := h.2 hc
    refine ⟨fun hc => ?_, fun hc => ?_⟩
    · have h := h.1 hc
      exact ub_X0_isNoTime_16 g _ _  h hQ
    · have h := h.2 hc
      exact ub_X0_isNoTime_11 g _  h hQ
def kb_X0_waitFor_38 (L : c_L) (S : c_S) (rs0 : Option Nat) (rs1 : Option Nat) (xs2 : Int32) (xs3 : Int32) (Q : Int32 → c_S → Prop) : Prop := ∃ a1_ : Nat, rs0 = some a1_ ∧ (c_mk L 5 a1_ ∧ (km_X5_makeWait L S a1_ rs1 xs2 xs3 (fun S5_ => (Q (-1 : Int32) S5_))))
set_option maxRecDepth 100000 in
set_option maxHeartbeats 4000000 in
theorem ub_X0_waitFor_38 {L : c_L} {T : q_S} (g : c_G L T) (S : c_S) (rs0 : Option Nat) (rs1 : Option Nat) (xs2 : Int32) (xs3 : Int32)  {Q1 : Int32 → c_S → Prop} {Q : Option Value → q_S → Prop} (h : kb_X0_waitFor_38 L  S rs0 rs1 xs2 xs3 Q1) (hQ : ∀ (v : Int32) (K : c_S), Q1 v K → Q (some (.int v)) (c_E L K T)) : wb_X0_waitFor_38  (c_E L S T) (rs0.map (c_ob L 5)) (rs1.map (c_ob L 7)) xs2 xs3 Q := by
  unfold wb_X0_waitFor_38
  unfold kb_X0_waitFor_38 at h
  try simp only [true_and, Option.some.injEq, exists_eq_left', c_xm, c_xn, c_xs]
  obtain ⟨a1_, e_a1_, m_a1_, h⟩ := h
  refine ⟨a1_, e_a1_, ?_⟩
  try simp only [c_gk g m_a1_ 6 rfl, true_and, Option.some.injEq, exists_eq_left', c_xm, c_xn, c_xs]
  refine um_X5_makeWait g _ a1_ rs1 _ _ m_a1_ h (fun S5_ h => ?_)
  refine ⟨rfl, ?_⟩
  try simp only [c_gk g m_a1_ 6 rfl, true_and, Option.some.injEq, exists_eq_left', c_xm, c_xn, c_xs]
  exact hQ _ _ h
def km_X0_waitFor (L : c_L) (S : c_S) (a0 : Nat) (x1 : Int32) (x2 : Int32) (Q : Int32 → c_S → Prop) : Prop := (¬ x2 = 0 → (km_X0_mayNotWait L S a0 (fun x10_ S9_ => ((x10_ = 0 → ((0 ≤ x2 → (kb_X0_waitFor_38 L S9_ (c_P S9_ 1 a0) (c_P S9_ 2 a0) x1 ((c_I S9_ 4 a0) + x2) Q)) ∧ (¬ 0 ≤ x2 → (kb_X0_waitFor_38 L S9_ (c_P S9_ 1 a0) (c_P S9_ 2 a0) x1 (-1 : Int32) Q)))) ∧ (¬ x10_ = 0 → (Q (3 : Int32) S9_)))))) ∧ (x2 = 0 → (Q (2 : Int32) S))
set_option maxRecDepth 100000 in
set_option maxHeartbeats 4000000 in
theorem um_X0_waitFor {L : c_L} {T : q_S} (g : c_G L T) (S : c_S) (a0 : Nat) (x1 : Int32) (x2 : Int32) (m_a0 : c_mk L 0 a0) {Q1 : Int32 → c_S → Prop} {Q : Option Value → q_S → Prop} (h : km_X0_waitFor L  S a0 x1 x2 Q1) (hQ : ∀ (v : Int32) (K : c_S), Q1 v K → Q (some (.int v)) (c_E L K T)) : wm_X0_waitFor  (c_E L S T) (c_ob L 0 a0) x1 x2 Q := by
  unfold wm_X0_waitFor
  unfold km_X0_waitFor at h
  try simp only [c_gk g m_a0 1 rfl, c_eI (f := 4) m_a0 rfl, c_eD1 m_a0, c_eDs1 (c_gw g) m_a0, c_eD2 m_a0, c_eDs2 (c_gw g) m_a0, true_and, Option.some.injEq, exists_eq_left', c_xm, c_xn, c_xs]
  refine ⟨fun hc => ?_, fun hc => ?_⟩
  · have h := h.1 hc
    refine um_X0_mayNotWait g _ a0 m_a0 h (fun x10_ S9_ h => ?_)
    refine ⟨_, rfl, ?_⟩
    try simp only [c_gk g m_a0 1 rfl, c_eI (f := 4) m_a0 rfl, c_eD1 m_a0, c_eDs1 (c_gw g) m_a0, c_eD2 m_a0, c_eDs2 (c_gw g) m_a0, true_and, Option.some.injEq, exists_eq_left', c_xm, c_xn, c_xs]
    refine ⟨fun hc => ?_, fun hc => ?_⟩
    · have h := h.1 hc
      refine ⟨fun hc => ?_, fun hc => ?_⟩
      · have h := h.1 hc
        exact ub_X0_waitFor_38 g _ (c_P S9_ 1 a0) (c_P S9_ 2 a0) _ _  h hQ
      · have h := h.2 hc
        exact ub_X0_waitFor_38 g _ (c_P S9_ 1 a0) (c_P S9_ 2 a0) _ _  h hQ
    · have h := h.2 hc
      exact hQ _ _ h
  · have h := h.2 hc
    exact hQ _ _ h
