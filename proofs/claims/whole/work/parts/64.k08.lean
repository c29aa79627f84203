def kb_X5_setAction_16 (L : c_L) (S : c_S) (Q : c_S → Prop) : Prop := Q S
set_option maxRecDepth 100000 in
set_option maxHeartbeats 4000000 in
theorem ub_X5_setAction_16 {L : c_L} {T : q_S} (g : c_G L T) (S : c_S)  {Q1 : c_S → Prop} {Q : Option Value → q_S → Prop} (h : kb_X5_setAction_16 L  S Q1) (hQ : ∀ K : c_S, Q1 K → Q none (c_E L K T)) : wb_X5_setAction_16  (c_E L S T) Q := by
  unfold wb_X5_setAction_16
  unfold kb_X5_setAction_16 at h
  try simp only [true_and, Option.some.injEq, exists_eq_left', c_xm, c_xn, c_xs]
  exact hQ _ h
def km_X5_setAction (L : c_L) (S : c_S) (a0 : Nat) (x1 : Int32) (x2 : Int32) (Q : c_S → Prop) : Prop := (x1 < 0 → (kb_X5_setAction_16 L S Q)) ∧ (¬ x1 < 0 → (((5 : Int32) ≤ x1 → (kb_X5_setAction_16 L S Q)) ∧ (¬ (5 : Int32) ≤ x1 → (vp_in x1 5 ∧ (kb_X5_setAction_16 L (cs_A S 1007 a0 x1.toNatClampNeg x2) Q)))))
set_option maxRecDepth 100000 in
set_option maxHeartbeats 4000000 in
theorem um_X5_setAction {L : c_L} {T : q_S} (g : c_G L T) (S : c_S) (a0 : Nat) (x1 : Int32) (x2 : Int32) (m_a0 : c_mk L 5 a0) {Q1 : c_S → Prop} {Q : Option Value → q_S → Prop} (h : km_X5_setAction L  S a0 x1 x2 Q1) (hQ : ∀ K : c_S, Q1 K → Q none (c_E L K T)) : wm_X5_setAction  (c_E L S T) (c_ob L 5 a0) x1 x2 Q := by
  unfold wm_X5_setAction
  unfold km_X5_setAction at h
  try simp only [c_gk g m_a0 6 rfl, true_and, Option.some.injEq, exists_eq_left', c_xm, c_xn, c_xs]
  refine ⟨fun hc => ?_, fun hc => ?_⟩
  · have h := h.1 hc
    exact ub_X5_setAction_16 g _  h hQ
  · have h := h.2 hc
    refine ⟨fun hc => ?_, fun hc => ?_⟩
    · have h := h.1 hc
      exact ub_X5_setAction_16 g _  h hQ
    · have h := h.2 hc
      have n1007_a0 := c_gA g 1007 rfl (by decide) m_a0
      try simp only [c_gk g m_a0 6 rfl, c_gr g n1007_a0 21 rfl, c_gN g n1007_a0 5 (by decide), c_eA n1007_a0, c_eAs (c_gw g) n1007_a0, c_ga g 1007 rfl rfl (by decide) m_a0, true_and, Option.some.injEq, exists_eq_left', c_xm, c_xn, c_xs]
      refine ⟨h.1, ?_⟩
      have h := h.2
      exact ub_X5_setAction_16 g _  h hQ
def kb_X5_actionFor_63 (L : c_L) (S : c_S) (xs0 : Int32) (Q : Int32 → c_S → Prop) : Prop := Q xs0 S
set_option maxRecDepth 100000 in
set_option maxHeartbeats 4000000 in
theorem ub_X5_actionFor_63 {L : c_L} {T : q_S} (g : c_G L T) (S : c_S) (xs0 : Int32)  {Q1 : Int32 → c_S → Prop} {Q : Option Value → q_S → Prop} (h : kb_X5_actionFor_63 L  S xs0 Q1) (hQ : ∀ (v : Int32) (K : c_S), Q1 v K → Q (some (.int v)) (c_E L K T)) : wb_X5_actionFor_63  (c_E L S T) xs0 Q := by
  unfold wb_X5_actionFor_63
  unfold kb_X5_actionFor_63 at h
  try simp only [true_and, Option.some.injEq, exists_eq_left', c_xm, c_xn, c_xs]
  exact hQ _ _ h
def kb_X5_actionFor_58 (L : c_L) (S : c_S) (Q : Int32 → c_S → Prop) : Prop := kb_X5_actionFor_63 L S (0 : Int32) Q
set_option maxRecDepth 100000 in
set_option maxHeartbeats 4000000 in
theorem ub_X5_actionFor_58 {L : c_L} {T : q_S} (g : c_G L T) (S : c_S)  {Q1 : Int32 → c_S → Prop} {Q : Option Value → q_S → Prop} (h : kb_X5_actionFor_58 L  S Q1) (hQ : ∀ (v : Int32) (K : c_S), Q1 v K → Q (some (.int v)) (c_E L K T)) : wb_X5_actionFor_58  (c_E L S T) Q := by
  unfold wb_X5_actionFor_58
  unfold kb_X5_actionFor_58 at h
  try simp only [true_and, Option.some.injEq, exists_eq_left', c_xm, c_xn, c_xs]
  exact ub_X5_actionFor_63 g _ _  h hQ
def kb_X5_actionFor_62 (L : c_L) (S : c_S) (x3 : Int32) (Q : Int32 → c_S → Prop) : Prop := kb_X5_actionFor_63 L S x3 Q
set_option maxRecDepth 100000 in
set_option maxHeartbeats 4000000 in
theorem ub_X5_actionFor_62 {L : c_L} {T : q_S} (g : c_G L T) (S : c_S) (x3 : Int32)  {Q1 : Int32 → c_S → Prop} {Q : Option Value → q_S → Prop} (h : kb_X5_actionFor_62 L  S x3 Q1) (hQ : ∀ (v : Int32) (K : c_S), Q1 v K → Q (some (.int v)) (c_E L K T)) : wb_X5_actionFor_62  (c_E L S T) x3 Q := by
  unfold wb_X5_actionFor_62
  unfold kb_X5_actionFor_62 at h
  try simp only [true_and, Option.some.injEq, exists_eq_left', c_xm, c_xn, c_xs]
  exact ub_X5_actionFor_63 g _ _  h hQ
def kb_X5_actionFor_28 (L : c_L) (S : c_S) (a0 : Nat) (xs0 : Int32) (Q : Int32 → c_S → Prop) : Prop := km_X5_processAt L S a0 (c_I S 1008 a0) (fun r4_ S3_ => ((¬ xs0 = (6 : Int32) → (kb_X5_actionFor_62 L S3_ xs0 Q)) ∧ (xs0 = (6 : Int32) → ((r4_ = none → (kb_X5_actionFor_58 L S3_ Q)) ∧ (¬ r4_ = none → (∃ a7_ : Nat, r4_ = some a7_ ∧ (c_mk L 7 a7_ ∧ (((c_I S3_ 1409 a7_) = 0 → (kb_X5_actionFor_62 L S3_ xs0 Q)) ∧ (¬ (c_I S3_ 1409 a7_) = 0 → (kb_X5_actionFor_58 L S3_ Q))))))))))
set_option maxRecDepth 100000 in
set_option maxHeartbeats 4000000 in
theorem ub_X5_actionFor_28 {L : c_L} {T : q_S} (g : c_G L T) (S : c_S) (a0 : Nat) (xs0 : Int32) (m_a0 : c_mk L 5 a0) {Q1 : Int32 → c_S → Prop} {Q : Option Value → q_S → Prop} (h : kb_X5_actionFor_28 L  S a0 xs0 Q1) (hQ : ∀ (v : Int32) (K : c_S), Q1 v K → Q (some (.int v)) (c_E L K T)) : wb_X5_actionFor_28  (c_E L S T) (c_ob L 5 a0) xs0 Q := by
  unfold wb_X5_actionFor_28
  unfold kb_X5_actionFor_28 at h
  try simp only [c_gk g m_a0 6 rfl, c_eI (f := 1008) m_a0 rfl, true_and, Option.some.injEq, exists_eq_left', c_xm, c_xn, c_xs]
  refine um_X5_processAt g _ a0 _ m_a0 h (fun r4_ S3_ h => ?_)
  refine ⟨_, rfl, ?_⟩
  try simp only [c_gk g m_a0 6 rfl, c_eI (f := 1008) m_a0 rfl, true_and, Option.some.injEq, exists_eq_left', c_xm, c_xn, c_xs]
  refine ⟨fun hc => ?_, fun hc => ?_⟩
  · have h := h.1 hc
    exact ub_X5_actionFor_62 g _ _  h hQ
  · have h := h.2 hc
    refine ⟨fun hc => ?_, fun hc => ?_⟩
    · have h := h.1 hc
      exact ub_X5_actionFor_58 g _  h hQ
    · have h := h.2 hc
      obtain ⟨a7_, e_a7_, m_a7_, h⟩ := h
      refine ⟨a7_, e_a7_, ?_⟩
      try simp only [c_gk g m_a0 6 rfl, c_gk g m_a7_ 8 rfl, c_eI (f := 1008) m_a0 rfl, c_eI (f := 1409) m_a7_ rfl, true_and, Option.some.injEq, exists_eq_left', c_xm, c_xn, c_xs]
      refine ⟨fun hc => ?_, fun hc => ?_⟩
      · have h := h.1 hc
        exact ub_X5_actionFor_62 g _ _  h hQ
      · have h := h.2 hc
        exact ub_X5_actionFor_58 g _  h hQ
def kb_X5_actionFor_18 (L : c_L) (S : c_S) (a0 : Nat) (Q : Int32 → c_S → Prop) : Prop := kb_X5_actionFor_28 L S a0 (0 : Int32) Q
set_option maxRecDepth 100000 in
set_option maxHeartbeats 4000000 in
theorem ub_X5_actionFor_18 {L : c_L} {T : q_S} (g : c_G L T) (S : c_S) (a0 : Nat) (m_a0 : c_mk L 5 a0) {Q1 : Int32 → c_S → Prop} {Q : Option Value → q_S → Prop} (h : kb_X5_actionFor_18 L  S a0 Q1) (hQ : ∀ (v : Int32) (K : c_S), Q1 v K → Q (some (.int v)) (c_E L K T)) : wb_X5_actionFor_18  (c_E L S T) (c_ob L 5 a0) Q := by
  unfold wb_X5_actionFor_18
  unfold kb_X5_actionFor_18 at h
  try simp only [c_gk g m_a0 6 rfl, true_and, Option.some.injEq, exists_eq_left', c_xm, c_xn, c_xs]
  exact ub_X5_actionFor_28 g _ a0 _ m_a0 h hQ
def km_X5_actionFor (L : c_L) (S : c_S) (a0 : Nat) (r1 : Option Nat) (x2 : Int32) (Q : Int32 → c_S → Prop) : Prop := ∃ a11_ : Nat, r1 = some a11_ ∧ (c_mk L 7 a11_ ∧ (((c_I S 1407 a11_) = 0 → ((x2 < 0 → (kb_X5_actionFor_18 L S a0 Q)) ∧ (¬ x2 < 0 → ((x2 < (5 : Int32) → (vp_in x2 5 ∧ (kb_X5_actionFor_28 L S a0 (c_A S 1007 a0 x2.toNatClampNeg) Q))) ∧ (¬ x2 < (5 : Int32) → (kb_X5_actionFor_18 L S a0 Q)))))) ∧ (¬ (c_I S 1407 a11_) = 0 → (Q (3 : Int32) S))))
set_option maxRecDepth 100000 in
set_option maxHeartbeats 4000000 in
theorem um_X5_actionFor {L : c_L} {T : q_S} (g : c_G L T) (S : c_S) (a0 : Nat) (r1 : Option Nat) (x2 : Int32) (m_a0 : c_mk L 5 a0) {Q1 : Int32 → c_S → Prop} {Q : Option Value → q_S → Prop} (h : km_X5_actionFor L  S a0 r1 x2 Q1) (hQ : ∀ (v : Int32) (K : c_S), Q1 v K → Q (some (.int v)) (c_E L K T)) : wm_X5_actionFor  (c_E L S T) (c_ob L 5 a0) (r1.map (c_ob L 7)) x2 Q := by
  unfold wm_X5_actionFor
  unfold km_X5_actionFor at h
  try simp only [c_gk g m_a0 6 rfl, true_and, Option.some.injEq, exists_eq_left', c_xm, c_xn, c_xs]
  obtain ⟨a11_, e_a11_, m_a11_, h⟩ := h
  refine ⟨a11_, e_a11_, ?_⟩
  try simp only [c_gk g m_a0 6 rfl, c_gk g m_a11_ 8 rfl, c_eI (f := 1407) m_a11_ rfl, true_and, Option.some.injEq, exists_eq_left', c_xm, c_xn, c_xs]
  refine ⟨fun hc => ?_, fun hc => ?_⟩
  · have h := h.1 hc
    refine ⟨fun hc => ?_, fun hc => ?_⟩
    · have h := h.1 hc
      exact ub_X5_actionFor_18 g _ a0 m_a0 h hQ
    · have h := h.2 hc
      refine ⟨fun hc => ?_, fun hc => ?_⟩
      · have h := h.1 hc
        have n1007_a0 := c_gA g 1007 rfl (by decide) m_a0
        try simp only [c_gk g m_a0 6 rfl, c_gk g m_a11_ 8 rfl, c_gr g n1007_a0 21 rfl, c_gN g n1007_a0 5 (by decide), c_eA n1007_a0, c_eAs (c_gw g) n1007_a0, c_ga g 1007 rfl rfl (by decide) m_a0, c_eI (f := 1407) m_a11_ rfl, true_and, Option.some.injEq, exists_eq_left', c_xm, c_xn, c_xs]
        refine ⟨h.1, ?_⟩
        have h := h.2
        exact ub_X5_actionFor_28 g _ a0 _ m_a0 h hQ
      · have h := h.2 hc
        exact ub_X5_actionFor_18 g _ a0 m_a0 h hQ
  · have h := h.2 hc
    exact hQ _ _ h
def kb_X5_handOver_53 (L : c_L) (S : c_S) (Q : c_S → Prop) : Prop := Q S
set_option maxRecDepth 100000 in
set_option maxHeartbeats 4000000 in
theorem ub_X5_handOver_53 {L : c_L} {T : q_S} (g : c_G L T) (S : c_S)  {Q1 : c_S → Prop} {Q : Option Value → q_S → Prop} (h : kb_X5_handOver_53 L  S Q1) (hQ : ∀ K : c_S, Q1 K → Q none (c_E L K T)) : wb_X5_handOver_53  (c_E L S T) Q := by
  unfold wb_X5_handOver_53
  unfold kb_X5_handOver_53 at h
  try simp only [true_and, Option.some.injEq, exists_eq_left', c_xm, c_xn, c_xs]
  exact hQ _ h
def km_X5_handOver (L : c_L) (S : c_S) (a0 : Nat) (r1 : Option Nat) (x2 : Int32) (x3 : Int32) (x4 : Int32) (Q : c_S → Prop) : Prop := ∃ a1_ : Nat, r1 = some a1_ ∧ (c_mk L 7 a1_ ∧ (km_X7_leave L S a1_ (3 : Int32) (fun S5_ => (km_X5_unlockOf L S5_ a0 r1 (fun S8_ => (∀ S11_ : c_S, S11_ = (cs_I (cs_I (cs_I S8_ 1016 a0 (c_I S8_ 1400 a1_)) 1017 a0 x2) 1018 a0 x3) → (km_X5_processAt L S11_ a0 (c_I S11_ 1008 a0) (fun r14_ S13_ => ((r14_ = none → (kb_X5_handOver_53 L S13_ Q)) ∧ (¬ r14_ = none → (km_X5_start L S13_ a0 r14_ x4 x4 (fun S18_ => (kb_X5_handOver_53 L S18_ Q)))))))))))))
set_option maxRecDepth 100000 in
set_option maxHeartbeats 4000000 in
theorem um_X5_handOver {L : c_L} {T : q_S} (g : c_G L T) (S : c_S) (a0 : Nat) (r1 : Option Nat) (x2 : Int32) (x3 : Int32) (x4 : Int32) (m_a0 : c_mk L 5 a0) {Q1 : c_S → Prop} {Q : Option Value → q_S → Prop} (h : km_X5_handOver L  S a0 r1 x2 x3 x4 Q1) (hQ : ∀ K : c_S, Q1 K → Q none (c_E L K T)) : wm_X5_handOver  (c_E L S T) (c_ob L 5 a0) (r1.map (c_ob L 7)) x2 x3 x4 Q := by
  unfold wm_X5_handOver
  unfold km_X5_handOver at h
  try simp only [c_gk g m_a0 6 rfl, c_eI (f := 1008) m_a0 rfl, c_eIs (f := 1016) (c_gw g) m_a0 rfl, c_eIs (f := 1017) (c_gw g) m_a0 rfl, c_eIs (f := 1018) (c_gw g) m_a0 rfl, true_and, Option.some.injEq, exists_eq_left', c_xm, c_xn, c_xs]
  obtain ⟨a1_, e_a1_, m_a1_, h⟩ := h
  refine ⟨a1_, e_a1_, ?_⟩
  try simp only [c_gk g m_a0 6 rfl, c_gk g m_a1_ 8 rfl, c_eI (f := 1008) m_a0 rfl, c_eIs (f := 1016) (c_gw g) m_a0 rfl, c_eIs (f := 1017) (c_gw g) m_a0 rfl, c_eIs (f := 1018) (c_gw g) m_a0 rfl, c_eI (f := 1400) m_a1_ rfl, true_and, Option.some.injEq, exists_eq_left', c_xm, c_xn, c_xs]
  refine um_X7_leave g _ a1_ _ m_a1_ h (fun S5_ h => ?_)
  refine ⟨rfl, ?_⟩
  try simp only [c_gk g m_a0 6 rfl, c_gk g m_a1_ 8 rfl, c_eI (f := 1008) m_a0 rfl, c_eIs (f := 1016) (c_gw g) m_a0 rfl, c_eIs (f := 1017) (c_gw g) m_a0 rfl, c_eIs (f := 1018) (c_gw g) m_a0 rfl, c_eI (f := 1400) m_a1_ rfl, true_and, Option.some.injEq, exists_eq_left', c_xm, c_xn, c_xs]
  refine um_X5_unlockOf g _ a0 r1 m_a0 h (fun S8_ h => ?_)
  refine ⟨rfl, ?_⟩
  try simp only [c_gk g m_a0 6 rfl, c_gk g m_a1_ 8 rfl, c_eI (f := 1008) m_a0 rfl, c_eIs (f := 1016) (c_gw g) m_a0 rfl, c_eIs (f := 1017) (c_gw g) m_a0 rfl, c_eIs (f := 1018) (c_gw g) m_a0 rfl, c_eI (f := 1400) m_a1_ rfl, true_and, Option.some.injEq, exists_eq_left', c_xm, c_xn, c_xs]
  refine fun S11_ e_S11_ => ?_
  have h := h S11_ e_S11_
  refine um_X5_processAt g _ a0 _ m_a0 h (fun r14_ S13_ h => ?_)
  refine ⟨_, rfl, ?_⟩
  try simp only [c_gk g m_a0 6 rfl, c_gk g m_a1_ 8 rfl, c_eI (f := 1008) m_a0 rfl, c_eIs (f := 1016) (c_gw g) m_a0 rfl, c_eIs (f := 1017) (c_gw g) m_a0 rfl, c_eIs (f := 1018) (c_gw g) m_a0 rfl, c_eI (f := 1400) m_a1_ rfl, true_and, Option.some.injEq, exists_eq_left', c_xm, c_xn, c_xs]
  refine ⟨fun hc => ?_, fun hc => ?_⟩
  · have h := h.1 hc
    exact ub_X5_handOver_53 g _  h hQ
  · have h := h.2 hc
    refine um_X5_start g _ a0 r14_ _ _ m_a0 h (fun S18_ h => ?_)
    refine ⟨rfl, ?_⟩
    try simp only [c_gk g m_a0 6 rfl, c_gk g m_a1_ 8 rfl, c_eI (f := 1008) m_a0 rfl, c_eIs (f := 1016) (c_gw g) m_a0 rfl, c_eIs (f := 1017) (c_gw g) m_a0 rfl, c_eIs (f := 1018) (c_gw g) m_a0 rfl, c_eI (f := 1400) m_a1_ rfl, true_and, Option.some.injEq, exists_eq_left', c_xm, c_xn, c_xs]
    exact ub_X5_handOver_53 g _  h hQ
def kb_X5_firstToWake_57 (L : c_L) (B4 : c_S → Nat → Int32 → Option Nat → Int32 → Prop) (S : c_S) (a0 : Nat) (x1 : Int32) (r2 : Option Nat) (x3 : Int32) (Q : Option Nat → c_S → Prop) : Prop := B4 S a0 x1 r2 (x3 + 1)
set_option maxRecDepth 100000 in
set_option maxHeartbeats 4000000 in
theorem ub_X5_firstToWake_57 {L : c_L} {T : q_S} (g : c_G L T) {OB4 : q_S → Nat → Int32 → Option Nat → Int32 → Prop} {B4 : c_S → Nat → Int32 → Option Nat → Int32 → Prop} (hB4 : ∀ (S1 : c_S) (a0 : Nat) (x1 : Int32) (r2 : Option Nat) (x3 : Int32), c_mk L 5 a0 → B4 S1 a0 x1 r2 x3 → OB4 (c_E L S1 T) (c_ob L 5 a0) x1 (r2.map (c_ob L 7)) x3) (S : c_S) (a0 : Nat) (x1 : Int32) (r2 : Option Nat) (x3 : Int32) (m_a0 : c_mk L 5 a0) {Q1 : Option Nat → c_S → Prop} {Q : Option Value → q_S → Prop} (h : kb_X5_firstToWake_57 L B4 S a0 x1 r2 x3 Q1) (hQ : ∀ (v : Option Nat) (K : c_S), Q1 v K → Q (some (va_rf (v.map (c_ob L 7)))) (c_E L K T)) : wb_X5_firstToWake_57 OB4 (c_E L S T) (c_ob L 5 a0) x1 (r2.map (c_ob L 7)) x3 Q := by
  unfold wb_X5_firstToWake_57
  unfold kb_X5_firstToWake_57 at h
  try simp only [c_gk g m_a0 6 rfl, true_and, Option.some.injEq, exists_eq_left', c_xm, c_xn, c_xs]
  exact hB4 _ a0 _ r2 _ m_a0 h
def kb_X5_firstToWake_54 (L : c_L) (B4 : c_S → Nat → Int32 → Option Nat → Int32 → Prop) (S : c_S) (a0 : Nat) (x1 : Int32) (x3 : Int32) (r4 : Option Nat) (Q : Option Nat → c_S → Prop) : Prop := kb_X5_firstToWake_57 L B4 S a0 x1 r4 x3 Q
set_option maxRecDepth 100000 in
set_option maxHeartbeats 4000000 in
theorem ub_X5_firstToWake_54 {L : c_L} {T : q_S} (g : c_G L T) {OB4 : q_S → Nat → Int32 → Option Nat → Int32 → Prop} {B4 : c_S → Nat → Int32 → Option Nat → Int32 → Prop} (hB4 : ∀ (S1 : c_S) (a0 : Nat) (x1 : Int32) (r2 : Option Nat) (x3 : Int32), c_mk L 5 a0 → B4 S1 a0 x1 r2 x3 → OB4 (c_E L S1 T) (c_ob L 5 a0) x1 (r2.map (c_ob L 7)) x3) (S : c_S) (a0 : Nat) (x1 : Int32) (x3 : Int32) (r4 : Option Nat) (m_a0 : c_mk L 5 a0) {Q1 : Option Nat → c_S → Prop} {Q : Option Value → q_S → Prop} (h : kb_X5_firstToWake_54 L B4 S a0 x1 x3 r4 Q1) (hQ : ∀ (v : Option Nat) (K : c_S), Q1 v K → Q (some (va_rf (v.map (c_ob L 7)))) (c_E L K T)) : wb_X5_firstToWake_54 OB4 (c_E L S T) (c_ob L 5 a0) x1 x3 (r4.map (c_ob L 7)) Q := by
  unfold wb_X5_firstToWake_54
  unfold kb_X5_firstToWake_54 at h
  try simp only [c_gk g m_a0 6 rfl, true_and, Option.some.injEq, exists_eq_left', c_xm, c_xn, c_xs]
  exact ub_X5_firstToWake_57 g hB4 _ a0 _ r4 _ m_a0 h hQ
def kb_X5_firstToWake_4 (L : c_L) (B4 : c_S → Nat → Int32 → Option Nat → Int32 → Prop) (S : c_S) (a0 : Nat) (x1 : Int32) (r2 : Option Nat) (x3 : Int32) (Q : Option Nat → c_S → Prop) : Prop := ((c_I S 1004 a0) ≤ x3 → (Q r2 S)) ∧ (¬ (c_I S 1004 a0) ≤ x3 → (vp_in x3 16 ∧ (∃ a7_ : Nat, (c_e7 L a0 x3.toNatClampNeg) = some a7_ ∧ (c_mk L 7 a7_ ∧ (((c_I S 1413 a7_) = (-1 : Int32) → (kb_X5_firstToWake_57 L B4 S a0 x1 r2 x3 Q)) ∧ (¬ (c_I S 1413 a7_) = (-1 : Int32) → ((x1 < (c_I S 1413 a7_) → (kb_X5_firstToWake_57 L B4 S a0 x1 r2 x3 Q)) ∧ (¬ x1 < (c_I S 1413 a7_) → ((r2 = none → (kb_X5_firstToWake_54 L B4 S a0 x1 x3 (c_e7 L a0 x3.toNatClampNeg) Q)) ∧ (¬ r2 = none → (∃ a13_ : Nat, r2 = some a13_ ∧ (c_mk L 7 a13_ ∧ (((c_I S 1413 a13_) ≤ (c_I S 1413 a7_) → (kb_X5_firstToWake_57 L B4 S a0 x1 r2 x3 Q)) ∧ (¬ (c_I S 1413 a13_) ≤ (c_I S 1413 a7_) → (kb_X5_firstToWake_54 L B4 S a0 x1 x3 (c_e7 L a0 x3.toNatClampNeg) Q)))))))))))))))
set_option maxRecDepth 100000 in
set_option maxHeartbeats 4000000 in
theorem ub_X5_firstToWake_4 {L : c_L} {T : q_S} (g : c_G L T) {OB4 : q_S → Nat → Int32 → Option Nat → Int32 → Prop} {B4 : c_S → Nat → Int32 → Option Nat → Int32 → Prop} (hB4 : ∀ (S1 : c_S) (a0 : Nat) (x1 : Int32) (r2 : Option Nat) (x3 : Int32), c_mk L 5 a0 → B4 S1 a0 x1 r2 x3 → OB4 (c_E L S1 T) (c_ob L 5 a0) x1 (r2.map (c_ob L 7)) x3) (S : c_S) (a0 : Nat) (x1 : Int32) (r2 : Option Nat) (x3 : Int32) (m_a0 : c_mk L 5 a0) {Q1 : Option Nat → c_S → Prop} {Q : Option Value → q_S → Prop} (h : kb_X5_firstToWake_4 L B4 S a0 x1 r2 x3 Q1) (hQ : ∀ (v : Option Nat) (K : c_S), Q1 v K → Q (some (va_rf (v.map (c_ob L 7)))) (c_E L K T)) : wb_X5_firstToWake_4 OB4 (c_E L S T) (c_ob L 5 a0) x1 (r2.map (c_ob L 7)) x3 Q := by
  unfold wb_X5_firstToWake_4
  unfold kb_X5_firstToWake_4 at h
  try simp only [c_gk g m_a0 6 rfl, c_eI (f := 1004) m_a0 rfl, true_and, Option.some.injEq, exists_eq_left', c_xm, c_xn, c_xs]
  refine ⟨fun hc => ?_, fun hc => ?_⟩
  · have h := h.1 hc
    exact hQ _ _ h
  · have h := h.2 hc
    have n1003_a0 := c_gA g 1003 rfl (by decide) m_a0
    try simp only [c_gk g m_a0 6 rfl, c_gr g n1003_a0 26 rfl, c_gN g n1003_a0 16 (by decide), c_g7 g m_a0, c_ga g 1003 rfl rfl (by decide) m_a0, c_eI (f := 1004) m_a0 rfl, true_and, Option.some.injEq, exists_eq_left', c_xm, c_xn, c_xs]
    refine ⟨h.1, ?_⟩
    have h := h.2
    obtain ⟨a7_, e_a7_, m_a7_, h⟩ := h
    refine ⟨a7_, e_a7_, ?_⟩
    try simp only [c_gk g m_a0 6 rfl, c_gk g m_a7_ 8 rfl, c_gr g n1003_a0 26 rfl, c_gN g n1003_a0 16 (by decide), c_g7 g m_a0, c_ga g 1003 rfl rfl (by decide) m_a0, c_eI (f := 1004) m_a0 rfl, c_eI (f := 1413) m_a7_ rfl, true_and, Option.some.injEq, exists_eq_left', c_xm, c_xn, c_xs]
    refine ⟨fun hc => ?_, fun hc => ?_⟩
    · have h := h.1 hc
      exact ub_X5_firstToWake_57 g hB4 _ a0 _ r2 _ m_a0 h hQ
    · have h := h.2 hc
      refine ⟨fun hc => ?_, fun hc => ?_⟩
      · have h := h.1 hc
        exact ub_X5_firstToWake_57 g hB4 _ a0 _ r2 _ m_a0 h hQ
      · have h := h.2 hc
        refine ⟨fun hc => ?_, fun hc => ?_⟩
        · have h := h.1 hc
          exact ub_X5_firstToWake_54 g hB4 _ a0 _ _ (c_e7 L a0 x3.toNatClampNeg) m_a0 h hQ
        · have h := h.2 hc
          obtain ⟨a13_, e_a13_, m_a13_, h⟩ := h
          refine ⟨a13_, e_a13_, ?_⟩
          try simp only [c_gk g m_a0 6 rfl, c_gk g m_a7_ 8 rfl, c_gk g m_a13_ 8 rfl, c_gr g n1003_a0 26 rfl, c_gN g n1003_a0 16 (by decide), c_g7 g m_a0, c_ga g 1003 rfl rfl (by decide) m_a0, c_eI (f := 1004) m_a0 rfl, c_eI (f := 1413) m_a7_ rfl, c_eI (f := 1413) m_a13_ rfl, true_and, Option.some.injEq, exists_eq_left', c_xm, c_xn, c_xs]
          refine ⟨fun hc => ?_, fun hc => ?_⟩
          · have h := h.1 hc
            exact ub_X5_firstToWake_57 g hB4 _ a0 _ r2 _ m_a0 h hQ
          · have h := h.2 hc
            exact ub_X5_firstToWake_54 g hB4 _ a0 _ _ (c_e7 L a0 x3.toNatClampNeg) m_a0 h hQ
def kl_X5_firstToWake_4 (L : c_L)  : Nat → c_S → Nat → Int32 → Option Nat → Int32 → (Option Nat → c_S → Prop) → Prop
  | 0, _, _, _, _, _, _ => False
  | n + 1, S, a0, x1, r2, x3, Q => kb_X5_firstToWake_4 L (fun S a0 x1 r2 x3 => kl_X5_firstToWake_4 L n S a0 x1 r2 x3 Q) S a0 x1 r2 x3 Q
theorem ul_X5_firstToWake_4 {L : c_L} {T : q_S} (g : c_G L T) (n : Nat) (S : c_S) (a0 : Nat) (x1 : Int32) (r2 : Option Nat) (x3 : Int32) (m_a0 : c_mk L 5 a0) {Q1 : Option Nat → c_S → Prop} {Q : Option Value → q_S → Prop} (h : kl_X5_firstToWake_4 L  n S a0 x1 r2 x3 Q1) (hQ : ∀ (v : Option Nat) (K : c_S), Q1 v K → Q (some (va_rf (v.map (c_ob L 7)))) (c_E L K T)) : wl_X5_firstToWake_4  n (c_E L S T) (c_ob L 5 a0) x1 (r2.map (c_ob L 7)) x3 Q := by
  induction n generalizing S a0 x1 r2 x3 with
  | zero => exact h.elim
  | succ n ih => exact ub_X5_firstToWake_4 g (fun u0 u1 u2 u3 u4 w0 h => ih u0 u1 u2 u3 u4 w0 h) S a0 x1 r2 x3 m_a0 h hQ
def km_X5_firstToWake (L : c_L) (S : c_S) (a0 : Nat) (x1 : Int32) (Q : Option Nat → c_S → Prop) : Prop := ∃ n17_ : Nat, kl_X5_firstToWake_4 L n17_ S a0 x1 none (0 : Int32) Q
set_option maxRecDepth 100000 in
set_option maxHeartbeats 4000000 in
theorem um_X5_firstToWake {L : c_L} {T : q_S} (g : c_G L T) (S : c_S) (a0 : Nat) (x1 : Int32) (m_a0 : c_mk L 5 a0) {Q1 : Option Nat → c_S → Prop} {Q : Option Value → q_S → Prop} (h : km_X5_firstToWake L  S a0 x1 Q1) (hQ : ∀ (v : Option Nat) (K : c_S), Q1 v K → Q (some (va_rf (v.map (c_ob L 7)))) (c_E L K T)) : wm_X5_firstToWake  (c_E L S T) (c_ob L 5 a0) x1 Q := by
  unfold wm_X5_firstToWake
  unfold km_X5_firstToWake at h
  try simp only [c_gk g m_a0 6 rfl, true_and, Option.some.injEq, exists_eq_left', c_xm, c_xn, c_xs]
  obtain ⟨n17_, h⟩ := h
  refine ⟨n17_, ?_⟩
  exact ul_X5_firstToWake_4 g n17_ _ a0 _ none _ m_a0 h hQ
def kb_X5_wakeUntil_45 (L : c_L) (B2 : c_S → Nat → Int32 → Int32 → Prop) (S : c_S) (a0 : Nat) (x1 : Int32) (x2 : Int32) (Q : c_S → Prop) : Prop := B2 S a0 x1 (x2 + 1)
set_option maxRecDepth 100000 in
set_option maxHeartbeats 4000000 in
theorem ub_X5_wakeUntil_45 {L : c_L} {T : q_S} (g : c_G L T) {OB2 : q_S → Nat → Int32 → Int32 → Prop} {B2 : c_S → Nat → Int32 → Int32 → Prop} (hB2 : ∀ (S1 : c_S) (a0 : Nat) (x1 : Int32) (x2 : Int32), c_mk L 5 a0 → B2 S1 a0 x1 x2 → OB2 (c_E L S1 T) (c_ob L 5 a0) x1 x2) (S : c_S) (a0 : Nat) (x1 : Int32) (x2 : Int32) (m_a0 : c_mk L 5 a0) {Q1 : c_S → Prop} {Q : Option Value → q_S → Prop} (h : kb_X5_wakeUntil_45 L B2 S a0 x1 x2 Q1) (hQ : ∀ K : c_S, Q1 K → Q none (c_E L K T)) : wb_X5_wakeUntil_45 OB2 (c_E L S T) (c_ob L 5 a0) x1 x2 Q := by
  unfold wb_X5_wakeUntil_45
  unfold kb_X5_wakeUntil_45 at h
  try simp only [c_gk g m_a0 6 rfl, true_and, Option.some.injEq, exists_eq_left', c_xm, c_xn, c_xs]
  exact hB2 _ a0 _ _ m_a0 h
def kb_X5_wakeUntil_2 (L : c_L) (B2 : c_S → Nat → Int32 → Int32 → Prop) (S : c_S) (a0 : Nat) (x1 : Int32) (x2 : Int32) (Q : c_S → Prop) : Prop := ((c_I S 1004 a0) ≤ x2 → (Q S)) ∧ (¬ (c_I S 1004 a0) ≤ x2 → (km_X5_firstToWake L S a0 x1 (fun r5_ S4_ => ((¬ r5_ = none → (∃ a7_ : Nat, r5_ = some a7_ ∧ (c_mk L 7 a7_ ∧ ((¬ (c_I S4_ 1418 a7_) = (128 : Int32) → (km_X5_answerWaiter L S4_ a0 r5_ (4 : Int32) (fun S13_ => (kb_X5_wakeUntil_45 L B2 S13_ a0 x1 x2 Q)))) ∧ ((c_I S4_ 1418 a7_) = (128 : Int32) → (km_X5_makeReady L S4_ a0 r5_ (fun S16_ => (kb_X5_wakeUntil_45 L B2 S16_ a0 x1 x2 Q)))))))) ∧ (r5_ = none → (Q S4_))))))
set_option maxRecDepth 100000 in
set_option maxHeartbeats 4000000 in
theorem ub_X5_wakeUntil_2 {L : c_L} {T : q_S} (g : c_G L T) {OB2 : q_S → Nat → Int32 → Int32 → Prop} {B2 : c_S → Nat → Int32 → Int32 → Prop} (hB2 : ∀ (S1 : c_S) (a0 : Nat) (x1 : Int32) (x2 : Int32), c_mk L 5 a0 → B2 S1 a0 x1 x2 → OB2 (c_E L S1 T) (c_ob L 5 a0) x1 x2) (S : c_S) (a0 : Nat) (x1 : Int32) (x2 : Int32) (m_a0 : c_mk L 5 a0) {Q1 : c_S → Prop} {Q : Option Value → q_S → Prop} (h : kb_X5_wakeUntil_2 L B2 S a0 x1 x2 Q1) (hQ : ∀ K : c_S, Q1 K → Q none (c_E L K T)) : wb_X5_wakeUntil_2 OB2 (c_E L S T) (c_ob L 5 a0) x1 x2 Q := by
  unfold wb_X5_wakeUntil_2
  unfold kb_X5_wakeUntil_2 at h
  try simp only [c_gk g m_a0 6 rfl, c_eI (f := 1004) m_a0 rfl, true_and, Option.some.injEq, exists_eq_left', c_xm, c_xn, c_xs]
  refine ⟨fun hc => ?_, fun hc => ?_⟩
  · have h := h.1 hc
    exact hQ _ h
  · have h := h.2 hc
    refine um_X5_firstToWake g _ a0 _ m_a0 h (fun r5_ S4_ h => ?_)
    refine ⟨_, rfl, ?_⟩
    try simp only [c_gk g m_a0 6 rfl, c_eI (f := 1004) m_a0 rfl, true_and, Option.some.injEq, exists_eq_left', c_xm, c_xn, c_xs]
    refine ⟨fun hc => ?_, fun hc => ?_⟩
    · have h := h.1 hc
      obtain ⟨a7_, e_a7_, m_a7_, h⟩ := h
      refine ⟨a7_, e_a7_, ?_⟩
      try simp only [c_gk g m_a0 6 rfl, c_gk g m_a7_ 8 rfl, c_eI (f := 1004) m_a0 rfl, c_eI (f := 1418) m_a7_ rfl, true_and, Option.some.injEq, exists_eq_left', c_xm, c_xn, c_xs]
      refine ⟨fun hc => ?_, fun hc => ?_⟩
      · have h := h.1 hc
        refine um_X5_answerWaiter g _ a0 r5_ _ m_a0 h (fun S13_ h => ?_)
        refine ⟨rfl, ?_⟩
        try simp only [c_gk g m_a0 6 rfl, c_gk g m_a7_ 8 rfl, c_eI (f := 1004) m_a0 rfl, c_eI (f := 1418) m_a7_ rfl, true_and, Option.some.injEq, exists_eq_left', c_xm, c_xn, c_xs]
        exact ub_X5_wakeUntil_45 g hB2 _ a0 _ _ m_a0 h hQ
      · have h := h.2 hc
        refine um_X5_makeReady g _ a0 r5_ m_a0 h (fun S16_ h => ?_)
        refine ⟨rfl, ?_⟩
        try simp only [c_gk g m_a0 6 rfl, c_gk g m_a7_ 8 rfl, c_eI (f := 1004) m_a0 rfl, c_eI (f := 1418) m_a7_ rfl, true_and, Option.some.injEq, exists_eq_left', c_xm, c_xn, c_xs]
        exact ub_X5_wakeUntil_45 g hB2 _ a0 _ _ m_a0 h hQ
    · have h := h.2 hc
      exact hQ _ h
def kl_X5_wakeUntil_2 (L : c_L)  : Nat → c_S → Nat → Int32 → Int32 → (c_S → Prop) → Prop
  | 0, _, _, _, _, _ => False
  | n + 1, S, a0, x1, x2, Q => kb_X5_wakeUntil_2 L (fun S a0 x1 x2 => kl_X5_wakeUntil_2 L n S a0 x1 x2 Q) S a0 x1 x2 Q
theorem ul_X5_wakeUntil_2 {L : c_L} {T : q_S} (g : c_G L T) (n : Nat) (S : c_S) (a0 : Nat) (x1 : Int32) (x2 : Int32) (m_a0 : c_mk L 5 a0) {Q1 : c_S → Prop} {Q : Option Value → q_S → Prop} (h : kl_X5_wakeUntil_2 L  n S a0 x1 x2 Q1) (hQ : ∀ K : c_S, Q1 K → Q none (c_E L K T)) : wl_X5_wakeUntil_2  n (c_E L S T) (c_ob L 5 a0) x1 x2 Q := by
  induction n generalizing S a0 x1 x2 with
  | zero => exact h.elim
  | succ n ih => exact ub_X5_wakeUntil_2 g (fun u0 u1 u2 u3 w0 h => ih u0 u1 u2 u3 w0 h) S a0 x1 x2 m_a0 h hQ
def km_X5_wakeUntil (L : c_L) (S : c_S) (a0 : Nat) (x1 : Int32) (Q : c_S → Prop) : Prop := ∃ n17_ : Nat, kl_X5_wakeUntil_2 L n17_ S a0 x1 (0 : Int32) Q
set_option maxRecDepth 100000 in
set_option maxHeartbeats 4000000 in
theorem um_X5_wakeUntil {L : c_L} {T : q_S} (g : c_G L T) (S : c_S) (a0 : Nat) (x1 : Int32) (m_a0 : c_mk L 5 a0) {Q1 : c_S → Prop} {Q : Option Value → q_S → Prop} (h : km_X5_wakeUntil L  S a0 x1 Q1) (hQ : ∀ K : c_S, Q1 K → Q none (c_E L K T)) : wm_X5_wakeUntil  (c_E L S T) (c_ob L 5 a0) x1 Q := by
  unfold wm_X5_wakeUntil
  unfold km_X5_wakeUntil at h
  try simp only [c_gk g m_a0 6 rfl, true_and, Option.some.injEq, exists_eq_left', c_xm, c_xn, c_xs]
  obtain ⟨n17_, h⟩ := h
  refine ⟨n17_, ?_⟩
  exact ul_X5_wakeUntil_2 g n17_ _ a0 _ _ m_a0 h hQ
def kb_X5_chosen_114 (L : c_L) (B62 : c_S → Nat → Option Nat → Int32 → Prop) (S : c_S) (a0 : Nat) (r3 : Option Nat) (x4 : Int32) (Q : Option Nat → c_S → Prop) : Prop := B62 S a0 r3 (x4 + 1)
set_option maxRecDepth 100000 in
set_option maxHeartbeats 4000000 in
theorem ub_X5_chosen_114 {L : c_L} {T : q_S} (g : c_G L T) {OB62 : q_S → Nat → Option Nat → Int32 → Prop} {B62 : c_S → Nat → Option Nat → Int32 → Prop} (hB62 : ∀ (S1 : c_S) (a0 : Nat) (r3 : Option Nat) (x4 : Int32), c_mk L 5 a0 → B62 S1 a0 r3 x4 → OB62 (c_E L S1 T) (c_ob L 5 a0) (r3.map (c_ob L 7)) x4) (S : c_S) (a0 : Nat) (r3 : Option Nat) (x4 : Int32) (m_a0 : c_mk L 5 a0) {Q1 : Option Nat → c_S → Prop} {Q : Option Value → q_S → Prop} (h : kb_X5_chosen_114 L B62 S a0 r3 x4 Q1) (hQ : ∀ (v : Option Nat) (K : c_S), Q1 v K → Q (some (va_rf (v.map (c_ob L 7)))) (c_E L K T)) : wb_X5_chosen_114 OB62 (c_E L S T) (c_ob L 5 a0) (r3.map (c_ob L 7)) x4 Q := by
  unfold wb_X5_chosen_114
  unfold kb_X5_chosen_114 at h
  try simp only [c_gk g m_a0 6 rfl, true_and, Option.some.injEq, exists_eq_left', c_xm, c_xn, c_xs]
  exact hB62 _ a0 r3 _ m_a0 h
def kb_X5_chosen_111 (L : c_L) (B62 : c_S → Nat → Option Nat → Int32 → Prop) (S : c_S) (a0 : Nat) (x4 : Int32) (r5 : Option Nat) (Q : Option Nat → c_S → Prop) : Prop := kb_X5_chosen_114 L B62 S a0 r5 x4 Q
set_option maxRecDepth 100000 in
set_option maxHeartbeats 4000000 in
theorem ub_X5_chosen_111 {L : c_L} {T : q_S} (g : c_G L T) {OB62 : q_S → Nat → Option Nat → Int32 → Prop} {B62 : c_S → Nat → Option Nat → Int32 → Prop} (hB62 : ∀ (S1 : c_S) (a0 : Nat) (r3 : Option Nat) (x4 : Int32), c_mk L 5 a0 → B62 S1 a0 r3 x4 → OB62 (c_E L S1 T) (c_ob L 5 a0) (r3.map (c_ob L 7)) x4) (S : c_S) (a0 : Nat) (x4 : Int32) (r5 : Option Nat) (m_a0 : c_mk L 5 a0) {Q1 : Option Nat → c_S → Prop} {Q : Option Value → q_S → Prop} (h : kb_X5_chosen_111 L B62 S a0 x4 r5 Q1) (hQ : ∀ (v : Option Nat) (K : c_S), Q1 v K → Q (some (va_rf (v.map (c_ob L 7)))) (c_E L K T)) : wb_X5_chosen_111 OB62 (c_E L S T) (c_ob L 5 a0) x4 (r5.map (c_ob L 7)) Q := by
  unfold wb_X5_chosen_111
  unfold kb_X5_chosen_111 at h
  try simp only [c_gk g m_a0 6 rfl, true_and, Option.some.injEq, exists_eq_left', c_xm, c_xn, c_xs]
  exact ub_X5_chosen_114 g hB62 _ a0 r5 _ m_a0 h hQ
def kb_X5_chosen_62 (L : c_L) (B62 : c_S → Nat → Option Nat → Int32 → Prop) (S : c_S) (a0 : Nat) (r3 : Option Nat) (x4 : Int32) (Q : Option Nat → c_S → Prop) : Prop := ((c_I S 1004 a0) ≤ x4 → (Q r3 S)) ∧ (¬ (c_I S 1004 a0) ≤ x4 → (vp_in x4 16 ∧ (∃ a7_ : Nat, (c_e7 L a0 x4.toNatClampNeg) = some a7_ ∧ (c_mk L 7 a7_ ∧ ((¬ (c_I S 1409 a7_) = (1 : Int32) → (kb_X5_chosen_114 L B62 S a0 r3 x4 Q)) ∧ ((c_I S 1409 a7_) = (1 : Int32) → ((¬ (c_I S 1416 a7_) = 0 → (kb_X5_chosen_114 L B62 S a0 r3 x4 Q)) ∧ ((c_I S 1416 a7_) = 0 → ((r3 = none → (kb_X5_chosen_111 L B62 S a0 x4 (c_e7 L a0 x4.toNatClampNeg) Q)) ∧ (¬ r3 = none → (km_X7_isAheadOf L S a7_ r3 (0 : Int32) (fun x15_ S14_ => ((x15_ = 0 → (kb_X5_chosen_114 L B62 S14_ a0 r3 x4 Q)) ∧ (¬ x15_ = 0 → (kb_X5_chosen_111 L B62 S14_ a0 x4 (c_e7 L a0 x4.toNatClampNeg) Q)))))))))))))))
set_option maxRecDepth 100000 in
set_option maxHeartbeats 4000000 in
theorem ub_X5_chosen_62 {L : c_L} {T : q_S} (g : c_G L T) {OB62 : q_S → Nat → Option Nat → Int32 → Prop} {B62 : c_S → Nat → Option Nat → Int32 → Prop} (hB62 : ∀ (S1 : c_S) (a0 : Nat) (r3 : Option Nat) (x4 : Int32), c_mk L 5 a0 → B62 S1 a0 r3 x4 → OB62 (c_E L S1 T) (c_ob L 5 a0) (r3.map (c_ob L 7)) x4) (S : c_S) (a0 : Nat) (r3 : Option Nat) (x4 : Int32) (m_a0 : c_mk L 5 a0) {Q1 : Option Nat → c_S → Prop} {Q : Option Value → q_S → Prop} (h : kb_X5_chosen_62 L B62 S a0 r3 x4 Q1) (hQ : ∀ (v : Option Nat) (K : c_S), Q1 v K → Q (some (va_rf (v.map (c_ob L 7)))) (c_E L K T)) : wb_X5_chosen_62 OB62 (c_E L S T) (c_ob L 5 a0) (r3.map (c_ob L 7)) x4 Q := by
  unfold wb_X5_chosen_62
  unfold kb_X5_chosen_62 at h
  try simp only [c_gk g m_a0 6 rfl, c_eI (f := 1004) m_a0 rfl, true_and, Option.some.injEq, exists_eq_left', c_xm, c_xn, c_xs]
  refine ⟨fun hc => ?_, fun hc => ?_⟩
  · have h := h.1 hc
    exact hQ _ _ h
  · have h := h.2 hc
    have n1003_a0 := c_gA g 1003 rfl (by decide) m_a0
    try simp only [c_gk g m_a0 6 rfl, c_gr g n1003_a0 26 rfl, c_gN g n1003_a0 16 (by decide), c_g7 g m_a0, c_ga g 1003 rfl rfl (by decide) m_a0, c_eI (f := 1004) m_a0 rfl, true_and, Option.some.injEq, exists_eq_left', c_xm, c_xn, c_xs]
    refine ⟨h.1, ?_⟩
    have h := h.2
    obtain ⟨a7_, e_a7_, m_a7_, h⟩ := h
    refine ⟨a7_, e_a7_, ?_⟩
    try simp only [c_gk g m_a0 6 rfl, c_gk g m_a7_ 8 rfl, c_gr g n1003_a0 26 rfl, c_gN g n1003_a0 16 (by decide), c_g7 g m_a0, c_ga g 1003 rfl rfl (by decide) m_a0, c_eI (f := 1004) m_a0 rfl, c_eI (f := 1409) m_a7_ rfl, c_eI (f := 1416) m_a7_ rfl, true_and, Option.some.injEq, exists_eq_left', c_xm, c_xn, c_xs]
    refine ⟨fun hc => ?_, fun hc => ?_⟩
    · have h := h.1 hc
      exact ub_X5_chosen_114 g hB62 _ a0 r3 _ m_a0 h hQ
    · have h := h.2 hc
      refine ⟨fun hc => ?_, fun hc => ?_⟩
      · have h := h.1 hc
        exact ub_X5_chosen_114 g hB62 _ a0 r3 _ m_a0 h hQ
      · have h := h.2 hc
        refine ⟨fun hc => ?_, fun hc => ?_⟩
        · have h := h.1 hc
          exact ub_X5_chosen_111 g hB62 _ a0 _ (c_e7 L a0 x4.toNatClampNeg) m_a0 h hQ
        · have h := h.2 hc
          refine um_X7_isAheadOf g _ a7_ r3 _ m_a7_ h (fun x15_ S14_ h => ?_)
          refine ⟨_, rfl, ?_⟩
          try simp only [c_gk g m_a0 6 rfl, c_gk g m_a7_ 8 rfl, c_gr g n1003_a0 26 rfl, c_gN g n1003_a0 16 (by decide), c_g7 g m_a0, c_ga g 1003 rfl rfl (by decide) m_a0, c_eI (f := 1004) m_a0 rfl, c_eI (f := 1409) m_a7_ rfl, c_eI (f := 1416) m_a7_ rfl, true_and, Option.some.injEq, exists_eq_left', c_xm, c_xn, c_xs]
          refine ⟨fun hc => ?_, fun hc => ?_⟩
          · have h := h.1 hc
            exact ub_X5_chosen_114 g hB62 _ a0 r3 _ m_a0 h hQ
          · have h := h.2 hc
            exact ub_X5_chosen_111 g hB62 _ a0 _ (c_e7 L a0 x4.toNatClampNeg) m_a0 h hQ
def kl_X5_chosen_62 (L : c_L)  : Nat → c_S → Nat → Option Nat → Int32 → (Option Nat → c_S → Prop) → Prop
  | 0, _, _, _, _, _ => False
  | n + 1, S, a0, r3, x4, Q => kb_X5_chosen_62 L (fun S a0 r3 x4 => kl_X5_chosen_62 L n S a0 r3 x4 Q) S a0 r3 x4 Q
theorem ul_X5_chosen_62 {L : c_L} {T : q_S} (g : c_G L T) (n : Nat) (S : c_S) (a0 : Nat) (r3 : Option Nat) (x4 : Int32) (m_a0 : c_mk L 5 a0) {Q1 : Option Nat → c_S → Prop} {Q : Option Value → q_S → Prop} (h : kl_X5_chosen_62 L  n S a0 r3 x4 Q1) (hQ : ∀ (v : Option Nat) (K : c_S), Q1 v K → Q (some (va_rf (v.map (c_ob L 7)))) (c_E L K T)) : wl_X5_chosen_62  n (c_E L S T) (c_ob L 5 a0) (r3.map (c_ob L 7)) x4 Q := by
  induction n generalizing S a0 r3 x4 with
  | zero => exact h.elim
  | succ n ih => exact ub_X5_chosen_62 g (fun u0 u1 u2 u3 w0 h => ih u0 u1 u2 u3 w0 h) S a0 r3 x4 m_a0 h hQ
def kb_X5_chosen_57 (L : c_L) (S : c_S) (a0 : Nat) (Q : Option Nat → c_S → Prop) : Prop := ∃ n17_ : Nat, kl_X5_chosen_62 L n17_ S a0 none (0 : Int32) Q
set_option maxRecDepth 100000 in
set_option maxHeartbeats 4000000 in
theorem ub_X5_chosen_57 {L : c_L} {T : q_S} (g : c_G L T) (S : c_S) (a0 : Nat) (m_a0 : c_mk L 5 a0) {Q1 : Option Nat → c_S → Prop} {Q : Option Value → q_S → Prop} (h : kb_X5_chosen_57 L  S a0 Q1) (hQ : ∀ (v : Option Nat) (K : c_S), Q1 v K → Q (some (va_rf (v.map (c_ob L 7)))) (c_E L K T)) : wb_X5_chosen_57  (c_E L S T) (c_ob L 5 a0) Q := by
  unfold wb_X5_chosen_57
  unfold kb_X5_chosen_57 at h
  try simp only [c_gk g m_a0 6 rfl, true_and, Option.some.injEq, exists_eq_left', c_xm, c_xn, c_xs]
  obtain ⟨n17_, h⟩ := h
  refine ⟨n17_, ?_⟩
  exact ul_X5_chosen_62 g n17_ _ a0 none _ m_a0 h hQ
def kb_X5_chosen_42 (L : c_L) (S : c_S) (a0 : Nat) (rs0 : Option Nat) (Q : Option Nat → c_S → Prop) : Prop := (rs0 = none → (kb_X5_chosen_57 L S a0 Q)) ∧ (¬ rs0 = none → (∃ a19_ : Nat, rs0 = some a19_ ∧ (c_mk L 7 a19_ ∧ ((¬ (c_I S 1409 a19_) = (1 : Int32) → (kb_X5_chosen_57 L S a0 Q)) ∧ ((c_I S 1409 a19_) = (1 : Int32) → (Q rs0 S))))))
set_option maxRecDepth 100000 in
set_option maxHeartbeats 4000000 in
theorem ub_X5_chosen_42 {L : c_L} {T : q_S} (g : c_G L T) (S : c_S) (a0 : Nat) (rs0 : Option Nat) (m_a0 : c_mk L 5 a0) {Q1 : Option Nat → c_S → Prop} {Q : Option Value → q_S → Prop} (h : kb_X5_chosen_42 L  S a0 rs0 Q1) (hQ : ∀ (v : Option Nat) (K : c_S), Q1 v K → Q (some (va_rf (v.map (c_ob L 7)))) (c_E L K T)) : wb_X5_chosen_42  (c_E L S T) (c_ob L 5 a0) (rs0.map (c_ob L 7)) Q := by
  unfold wb_X5_chosen_42
  unfold kb_X5_chosen_42 at h
  try simp only [c_gk g m_a0 6 rfl, true_and, Option.some.injEq, exists_eq_left', c_xm, c_xn, c_xs]
  refine ⟨fun hc => ?_, fun hc => ?_⟩
  · have h := h.1 hc
    exact ub_X5_chosen_57 g _ a0 m_a0 h hQ
  · have h := h.2 hc
    obtain ⟨a19_, e_a19_, m_a19_, h⟩ := h
    refine ⟨a19_, e_a19_, ?_⟩
    try simp only [c_gk g m_a0 6 rfl, c_gk g m_a19_ 8 rfl, c_eI (f := 1409) m_a19_ rfl, true_and, Option.some.injEq, exists_eq_left', c_xm, c_xn, c_xs]
    refine ⟨fun hc => ?_, fun hc => ?_⟩
    · have h := h.1 hc
      exact ub_X5_chosen_57 g _ a0 m_a0 h hQ
    · have h := h.2 hc
      exact hQ _ _ h
def kb_X5_chosen_23 (L : c_L) (S : c_S) (a0 : Nat) (Q : Option Nat → c_S → Prop) : Prop := ((c_I S 1013 a0) ≤ 0 → (kb_X5_chosen_42 L S a0 none Q)) ∧ (¬ (c_I S 1013 a0) ≤ 0 → (km_X5_processAt L S a0 (c_I S 1014 a0) (fun r27_ S26_ => (kb_X5_chosen_42 L S26_ a0 r27_ Q))))
set_option maxRecDepth 100000 in
set_option maxHeartbeats 4000000 in
theorem ub_X5_chosen_23 {L : c_L} {T : q_S} (g : c_G L T) (S : c_S) (a0 : Nat) (m_a0 : c_mk L 5 a0) {Q1 : Option Nat → c_S → Prop} {Q : Option Value → q_S → Prop} (h : kb_X5_chosen_23 L  S a0 Q1) (hQ : ∀ (v : Option Nat) (K : c_S), Q1 v K → Q (some (va_rf (v.map (c_ob L 7)))) (c_E L K T)) : wb_X5_chosen_23  (c_E L S T) (c_ob L 5 a0) Q := by
  unfold wb_X5_chosen_23
  unfold kb_X5_chosen_23 at h
  try simp only [c_gk g m_a0 6 rfl, c_eI (f := 1013) m_a0 rfl, c_eI (f := 1014) m_a0 rfl, true_and, Option.some.injEq, exists_eq_left', c_xm, c_xn, c_xs]
  refine ⟨fun hc => ?_, fun hc => ?_⟩
  · have h := h.1 hc
    exact ub_X5_chosen_42 g _ a0 none m_a0 h hQ
  · have h := h.2 hc
    refine um_X5_processAt g _ a0 _ m_a0 h (fun r27_ S26_ h => ?_)
    refine ⟨_, rfl, ?_⟩
    try simp only [c_gk g m_a0 6 rfl, c_eI (f := 1013) m_a0 rfl, c_eI (f := 1014) m_a0 rfl, true_and, Option.some.injEq, exists_eq_left', c_xm, c_xn, c_xs]
    exact ub_X5_chosen_42 g _ a0 r27_ m_a0 h hQ
def km_X5_chosen (L : c_L) (S : c_S) (a0 : Nat) (Q : Option Nat → c_S → Prop) : Prop := km_X5_processAt L S a0 (c_I S 1008 a0) (fun r31_ S30_ => ((r31_ = none → (kb_X5_chosen_23 L S30_ a0 Q)) ∧ (¬ r31_ = none → (∃ a33_ : Nat, r31_ = some a33_ ∧ (c_mk L 7 a33_ ∧ ((¬ (c_I S30_ 1409 a33_) = (1 : Int32) → (kb_X5_chosen_23 L S30_ a0 Q)) ∧ ((c_I S30_ 1409 a33_) = (1 : Int32) → (Q r31_ S30_))))))))
set_option maxRecDepth 100000 in
set_option maxHeartbeats 4000000 in
theorem um_X5_chosen {L : c_L} {T : q_S} (g : c_G L T) (S : c_S) (a0 : Nat) (m_a0 : c_mk L 5 a0) {Q1 : Option Nat → c_S → Prop} {Q : Option Value → q_S → Prop} (h : km_X5_chosen L  S a0 Q1) (hQ : ∀ (v : Option Nat) (K : c_S), Q1 v K → Q (some (va_rf (v.map (c_ob L 7)))) (c_E L K T)) : wm_X5_chosen  (c_E L S T) (c_ob L 5 a0) Q := by
  unfold wm_X5_chosen
  unfold km_X5_chosen at h
  try simp only [c_gk g m_a0 6 rfl, c_eI (f := 1008) m_a0 rfl, true_and, Option.some.injEq, exists_eq_left', c_xm, c_xn, c_xs]
  refine um_X5_processAt g _ a0 _ m_a0 h (fun r31_ S30_ h => ?_)
  refine ⟨_, rfl, ?_⟩
  try simp only [c_gk g m_a0 6 rfl, c_eI (f := 1008) m_a0 rfl, true_and, Option.some.injEq, exists_eq_left', c_xm, c_xn, c_xs]
  refine ⟨fun hc => ?_, fun hc => ?_⟩
  · have h := h.1 hc
    exact ub_X5_chosen_23 g _ a0 m_a0 h hQ
  · have h := h.2 hc
    obtain ⟨a33_, e_a33_, m_a33_, h⟩ := h
    refine ⟨a33_, e_a33_, ?_⟩
    try simp only [c_gk g m_a0 6 rfl, c_gk g m_a33_ 8 rfl, c_eI (f := 1008) m_a0 rfl, c_eI (f := 1409) m_a33_ rfl, true_and, Option.some.injEq, exists_eq_left', c_xm, c_xn, c_xs]
    refine ⟨fun hc => ?_, fun hc => ?_⟩
    · have h := h.1 hc
      exact ub_X5_chosen_23 g _ a0 m_a0 h hQ
    · have h := h.2 hc
      exact hQ _ _ h
def km_X6_forget (L : c_L) (S : c_S) (a0 : Nat) (Q : c_S → Prop) : Prop := ∀ S2_ : c_S, S2_ = (cs_I (cs_I (cs_I S 1201 a0 (0 : Int32)) 1203 a0 (0 : Int32)) 1205 a0 (0 : Int32)) → (∀ S3_ : c_S, S3_ = (cs_I (cs_I (cs_I S2_ 1206 a0 (0 : Int32)) 1209 a0 (0 : Int32)) 1213 a0 (0 : Int32)) → (Q S3_))
set_option maxRecDepth 100000 in
set_option maxHeartbeats 4000000 in
theorem um_X6_forget {L : c_L} {T : q_S} (g : c_G L T) (S : c_S) (a0 : Nat) (m_a0 : c_mk L 6 a0) {Q1 : c_S → Prop} {Q : Option Value → q_S → Prop} (h : km_X6_forget L  S a0 Q1) (hQ : ∀ K : c_S, Q1 K → Q none (c_E L K T)) : wm_X6_forget  (c_E L S T) (c_ob L 6 a0) Q := by
  unfold wm_X6_forget
  unfold km_X6_forget at h
  try simp only [c_gk g m_a0 7 rfl, c_eIs (f := 1201) (c_gw g) m_a0 rfl, c_eIs (f := 1203) (c_gw g) m_a0 rfl, c_eIs (f := 1205) (c_gw g) m_a0 rfl, c_eIs (f := 1206) (c_gw g) m_a0 rfl, c_eIs (f := 1209) (c_gw g) m_a0 rfl, c_eIs (f := 1213) (c_gw g) m_a0 rfl, true_and, Option.some.injEq, exists_eq_left', c_xm, c_xn, c_xs]
  refine fun S2_ e_S2_ => ?_
  have h := h S2_ e_S2_
  refine fun S3_ e_S3_ => ?_
  have h := h S3_ e_S3_
  exact hQ _ h
def km_X6_clear (L : c_L) (S : c_S) (a0 : Nat) (Q : c_S → Prop) : Prop := km_X6_forget L S a0 (fun S3_ => (∀ S5_ : c_S, S5_ = (cs_I (cs_I (cs_I S3_ 1211 a0 (0 : Int32)) 1212 a0 (0 : Int32)) 1214 a0 (0 : Int32)) → (km_X2_clear L S5_ a0 (fun S10_ => (Q S10_)))))
set_option maxRecDepth 100000 in
set_option maxHeartbeats 4000000 in
theorem um_X6_clear {L : c_L} {T : q_S} (g : c_G L T) (S : c_S) (a0 : Nat) (m_a0 : c_mk L 6 a0) {Q1 : c_S → Prop} {Q : Option Value → q_S → Prop} (h : km_X6_clear L  S a0 Q1) (hQ : ∀ K : c_S, Q1 K → Q none (c_E L K T)) : wm_X6_clear  (c_E L S T) (c_ob L 6 a0) Q := by
  unfold wm_X6_clear
  unfold km_X6_clear at h
  try simp only [c_gk g m_a0 7 rfl, c_eIs (f := 1211) (c_gw g) m_a0 rfl, c_eIs (f := 1212) (c_gw g) m_a0 rfl, c_eIs (f := 1214) (c_gw g) m_a0 rfl, true_and, Option.some.injEq, exists_eq_left', c_xm, c_xn, c_xs]
  refine um_X6_forget g _ a0 m_a0 h (fun S3_ h => ?_)
  refine ⟨rfl, ?_⟩
  try simp only [c_gk g m_a0 7 rfl, c_eIs (f := 1211) (c_gw g) m_a0 rfl, c_eIs (f := 1212) (c_gw g) m_a0 rfl, c_eIs (f := 1214) (c_gw g) m_a0 rfl, true_and, Option.some.injEq, exists_eq_left', c_xm, c_xn, c_xs]
  refine fun S5_ e_S5_ => ?_
  have h := h S5_ e_S5_
  have n1210_a0 := c_gO g 1210 2 rfl (by decide) m_a0
  try simp only [c_gk g m_a0 7 rfl, c_gk g n1210_a0 3 rfl, c_gp g 1210 2 rfl rfl (by decide) m_a0, c_eIs (f := 1211) (c_gw g) m_a0 rfl, c_eIs (f := 1212) (c_gw g) m_a0 rfl, c_eIs (f := 1214) (c_gw g) m_a0 rfl, true_and, Option.some.injEq, exists_eq_left', c_xm, c_xn, c_xs]
  refine um_X2_clear g _ a0 n1210_a0 h (fun S10_ h => ?_)
  refine ⟨rfl, ?_⟩
  try simp only [c_gk g m_a0 7 rfl, c_gk g n1210_a0 3 rfl, c_gp g 1210 2 rfl rfl (by decide) m_a0, c_eIs (f := 1211) (c_gw g) m_a0 rfl, c_eIs (f := 1212) (c_gw g) m_a0 rfl, c_eIs (f := 1214) (c_gw g) m_a0 rfl, true_and, Option.some.injEq, exists_eq_left', c_xm, c_xn, c_xs]
  exact hQ _ h
def kb_X6_addInput_32 (L : c_L) (S : c_S) (Q : c_S → Prop) : Prop := Q S
set_option maxRecDepth 100000 in
set_option maxHeartbeats 4000000 in
theorem ub_X6_addInput_32 {L : c_L} {T : q_S} (g : c_G L T) (S : c_S)  {Q1 : c_S → Prop} {Q : Option Value → q_S → Prop} (h : kb_X6_addInput_32 L  S Q1) (hQ : ∀ K : c_S, Q1 K → Q none (c_E L K T)) : wb_X6_addInput_32  (c_E L S T) Q := by
  unfold wb_X6_addInput_32
  unfold kb_X6_addInput_32 at h
  try simp only [true_and, Option.some.injEq, exists_eq_left', c_xm, c_xn, c_xs]
  exact hQ _ h
def km_X6_addInput (L : c_L) (S : c_S) (a0 : Nat) (r1 : Option Nat) (Q : c_S → Prop) : Prop := ((24 : Int32) ≤ (c_I S 1205 a0) → (kb_X6_addInput_32 L S Q)) ∧ (¬ (24 : Int32) ≤ (c_I S 1205 a0) → (∃ a3_ : Nat, r1 = some a3_ ∧ (c_mk L 1 a3_ ∧ (vp_in (c_I S 1205 a0) 24 ∧ (∀ S10_ : c_S, S10_ = (cs_I (cs_A S 1204 a0 (c_I S 1205 a0).toNatClampNeg (c_I S 200 a3_)) 1205 a0 ((c_I (cs_A S 1204 a0 (c_I S 1205 a0).toNatClampNeg (c_I S 200 a3_)) 1205 a0) + (1 : Int32))) → (kb_X6_addInput_32 L S10_ Q))))))
set_option maxRecDepth 100000 in
set_option maxHeartbeats 4000000 in
theorem um_X6_addInput {L : c_L} {T : q_S} (g : c_G L T) (S : c_S) (a0 : Nat) (r1 : Option Nat) (m_a0 : c_mk L 6 a0) {Q1 : c_S → Prop} {Q : Option Value → q_S → Prop} (h : km_X6_addInput L  S a0 r1 Q1) (hQ : ∀ K : c_S, Q1 K → Q none (c_E L K T)) : wm_X6_addInput  (c_E L S T) (c_ob L 6 a0) (r1.map (c_ob L 1)) Q := by
  unfold wm_X6_addInput
  unfold km_X6_addInput at h
  try simp only [c_gk g m_a0 7 rfl, c_eI (f := 1205) m_a0 rfl, c_eIs (f := 1205) (c_gw g) m_a0 rfl, true_and, Option.some.injEq, exists_eq_left', c_xm, c_xn, c_xs]
  refine ⟨fun hc => ?_, fun hc => ?_⟩
  · have h := h.1 hc
    exact ub_X6_addInput_32 g _  h hQ
  · have h := h.2 hc
    obtain ⟨a3_, e_a3_, m_a3_, h⟩ := h
    refine ⟨a3_, e_a3_, ?_⟩
    try simp only [c_gk g m_a0 7 rfl, c_gk g m_a3_ 2 rfl, c_eI (f := 1205) m_a0 rfl, c_eIs (f := 1205) (c_gw g) m_a0 rfl, c_eI (f := 200) m_a3_ rfl, true_and, Option.some.injEq, exists_eq_left', c_xm, c_xn, c_xs]
    have n1204_a0 := c_gA g 1204 rfl (by decide) m_a0
    try simp only [c_gk g m_a0 7 rfl, c_gk g m_a3_ 2 rfl, c_gr g n1204_a0 21 rfl, c_gN g n1204_a0 24 (by decide), c_eA n1204_a0, c_eAs (c_gw g) n1204_a0, c_ga g 1204 rfl rfl (by decide) m_a0, c_eI (f := 1205) m_a0 rfl, c_eIs (f := 1205) (c_gw g) m_a0 rfl, c_eI (f := 200) m_a3_ rfl, true_and, Option.some.injEq, exists_eq_left', c_xm, c_xn, c_xs]
    refine ⟨h.1, ?_⟩
    have h := h.2
    refine fun S10_ e_S10_ => ?_
    have h := h S10_ e_S10_
    exact ub_X6_addInput_32 g _  h hQ
def kb_X6_addOutput_17 (L : c_L) (S : c_S) (r1 : Option Nat) (Q : c_S → Prop) : Prop := ∃ a1_ : Nat, r1 = some a1_ ∧ (c_mk L 1 a1_ ∧ (Q (cs_I S 208 a1_ ((c_I S 208 a1_) + (1 : Int32)))))
set_option maxRecDepth 100000 in
set_option maxHeartbeats 4000000 in
theorem ub_X6_addOutput_17 {L : c_L} {T : q_S} (g : c_G L T) (S : c_S) (r1 : Option Nat)  {Q1 : c_S → Prop} {Q : Option Value → q_S → Prop} (h : kb_X6_addOutput_17 L  S r1 Q1) (hQ : ∀ K : c_S, Q1 K → Q none (c_E L K T)) : wb_X6_addOutput_17  (c_E L S T) (r1.map (c_ob L 1)) Q := by
  unfold wb_X6_addOutput_17
  unfold kb_X6_addOutput_17 at h
  try simp only [true_and, Option.some.injEq, exists_eq_left', c_xm, c_xn, c_xs]
  obtain ⟨a1_, e_a1_, m_a1_, h⟩ := h
  refine ⟨a1_, e_a1_, ?_⟩
  try simp only [c_gk g m_a1_ 2 rfl, c_eI (f := 208) m_a1_ rfl, c_eIs (f := 208) (c_gw g) m_a1_ rfl, true_and, Option.some.injEq, exists_eq_left', c_xm, c_xn, c_xs]
  exact hQ _ h
def km_X6_addOutput (L : c_L) (S : c_S) (a0 : Nat) (r1 : Option Nat) (Q : c_S → Prop) : Prop := ∃ a4_ : Nat, r1 = some a4_ ∧ (c_mk L 1 a4_ ∧ ((¬ (c_I S 208 a4_) = 0 → (kb_X6_addOutput_17 L S r1 Q)) ∧ ((c_I S 208 a4_) = 0 → (kb_X6_addOutput_17 L (cs_I S 1206 a0 ((c_I S 1206 a0) + (1 : Int32))) r1 Q))))
set_option maxRecDepth 100000 in
set_option maxHeartbeats 4000000 in
theorem um_X6_addOutput {L : c_L} {T : q_S} (g : c_G L T) (S : c_S) (a0 : Nat) (r1 : Option Nat) (m_a0 : c_mk L 6 a0) {Q1 : c_S → Prop} {Q : Option Value → q_S → Prop} (h : km_X6_addOutput L  S a0 r1 Q1) (hQ : ∀ K : c_S, Q1 K → Q none (c_E L K T)) : wm_X6_addOutput  (c_E L S T) (c_ob L 6 a0) (r1.map (c_ob L 1)) Q := by
  unfold wm_X6_addOutput
  unfold km_X6_addOutput at h
  try simp only [c_gk g m_a0 7 rfl, c_eI (f := 1206) m_a0 rfl, c_eIs (f := 1206) (c_gw g) m_a0 rfl, true_and, Option.some.injEq, exists_eq_left', c_xm, c_xn, c_xs]
  obtain ⟨a4_, e_a4_, m_a4_, h⟩ := h
  refine ⟨a4_, e_a4_, ?_⟩
  try simp only [c_gk g m_a0 7 rfl, c_gk g m_a4_ 2 rfl, c_eI (f := 1206) m_a0 rfl, c_eIs (f := 1206) (c_gw g) m_a0 rfl, c_eI (f := 208) m_a4_ rfl, true_and, Option.some.injEq, exists_eq_left', c_xm, c_xn, c_xs]
  refine ⟨fun hc => ?_, fun hc => ?_⟩
  · have h := h.1 hc
    exact ub_X6_addOutput_17 g _ r1  h hQ
  · have h := h.2 hc
    exact ub_X6_addOutput_17 g _ r1  h hQ
def kb_X6_addWindow_44 (L : c_L) (S : c_S) (Q : c_S → Prop) : Prop := Q S
set_option maxRecDepth 100000 in
set_option maxHeartbeats 4000000 in
theorem ub_X6_addWindow_44 {L : c_L} {T : q_S} (g : c_G L T) (S : c_S)  {Q1 : c_S → Prop} {Q : Option Value → q_S → Prop} (h : kb_X6_addWindow_44 L  S Q1) (hQ : ∀ K : c_S, Q1 K → Q none (c_E L K T)) : wb_X6_addWindow_44  (c_E L S T) Q := by
  unfold wb_X6_addWindow_44
  unfold kb_X6_addWindow_44 at h
  try simp only [true_and, Option.some.injEq, exists_eq_left', c_xm, c_xn, c_xs]
  exact hQ _ h
def km_X6_addWindow (L : c_L) (S : c_S) (a0 : Nat) (x1 : Int32) (x2 : Int32) (Q : c_S → Prop) : Prop := ((24 : Int32) ≤ (c_I S 1209 a0) → (kb_X6_addWindow_44 L S Q)) ∧ (¬ (24 : Int32) ≤ (c_I S 1209 a0) → (vp_in (c_I S 1209 a0) 24 ∧ (km_X6_frameTicks L (cs_A S 1207 a0 (c_I S 1209 a0).toNatClampNeg x1) a0 (fun x9_ S8_ => (vp_in (c_I (cs_A S 1207 a0 (c_I S 1209 a0).toNatClampNeg x1) 1209 a0) 24 ∧ (∀ S15_ : c_S, S15_ = (cs_I (cs_A S8_ 1208 a0 (c_I (cs_A S 1207 a0 (c_I S 1209 a0).toNatClampNeg x1) 1209 a0).toNatClampNeg (x9_ + x2)) 1209 a0 ((c_I (cs_A S8_ 1208 a0 (c_I (cs_A S 1207 a0 (c_I S 1209 a0).toNatClampNeg x1) 1209 a0).toNatClampNeg (x9_ + x2)) 1209 a0) + (1 : Int32))) → (kb_X6_addWindow_44 L S15_ Q)))))))
set_option maxRecDepth 100000 in
set_option maxHeartbeats 4000000 in
theorem um_X6_addWindow {L : c_L} {T : q_S} (g : c_G L T) (S : c_S) (a0 : Nat) (x1 : Int32) (x2 : Int32) (m_a0 : c_mk L 6 a0) {Q1 : c_S → Prop} {Q : Option Value → q_S → Prop} (h : km_X6_addWindow L  S a0 x1 x2 Q1) (hQ : ∀ K : c_S, Q1 K → Q none (c_E L K T)) : wm_X6_addWindow  (c_E L S T) (c_ob L 6 a0) x1 x2 Q := by
  unfold wm_X6_addWindow
  unfold km_X6_addWindow at h
  try simp only [c_gk g m_a0 7 rfl, c_eI (f := 1209) m_a0 rfl, c_eIs (f := 1209) (c_gw g) m_a0 rfl, true_and, Option.some.injEq, exists_eq_left', c_xm, c_xn, c_xs]
  refine ⟨fun hc => ?_, fun hc => ?_⟩
  · have h := h.1 hc
    exact ub_X6_addWindow_44 g _  h hQ
  · have h := h.2 hc
    have n1207_a0 := c_gA g 1207 rfl (by decide) m_a0
    try simp only [c_gk g m_a0 7 rfl, c_gr g n1207_a0 21 rfl, c_gN g n1207_a0 24 (by decide), c_eA n1207_a0, c_eAs (c_gw g) n1207_a0, c_ga g 1207 rfl rfl (by decide) m_a0, c_eI (f := 1209) m_a0 rfl, c_eIs (f := 1209) (c_gw g) m_a0 rfl, true_and, Option.some.injEq, exists_eq_left', c_xm, c_xn, c_xs]
    refine ⟨h.1, ?_⟩
    have h := h.2
    refine um_X6_frameTicks g _ a0 m_a0 h (fun x9_ S8_ h => ?_)
    refine ⟨_, rfl, ?_⟩
    try simp only [c_gk g m_a0 7 rfl, c_gr g n1207_a0 21 rfl, c_gN g n1207_a0 24 (by decide), c_eA n1207_a0, c_eAs (c_gw g) n1207_a0, c_ga g 1207 rfl rfl (by decide) m_a0, c_eI (f := 1209) m_a0 rfl, c_eIs (f := 1209) (c_gw g) m_a0 rfl, true_and, Option.some.injEq, exists_eq_left', c_xm, c_xn, c_xs]
    have n1208_a0 := c_gA g 1208 rfl (by decide) m_a0
    try simp only [c_gk g m_a0 7 rfl, c_gr g n1207_a0 21 rfl, c_gN g n1207_a0 24 (by decide), c_eA n1207_a0, c_eAs (c_gw g) n1207_a0, c_gr g n1208_a0 21 rfl, c_gN g n1208_a0 24 (by decide), c_eA n1208_a0, c_eAs (c_gw g) n1208_a0, c_ga g 1207 rfl rfl (by decide) m_a0, c_ga g 1208 rfl rfl (by decide) m_a0, c_eI (f := 1209) m_a0 rfl, c_eIs (f := 1209) (c_gw g) m_a0 rfl, true_and, Option.some.injEq, exists_eq_left', c_xm, c_xn, c_xs]
    refine ⟨h.1, ?_⟩
    have h := h.2
    refine fun S15_ e_S15_ => ?_
    have h := h S15_ e_S15_
    exact ub_X6_addWindow_44 g _  h hQ
def kb_X6_partitionNamed_2 (L : c_L) (B2 : c_S → Nat → Int64 → Int32 → Prop) (S : c_S) (a0 : Nat) (z1 : Int64) (x3 : Int32) (Q : Int32 → c_S → Prop) : Prop := ((c_I S 1201 a0) ≤ x3 → (Q (-1 : Int32) S)) ∧ (¬ (c_I S 1201 a0) ≤ x3 → (vp_in x3 16 ∧ (∃ a7_ : Nat, (c_e5 L x3.toNatClampNeg) = some a7_ ∧ (c_mk L 5 a7_ ∧ ((¬ (lg_cmp (c_J S 1001 a7_) z1) = 0 → (B2 S a0 z1 (x3 + 1))) ∧ ((lg_cmp (c_J S 1001 a7_) z1) = 0 → (Q x3 S)))))))
set_option maxRecDepth 100000 in
set_option maxHeartbeats 4000000 in
theorem ub_X6_partitionNamed_2 {L : c_L} {T : q_S} (g : c_G L T) {OB2 : q_S → Nat → Int64 → Int32 → Prop} {B2 : c_S → Nat → Int64 → Int32 → Prop} (hB2 : ∀ (S1 : c_S) (a0 : Nat) (z1 : Int64) (x3 : Int32), c_mk L 6 a0 → B2 S1 a0 z1 x3 → OB2 (c_E L S1 T) (c_ob L 6 a0) z1 x3) (S : c_S) (a0 : Nat) (z1 : Int64) (x3 : Int32) (m_a0 : c_mk L 6 a0) {Q1 : Int32 → c_S → Prop} {Q : Option Value → q_S → Prop} (h : kb_X6_partitionNamed_2 L B2 S a0 z1 x3 Q1) (hQ : ∀ (v : Int32) (K : c_S), Q1 v K → Q (some (.int v)) (c_E L K T)) : wb_X6_partitionNamed_2 OB2 (c_E L S T) (c_ob L 6 a0) z1 x3 Q := by
  unfold wb_X6_partitionNamed_2
  unfold kb_X6_partitionNamed_2 at h
  try simp only [c_gk g m_a0 7 rfl, c_eI (f := 1201) m_a0 rfl, true_and, Option.some.injEq, exists_eq_left', c_xm, c_xn, c_xs]
  refine ⟨fun hc => ?_, fun hc => ?_⟩
  · have h := h.1 hc
    exact hQ _ _ h
  · have h := h.2 hc
    have n1200_a0 := c_gA g 1200 rfl (by decide) m_a0
    try simp only [c_gk g m_a0 7 rfl, c_gr g n1200_a0 25 rfl, c_gN g n1200_a0 16 (by decide), c_g5 g m_a0, c_ga g 1200 rfl rfl (by decide) m_a0, c_eI (f := 1201) m_a0 rfl, true_and, Option.some.injEq, exists_eq_left', c_xm, c_xn, c_xs]
    refine ⟨h.1, ?_⟩
    have h := h.2
    obtain ⟨a7_, e_a7_, m_a7_, h⟩ := h
    refine ⟨a7_, e_a7_, ?_⟩
    try simp only [c_gk g m_a0 7 rfl, c_gk g m_a7_ 6 rfl, c_gr g n1200_a0 25 rfl, c_gN g n1200_a0 16 (by decide), c_g5 g m_a0, c_ga g 1200 rfl rfl (by decide) m_a0, c_eI (f := 1201) m_a0 rfl, c_eJ (f := 1001) m_a7_ rfl, true_and, Option.some.injEq, exists_eq_left', c_xm, c_xn, c_xs]
    refine ⟨fun hc => ?_, fun hc => ?_⟩
    · have h := h.1 hc
      exact hB2 _ a0 _ _ m_a0 h
    · have h := h.2 hc
      exact hQ _ _ h
def kl_X6_partitionNamed_2 (L : c_L)  : Nat → c_S → Nat → Int64 → Int32 → (Int32 → c_S → Prop) → Prop
  | 0, _, _, _, _, _ => False
  | n + 1, S, a0, z1, x3, Q => kb_X6_partitionNamed_2 L (fun S a0 z1 x3 => kl_X6_partitionNamed_2 L n S a0 z1 x3 Q) S a0 z1 x3 Q
theorem ul_X6_partitionNamed_2 {L : c_L} {T : q_S} (g : c_G L T) (n : Nat) (S : c_S) (a0 : Nat) (z1 : Int64) (x3 : Int32) (m_a0 : c_mk L 6 a0) {Q1 : Int32 → c_S → Prop} {Q : Option Value → q_S → Prop} (h : kl_X6_partitionNamed_2 L  n S a0 z1 x3 Q1) (hQ : ∀ (v : Int32) (K : c_S), Q1 v K → Q (some (.int v)) (c_E L K T)) : wl_X6_partitionNamed_2  n (c_E L S T) (c_ob L 6 a0) z1 x3 Q := by
  induction n generalizing S a0 z1 x3 with
  | zero => exact h.elim
  | succ n ih => exact ub_X6_partitionNamed_2 g (fun u0 u1 u2 u3 w0 h => ih u0 u1 u2 u3 w0 h) S a0 z1 x3 m_a0 h hQ
def km_X6_partitionNamed (L : c_L) (S : c_S) (a0 : Nat) (z1 : Int64) (Q : Int32 → c_S → Prop) : Prop := ∃ n11_ : Nat, kl_X6_partitionNamed_2 L n11_ S a0 z1 (0 : Int32) Q
set_option maxRecDepth 100000 in
set_option maxHeartbeats 4000000 in
theorem um_X6_partitionNamed {L : c_L} {T : q_S} (g : c_G L T) (S : c_S) (a0 : Nat) (z1 : Int64) (m_a0 : c_mk L 6 a0) {Q1 : Int32 → c_S → Prop} {Q : Option Value → q_S → Prop} (h : km_X6_partitionNamed L  S a0 z1 Q1) (hQ : ∀ (v : Int32) (K : c_S), Q1 v K → Q (some (.int v)) (c_E L K T)) : wm_X6_partitionNamed  (c_E L S T) (c_ob L 6 a0) z1 Q := by
  unfold wm_X6_partitionNamed
  unfold km_X6_partitionNamed at h
  try simp only [c_gk g m_a0 7 rfl, true_and, Option.some.injEq, exists_eq_left', c_xm, c_xn, c_xs]
  obtain ⟨n11_, h⟩ := h
  refine ⟨n11_, ?_⟩
  exact ul_X6_partitionNamed_2 g n11_ _ a0 _ _ m_a0 h hQ
def kb_X6_partitionAt_22 (L : c_L) (S : c_S) (rs0 : Option Nat) (Q : Option Nat → c_S → Prop) : Prop := Q rs0 S
set_option maxRecDepth 100000 in
set_option maxHeartbeats 4000000 in
theorem ub_X6_partitionAt_22 {L : c_L} {T : q_S} (g : c_G L T) (S : c_S) (rs0 : Option Nat)  {Q1 : Option Nat → c_S → Prop} {Q : Option Value → q_S → Prop} (h : kb_X6_partitionAt_22 L  S rs0 Q1) (hQ : ∀ (v : Option Nat) (K : c_S), Q1 v K → Q (some (va_rf (v.map (c_ob L 5)))) (c_E L K T)) : wb_X6_partitionAt_22  (c_E L S T) (rs0.map (c_ob L 5)) Q := by
  unfold wb_X6_partitionAt_22
  unfold kb_X6_partitionAt_22 at h
  try simp only [true_and, Option.some.injEq, exists_eq_left', c_xm, c_xn, c_xs]
  exact hQ _ _ h
def kb_X6_partitionAt_12 (L : c_L) (S : c_S) (Q : Option Nat → c_S → Prop) : Prop := kb_X6_partitionAt_22 L S none Q
set_option maxRecDepth 100000 in
set_option maxHeartbeats 4000000 in
theorem ub_X6_partitionAt_12 {L : c_L} {T : q_S} (g : c_G L T) (S : c_S)  {Q1 : Option Nat → c_S → Prop} {Q : Option Value → q_S → Prop} (h : kb_X6_partitionAt_12 L  S Q1) (hQ : ∀ (v : Option Nat) (K : c_S), Q1 v K → Q (some (va_rf (v.map (c_ob L 5)))) (c_E L K T)) : wb_X6_partitionAt_12  (c_E L S T) Q := by
  unfold wb_X6_partitionAt_12
  unfold kb_X6_partitionAt_12 at h
  try simp only [true_and, Option.some.injEq, exists_eq_left', c_xm, c_xn, c_xs]
  exact ub_X6_partitionAt_22 g _ none  h hQ
def km_X6_partitionAt (L : c_L) (S : c_S) (a0 : Nat) (x1 : Int32) (Q : Option Nat → c_S → Prop) : Prop := (x1 < 0 → (kb_X6_partitionAt_12 L S Q)) ∧ (¬ x1 < 0 → ((x1 < (c_I S 1201 a0) → (vp_in x1 16 ∧ (kb_X6_partitionAt_22 L S (c_e5 L x1.toNatClampNeg) Q))) ∧ (¬ x1 < (c_I S 1201 a0) → (kb_X6_partitionAt_12 L S Q))))
set_option maxRecDepth 100000 in
set_option maxHeartbeats 4000000 in
theorem um_X6_partitionAt {L : c_L} {T : q_S} (g : c_G L T) (S : c_S) (a0 : Nat) (x1 : Int32) (m_a0 : c_mk L 6 a0) {Q1 : Option Nat → c_S → Prop} {Q : Option Value → q_S → Prop} (h : km_X6_partitionAt L  S a0 x1 Q1) (hQ : ∀ (v : Option Nat) (K : c_S), Q1 v K → Q (some (va_rf (v.map (c_ob L 5)))) (c_E L K T)) : wm_X6_partitionAt  (c_E L S T) (c_ob L 6 a0) x1 Q := by
  unfold wm_X6_partitionAt
  unfold km_X6_partitionAt at h
  try simp only [c_gk g m_a0 7 rfl, c_eI (f := 1201) m_a0 rfl, true_and, Option.some.injEq, exists_eq_left', c_xm, c_xn, c_xs]
  refine ⟨fun hc => ?_, fun hc => ?_⟩
  · have h := h.1 hc
    exact ub_X6_partitionAt_12 g _  h hQ
  · have h := h.2 hc
    refine ⟨fun hc => ?_, fun hc => ?_⟩
    · have h := h.1 hc
      have n1200_a0 := c_gA g 1200 rfl (by decide) m_a0
      try simp only [c_gk g m_a0 7 rfl, c_gr g n1200_a0 25 rfl, c_gN g n1200_a0 16 (by decide), c_g5 g m_a0, c_ga g 1200 rfl rfl (by decide) m_a0, c_eI (f := 1201) m_a0 rfl, true_and, Option.some.injEq, exists_eq_left', c_xm, c_xn, c_xs]
      refine ⟨h.1, ?_⟩
      have h := h.2
      exact ub_X6_partitionAt_22 g _ (c_e5 L x1.toNatClampNeg)  h hQ
    · have h := h.2 hc
      exact ub_X6_partitionAt_12 g _  h hQ
def kb_X6_processAt_19 (L : c_L) (S : c_S) (rs0 : Option Nat) (Q : Option Nat → c_S → Prop) : Prop := Q rs0 S
set_option maxRecDepth 100000 in
set_option maxHeartbeats 4000000 in
theorem ub_X6_processAt_19 {L : c_L} {T : q_S} (g : c_G L T) (S : c_S) (rs0 : Option Nat)  {Q1 : Option Nat → c_S → Prop} {Q : Option Value → q_S → Prop} (h : kb_X6_processAt_19 L  S rs0 Q1) (hQ : ∀ (v : Option Nat) (K : c_S), Q1 v K → Q (some (va_rf (v.map (c_ob L 7)))) (c_E L K T)) : wb_X6_processAt_19  (c_E L S T) (rs0.map (c_ob L 7)) Q := by
  unfold wb_X6_processAt_19
  unfold kb_X6_processAt_19 at h
  try simp only [true_and, Option.some.injEq, exists_eq_left', c_xm, c_xn, c_xs]
  exact hQ _ _ h
def km_X6_processAt (L : c_L) (S : c_S) (a0 : Nat) (x1 : Int32) (x2 : Int32) (Q : Option Nat → c_S → Prop) : Prop := km_X6_partitionAt L S a0 x1 (fun r4_ S3_ => ((¬ r4_ = none → (∃ a6_ : Nat, r4_ = some a6_ ∧ (c_mk L 5 a6_ ∧ (km_X5_processAt L S3_ a6_ x2 (fun r11_ S10_ => (kb_X6_processAt_19 L S10_ r11_ Q)))))) ∧ (r4_ = none → (kb_X6_processAt_19 L S3_ none Q))))
set_option maxRecDepth 100000 in
set_option maxHeartbeats 4000000 in
theorem um_X6_processAt {L : c_L} {T : q_S} (g : c_G L T) (S : c_S) (a0 : Nat) (x1 : Int32) (x2 : Int32) (m_a0 : c_mk L 6 a0) {Q1 : Option Nat → c_S → Prop} {Q : Option Value → q_S → Prop} (h : km_X6_processAt L  S a0 x1 x2 Q1) (hQ : ∀ (v : Option Nat) (K : c_S), Q1 v K → Q (some (va_rf (v.map (c_ob L 7)))) (c_E L K T)) : wm_X6_processAt  (c_E L S T) (c_ob L 6 a0) x1 x2 Q := by
  unfold wm_X6_processAt
  unfold km_X6_processAt at h
  try simp only [c_gk g m_a0 7 rfl, true_and, Option.some.injEq, exists_eq_left', c_xm, c_xn, c_xs]
  refine um_X6_partitionAt g _ a0 _ m_a0 h (fun r4_ S3_ h => ?_)
  refine ⟨_, rfl, ?_⟩
  try simp only [c_gk g m_a0 7 rfl, true_and, Option.some.injEq, exists_eq_left', c_xm, c_xn, c_xs]
  refine ⟨fun hc => ?_, fun hc => ?_⟩
  · have h := h.1 hc
    obtain ⟨a6_, e_a6_, m_a6_, h⟩ := h
    refine ⟨a6_, e_a6_, ?_⟩
    try simp only [c_gk g m_a0 7 rfl, c_gk g m_a6_ 6 rfl, true_and, Option.some.injEq, exists_eq_left', c_xm, c_xn, c_xs]
    refine um_X5_processAt g _ a6_ _ m_a6_ h (fun r11_ S10_ h => ?_)
    refine ⟨_, rfl, ?_⟩
    try simp only [c_gk g m_a0 7 rfl, c_gk g m_a6_ 6 rfl, true_and, Option.some.injEq, exists_eq_left', c_xm, c_xn, c_xs]
    exact ub_X6_processAt_19 g _ r11_  h hQ
  · have h := h.2 hc
    exact ub_X6_processAt_19 g _ none  h hQ
def kb_X6_thingAt_23 (L : c_L) (S : c_S) (rs0 : Option Nat) (Q : Option Nat → c_S → Prop) : Prop := Q rs0 S
set_option maxRecDepth 100000 in
set_option maxHeartbeats 4000000 in
theorem ub_X6_thingAt_23 {L : c_L} {T : q_S} (g : c_G L T) (S : c_S) (rs0 : Option Nat)  {Q1 : Option Nat → c_S → Prop} {Q : Option Value → q_S → Prop} (h : kb_X6_thingAt_23 L  S rs0 Q1) (hQ : ∀ (v : Option Nat) (K : c_S), Q1 v K → Q (some (va_rf (v.map (c_ob L 10)))) (c_E L K T)) : wb_X6_thingAt_23  (c_E L S T) (rs0.map (c_ob L 10)) Q := by
  unfold wb_X6_thingAt_23
  unfold kb_X6_thingAt_23 at h
  try simp only [true_and, Option.some.injEq, exists_eq_left', c_xm, c_xn, c_xs]
  exact hQ _ _ h
def km_X6_thingAt (L : c_L) (S : c_S) (a0 : Nat) (x1 : Int32) (x2 : Int32) (x3 : Int32) (Q : Option Nat → c_S → Prop) : Prop := km_X6_partitionAt L S a0 x1 (fun r4_ S3_ => ((¬ r4_ = none → (∃ a6_ : Nat, r4_ = some a6_ ∧ (c_mk L 5 a6_ ∧ (km_X5_thingAt L S3_ a6_ x2 x3 (fun r11_ S10_ => (kb_X6_thingAt_23 L S10_ r11_ Q)))))) ∧ (r4_ = none → (kb_X6_thingAt_23 L S3_ none Q))))
set_option maxRecDepth 100000 in
set_option maxHeartbeats 4000000 in
theorem um_X6_thingAt {L : c_L} {T : q_S} (g : c_G L T) (S : c_S) (a0 : Nat) (x1 : Int32) (x2 : Int32) (x3 : Int32) (m_a0 : c_mk L 6 a0) {Q1 : Option Nat → c_S → Prop} {Q : Option Value → q_S → Prop} (h : km_X6_thingAt L  S a0 x1 x2 x3 Q1) (hQ : ∀ (v : Option Nat) (K : c_S), Q1 v K → Q (some (va_rf (v.map (c_ob L 10)))) (c_E L K T)) : wm_X6_thingAt  (c_E L S T) (c_ob L 6 a0) x1 x2 x3 Q := by
  unfold wm_X6_thingAt
  unfold km_X6_thingAt at h
  try simp only [c_gk g m_a0 7 rfl, true_and, Option.some.injEq, exists_eq_left', c_xm, c_xn, c_xs]
  refine um_X6_partitionAt g _ a0 _ m_a0 h (fun r4_ S3_ h => ?_)
  refine ⟨_, rfl, ?_⟩
  try simp only [c_gk g m_a0 7 rfl, true_and, Option.some.injEq, exists_eq_left', c_xm, c_xn, c_xs]
  refine ⟨fun hc => ?_, fun hc => ?_⟩
  · have h := h.1 hc
    obtain ⟨a6_, e_a6_, m_a6_, h⟩ := h
    refine ⟨a6_, e_a6_, ?_⟩
    try simp only [c_gk g m_a0 7 rfl, c_gk g m_a6_ 6 rfl, true_and, Option.some.injEq, exists_eq_left', c_xm, c_xn, c_xs]
    refine um_X5_thingAt g _ a6_ _ _ m_a6_ h (fun r11_ S10_ h => ?_)
    refine ⟨_, rfl, ?_⟩
    try simp only [c_gk g m_a0 7 rfl, c_gk g m_a6_ 6 rfl, true_and, Option.some.injEq, exists_eq_left', c_xm, c_xn, c_xs]
    exact ub_X6_thingAt_23 g _ r11_  h hQ
  · have h := h.2 hc
    exact ub_X6_thingAt_23 g _ none  h hQ
