def km_X1_reset (L : c_L) (S : c_S) (a0 : Nat) (x1 : Int32) (x2 : Int32) (Q : c_S → Prop) : Prop := (narrow .boolean (.int x2) = .int x2 ∧ fits .boolean (.int x2) = true) ∧ (∀ S3_ : c_S, S3_ = (cs_I (cs_I (cs_I S 200 a0 x1) 201 a0 x2) 205 a0 (-1 : Int32)) → (∀ S4_ : c_S, S4_ = (cs_I (cs_I (cs_I S3_ 206 a0 (0 : Int32)) 207 a0 (0 : Int32)) 208 a0 (0 : Int32)) → (∀ S5_ : c_S, S5_ = (cs_I (cs_P (cs_P S4_ 209 a0 none) 211 a0 none) 215 a0 (0 : Int32)) → (Q (cs_I S5_ 216 a0 (0 : Int32))))))
set_option maxRecDepth 100000 in
set_option maxHeartbeats 4000000 in
theorem um_X1_reset {L : c_L} {T : q_S} (g : c_G L T) (S : c_S) (a0 : Nat) (x1 : Int32) (x2 : Int32) (m_a0 : c_mk L 1 a0) {Q1 : c_S → Prop} {Q : Option Value → q_S → Prop} (h : km_X1_reset L  S a0 x1 x2 Q1) (hQ : ∀ K : c_S, Q1 K → Q none (c_E L K T)) : wm_X1_reset  (c_E L S T) (c_ob L 1 a0) x1 x2 Q := by
  unfold wm_X1_reset
  unfold km_X1_reset at h
  try simp only [c_gk g m_a0 2 rfl, c_eIs (f := 200) (c_gw g) m_a0 rfl, c_eIs (f := 201) (c_gw g) m_a0 rfl, c_eIs (f := 205) (c_gw g) m_a0 rfl, c_eIs (f := 206) (c_gw g) m_a0 rfl, c_eIs (f := 207) (c_gw g) m_a0 rfl, c_eIs (f := 208) (c_gw g) m_a0 rfl, c_eIs (f := 215) (c_gw g) m_a0 rfl, c_eIs (f := 216) (c_gw g) m_a0 rfl, c_eD209 m_a0, c_eDs209 (c_gw g) m_a0, c_eDs209n (c_gw g) m_a0, c_eD211 m_a0, c_eDs211 (c_gw g) m_a0, c_eDs211n (c_gw g) m_a0, true_and, Option.some.injEq, exists_eq_left', c_xm, c_xn, c_xs]
  refine ⟨h.1, ?_⟩
  have h := h.2
  refine fun S3_ e_S3_ => ?_
  have h := h S3_ e_S3_
  refine fun S4_ e_S4_ => ?_
  have h := h S4_ e_S4_
  refine fun S5_ e_S5_ => ?_
  have h := h S5_ e_S5_
  exact hQ _ h
def kb_X1_latestInput_34 (L : c_L) (S : c_S) (xs0 : Int32) (Q : Int32 → c_S → Prop) : Prop := Q xs0 S
set_option maxRecDepth 100000 in
set_option maxHeartbeats 4000000 in
theorem ub_X1_latestInput_34 {L : c_L} {T : q_S} (g : c_G L T) (S : c_S) (xs0 : Int32)  {Q1 : Int32 → c_S → Prop} {Q : Option Value → q_S → Prop} (h : kb_X1_latestInput_34 L  S xs0 Q1) (hQ : ∀ (v : Int32) (K : c_S), Q1 v K → Q (some (.int v)) (c_E L K T)) : wb_X1_latestInput_34  (c_E L S T) xs0 Q := by
  unfold wb_X1_latestInput_34
  unfold kb_X1_latestInput_34 at h
  try simp only [true_and, Option.some.injEq, exists_eq_left', c_xm, c_xn, c_xs]
  exact hQ _ _ h
def kb_X1_latestInput_19 (L : c_L) (S : c_S) (Q : Int32 → c_S → Prop) : Prop := kb_X1_latestInput_34 L S (-1 : Int32) Q
set_option maxRecDepth 100000 in
set_option maxHeartbeats 4000000 in
theorem ub_X1_latestInput_19 {L : c_L} {T : q_S} (g : c_G L T) (S : c_S)  {Q1 : Int32 → c_S → Prop} {Q : Option Value → q_S → Prop} (h : kb_X1_latestInput_19 L  S Q1) (hQ : ∀ (v : Int32) (K : c_S), Q1 v K → Q (some (.int v)) (c_E L K T)) : wb_X1_latestInput_19  (c_E L S T) Q := by
  unfold wb_X1_latestInput_19
  unfold kb_X1_latestInput_19 at h
  try simp only [true_and, Option.some.injEq, exists_eq_left', c_xm, c_xn, c_xs]
  exact ub_X1_latestInput_34 g _ _  h hQ
def km_X1_latestInput (L : c_L) (S : c_S) (a0 : Nat) (Q : Int32 → c_S → Prop) : Prop := ((c_I S 215 a0) ≤ 0 → (kb_X1_latestInput_19 L S Q)) ∧ (¬ (c_I S 215 a0) ≤ 0 → (((c_I S 215 a0) ≤ (nI (c_ln L 213 a0)) → (vp_in ((c_I S 215 a0) - (1 : Int32)) (c_ln L 213 a0) ∧ (kb_X1_latestInput_34 L S (c_A S 213 a0 ((c_I S 215 a0) - (1 : Int32)).toNatClampNeg) Q))) ∧ (¬ (c_I S 215 a0) ≤ (nI (c_ln L 213 a0)) → (kb_X1_latestInput_19 L S Q))))
set_option maxRecDepth 100000 in
set_option maxHeartbeats 4000000 in
theorem um_X1_latestInput {L : c_L} {T : q_S} (g : c_G L T) (S : c_S) (a0 : Nat) (m_a0 : c_mk L 1 a0) {Q1 : Int32 → c_S → Prop} {Q : Option Value → q_S → Prop} (h : km_X1_latestInput L  S a0 Q1) (hQ : ∀ (v : Int32) (K : c_S), Q1 v K → Q (some (.int v)) (c_E L K T)) : wm_X1_latestInput  (c_E L S T) (c_ob L 1 a0) Q := by
  unfold wm_X1_latestInput
  unfold km_X1_latestInput at h
  try simp only [c_gk g m_a0 2 rfl, c_eI (f := 215) m_a0 rfl, true_and, Option.some.injEq, exists_eq_left', c_xm, c_xn, c_xs]
  refine ⟨fun hc => ?_, fun hc => ?_⟩
  · have h := h.1 hc
    exact ub_X1_latestInput_19 g _  h hQ
  · have h := h.2 hc
    have n213_a0 := c_gA g 213 rfl (by decide) m_a0
    try simp only [c_gk g m_a0 2 rfl, c_gr g n213_a0 21 rfl, c_gn g n213_a0, c_eA n213_a0, c_eAs (c_gw g) n213_a0, c_ga g 213 rfl rfl (by decide) m_a0, c_eI (f := 215) m_a0 rfl, true_and, Option.some.injEq, exists_eq_left', c_xm, c_xn, c_xs]
    refine ⟨fun hc => ?_, fun hc => ?_⟩
    · have h := h.1 hc
      refine ⟨h.1, ?_⟩
      have h := h.2
      exact ub_X1_latestInput_34 g _ _  h hQ
    · have h := h.2 hc
      exact ub_X1_latestInput_19 g _  h hQ
def kb_X1_hasInputAt_29 (L : c_L) (S : c_S) (xs0 : Int32) (Q : Int32 → c_S → Prop) : Prop := narrow .boolean (.int xs0) = .int xs0 ∧ (Q xs0 S)
set_option maxRecDepth 100000 in
set_option maxHeartbeats 4000000 in
theorem ub_X1_hasInputAt_29 {L : c_L} {T : q_S} (g : c_G L T) (S : c_S) (xs0 : Int32)  {Q1 : Int32 → c_S → Prop} {Q : Option Value → q_S → Prop} (h : kb_X1_hasInputAt_29 L  S xs0 Q1) (hQ : ∀ (v : Int32) (K : c_S), Q1 v K → Q (some (.int v)) (c_E L K T)) : wb_X1_hasInputAt_29  (c_E L S T) xs0 Q := by
  unfold wb_X1_hasInputAt_29
  unfold kb_X1_hasInputAt_29 at h
  try simp only [true_and, Option.some.injEq, exists_eq_left', c_xm, c_xn, c_xs]
  refine ⟨h.1, ?_⟩
  have h := h.2
  exact hQ _ _ h
def kb_X1_hasInputAt_28 (L : c_L) (S : c_S) (Q : Int32 → c_S → Prop) : Prop := kb_X1_hasInputAt_29 L S (0 : Int32) Q
set_option maxRecDepth 100000 in
set_option maxHeartbeats 4000000 in
theorem ub_X1_hasInputAt_28 {L : c_L} {T : q_S} (g : c_G L T) (S : c_S)  {Q1 : Int32 → c_S → Prop} {Q : Option Value → q_S → Prop} (h : kb_X1_hasInputAt_28 L  S Q1) (hQ : ∀ (v : Int32) (K : c_S), Q1 v K → Q (some (.int v)) (c_E L K T)) : wb_X1_hasInputAt_28  (c_E L S T) Q := by
  unfold wb_X1_hasInputAt_28
  unfold kb_X1_hasInputAt_28 at h
  try simp only [true_and, Option.some.injEq, exists_eq_left', c_xm, c_xn, c_xs]
  exact ub_X1_hasInputAt_29 g _ _  h hQ
def km_X1_hasInputAt (L : c_L) (S : c_S) (a0 : Nat) (x1 : Int32) (Q : Int32 → c_S → Prop) : Prop := ((c_I S 215 a0) ≤ (c_I S 216 a0) → (kb_X1_hasInputAt_28 L S Q)) ∧ (¬ (c_I S 215 a0) ≤ (c_I S 216 a0) → (vp_in (c_I S 216 a0) (c_ln L 213 a0) ∧ ((¬ (c_A S 213 a0 (c_I S 216 a0).toNatClampNeg) = x1 → (kb_X1_hasInputAt_28 L S Q)) ∧ ((c_A S 213 a0 (c_I S 216 a0).toNatClampNeg) = x1 → (kb_X1_hasInputAt_29 L S (1 : Int32) Q)))))
set_option maxRecDepth 100000 in
set_option maxHeartbeats 4000000 in
theorem um_X1_hasInputAt {L : c_L} {T : q_S} (g : c_G L T) (S : c_S) (a0 : Nat) (x1 : Int32) (m_a0 : c_mk L 1 a0) {Q1 : Int32 → c_S → Prop} {Q : Option Value → q_S → Prop} (h : km_X1_hasInputAt L  S a0 x1 Q1) (hQ : ∀ (v : Int32) (K : c_S), Q1 v K → Q (some (.int v)) (c_E L K T)) : wm_X1_hasInputAt  (c_E L S T) (c_ob L 1 a0) x1 Q := by
  unfold wm_X1_hasInputAt
  unfold km_X1_hasInputAt at h
  try simp only [c_gk g m_a0 2 rfl, c_eI (f := 215) m_a0 rfl, c_eI (f := 216) m_a0 rfl, true_and, Option.some.injEq, exists_eq_left', c_xm, c_xn, c_xs]
  refine ⟨fun hc => ?_, fun hc => ?_⟩
  · have h := h.1 hc
    exact ub_X1_hasInputAt_28 g _  h hQ
  · have h := h.2 hc
    have n213_a0 := c_gA g 213 rfl (by decide) m_a0
    try simp only [c_gk g m_a0 2 rfl, c_gr g n213_a0 21 rfl, c_gn g n213_a0, c_eA n213_a0, c_eAs (c_gw g) n213_a0, c_ga g 213 rfl rfl (by decide) m_a0, c_eI (f := 215) m_a0 rfl, c_eI (f := 216) m_a0 rfl, true_and, Option.some.injEq, exists_eq_left', c_xm, c_xn, c_xs]
    refine ⟨h.1, ?_⟩
    have h := h.2
    refine ⟨fun hc => ?_, fun hc => ?_⟩
    · have h := h.1 hc
      exact ub_X1_hasInputAt_28 g _  h hQ
    · have h := h.2 hc
      exact ub_X1_hasInputAt_29 g _ _  h hQ
def km_X1_nextInput (L : c_L) (S : c_S) (a0 : Nat) (Q : Int32 → c_S → Prop) : Prop := ((c_I S 216 a0) < (c_I S 215 a0) → (vp_in ((c_I (cs_I S 216 a0 ((c_I S 216 a0) + (1 : Int32))) 216 a0) - (1 : Int32)) (c_ln L 214 a0) ∧ (Q (c_A (cs_I S 216 a0 ((c_I S 216 a0) + (1 : Int32))) 214 a0 ((c_I (cs_I S 216 a0 ((c_I S 216 a0) + (1 : Int32))) 216 a0) - (1 : Int32)).toNatClampNeg) (cs_I S 216 a0 ((c_I S 216 a0) + (1 : Int32)))))) ∧ (¬ (c_I S 216 a0) < (c_I S 215 a0) → (Q (0 : Int32) S))
set_option maxRecDepth 100000 in
set_option maxHeartbeats 4000000 in
theorem um_X1_nextInput {L : c_L} {T : q_S} (g : c_G L T) (S : c_S) (a0 : Nat) (m_a0 : c_mk L 1 a0) {Q1 : Int32 → c_S → Prop} {Q : Option Value → q_S → Prop} (h : km_X1_nextInput L  S a0 Q1) (hQ : ∀ (v : Int32) (K : c_S), Q1 v K → Q (some (.int v)) (c_E L K T)) : wm_X1_nextInput  (c_E L S T) (c_ob L 1 a0) Q := by
  unfold wm_X1_nextInput
  unfold km_X1_nextInput at h
  try simp only [c_gk g m_a0 2 rfl, c_eI (f := 215) m_a0 rfl, c_eI (f := 216) m_a0 rfl, c_eIs (f := 216) (c_gw g) m_a0 rfl, true_and, Option.some.injEq, exists_eq_left', c_xm, c_xn, c_xs]
  refine ⟨fun hc => ?_, fun hc => ?_⟩
  · have h := h.1 hc
    have n214_a0 := c_gA g 214 rfl (by decide) m_a0
    try simp only [c_gk g m_a0 2 rfl, c_gr g n214_a0 21 rfl, c_gn g n214_a0, c_eA n214_a0, c_eAs (c_gw g) n214_a0, c_ga g 214 rfl rfl (by decide) m_a0, c_eI (f := 215) m_a0 rfl, c_eI (f := 216) m_a0 rfl, c_eIs (f := 216) (c_gw g) m_a0 rfl, true_and, Option.some.injEq, exists_eq_left', c_xm, c_xn, c_xs]
    refine ⟨h.1, ?_⟩
    have h := h.2
    exact hQ _ _ h
  · have h := h.2 hc
    exact hQ _ _ h
def km_X2_clear (L : c_L) (S : c_S) (a0 : Nat) (Q : c_S → Prop) : Prop := Q (cs_I (cs_I S 402 a0 (0 : Int32)) 403 a0 (0 : Int32))
set_option maxRecDepth 100000 in
set_option maxHeartbeats 4000000 in
theorem um_X2_clear {L : c_L} {T : q_S} (g : c_G L T) (S : c_S) (a0 : Nat) (m_a0 : c_mk L 2 a0) {Q1 : c_S → Prop} {Q : Option Value → q_S → Prop} (h : km_X2_clear L  S a0 Q1) (hQ : ∀ K : c_S, Q1 K → Q none (c_E L K T)) : wm_X2_clear  (c_E L S T) (c_ob L 2 a0) Q := by
  unfold wm_X2_clear
  unfold km_X2_clear at h
  try simp only [c_gk g m_a0 3 rfl, c_eIs (f := 402) (c_gw g) m_a0 rfl, c_eIs (f := 403) (c_gw g) m_a0 rfl, true_and, Option.some.injEq, exists_eq_left', c_xm, c_xn, c_xs]
  exact hQ _ h
def kb_X2_shown_28 (L : c_L) (S : c_S) (Q : Int32 → c_S → Prop) : Prop := Q (-1 : Int32) S
set_option maxRecDepth 100000 in
set_option maxHeartbeats 4000000 in
theorem ub_X2_shown_28 {L : c_L} {T : q_S} (g : c_G L T) (S : c_S)  {Q1 : Int32 → c_S → Prop} {Q : Option Value → q_S → Prop} (h : kb_X2_shown_28 L  S Q1) (hQ : ∀ (v : Int32) (K : c_S), Q1 v K → Q (some (.int v)) (c_E L K T)) : wb_X2_shown_28  (c_E L S T) Q := by
  unfold wb_X2_shown_28
  unfold kb_X2_shown_28 at h
  try simp only [true_and, Option.some.injEq, exists_eq_left', c_xm, c_xn, c_xs]
  exact hQ _ _ h
def km_X2_shown (L : c_L) (S : c_S) (a0 : Nat) (x1 : Int32) (x2 : Int32) (Q : Int32 → c_S → Prop) : Prop := (x1 < 0 → (kb_X2_shown_28 L S Q)) ∧ (¬ x1 < 0 → (((c_I S 402 a0) ≤ x1 → (kb_X2_shown_28 L S Q)) ∧ (¬ (c_I S 402 a0) ≤ x1 → (((300 : Int32) ≤ x1 → (kb_X2_shown_28 L S Q)) ∧ (¬ (300 : Int32) ≤ x1 → ((x2 < 0 → (kb_X2_shown_28 L S Q)) ∧ (¬ x2 < 0 → ((x2 < (3 : Int32) → (vp_in ((x1 * (3 : Int32)) + x2) 900 ∧ (Q (c_A S 400 a0 ((x1 * (3 : Int32)) + x2).toNatClampNeg) S))) ∧ (¬ x2 < (3 : Int32) → (kb_X2_shown_28 L S Q))))))))))
set_option maxRecDepth 100000 in
set_option maxHeartbeats 4000000 in
theorem um_X2_shown {L : c_L} {T : q_S} (g : c_G L T) (S : c_S) (a0 : Nat) (x1 : Int32) (x2 : Int32) (m_a0 : c_mk L 2 a0) {Q1 : Int32 → c_S → Prop} {Q : Option Value → q_S → Prop} (h : km_X2_shown L  S a0 x1 x2 Q1) (hQ : ∀ (v : Int32) (K : c_S), Q1 v K → Q (some (.int v)) (c_E L K T)) : wm_X2_shown  (c_E L S T) (c_ob L 2 a0) x1 x2 Q := by
  unfold wm_X2_shown
  unfold km_X2_shown at h
  try simp only [c_gk g m_a0 3 rfl, c_eI (f := 402) m_a0 rfl, true_and, Option.some.injEq, exists_eq_left', c_xm, c_xn, c_xs]
  refine ⟨fun hc => ?_, fun hc => ?_⟩
  · have h := h.1 hc
    exact ub_X2_shown_28 g _  h hQ
  · have h := h.2 hc
    refine ⟨fun hc => ?_, fun hc => ?_⟩
    · have h := h.1 hc
      exact ub_X2_shown_28 g _  h hQ
    · have h := h.2 hc
      refine ⟨fun hc => ?_, fun hc => ?_⟩
      · have h := h.1 hc
        exact ub_X2_shown_28 g _  h hQ
      · have h := h.2 hc
        refine ⟨fun hc => ?_, fun hc => ?_⟩
        · have h := h.1 hc
          exact ub_X2_shown_28 g _  h hQ
        · have h := h.2 hc
          refine ⟨fun hc => ?_, fun hc => ?_⟩
          · have h := h.1 hc
            have n400_a0 := c_gA g 400 rfl (by decide) m_a0
            try simp only [c_gk g m_a0 3 rfl, c_gr g n400_a0 21 rfl, c_gN g n400_a0 900 (by decide), c_eA n400_a0, c_eAs (c_gw g) n400_a0, c_ga g 400 rfl rfl (by decide) m_a0, c_eI (f := 402) m_a0 rfl, true_and, Option.some.injEq, exists_eq_left', c_xm, c_xn, c_xs]
            refine ⟨h.1, ?_⟩
            have h := h.2
            exact hQ _ _ h
          · have h := h.2 hc
            exact ub_X2_shown_28 g _  h hQ
def km_X2_note (L : c_L) (S : c_S) (a0 : Nat) (x1 : Int32) (x2 : Int32) (x3 : Int32) (x4 : Int32) (x5 : Int32) (x6 : Int32) (Q : c_S → Prop) : Prop := vp_in (((c_I S 403 a0) - (c_I S 403 a0) / (64 : Int32) * (64 : Int32)) * (6 : Int32)) 384 ∧ (vp_in ((((c_I S 403 a0) - (c_I S 403 a0) / (64 : Int32) * (64 : Int32)) * (6 : Int32)) + (1 : Int32)) 384 ∧ (vp_in ((((c_I S 403 a0) - (c_I S 403 a0) / (64 : Int32) * (64 : Int32)) * (6 : Int32)) + (2 : Int32)) 384 ∧ (∀ S14_ : c_S, S14_ = (cs_A (cs_A (cs_A S 401 a0 (((c_I S 403 a0) - (c_I S 403 a0) / (64 : Int32) * (64 : Int32)) * (6 : Int32)).toNatClampNeg x1) 401 a0 ((((c_I S 403 a0) - (c_I S 403 a0) / (64 : Int32) * (64 : Int32)) * (6 : Int32)) + (1 : Int32)).toNatClampNeg x2) 401 a0 ((((c_I S 403 a0) - (c_I S 403 a0) / (64 : Int32) * (64 : Int32)) * (6 : Int32)) + (2 : Int32)).toNatClampNeg x3) → (vp_in ((((c_I S 403 a0) - (c_I S 403 a0) / (64 : Int32) * (64 : Int32)) * (6 : Int32)) + (3 : Int32)) 384 ∧ (vp_in ((((c_I S 403 a0) - (c_I S 403 a0) / (64 : Int32) * (64 : Int32)) * (6 : Int32)) + (4 : Int32)) 384 ∧ (vp_in ((((c_I S 403 a0) - (c_I S 403 a0) / (64 : Int32) * (64 : Int32)) * (6 : Int32)) + (5 : Int32)) 384 ∧ (∀ S27_ : c_S, S27_ = (cs_A (cs_A (cs_A S14_ 401 a0 ((((c_I S 403 a0) - (c_I S 403 a0) / (64 : Int32) * (64 : Int32)) * (6 : Int32)) + (3 : Int32)).toNatClampNeg x4) 401 a0 ((((c_I S 403 a0) - (c_I S 403 a0) / (64 : Int32) * (64 : Int32)) * (6 : Int32)) + (4 : Int32)).toNatClampNeg x5) 401 a0 ((((c_I S 403 a0) - (c_I S 403 a0) / (64 : Int32) * (64 : Int32)) * (6 : Int32)) + (5 : Int32)).toNatClampNeg x6) → (Q (cs_I S27_ 403 a0 ((c_I S27_ 403 a0) + (1 : Int32)))))))))))
set_option maxRecDepth 100000 in
set_option maxHeartbeats 4000000 in
theorem um_X2_note {L : c_L} {T : q_S} (g : c_G L T) (S : c_S) (a0 : Nat) (x1 : Int32) (x2 : Int32) (x3 : Int32) (x4 : Int32) (x5 : Int32) (x6 : Int32) (m_a0 : c_mk L 2 a0) {Q1 : c_S → Prop} {Q : Option Value → q_S → Prop} (h : km_X2_note L  S a0 x1 x2 x3 x4 x5 x6 Q1) (hQ : ∀ K : c_S, Q1 K → Q none (c_E L K T)) : wm_X2_note  (c_E L S T) (c_ob L 2 a0) x1 x2 x3 x4 x5 x6 Q := by
  unfold wm_X2_note
  unfold km_X2_note at h
  try simp only [c_gk g m_a0 3 rfl, c_eI (f := 403) m_a0 rfl, c_eIs (f := 403) (c_gw g) m_a0 rfl, true_and, Option.some.injEq, exists_eq_left', c_xm, c_xn, c_xs]
  have n401_a0 := c_gA g 401 rfl (by decide) m_a0
  try simp only [c_gk g m_a0 3 rfl, c_gr g n401_a0 21 rfl, c_gN g n401_a0 384 (by decide), c_eA n401_a0, c_eAs (c_gw g) n401_a0, c_ga g 401 rfl rfl (by decide) m_a0, c_eI (f := 403) m_a0 rfl, c_eIs (f := 403) (c_gw g) m_a0 rfl, true_and, Option.some.injEq, exists_eq_left', c_xm, c_xn, c_xs]
  refine ⟨h.1, ?_⟩
  have h := h.2
  refine ⟨h.1, ?_⟩
  have h := h.2
  refine ⟨h.1, ?_⟩
  have h := h.2
  refine fun S14_ e_S14_ => ?_
  have h := h S14_ e_S14_
  refine ⟨h.1, ?_⟩
  have h := h.2
  refine ⟨h.1, ?_⟩
  have h := h.2
  refine ⟨h.1, ?_⟩
  have h := h.2
  refine fun S27_ e_S27_ => ?_
  have h := h S27_ e_S27_
  exact hQ _ h
def kb_X2_noted_28 (L : c_L) (S : c_S) (Q : Int32 → c_S → Prop) : Prop := Q (-1 : Int32) S
set_option maxRecDepth 100000 in
set_option maxHeartbeats 4000000 in
theorem ub_X2_noted_28 {L : c_L} {T : q_S} (g : c_G L T) (S : c_S)  {Q1 : Int32 → c_S → Prop} {Q : Option Value → q_S → Prop} (h : kb_X2_noted_28 L  S Q1) (hQ : ∀ (v : Int32) (K : c_S), Q1 v K → Q (some (.int v)) (c_E L K T)) : wb_X2_noted_28  (c_E L S T) Q := by
  unfold wb_X2_noted_28
  unfold kb_X2_noted_28 at h
  try simp only [true_and, Option.some.injEq, exists_eq_left', c_xm, c_xn, c_xs]
  exact hQ _ _ h
def km_X2_noted (L : c_L) (S : c_S) (a0 : Nat) (x1 : Int32) (x2 : Int32) (Q : Int32 → c_S → Prop) : Prop := (x1 < 0 → (kb_X2_noted_28 L S Q)) ∧ (¬ x1 < 0 → (((c_I S 403 a0) ≤ x1 → (kb_X2_noted_28 L S Q)) ∧ (¬ (c_I S 403 a0) ≤ x1 → (((64 : Int32) ≤ x1 → (kb_X2_noted_28 L S Q)) ∧ (¬ (64 : Int32) ≤ x1 → ((x2 < 0 → (kb_X2_noted_28 L S Q)) ∧ (¬ x2 < 0 → ((x2 < (6 : Int32) → (vp_in ((((((c_I S 403 a0) - (1 : Int32)) - x1) - (((c_I S 403 a0) - (1 : Int32)) - x1) / (64 : Int32) * (64 : Int32)) * (6 : Int32)) + x2) 384 ∧ (Q (c_A S 401 a0 ((((((c_I S 403 a0) - (1 : Int32)) - x1) - (((c_I S 403 a0) - (1 : Int32)) - x1) / (64 : Int32) * (64 : Int32)) * (6 : Int32)) + x2).toNatClampNeg) S))) ∧ (¬ x2 < (6 : Int32) → (kb_X2_noted_28 L S Q))))))))))
set_option maxRecDepth 100000 in
set_option maxHeartbeats 4000000 in
theorem um_X2_noted {L : c_L} {T : q_S} (g : c_G L T) (S : c_S) (a0 : Nat) (x1 : Int32) (x2 : Int32) (m_a0 : c_mk L 2 a0) {Q1 : Int32 → c_S → Prop} {Q : Option Value → q_S → Prop} (h : km_X2_noted L  S a0 x1 x2 Q1) (hQ : ∀ (v : Int32) (K : c_S), Q1 v K → Q (some (.int v)) (c_E L K T)) : wm_X2_noted  (c_E L S T) (c_ob L 2 a0) x1 x2 Q := by
  unfold wm_X2_noted
  unfold km_X2_noted at h
  try simp only [c_gk g m_a0 3 rfl, c_eI (f := 403) m_a0 rfl, true_and, Option.some.injEq, exists_eq_left', c_xm, c_xn, c_xs]
  refine ⟨fun hc => ?_, fun hc => ?_⟩
  · have h := h.1 hc
    exact ub_X2_noted_28 g _  h hQ
  · have h := h.2 hc
    refine ⟨fun hc => ?_, fun hc => ?_⟩
    · have h := h.1 hc
      exact ub_X2_noted_28 g _  h hQ
    · have h := h.2 hc
      refine ⟨fun hc => ?_, fun hc => ?_⟩
      · have h := h.1 hc
        exact ub_X2_noted_28 g _  h hQ
      · have h := h.2 hc
        refine ⟨fun hc => ?_, fun hc => ?_⟩
        · have h := h.1 hc
          exact ub_X2_noted_28 g _  h hQ
        · have h := h.2 hc
          refine ⟨fun hc => ?_, fun hc => ?_⟩
          · have h := h.1 hc
            have n401_a0 := c_gA g 401 rfl (by decide) m_a0
            try simp only [c_gk g m_a0 3 rfl, c_gr g n401_a0 21 rfl, c_gN g n401_a0 384 (by decide), c_eA n401_a0, c_eAs (c_gw g) n401_a0, c_ga g 401 rfl rfl (by decide) m_a0, c_eI (f := 403) m_a0 rfl, true_and, Option.some.injEq, exists_eq_left', c_xm, c_xn, c_xs]
            refine ⟨h.1, ?_⟩
            have h := h.2
            exact hQ _ _ h
          · have h := h.2 hc
            exact ub_X2_noted_28 g _  h hQ
def kb_X4_sortAt_37 (L : c_L) (S : c_S) (Q : Int32 → c_S → Prop) : Prop := Q (-1 : Int32) S
set_option maxRecDepth 100000 in
set_option maxHeartbeats 4000000 in
theorem ub_X4_sortAt_37 {L : c_L} {T : q_S} (g : c_G L T) (S : c_S)  {Q1 : Int32 → c_S → Prop} {Q : Option Value → q_S → Prop} (h : kb_X4_sortAt_37 L  S Q1) (hQ : ∀ (v : Int32) (K : c_S), Q1 v K → Q (some (.int v)) (c_E L K T)) : wb_X4_sortAt_37  (c_E L S T) Q := by
  unfold wb_X4_sortAt_37
  unfold kb_X4_sortAt_37 at h
  try simp only [true_and, Option.some.injEq, exists_eq_left', c_xm, c_xn, c_xs]
  exact hQ _ _ h
def kb_X4_sortAt_2 (L : c_L) (B2 : c_S → Nat → Int32 → Int32 → Prop) (S : c_S) (a0 : Nat) (x1 : Int32) (x2 : Int32) (Q : Int32 → c_S → Prop) : Prop := ((c_I S 803 a0) ≤ x2 → (kb_X4_sortAt_37 L S Q)) ∧ (¬ (c_I S 803 a0) ≤ x2 → ((x1 < 0 → (kb_X4_sortAt_37 L S Q)) ∧ (¬ x1 < 0 → (vp_in x2 6 ∧ (((c_A S 804 a0 x2.toNatClampNeg) ≤ x1 → (B2 S a0 x1 (x2 + 1))) ∧ (¬ (c_A S 804 a0 x2.toNatClampNeg) ≤ x1 → (vp_in x2 6 ∧ (Q (c_A S 805 a0 x2.toNatClampNeg) S))))))))
set_option maxRecDepth 100000 in
set_option maxHeartbeats 4000000 in
theorem ub_X4_sortAt_2 {L : c_L} {T : q_S} (g : c_G L T) {OB2 : q_S → Nat → Int32 → Int32 → Prop} {B2 : c_S → Nat → Int32 → Int32 → Prop} (hB2 : ∀ (S1 : c_S) (a0 : Nat) (x1 : Int32) (x2 : Int32), c_mk L 4 a0 → B2 S1 a0 x1 x2 → OB2 (c_E L S1 T) (c_ob L 4 a0) x1 x2) (S : c_S) (a0 : Nat) (x1 : Int32) (x2 : Int32) (m_a0 : c_mk L 4 a0) {Q1 : Int32 → c_S → Prop} {Q : Option Value → q_S → Prop} (h : kb_X4_sortAt_2 L B2 S a0 x1 x2 Q1) (hQ : ∀ (v : Int32) (K : c_S), Q1 v K → Q (some (.int v)) (c_E L K T)) : wb_X4_sortAt_2 OB2 (c_E L S T) (c_ob L 4 a0) x1 x2 Q := by
  unfold wb_X4_sortAt_2
  unfold kb_X4_sortAt_2 at h
  try simp only [c_gk g m_a0 5 rfl, c_eI (f := 803) m_a0 rfl, true_and, Option.some.injEq, exists_eq_left', c_xm, c_xn, c_xs]
  refine ⟨fun hc => ?_, fun hc => ?_⟩
  · have h := h.1 hc
    exact ub_X4_sortAt_37 g _  h hQ
  · have h := h.2 hc
    refine ⟨fun hc => ?_, fun hc => ?_⟩
    · have h := h.1 hc
      exact ub_X4_sortAt_37 g _  h hQ
    · have h := h.2 hc
      have n804_a0 := c_gA g 804 rfl (by decide) m_a0
      try simp only [c_gk g m_a0 5 rfl, c_gr g n804_a0 21 rfl, c_gN g n804_a0 6 (by decide), c_eA n804_a0, c_eAs (c_gw g) n804_a0, c_ga g 804 rfl rfl (by decide) m_a0, c_eI (f := 803) m_a0 rfl, true_and, Option.some.injEq, exists_eq_left', c_xm, c_xn, c_xs]
      refine ⟨h.1, ?_⟩
      have h := h.2
      refine ⟨fun hc => ?_, fun hc => ?_⟩
      · have h := h.1 hc
        exact hB2 _ a0 _ _ m_a0 h
      · have h := h.2 hc
        have n805_a0 := c_gA g 805 rfl (by decide) m_a0
        try simp only [c_gk g m_a0 5 rfl, c_gr g n804_a0 21 rfl, c_gN g n804_a0 6 (by decide), c_eA n804_a0, c_eAs (c_gw g) n804_a0, c_gr g n805_a0 21 rfl, c_gN g n805_a0 6 (by decide), c_eA n805_a0, c_eAs (c_gw g) n805_a0, c_ga g 804 rfl rfl (by decide) m_a0, c_ga g 805 rfl rfl (by decide) m_a0, c_eI (f := 803) m_a0 rfl, true_and, Option.some.injEq, exists_eq_left', c_xm, c_xn, c_xs]
        refine ⟨h.1, ?_⟩
        have h := h.2
        exact hQ _ _ h
def kl_X4_sortAt_2 (L : c_L)  : Nat → c_S → Nat → Int32 → Int32 → (Int32 → c_S → Prop) → Prop
  | 0, _, _, _, _, _ => False
  | n + 1, S, a0, x1, x2, Q => kb_X4_sortAt_2 L (fun S a0 x1 x2 => kl_X4_sortAt_2 L n S a0 x1 x2 Q) S a0 x1 x2 Q
theorem ul_X4_sortAt_2 {L : c_L} {T : q_S} (g : c_G L T) (n : Nat) (S : c_S) (a0 : Nat) (x1 : Int32) (x2 : Int32) (m_a0 : c_mk L 4 a0) {Q1 : Int32 → c_S → Prop} {Q : Option Value → q_S → Prop} (h : kl_X4_sortAt_2 L  n S a0 x1 x2 Q1) (hQ : ∀ (v : Int32) (K : c_S), Q1 v K → Q (some (.int v)) (c_E L K T)) : wl_X4_sortAt_2  n (c_E L S T) (c_ob L 4 a0) x1 x2 Q := by
  induction n generalizing S a0 x1 x2 with
  | zero => exact h.elim
  | succ n ih => exact ub_X4_sortAt_2 g (fun u0 u1 u2 u3 w0 h => ih u0 u1 u2 u3 w0 h) S a0 x1 x2 m_a0 h hQ
def km_X4_sortAt (L : c_L) (S : c_S) (a0 : Nat) (x1 : Int32) (Q : Int32 → c_S → Prop) : Prop := ∃ n13_ : Nat, kl_X4_sortAt_2 L n13_ S a0 x1 (0 : Int32) Q
set_option maxRecDepth 100000 in
set_option maxHeartbeats 4000000 in
theorem um_X4_sortAt {L : c_L} {T : q_S} (g : c_G L T) (S : c_S) (a0 : Nat) (x1 : Int32) (m_a0 : c_mk L 4 a0) {Q1 : Int32 → c_S → Prop} {Q : Option Value → q_S → Prop} (h : km_X4_sortAt L  S a0 x1 Q1) (hQ : ∀ (v : Int32) (K : c_S), Q1 v K → Q (some (.int v)) (c_E L K T)) : wm_X4_sortAt  (c_E L S T) (c_ob L 4 a0) x1 Q := by
  unfold wm_X4_sortAt
  unfold km_X4_sortAt at h
  try simp only [c_gk g m_a0 5 rfl, true_and, Option.some.injEq, exists_eq_left', c_xm, c_xn, c_xs]
  obtain ⟨n13_, h⟩ := h
  refine ⟨n13_, ?_⟩
  exact ul_X4_sortAt_2 g n13_ _ a0 _ _ m_a0 h hQ
def kb_X4_mayRun_20 (L : c_L) (S : c_S) (xs0 : Int32) (Q : Int32 → c_S → Prop) : Prop := narrow .boolean (.int xs0) = .int xs0 ∧ (Q xs0 S)
set_option maxRecDepth 100000 in
set_option maxHeartbeats 4000000 in
theorem ub_X4_mayRun_20 {L : c_L} {T : q_S} (g : c_G L T) (S : c_S) (xs0 : Int32)  {Q1 : Int32 → c_S → Prop} {Q : Option Value → q_S → Prop} (h : kb_X4_mayRun_20 L  S xs0 Q1) (hQ : ∀ (v : Int32) (K : c_S), Q1 v K → Q (some (.int v)) (c_E L K T)) : wb_X4_mayRun_20  (c_E L S T) xs0 Q := by
  unfold wb_X4_mayRun_20
  unfold kb_X4_mayRun_20 at h
  try simp only [true_and, Option.some.injEq, exists_eq_left', c_xm, c_xn, c_xs]
  refine ⟨h.1, ?_⟩
  have h := h.2
  exact hQ _ _ h
def kb_X4_mayRun_15 (L : c_L) (S : c_S) (Q : Int32 → c_S → Prop) : Prop := kb_X4_mayRun_20 L S (1 : Int32) Q
set_option maxRecDepth 100000 in
set_option maxHeartbeats 4000000 in
theorem ub_X4_mayRun_15 {L : c_L} {T : q_S} (g : c_G L T) (S : c_S)  {Q1 : Int32 → c_S → Prop} {Q : Option Value → q_S → Prop} (h : kb_X4_mayRun_15 L  S Q1) (hQ : ∀ (v : Int32) (K : c_S), Q1 v K → Q (some (.int v)) (c_E L K T)) : wb_X4_mayRun_15  (c_E L S T) Q := by
  unfold wb_X4_mayRun_15
  unfold kb_X4_mayRun_15 at h
  try simp only [true_and, Option.some.injEq, exists_eq_left', c_xm, c_xn, c_xs]
  exact ub_X4_mayRun_20 g _ _  h hQ
def km_X4_mayRun (L : c_L) (S : c_S) (a0 : Nat) (x1 : Int32) (Q : Int32 → c_S → Prop) : Prop := km_X4_sortAt L S a0 x1 (fun x4_ S3_ => ((x4_ = 0 → (kb_X4_mayRun_15 L S3_ Q)) ∧ (¬ x4_ = 0 → ((¬ x4_ = (3 : Int32) → (kb_X4_mayRun_20 L S3_ (0 : Int32) Q)) ∧ (x4_ = (3 : Int32) → (kb_X4_mayRun_15 L S3_ Q))))))
set_option maxRecDepth 100000 in
set_option maxHeartbeats 4000000 in
theorem um_X4_mayRun {L : c_L} {T : q_S} (g : c_G L T) (S : c_S) (a0 : Nat) (x1 : Int32) (m_a0 : c_mk L 4 a0) {Q1 : Int32 → c_S → Prop} {Q : Option Value → q_S → Prop} (h : km_X4_mayRun L  S a0 x1 Q1) (hQ : ∀ (v : Int32) (K : c_S), Q1 v K → Q (some (.int v)) (c_E L K T)) : wm_X4_mayRun  (c_E L S T) (c_ob L 4 a0) x1 Q := by
  unfold wm_X4_mayRun
  unfold km_X4_mayRun at h
  try simp only [c_gk g m_a0 5 rfl, true_and, Option.some.injEq, exists_eq_left', c_xm, c_xn, c_xs]
  refine um_X4_sortAt g _ a0 _ m_a0 h (fun x4_ S3_ h => ?_)
  refine ⟨_, rfl, ?_⟩
  try simp only [c_gk g m_a0 5 rfl, true_and, Option.some.injEq, exists_eq_left', c_xm, c_xn, c_xs]
  refine ⟨fun hc => ?_, fun hc => ?_⟩
  · have h := h.1 hc
    exact ub_X4_mayRun_15 g _  h hQ
  · have h := h.2 hc
    refine ⟨fun hc => ?_, fun hc => ?_⟩
    · have h := h.1 hc
      exact ub_X4_mayRun_20 g _ _  h hQ
    · have h := h.2 hc
      exact ub_X4_mayRun_15 g _  h hQ
def kb_X3_finish_22 (L : c_L) (S : c_S) (r1 : Option Nat) (x4 : Int32) (Q : Int32 → c_S → Prop) : Prop := ∃ a1_ : Nat, r1 = some a1_ ∧ (c_mk L 7 a1_ ∧ (Q (-1 : Int32) (cs_I S 1410 a1_ x4)))
set_option maxRecDepth 100000 in
set_option maxHeartbeats 4000000 in
theorem ub_X3_finish_22 {L : c_L} {T : q_S} (g : c_G L T) (S : c_S) (r1 : Option Nat) (x4 : Int32)  {Q1 : Int32 → c_S → Prop} {Q : Option Value → q_S → Prop} (h : kb_X3_finish_22 L  S r1 x4 Q1) (hQ : ∀ (v : Int32) (K : c_S), Q1 v K → Q (some (.int v)) (c_E L K T)) : wb_X3_finish_22  (c_E L S T) (r1.map (c_ob L 7)) x4 Q := by
  unfold wb_X3_finish_22
  unfold kb_X3_finish_22 at h
  try simp only [true_and, Option.some.injEq, exists_eq_left', c_xm, c_xn, c_xs]
  obtain ⟨a1_, e_a1_, m_a1_, h⟩ := h
  refine ⟨a1_, e_a1_, ?_⟩
  try simp only [c_gk g m_a1_ 8 rfl, c_eIs (f := 1410) (c_gw g) m_a1_ rfl, true_and, Option.some.injEq, exists_eq_left', c_xm, c_xn, c_xs]
  exact hQ _ _ h
def km_X3_finish (L : c_L) (S : c_S) (a0 : Nat) (r1 : Option Nat) (x2 : Int32) (x3 : Int32) (x4 : Int32) (Q : Int32 → c_S → Prop) : Prop := (((x2 >>> ((7 : Int32) &&& 31)) &&& (31 : Int32)) = 0 → (kb_X3_finish_22 L S r1 x4 Q)) ∧ (¬ ((x2 >>> ((7 : Int32) &&& 31)) &&& (31 : Int32)) = 0 → (∃ a5_ : Nat, r1 = some a5_ ∧ (c_mk L 7 a5_ ∧ (vp_in ((x2 >>> ((7 : Int32) &&& 31)) &&& (31 : Int32)) 32 ∧ (kb_X3_finish_22 L (cs_A S 1411 a5_ ((x2 >>> ((7 : Int32) &&& 31)) &&& (31 : Int32)).toNatClampNeg x3) r1 x4 Q)))))
set_option maxRecDepth 100000 in
set_option maxHeartbeats 4000000 in
theorem um_X3_finish {L : c_L} {T : q_S} (g : c_G L T) (S : c_S) (a0 : Nat) (r1 : Option Nat) (x2 : Int32) (x3 : Int32) (x4 : Int32) (m_a0 : c_mk L 3 a0) {Q1 : Int32 → c_S → Prop} {Q : Option Value → q_S → Prop} (h : km_X3_finish L  S a0 r1 x2 x3 x4 Q1) (hQ : ∀ (v : Int32) (K : c_S), Q1 v K → Q (some (.int v)) (c_E L K T)) : wm_X3_finish  (c_E L S T) (c_ob L 3 a0) (r1.map (c_ob L 7)) x2 x3 x4 Q := by
  unfold wm_X3_finish
  unfold km_X3_finish at h
  try simp only [c_gk g m_a0 4 rfl, true_and, Option.some.injEq, exists_eq_left', c_xm, c_xn, c_xs]
  refine ⟨fun hc => ?_, fun hc => ?_⟩
  · have h := h.1 hc
    exact ub_X3_finish_22 g _ r1 _  h hQ
  · have h := h.2 hc
    obtain ⟨a5_, e_a5_, m_a5_, h⟩ := h
    refine ⟨a5_, e_a5_, ?_⟩
    try simp only [c_gk g m_a0 4 rfl, c_gk g m_a5_ 8 rfl, true_and, Option.some.injEq, exists_eq_left', c_xm, c_xn, c_xs]
    have n1411_a5_ := c_gA g 1411 rfl (by decide) m_a5_
    try simp only [c_gk g m_a0 4 rfl, c_gk g m_a5_ 8 rfl, c_gr g n1411_a5_ 21 rfl, c_gN g n1411_a5_ 32 (by decide), c_eA n1411_a5_, c_eAs (c_gw g) n1411_a5_, c_ga g 1411 rfl rfl (by decide) m_a5_, true_and, Option.some.injEq, exists_eq_left', c_xm, c_xn, c_xs]
    refine ⟨h.1, ?_⟩
    have h := h.2
    exact ub_X3_finish_22 g _ r1 _  h hQ
def km_X3_jumpOf (L : c_L) (S : c_S) (a0 : Nat) (x1 : Int32) (Q : Int32 → c_S → Prop) : Prop := Q (((((x1 >>> ((31 : Int32) &&& 31)) <<< ((20 : Int32) &&& 31)) ||| (((x1 >>> ((12 : Int32) &&& 31)) &&& (255 : Int32)) <<< ((12 : Int32) &&& 31))) ||| (((x1 >>> ((20 : Int32) &&& 31)) &&& (1 : Int32)) <<< ((11 : Int32) &&& 31))) ||| (((x1 >>> ((21 : Int32) &&& 31)) &&& (1023 : Int32)) <<< ((1 : Int32) &&& 31))) S
set_option maxRecDepth 100000 in
set_option maxHeartbeats 4000000 in
theorem um_X3_jumpOf {L : c_L} {T : q_S} (g : c_G L T) (S : c_S) (a0 : Nat) (x1 : Int32) (m_a0 : c_mk L 3 a0) {Q1 : Int32 → c_S → Prop} {Q : Option Value → q_S → Prop} (h : km_X3_jumpOf L  S a0 x1 Q1) (hQ : ∀ (v : Int32) (K : c_S), Q1 v K → Q (some (.int v)) (c_E L K T)) : wm_X3_jumpOf  (c_E L S T) (c_ob L 3 a0) x1 Q := by
  unfold wm_X3_jumpOf
  unfold km_X3_jumpOf at h
  try simp only [c_gk g m_a0 4 rfl, true_and, Option.some.injEq, exists_eq_left', c_xm, c_xn, c_xs]
  exact hQ _ _ h
def km_X3_branchOf (L : c_L) (S : c_S) (a0 : Nat) (x1 : Int32) (Q : Int32 → c_S → Prop) : Prop := Q (((((x1 >>> ((31 : Int32) &&& 31)) <<< ((12 : Int32) &&& 31)) ||| (((x1 >>> ((7 : Int32) &&& 31)) &&& (1 : Int32)) <<< ((11 : Int32) &&& 31))) ||| (((x1 >>> ((25 : Int32) &&& 31)) &&& (63 : Int32)) <<< ((5 : Int32) &&& 31))) ||| (((x1 >>> ((8 : Int32) &&& 31)) &&& (15 : Int32)) <<< ((1 : Int32) &&& 31))) S
set_option maxRecDepth 100000 in
set_option maxHeartbeats 4000000 in
theorem um_X3_branchOf {L : c_L} {T : q_S} (g : c_G L T) (S : c_S) (a0 : Nat) (x1 : Int32) (m_a0 : c_mk L 3 a0) {Q1 : Int32 → c_S → Prop} {Q : Option Value → q_S → Prop} (h : km_X3_branchOf L  S a0 x1 Q1) (hQ : ∀ (v : Int32) (K : c_S), Q1 v K → Q (some (.int v)) (c_E L K T)) : wm_X3_branchOf  (c_E L S T) (c_ob L 3 a0) x1 Q := by
  unfold wm_X3_branchOf
  unfold km_X3_branchOf at h
  try simp only [c_gk g m_a0 4 rfl, true_and, Option.some.injEq, exists_eq_left', c_xm, c_xn, c_xs]
  exact hQ _ _ h
def kb_X3_branch_154 (L : c_L) (S : c_S) (rs0 : Option Nat) (xs1 : Int32) (xs2 : Int32) (Q : Int32 → c_S → Prop) : Prop := ∃ a1_ : Nat, rs0 = some a1_ ∧ (c_mk L 7 a1_ ∧ (Q (-1 : Int32) (cs_I S 1410 a1_ (xs1 + xs2))))
set_option maxRecDepth 100000 in
set_option maxHeartbeats 4000000 in
theorem ub_X3_branch_154 {L : c_L} {T : q_S} (g : c_G L T) (S : c_S) (rs0 : Option Nat) (xs1 : Int32) (xs2 : Int32)  {Q1 : Int32 → c_S → Prop} {Q : Option Value → q_S → Prop} (h : kb_X3_branch_154 L  S rs0 xs1 xs2 Q1) (hQ : ∀ (v : Int32) (K : c_S), Q1 v K → Q (some (.int v)) (c_E L K T)) : wb_X3_branch_154  (c_E L S T) (rs0.map (c_ob L 7)) xs1 xs2 Q := by
  unfold wb_X3_branch_154
  unfold kb_X3_branch_154 at h
  try simp only [true_and, Option.some.injEq, exists_eq_left', c_xm, c_xn, c_xs]
  obtain ⟨a1_, e_a1_, m_a1_, h⟩ := h
  refine ⟨a1_, e_a1_, ?_⟩
  try simp only [c_gk g m_a1_ 8 rfl, c_eIs (f := 1410) (c_gw g) m_a1_ rfl, true_and, Option.some.injEq, exists_eq_left', c_xm, c_xn, c_xs]
  exact hQ _ _ h
def kb_X3_branch_131 (L : c_L) (S : c_S) (a0 : Nat) (r1 : Option Nat) (x2 : Int32) (x5 : Int32) (xs0 : Int32) (Q : Int32 → c_S → Prop) : Prop := ∃ a4_ : Nat, r1 = some a4_ ∧ (c_mk L 7 a4_ ∧ ((x5 = xs0 → (kb_X3_branch_154 L S r1 (c_I S 1410 a4_) (4 : Int32) Q)) ∧ (¬ x5 = xs0 → (km_X3_branchOf L S a0 x2 (fun x11_ S10_ => (kb_X3_branch_154 L S10_ r1 (c_I S 1410 a4_) x11_ Q))))))
set_option maxRecDepth 100000 in
set_option maxHeartbeats 4000000 in
theorem ub_X3_branch_131 {L : c_L} {T : q_S} (g : c_G L T) (S : c_S) (a0 : Nat) (r1 : Option Nat) (x2 : Int32) (x5 : Int32) (xs0 : Int32) (m_a0 : c_mk L 3 a0) {Q1 : Int32 → c_S → Prop} {Q : Option Value → q_S → Prop} (h : kb_X3_branch_131 L  S a0 r1 x2 x5 xs0 Q1) (hQ : ∀ (v : Int32) (K : c_S), Q1 v K → Q (some (.int v)) (c_E L K T)) : wb_X3_branch_131  (c_E L S T) (c_ob L 3 a0) (r1.map (c_ob L 7)) x2 x5 xs0 Q := by
  unfold wb_X3_branch_131
  unfold kb_X3_branch_131 at h
  try simp only [c_gk g m_a0 4 rfl, true_and, Option.some.injEq, exists_eq_left', c_xm, c_xn, c_xs]
  obtain ⟨a4_, e_a4_, m_a4_, h⟩ := h
  refine ⟨a4_, e_a4_, ?_⟩
  try simp only [c_gk g m_a0 4 rfl, c_gk g m_a4_ 8 rfl, c_eI (f := 1410) m_a4_ rfl, true_and, Option.some.injEq, exists_eq_left', c_xm, c_xn, c_xs]
  refine ⟨fun hc => ?_, fun hc => ?_⟩
  · have h := h.1 hc
    exact ub_X3_branch_154 g _ r1 _ _  h hQ
  · have h := h.2 hc
    refine um_X3_branchOf g _ a0 _ m_a0 h (fun x11_ S10_ h => ?_)
    refine ⟨_, rfl, ?_⟩
    try simp only [c_gk g m_a0 4 rfl, c_gk g m_a4_ 8 rfl, c_eI (f := 1410) m_a4_ rfl, true_and, Option.some.injEq, exists_eq_left', c_xm, c_xn, c_xs]
    exact ub_X3_branch_154 g _ r1 _ _  h hQ
def kb_X3_branch_117 (L : c_L) (S : c_S) (a0 : Nat) (r1 : Option Nat) (x2 : Int32) (x5 : Int32) (Q : Int32 → c_S → Prop) : Prop := (((x2 >>> ((12 : Int32) &&& 31)) &&& (1 : Int32)) = 0 → (kb_X3_branch_131 L S a0 r1 x2 x5 (0 : Int32) Q)) ∧ (¬ ((x2 >>> ((12 : Int32) &&& 31)) &&& (1 : Int32)) = 0 → (kb_X3_branch_131 L S a0 r1 x2 x5 (1 : Int32) Q))
set_option maxRecDepth 100000 in
set_option maxHeartbeats 4000000 in
theorem ub_X3_branch_117 {L : c_L} {T : q_S} (g : c_G L T) (S : c_S) (a0 : Nat) (r1 : Option Nat) (x2 : Int32) (x5 : Int32) (m_a0 : c_mk L 3 a0) {Q1 : Int32 → c_S → Prop} {Q : Option Value → q_S → Prop} (h : kb_X3_branch_117 L  S a0 r1 x2 x5 Q1) (hQ : ∀ (v : Int32) (K : c_S), Q1 v K → Q (some (.int v)) (c_E L K T)) : wb_X3_branch_117  (c_E L S T) (c_ob L 3 a0) (r1.map (c_ob L 7)) x2 x5 Q := by
  unfold wb_X3_branch_117
  unfold kb_X3_branch_117 at h
  try simp only [c_gk g m_a0 4 rfl, true_and, Option.some.injEq, exists_eq_left', c_xm, c_xn, c_xs]
  refine ⟨fun hc => ?_, fun hc => ?_⟩
  · have h := h.1 hc
    exact ub_X3_branch_131 g _ a0 r1 _ _ _ m_a0 h hQ
  · have h := h.2 hc
    exact ub_X3_branch_131 g _ a0 r1 _ _ _ m_a0 h hQ
def kb_X3_branch_110 (L : c_L) (S : c_S) (a0 : Nat) (r1 : Option Nat) (x2 : Int32) (xs0 : Int32) (Q : Int32 → c_S → Prop) : Prop := kb_X3_branch_117 L S a0 r1 x2 xs0 Q
set_option maxRecDepth 100000 in
set_option maxHeartbeats 4000000 in
theorem ub_X3_branch_110 {L : c_L} {T : q_S} (g : c_G L T) (S : c_S) (a0 : Nat) (r1 : Option Nat) (x2 : Int32) (xs0 : Int32) (m_a0 : c_mk L 3 a0) {Q1 : Int32 → c_S → Prop} {Q : Option Value → q_S → Prop} (h : kb_X3_branch_110 L  S a0 r1 x2 xs0 Q1) (hQ : ∀ (v : Int32) (K : c_S), Q1 v K → Q (some (.int v)) (c_E L K T)) : wb_X3_branch_110  (c_E L S T) (c_ob L 3 a0) (r1.map (c_ob L 7)) x2 xs0 Q := by
  unfold wb_X3_branch_110
  unfold kb_X3_branch_110 at h
  try simp only [c_gk g m_a0 4 rfl, true_and, Option.some.injEq, exists_eq_left', c_xm, c_xn, c_xs]
  exact ub_X3_branch_117 g _ a0 r1 _ _ m_a0 h hQ
def kb_X3_branch_91 (L : c_L) (S : c_S) (a0 : Nat) (r1 : Option Nat) (x2 : Int32) (xs0 : Int32) (Q : Int32 → c_S → Prop) : Prop := kb_X3_branch_117 L S a0 r1 x2 xs0 Q
set_option maxRecDepth 100000 in
set_option maxHeartbeats 4000000 in
theorem ub_X3_branch_91 {L : c_L} {T : q_S} (g : c_G L T) (S : c_S) (a0 : Nat) (r1 : Option Nat) (x2 : Int32) (xs0 : Int32) (m_a0 : c_mk L 3 a0) {Q1 : Int32 → c_S → Prop} {Q : Option Value → q_S → Prop} (h : kb_X3_branch_91 L  S a0 r1 x2 xs0 Q1) (hQ : ∀ (v : Int32) (K : c_S), Q1 v K → Q (some (.int v)) (c_E L K T)) : wb_X3_branch_91  (c_E L S T) (c_ob L 3 a0) (r1.map (c_ob L 7)) x2 xs0 Q := by
  unfold wb_X3_branch_91
  unfold kb_X3_branch_91 at h
  try simp only [c_gk g m_a0 4 rfl, true_and, Option.some.injEq, exists_eq_left', c_xm, c_xn, c_xs]
  exact ub_X3_branch_117 g _ a0 r1 _ _ m_a0 h hQ
def kb_X3_branch_75 (L : c_L) (S : c_S) (a0 : Nat) (r1 : Option Nat) (x2 : Int32) (xs0 : Int32) (Q : Int32 → c_S → Prop) : Prop := kb_X3_branch_117 L S a0 r1 x2 xs0 Q
set_option maxRecDepth 100000 in
set_option maxHeartbeats 4000000 in
theorem ub_X3_branch_75 {L : c_L} {T : q_S} (g : c_G L T) (S : c_S) (a0 : Nat) (r1 : Option Nat) (x2 : Int32) (xs0 : Int32) (m_a0 : c_mk L 3 a0) {Q1 : Int32 → c_S → Prop} {Q : Option Value → q_S → Prop} (h : kb_X3_branch_75 L  S a0 r1 x2 xs0 Q1) (hQ : ∀ (v : Int32) (K : c_S), Q1 v K → Q (some (.int v)) (c_E L K T)) : wb_X3_branch_75  (c_E L S T) (c_ob L 3 a0) (r1.map (c_ob L 7)) x2 xs0 Q := by
  unfold wb_X3_branch_75
  unfold kb_X3_branch_75 at h
  try simp only [c_gk g m_a0 4 rfl, true_and, Option.some.injEq, exists_eq_left', c_xm, c_xn, c_xs]
  exact ub_X3_branch_117 g _ a0 r1 _ _ m_a0 h hQ
def km_X3_branch (L : c_L) (S : c_S) (a0 : Nat) (r1 : Option Nat) (x2 : Int32) (Q : Int32 → c_S → Prop) : Prop := ∃ a13_ : Nat, r1 = some a13_ ∧ (c_mk L 7 a13_ ∧ (vp_in ((x2 >>> ((15 : Int32) &&& 31)) &&& (31 : Int32)) 32 ∧ (vp_in ((x2 >>> ((20 : Int32) &&& 31)) &&& (31 : Int32)) 32 ∧ ((((x2 >>> ((13 : Int32) &&& 31)) &&& (3 : Int32)).toInt < 0 ∨ 3 < ((x2 >>> ((13 : Int32) &&& 31)) &&& (3 : Int32)).toInt → (Q (0 : Int32) S)) ∧ (((x2 >>> ((13 : Int32) &&& 31)) &&& (3 : Int32)) = (0 : Int32) → ((¬ (c_A S 1411 a13_ ((x2 >>> ((15 : Int32) &&& 31)) &&& (31 : Int32)).toNatClampNeg) = (c_A S 1411 a13_ ((x2 >>> ((20 : Int32) &&& 31)) &&& (31 : Int32)).toNatClampNeg) → (kb_X3_branch_75 L S a0 r1 x2 (0 : Int32) Q)) ∧ ((c_A S 1411 a13_ ((x2 >>> ((15 : Int32) &&& 31)) &&& (31 : Int32)).toNatClampNeg) = (c_A S 1411 a13_ ((x2 >>> ((20 : Int32) &&& 31)) &&& (31 : Int32)).toNatClampNeg) → (kb_X3_branch_75 L S a0 r1 x2 (1 : Int32) Q)))) ∧ (((x2 >>> ((13 : Int32) &&& 31)) &&& (3 : Int32)) = (1 : Int32) → (Q (0 : Int32) S)) ∧ (((x2 >>> ((13 : Int32) &&& 31)) &&& (3 : Int32)) = (2 : Int32) → (((c_A S 1411 a13_ ((x2 >>> ((20 : Int32) &&& 31)) &&& (31 : Int32)).toNatClampNeg) ≤ (c_A S 1411 a13_ ((x2 >>> ((15 : Int32) &&& 31)) &&& (31 : Int32)).toNatClampNeg) → (kb_X3_branch_91 L S a0 r1 x2 (0 : Int32) Q)) ∧ (¬ (c_A S 1411 a13_ ((x2 >>> ((20 : Int32) &&& 31)) &&& (31 : Int32)).toNatClampNeg) ≤ (c_A S 1411 a13_ ((x2 >>> ((15 : Int32) &&& 31)) &&& (31 : Int32)).toNatClampNeg) → (kb_X3_branch_91 L S a0 r1 x2 (1 : Int32) Q)))) ∧ (((x2 >>> ((13 : Int32) &&& 31)) &&& (3 : Int32)) = (3 : Int32) → (km_J6_compareUnsigned_7cf53 L S (c_A S 1411 a13_ ((x2 >>> ((15 : Int32) &&& 31)) &&& (31 : Int32)).toNatClampNeg) (c_A S 1411 a13_ ((x2 >>> ((20 : Int32) &&& 31)) &&& (31 : Int32)).toNatClampNeg) (fun x25_ S24_ => ((0 ≤ x25_ → (kb_X3_branch_110 L S24_ a0 r1 x2 (0 : Int32) Q)) ∧ (¬ 0 ≤ x25_ → (kb_X3_branch_110 L S24_ a0 r1 x2 (1 : Int32) Q))))))))))
set_option maxRecDepth 100000 in
set_option maxHeartbeats 4000000 in
theorem um_X3_branch {L : c_L} {T : q_S} (g : c_G L T) (S : c_S) (a0 : Nat) (r1 : Option Nat) (x2 : Int32) (m_a0 : c_mk L 3 a0) {Q1 : Int32 → c_S → Prop} {Q : Option Value → q_S → Prop} (h : km_X3_branch L  S a0 r1 x2 Q1) (hQ : ∀ (v : Int32) (K : c_S), Q1 v K → Q (some (.int v)) (c_E L K T)) : wm_X3_branch  (c_E L S T) (c_ob L 3 a0) (r1.map (c_ob L 7)) x2 Q := by
  unfold wm_X3_branch
  unfold km_X3_branch at h
  try simp only [c_gk g m_a0 4 rfl, true_and, Option.some.injEq, exists_eq_left', c_xm, c_xn, c_xs]
  obtain ⟨a13_, e_a13_, m_a13_, h⟩ := h
  refine ⟨a13_, e_a13_, ?_⟩
  try simp only [c_gk g m_a0 4 rfl, c_gk g m_a13_ 8 rfl, true_and, Option.some.injEq, exists_eq_left', c_xm, c_xn, c_xs]
  have n1411_a13_ := c_gA g 1411 rfl (by decide) m_a13_
  try simp only [c_gk g m_a0 4 rfl, c_gk g m_a13_ 8 rfl, c_gr g n1411_a13_ 21 rfl, c_gN g n1411_a13_ 32 (by decide), c_eA n1411_a13_, c_eAs (c_gw g) n1411_a13_, c_ga g 1411 rfl rfl (by decide) m_a13_, true_and, Option.some.injEq, exists_eq_left', c_xm, c_xn, c_xs]
  refine ⟨h.1, ?_⟩
  have h := h.2
  refine ⟨h.1, ?_⟩
  have h := h.2
  refine ⟨fun hc => ?_, fun hc => ?_, fun hc => ?_, fun hc => ?_, fun hc => ?_⟩
  · have h := h.1 hc
    exact hQ _ _ h
  · have h := h.2.1 hc
    refine ⟨fun hc => ?_, fun hc => ?_⟩
    · have h := h.1 hc
      exact ub_X3_branch_75 g _ a0 r1 _ _ m_a0 h hQ
    · have h := h.2 hc
      exact ub_X3_branch_75 g _ a0 r1 _ _ m_a0 h hQ
  · have h := h.2.2.1 hc
    exact hQ _ _ h
  · have h := h.2.2.2.1 hc
    refine ⟨fun hc => ?_, fun hc => ?_⟩
    · have h := h.1 hc
      exact ub_X3_branch_91 g _ a0 r1 _ _ m_a0 h hQ
    · have h := h.2 hc
      exact ub_X3_branch_91 g _ a0 r1 _ _ m_a0 h hQ
  · have h := h.2.2.2.2 hc
    refine um_J6_compareUnsigned_7cf53 g _ _ _  h (fun x25_ S24_ h => ?_)
    refine ⟨_, rfl, ?_⟩
    try simp only [c_gk g m_a0 4 rfl, c_gk g m_a13_ 8 rfl, c_gr g n1411_a13_ 21 rfl, c_gN g n1411_a13_ 32 (by decide), c_eA n1411_a13_, c_eAs (c_gw g) n1411_a13_, c_ga g 1411 rfl rfl (by decide) m_a13_, true_and, Option.some.injEq, exists_eq_left', c_xm, c_xn, c_xs]
    refine ⟨fun hc => ?_, fun hc => ?_⟩
    · have h := h.1 hc
      exact ub_X3_branch_110 g _ a0 r1 _ _ m_a0 h hQ
    · have h := h.2 hc
      exact ub_X3_branch_110 g _ a0 r1 _ _ m_a0 h hQ
def kb_X3_wrongPlace_32 (L : c_L) (S : c_S) (xs0 : Int32) (Q : Int32 → c_S → Prop) : Prop := Q xs0 S
set_option maxRecDepth 100000 in
set_option maxHeartbeats 4000000 in
theorem ub_X3_wrongPlace_32 {L : c_L} {T : q_S} (g : c_G L T) (S : c_S) (xs0 : Int32)  {Q1 : Int32 → c_S → Prop} {Q : Option Value → q_S → Prop} (h : kb_X3_wrongPlace_32 L  S xs0 Q1) (hQ : ∀ (v : Int32) (K : c_S), Q1 v K → Q (some (.int v)) (c_E L K T)) : wb_X3_wrongPlace_32  (c_E L S T) xs0 Q := by
  unfold wb_X3_wrongPlace_32
  unfold kb_X3_wrongPlace_32 at h
  try simp only [true_and, Option.some.injEq, exists_eq_left', c_xm, c_xn, c_xs]
  exact hQ _ _ h
def kb_X3_wrongPlace_14 (L : c_L) (S : c_S) (a0 : Nat) (x1 : Int32) (x2 : Int32) (Q : Int32 → c_S → Prop) : Prop := ((x1 &&& (x2 - (1 : Int32))) = 0 → (kb_X3_wrongPlace_32 L (cs_I S 600 a0 x1) (1 : Int32) Q)) ∧ (¬ (x1 &&& (x2 - (1 : Int32))) = 0 → (kb_X3_wrongPlace_32 L (cs_I S 600 a0 x1) (4 : Int32) Q))
set_option maxRecDepth 100000 in
set_option maxHeartbeats 4000000 in
theorem ub_X3_wrongPlace_14 {L : c_L} {T : q_S} (g : c_G L T) (S : c_S) (a0 : Nat) (x1 : Int32) (x2 : Int32) (m_a0 : c_mk L 3 a0) {Q1 : Int32 → c_S → Prop} {Q : Option Value → q_S → Prop} (h : kb_X3_wrongPlace_14 L  S a0 x1 x2 Q1) (hQ : ∀ (v : Int32) (K : c_S), Q1 v K → Q (some (.int v)) (c_E L K T)) : wb_X3_wrongPlace_14  (c_E L S T) (c_ob L 3 a0) x1 x2 Q := by
  unfold wb_X3_wrongPlace_14
  unfold kb_X3_wrongPlace_14 at h
  try simp only [c_gk g m_a0 4 rfl, c_eIs (f := 600) (c_gw g) m_a0 rfl, true_and, Option.some.injEq, exists_eq_left', c_xm, c_xn, c_xs]
  refine ⟨fun hc => ?_, fun hc => ?_⟩
  · have h := h.1 hc
    exact ub_X3_wrongPlace_32 g _ _  h hQ
  · have h := h.2 hc
    exact ub_X3_wrongPlace_32 g _ _  h hQ
def km_X3_wrongPlace (L : c_L) (S : c_S) (a0 : Nat) (x1 : Int32) (x2 : Int32) (x3 : Int32) (Q : Int32 → c_S → Prop) : Prop := (¬ (x1 &&& (x2 - (1 : Int32))) = 0 → (kb_X3_wrongPlace_14 L S a0 x1 x2 Q)) ∧ ((x1 &&& (x2 - (1 : Int32))) = 0 → ((x3 = 0 → (kb_X3_wrongPlace_14 L S a0 x1 x2 Q)) ∧ (¬ x3 = 0 → (Q (-1 : Int32) S))))
set_option maxRecDepth 100000 in
set_option maxHeartbeats 4000000 in
theorem um_X3_wrongPlace {L : c_L} {T : q_S} (g : c_G L T) (S : c_S) (a0 : Nat) (x1 : Int32) (x2 : Int32) (x3 : Int32) (m_a0 : c_mk L 3 a0) {Q1 : Int32 → c_S → Prop} {Q : Option Value → q_S → Prop} (h : km_X3_wrongPlace L  S a0 x1 x2 x3 Q1) (hQ : ∀ (v : Int32) (K : c_S), Q1 v K → Q (some (.int v)) (c_E L K T)) : wm_X3_wrongPlace  (c_E L S T) (c_ob L 3 a0) x1 x2 x3 Q := by
  unfold wm_X3_wrongPlace
  unfold km_X3_wrongPlace at h
  try simp only [c_gk g m_a0 4 rfl, true_and, Option.some.injEq, exists_eq_left', c_xm, c_xn, c_xs]
  refine ⟨fun hc => ?_, fun hc => ?_⟩
  · have h := h.1 hc
    exact ub_X3_wrongPlace_14 g _ a0 _ _ m_a0 h hQ
  · have h := h.2 hc
    refine ⟨fun hc => ?_, fun hc => ?_⟩
    · have h := h.1 hc
      exact ub_X3_wrongPlace_14 g _ a0 _ _ m_a0 h hQ
    · have h := h.2 hc
      exact hQ _ _ h
def kb_X3_fetch_21 (L : c_L) (S : c_S) (Q : Int32 → c_S → Prop) : Prop := Q (0 : Int32) S
set_option maxRecDepth 100000 in
set_option maxHeartbeats 4000000 in
theorem ub_X3_fetch_21 {L : c_L} {T : q_S} (g : c_G L T) (S : c_S)  {Q1 : Int32 → c_S → Prop} {Q : Option Value → q_S → Prop} (h : kb_X3_fetch_21 L  S Q1) (hQ : ∀ (v : Int32) (K : c_S), Q1 v K → Q (some (.int v)) (c_E L K T)) : wb_X3_fetch_21  (c_E L S T) Q := by
  unfold wb_X3_fetch_21
  unfold kb_X3_fetch_21 at h
  try simp only [true_and, Option.some.injEq, exists_eq_left', c_xm, c_xn, c_xs]
  exact hQ _ _ h
def kb_X3_fetch_109 (L : c_L) (S : c_S) (a0 : Nat) (r1 : Option Nat) (x3 : Int32) (x8 : Int32) (Q : Int32 → c_S → Prop) : Prop := ∃ a1_ : Nat, r1 = some a1_ ∧ (c_mk L 7 a1_ ∧ (km_X3_finish L S a0 r1 x3 x8 ((c_I S 1410 a1_) + (4 : Int32)) (fun x7_ S6_ => (Q x7_ S6_))))
set_option maxRecDepth 100000 in
set_option maxHeartbeats 4000000 in
theorem ub_X3_fetch_109 {L : c_L} {T : q_S} (g : c_G L T) (S : c_S) (a0 : Nat) (r1 : Option Nat) (x3 : Int32) (x8 : Int32) (m_a0 : c_mk L 3 a0) {Q1 : Int32 → c_S → Prop} {Q : Option Value → q_S → Prop} (h : kb_X3_fetch_109 L  S a0 r1 x3 x8 Q1) (hQ : ∀ (v : Int32) (K : c_S), Q1 v K → Q (some (.int v)) (c_E L K T)) : wb_X3_fetch_109  (c_E L S T) (c_ob L 3 a0) (r1.map (c_ob L 7)) x3 x8 Q := by
  unfold wb_X3_fetch_109
  unfold kb_X3_fetch_109 at h
  try simp only [c_gk g m_a0 4 rfl, true_and, Option.some.injEq, exists_eq_left', c_xm, c_xn, c_xs]
  obtain ⟨a1_, e_a1_, m_a1_, h⟩ := h
  refine ⟨a1_, e_a1_, ?_⟩
  try simp only [c_gk g m_a0 4 rfl, c_gk g m_a1_ 8 rfl, c_eI (f := 1410) m_a1_ rfl, true_and, Option.some.injEq, exists_eq_left', c_xm, c_xn, c_xs]
  refine um_X3_finish g _ a0 r1 _ _ _ m_a0 h (fun x7_ S6_ h => ?_)
  refine ⟨_, rfl, ?_⟩
  try simp only [c_gk g m_a0 4 rfl, c_gk g m_a1_ 8 rfl, c_eI (f := 1410) m_a1_ rfl, true_and, Option.some.injEq, exists_eq_left', c_xm, c_xn, c_xs]
  exact hQ _ _ h
def km_X3_fetch (L : c_L) (S : c_S) (a0 : Nat) (r1 : Option Nat) (r2 : Option Nat) (x3 : Int32) (Q : Int32 → c_S → Prop) : Prop := (((x3 >>> ((12 : Int32) &&& 31)) &&& (7 : Int32)) = (3 : Int32) → (kb_X3_fetch_21 L S Q)) ∧ (¬ ((x3 >>> ((12 : Int32) &&& 31)) &&& (7 : Int32)) = (3 : Int32) → ((((x3 >>> ((12 : Int32) &&& 31)) &&& (7 : Int32)) ≤ (5 : Int32) → (∃ a10_ : Nat, r1 = some a10_ ∧ (c_mk L 7 a10_ ∧ (vp_in ((x3 >>> ((15 : Int32) &&& 31)) &&& (31 : Int32)) 32 ∧ (∃ a17_ : Nat, r2 = some a17_ ∧ (c_mk L 4 a17_ ∧ (km_X4_holds L S a17_ ((c_A S 1411 a10_ ((x3 >>> ((15 : Int32) &&& 31)) &&& (31 : Int32)).toNatClampNeg) + (x3 >>> ((20 : Int32) &&& 31))) (fun x22_ S21_ => (km_X3_wrongPlace L S21_ a0 ((c_A S 1411 a10_ ((x3 >>> ((15 : Int32) &&& 31)) &&& (31 : Int32)).toNatClampNeg) + (x3 >>> ((20 : Int32) &&& 31))) ((1 : Int32) <<< ((((x3 >>> ((12 : Int32) &&& 31)) &&& (7 : Int32)) &&& (3 : Int32)) &&& 31)) x22_ (fun x26_ S25_ => ((x26_ = (-1 : Int32) → (km_X4_partAt L S25_ a17_ ((c_A S 1411 a10_ ((x3 >>> ((15 : Int32) &&& 31)) &&& (31 : Int32)).toNatClampNeg) + (x3 >>> ((20 : Int32) &&& 31))) ((1 : Int32) <<< ((((x3 >>> ((12 : Int32) &&& 31)) &&& (7 : Int32)) &&& (3 : Int32)) &&& 31)) (fun x31_ S30_ => ((¬ ((x3 >>> ((12 : Int32) &&& 31)) &&& (7 : Int32)) = 0 → ((¬ ((x3 >>> ((12 : Int32) &&& 31)) &&& (7 : Int32)) = (1 : Int32) → (kb_X3_fetch_109 L S30_ a0 r1 x3 x31_ Q)) ∧ (((x3 >>> ((12 : Int32) &&& 31)) &&& (7 : Int32)) = (1 : Int32) → (kb_X3_fetch_109 L S30_ a0 r1 x3 (x31_.toInt16.toInt32) Q)))) ∧ (((x3 >>> ((12 : Int32) &&& 31)) &&& (7 : Int32)) = 0 → (kb_X3_fetch_109 L S30_ a0 r1 x3 (x31_.toInt8.toInt32) Q)))))) ∧ (¬ x26_ = (-1 : Int32) → (Q x26_ S25_))))))))))))) ∧ (¬ ((x3 >>> ((12 : Int32) &&& 31)) &&& (7 : Int32)) ≤ (5 : Int32) → (kb_X3_fetch_21 L S Q))))
set_option maxRecDepth 100000 in
set_option maxHeartbeats 4000000 in
theorem um_X3_fetch {L : c_L} {T : q_S} (g : c_G L T) (S : c_S) (a0 : Nat) (r1 : Option Nat) (r2 : Option Nat) (x3 : Int32) (m_a0 : c_mk L 3 a0) {Q1 : Int32 → c_S → Prop} {Q : Option Value → q_S → Prop} (h : km_X3_fetch L  S a0 r1 r2 x3 Q1) (hQ : ∀ (v : Int32) (K : c_S), Q1 v K → Q (some (.int v)) (c_E L K T)) : wm_X3_fetch  (c_E L S T) (c_ob L 3 a0) (r1.map (c_ob L 7)) (r2.map (c_ob L 4)) x3 Q := by
  unfold wm_X3_fetch
  unfold km_X3_fetch at h
  try simp only [c_gk g m_a0 4 rfl, true_and, Option.some.injEq, exists_eq_left', c_xm, c_xn, c_xs]
  refine ⟨fun hc => ?_, fun hc => ?_⟩
  · have h := h.1 hc
    exact ub_X3_fetch_21 g _  h hQ
  · have h := h.2 hc
    refine ⟨fun hc => ?_, fun hc => ?_⟩
    · have h := h.1 hc
      obtain ⟨a10_, e_a10_, m_a10_, h⟩ := h
      refine ⟨a10_, e_a10_, ?_⟩
      try simp only [c_gk g m_a0 4 rfl, c_gk g m_a10_ 8 rfl, true_and, Option.some.injEq, exists_eq_left', c_xm, c_xn, c_xs]
      have n1411_a10_ := c_gA g 1411 rfl (by decide) m_a10_
      try simp only [c_gk g m_a0 4 rfl, c_gk g m_a10_ 8 rfl, c_gr g n1411_a10_ 21 rfl, c_gN g n1411_a10_ 32 (by decide), c_eA n1411_a10_, c_eAs (c_gw g) n1411_a10_, c_ga g 1411 rfl rfl (by decide) m_a10_, true_and, Option.some.injEq, exists_eq_left', c_xm, c_xn, c_xs]
      refine ⟨h.1, ?_⟩
      have h := h.2
      obtain ⟨a17_, e_a17_, m_a17_, h⟩ := h
      refine ⟨a17_, e_a17_, ?_⟩
      try simp only [c_gk g m_a0 4 rfl, c_gk g m_a10_ 8 rfl, c_gk g m_a17_ 5 rfl, c_gr g n1411_a10_ 21 rfl, c_gN g n1411_a10_ 32 (by decide), c_eA n1411_a10_, c_eAs (c_gw g) n1411_a10_, c_ga g 1411 rfl rfl (by decide) m_a10_, true_and, Option.some.injEq, exists_eq_left', c_xm, c_xn, c_xs]
      refine um_X4_holds g _ a17_ _ m_a17_ h (fun x22_ S21_ h => ?_)
      refine ⟨_, rfl, ?_⟩
      try simp only [c_gk g m_a0 4 rfl, c_gk g m_a10_ 8 rfl, c_gk g m_a17_ 5 rfl, c_gr g n1411_a10_ 21 rfl, c_gN g n1411_a10_ 32 (by decide), c_eA n1411_a10_, c_eAs (c_gw g) n1411_a10_, c_ga g 1411 rfl rfl (by decide) m_a10_, true_and, Option.some.injEq, exists_eq_left', c_xm, c_xn, c_xs]
      refine um_X3_wrongPlace g _ a0 _ _ _ m_a0 h (fun x26_ S25_ h => ?_)
      refine ⟨_, rfl, ?_⟩
      try simp only [c_gk g m_a0 4 rfl, c_gk g m_a10_ 8 rfl, c_gk g m_a17_ 5 rfl, c_gr g n1411_a10_ 21 rfl, c_gN g n1411_a10_ 32 (by decide), c_eA n1411_a10_, c_eAs (c_gw g) n1411_a10_, c_ga g 1411 rfl rfl (by decide) m_a10_, true_and, Option.some.injEq, exists_eq_left', c_xm, c_xn, c_xs]
      refine ⟨fun hc => ?_, fun hc => ?_⟩
      · have h := h.1 hc
        refine um_X4_partAt g _ a17_ _ _ m_a17_ h (fun x31_ S30_ h => ?_)
        refine ⟨_, rfl, ?_⟩
        try simp only [c_gk g m_a0 4 rfl, c_gk g m_a10_ 8 rfl, c_gk g m_a17_ 5 rfl, c_gr g n1411_a10_ 21 rfl, c_gN g n1411_a10_ 32 (by decide), c_eA n1411_a10_, c_eAs (c_gw g) n1411_a10_, c_ga g 1411 rfl rfl (by decide) m_a10_, true_and, Option.some.injEq, exists_eq_left', c_xm, c_xn, c_xs]
        refine ⟨fun hc => ?_, fun hc => ?_⟩
        · have h := h.1 hc
          refine ⟨fun hc => ?_, fun hc => ?_⟩
          · have h := h.1 hc
            exact ub_X3_fetch_109 g _ a0 r1 _ _ m_a0 h hQ
          · have h := h.2 hc
            exact ub_X3_fetch_109 g _ a0 r1 _ _ m_a0 h hQ
        · have h := h.2 hc
          exact ub_X3_fetch_109 g _ a0 r1 _ _ m_a0 h hQ
      · have h := h.2 hc
        exact hQ _ _ h
    · have h := h.2 hc
      exact ub_X3_fetch_21 g _  h hQ
def kb_X4_mayStore_21 (L : c_L) (S : c_S) (xs0 : Int32) (Q : Int32 → c_S → Prop) : Prop := narrow .boolean (.int xs0) = .int xs0 ∧ (Q xs0 S)
set_option maxRecDepth 100000 in
set_option maxHeartbeats 4000000 in
theorem ub_X4_mayStore_21 {L : c_L} {T : q_S} (g : c_G L T) (S : c_S) (xs0 : Int32)  {Q1 : Int32 → c_S → Prop} {Q : Option Value → q_S → Prop} (h : kb_X4_mayStore_21 L  S xs0 Q1) (hQ : ∀ (v : Int32) (K : c_S), Q1 v K → Q (some (.int v)) (c_E L K T)) : wb_X4_mayStore_21  (c_E L S T) xs0 Q := by
  unfold wb_X4_mayStore_21
  unfold kb_X4_mayStore_21 at h
  try simp only [true_and, Option.some.injEq, exists_eq_left', c_xm, c_xn, c_xs]
  refine ⟨h.1, ?_⟩
  have h := h.2
  exact hQ _ _ h
def kb_X4_mayStore_16 (L : c_L) (S : c_S) (Q : Int32 → c_S → Prop) : Prop := kb_X4_mayStore_21 L S (1 : Int32) Q
set_option maxRecDepth 100000 in
set_option maxHeartbeats 4000000 in
theorem ub_X4_mayStore_16 {L : c_L} {T : q_S} (g : c_G L T) (S : c_S)  {Q1 : Int32 → c_S → Prop} {Q : Option Value → q_S → Prop} (h : kb_X4_mayStore_16 L  S Q1) (hQ : ∀ (v : Int32) (K : c_S), Q1 v K → Q (some (.int v)) (c_E L K T)) : wb_X4_mayStore_16  (c_E L S T) Q := by
  unfold wb_X4_mayStore_16
  unfold kb_X4_mayStore_16 at h
  try simp only [true_and, Option.some.injEq, exists_eq_left', c_xm, c_xn, c_xs]
  exact ub_X4_mayStore_21 g _ _  h hQ
def km_X4_mayStore (L : c_L) (S : c_S) (a0 : Nat) (x1 : Int32) (Q : Int32 → c_S → Prop) : Prop := km_X4_sortAt L S a0 x1 (fun x4_ S3_ => ((x4_ = (1 : Int32) → (kb_X4_mayStore_16 L S3_ Q)) ∧ (¬ x4_ = (1 : Int32) → ((¬ x4_ = (3 : Int32) → (kb_X4_mayStore_21 L S3_ (0 : Int32) Q)) ∧ (x4_ = (3 : Int32) → (kb_X4_mayStore_16 L S3_ Q))))))
set_option maxRecDepth 100000 in
set_option maxHeartbeats 4000000 in
theorem um_X4_mayStore {L : c_L} {T : q_S} (g : c_G L T) (S : c_S) (a0 : Nat) (x1 : Int32) (m_a0 : c_mk L 4 a0) {Q1 : Int32 → c_S → Prop} {Q : Option Value → q_S → Prop} (h : km_X4_mayStore L  S a0 x1 Q1) (hQ : ∀ (v : Int32) (K : c_S), Q1 v K → Q (some (.int v)) (c_E L K T)) : wm_X4_mayStore  (c_E L S T) (c_ob L 4 a0) x1 Q := by
  unfold wm_X4_mayStore
  unfold km_X4_mayStore at h
  try simp only [c_gk g m_a0 5 rfl, true_and, Option.some.injEq, exists_eq_left', c_xm, c_xn, c_xs]
  refine um_X4_sortAt g _ a0 _ m_a0 h (fun x4_ S3_ h => ?_)
  refine ⟨_, rfl, ?_⟩
  try simp only [c_gk g m_a0 5 rfl, true_and, Option.some.injEq, exists_eq_left', c_xm, c_xn, c_xs]
  refine ⟨fun hc => ?_, fun hc => ?_⟩
  · have h := h.1 hc
    exact ub_X4_mayStore_16 g _  h hQ
  · have h := h.2 hc
    refine ⟨fun hc => ?_, fun hc => ?_⟩
    · have h := h.1 hc
      exact ub_X4_mayStore_21 g _ _  h hQ
    · have h := h.2 hc
      exact ub_X4_mayStore_16 g _  h hQ
def kb_X4_put_54 (L : c_L) (S : c_S) (Q : c_S → Prop) : Prop := Q S
set_option maxRecDepth 100000 in
set_option maxHeartbeats 4000000 in
theorem ub_X4_put_54 {L : c_L} {T : q_S} (g : c_G L T) (S : c_S)  {Q1 : c_S → Prop} {Q : Option Value → q_S → Prop} (h : kb_X4_put_54 L  S Q1) (hQ : ∀ K : c_S, Q1 K → Q none (c_E L K T)) : wb_X4_put_54  (c_E L S T) Q := by
  unfold wb_X4_put_54
  unfold kb_X4_put_54 at h
  try simp only [true_and, Option.some.injEq, exists_eq_left', c_xm, c_xn, c_xs]
  exact hQ _ h
def km_X4_put (L : c_L) (S : c_S) (a0 : Nat) (x1 : Int32) (x2 : Int32) (x3 : Int32) (Q : c_S → Prop) : Prop := km_X4_holds L S a0 x1 (fun x4_ S3_ => ((x4_ = 0 → (kb_X4_put_54 L S3_ Q)) ∧ (¬ x4_ = 0 → (km_X4_maskOf L S3_ x2 (fun x8_ S7_ => (vp_in (x1 >>> ((2 : Int32) &&& 31)) (c_ln L 801 a0) ∧ (vp_in (x1 >>> ((2 : Int32) &&& 31)) (c_ln L 801 a0) ∧ (kb_X4_put_54 L (cs_A S7_ 801 a0 (x1 >>> ((2 : Int32) &&& 31)).toNatClampNeg (((c_A S7_ 801 a0 (x1 >>> ((2 : Int32) &&& 31)).toNatClampNeg) &&& ((x8_ <<< (((8 : Int32) * (x1 &&& (3 : Int32))) &&& 31)) ^^^ (-1 : Int32))) ||| ((x3 <<< (((8 : Int32) * (x1 &&& (3 : Int32))) &&& 31)) &&& (x8_ <<< (((8 : Int32) * (x1 &&& (3 : Int32))) &&& 31))))) Q))))))))
set_option maxRecDepth 100000 in
set_option maxHeartbeats 4000000 in
theorem um_X4_put {L : c_L} {T : q_S} (g : c_G L T) (S : c_S) (a0 : Nat) (x1 : Int32) (x2 : Int32) (x3 : Int32) (m_a0 : c_mk L 4 a0) {Q1 : c_S → Prop} {Q : Option Value → q_S → Prop} (h : km_X4_put L  S a0 x1 x2 x3 Q1) (hQ : ∀ K : c_S, Q1 K → Q none (c_E L K T)) : wm_X4_put  (c_E L S T) (c_ob L 4 a0) x1 x2 x3 Q := by
  unfold wm_X4_put
  unfold km_X4_put at h
  try simp only [c_gk g m_a0 5 rfl, true_and, Option.some.injEq, exists_eq_left', c_xm, c_xn, c_xs]
  refine um_X4_holds g _ a0 _ m_a0 h (fun x4_ S3_ h => ?_)
  refine ⟨_, rfl, ?_⟩
  try simp only [c_gk g m_a0 5 rfl, true_and, Option.some.injEq, exists_eq_left', c_xm, c_xn, c_xs]
  refine ⟨fun hc => ?_, fun hc => ?_⟩
  · have h := h.1 hc
    exact ub_X4_put_54 g _  h hQ
  · have h := h.2 hc
    refine um_X4_maskOf g _ _  h (fun x8_ S7_ h => ?_)
    refine ⟨_, rfl, ?_⟩
    try simp only [c_gk g m_a0 5 rfl, true_and, Option.some.injEq, exists_eq_left', c_xm, c_xn, c_xs]
    have n801_a0 := c_gA g 801 rfl (by decide) m_a0
    try simp only [c_gk g m_a0 5 rfl, c_gr g n801_a0 21 rfl, c_gn g n801_a0, c_eA n801_a0, c_eAs (c_gw g) n801_a0, c_ga g 801 rfl rfl (by decide) m_a0, true_and, Option.some.injEq, exists_eq_left', c_xm, c_xn, c_xs]
    refine ⟨h.1, ?_⟩
    have h := h.2
    refine ⟨h.1, ?_⟩
    have h := h.2
    exact ub_X4_put_54 g _  h hQ
def kb_X3_store_104 (L : c_L) (S : c_S) (x7 : Int32) (Q : Int32 → c_S → Prop) : Prop := Q x7 S
set_option maxRecDepth 100000 in
set_option maxHeartbeats 4000000 in
theorem ub_X3_store_104 {L : c_L} {T : q_S} (g : c_G L T) (S : c_S) (x7 : Int32)  {Q1 : Int32 → c_S → Prop} {Q : Option Value → q_S → Prop} (h : kb_X3_store_104 L  S x7 Q1) (hQ : ∀ (v : Int32) (K : c_S), Q1 v K → Q (some (.int v)) (c_E L K T)) : wb_X3_store_104  (c_E L S T) x7 Q := by
  unfold wb_X3_store_104
  unfold kb_X3_store_104 at h
  try simp only [true_and, Option.some.injEq, exists_eq_left', c_xm, c_xn, c_xs]
  exact hQ _ _ h
def km_X3_store (L : c_L) (S : c_S) (a0 : Nat) (r1 : Option Nat) (r2 : Option Nat) (x3 : Int32) (Q : Int32 → c_S → Prop) : Prop := (((x3 >>> ((12 : Int32) &&& 31)) &&& (7 : Int32)) ≤ (2 : Int32) → (∃ a2_ : Nat, r1 = some a2_ ∧ (c_mk L 7 a2_ ∧ (vp_in ((x3 >>> ((15 : Int32) &&& 31)) &&& (31 : Int32)) 32 ∧ (∃ a9_ : Nat, r2 = some a9_ ∧ (c_mk L 4 a9_ ∧ (km_X4_mayStore L S a9_ ((c_A S 1411 a2_ ((x3 >>> ((15 : Int32) &&& 31)) &&& (31 : Int32)).toNatClampNeg) + (((x3 >>> ((25 : Int32) &&& 31)) <<< ((5 : Int32) &&& 31)) ||| ((x3 >>> ((7 : Int32) &&& 31)) &&& (31 : Int32)))) (fun x14_ S13_ => (km_X3_wrongPlace L S13_ a0 ((c_A S 1411 a2_ ((x3 >>> ((15 : Int32) &&& 31)) &&& (31 : Int32)).toNatClampNeg) + (((x3 >>> ((25 : Int32) &&& 31)) <<< ((5 : Int32) &&& 31)) ||| ((x3 >>> ((7 : Int32) &&& 31)) &&& (31 : Int32)))) ((1 : Int32) <<< (((x3 >>> ((12 : Int32) &&& 31)) &&& (7 : Int32)) &&& 31)) x14_ (fun x18_ S17_ => ((¬ x18_ = (-1 : Int32) → (kb_X3_store_104 L S17_ x18_ Q)) ∧ (x18_ = (-1 : Int32) → (vp_in ((x3 >>> ((20 : Int32) &&& 31)) &&& (31 : Int32)) 32 ∧ (km_X4_put L S17_ a9_ ((c_A S 1411 a2_ ((x3 >>> ((15 : Int32) &&& 31)) &&& (31 : Int32)).toNatClampNeg) + (((x3 >>> ((25 : Int32) &&& 31)) <<< ((5 : Int32) &&& 31)) ||| ((x3 >>> ((7 : Int32) &&& 31)) &&& (31 : Int32)))) ((1 : Int32) <<< (((x3 >>> ((12 : Int32) &&& 31)) &&& (7 : Int32)) &&& 31)) (c_A S17_ 1411 a2_ ((x3 >>> ((20 : Int32) &&& 31)) &&& (31 : Int32)).toNatClampNeg) (fun S27_ => (kb_X3_store_104 L (cs_I S27_ 1410 a2_ ((c_I S27_ 1410 a2_) + (4 : Int32))) x18_ Q)))))))))))))))) ∧ (¬ ((x3 >>> ((12 : Int32) &&& 31)) &&& (7 : Int32)) ≤ (2 : Int32) → (Q (0 : Int32) S))
set_option maxRecDepth 100000 in
set_option maxHeartbeats 4000000 in
theorem um_X3_store {L : c_L} {T : q_S} (g : c_G L T) (S : c_S) (a0 : Nat) (r1 : Option Nat) (r2 : Option Nat) (x3 : Int32) (m_a0 : c_mk L 3 a0) {Q1 : Int32 → c_S → Prop} {Q : Option Value → q_S → Prop} (h : km_X3_store L  S a0 r1 r2 x3 Q1) (hQ : ∀ (v : Int32) (K : c_S), Q1 v K → Q (some (.int v)) (c_E L K T)) : wm_X3_store  (c_E L S T) (c_ob L 3 a0) (r1.map (c_ob L 7)) (r2.map (c_ob L 4)) x3 Q := by
  unfold wm_X3_store
  unfold km_X3_store at h
  try simp only [c_gk g m_a0 4 rfl, true_and, Option.some.injEq, exists_eq_left', c_xm, c_xn, c_xs]
  refine ⟨fun hc => ?_, fun hc => ?_⟩
  · have h := h.1 hc
    obtain ⟨a2_, e_a2_, m_a2_, h⟩ := h
    refine ⟨a2_, e_a2_, ?_⟩
    try simp only [c_gk g m_a0 4 rfl, c_gk g m_a2_ 8 rfl, c_eI (f := 1410) m_a2_ rfl, c_eIs (f := 1410) (c_gw g) m_a2_ rfl, true_and, Option.some.injEq, exists_eq_left', c_xm, c_xn, c_xs]
    have n1411_a2_ := c_gA g 1411 rfl (by decide) m_a2_
    try simp only [c_gk g m_a0 4 rfl, c_gk g m_a2_ 8 rfl, c_gr g n1411_a2_ 21 rfl, c_gN g n1411_a2_ 32 (by decide), c_eA n1411_a2_, c_eAs (c_gw g) n1411_a2_, c_ga g 1411 rfl rfl (by decide) m_a2_, c_eI (f := 1410) m_a2_ rfl, c_eIs (f := 1410) (c_gw g) m_a2_ rfl, true_and, Option.some.injEq, exists_eq_left', c_xm, c_xn, c_xs]
    refine ⟨h.1, ?_⟩
    have h := h.2
    obtain ⟨a9_, e_a9_, m_a9_, h⟩ := h
    refine ⟨a9_, e_a9_, ?_⟩
    try simp only [c_gk g m_a0 4 rfl, c_gk g m_a2_ 8 rfl, c_gk g m_a9_ 5 rfl, c_gr g n1411_a2_ 21 rfl, c_gN g n1411_a2_ 32 (by decide), c_eA n1411_a2_, c_eAs (c_gw g) n1411_a2_, c_ga g 1411 rfl rfl (by decide) m_a2_, c_eI (f := 1410) m_a2_ rfl, c_eIs (f := 1410) (c_gw g) m_a2_ rfl, true_and, Option.some.injEq, exists_eq_left', c_xm, c_xn, c_xs]
    refine um_X4_mayStore g _ a9_ _ m_a9_ h (fun x14_ S13_ h => ?_)
    refine ⟨_, rfl, ?_⟩
    try simp only [c_gk g m_a0 4 rfl, c_gk g m_a2_ 8 rfl, c_gk g m_a9_ 5 rfl, c_gr g n1411_a2_ 21 rfl, c_gN g n1411_a2_ 32 (by decide), c_eA n1411_a2_, c_eAs (c_gw g) n1411_a2_, c_ga g 1411 rfl rfl (by decide) m_a2_, c_eI (f := 1410) m_a2_ rfl, c_eIs (f := 1410) (c_gw g) m_a2_ rfl, true_and, Option.some.injEq, exists_eq_left', c_xm, c_xn, c_xs]
    refine um_X3_wrongPlace g _ a0 _ _ _ m_a0 h (fun x18_ S17_ h => ?_)
    refine ⟨_, rfl, ?_⟩
    try simp only [c_gk g m_a0 4 rfl, c_gk g m_a2_ 8 rfl, c_gk g m_a9_ 5 rfl, c_gr g n1411_a2_ 21 rfl, c_gN g n1411_a2_ 32 (by decide), c_eA n1411_a2_, c_eAs (c_gw g) n1411_a2_, c_ga g 1411 rfl rfl (by decide) m_a2_, c_eI (f := 1410) m_a2_ rfl, c_eIs (f := 1410) (c_gw g) m_a2_ rfl, true_and, Option.some.injEq, exists_eq_left', c_xm, c_xn, c_xs]
    refine ⟨fun hc => ?_, fun hc => ?_⟩
    · have h := h.1 hc
      exact ub_X3_store_104 g _ _  h hQ
    · have h := h.2 hc
      refine ⟨h.1, ?_⟩
      have h := h.2
      refine um_X4_put g _ a9_ _ _ _ m_a9_ h (fun S27_ h => ?_)
      refine ⟨rfl, ?_⟩
      try simp only [c_gk g m_a0 4 rfl, c_gk g m_a2_ 8 rfl, c_gk g m_a9_ 5 rfl, c_gr g n1411_a2_ 21 rfl, c_gN g n1411_a2_ 32 (by decide), c_eA n1411_a2_, c_eAs (c_gw g) n1411_a2_, c_ga g 1411 rfl rfl (by decide) m_a2_, c_eI (f := 1410) m_a2_ rfl, c_eIs (f := 1410) (c_gw g) m_a2_ rfl, true_and, Option.some.injEq, exists_eq_left', c_xm, c_xn, c_xs]
      exact ub_X3_store_104 g _ _  h hQ
  · have h := h.2 hc
    exact hQ _ _ h
