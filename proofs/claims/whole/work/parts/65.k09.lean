def kb_X6_inputAt_26 (L : c_L) (S : c_S) (rs0 : Option Nat) (Q : Option Nat → c_S → Prop) : Prop := Q rs0 S
set_option maxRecDepth 100000 in
set_option maxHeartbeats 4000000 in
theorem ub_X6_inputAt_26 {L : c_L} {T : q_S} (g : c_G L T) (S : c_S) (rs0 : Option Nat)  {Q1 : Option Nat → c_S → Prop} {Q : Option Value → q_S → Prop} (h : kb_X6_inputAt_26 L  S rs0 Q1) (hQ : ∀ (v : Option Nat) (K : c_S), Q1 v K → Q (some (va_rf (v.map (c_ob L 1)))) (c_E L K T)) : wb_X6_inputAt_26  (c_E L S T) (rs0.map (c_ob L 1)) Q := by
  unfold wb_X6_inputAt_26
  unfold kb_X6_inputAt_26 at h
  try simp only [true_and, Option.some.injEq, exists_eq_left', c_xm, c_xn, c_xs]
  exact hQ _ _ h
def kb_X6_inputAt_12 (L : c_L) (S : c_S) (Q : Option Nat → c_S → Prop) : Prop := kb_X6_inputAt_26 L S none Q
set_option maxRecDepth 100000 in
set_option maxHeartbeats 4000000 in
theorem ub_X6_inputAt_12 {L : c_L} {T : q_S} (g : c_G L T) (S : c_S)  {Q1 : Option Nat → c_S → Prop} {Q : Option Value → q_S → Prop} (h : kb_X6_inputAt_12 L  S Q1) (hQ : ∀ (v : Option Nat) (K : c_S), Q1 v K → Q (some (va_rf (v.map (c_ob L 1)))) (c_E L K T)) : wb_X6_inputAt_12  (c_E L S T) Q := by
  unfold wb_X6_inputAt_12
  unfold kb_X6_inputAt_12 at h
  try simp only [true_and, Option.some.injEq, exists_eq_left', c_xm, c_xn, c_xs]
  exact ub_X6_inputAt_26 g _ none  h hQ
def km_X6_inputAt (L : c_L) (S : c_S) (a0 : Nat) (x1 : Int32) (Q : Option Nat → c_S → Prop) : Prop := (x1 < 0 → (kb_X6_inputAt_12 L S Q)) ∧ (¬ x1 < 0 → ((x1 < (c_I S 1205 a0) → (vp_in x1 24 ∧ (km_X6_channelAt L S a0 (c_A S 1204 a0 x1.toNatClampNeg) (fun r10_ S9_ => (kb_X6_inputAt_26 L S9_ r10_ Q))))) ∧ (¬ x1 < (c_I S 1205 a0) → (kb_X6_inputAt_12 L S Q))))
set_option maxRecDepth 100000 in
set_option maxHeartbeats 4000000 in
theorem um_X6_inputAt {L : c_L} {T : q_S} (g : c_G L T) (S : c_S) (a0 : Nat) (x1 : Int32) (m_a0 : c_mk L 6 a0) {Q1 : Option Nat → c_S → Prop} {Q : Option Value → q_S → Prop} (h : km_X6_inputAt L  S a0 x1 Q1) (hQ : ∀ (v : Option Nat) (K : c_S), Q1 v K → Q (some (va_rf (v.map (c_ob L 1)))) (c_E L K T)) : wm_X6_inputAt  (c_E L S T) (c_ob L 6 a0) x1 Q := by
  unfold wm_X6_inputAt
  unfold km_X6_inputAt at h
  try simp only [c_gk g m_a0 7 rfl, c_eI (f := 1205) m_a0 rfl, true_and, Option.some.injEq, exists_eq_left', c_xm, c_xn, c_xs]
  refine ⟨fun hc => ?_, fun hc => ?_⟩
  · have h := h.1 hc
    exact ub_X6_inputAt_12 g _  h hQ
  · have h := h.2 hc
    refine ⟨fun hc => ?_, fun hc => ?_⟩
    · have h := h.1 hc
      have n1204_a0 := c_gA g 1204 rfl (by decide) m_a0
      try simp only [c_gk g m_a0 7 rfl, c_gr g n1204_a0 21 rfl, c_gN g n1204_a0 24 (by decide), c_eA n1204_a0, c_eAs (c_gw g) n1204_a0, c_ga g 1204 rfl rfl (by decide) m_a0, c_eI (f := 1205) m_a0 rfl, true_and, Option.some.injEq, exists_eq_left', c_xm, c_xn, c_xs]
      refine ⟨h.1, ?_⟩
      have h := h.2
      refine um_X6_channelAt g _ a0 _ m_a0 h (fun r10_ S9_ h => ?_)
      refine ⟨_, rfl, ?_⟩
      try simp only [c_gk g m_a0 7 rfl, c_gr g n1204_a0 21 rfl, c_gN g n1204_a0 24 (by decide), c_eA n1204_a0, c_eAs (c_gw g) n1204_a0, c_ga g 1204 rfl rfl (by decide) m_a0, c_eI (f := 1205) m_a0 rfl, true_and, Option.some.injEq, exists_eq_left', c_xm, c_xn, c_xs]
      exact ub_X6_inputAt_26 g _ r10_  h hQ
    · have h := h.2 hc
      exact ub_X6_inputAt_12 g _  h hQ
def kb_X6_partitionNow_20 (L : c_L) (S : c_S) (xs0 : Int32) (Q : Int32 → c_S → Prop) : Prop := Q xs0 S
set_option maxRecDepth 100000 in
set_option maxHeartbeats 4000000 in
theorem ub_X6_partitionNow_20 {L : c_L} {T : q_S} (g : c_G L T) (S : c_S) (xs0 : Int32)  {Q1 : Int32 → c_S → Prop} {Q : Option Value → q_S → Prop} (h : kb_X6_partitionNow_20 L  S xs0 Q1) (hQ : ∀ (v : Int32) (K : c_S), Q1 v K → Q (some (.int v)) (c_E L K T)) : wb_X6_partitionNow_20  (c_E L S T) xs0 Q := by
  unfold wb_X6_partitionNow_20
  unfold kb_X6_partitionNow_20 at h
  try simp only [true_and, Option.some.injEq, exists_eq_left', c_xm, c_xn, c_xs]
  exact hQ _ _ h
def km_X6_partitionNow (L : c_L) (S : c_S) (a0 : Nat) (Q : Int32 → c_S → Prop) : Prop := km_X6_windowNow L S a0 (fun x4_ S3_ => ((¬ x4_ = (-1 : Int32) → (vp_in x4_ 24 ∧ (kb_X6_partitionNow_20 L S3_ (c_A S3_ 1207 a0 x4_.toNatClampNeg) Q))) ∧ (x4_ = (-1 : Int32) → (kb_X6_partitionNow_20 L S3_ (-1 : Int32) Q))))
set_option maxRecDepth 100000 in
set_option maxHeartbeats 4000000 in
theorem um_X6_partitionNow {L : c_L} {T : q_S} (g : c_G L T) (S : c_S) (a0 : Nat) (m_a0 : c_mk L 6 a0) {Q1 : Int32 → c_S → Prop} {Q : Option Value → q_S → Prop} (h : km_X6_partitionNow L  S a0 Q1) (hQ : ∀ (v : Int32) (K : c_S), Q1 v K → Q (some (.int v)) (c_E L K T)) : wm_X6_partitionNow  (c_E L S T) (c_ob L 6 a0) Q := by
  unfold wm_X6_partitionNow
  unfold km_X6_partitionNow at h
  try simp only [c_gk g m_a0 7 rfl, true_and, Option.some.injEq, exists_eq_left', c_xm, c_xn, c_xs]
  refine um_X6_windowNow g _ a0 m_a0 h (fun x4_ S3_ h => ?_)
  refine ⟨_, rfl, ?_⟩
  try simp only [c_gk g m_a0 7 rfl, true_and, Option.some.injEq, exists_eq_left', c_xm, c_xn, c_xs]
  refine ⟨fun hc => ?_, fun hc => ?_⟩
  · have h := h.1 hc
    have n1207_a0 := c_gA g 1207 rfl (by decide) m_a0
    try simp only [c_gk g m_a0 7 rfl, c_gr g n1207_a0 21 rfl, c_gN g n1207_a0 24 (by decide), c_eA n1207_a0, c_eAs (c_gw g) n1207_a0, c_ga g 1207 rfl rfl (by decide) m_a0, true_and, Option.some.injEq, exists_eq_left', c_xm, c_xn, c_xs]
    refine ⟨h.1, ?_⟩
    have h := h.2
    exact ub_X6_partitionNow_20 g _ _  h hQ
  · have h := h.2 hc
    exact ub_X6_partitionNow_20 g _ _  h hQ
def kb_X6_takeInputs_58 (L : c_L) (B2 : c_S → Nat → Int32 → Prop) (S : c_S) (a0 : Nat) (x1 : Int32) (Q : c_S → Prop) : Prop := B2 S a0 (x1 + 1)
set_option maxRecDepth 100000 in
set_option maxHeartbeats 4000000 in
theorem ub_X6_takeInputs_58 {L : c_L} {T : q_S} (g : c_G L T) {OB2 : q_S → Nat → Int32 → Prop} {B2 : c_S → Nat → Int32 → Prop} (hB2 : ∀ (S1 : c_S) (a0 : Nat) (x1 : Int32), c_mk L 6 a0 → B2 S1 a0 x1 → OB2 (c_E L S1 T) (c_ob L 6 a0) x1) (S : c_S) (a0 : Nat) (x1 : Int32) (m_a0 : c_mk L 6 a0) {Q1 : c_S → Prop} {Q : Option Value → q_S → Prop} (h : kb_X6_takeInputs_58 L B2 S a0 x1 Q1) (hQ : ∀ K : c_S, Q1 K → Q none (c_E L K T)) : wb_X6_takeInputs_58 OB2 (c_E L S T) (c_ob L 6 a0) x1 Q := by
  unfold wb_X6_takeInputs_58
  unfold kb_X6_takeInputs_58 at h
  try simp only [c_gk g m_a0 7 rfl, true_and, Option.some.injEq, exists_eq_left', c_xm, c_xn, c_xs]
  exact hB2 _ a0 _ m_a0 h
def kb_X6_takeInputs_2 (L : c_L) (B2 : c_S → Nat → Int32 → Prop) (S : c_S) (a0 : Nat) (x1 : Int32) (Q : c_S → Prop) : Prop := ((c_I S 1205 a0) ≤ x1 → (Q S)) ∧ (¬ (c_I S 1205 a0) ≤ x1 → (vp_in x1 24 ∧ (km_X6_channelAt L S a0 (c_A S 1204 a0 x1.toNatClampNeg) (fun r9_ S8_ => ((r9_ = none → (kb_X6_takeInputs_58 L B2 S8_ a0 x1 Q)) ∧ (¬ r9_ = none → (∃ a12_ : Nat, r9_ = some a12_ ∧ (c_mk L 1 a12_ ∧ (km_X1_hasInputAt L S8_ a12_ (c_I S8_ 1211 a0) (fun x17_ S16_ => ((x17_ = 0 → (kb_X6_takeInputs_58 L B2 S16_ a0 x1 Q)) ∧ (¬ x17_ = 0 → (km_X1_nextInput L S16_ a12_ (fun x22_ S21_ => (km_X6_carry L S21_ a0 r9_ x22_ (fun x26_ S25_ => ((¬ x26_ = 0 → (kb_X6_takeInputs_58 L B2 S25_ a0 x1 Q)) ∧ (x26_ = 0 → (kb_X6_takeInputs_58 L B2 (cs_I S25_ 206 a12_ ((c_I S25_ 206 a12_) + (1 : Int32))) a0 x1 Q)))))))))))))))))))
set_option maxRecDepth 100000 in
set_option maxHeartbeats 4000000 in
theorem ub_X6_takeInputs_2 {L : c_L} {T : q_S} (g : c_G L T) {OB2 : q_S → Nat → Int32 → Prop} {B2 : c_S → Nat → Int32 → Prop} (hB2 : ∀ (S1 : c_S) (a0 : Nat) (x1 : Int32), c_mk L 6 a0 → B2 S1 a0 x1 → OB2 (c_E L S1 T) (c_ob L 6 a0) x1) (S : c_S) (a0 : Nat) (x1 : Int32) (m_a0 : c_mk L 6 a0) {Q1 : c_S → Prop} {Q : Option Value → q_S → Prop} (h : kb_X6_takeInputs_2 L B2 S a0 x1 Q1) (hQ : ∀ K : c_S, Q1 K → Q none (c_E L K T)) : wb_X6_takeInputs_2 OB2 (c_E L S T) (c_ob L 6 a0) x1 Q := by
  unfold wb_X6_takeInputs_2
  unfold kb_X6_takeInputs_2 at h
  try simp only [c_gk g m_a0 7 rfl, c_eI (f := 1205) m_a0 rfl, c_eI (f := 1211) m_a0 rfl, true_and, Option.some.injEq, exists_eq_left', c_xm, c_xn, c_xs]
  refine ⟨fun hc => ?_, fun hc => ?_⟩
  · have h := h.1 hc
    exact hQ _ h
  · have h := h.2 hc
    have n1204_a0 := c_gA g 1204 rfl (by decide) m_a0
    try simp only [c_gk g m_a0 7 rfl, c_gr g n1204_a0 21 rfl, c_gN g n1204_a0 24 (by decide), c_eA n1204_a0, c_eAs (c_gw g) n1204_a0, c_ga g 1204 rfl rfl (by decide) m_a0, c_eI (f := 1205) m_a0 rfl, c_eI (f := 1211) m_a0 rfl, true_and, Option.some.injEq, exists_eq_left', c_xm, c_xn, c_xs]
    refine ⟨h.1, ?_⟩
    have h := h.2
    refine um_X6_channelAt g _ a0 _ m_a0 h (fun r9_ S8_ h => ?_)
    refine ⟨_, rfl, ?_⟩
    try simp only [c_gk g m_a0 7 rfl, c_gr g n1204_a0 21 rfl, c_gN g n1204_a0 24 (by decide), c_eA n1204_a0, c_eAs (c_gw g) n1204_a0, c_ga g 1204 rfl rfl (by decide) m_a0, c_eI (f := 1205) m_a0 rfl, c_eI (f := 1211) m_a0 rfl, true_and, Option.some.injEq, exists_eq_left', c_xm, c_xn, c_xs]
    refine ⟨fun hc => ?_, fun hc => ?_⟩
    · have h := h.1 hc
      exact ub_X6_takeInputs_58 g hB2 _ a0 _ m_a0 h hQ
    · have h := h.2 hc
      obtain ⟨a12_, e_a12_, m_a12_, h⟩ := h
      refine ⟨a12_, e_a12_, ?_⟩
      try simp only [c_gk g m_a0 7 rfl, c_gk g m_a12_ 2 rfl, c_gr g n1204_a0 21 rfl, c_gN g n1204_a0 24 (by decide), c_eA n1204_a0, c_eAs (c_gw g) n1204_a0, c_ga g 1204 rfl rfl (by decide) m_a0, c_eI (f := 1205) m_a0 rfl, c_eI (f := 1211) m_a0 rfl, c_eI (f := 206) m_a12_ rfl, c_eIs (f := 206) (c_gw g) m_a12_ rfl, true_and, Option.some.injEq, exists_eq_left', c_xm, c_xn, c_xs]
      refine um_X1_hasInputAt g _ a12_ _ m_a12_ h (fun x17_ S16_ h => ?_)
      refine ⟨_, rfl, ?_⟩
      try simp only [c_gk g m_a0 7 rfl, c_gk g m_a12_ 2 rfl, c_gr g n1204_a0 21 rfl, c_gN g n1204_a0 24 (by decide), c_eA n1204_a0, c_eAs (c_gw g) n1204_a0, c_ga g 1204 rfl rfl (by decide) m_a0, c_eI (f := 1205) m_a0 rfl, c_eI (f := 1211) m_a0 rfl, c_eI (f := 206) m_a12_ rfl, c_eIs (f := 206) (c_gw g) m_a12_ rfl, true_and, Option.some.injEq, exists_eq_left', c_xm, c_xn, c_xs]
      refine ⟨fun hc => ?_, fun hc => ?_⟩
      · have h := h.1 hc
        exact ub_X6_takeInputs_58 g hB2 _ a0 _ m_a0 h hQ
      · have h := h.2 hc
        refine um_X1_nextInput g _ a12_ m_a12_ h (fun x22_ S21_ h => ?_)
        refine ⟨_, rfl, ?_⟩
        try simp only [c_gk g m_a0 7 rfl, c_gk g m_a12_ 2 rfl, c_gr g n1204_a0 21 rfl, c_gN g n1204_a0 24 (by decide), c_eA n1204_a0, c_eAs (c_gw g) n1204_a0, c_ga g 1204 rfl rfl (by decide) m_a0, c_eI (f := 1205) m_a0 rfl, c_eI (f := 1211) m_a0 rfl, c_eI (f := 206) m_a12_ rfl, c_eIs (f := 206) (c_gw g) m_a12_ rfl, true_and, Option.some.injEq, exists_eq_left', c_xm, c_xn, c_xs]
        refine um_X6_carry g _ a0 r9_ _ m_a0 h (fun x26_ S25_ h => ?_)
        refine ⟨_, rfl, ?_⟩
        try simp only [c_gk g m_a0 7 rfl, c_gk g m_a12_ 2 rfl, c_gr g n1204_a0 21 rfl, c_gN g n1204_a0 24 (by decide), c_eA n1204_a0, c_eAs (c_gw g) n1204_a0, c_ga g 1204 rfl rfl (by decide) m_a0, c_eI (f := 1205) m_a0 rfl, c_eI (f := 1211) m_a0 rfl, c_eI (f := 206) m_a12_ rfl, c_eIs (f := 206) (c_gw g) m_a12_ rfl, true_and, Option.some.injEq, exists_eq_left', c_xm, c_xn, c_xs]
        refine ⟨fun hc => ?_, fun hc => ?_⟩
        · have h := h.1 hc
          exact ub_X6_takeInputs_58 g hB2 _ a0 _ m_a0 h hQ
        · have h := h.2 hc
          exact ub_X6_takeInputs_58 g hB2 _ a0 _ m_a0 h hQ
def kl_X6_takeInputs_2 (L : c_L)  : Nat → c_S → Nat → Int32 → (c_S → Prop) → Prop
  | 0, _, _, _, _ => False
  | n + 1, S, a0, x1, Q => kb_X6_takeInputs_2 L (fun S a0 x1 => kl_X6_takeInputs_2 L n S a0 x1 Q) S a0 x1 Q
theorem ul_X6_takeInputs_2 {L : c_L} {T : q_S} (g : c_G L T) (n : Nat) (S : c_S) (a0 : Nat) (x1 : Int32) (m_a0 : c_mk L 6 a0) {Q1 : c_S → Prop} {Q : Option Value → q_S → Prop} (h : kl_X6_takeInputs_2 L  n S a0 x1 Q1) (hQ : ∀ K : c_S, Q1 K → Q none (c_E L K T)) : wl_X6_takeInputs_2  n (c_E L S T) (c_ob L 6 a0) x1 Q := by
  induction n generalizing S a0 x1 with
  | zero => exact h.elim
  | succ n ih => exact ub_X6_takeInputs_2 g (fun u0 u1 u2 w0 h => ih u0 u1 u2 w0 h) S a0 x1 m_a0 h hQ
def km_X6_takeInputs (L : c_L) (S : c_S) (a0 : Nat) (Q : c_S → Prop) : Prop := ∃ n29_ : Nat, kl_X6_takeInputs_2 L n29_ S a0 (0 : Int32) Q
set_option maxRecDepth 100000 in
set_option maxHeartbeats 4000000 in
theorem um_X6_takeInputs {L : c_L} {T : q_S} (g : c_G L T) (S : c_S) (a0 : Nat) (m_a0 : c_mk L 6 a0) {Q1 : c_S → Prop} {Q : Option Value → q_S → Prop} (h : km_X6_takeInputs L  S a0 Q1) (hQ : ∀ K : c_S, Q1 K → Q none (c_E L K T)) : wm_X6_takeInputs  (c_E L S T) (c_ob L 6 a0) Q := by
  unfold wm_X6_takeInputs
  unfold km_X6_takeInputs at h
  try simp only [c_gk g m_a0 7 rfl, true_and, Option.some.injEq, exists_eq_left', c_xm, c_xn, c_xs]
  obtain ⟨n29_, h⟩ := h
  refine ⟨n29_, ?_⟩
  exact ul_X6_takeInputs_2 g n29_ _ a0 _ m_a0 h hQ
def kb_X9_takeIn_22 (L : c_L) (S : c_S) (Q : Int32 → c_S → Prop) : Prop := Q (0 : Int32) S
set_option maxRecDepth 100000 in
set_option maxHeartbeats 4000000 in
theorem ub_X9_takeIn_22 {L : c_L} {T : q_S} (g : c_G L T) (S : c_S)  {Q1 : Int32 → c_S → Prop} {Q : Option Value → q_S → Prop} (h : kb_X9_takeIn_22 L  S Q1) (hQ : ∀ (v : Int32) (K : c_S), Q1 v K → Q (some (.int v)) (c_E L K T)) : wb_X9_takeIn_22  (c_E L S T) Q := by
  unfold wb_X9_takeIn_22
  unfold kb_X9_takeIn_22 at h
  try simp only [true_and, Option.some.injEq, exists_eq_left', c_xm, c_xn, c_xs]
  exact hQ _ _ h
def kb_X9_scanName_144 (L : c_L) (B104 : c_S → Nat → Int32 → Prop) (S : c_S) (a0 : Nat) (x1 : Int32) (Q : c_S → Prop) : Prop := B104 S a0 (x1 + 1)
set_option maxRecDepth 100000 in
set_option maxHeartbeats 4000000 in
theorem ub_X9_scanName_144 {L : c_L} {T : q_S} (g : c_G L T) {OB104 : q_S → Nat → Int32 → Prop} {B104 : c_S → Nat → Int32 → Prop} (hB104 : ∀ (S1 : c_S) (a0 : Nat) (x1 : Int32), c_mk L 9 a0 → B104 S1 a0 x1 → OB104 (c_E L S1 T) (c_ob L 9 a0) x1) (S : c_S) (a0 : Nat) (x1 : Int32) (m_a0 : c_mk L 9 a0) {Q1 : c_S → Prop} {Q : Option Value → q_S → Prop} (h : kb_X9_scanName_144 L B104 S a0 x1 Q1) (hQ : ∀ K : c_S, Q1 K → Q none (c_E L K T)) : wb_X9_scanName_144 OB104 (c_E L S T) (c_ob L 9 a0) x1 Q := by
  unfold wb_X9_scanName_144
  unfold kb_X9_scanName_144 at h
  try simp only [c_gk g m_a0 10 rfl, true_and, Option.some.injEq, exists_eq_left', c_xm, c_xn, c_xs]
  exact hB104 _ a0 _ m_a0 h
def kb_X9_scanName_141 (L : c_L) (B104 : c_S → Nat → Int32 → Prop) (S : c_S) (a0 : Nat) (x1 : Int32) (as0 : Nat) (xs1 : Int32) (Q : c_S → Prop) : Prop := kb_X9_scanName_144 L B104 (cs_I S 1808 as0 xs1) a0 x1 Q
set_option maxRecDepth 100000 in
set_option maxHeartbeats 4000000 in
theorem ub_X9_scanName_141 {L : c_L} {T : q_S} (g : c_G L T) {OB104 : q_S → Nat → Int32 → Prop} {B104 : c_S → Nat → Int32 → Prop} (hB104 : ∀ (S1 : c_S) (a0 : Nat) (x1 : Int32), c_mk L 9 a0 → B104 S1 a0 x1 → OB104 (c_E L S1 T) (c_ob L 9 a0) x1) (S : c_S) (a0 : Nat) (x1 : Int32) (as0 : Nat) (xs1 : Int32) (m_a0 : c_mk L 9 a0) (m_as0 : c_mk L 9 as0) {Q1 : c_S → Prop} {Q : Option Value → q_S → Prop} (h : kb_X9_scanName_141 L B104 S a0 x1 as0 xs1 Q1) (hQ : ∀ K : c_S, Q1 K → Q none (c_E L K T)) : wb_X9_scanName_141 OB104 (c_E L S T) (c_ob L 9 a0) x1 (c_ob L 9 as0) xs1 Q := by
  unfold wb_X9_scanName_141
  unfold kb_X9_scanName_141 at h
  try simp only [c_gk g m_a0 10 rfl, c_gk g m_as0 10 rfl, c_eIs (f := 1808) (c_gw g) m_a0 rfl, c_eIs (f := 1808) (c_gw g) m_as0 rfl, true_and, Option.some.injEq, exists_eq_left', c_xm, c_xn, c_xs]
  exact ub_X9_scanName_144 g hB104 _ a0 _ m_a0 h hQ
def kb_X9_scanName_104 (L : c_L) (B104 : c_S → Nat → Int32 → Prop) (S : c_S) (a0 : Nat) (x1 : Int32) (Q : c_S → Prop) : Prop := ((41 : Int32) ≤ x1 → (Q S)) ∧ (¬ (41 : Int32) ≤ x1 → (vp_in x1 41 ∧ ((¬ (lg_cmp (ck_keys x1.toNatClampNeg) (c_J S 1810 a0)) = 0 → (kb_X9_scanName_144 L B104 S a0 x1 Q)) ∧ ((lg_cmp (ck_keys x1.toNatClampNeg) (c_J S 1810 a0)) = 0 → (((30 : Int32) ≤ x1 → (kb_X9_scanName_141 L B104 (cs_I S 1809 a0 x1) a0 x1 a0 (2 : Int32) Q)) ∧ (¬ (30 : Int32) ≤ x1 → (kb_X9_scanName_141 L B104 (cs_I S 1809 a0 x1) a0 x1 a0 (5 : Int32) Q)))))))
set_option maxRecDepth 100000 in
set_option maxHeartbeats 4000000 in
theorem ub_X9_scanName_104 {L : c_L} {T : q_S} (g : c_G L T) {OB104 : q_S → Nat → Int32 → Prop} {B104 : c_S → Nat → Int32 → Prop} (hB104 : ∀ (S1 : c_S) (a0 : Nat) (x1 : Int32), c_mk L 9 a0 → B104 S1 a0 x1 → OB104 (c_E L S1 T) (c_ob L 9 a0) x1) (S : c_S) (a0 : Nat) (x1 : Int32) (m_a0 : c_mk L 9 a0) {Q1 : c_S → Prop} {Q : Option Value → q_S → Prop} (h : kb_X9_scanName_104 L B104 S a0 x1 Q1) (hQ : ∀ K : c_S, Q1 K → Q none (c_E L K T)) : wb_X9_scanName_104 OB104 (c_E L S T) (c_ob L 9 a0) x1 Q := by
  unfold wb_X9_scanName_104
  unfold kb_X9_scanName_104 at h
  try simp only [c_gk g m_a0 10 rfl, c_eJ (f := 1810) m_a0 rfl, c_eIs (f := 1809) (c_gw g) m_a0 rfl, true_and, Option.some.injEq, exists_eq_left', c_xm, c_xn, c_xs]
  refine ⟨fun hc => ?_, fun hc => ?_⟩
  · have h := h.1 hc
    exact hQ _ h
  · have h := h.2 hc
    have n1801_a0 := c_gA g 1801 rfl (by decide) m_a0
    try simp only [c_gk g m_a0 10 rfl, c_gr g n1801_a0 23 rfl, c_gN g n1801_a0 41 (by decide), c_gb g m_a0, c_ga g 1801 rfl rfl (by decide) m_a0, c_eJ (f := 1810) m_a0 rfl, c_eIs (f := 1809) (c_gw g) m_a0 rfl, true_and, Option.some.injEq, exists_eq_left', c_xm, c_xn, c_xs]
    refine ⟨h.1, ?_⟩
    have h := h.2
    refine ⟨fun hc => ?_, fun hc => ?_⟩
    · have h := h.1 hc
      exact ub_X9_scanName_144 g hB104 _ a0 _ m_a0 h hQ
    · have h := h.2 hc
      refine ⟨fun hc => ?_, fun hc => ?_⟩
      · have h := h.1 hc
        exact ub_X9_scanName_141 g hB104 _ a0 _ a0 _ m_a0 m_a0 h hQ
      · have h := h.2 hc
        exact ub_X9_scanName_141 g hB104 _ a0 _ a0 _ m_a0 m_a0 h hQ
def kl_X9_scanName_104 (L : c_L)  : Nat → c_S → Nat → Int32 → (c_S → Prop) → Prop
  | 0, _, _, _, _ => False
  | n + 1, S, a0, x1, Q => kb_X9_scanName_104 L (fun S a0 x1 => kl_X9_scanName_104 L n S a0 x1 Q) S a0 x1 Q
theorem ul_X9_scanName_104 {L : c_L} {T : q_S} (g : c_G L T) (n : Nat) (S : c_S) (a0 : Nat) (x1 : Int32) (m_a0 : c_mk L 9 a0) {Q1 : c_S → Prop} {Q : Option Value → q_S → Prop} (h : kl_X9_scanName_104 L  n S a0 x1 Q1) (hQ : ∀ K : c_S, Q1 K → Q none (c_E L K T)) : wl_X9_scanName_104  n (c_E L S T) (c_ob L 9 a0) x1 Q := by
  induction n generalizing S a0 x1 with
  | zero => exact h.elim
  | succ n ih => exact ub_X9_scanName_104 g (fun u0 u1 u2 w0 h => ih u0 u1 u2 w0 h) S a0 x1 m_a0 h hQ
def kb_X9_scanName_90 (L : c_L) (S : c_S) (a0 : Nat) (as0 : Nat) (xs1 : Int32) (Q : c_S → Prop) : Prop := (¬ (c_I (cs_I S 1808 as0 xs1) 1808 a0) = (1 : Int32) → (∃ n13_ : Nat, kl_X9_scanName_104 L n13_ (cs_I S 1808 as0 xs1) a0 (0 : Int32) Q)) ∧ ((c_I (cs_I S 1808 as0 xs1) 1808 a0) = (1 : Int32) → (Q (cs_I S 1808 as0 xs1)))
set_option maxRecDepth 100000 in
set_option maxHeartbeats 4000000 in
theorem ub_X9_scanName_90 {L : c_L} {T : q_S} (g : c_G L T) (S : c_S) (a0 : Nat) (as0 : Nat) (xs1 : Int32) (m_a0 : c_mk L 9 a0) (m_as0 : c_mk L 9 as0) {Q1 : c_S → Prop} {Q : Option Value → q_S → Prop} (h : kb_X9_scanName_90 L  S a0 as0 xs1 Q1) (hQ : ∀ K : c_S, Q1 K → Q none (c_E L K T)) : wb_X9_scanName_90  (c_E L S T) (c_ob L 9 a0) (c_ob L 9 as0) xs1 Q := by
  unfold wb_X9_scanName_90
  unfold kb_X9_scanName_90 at h
  try simp only [c_gk g m_a0 10 rfl, c_gk g m_as0 10 rfl, c_eI (f := 1808) m_a0 rfl, c_eIs (f := 1808) (c_gw g) m_a0 rfl, c_eI (f := 1808) m_as0 rfl, c_eIs (f := 1808) (c_gw g) m_as0 rfl, true_and, Option.some.injEq, exists_eq_left', c_xm, c_xn, c_xs]
  refine ⟨fun hc => ?_, fun hc => ?_⟩
  · have h := h.1 hc
    obtain ⟨n13_, h⟩ := h
    refine ⟨n13_, ?_⟩
    exact ul_X9_scanName_104 g n13_ _ a0 _ m_a0 h hQ
  · have h := h.2 hc
    exact hQ _ h
def kb_X9_scanName_70 (L : c_L) (S : c_S) (a0 : Nat) (Q : c_S → Prop) : Prop := (((c_I S 1807 a0) - (c_I S 1811 a0)) ≤ (12 : Int32) → (kb_X9_scanName_90 L S a0 a0 (2 : Int32) Q)) ∧ (¬ ((c_I S 1807 a0) - (c_I S 1811 a0)) ≤ (12 : Int32) → (kb_X9_scanName_90 L S a0 a0 (1 : Int32) Q))
set_option maxRecDepth 100000 in
set_option maxHeartbeats 4000000 in
theorem ub_X9_scanName_70 {L : c_L} {T : q_S} (g : c_G L T) (S : c_S) (a0 : Nat) (m_a0 : c_mk L 9 a0) {Q1 : c_S → Prop} {Q : Option Value → q_S → Prop} (h : kb_X9_scanName_70 L  S a0 Q1) (hQ : ∀ K : c_S, Q1 K → Q none (c_E L K T)) : wb_X9_scanName_70  (c_E L S T) (c_ob L 9 a0) Q := by
  unfold wb_X9_scanName_70
  unfold kb_X9_scanName_70 at h
  try simp only [c_gk g m_a0 10 rfl, c_eI (f := 1807) m_a0 rfl, c_eI (f := 1811) m_a0 rfl, true_and, Option.some.injEq, exists_eq_left', c_xm, c_xn, c_xs]
  refine ⟨fun hc => ?_, fun hc => ?_⟩
  · have h := h.1 hc
    exact ub_X9_scanName_90 g _ a0 a0 _ m_a0 m_a0 h hQ
  · have h := h.2 hc
    exact ub_X9_scanName_90 g _ a0 a0 _ m_a0 m_a0 h hQ
def kb_X9_scanName_5 (L : c_L) (B5 : c_S → Nat → Prop) (S : c_S) (a0 : Nat) (Q : c_S → Prop) : Prop := ((c_I S 1806 a0) ≤ (c_I S 1807 a0) → (kb_X9_scanName_70 L S a0 Q)) ∧ (¬ (c_I S 1806 a0) ≤ (c_I S 1807 a0) → (vp_in (c_I S 1807 a0) 4000 ∧ (km_X11_nameDigit L S (c_A S 1802 a0 (c_I S 1807 a0).toNatClampNeg) (fun x24_ S23_ => ((x24_ = 0 → (kb_X9_scanName_70 L S23_ a0 Q)) ∧ (¬ x24_ = 0 → (vp_in (c_I S23_ 1807 a0) 4000 ∧ (km_X11_nameDigit L S23_ (c_A S23_ 1802 a0 (c_I S23_ 1807 a0).toNatClampNeg) (fun x33_ S32_ => (∀ S35_ : c_S, S35_ = (cs_I (cs_J S32_ 1810 a0 (((c_J S23_ 1810 a0) * (37 : Int64)) + (x33_.toInt64))) 1807 a0 ((c_I (cs_J S32_ 1810 a0 (((c_J S23_ 1810 a0) * (37 : Int64)) + (x33_.toInt64))) 1807 a0) + (1 : Int32))) → (B5 S35_ a0)))))))))))
set_option maxRecDepth 100000 in
set_option maxHeartbeats 4000000 in
theorem ub_X9_scanName_5 {L : c_L} {T : q_S} (g : c_G L T) {OB5 : q_S → Nat → Prop} {B5 : c_S → Nat → Prop} (hB5 : ∀ (S1 : c_S) (a0 : Nat), c_mk L 9 a0 → B5 S1 a0 → OB5 (c_E L S1 T) (c_ob L 9 a0)) (S : c_S) (a0 : Nat) (m_a0 : c_mk L 9 a0) {Q1 : c_S → Prop} {Q : Option Value → q_S → Prop} (h : kb_X9_scanName_5 L B5 S a0 Q1) (hQ : ∀ K : c_S, Q1 K → Q none (c_E L K T)) : wb_X9_scanName_5 OB5 (c_E L S T) (c_ob L 9 a0) Q := by
  unfold wb_X9_scanName_5
  unfold kb_X9_scanName_5 at h
  try simp only [c_gk g m_a0 10 rfl, c_eI (f := 1806) m_a0 rfl, c_eI (f := 1807) m_a0 rfl, c_eJ (f := 1810) m_a0 rfl, c_eIs (f := 1807) (c_gw g) m_a0 rfl, c_eJs (f := 1810) (c_gw g) m_a0 rfl, true_and, Option.some.injEq, exists_eq_left', c_xm, c_xn, c_xs]
  refine ⟨fun hc => ?_, fun hc => ?_⟩
  · have h := h.1 hc
    exact ub_X9_scanName_70 g _ a0 m_a0 h hQ
  · have h := h.2 hc
    have n1802_a0 := c_gA g 1802 rfl (by decide) m_a0
    try simp only [c_gk g m_a0 10 rfl, c_gr g n1802_a0 20 rfl, c_gN g n1802_a0 4000 (by decide), c_eA n1802_a0, c_eAs (c_gw g) n1802_a0, c_ga g 1802 rfl rfl (by decide) m_a0, c_eI (f := 1806) m_a0 rfl, c_eI (f := 1807) m_a0 rfl, c_eJ (f := 1810) m_a0 rfl, c_eIs (f := 1807) (c_gw g) m_a0 rfl, c_eJs (f := 1810) (c_gw g) m_a0 rfl, true_and, Option.some.injEq, exists_eq_left', c_xm, c_xn, c_xs]
    refine ⟨h.1, ?_⟩
    have h := h.2
    refine um_X11_nameDigit g _ _  h (fun x24_ S23_ h => ?_)
    refine ⟨_, rfl, ?_⟩
    try simp only [c_gk g m_a0 10 rfl, c_gr g n1802_a0 20 rfl, c_gN g n1802_a0 4000 (by decide), c_eA n1802_a0, c_eAs (c_gw g) n1802_a0, c_ga g 1802 rfl rfl (by decide) m_a0, c_eI (f := 1806) m_a0 rfl, c_eI (f := 1807) m_a0 rfl, c_eJ (f := 1810) m_a0 rfl, c_eIs (f := 1807) (c_gw g) m_a0 rfl, c_eJs (f := 1810) (c_gw g) m_a0 rfl, true_and, Option.some.injEq, exists_eq_left', c_xm, c_xn, c_xs]
    refine ⟨fun hc => ?_, fun hc => ?_⟩
    · have h := h.1 hc
      exact ub_X9_scanName_70 g _ a0 m_a0 h hQ
    · have h := h.2 hc
      refine ⟨h.1, ?_⟩
      have h := h.2
      refine um_X11_nameDigit g _ _  h (fun x33_ S32_ h => ?_)
      refine ⟨_, rfl, ?_⟩
      try simp only [c_gk g m_a0 10 rfl, c_gr g n1802_a0 20 rfl, c_gN g n1802_a0 4000 (by decide), c_eA n1802_a0, c_eAs (c_gw g) n1802_a0, c_ga g 1802 rfl rfl (by decide) m_a0, c_eI (f := 1806) m_a0 rfl, c_eI (f := 1807) m_a0 rfl, c_eJ (f := 1810) m_a0 rfl, c_eIs (f := 1807) (c_gw g) m_a0 rfl, c_eJs (f := 1810) (c_gw g) m_a0 rfl, true_and, Option.some.injEq, exists_eq_left', c_xm, c_xn, c_xs]
      refine fun S35_ e_S35_ => ?_
      have h := h S35_ e_S35_
      exact hB5 _ a0 m_a0 h
def kl_X9_scanName_5 (L : c_L)  : Nat → c_S → Nat → (c_S → Prop) → Prop
  | 0, _, _, _ => False
  | n + 1, S, a0, Q => kb_X9_scanName_5 L (fun S a0 => kl_X9_scanName_5 L n S a0 Q) S a0 Q
theorem ul_X9_scanName_5 {L : c_L} {T : q_S} (g : c_G L T) (n : Nat) (S : c_S) (a0 : Nat) (m_a0 : c_mk L 9 a0) {Q1 : c_S → Prop} {Q : Option Value → q_S → Prop} (h : kl_X9_scanName_5 L  n S a0 Q1) (hQ : ∀ K : c_S, Q1 K → Q none (c_E L K T)) : wl_X9_scanName_5  n (c_E L S T) (c_ob L 9 a0) Q := by
  induction n generalizing S a0 with
  | zero => exact h.elim
  | succ n ih => exact ub_X9_scanName_5 g (fun u0 u1 w0 h => ih u0 u1 w0 h) S a0 m_a0 h hQ
def km_X9_scanName (L : c_L) (S : c_S) (a0 : Nat) (Q : c_S → Prop) : Prop := ∃ n37_ : Nat, kl_X9_scanName_5 L n37_ (cs_J S 1810 a0 (0 : Int64)) a0 Q
set_option maxRecDepth 100000 in
set_option maxHeartbeats 4000000 in
theorem um_X9_scanName {L : c_L} {T : q_S} (g : c_G L T) (S : c_S) (a0 : Nat) (m_a0 : c_mk L 9 a0) {Q1 : c_S → Prop} {Q : Option Value → q_S → Prop} (h : km_X9_scanName L  S a0 Q1) (hQ : ∀ K : c_S, Q1 K → Q none (c_E L K T)) : wm_X9_scanName  (c_E L S T) (c_ob L 9 a0) Q := by
  unfold wm_X9_scanName
  unfold km_X9_scanName at h
  try simp only [c_gk g m_a0 10 rfl, c_eJs (f := 1810) (c_gw g) m_a0 rfl, true_and, Option.some.injEq, exists_eq_left', c_xm, c_xn, c_xs]
  obtain ⟨n37_, h⟩ := h
  refine ⟨n37_, ?_⟩
  exact ul_X9_scanName_5 g n37_ _ a0 m_a0 h hQ
def kb_X9_scanNumber_86 (L : c_L) (B5 : c_S → Nat → Prop) (S : c_S) (a0 : Nat) (as0 : Nat) (xs1 : Int32) (Q : c_S → Prop) : Prop := ∀ S3_ : c_S, S3_ = (cs_I (cs_I S 1809 as0 xs1) 1807 a0 ((c_I (cs_I S 1809 as0 xs1) 1807 a0) + (1 : Int32))) → (B5 S3_ a0)
set_option maxRecDepth 100000 in
set_option maxHeartbeats 4000000 in
theorem ub_X9_scanNumber_86 {L : c_L} {T : q_S} (g : c_G L T) {OB5 : q_S → Nat → Prop} {B5 : c_S → Nat → Prop} (hB5 : ∀ (S1 : c_S) (a0 : Nat), c_mk L 9 a0 → B5 S1 a0 → OB5 (c_E L S1 T) (c_ob L 9 a0)) (S : c_S) (a0 : Nat) (as0 : Nat) (xs1 : Int32) (m_a0 : c_mk L 9 a0) (m_as0 : c_mk L 9 as0) {Q1 : c_S → Prop} {Q : Option Value → q_S → Prop} (h : kb_X9_scanNumber_86 L B5 S a0 as0 xs1 Q1) (hQ : ∀ K : c_S, Q1 K → Q none (c_E L K T)) : wb_X9_scanNumber_86 OB5 (c_E L S T) (c_ob L 9 a0) (c_ob L 9 as0) xs1 Q := by
  unfold wb_X9_scanNumber_86
  unfold kb_X9_scanNumber_86 at h
  try simp only [c_gk g m_a0 10 rfl, c_gk g m_as0 10 rfl, c_eI (f := 1807) m_a0 rfl, c_eIs (f := 1807) (c_gw g) m_a0 rfl, c_eIs (f := 1809) (c_gw g) m_a0 rfl, c_eI (f := 1807) m_as0 rfl, c_eIs (f := 1807) (c_gw g) m_as0 rfl, c_eIs (f := 1809) (c_gw g) m_as0 rfl, true_and, Option.some.injEq, exists_eq_left', c_xm, c_xn, c_xs]
  refine fun S3_ e_S3_ => ?_
  have h := h S3_ e_S3_
  exact hB5 _ a0 m_a0 h
def kb_X9_scanNumber_122 (L : c_L) (S : c_S) (as0 : Nat) (xs1 : Int32) (Q : c_S → Prop) : Prop := Q (cs_I S 1808 as0 xs1)
set_option maxRecDepth 100000 in
set_option maxHeartbeats 4000000 in
theorem ub_X9_scanNumber_122 {L : c_L} {T : q_S} (g : c_G L T) (S : c_S) (as0 : Nat) (xs1 : Int32) (m_as0 : c_mk L 9 as0) {Q1 : c_S → Prop} {Q : Option Value → q_S → Prop} (h : kb_X9_scanNumber_122 L  S as0 xs1 Q1) (hQ : ∀ K : c_S, Q1 K → Q none (c_E L K T)) : wb_X9_scanNumber_122  (c_E L S T) (c_ob L 9 as0) xs1 Q := by
  unfold wb_X9_scanNumber_122
  unfold kb_X9_scanNumber_122 at h
  try simp only [c_gk g m_as0 10 rfl, c_eIs (f := 1808) (c_gw g) m_as0 rfl, true_and, Option.some.injEq, exists_eq_left', c_xm, c_xn, c_xs]
  exact hQ _ h
def kb_X9_scanNumber_102 (L : c_L) (S : c_S) (a0 : Nat) (Q : c_S → Prop) : Prop := (((c_I S 1807 a0) - (c_I S 1811 a0)) ≤ (6 : Int32) → (kb_X9_scanNumber_122 L S a0 (3 : Int32) Q)) ∧ (¬ ((c_I S 1807 a0) - (c_I S 1811 a0)) ≤ (6 : Int32) → (kb_X9_scanNumber_122 L S a0 (1 : Int32) Q))
set_option maxRecDepth 100000 in
set_option maxHeartbeats 4000000 in
theorem ub_X9_scanNumber_102 {L : c_L} {T : q_S} (g : c_G L T) (S : c_S) (a0 : Nat) (m_a0 : c_mk L 9 a0) {Q1 : c_S → Prop} {Q : Option Value → q_S → Prop} (h : kb_X9_scanNumber_102 L  S a0 Q1) (hQ : ∀ K : c_S, Q1 K → Q none (c_E L K T)) : wb_X9_scanNumber_102  (c_E L S T) (c_ob L 9 a0) Q := by
  unfold wb_X9_scanNumber_102
  unfold kb_X9_scanNumber_102 at h
  try simp only [c_gk g m_a0 10 rfl, c_eI (f := 1807) m_a0 rfl, c_eI (f := 1811) m_a0 rfl, true_and, Option.some.injEq, exists_eq_left', c_xm, c_xn, c_xs]
  refine ⟨fun hc => ?_, fun hc => ?_⟩
  · have h := h.1 hc
    exact ub_X9_scanNumber_122 g _ a0 _ m_a0 h hQ
  · have h := h.2 hc
    exact ub_X9_scanNumber_122 g _ a0 _ m_a0 h hQ
def kb_X9_scanNumber_5 (L : c_L) (B5 : c_S → Nat → Prop) (S : c_S) (a0 : Nat) (Q : c_S → Prop) : Prop := ((c_I S 1806 a0) ≤ (c_I S 1807 a0) → (kb_X9_scanNumber_102 L S a0 Q)) ∧ (¬ (c_I S 1806 a0) ≤ (c_I S 1807 a0) → (vp_in (c_I S 1807 a0) 4000 ∧ (((c_A S 1802 a0 (c_I S 1807 a0).toNatClampNeg) < (48 : Int32) → (kb_X9_scanNumber_102 L S a0 Q)) ∧ (¬ (c_A S 1802 a0 (c_I S 1807 a0).toNatClampNeg) < (48 : Int32) → (vp_in (c_I S 1807 a0) 4000 ∧ (((57 : Int32) < (c_A S 1802 a0 (c_I S 1807 a0).toNatClampNeg) → (kb_X9_scanNumber_102 L S a0 Q)) ∧ (¬ (57 : Int32) < (c_A S 1802 a0 (c_I S 1807 a0).toNatClampNeg) → (((6 : Int32) ≤ ((c_I S 1807 a0) - (c_I S 1811 a0)) → (kb_X9_scanNumber_86 L B5 S a0 a0 (c_I S 1809 a0) Q)) ∧ (¬ (6 : Int32) ≤ ((c_I S 1807 a0) - (c_I S 1811 a0)) → (vp_in (c_I S 1807 a0) 4000 ∧ (kb_X9_scanNumber_86 L B5 S a0 a0 ((((c_I S 1809 a0) * (10 : Int32)) + (c_A S 1802 a0 (c_I S 1807 a0).toNatClampNeg)) - (48 : Int32)) Q)))))))))))
set_option maxRecDepth 100000 in
set_option maxHeartbeats 4000000 in
theorem ub_X9_scanNumber_5 {L : c_L} {T : q_S} (g : c_G L T) {OB5 : q_S → Nat → Prop} {B5 : c_S → Nat → Prop} (hB5 : ∀ (S1 : c_S) (a0 : Nat), c_mk L 9 a0 → B5 S1 a0 → OB5 (c_E L S1 T) (c_ob L 9 a0)) (S : c_S) (a0 : Nat) (m_a0 : c_mk L 9 a0) {Q1 : c_S → Prop} {Q : Option Value → q_S → Prop} (h : kb_X9_scanNumber_5 L B5 S a0 Q1) (hQ : ∀ K : c_S, Q1 K → Q none (c_E L K T)) : wb_X9_scanNumber_5 OB5 (c_E L S T) (c_ob L 9 a0) Q := by
  unfold wb_X9_scanNumber_5
  unfold kb_X9_scanNumber_5 at h
  try simp only [c_gk g m_a0 10 rfl, c_eI (f := 1806) m_a0 rfl, c_eI (f := 1807) m_a0 rfl, c_eI (f := 1809) m_a0 rfl, c_eI (f := 1811) m_a0 rfl, true_and, Option.some.injEq, exists_eq_left', c_xm, c_xn, c_xs]
  refine ⟨fun hc => ?_, fun hc => ?_⟩
  · have h := h.1 hc
    exact ub_X9_scanNumber_102 g _ a0 m_a0 h hQ
  · have h := h.2 hc
    have n1802_a0 := c_gA g 1802 rfl (by decide) m_a0
    try simp only [c_gk g m_a0 10 rfl, c_gr g n1802_a0 20 rfl, c_gN g n1802_a0 4000 (by decide), c_eA n1802_a0, c_eAs (c_gw g) n1802_a0, c_ga g 1802 rfl rfl (by decide) m_a0, c_eI (f := 1806) m_a0 rfl, c_eI (f := 1807) m_a0 rfl, c_eI (f := 1809) m_a0 rfl, c_eI (f := 1811) m_a0 rfl, true_and, Option.some.injEq, exists_eq_left', c_xm, c_xn, c_xs]
    refine ⟨h.1, ?_⟩
    have h := h.2
    refine ⟨fun hc => ?_, fun hc => ?_⟩
    · have h := h.1 hc
      exact ub_X9_scanNumber_102 g _ a0 m_a0 h hQ
    · have h := h.2 hc
      refine ⟨h.1, ?_⟩
      have h := h.2
      refine ⟨fun hc => ?_, fun hc => ?_⟩
      · have h := h.1 hc
        exact ub_X9_scanNumber_102 g _ a0 m_a0 h hQ
      · have h := h.2 hc
        refine ⟨fun hc => ?_, fun hc => ?_⟩
        · have h := h.1 hc
          exact ub_X9_scanNumber_86 g hB5 _ a0 a0 _ m_a0 m_a0 h hQ
        · have h := h.2 hc
          refine ⟨h.1, ?_⟩
          have h := h.2
          exact ub_X9_scanNumber_86 g hB5 _ a0 a0 _ m_a0 m_a0 h hQ
def kl_X9_scanNumber_5 (L : c_L)  : Nat → c_S → Nat → (c_S → Prop) → Prop
  | 0, _, _, _ => False
  | n + 1, S, a0, Q => kb_X9_scanNumber_5 L (fun S a0 => kl_X9_scanNumber_5 L n S a0 Q) S a0 Q
theorem ul_X9_scanNumber_5 {L : c_L} {T : q_S} (g : c_G L T) (n : Nat) (S : c_S) (a0 : Nat) (m_a0 : c_mk L 9 a0) {Q1 : c_S → Prop} {Q : Option Value → q_S → Prop} (h : kl_X9_scanNumber_5 L  n S a0 Q1) (hQ : ∀ K : c_S, Q1 K → Q none (c_E L K T)) : wl_X9_scanNumber_5  n (c_E L S T) (c_ob L 9 a0) Q := by
  induction n generalizing S a0 with
  | zero => exact h.elim
  | succ n ih => exact ub_X9_scanNumber_5 g (fun u0 u1 w0 h => ih u0 u1 w0 h) S a0 m_a0 h hQ
def km_X9_scanNumber (L : c_L) (S : c_S) (a0 : Nat) (Q : c_S → Prop) : Prop := ∃ n19_ : Nat, kl_X9_scanNumber_5 L n19_ (cs_I S 1809 a0 (0 : Int32)) a0 Q
set_option maxRecDepth 100000 in
set_option maxHeartbeats 4000000 in
theorem um_X9_scanNumber {L : c_L} {T : q_S} (g : c_G L T) (S : c_S) (a0 : Nat) (m_a0 : c_mk L 9 a0) {Q1 : c_S → Prop} {Q : Option Value → q_S → Prop} (h : km_X9_scanNumber L  S a0 Q1) (hQ : ∀ K : c_S, Q1 K → Q none (c_E L K T)) : wm_X9_scanNumber  (c_E L S T) (c_ob L 9 a0) Q := by
  unfold wm_X9_scanNumber
  unfold km_X9_scanNumber at h
  try simp only [c_gk g m_a0 10 rfl, c_eIs (f := 1809) (c_gw g) m_a0 rfl, true_and, Option.some.injEq, exists_eq_left', c_xm, c_xn, c_xs]
  obtain ⟨n19_, h⟩ := h
  refine ⟨n19_, ?_⟩
  exact ul_X9_scanNumber_5 g n19_ _ a0 m_a0 h hQ
def kb_X9_sees_21 (L : c_L) (S : c_S) (xs0 : Int32) (Q : Int32 → c_S → Prop) : Prop := narrow .boolean (.int xs0) = .int xs0 ∧ (Q xs0 S)
set_option maxRecDepth 100000 in
set_option maxHeartbeats 4000000 in
theorem ub_X9_sees_21 {L : c_L} {T : q_S} (g : c_G L T) (S : c_S) (xs0 : Int32)  {Q1 : Int32 → c_S → Prop} {Q : Option Value → q_S → Prop} (h : kb_X9_sees_21 L  S xs0 Q1) (hQ : ∀ (v : Int32) (K : c_S), Q1 v K → Q (some (.int v)) (c_E L K T)) : wb_X9_sees_21  (c_E L S T) xs0 Q := by
  unfold wb_X9_sees_21
  unfold kb_X9_sees_21 at h
  try simp only [true_and, Option.some.injEq, exists_eq_left', c_xm, c_xn, c_xs]
  refine ⟨h.1, ?_⟩
  have h := h.2
  exact hQ _ _ h
def kb_X9_sees_20 (L : c_L) (S : c_S) (Q : Int32 → c_S → Prop) : Prop := kb_X9_sees_21 L S (0 : Int32) Q
set_option maxRecDepth 100000 in
set_option maxHeartbeats 4000000 in
theorem ub_X9_sees_20 {L : c_L} {T : q_S} (g : c_G L T) (S : c_S)  {Q1 : Int32 → c_S → Prop} {Q : Option Value → q_S → Prop} (h : kb_X9_sees_20 L  S Q1) (hQ : ∀ (v : Int32) (K : c_S), Q1 v K → Q (some (.int v)) (c_E L K T)) : wb_X9_sees_20  (c_E L S T) Q := by
  unfold wb_X9_sees_20
  unfold kb_X9_sees_20 at h
  try simp only [true_and, Option.some.injEq, exists_eq_left', c_xm, c_xn, c_xs]
  exact ub_X9_sees_21 g _ _  h hQ
def km_X9_sees (L : c_L) (S : c_S) (a0 : Nat) (x1 : Int32) (Q : Int32 → c_S → Prop) : Prop := (¬ (c_I S 1808 a0) = (5 : Int32) → (kb_X9_sees_20 L S Q)) ∧ ((c_I S 1808 a0) = (5 : Int32) → ((¬ (c_I S 1809 a0) = x1 → (kb_X9_sees_20 L S Q)) ∧ ((c_I S 1809 a0) = x1 → (kb_X9_sees_21 L S (1 : Int32) Q))))
set_option maxRecDepth 100000 in
set_option maxHeartbeats 4000000 in
theorem um_X9_sees {L : c_L} {T : q_S} (g : c_G L T) (S : c_S) (a0 : Nat) (x1 : Int32) (m_a0 : c_mk L 9 a0) {Q1 : Int32 → c_S → Prop} {Q : Option Value → q_S → Prop} (h : km_X9_sees L  S a0 x1 Q1) (hQ : ∀ (v : Int32) (K : c_S), Q1 v K → Q (some (.int v)) (c_E L K T)) : wm_X9_sees  (c_E L S T) (c_ob L 9 a0) x1 Q := by
  unfold wm_X9_sees
  unfold km_X9_sees at h
  try simp only [c_gk g m_a0 10 rfl, c_eI (f := 1808) m_a0 rfl, c_eI (f := 1809) m_a0 rfl, true_and, Option.some.injEq, exists_eq_left', c_xm, c_xn, c_xs]
  refine ⟨fun hc => ?_, fun hc => ?_⟩
  · have h := h.1 hc
    exact ub_X9_sees_20 g _  h hQ
  · have h := h.2 hc
    refine ⟨fun hc => ?_, fun hc => ?_⟩
    · have h := h.1 hc
      exact ub_X9_sees_20 g _  h hQ
    · have h := h.2 hc
      exact ub_X9_sees_21 g _ _  h hQ
def kb_X9_seesSign_21 (L : c_L) (S : c_S) (xs0 : Int32) (Q : Int32 → c_S → Prop) : Prop := narrow .boolean (.int xs0) = .int xs0 ∧ (Q xs0 S)
set_option maxRecDepth 100000 in
set_option maxHeartbeats 4000000 in
theorem ub_X9_seesSign_21 {L : c_L} {T : q_S} (g : c_G L T) (S : c_S) (xs0 : Int32)  {Q1 : Int32 → c_S → Prop} {Q : Option Value → q_S → Prop} (h : kb_X9_seesSign_21 L  S xs0 Q1) (hQ : ∀ (v : Int32) (K : c_S), Q1 v K → Q (some (.int v)) (c_E L K T)) : wb_X9_seesSign_21  (c_E L S T) xs0 Q := by
  unfold wb_X9_seesSign_21
  unfold kb_X9_seesSign_21 at h
  try simp only [true_and, Option.some.injEq, exists_eq_left', c_xm, c_xn, c_xs]
  refine ⟨h.1, ?_⟩
  have h := h.2
  exact hQ _ _ h
def kb_X9_seesSign_20 (L : c_L) (S : c_S) (Q : Int32 → c_S → Prop) : Prop := kb_X9_seesSign_21 L S (0 : Int32) Q
set_option maxRecDepth 100000 in
set_option maxHeartbeats 4000000 in
theorem ub_X9_seesSign_20 {L : c_L} {T : q_S} (g : c_G L T) (S : c_S)  {Q1 : Int32 → c_S → Prop} {Q : Option Value → q_S → Prop} (h : kb_X9_seesSign_20 L  S Q1) (hQ : ∀ (v : Int32) (K : c_S), Q1 v K → Q (some (.int v)) (c_E L K T)) : wb_X9_seesSign_20  (c_E L S T) Q := by
  unfold wb_X9_seesSign_20
  unfold kb_X9_seesSign_20 at h
  try simp only [true_and, Option.some.injEq, exists_eq_left', c_xm, c_xn, c_xs]
  exact ub_X9_seesSign_21 g _ _  h hQ
def km_X9_seesSign (L : c_L) (S : c_S) (a0 : Nat) (x1 : Int32) (Q : Int32 → c_S → Prop) : Prop := (¬ (c_I S 1808 a0) = (4 : Int32) → (kb_X9_seesSign_20 L S Q)) ∧ ((c_I S 1808 a0) = (4 : Int32) → ((¬ (c_I S 1809 a0) = x1 → (kb_X9_seesSign_20 L S Q)) ∧ ((c_I S 1809 a0) = x1 → (kb_X9_seesSign_21 L S (1 : Int32) Q))))
set_option maxRecDepth 100000 in
set_option maxHeartbeats 4000000 in
theorem um_X9_seesSign {L : c_L} {T : q_S} (g : c_G L T) (S : c_S) (a0 : Nat) (x1 : Int32) (m_a0 : c_mk L 9 a0) {Q1 : Int32 → c_S → Prop} {Q : Option Value → q_S → Prop} (h : km_X9_seesSign L  S a0 x1 Q1) (hQ : ∀ (v : Int32) (K : c_S), Q1 v K → Q (some (.int v)) (c_E L K T)) : wm_X9_seesSign  (c_E L S T) (c_ob L 9 a0) x1 Q := by
  unfold wm_X9_seesSign
  unfold km_X9_seesSign at h
  try simp only [c_gk g m_a0 10 rfl, c_eI (f := 1808) m_a0 rfl, c_eI (f := 1809) m_a0 rfl, true_and, Option.some.injEq, exists_eq_left', c_xm, c_xn, c_xs]
  refine ⟨fun hc => ?_, fun hc => ?_⟩
  · have h := h.1 hc
    exact ub_X9_seesSign_20 g _  h hQ
  · have h := h.2 hc
    refine ⟨fun hc => ?_, fun hc => ?_⟩
    · have h := h.1 hc
      exact ub_X9_seesSign_20 g _  h hQ
    · have h := h.2 hc
      exact ub_X9_seesSign_21 g _ _  h hQ
def kb_X9_errorKind_26 (L : c_L) (S : c_S) (xs0 : Int32) (Q : Int32 → c_S → Prop) : Prop := (xs0.toInt < 30 ∨ 33 < xs0.toInt → (Q (-1 : Int32) S)) ∧ (xs0 = (30 : Int32) → (Q (0 : Int32) S)) ∧ (xs0 = (31 : Int32) → (Q (2 : Int32) S)) ∧ (xs0 = (32 : Int32) → (Q (3 : Int32) S)) ∧ (xs0 = (33 : Int32) → (Q (4 : Int32) S))
set_option maxRecDepth 100000 in
set_option maxHeartbeats 4000000 in
theorem ub_X9_errorKind_26 {L : c_L} {T : q_S} (g : c_G L T) (S : c_S) (xs0 : Int32)  {Q1 : Int32 → c_S → Prop} {Q : Option Value → q_S → Prop} (h : kb_X9_errorKind_26 L  S xs0 Q1) (hQ : ∀ (v : Int32) (K : c_S), Q1 v K → Q (some (.int v)) (c_E L K T)) : wb_X9_errorKind_26  (c_E L S T) xs0 Q := by
  unfold wb_X9_errorKind_26
  unfold kb_X9_errorKind_26 at h
  try simp only [true_and, Option.some.injEq, exists_eq_left', c_xm, c_xn, c_xs]
  refine ⟨fun hc => ?_, fun hc => ?_, fun hc => ?_, fun hc => ?_, fun hc => ?_⟩
  · have h := h.1 hc
    exact hQ _ _ h
  · have h := h.2.1 hc
    exact hQ _ _ h
  · have h := h.2.2.1 hc
    exact hQ _ _ h
  · have h := h.2.2.2.1 hc
    exact hQ _ _ h
  · have h := h.2.2.2.2 hc
    exact hQ _ _ h
def km_X9_errorKind (L : c_L) (S : c_S) (a0 : Nat) (Q : Int32 → c_S → Prop) : Prop := km_X9_sees L S a0 (1 : Int32) (fun x6_ S5_ => ((x6_ = 0 → ((¬ (c_I S5_ 1808 a0) = (2 : Int32) → (kb_X9_errorKind_26 L S5_ (-1 : Int32) Q)) ∧ ((c_I S5_ 1808 a0) = (2 : Int32) → (kb_X9_errorKind_26 L S5_ (c_I S5_ 1809 a0) Q)))) ∧ (¬ x6_ = 0 → (Q (1 : Int32) S5_))))
set_option maxRecDepth 100000 in
set_option maxHeartbeats 4000000 in
theorem um_X9_errorKind {L : c_L} {T : q_S} (g : c_G L T) (S : c_S) (a0 : Nat) (m_a0 : c_mk L 9 a0) {Q1 : Int32 → c_S → Prop} {Q : Option Value → q_S → Prop} (h : km_X9_errorKind L  S a0 Q1) (hQ : ∀ (v : Int32) (K : c_S), Q1 v K → Q (some (.int v)) (c_E L K T)) : wm_X9_errorKind  (c_E L S T) (c_ob L 9 a0) Q := by
  unfold wm_X9_errorKind
  unfold km_X9_errorKind at h
  try simp only [c_gk g m_a0 10 rfl, c_eI (f := 1808) m_a0 rfl, c_eI (f := 1809) m_a0 rfl, true_and, Option.some.injEq, exists_eq_left', c_xm, c_xn, c_xs]
  refine um_X9_sees g _ a0 _ m_a0 h (fun x6_ S5_ h => ?_)
  refine ⟨_, rfl, ?_⟩
  try simp only [c_gk g m_a0 10 rfl, c_eI (f := 1808) m_a0 rfl, c_eI (f := 1809) m_a0 rfl, true_and, Option.some.injEq, exists_eq_left', c_xm, c_xn, c_xs]
  refine ⟨fun hc => ?_, fun hc => ?_⟩
  · have h := h.1 hc
    refine ⟨fun hc => ?_, fun hc => ?_⟩
    · have h := h.1 hc
      exact ub_X9_errorKind_26 g _ _  h hQ
    · have h := h.2 hc
      exact ub_X9_errorKind_26 g _ _  h hQ
  · have h := h.2 hc
    exact hQ _ _ h
def kb_X11_putReady_37 (L : c_L) (B2 : c_S → Nat → Int32 → Int32 → Int32 → Prop) (S : c_S) (a0 : Nat) (x1 : Int32) (x2 : Int32) (x3 : Int32) (Q : c_S → Prop) : Prop := B2 S a0 x1 x2 (x3 + 1)
set_option maxRecDepth 100000 in
set_option maxHeartbeats 4000000 in
theorem ub_X11_putReady_37 {L : c_L} {T : q_S} (g : c_G L T) {OB2 : q_S → Nat → Int32 → Int32 → Int32 → Prop} {B2 : c_S → Nat → Int32 → Int32 → Int32 → Prop} (hB2 : ∀ (S1 : c_S) (a0 : Nat) (x1 : Int32) (x2 : Int32) (x3 : Int32), c_mk L 11 a0 → B2 S1 a0 x1 x2 x3 → OB2 (c_E L S1 T) (c_ob L 11 a0) x1 x2 x3) (S : c_S) (a0 : Nat) (x1 : Int32) (x2 : Int32) (x3 : Int32) (m_a0 : c_mk L 11 a0) {Q1 : c_S → Prop} {Q : Option Value → q_S → Prop} (h : kb_X11_putReady_37 L B2 S a0 x1 x2 x3 Q1) (hQ : ∀ K : c_S, Q1 K → Q none (c_E L K T)) : wb_X11_putReady_37 OB2 (c_E L S T) (c_ob L 11 a0) x1 x2 x3 Q := by
  unfold wb_X11_putReady_37
  unfold kb_X11_putReady_37 at h
  try simp only [c_gk g m_a0 12 rfl, true_and, Option.some.injEq, exists_eq_left', c_xm, c_xn, c_xs]
  exact hB2 _ a0 _ _ _ m_a0 h
def kb_X11_putReady_2 (L : c_L) (B2 : c_S → Nat → Int32 → Int32 → Int32 → Prop) (S : c_S) (a0 : Nat) (x1 : Int32) (x2 : Int32) (x3 : Int32) (Q : c_S → Prop) : Prop := ((4 : Int32) ≤ x3 → (Q S)) ∧ (¬ (4 : Int32) ≤ x3 → ((x1 < 0 → (kb_X11_putReady_37 L B2 S a0 x1 x2 x3 Q)) ∧ (¬ x1 < 0 → (((20 : Int32) ≤ (x1 + x3) → (kb_X11_putReady_37 L B2 S a0 x1 x2 x3 Q)) ∧ (¬ (20 : Int32) ≤ (x1 + x3) → (vp_in (x1 + x3) 20 ∧ (kb_X11_putReady_37 L B2 (cs_A S 2204 a0 (x1 + x3).toNatClampNeg (vp_nar .byte ((x2 >>> (((24 : Int32) - ((8 : Int32) * x3)) &&& 31)).toInt8.toInt32))) a0 x1 x2 x3 Q)))))))
set_option maxRecDepth 100000 in
set_option maxHeartbeats 4000000 in
theorem ub_X11_putReady_2 {L : c_L} {T : q_S} (g : c_G L T) {OB2 : q_S → Nat → Int32 → Int32 → Int32 → Prop} {B2 : c_S → Nat → Int32 → Int32 → Int32 → Prop} (hB2 : ∀ (S1 : c_S) (a0 : Nat) (x1 : Int32) (x2 : Int32) (x3 : Int32), c_mk L 11 a0 → B2 S1 a0 x1 x2 x3 → OB2 (c_E L S1 T) (c_ob L 11 a0) x1 x2 x3) (S : c_S) (a0 : Nat) (x1 : Int32) (x2 : Int32) (x3 : Int32) (m_a0 : c_mk L 11 a0) {Q1 : c_S → Prop} {Q : Option Value → q_S → Prop} (h : kb_X11_putReady_2 L B2 S a0 x1 x2 x3 Q1) (hQ : ∀ K : c_S, Q1 K → Q none (c_E L K T)) : wb_X11_putReady_2 OB2 (c_E L S T) (c_ob L 11 a0) x1 x2 x3 Q := by
  unfold wb_X11_putReady_2
  unfold kb_X11_putReady_2 at h
  try simp only [c_gk g m_a0 12 rfl, true_and, Option.some.injEq, exists_eq_left', c_xm, c_xn, c_xs]
  refine ⟨fun hc => ?_, fun hc => ?_⟩
  · have h := h.1 hc
    exact hQ _ h
  · have h := h.2 hc
    refine ⟨fun hc => ?_, fun hc => ?_⟩
    · have h := h.1 hc
      exact ub_X11_putReady_37 g hB2 _ a0 _ _ _ m_a0 h hQ
    · have h := h.2 hc
      refine ⟨fun hc => ?_, fun hc => ?_⟩
      · have h := h.1 hc
        exact ub_X11_putReady_37 g hB2 _ a0 _ _ _ m_a0 h hQ
      · have h := h.2 hc
        have n2204_a0 := c_gA g 2204 rfl (by decide) m_a0
        try simp only [c_gk g m_a0 12 rfl, c_gr g n2204_a0 20 rfl, c_gN g n2204_a0 20 (by decide), c_eA n2204_a0, c_eAs (c_gw g) n2204_a0, c_ga g 2204 rfl rfl (by decide) m_a0, true_and, Option.some.injEq, exists_eq_left', c_xm, c_xn, c_xs]
        refine ⟨h.1, ?_⟩
        have h := h.2
        exact ub_X11_putReady_37 g hB2 _ a0 _ _ _ m_a0 h hQ
def kl_X11_putReady_2 (L : c_L)  : Nat → c_S → Nat → Int32 → Int32 → Int32 → (c_S → Prop) → Prop
  | 0, _, _, _, _, _, _ => False
  | n + 1, S, a0, x1, x2, x3, Q => kb_X11_putReady_2 L (fun S a0 x1 x2 x3 => kl_X11_putReady_2 L n S a0 x1 x2 x3 Q) S a0 x1 x2 x3 Q
theorem ul_X11_putReady_2 {L : c_L} {T : q_S} (g : c_G L T) (n : Nat) (S : c_S) (a0 : Nat) (x1 : Int32) (x2 : Int32) (x3 : Int32) (m_a0 : c_mk L 11 a0) {Q1 : c_S → Prop} {Q : Option Value → q_S → Prop} (h : kl_X11_putReady_2 L  n S a0 x1 x2 x3 Q1) (hQ : ∀ K : c_S, Q1 K → Q none (c_E L K T)) : wl_X11_putReady_2  n (c_E L S T) (c_ob L 11 a0) x1 x2 x3 Q := by
  induction n generalizing S a0 x1 x2 x3 with
  | zero => exact h.elim
  | succ n ih => exact ub_X11_putReady_2 g (fun u0 u1 u2 u3 u4 w0 h => ih u0 u1 u2 u3 u4 w0 h) S a0 x1 x2 x3 m_a0 h hQ
def km_X11_putReady (L : c_L) (S : c_S) (a0 : Nat) (x1 : Int32) (x2 : Int32) (Q : c_S → Prop) : Prop := ∃ n9_ : Nat, kl_X11_putReady_2 L n9_ S a0 x1 x2 (0 : Int32) Q
set_option maxRecDepth 100000 in
set_option maxHeartbeats 4000000 in
theorem um_X11_putReady {L : c_L} {T : q_S} (g : c_G L T) (S : c_S) (a0 : Nat) (x1 : Int32) (x2 : Int32) (m_a0 : c_mk L 11 a0) {Q1 : c_S → Prop} {Q : Option Value → q_S → Prop} (h : km_X11_putReady L  S a0 x1 x2 Q1) (hQ : ∀ K : c_S, Q1 K → Q none (c_E L K T)) : wm_X11_putReady  (c_E L S T) (c_ob L 11 a0) x1 x2 Q := by
  unfold wm_X11_putReady
  unfold km_X11_putReady at h
  try simp only [c_gk g m_a0 12 rfl, true_and, Option.some.injEq, exists_eq_left', c_xm, c_xn, c_xs]
  obtain ⟨n9_, h⟩ := h
  refine ⟨n9_, ?_⟩
  exact ul_X11_putReady_2 g n9_ _ a0 _ _ _ m_a0 h hQ
def km_X11_feed (L : c_L) (S : c_S) (a0 : Nat) (x1 : Int32) (x2 : Int32) (x3 : Int32) (x4 : Int32) (x5 : Int32) (Q : c_S → Prop) : Prop := km_X11_putReady L S a0 (0 : Int32) x1 (fun S3_ => (km_X11_putReady L S3_ a0 (4 : Int32) x2 (fun S6_ => (km_X11_putReady L S6_ a0 (8 : Int32) x3 (fun S9_ => (km_X11_putReady L S9_ a0 (12 : Int32) x4 (fun S12_ => (km_X11_putReady L S12_ a0 (16 : Int32) x5 (fun S15_ => (Q S15_))))))))))
set_option maxRecDepth 100000 in
set_option maxHeartbeats 4000000 in
theorem um_X11_feed {L : c_L} {T : q_S} (g : c_G L T) (S : c_S) (a0 : Nat) (x1 : Int32) (x2 : Int32) (x3 : Int32) (x4 : Int32) (x5 : Int32) (m_a0 : c_mk L 11 a0) {Q1 : c_S → Prop} {Q : Option Value → q_S → Prop} (h : km_X11_feed L  S a0 x1 x2 x3 x4 x5 Q1) (hQ : ∀ K : c_S, Q1 K → Q none (c_E L K T)) : wm_X11_feed  (c_E L S T) (c_ob L 11 a0) x1 x2 x3 x4 x5 Q := by
  unfold wm_X11_feed
  unfold km_X11_feed at h
  try simp only [c_gk g m_a0 12 rfl, true_and, Option.some.injEq, exists_eq_left', c_xm, c_xn, c_xs]
  refine um_X11_putReady g _ a0 _ _ m_a0 h (fun S3_ h => ?_)
  refine ⟨rfl, ?_⟩
  try simp only [c_gk g m_a0 12 rfl, true_and, Option.some.injEq, exists_eq_left', c_xm, c_xn, c_xs]
  refine um_X11_putReady g _ a0 _ _ m_a0 h (fun S6_ h => ?_)
  refine ⟨rfl, ?_⟩
  try simp only [c_gk g m_a0 12 rfl, true_and, Option.some.injEq, exists_eq_left', c_xm, c_xn, c_xs]
  refine um_X11_putReady g _ a0 _ _ m_a0 h (fun S9_ h => ?_)
  refine ⟨rfl, ?_⟩
  try simp only [c_gk g m_a0 12 rfl, true_and, Option.some.injEq, exists_eq_left', c_xm, c_xn, c_xs]
  refine um_X11_putReady g _ a0 _ _ m_a0 h (fun S12_ h => ?_)
  refine ⟨rfl, ?_⟩
  try simp only [c_gk g m_a0 12 rfl, true_and, Option.some.injEq, exists_eq_left', c_xm, c_xn, c_xs]
  refine um_X11_putReady g _ a0 _ _ m_a0 h (fun S15_ h => ?_)
  refine ⟨rfl, ?_⟩
  try simp only [c_gk g m_a0 12 rfl, true_and, Option.some.injEq, exists_eq_left', c_xm, c_xn, c_xs]
  exact hQ _ h
def kb_X11_end_25 (L : c_L) (S : c_S) (Q : Int32 → c_S → Prop) : Prop := Q (-1 : Int32) S
set_option maxRecDepth 100000 in
set_option maxHeartbeats 4000000 in
theorem ub_X11_end_25 {L : c_L} {T : q_S} (g : c_G L T) (S : c_S)  {Q1 : Int32 → c_S → Prop} {Q : Option Value → q_S → Prop} (h : kb_X11_end_25 L  S Q1) (hQ : ∀ (v : Int32) (K : c_S), Q1 v K → Q (some (.int v)) (c_E L K T)) : wb_X11_end_25  (c_E L S T) Q := by
  unfold wb_X11_end_25
  unfold kb_X11_end_25 at h
  try simp only [true_and, Option.some.injEq, exists_eq_left', c_xm, c_xn, c_xs]
  exact hQ _ _ h
def kb_X11_fault_28 (L : c_L) (S : c_S) (xs0 : Int32) (Q : Int32 → c_S → Prop) : Prop := Q xs0 S
set_option maxRecDepth 100000 in
set_option maxHeartbeats 4000000 in
theorem ub_X11_fault_28 {L : c_L} {T : q_S} (g : c_G L T) (S : c_S) (xs0 : Int32)  {Q1 : Int32 → c_S → Prop} {Q : Option Value → q_S → Prop} (h : kb_X11_fault_28 L  S xs0 Q1) (hQ : ∀ (v : Int32) (K : c_S), Q1 v K → Q (some (.int v)) (c_E L K T)) : wb_X11_fault_28  (c_E L S T) xs0 Q := by
  unfold wb_X11_fault_28
  unfold kb_X11_fault_28 at h
  try simp only [true_and, Option.some.injEq, exists_eq_left', c_xm, c_xn, c_xs]
  exact hQ _ _ h
def km_X11_fault (L : c_L) (S : c_S) (a0 : Nat) (x1 : Int32) (Q : Int32 → c_S → Prop) : Prop := (¬ x1 = 0 → ((¬ x1 = (1 : Int32) → (kb_X11_fault_28 L S (-1 : Int32) Q)) ∧ (x1 = (1 : Int32) → (kb_X11_fault_28 L S (c_I S 1805 a0) Q)))) ∧ (x1 = 0 → (Q (c_I S 1804 a0) S))
set_option maxRecDepth 100000 in
set_option maxHeartbeats 4000000 in
theorem um_X11_fault {L : c_L} {T : q_S} (g : c_G L T) (S : c_S) (a0 : Nat) (x1 : Int32) (m_a0 : c_mk L 11 a0) {Q1 : Int32 → c_S → Prop} {Q : Option Value → q_S → Prop} (h : km_X11_fault L  S a0 x1 Q1) (hQ : ∀ (v : Int32) (K : c_S), Q1 v K → Q (some (.int v)) (c_E L K T)) : wm_X11_fault  (c_E L S T) (c_ob L 11 a0) x1 Q := by
  unfold wm_X11_fault
  unfold km_X11_fault at h
  try simp only [c_gk g m_a0 12 rfl, true_and, Option.some.injEq, exists_eq_left', c_xm, c_xn, c_xs]
  refine ⟨fun hc => ?_, fun hc => ?_⟩
  · have h := h.1 hc
    refine ⟨fun hc => ?_, fun hc => ?_⟩
    · have h := h.1 hc
      exact ub_X11_fault_28 g _ _  h hQ
    · have h := h.2 hc
      have n2200_a0 := c_gO g 2200 9 rfl (by decide) m_a0
      try simp only [c_gk g m_a0 12 rfl, c_gk g n2200_a0 10 rfl, c_gp g 2200 9 rfl rfl (by decide) m_a0, c_eI (f := 1804) n2200_a0 rfl, c_eI (f := 1805) n2200_a0 rfl, true_and, Option.some.injEq, exists_eq_left', c_xm, c_xn, c_xs]
      exact ub_X11_fault_28 g _ _  h hQ
  · have h := h.2 hc
    have n2200_a0 := c_gO g 2200 9 rfl (by decide) m_a0
    try simp only [c_gk g m_a0 12 rfl, c_gk g n2200_a0 10 rfl, c_gp g 2200 9 rfl rfl (by decide) m_a0, c_eI (f := 1804) n2200_a0 rfl, c_eI (f := 1805) n2200_a0 rfl, true_and, Option.some.injEq, exists_eq_left', c_xm, c_xn, c_xs]
    exact hQ _ _ h
def kb_X11_goWrong_176 (L : c_L) (S : c_S) (x5 : Int32) (Q : Int32 → c_S → Prop) : Prop := Q x5 S
set_option maxRecDepth 100000 in
set_option maxHeartbeats 4000000 in
theorem ub_X11_goWrong_176 {L : c_L} {T : q_S} (g : c_G L T) (S : c_S) (x5 : Int32)  {Q1 : Int32 → c_S → Prop} {Q : Option Value → q_S → Prop} (h : kb_X11_goWrong_176 L  S x5 Q1) (hQ : ∀ (v : Int32) (K : c_S), Q1 v K → Q (some (.int v)) (c_E L K T)) : wb_X11_goWrong_176  (c_E L S T) x5 Q := by
  unfold wb_X11_goWrong_176
  unfold kb_X11_goWrong_176 at h
  try simp only [true_and, Option.some.injEq, exists_eq_left', c_xm, c_xn, c_xs]
  exact hQ _ _ h
def kb_X11_goWrong_122 (L : c_L) (S : c_S) (a0 : Nat) (x5 : Int32) (rs0 : Option Nat) (xs1 : Int32) (Q : Int32 → c_S → Prop) : Prop := ∃ a5_ : Nat, rs0 = some a5_ ∧ (c_mk L 5 a5_ ∧ (km_X5_beginAnew L S a5_ xs1 (3 : Int32) (c_I S 1211 a0) (fun S9_ => (kb_X11_goWrong_176 L S9_ x5 Q))))
set_option maxRecDepth 100000 in
set_option maxHeartbeats 4000000 in
theorem ub_X11_goWrong_122 {L : c_L} {T : q_S} (g : c_G L T) (S : c_S) (a0 : Nat) (x5 : Int32) (rs0 : Option Nat) (xs1 : Int32) (m_a0 : c_mk L 11 a0) {Q1 : Int32 → c_S → Prop} {Q : Option Value → q_S → Prop} (h : kb_X11_goWrong_122 L  S a0 x5 rs0 xs1 Q1) (hQ : ∀ (v : Int32) (K : c_S), Q1 v K → Q (some (.int v)) (c_E L K T)) : wb_X11_goWrong_122  (c_E L S T) (c_ob L 11 a0) x5 (rs0.map (c_ob L 5)) xs1 Q := by
  unfold wb_X11_goWrong_122
  unfold kb_X11_goWrong_122 at h
  try simp only [c_gk g m_a0 12 rfl, true_and, Option.some.injEq, exists_eq_left', c_xm, c_xn, c_xs]
  have n2201_a0 := c_gO g 2201 6 rfl (by decide) m_a0
  try simp only [c_gk g m_a0 12 rfl, c_gk g n2201_a0 7 rfl, c_gp g 2201 6 rfl rfl (by decide) m_a0, c_eI (f := 1211) n2201_a0 rfl, true_and, Option.some.injEq, exists_eq_left', c_xm, c_xn, c_xs]
  obtain ⟨a5_, e_a5_, m_a5_, h⟩ := h
  refine ⟨a5_, e_a5_, ?_⟩
  try simp only [c_gk g m_a0 12 rfl, c_gk g n2201_a0 7 rfl, c_gk g m_a5_ 6 rfl, c_gp g 2201 6 rfl rfl (by decide) m_a0, c_eI (f := 1211) n2201_a0 rfl, true_and, Option.some.injEq, exists_eq_left', c_xm, c_xn, c_xs]
  refine um_X5_beginAnew g _ a5_ _ _ _ m_a5_ h (fun S9_ h => ?_)
  refine ⟨rfl, ?_⟩
  try simp only [c_gk g m_a0 12 rfl, c_gk g n2201_a0 7 rfl, c_gk g m_a5_ 6 rfl, c_gp g 2201 6 rfl rfl (by decide) m_a0, c_eI (f := 1211) n2201_a0 rfl, true_and, Option.some.injEq, exists_eq_left', c_xm, c_xn, c_xs]
  exact ub_X11_goWrong_176 g _ _  h hQ
def km_X11_goWrong (L : c_L) (S : c_S) (a0 : Nat) (r1 : Option Nat) (r2 : Option Nat) (x3 : Int32) (x4 : Int32) (Q : Int32 → c_S → Prop) : Prop := ∃ a10_ : Nat, r1 = some a10_ ∧ (c_mk L 5 a10_ ∧ (km_X5_actionFor L S a10_ r2 x3 (fun x15_ S14_ => (∃ a21_ : Nat, r2 = some a21_ ∧ (c_mk L 7 a21_ ∧ (km_X2_note L S14_ a0 (c_I S14_ 1211 a0) (c_I S14_ 1000 a10_) (c_I S14_ 1400 a21_) x3 x15_ x4 (fun S28_ => ((x15_.toInt < 1 ∨ 6 < x15_.toInt → ((x3 = (2 : Int32) → (kb_X11_goWrong_176 L S28_ x15_ Q)) ∧ (¬ x3 = (2 : Int32) → (kb_X11_goWrong_176 L (cs_I S28_ 1410 a21_ ((c_I S28_ 1410 a21_) + (4 : Int32))) x15_ Q)))) ∧ (x15_ = (1 : Int32) → (km_X5_rest L S28_ a10_ r2 (fun S33_ => (kb_X11_goWrong_176 L S33_ x15_ Q)))) ∧ (x15_ = (2 : Int32) → (km_X5_start L S28_ a10_ r2 (c_I S28_ 1211 a0) (c_I S28_ 1211 a0) (fun S40_ => (kb_X11_goWrong_176 L S40_ x15_ Q)))) ∧ (x15_ = (3 : Int32) ∨ x15_ = (4 : Int32) → ((¬ x15_ = (4 : Int32) → (kb_X11_goWrong_122 L S28_ a0 x15_ r1 (0 : Int32) Q)) ∧ (x15_ = (4 : Int32) → (kb_X11_goWrong_122 L S28_ a0 x15_ r1 (1 : Int32) Q)))) ∧ (x15_ = (5 : Int32) → (km_X5_goIdle L S28_ a10_ (fun S44_ => (kb_X11_goWrong_176 L S44_ x15_ Q)))) ∧ (x15_ = (6 : Int32) → (km_X5_handOver L S28_ a10_ r2 x3 x4 (c_I S28_ 1211 a0) (fun S51_ => (kb_X11_goWrong_176 L S51_ x15_ Q))))))))))))
set_option maxRecDepth 100000 in
set_option maxHeartbeats 4000000 in
theorem um_X11_goWrong {L : c_L} {T : q_S} (g : c_G L T) (S : c_S) (a0 : Nat) (r1 : Option Nat) (r2 : Option Nat) (x3 : Int32) (x4 : Int32) (m_a0 : c_mk L 11 a0) {Q1 : Int32 → c_S → Prop} {Q : Option Value → q_S → Prop} (h : km_X11_goWrong L  S a0 r1 r2 x3 x4 Q1) (hQ : ∀ (v : Int32) (K : c_S), Q1 v K → Q (some (.int v)) (c_E L K T)) : wm_X11_goWrong  (c_E L S T) (c_ob L 11 a0) (r1.map (c_ob L 5)) (r2.map (c_ob L 7)) x3 x4 Q := by
  unfold wm_X11_goWrong
  unfold km_X11_goWrong at h
  try simp only [c_gk g m_a0 12 rfl, true_and, Option.some.injEq, exists_eq_left', c_xm, c_xn, c_xs]
  obtain ⟨a10_, e_a10_, m_a10_, h⟩ := h
  refine ⟨a10_, e_a10_, ?_⟩
  try simp only [c_gk g m_a0 12 rfl, c_gk g m_a10_ 6 rfl, c_eI (f := 1000) m_a10_ rfl, true_and, Option.some.injEq, exists_eq_left', c_xm, c_xn, c_xs]
  refine um_X5_actionFor g _ a10_ r2 _ m_a10_ h (fun x15_ S14_ h => ?_)
  refine ⟨_, rfl, ?_⟩
  try simp only [c_gk g m_a0 12 rfl, c_gk g m_a10_ 6 rfl, c_eI (f := 1000) m_a10_ rfl, true_and, Option.some.injEq, exists_eq_left', c_xm, c_xn, c_xs]
  have n2201_a0 := c_gO g 2201 6 rfl (by decide) m_a0
  try simp only [c_gk g m_a0 12 rfl, c_gk g m_a10_ 6 rfl, c_gk g n2201_a0 7 rfl, c_gp g 2201 6 rfl rfl (by decide) m_a0, c_eI (f := 1000) m_a10_ rfl, c_eI (f := 1211) n2201_a0 rfl, true_and, Option.some.injEq, exists_eq_left', c_xm, c_xn, c_xs]
  obtain ⟨a21_, e_a21_, m_a21_, h⟩ := h
  refine ⟨a21_, e_a21_, ?_⟩
  try simp only [c_gk g m_a0 12 rfl, c_gk g m_a10_ 6 rfl, c_gk g n2201_a0 7 rfl, c_gk g m_a21_ 8 rfl, c_gp g 2201 6 rfl rfl (by decide) m_a0, c_eI (f := 1000) m_a10_ rfl, c_eI (f := 1211) n2201_a0 rfl, c_eI (f := 1400) m_a21_ rfl, c_eI (f := 1410) m_a21_ rfl, c_eIs (f := 1410) (c_gw g) m_a21_ rfl, true_and, Option.some.injEq, exists_eq_left', c_xm, c_xn, c_xs]
  have n1210_n2201_a0 := c_gO g 1210 2 rfl (by decide) n2201_a0
  try simp only [c_gk g m_a0 12 rfl, c_gk g m_a10_ 6 rfl, c_gk g n2201_a0 7 rfl, c_gk g m_a21_ 8 rfl, c_gk g n1210_n2201_a0 3 rfl, c_gp g 2201 6 rfl rfl (by decide) m_a0, c_gp g 1210 2 rfl rfl (by decide) n2201_a0, c_eI (f := 1000) m_a10_ rfl, c_eI (f := 1211) n2201_a0 rfl, c_eI (f := 1400) m_a21_ rfl, c_eI (f := 1410) m_a21_ rfl, c_eIs (f := 1410) (c_gw g) m_a21_ rfl, true_and, Option.some.injEq, exists_eq_left', c_xm, c_xn, c_xs]
  refine um_X2_note g _ a0 _ _ _ _ _ _ n1210_n2201_a0 h (fun S28_ h => ?_)
  refine ⟨rfl, ?_⟩
  try simp only [c_gk g m_a0 12 rfl, c_gk g m_a10_ 6 rfl, c_gk g n2201_a0 7 rfl, c_gk g m_a21_ 8 rfl, c_gk g n1210_n2201_a0 3 rfl, c_gp g 2201 6 rfl rfl (by decide) m_a0, c_gp g 1210 2 rfl rfl (by decide) n2201_a0, c_eI (f := 1000) m_a10_ rfl, c_eI (f := 1211) n2201_a0 rfl, c_eI (f := 1400) m_a21_ rfl, c_eI (f := 1410) m_a21_ rfl, c_eIs (f := 1410) (c_gw g) m_a21_ rfl, true_and, Option.some.injEq, exists_eq_left', c_xm, c_xn, c_xs]
  refine ⟨fun hc => ?_, fun hc => ?_, fun hc => ?_, fun hc => ?_, fun hc => ?_, fun hc => ?_⟩
  · have h := h.1 hc
    refine ⟨fun hc => ?_, fun hc => ?_⟩
    · have h := h.1 hc
      exact ub_X11_goWrong_176 g _ _  h hQ
    · have h := h.2 hc
      exact ub_X11_goWrong_176 g _ _  h hQ
  · have h := h.2.1 hc
    refine um_X5_rest g _ a10_ r2 m_a10_ h (fun S33_ h => ?_)
    refine ⟨rfl, ?_⟩
    try simp only [c_gk g m_a0 12 rfl, c_gk g m_a10_ 6 rfl, c_gk g n2201_a0 7 rfl, c_gk g m_a21_ 8 rfl, c_gk g n1210_n2201_a0 3 rfl, c_gp g 2201 6 rfl rfl (by decide) m_a0, c_gp g 1210 2 rfl rfl (by decide) n2201_a0, c_eI (f := 1000) m_a10_ rfl, c_eI (f := 1211) n2201_a0 rfl, c_eI (f := 1400) m_a21_ rfl, c_eI (f := 1410) m_a21_ rfl, c_eIs (f := 1410) (c_gw g) m_a21_ rfl, true_and, Option.some.injEq, exists_eq_left', c_xm, c_xn, c_xs]
    exact ub_X11_goWrong_176 g _ _  h hQ
  · have h := h.2.2.1 hc
    refine um_X5_start g _ a10_ r2 _ _ m_a10_ h (fun S40_ h => ?_)
    refine ⟨rfl, ?_⟩
    try simp only [c_gk g m_a0 12 rfl, c_gk g m_a10_ 6 rfl, c_gk g n2201_a0 7 rfl, c_gk g m_a21_ 8 rfl, c_gk g n1210_n2201_a0 3 rfl, c_gp g 2201 6 rfl rfl (by decide) m_a0, c_gp g 1210 2 rfl rfl (by decide) n2201_a0, c_eI (f := 1000) m_a10_ rfl, c_eI (f := 1211) n2201_a0 rfl, c_eI (f := 1400) m_a21_ rfl, c_eI (f := 1410) m_a21_ rfl, c_eIs (f := 1410) (c_gw g) m_a21_ rfl, true_and, Option.some.injEq, exists_eq_left', c_xm, c_xn, c_xs]
    exact ub_X11_goWrong_176 g _ _  h hQ
  · have h := h.2.2.2.1 hc
    refine ⟨fun hc => ?_, fun hc => ?_⟩
    · have h := h.1 hc
      exact ub_X11_goWrong_122 g _ a0 _ r1 _ m_a0 h hQ
    · have h := h.2 hc
      exact ub_X11_goWrong_122 g _ a0 _ r1 _ m_a0 h hQ
  · have h := h.2.2.2.2.1 hc
    refine um_X5_goIdle g _ a10_ m_a10_ h (fun S44_ h => ?_)
    refine ⟨rfl, ?_⟩
    try simp only [c_gk g m_a0 12 rfl, c_gk g m_a10_ 6 rfl, c_gk g n2201_a0 7 rfl, c_gk g m_a21_ 8 rfl, c_gk g n1210_n2201_a0 3 rfl, c_gp g 2201 6 rfl rfl (by decide) m_a0, c_gp g 1210 2 rfl rfl (by decide) n2201_a0, c_eI (f := 1000) m_a10_ rfl, c_eI (f := 1211) n2201_a0 rfl, c_eI (f := 1400) m_a21_ rfl, c_eI (f := 1410) m_a21_ rfl, c_eIs (f := 1410) (c_gw g) m_a21_ rfl, true_and, Option.some.injEq, exists_eq_left', c_xm, c_xn, c_xs]
    exact ub_X11_goWrong_176 g _ _  h hQ
  · have h := h.2.2.2.2.2 hc
    refine um_X5_handOver g _ a10_ r2 _ _ _ m_a10_ h (fun S51_ h => ?_)
    refine ⟨rfl, ?_⟩
    try simp only [c_gk g m_a0 12 rfl, c_gk g m_a10_ 6 rfl, c_gk g n2201_a0 7 rfl, c_gk g m_a21_ 8 rfl, c_gk g n1210_n2201_a0 3 rfl, c_gp g 2201 6 rfl rfl (by decide) m_a0, c_gp g 1210 2 rfl rfl (by decide) n2201_a0, c_eI (f := 1000) m_a10_ rfl, c_eI (f := 1211) n2201_a0 rfl, c_eI (f := 1400) m_a21_ rfl, c_eI (f := 1410) m_a21_ rfl, c_eIs (f := 1410) (c_gw g) m_a21_ rfl, true_and, Option.some.injEq, exists_eq_left', c_xm, c_xn, c_xs]
    exact ub_X11_goWrong_176 g _ _  h hQ
def kb_X11_lateOnesDealtWith_75 (L : c_L) (B2 : c_S → Nat → Option Nat → Int32 → Prop) (S : c_S) (a0 : Nat) (r1 : Option Nat) (x2 : Int32) (Q : Int32 → c_S → Prop) : Prop := B2 S a0 r1 (x2 + 1)
set_option maxRecDepth 100000 in
set_option maxHeartbeats 4000000 in
theorem ub_X11_lateOnesDealtWith_75 {L : c_L} {T : q_S} (g : c_G L T) {OB2 : q_S → Nat → Option Nat → Int32 → Prop} {B2 : c_S → Nat → Option Nat → Int32 → Prop} (hB2 : ∀ (S1 : c_S) (a0 : Nat) (r1 : Option Nat) (x2 : Int32), c_mk L 11 a0 → B2 S1 a0 r1 x2 → OB2 (c_E L S1 T) (c_ob L 11 a0) (r1.map (c_ob L 5)) x2) (S : c_S) (a0 : Nat) (r1 : Option Nat) (x2 : Int32) (m_a0 : c_mk L 11 a0) {Q1 : Int32 → c_S → Prop} {Q : Option Value → q_S → Prop} (h : kb_X11_lateOnesDealtWith_75 L B2 S a0 r1 x2 Q1) (hQ : ∀ (v : Int32) (K : c_S), Q1 v K → Q (some (.int v)) (c_E L K T)) : wb_X11_lateOnesDealtWith_75 OB2 (c_E L S T) (c_ob L 11 a0) (r1.map (c_ob L 5)) x2 Q := by
  unfold wb_X11_lateOnesDealtWith_75
  unfold kb_X11_lateOnesDealtWith_75 at h
  try simp only [c_gk g m_a0 12 rfl, true_and, Option.some.injEq, exists_eq_left', c_xm, c_xn, c_xs]
  exact hB2 _ a0 r1 _ m_a0 h
def kb_X11_lateOnesDealtWith_2 (L : c_L) (B2 : c_S → Nat → Option Nat → Int32 → Prop) (S : c_S) (a0 : Nat) (r1 : Option Nat) (x2 : Int32) (Q : Int32 → c_S → Prop) : Prop := ∃ a1_ : Nat, r1 = some a1_ ∧ (c_mk L 5 a1_ ∧ (((c_I S 1004 a1_) ≤ x2 → (Q (1 : Int32) S)) ∧ (¬ (c_I S 1004 a1_) ≤ x2 → (vp_in x2 16 ∧ (∃ a9_ : Nat, (c_e7 L a1_ x2.toNatClampNeg) = some a9_ ∧ (c_mk L 7 a9_ ∧ (((c_I S 1412 a9_) = (-1 : Int32) → (kb_X11_lateOnesDealtWith_75 L B2 S a0 r1 x2 Q)) ∧ (¬ (c_I S 1412 a9_) = (-1 : Int32) → (((c_I S 1211 a0) ≤ (c_I S 1412 a9_) → (kb_X11_lateOnesDealtWith_75 L B2 S a0 r1 x2 Q)) ∧ (¬ (c_I S 1211 a0) ≤ (c_I S 1412 a9_) → (km_X11_goWrong L (cs_I S 1412 a9_ (-1 : Int32)) a0 r1 (c_e7 L a1_ x2.toNatClampNeg) (2 : Int32) (c_I S 1412 a9_) (fun x20_ S19_ => ((x20_ < (3 : Int32) → (kb_X11_lateOnesDealtWith_75 L B2 S19_ a0 r1 x2 Q)) ∧ (¬ x20_ < (3 : Int32) → (((5 : Int32) < x20_ → (kb_X11_lateOnesDealtWith_75 L B2 S19_ a0 r1 x2 Q)) ∧ (¬ (5 : Int32) < x20_ → (Q (0 : Int32) S19_)))))))))))))))))
set_option maxRecDepth 100000 in
set_option maxHeartbeats 4000000 in
theorem ub_X11_lateOnesDealtWith_2 {L : c_L} {T : q_S} (g : c_G L T) {OB2 : q_S → Nat → Option Nat → Int32 → Prop} {B2 : c_S → Nat → Option Nat → Int32 → Prop} (hB2 : ∀ (S1 : c_S) (a0 : Nat) (r1 : Option Nat) (x2 : Int32), c_mk L 11 a0 → B2 S1 a0 r1 x2 → OB2 (c_E L S1 T) (c_ob L 11 a0) (r1.map (c_ob L 5)) x2) (S : c_S) (a0 : Nat) (r1 : Option Nat) (x2 : Int32) (m_a0 : c_mk L 11 a0) {Q1 : Int32 → c_S → Prop} {Q : Option Value → q_S → Prop} (h : kb_X11_lateOnesDealtWith_2 L B2 S a0 r1 x2 Q1) (hQ : ∀ (v : Int32) (K : c_S), Q1 v K → Q (some (.int v)) (c_E L K T)) : wb_X11_lateOnesDealtWith_2 OB2 (c_E L S T) (c_ob L 11 a0) (r1.map (c_ob L 5)) x2 Q := by
  unfold wb_X11_lateOnesDealtWith_2
  unfold kb_X11_lateOnesDealtWith_2 at h
  try simp only [c_gk g m_a0 12 rfl, true_and, Option.some.injEq, exists_eq_left', c_xm, c_xn, c_xs]
  obtain ⟨a1_, e_a1_, m_a1_, h⟩ := h
  refine ⟨a1_, e_a1_, ?_⟩
  try simp only [c_gk g m_a0 12 rfl, c_gk g m_a1_ 6 rfl, c_eI (f := 1004) m_a1_ rfl, true_and, Option.some.injEq, exists_eq_left', c_xm, c_xn, c_xs]
  refine ⟨fun hc => ?_, fun hc => ?_⟩
  · have h := h.1 hc
    exact hQ _ _ h
  · have h := h.2 hc
    have n1003_a1_ := c_gA g 1003 rfl (by decide) m_a1_
    try simp only [c_gk g m_a0 12 rfl, c_gk g m_a1_ 6 rfl, c_gr g n1003_a1_ 26 rfl, c_gN g n1003_a1_ 16 (by decide), c_g7 g m_a1_, c_ga g 1003 rfl rfl (by decide) m_a1_, c_eI (f := 1004) m_a1_ rfl, true_and, Option.some.injEq, exists_eq_left', c_xm, c_xn, c_xs]
    refine ⟨h.1, ?_⟩
    have h := h.2
    obtain ⟨a9_, e_a9_, m_a9_, h⟩ := h
    refine ⟨a9_, e_a9_, ?_⟩
    try simp only [c_gk g m_a0 12 rfl, c_gk g m_a1_ 6 rfl, c_gk g m_a9_ 8 rfl, c_gr g n1003_a1_ 26 rfl, c_gN g n1003_a1_ 16 (by decide), c_g7 g m_a1_, c_ga g 1003 rfl rfl (by decide) m_a1_, c_eI (f := 1004) m_a1_ rfl, c_eI (f := 1412) m_a9_ rfl, c_eIs (f := 1412) (c_gw g) m_a9_ rfl, true_and, Option.some.injEq, exists_eq_left', c_xm, c_xn, c_xs]
    refine ⟨fun hc => ?_, fun hc => ?_⟩
    · have h := h.1 hc
      exact ub_X11_lateOnesDealtWith_75 g hB2 _ a0 r1 _ m_a0 h hQ
    · have h := h.2 hc
      have n2201_a0 := c_gO g 2201 6 rfl (by decide) m_a0
      try simp only [c_gk g m_a0 12 rfl, c_gk g m_a1_ 6 rfl, c_gk g m_a9_ 8 rfl, c_gk g n2201_a0 7 rfl, c_gr g n1003_a1_ 26 rfl, c_gN g n1003_a1_ 16 (by decide), c_g7 g m_a1_, c_ga g 1003 rfl rfl (by decide) m_a1_, c_gp g 2201 6 rfl rfl (by decide) m_a0, c_eI (f := 1004) m_a1_ rfl, c_eI (f := 1412) m_a9_ rfl, c_eIs (f := 1412) (c_gw g) m_a9_ rfl, c_eI (f := 1211) n2201_a0 rfl, true_and, Option.some.injEq, exists_eq_left', c_xm, c_xn, c_xs]
      refine ⟨fun hc => ?_, fun hc => ?_⟩
      · have h := h.1 hc
        exact ub_X11_lateOnesDealtWith_75 g hB2 _ a0 r1 _ m_a0 h hQ
      · have h := h.2 hc
        refine um_X11_goWrong g _ a0 r1 (c_e7 L a1_ x2.toNatClampNeg) _ _ m_a0 h (fun x20_ S19_ h => ?_)
        refine ⟨_, rfl, ?_⟩
        try simp only [c_gk g m_a0 12 rfl, c_gk g m_a1_ 6 rfl, c_gk g m_a9_ 8 rfl, c_gk g n2201_a0 7 rfl, c_gr g n1003_a1_ 26 rfl, c_gN g n1003_a1_ 16 (by decide), c_g7 g m_a1_, c_ga g 1003 rfl rfl (by decide) m_a1_, c_gp g 2201 6 rfl rfl (by decide) m_a0, c_eI (f := 1004) m_a1_ rfl, c_eI (f := 1412) m_a9_ rfl, c_eIs (f := 1412) (c_gw g) m_a9_ rfl, c_eI (f := 1211) n2201_a0 rfl, true_and, Option.some.injEq, exists_eq_left', c_xm, c_xn, c_xs]
        refine ⟨fun hc => ?_, fun hc => ?_⟩
        · have h := h.1 hc
          exact ub_X11_lateOnesDealtWith_75 g hB2 _ a0 r1 _ m_a0 h hQ
        · have h := h.2 hc
          refine ⟨fun hc => ?_, fun hc => ?_⟩
          · have h := h.1 hc
            exact ub_X11_lateOnesDealtWith_75 g hB2 _ a0 r1 _ m_a0 h hQ
          · have h := h.2 hc
            exact hQ _ _ h
def kl_X11_lateOnesDealtWith_2 (L : c_L)  : Nat → c_S → Nat → Option Nat → Int32 → (Int32 → c_S → Prop) → Prop
  | 0, _, _, _, _, _ => False
  | n + 1, S, a0, r1, x2, Q => kb_X11_lateOnesDealtWith_2 L (fun S a0 r1 x2 => kl_X11_lateOnesDealtWith_2 L n S a0 r1 x2 Q) S a0 r1 x2 Q
theorem ul_X11_lateOnesDealtWith_2 {L : c_L} {T : q_S} (g : c_G L T) (n : Nat) (S : c_S) (a0 : Nat) (r1 : Option Nat) (x2 : Int32) (m_a0 : c_mk L 11 a0) {Q1 : Int32 → c_S → Prop} {Q : Option Value → q_S → Prop} (h : kl_X11_lateOnesDealtWith_2 L  n S a0 r1 x2 Q1) (hQ : ∀ (v : Int32) (K : c_S), Q1 v K → Q (some (.int v)) (c_E L K T)) : wl_X11_lateOnesDealtWith_2  n (c_E L S T) (c_ob L 11 a0) (r1.map (c_ob L 5)) x2 Q := by
  induction n generalizing S a0 r1 x2 with
  | zero => exact h.elim
  | succ n ih => exact ub_X11_lateOnesDealtWith_2 g (fun u0 u1 u2 u3 w0 h => ih u0 u1 u2 u3 w0 h) S a0 r1 x2 m_a0 h hQ
def km_X11_lateOnesDealtWith (L : c_L) (S : c_S) (a0 : Nat) (r1 : Option Nat) (Q : Int32 → c_S → Prop) : Prop := ∃ n23_ : Nat, kl_X11_lateOnesDealtWith_2 L n23_ S a0 r1 (0 : Int32) Q
set_option maxRecDepth 100000 in
set_option maxHeartbeats 4000000 in
theorem um_X11_lateOnesDealtWith {L : c_L} {T : q_S} (g : c_G L T) (S : c_S) (a0 : Nat) (r1 : Option Nat) (m_a0 : c_mk L 11 a0) {Q1 : Int32 → c_S → Prop} {Q : Option Value → q_S → Prop} (h : km_X11_lateOnesDealtWith L  S a0 r1 Q1) (hQ : ∀ (v : Int32) (K : c_S), Q1 v K → Q (some (.int v)) (c_E L K T)) : wm_X11_lateOnesDealtWith  (c_E L S T) (c_ob L 11 a0) (r1.map (c_ob L 5)) Q := by
  unfold wm_X11_lateOnesDealtWith
  unfold km_X11_lateOnesDealtWith at h
  try simp only [c_gk g m_a0 12 rfl, true_and, Option.some.injEq, exists_eq_left', c_xm, c_xn, c_xs]
  obtain ⟨n23_, h⟩ := h
  refine ⟨n23_, ?_⟩
  exact ul_X11_lateOnesDealtWith_2 g n23_ _ a0 r1 _ m_a0 h hQ
