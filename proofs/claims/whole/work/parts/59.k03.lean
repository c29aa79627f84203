def km_X4_restore (L : c_L) (S : c_S) (a0 : Nat) (Q : c_S → Prop) : Prop := (¬ (0 : Int32) < 0) ∧ ((¬ (0 : Int32) < 0) ∧ ((¬ ((c_I S 800 a0) >>> ((2 : Int32) &&& 31)) < 0) ∧ (((0 : Int32).toNatClampNeg + ((c_I S 800 a0) >>> ((2 : Int32) &&& 31)).toNatClampNeg ≤ (c_ln L 802 a0)) ∧ (((0 : Int32).toNatClampNeg + ((c_I S 800 a0) >>> ((2 : Int32) &&& 31)).toNatClampNeg ≤ (c_ln L 801 a0)) ∧ (Q (cs_G S 801 a0 (va_cpy (c_A S 802 a0) (c_A S 801 a0) (0 : Int32).toNatClampNeg (0 : Int32).toNatClampNeg ((c_I S 800 a0) >>> ((2 : Int32) &&& 31)).toNatClampNeg)))))))
set_option maxRecDepth 100000 in
set_option maxHeartbeats 4000000 in
theorem um_X4_restore {L : c_L} {T : q_S} (g : c_G L T) (S : c_S) (a0 : Nat) (m_a0 : c_mk L 4 a0) {Q1 : c_S → Prop} {Q : Option Value → q_S → Prop} (h : km_X4_restore L  S a0 Q1) (hQ : ∀ K : c_S, Q1 K → Q none (c_E L K T)) : wm_X4_restore  (c_E L S T) (c_ob L 4 a0) Q := by
  unfold wm_X4_restore
  unfold km_X4_restore at h
  try simp only [c_gk g m_a0 5 rfl, c_eI (f := 800) m_a0 rfl, true_and, Option.some.injEq, exists_eq_left', c_xm, c_xn, c_xs]
  have n801_a0 := c_gA g 801 rfl (by decide) m_a0
  try simp only [c_gk g m_a0 5 rfl, c_gr g n801_a0 21 rfl, c_gn g n801_a0, c_eA n801_a0, c_eAs (c_gw g) n801_a0, c_eAf n801_a0, c_eGs (c_gw g) n801_a0, c_ga g 801 rfl rfl (by decide) m_a0, c_eI (f := 800) m_a0 rfl, true_and, Option.some.injEq, exists_eq_left', c_xm, c_xn, c_xs]
  have n802_a0 := c_gA g 802 rfl (by decide) m_a0
  try simp only [c_gk g m_a0 5 rfl, c_gr g n801_a0 21 rfl, c_gn g n801_a0, c_eA n801_a0, c_eAs (c_gw g) n801_a0, c_eAf n801_a0, c_eGs (c_gw g) n801_a0, c_gr g n802_a0 21 rfl, c_gn g n802_a0, c_eA n802_a0, c_eAs (c_gw g) n802_a0, c_eAf n802_a0, c_eGs (c_gw g) n802_a0, c_ga g 801 rfl rfl (by decide) m_a0, c_ga g 802 rfl rfl (by decide) m_a0, c_eI (f := 800) m_a0 rfl, true_and, Option.some.injEq, exists_eq_left', c_xm, c_xn, c_xs]
  refine ⟨h.1, ?_⟩
  have h := h.2
  refine ⟨h.1, ?_⟩
  have h := h.2
  refine ⟨h.1, ?_⟩
  have h := h.2
  refine ⟨h.1, ?_⟩
  have h := h.2
  refine ⟨h.1, ?_⟩
  have h := h.2
  exact hQ _ h
def kb_X5_beginAnew_31 (L : c_L) (B22 : c_S → Nat → Int32 → Int32 → Int32 → Prop) (B31 : c_S → Nat → Int32 → Int32 → Int32 → Int32 → Prop) (S : c_S) (a0 : Nat) (x1 : Int32) (x3 : Int32) (x4 : Int32) (x5 : Int32) (Q : c_S → Prop) : Prop := vp_in x4 5 ∧ (((c_A S 1006 a0 x4.toNatClampNeg) ≤ x5 → (B22 S a0 x1 x3 (x4 + 1))) ∧ (¬ (c_A S 1006 a0 x4.toNatClampNeg) ≤ x5 → (vp_in ((x4 * (8 : Int32)) + x5) 48 ∧ (∃ a11_ : Nat, (c_e10 L a0 ((x4 * (8 : Int32)) + x5).toNatClampNeg) = some a11_ ∧ (c_mk L 10 a11_ ∧ (km_X10_empty L S a11_ (fun S15_ => (B31 S15_ a0 x1 x3 x4 (x5 + 1)))))))))
set_option maxRecDepth 100000 in
set_option maxHeartbeats 4000000 in
theorem ub_X5_beginAnew_31 {L : c_L} {T : q_S} (g : c_G L T) {OB22 : q_S → Nat → Int32 → Int32 → Int32 → Prop} {B22 : c_S → Nat → Int32 → Int32 → Int32 → Prop} (hB22 : ∀ (S1 : c_S) (a0 : Nat) (x1 : Int32) (x3 : Int32) (x4 : Int32), c_mk L 5 a0 → B22 S1 a0 x1 x3 x4 → OB22 (c_E L S1 T) (c_ob L 5 a0) x1 x3 x4) {OB31 : q_S → Nat → Int32 → Int32 → Int32 → Int32 → Prop} {B31 : c_S → Nat → Int32 → Int32 → Int32 → Int32 → Prop} (hB31 : ∀ (S1 : c_S) (a0 : Nat) (x1 : Int32) (x3 : Int32) (x4 : Int32) (x5 : Int32), c_mk L 5 a0 → B31 S1 a0 x1 x3 x4 x5 → OB31 (c_E L S1 T) (c_ob L 5 a0) x1 x3 x4 x5) (S : c_S) (a0 : Nat) (x1 : Int32) (x3 : Int32) (x4 : Int32) (x5 : Int32) (m_a0 : c_mk L 5 a0) {Q1 : c_S → Prop} {Q : Option Value → q_S → Prop} (h : kb_X5_beginAnew_31 L B22 B31 S a0 x1 x3 x4 x5 Q1) (hQ : ∀ K : c_S, Q1 K → Q none (c_E L K T)) : wb_X5_beginAnew_31 OB22 OB31 (c_E L S T) (c_ob L 5 a0) x1 x3 x4 x5 Q := by
  unfold wb_X5_beginAnew_31
  unfold kb_X5_beginAnew_31 at h
  try simp only [c_gk g m_a0 6 rfl, true_and, Option.some.injEq, exists_eq_left', c_xm, c_xn, c_xs]
  have n1006_a0 := c_gA g 1006 rfl (by decide) m_a0
  try simp only [c_gk g m_a0 6 rfl, c_gr g n1006_a0 21 rfl, c_gN g n1006_a0 5 (by decide), c_eA n1006_a0, c_eAs (c_gw g) n1006_a0, c_ga g 1006 rfl rfl (by decide) m_a0, true_and, Option.some.injEq, exists_eq_left', c_xm, c_xn, c_xs]
  refine ⟨h.1, ?_⟩
  have h := h.2
  refine ⟨fun hc => ?_, fun hc => ?_⟩
  · have h := h.1 hc
    exact hB22 _ a0 _ _ _ m_a0 h
  · have h := h.2 hc
    have n1005_a0 := c_gA g 1005 rfl (by decide) m_a0
    try simp only [c_gk g m_a0 6 rfl, c_gr g n1006_a0 21 rfl, c_gN g n1006_a0 5 (by decide), c_eA n1006_a0, c_eAs (c_gw g) n1006_a0, c_gr g n1005_a0 27 rfl, c_gN g n1005_a0 48 (by decide), c_g10 g m_a0, c_ga g 1006 rfl rfl (by decide) m_a0, c_ga g 1005 rfl rfl (by decide) m_a0, true_and, Option.some.injEq, exists_eq_left', c_xm, c_xn, c_xs]
    refine ⟨h.1, ?_⟩
    have h := h.2
    obtain ⟨a11_, e_a11_, m_a11_, h⟩ := h
    refine ⟨a11_, e_a11_, ?_⟩
    try simp only [c_gk g m_a0 6 rfl, c_gk g m_a11_ 11 rfl, c_gr g n1006_a0 21 rfl, c_gN g n1006_a0 5 (by decide), c_eA n1006_a0, c_eAs (c_gw g) n1006_a0, c_gr g n1005_a0 27 rfl, c_gN g n1005_a0 48 (by decide), c_g10 g m_a0, c_ga g 1006 rfl rfl (by decide) m_a0, c_ga g 1005 rfl rfl (by decide) m_a0, true_and, Option.some.injEq, exists_eq_left', c_xm, c_xn, c_xs]
    refine um_X10_empty g _ a11_ m_a11_ h (fun S15_ h => ?_)
    refine ⟨rfl, ?_⟩
    try simp only [c_gk g m_a0 6 rfl, c_gk g m_a11_ 11 rfl, c_gr g n1006_a0 21 rfl, c_gN g n1006_a0 5 (by decide), c_eA n1006_a0, c_eAs (c_gw g) n1006_a0, c_gr g n1005_a0 27 rfl, c_gN g n1005_a0 48 (by decide), c_g10 g m_a0, c_ga g 1006 rfl rfl (by decide) m_a0, c_ga g 1005 rfl rfl (by decide) m_a0, true_and, Option.some.injEq, exists_eq_left', c_xm, c_xn, c_xs]
    exact hB31 _ a0 _ _ _ _ m_a0 h
def kl_X5_beginAnew_31 (L : c_L) (B22 : c_S → Nat → Int32 → Int32 → Int32 → Prop) : Nat → c_S → Nat → Int32 → Int32 → Int32 → Int32 → (c_S → Prop) → Prop
  | 0, _, _, _, _, _, _, _ => False
  | n + 1, S, a0, x1, x3, x4, x5, Q => kb_X5_beginAnew_31 L B22 (fun S a0 x1 x3 x4 x5 => kl_X5_beginAnew_31 L B22 n S a0 x1 x3 x4 x5 Q) S a0 x1 x3 x4 x5 Q
theorem ul_X5_beginAnew_31 {L : c_L} {T : q_S} (g : c_G L T) {OB22 : q_S → Nat → Int32 → Int32 → Int32 → Prop} {B22 : c_S → Nat → Int32 → Int32 → Int32 → Prop} (hB22 : ∀ (S1 : c_S) (a0 : Nat) (x1 : Int32) (x3 : Int32) (x4 : Int32), c_mk L 5 a0 → B22 S1 a0 x1 x3 x4 → OB22 (c_E L S1 T) (c_ob L 5 a0) x1 x3 x4) (n : Nat) (S : c_S) (a0 : Nat) (x1 : Int32) (x3 : Int32) (x4 : Int32) (x5 : Int32) (m_a0 : c_mk L 5 a0) {Q1 : c_S → Prop} {Q : Option Value → q_S → Prop} (h : kl_X5_beginAnew_31 L B22 n S a0 x1 x3 x4 x5 Q1) (hQ : ∀ K : c_S, Q1 K → Q none (c_E L K T)) : wl_X5_beginAnew_31 OB22 n (c_E L S T) (c_ob L 5 a0) x1 x3 x4 x5 Q := by
  induction n generalizing S a0 x1 x3 x4 x5 with
  | zero => exact h.elim
  | succ n ih => exact ub_X5_beginAnew_31 g hB22 (fun u0 u1 u2 u3 u4 u5 w0 h => ih u0 u1 u2 u3 u4 u5 w0 h) S a0 x1 x3 x4 x5 m_a0 h hQ
def kb_X5_beginAnew_133 (L : c_L) (B85 : c_S → Nat → Int32 → Int32 → Prop) (S : c_S) (a0 : Nat) (x3 : Int32) (x4 : Int32) (Q : c_S → Prop) : Prop := B85 S a0 x3 (x4 + 1)
set_option maxRecDepth 100000 in
set_option maxHeartbeats 4000000 in
theorem ub_X5_beginAnew_133 {L : c_L} {T : q_S} (g : c_G L T) {OB85 : q_S → Nat → Int32 → Int32 → Prop} {B85 : c_S → Nat → Int32 → Int32 → Prop} (hB85 : ∀ (S1 : c_S) (a0 : Nat) (x3 : Int32) (x4 : Int32), c_mk L 5 a0 → B85 S1 a0 x3 x4 → OB85 (c_E L S1 T) (c_ob L 5 a0) x3 x4) (S : c_S) (a0 : Nat) (x3 : Int32) (x4 : Int32) (m_a0 : c_mk L 5 a0) {Q1 : c_S → Prop} {Q : Option Value → q_S → Prop} (h : kb_X5_beginAnew_133 L B85 S a0 x3 x4 Q1) (hQ : ∀ K : c_S, Q1 K → Q none (c_E L K T)) : wb_X5_beginAnew_133 OB85 (c_E L S T) (c_ob L 5 a0) x3 x4 Q := by
  unfold wb_X5_beginAnew_133
  unfold kb_X5_beginAnew_133 at h
  try simp only [c_gk g m_a0 6 rfl, true_and, Option.some.injEq, exists_eq_left', c_xm, c_xn, c_xs]
  exact hB85 _ a0 _ _ m_a0 h
def kb_X5_beginAnew_85 (L : c_L) (B85 : c_S → Nat → Int32 → Int32 → Prop) (S : c_S) (a0 : Nat) (x3 : Int32) (x4 : Int32) (Q : c_S → Prop) : Prop := ((c_I S 1004 a0) ≤ x4 → (Q S)) ∧ (¬ (c_I S 1004 a0) ≤ x4 → (vp_in x4 16 ∧ (∃ a22_ : Nat, (c_e7 L a0 x4.toNatClampNeg) = some a22_ ∧ (c_mk L 7 a22_ ∧ ((¬ (c_I S 1407 a22_) = 0 → (kb_X5_beginAnew_133 L B85 S a0 x3 x4 Q)) ∧ ((c_I S 1407 a22_) = 0 → ((¬ (c_I S 1408 a22_) = 0 → (kb_X5_beginAnew_133 L B85 S a0 x3 x4 Q)) ∧ ((c_I S 1408 a22_) = 0 → (km_X5_start L S a0 (c_e7 L a0 x4.toNatClampNeg) (x3 + (c_I S 1406 a22_)) x3 (fun S28_ => (kb_X5_beginAnew_133 L B85 S28_ a0 x3 x4 Q)))))))))))
set_option maxRecDepth 100000 in
set_option maxHeartbeats 4000000 in
theorem ub_X5_beginAnew_85 {L : c_L} {T : q_S} (g : c_G L T) {OB85 : q_S → Nat → Int32 → Int32 → Prop} {B85 : c_S → Nat → Int32 → Int32 → Prop} (hB85 : ∀ (S1 : c_S) (a0 : Nat) (x3 : Int32) (x4 : Int32), c_mk L 5 a0 → B85 S1 a0 x3 x4 → OB85 (c_E L S1 T) (c_ob L 5 a0) x3 x4) (S : c_S) (a0 : Nat) (x3 : Int32) (x4 : Int32) (m_a0 : c_mk L 5 a0) {Q1 : c_S → Prop} {Q : Option Value → q_S → Prop} (h : kb_X5_beginAnew_85 L B85 S a0 x3 x4 Q1) (hQ : ∀ K : c_S, Q1 K → Q none (c_E L K T)) : wb_X5_beginAnew_85 OB85 (c_E L S T) (c_ob L 5 a0) x3 x4 Q := by
  unfold wb_X5_beginAnew_85
  unfold kb_X5_beginAnew_85 at h
  try simp only [c_gk g m_a0 6 rfl, c_eI (f := 1004) m_a0 rfl, true_and, Option.some.injEq, exists_eq_left', c_xm, c_xn, c_xs]
  refine ⟨fun hc => ?_, fun hc => ?_⟩
  · have h := h.1 hc
    exact hQ _ h
  · have h := h.2 hc
    have n1003_a0 := c_gA g 1003 rfl (by decide) m_a0
    try simp only [c_gk g m_a0 6 rfl, c_gr g n1003_a0 26 rfl, c_gN g n1003_a0 16 (by decide), c_g7 g m_a0, c_ga g 1003 rfl rfl (by decide) m_a0, c_eI (f := 1004) m_a0 rfl, true_and, Option.some.injEq, exists_eq_left', c_xm, c_xn, c_xs]
    refine ⟨h.1, ?_⟩
    have h := h.2
    obtain ⟨a22_, e_a22_, m_a22_, h⟩ := h
    refine ⟨a22_, e_a22_, ?_⟩
    try simp only [c_gk g m_a0 6 rfl, c_gk g m_a22_ 8 rfl, c_gr g n1003_a0 26 rfl, c_gN g n1003_a0 16 (by decide), c_g7 g m_a0, c_ga g 1003 rfl rfl (by decide) m_a0, c_eI (f := 1004) m_a0 rfl, c_eI (f := 1406) m_a22_ rfl, c_eI (f := 1407) m_a22_ rfl, c_eI (f := 1408) m_a22_ rfl, true_and, Option.some.injEq, exists_eq_left', c_xm, c_xn, c_xs]
    refine ⟨fun hc => ?_, fun hc => ?_⟩
    · have h := h.1 hc
      exact ub_X5_beginAnew_133 g hB85 _ a0 _ _ m_a0 h hQ
    · have h := h.2 hc
      refine ⟨fun hc => ?_, fun hc => ?_⟩
      · have h := h.1 hc
        exact ub_X5_beginAnew_133 g hB85 _ a0 _ _ m_a0 h hQ
      · have h := h.2 hc
        refine um_X5_start g _ a0 (c_e7 L a0 x4.toNatClampNeg) _ _ m_a0 h (fun S28_ h => ?_)
        refine ⟨rfl, ?_⟩
        try simp only [c_gk g m_a0 6 rfl, c_gk g m_a22_ 8 rfl, c_gr g n1003_a0 26 rfl, c_gN g n1003_a0 16 (by decide), c_g7 g m_a0, c_ga g 1003 rfl rfl (by decide) m_a0, c_eI (f := 1004) m_a0 rfl, c_eI (f := 1406) m_a22_ rfl, c_eI (f := 1407) m_a22_ rfl, c_eI (f := 1408) m_a22_ rfl, true_and, Option.some.injEq, exists_eq_left', c_xm, c_xn, c_xs]
        exact ub_X5_beginAnew_133 g hB85 _ a0 _ _ m_a0 h hQ
def kl_X5_beginAnew_85 (L : c_L)  : Nat → c_S → Nat → Int32 → Int32 → (c_S → Prop) → Prop
  | 0, _, _, _, _, _ => False
  | n + 1, S, a0, x3, x4, Q => kb_X5_beginAnew_85 L (fun S a0 x3 x4 => kl_X5_beginAnew_85 L n S a0 x3 x4 Q) S a0 x3 x4 Q
theorem ul_X5_beginAnew_85 {L : c_L} {T : q_S} (g : c_G L T) (n : Nat) (S : c_S) (a0 : Nat) (x3 : Int32) (x4 : Int32) (m_a0 : c_mk L 5 a0) {Q1 : c_S → Prop} {Q : Option Value → q_S → Prop} (h : kl_X5_beginAnew_85 L  n S a0 x3 x4 Q1) (hQ : ∀ K : c_S, Q1 K → Q none (c_E L K T)) : wl_X5_beginAnew_85  n (c_E L S T) (c_ob L 5 a0) x3 x4 Q := by
  induction n generalizing S a0 x3 x4 with
  | zero => exact h.elim
  | succ n ih => exact ub_X5_beginAnew_85 g (fun u0 u1 u2 u3 w0 h => ih u0 u1 u2 u3 w0 h) S a0 x3 x4 m_a0 h hQ
def kb_X5_beginAnew_82 (L : c_L) (S : c_S) (a0 : Nat) (x3 : Int32) (Q : c_S → Prop) : Prop := ∃ n29_ : Nat, kl_X5_beginAnew_85 L n29_ S a0 x3 (0 : Int32) Q
set_option maxRecDepth 100000 in
set_option maxHeartbeats 4000000 in
theorem ub_X5_beginAnew_82 {L : c_L} {T : q_S} (g : c_G L T) (S : c_S) (a0 : Nat) (x3 : Int32) (m_a0 : c_mk L 5 a0) {Q1 : c_S → Prop} {Q : Option Value → q_S → Prop} (h : kb_X5_beginAnew_82 L  S a0 x3 Q1) (hQ : ∀ K : c_S, Q1 K → Q none (c_E L K T)) : wb_X5_beginAnew_82  (c_E L S T) (c_ob L 5 a0) x3 Q := by
  unfold wb_X5_beginAnew_82
  unfold kb_X5_beginAnew_82 at h
  try simp only [c_gk g m_a0 6 rfl, true_and, Option.some.injEq, exists_eq_left', c_xm, c_xn, c_xs]
  obtain ⟨n29_, h⟩ := h
  refine ⟨n29_, ?_⟩
  exact ul_X5_beginAnew_85 g n29_ _ a0 _ _ m_a0 h hQ
def kb_X5_beginAnew_22 (L : c_L) (B22 : c_S → Nat → Int32 → Int32 → Int32 → Prop) (S : c_S) (a0 : Nat) (x1 : Int32) (x3 : Int32) (x4 : Int32) (Q : c_S → Prop) : Prop := ((5 : Int32) ≤ x4 → ((x1 = 0 → (kb_X5_beginAnew_82 L S a0 x3 Q)) ∧ (¬ x1 = 0 → (km_X4_restore L S a0 (fun S37_ => (kb_X5_beginAnew_82 L S37_ a0 x3 Q)))))) ∧ (¬ (5 : Int32) ≤ x4 → (∃ n38_ : Nat, kl_X5_beginAnew_31 L B22 n38_ S a0 x1 x3 x4 (0 : Int32) Q))
set_option maxRecDepth 100000 in
set_option maxHeartbeats 4000000 in
theorem ub_X5_beginAnew_22 {L : c_L} {T : q_S} (g : c_G L T) {OB22 : q_S → Nat → Int32 → Int32 → Int32 → Prop} {B22 : c_S → Nat → Int32 → Int32 → Int32 → Prop} (hB22 : ∀ (S1 : c_S) (a0 : Nat) (x1 : Int32) (x3 : Int32) (x4 : Int32), c_mk L 5 a0 → B22 S1 a0 x1 x3 x4 → OB22 (c_E L S1 T) (c_ob L 5 a0) x1 x3 x4) (S : c_S) (a0 : Nat) (x1 : Int32) (x3 : Int32) (x4 : Int32) (m_a0 : c_mk L 5 a0) {Q1 : c_S → Prop} {Q : Option Value → q_S → Prop} (h : kb_X5_beginAnew_22 L B22 S a0 x1 x3 x4 Q1) (hQ : ∀ K : c_S, Q1 K → Q none (c_E L K T)) : wb_X5_beginAnew_22 OB22 (c_E L S T) (c_ob L 5 a0) x1 x3 x4 Q := by
  unfold wb_X5_beginAnew_22
  unfold kb_X5_beginAnew_22 at h
  try simp only [c_gk g m_a0 6 rfl, true_and, Option.some.injEq, exists_eq_left', c_xm, c_xn, c_xs]
  refine ⟨fun hc => ?_, fun hc => ?_⟩
  · have h := h.1 hc
    refine ⟨fun hc => ?_, fun hc => ?_⟩
    · have h := h.1 hc
      exact ub_X5_beginAnew_82 g _ a0 _ m_a0 h hQ
    · have h := h.2 hc
      have n1002_a0 := c_gO g 1002 4 rfl (by decide) m_a0
      try simp only [c_gk g m_a0 6 rfl, c_gk g n1002_a0 5 rfl, c_gp g 1002 4 rfl rfl (by decide) m_a0, true_and, Option.some.injEq, exists_eq_left', c_xm, c_xn, c_xs]
      refine um_X4_restore g _ a0 n1002_a0 h (fun S37_ h => ?_)
      refine ⟨rfl, ?_⟩
      try simp only [c_gk g m_a0 6 rfl, c_gk g n1002_a0 5 rfl, c_gp g 1002 4 rfl rfl (by decide) m_a0, true_and, Option.some.injEq, exists_eq_left', c_xm, c_xn, c_xs]
      exact ub_X5_beginAnew_82 g _ a0 _ m_a0 h hQ
  · have h := h.2 hc
    obtain ⟨n38_, h⟩ := h
    refine ⟨n38_, ?_⟩
    exact ul_X5_beginAnew_31 g hB22 n38_ _ a0 _ _ _ _ m_a0 h hQ
def kl_X5_beginAnew_22 (L : c_L)  : Nat → c_S → Nat → Int32 → Int32 → Int32 → (c_S → Prop) → Prop
  | 0, _, _, _, _, _, _ => False
  | n + 1, S, a0, x1, x3, x4, Q => kb_X5_beginAnew_22 L (fun S a0 x1 x3 x4 => kl_X5_beginAnew_22 L n S a0 x1 x3 x4 Q) S a0 x1 x3 x4 Q
theorem ul_X5_beginAnew_22 {L : c_L} {T : q_S} (g : c_G L T) (n : Nat) (S : c_S) (a0 : Nat) (x1 : Int32) (x3 : Int32) (x4 : Int32) (m_a0 : c_mk L 5 a0) {Q1 : c_S → Prop} {Q : Option Value → q_S → Prop} (h : kl_X5_beginAnew_22 L  n S a0 x1 x3 x4 Q1) (hQ : ∀ K : c_S, Q1 K → Q none (c_E L K T)) : wl_X5_beginAnew_22  n (c_E L S T) (c_ob L 5 a0) x1 x3 x4 Q := by
  induction n generalizing S a0 x1 x3 x4 with
  | zero => exact h.elim
  | succ n ih => exact ub_X5_beginAnew_22 g (fun u0 u1 u2 u3 u4 w0 h => ih u0 u1 u2 u3 u4 w0 h) S a0 x1 x3 x4 m_a0 h hQ
def km_X5_beginAnew (L : c_L) (S : c_S) (a0 : Nat) (x1 : Int32) (x2 : Int32) (x3 : Int32) (Q : c_S → Prop) : Prop := km_X5_allRest L S a0 (fun S41_ => (∀ S43_ : c_S, S43_ = (cs_I (cs_I S41_ 1010 a0 x2) 1011 a0 ((c_I (cs_I S41_ 1010 a0 x2) 1011 a0) + (1 : Int32))) → (∃ n44_ : Nat, kl_X5_beginAnew_22 L n44_ S43_ a0 x1 x3 (0 : Int32) Q)))
set_option maxRecDepth 100000 in
set_option maxHeartbeats 4000000 in
theorem um_X5_beginAnew {L : c_L} {T : q_S} (g : c_G L T) (S : c_S) (a0 : Nat) (x1 : Int32) (x2 : Int32) (x3 : Int32) (m_a0 : c_mk L 5 a0) {Q1 : c_S → Prop} {Q : Option Value → q_S → Prop} (h : km_X5_beginAnew L  S a0 x1 x2 x3 Q1) (hQ : ∀ K : c_S, Q1 K → Q none (c_E L K T)) : wm_X5_beginAnew  (c_E L S T) (c_ob L 5 a0) x1 x2 x3 Q := by
  unfold wm_X5_beginAnew
  unfold km_X5_beginAnew at h
  try simp only [c_gk g m_a0 6 rfl, c_eI (f := 1011) m_a0 rfl, c_eIs (f := 1010) (c_gw g) m_a0 rfl, c_eIs (f := 1011) (c_gw g) m_a0 rfl, true_and, Option.some.injEq, exists_eq_left', c_xm, c_xn, c_xs]
  refine um_X5_allRest g _ a0 m_a0 h (fun S41_ h => ?_)
  refine ⟨rfl, ?_⟩
  try simp only [c_gk g m_a0 6 rfl, c_eI (f := 1011) m_a0 rfl, c_eIs (f := 1010) (c_gw g) m_a0 rfl, c_eIs (f := 1011) (c_gw g) m_a0 rfl, true_and, Option.some.injEq, exists_eq_left', c_xm, c_xn, c_xs]
  refine fun S43_ e_S43_ => ?_
  have h := h S43_ e_S43_
  obtain ⟨n44_, h⟩ := h
  refine ⟨n44_, ?_⟩
  exact ul_X5_beginAnew_22 g n44_ _ a0 _ _ _ m_a0 h hQ
def kb_X0_beginPartition_9 (L : c_L) (S : c_S) (Q : Int32 → c_S → Prop) : Prop := Q (1 : Int32) S
set_option maxRecDepth 100000 in
set_option maxHeartbeats 4000000 in
theorem ub_X0_beginPartition_9 {L : c_L} {T : q_S} (g : c_G L T) (S : c_S)  {Q1 : Int32 → c_S → Prop} {Q : Option Value → q_S → Prop} (h : kb_X0_beginPartition_9 L  S Q1) (hQ : ∀ (v : Int32) (K : c_S), Q1 v K → Q (some (.int v)) (c_E L K T)) : wb_X0_beginPartition_9  (c_E L S T) Q := by
  unfold wb_X0_beginPartition_9
  unfold kb_X0_beginPartition_9 at h
  try simp only [true_and, Option.some.injEq, exists_eq_left', c_xm, c_xn, c_xs]
  exact hQ _ _ h
def kb_X0_beginPartition_57 (L : c_L) (S : c_S) (Q : Int32 → c_S → Prop) : Prop := Q (-1 : Int32) S
set_option maxRecDepth 100000 in
set_option maxHeartbeats 4000000 in
theorem ub_X0_beginPartition_57 {L : c_L} {T : q_S} (g : c_G L T) (S : c_S)  {Q1 : Int32 → c_S → Prop} {Q : Option Value → q_S → Prop} (h : kb_X0_beginPartition_57 L  S Q1) (hQ : ∀ (v : Int32) (K : c_S), Q1 v K → Q (some (.int v)) (c_E L K T)) : wb_X0_beginPartition_57  (c_E L S T) Q := by
  unfold wb_X0_beginPartition_57
  unfold kb_X0_beginPartition_57 at h
  try simp only [true_and, Option.some.injEq, exists_eq_left', c_xm, c_xn, c_xs]
  exact hQ _ _ h
def kb_X0_beginPartition_50 (L : c_L) (S : c_S) (a0 : Nat) (rs0 : Option Nat) (xs1 : Int32) (xs2 : Int32) (Q : Int32 → c_S → Prop) : Prop := ∃ a2_ : Nat, rs0 = some a2_ ∧ (c_mk L 5 a2_ ∧ (km_X5_beginAnew L S a2_ xs1 xs2 (c_I S 4 a0) (fun S6_ => (kb_X0_beginPartition_57 L S6_ Q))))
set_option maxRecDepth 100000 in
set_option maxHeartbeats 4000000 in
theorem ub_X0_beginPartition_50 {L : c_L} {T : q_S} (g : c_G L T) (S : c_S) (a0 : Nat) (rs0 : Option Nat) (xs1 : Int32) (xs2 : Int32) (m_a0 : c_mk L 0 a0) {Q1 : Int32 → c_S → Prop} {Q : Option Value → q_S → Prop} (h : kb_X0_beginPartition_50 L  S a0 rs0 xs1 xs2 Q1) (hQ : ∀ (v : Int32) (K : c_S), Q1 v K → Q (some (.int v)) (c_E L K T)) : wb_X0_beginPartition_50  (c_E L S T) (c_ob L 0 a0) (rs0.map (c_ob L 5)) xs1 xs2 Q := by
  unfold wb_X0_beginPartition_50
  unfold kb_X0_beginPartition_50 at h
  try simp only [c_gk g m_a0 1 rfl, c_eI (f := 4) m_a0 rfl, true_and, Option.some.injEq, exists_eq_left', c_xm, c_xn, c_xs]
  obtain ⟨a2_, e_a2_, m_a2_, h⟩ := h
  refine ⟨a2_, e_a2_, ?_⟩
  try simp only [c_gk g m_a0 1 rfl, c_gk g m_a2_ 6 rfl, c_eI (f := 4) m_a0 rfl, true_and, Option.some.injEq, exists_eq_left', c_xm, c_xn, c_xs]
  refine um_X5_beginAnew g _ a2_ _ _ _ m_a2_ h (fun S6_ h => ?_)
  refine ⟨rfl, ?_⟩
  try simp only [c_gk g m_a0 1 rfl, c_gk g m_a2_ 6 rfl, c_eI (f := 4) m_a0 rfl, true_and, Option.some.injEq, exists_eq_left', c_xm, c_xn, c_xs]
  exact ub_X0_beginPartition_57 g _  h hQ
def kb_X0_beginPartition_40 (L : c_L) (S : c_S) (a0 : Nat) (x1 : Int32) (rs0 : Option Nat) (xs1 : Int32) (Q : Int32 → c_S → Prop) : Prop := (¬ x1 = (1 : Int32) → (kb_X0_beginPartition_50 L S a0 rs0 xs1 (1 : Int32) Q)) ∧ (x1 = (1 : Int32) → (kb_X0_beginPartition_50 L S a0 rs0 xs1 (2 : Int32) Q))
set_option maxRecDepth 100000 in
set_option maxHeartbeats 4000000 in
theorem ub_X0_beginPartition_40 {L : c_L} {T : q_S} (g : c_G L T) (S : c_S) (a0 : Nat) (x1 : Int32) (rs0 : Option Nat) (xs1 : Int32) (m_a0 : c_mk L 0 a0) {Q1 : Int32 → c_S → Prop} {Q : Option Value → q_S → Prop} (h : kb_X0_beginPartition_40 L  S a0 x1 rs0 xs1 Q1) (hQ : ∀ (v : Int32) (K : c_S), Q1 v K → Q (some (.int v)) (c_E L K T)) : wb_X0_beginPartition_40  (c_E L S T) (c_ob L 0 a0) x1 (rs0.map (c_ob L 5)) xs1 Q := by
  unfold wb_X0_beginPartition_40
  unfold kb_X0_beginPartition_40 at h
  try simp only [c_gk g m_a0 1 rfl, true_and, Option.some.injEq, exists_eq_left', c_xm, c_xn, c_xs]
  refine ⟨fun hc => ?_, fun hc => ?_⟩
  · have h := h.1 hc
    exact ub_X0_beginPartition_50 g _ a0 rs0 _ _ m_a0 h hQ
  · have h := h.2 hc
    exact ub_X0_beginPartition_50 g _ a0 rs0 _ _ m_a0 h hQ
def km_X0_beginPartition (L : c_L) (S : c_S) (a0 : Nat) (x1 : Int32) (Q : Int32 → c_S → Prop) : Prop := (x1 < 0 → (kb_X0_beginPartition_9 L S Q)) ∧ (¬ x1 < 0 → ((x1 ≤ (2 : Int32) → ((¬ x1 = (2 : Int32) → ((¬ x1 = (1 : Int32) → (kb_X0_beginPartition_40 L S a0 x1 (c_P S 1 a0) (0 : Int32) Q)) ∧ (x1 = (1 : Int32) → (kb_X0_beginPartition_40 L S a0 x1 (c_P S 1 a0) (1 : Int32) Q)))) ∧ (x1 = (2 : Int32) → (∃ a14_ : Nat, (c_P S 1 a0) = some a14_ ∧ (c_mk L 5 a14_ ∧ (km_X5_goIdle L S a14_ (fun S18_ => (kb_X0_beginPartition_57 L S18_ Q)))))))) ∧ (¬ x1 ≤ (2 : Int32) → (kb_X0_beginPartition_9 L S Q))))
set_option maxRecDepth 100000 in
set_option maxHeartbeats 4000000 in
theorem um_X0_beginPartition {L : c_L} {T : q_S} (g : c_G L T) (S : c_S) (a0 : Nat) (x1 : Int32) (m_a0 : c_mk L 0 a0) {Q1 : Int32 → c_S → Prop} {Q : Option Value → q_S → Prop} (h : km_X0_beginPartition L  S a0 x1 Q1) (hQ : ∀ (v : Int32) (K : c_S), Q1 v K → Q (some (.int v)) (c_E L K T)) : wm_X0_beginPartition  (c_E L S T) (c_ob L 0 a0) x1 Q := by
  unfold wm_X0_beginPartition
  unfold km_X0_beginPartition at h
  try simp only [c_gk g m_a0 1 rfl, c_eD1 m_a0, c_eDs1 (c_gw g) m_a0, true_and, Option.some.injEq, exists_eq_left', c_xm, c_xn, c_xs]
  refine ⟨fun hc => ?_, fun hc => ?_⟩
  · have h := h.1 hc
    exact ub_X0_beginPartition_9 g _  h hQ
  · have h := h.2 hc
    refine ⟨fun hc => ?_, fun hc => ?_⟩
    · have h := h.1 hc
      refine ⟨fun hc => ?_, fun hc => ?_⟩
      · have h := h.1 hc
        refine ⟨fun hc => ?_, fun hc => ?_⟩
        · have h := h.1 hc
          exact ub_X0_beginPartition_40 g _ a0 _ (c_P S 1 a0) _ m_a0 h hQ
        · have h := h.2 hc
          exact ub_X0_beginPartition_40 g _ a0 _ (c_P S 1 a0) _ m_a0 h hQ
      · have h := h.2 hc
        obtain ⟨a14_, e_a14_, m_a14_, h⟩ := h
        refine ⟨a14_, e_a14_, ?_⟩
        try simp only [c_gk g m_a0 1 rfl, c_gk g m_a14_ 6 rfl, c_eD1 m_a0, c_eDs1 (c_gw g) m_a0, true_and, Option.some.injEq, exists_eq_left', c_xm, c_xn, c_xs]
        refine um_X5_goIdle g _ a14_ m_a14_ h (fun S18_ h => ?_)
        refine ⟨rfl, ?_⟩
        try simp only [c_gk g m_a0 1 rfl, c_gk g m_a14_ 6 rfl, c_eD1 m_a0, c_eDs1 (c_gw g) m_a0, true_and, Option.some.injEq, exists_eq_left', c_xm, c_xn, c_xs]
        exact ub_X0_beginPartition_57 g _  h hQ
    · have h := h.2 hc
      exact ub_X0_beginPartition_9 g _  h hQ
def km_X0_tellFault (L : c_L) (S : c_S) (a0 : Nat) (Q : Int32 → c_S → Prop) : Prop := ∃ a2_ : Nat, (c_P S 2 a0) = some a2_ ∧ (c_mk L 7 a2_ ∧ ((¬ (c_I S 1407 a2_) = 0 → (∃ a6_ : Nat, (c_P S 1 a0) = some a6_ ∧ (c_mk L 5 a6_ ∧ (km_X5_processAt L S a6_ (c_I S 1016 a6_) (fun r11_ S10_ => ((¬ r11_ = none → (∃ a14_ : Nat, r11_ = some a14_ ∧ (c_mk L 7 a14_ ∧ (∃ a17_ : Nat, (c_P S10_ 3 a0) = some a17_ ∧ (c_mk L 7 a17_ ∧ (vp_in (11 : Int32) 32 ∧ (∃ a21_ : Nat, (c_P (cs_A S10_ 1411 a17_ (11 : Int32).toNatClampNeg (c_I S10_ 1400 a14_)) 3 a0) = some a21_ ∧ (c_mk L 7 a21_ ∧ (vp_in (12 : Int32) 32 ∧ (∀ S25_ : c_S, S25_ = (cs_A (cs_A S10_ 1411 a17_ (11 : Int32).toNatClampNeg (c_I S10_ 1400 a14_)) 1411 a21_ (12 : Int32).toNatClampNeg (c_I (cs_A S10_ 1411 a17_ (11 : Int32).toNatClampNeg (c_I S10_ 1400 a14_)) 1410 a14_)) → (∃ a26_ : Nat, (c_P S25_ 1 a0) = some a26_ ∧ (c_mk L 5 a26_ ∧ (∃ a29_ : Nat, (c_P S25_ 3 a0) = some a29_ ∧ (c_mk L 7 a29_ ∧ (vp_in (13 : Int32) 32 ∧ (∃ a33_ : Nat, (c_P (cs_A S25_ 1411 a29_ (13 : Int32).toNatClampNeg (c_I S25_ 1018 a26_)) 1 a0) = some a33_ ∧ (c_mk L 5 a33_ ∧ (Q (c_I (cs_A S25_ 1411 a29_ (13 : Int32).toNatClampNeg (c_I S25_ 1018 a26_)) 1017 a33_) (cs_A S25_ 1411 a29_ (13 : Int32).toNatClampNeg (c_I S25_ 1018 a26_)))))))))))))))))))) ∧ (r11_ = none → (Q (2 : Int32) S10_)))))))) ∧ ((c_I S 1407 a2_) = 0 → (Q (3 : Int32) S))))
set_option maxRecDepth 100000 in
set_option maxHeartbeats 4000000 in
theorem um_X0_tellFault {L : c_L} {T : q_S} (g : c_G L T) (S : c_S) (a0 : Nat) (m_a0 : c_mk L 0 a0) {Q1 : Int32 → c_S → Prop} {Q : Option Value → q_S → Prop} (h : km_X0_tellFault L  S a0 Q1) (hQ : ∀ (v : Int32) (K : c_S), Q1 v K → Q (some (.int v)) (c_E L K T)) : wm_X0_tellFault  (c_E L S T) (c_ob L 0 a0) Q := by
  unfold wm_X0_tellFault
  unfold km_X0_tellFault at h
  try simp only [c_gk g m_a0 1 rfl, c_eD1 m_a0, c_eDs1 (c_gw g) m_a0, c_eD2 m_a0, c_eDs2 (c_gw g) m_a0, c_eD3 m_a0, c_eDs3 (c_gw g) m_a0, true_and, Option.some.injEq, exists_eq_left', c_xm, c_xn, c_xs]
  obtain ⟨a2_, e_a2_, m_a2_, h⟩ := h
  refine ⟨a2_, e_a2_, ?_⟩
  try simp only [c_gk g m_a0 1 rfl, c_gk g m_a2_ 8 rfl, c_eD1 m_a0, c_eDs1 (c_gw g) m_a0, c_eD2 m_a0, c_eDs2 (c_gw g) m_a0, c_eD3 m_a0, c_eDs3 (c_gw g) m_a0, c_eI (f := 1400) m_a2_ rfl, c_eI (f := 1407) m_a2_ rfl, c_eI (f := 1410) m_a2_ rfl, true_and, Option.some.injEq, exists_eq_left', c_xm, c_xn, c_xs]
  refine ⟨fun hc => ?_, fun hc => ?_⟩
  · have h := h.1 hc
    obtain ⟨a6_, e_a6_, m_a6_, h⟩ := h
    refine ⟨a6_, e_a6_, ?_⟩
    try simp only [c_gk g m_a0 1 rfl, c_gk g m_a2_ 8 rfl, c_gk g m_a6_ 6 rfl, c_eD1 m_a0, c_eDs1 (c_gw g) m_a0, c_eD2 m_a0, c_eDs2 (c_gw g) m_a0, c_eD3 m_a0, c_eDs3 (c_gw g) m_a0, c_eI (f := 1400) m_a2_ rfl, c_eI (f := 1407) m_a2_ rfl, c_eI (f := 1410) m_a2_ rfl, c_eI (f := 1016) m_a6_ rfl, c_eI (f := 1017) m_a6_ rfl, c_eI (f := 1018) m_a6_ rfl, true_and, Option.some.injEq, exists_eq_left', c_xm, c_xn, c_xs]
    refine um_X5_processAt g _ a6_ _ m_a6_ h (fun r11_ S10_ h => ?_)
    refine ⟨_, rfl, ?_⟩
    try simp only [c_gk g m_a0 1 rfl, c_gk g m_a2_ 8 rfl, c_gk g m_a6_ 6 rfl, c_eD1 m_a0, c_eDs1 (c_gw g) m_a0, c_eD2 m_a0, c_eDs2 (c_gw g) m_a0, c_eD3 m_a0, c_eDs3 (c_gw g) m_a0, c_eI (f := 1400) m_a2_ rfl, c_eI (f := 1407) m_a2_ rfl, c_eI (f := 1410) m_a2_ rfl, c_eI (f := 1016) m_a6_ rfl, c_eI (f := 1017) m_a6_ rfl, c_eI (f := 1018) m_a6_ rfl, true_and, Option.some.injEq, exists_eq_left', c_xm, c_xn, c_xs]
    refine ⟨fun hc => ?_, fun hc => ?_⟩
    · have h := h.1 hc
      obtain ⟨a14_, e_a14_, m_a14_, h⟩ := h
      refine ⟨a14_, e_a14_, ?_⟩
      try simp only [c_gk g m_a0 1 rfl, c_gk g m_a2_ 8 rfl, c_gk g m_a6_ 6 rfl, c_gk g m_a14_ 8 rfl, c_eD1 m_a0, c_eDs1 (c_gw g) m_a0, c_eD2 m_a0, c_eDs2 (c_gw g) m_a0, c_eD3 m_a0, c_eDs3 (c_gw g) m_a0, c_eI (f := 1400) m_a2_ rfl, c_eI (f := 1407) m_a2_ rfl, c_eI (f := 1410) m_a2_ rfl, c_eI (f := 1016) m_a6_ rfl, c_eI (f := 1017) m_a6_ rfl, c_eI (f := 1018) m_a6_ rfl, c_eI (f := 1400) m_a14_ rfl, c_eI (f := 1407) m_a14_ rfl, c_eI (f := 1410) m_a14_ rfl, true_and, Option.some.injEq, exists_eq_left', c_xm, c_xn, c_xs]
      obtain ⟨a17_, e_a17_, m_a17_, h⟩ := h
      have r_a17_ := c_gA g 1411 rfl (by decide) m_a17_
      refine ⟨a17_, e_a17_, ?_⟩
      try simp only [c_gk g m_a0 1 rfl, c_gk g m_a2_ 8 rfl, c_gk g m_a6_ 6 rfl, c_gk g m_a14_ 8 rfl, c_gk g m_a17_ 8 rfl, c_gr g r_a17_ 21 rfl, c_gN g r_a17_ 32 (by decide), c_eA r_a17_, c_eAs (c_gw g) r_a17_, c_eD1 m_a0, c_eDs1 (c_gw g) m_a0, c_eD2 m_a0, c_eDs2 (c_gw g) m_a0, c_eD3 m_a0, c_eDs3 (c_gw g) m_a0, c_eI (f := 1400) m_a2_ rfl, c_eI (f := 1407) m_a2_ rfl, c_eI (f := 1410) m_a2_ rfl, c_eI (f := 1016) m_a6_ rfl, c_eI (f := 1017) m_a6_ rfl, c_eI (f := 1018) m_a6_ rfl, c_eI (f := 1400) m_a14_ rfl, c_eI (f := 1407) m_a14_ rfl, c_eI (f := 1410) m_a14_ rfl, c_eI (f := 1400) m_a17_ rfl, c_eI (f := 1407) m_a17_ rfl, c_eI (f := 1410) m_a17_ rfl, true_and, Option.some.injEq, exists_eq_left', c_xm, c_xn, c_xs]
      refine ⟨h.1, ?_⟩
      have h := h.2
      obtain ⟨a21_, e_a21_, m_a21_, h⟩ := h
      have r_a21_ := c_gA g 1411 rfl (by decide) m_a21_
      refine ⟨a21_, e_a21_, ?_⟩
      try simp only [c_gk g m_a0 1 rfl, c_gk g m_a2_ 8 rfl, c_gk g m_a6_ 6 rfl, c_gk g m_a14_ 8 rfl, c_gk g m_a17_ 8 rfl, c_gk g m_a21_ 8 rfl, c_gr g r_a17_ 21 rfl, c_gN g r_a17_ 32 (by decide), c_eA r_a17_, c_eAs (c_gw g) r_a17_, c_gr g r_a21_ 21 rfl, c_gN g r_a21_ 32 (by decide), c_eA r_a21_, c_eAs (c_gw g) r_a21_, c_eD1 m_a0, c_eDs1 (c_gw g) m_a0, c_eD2 m_a0, c_eDs2 (c_gw g) m_a0, c_eD3 m_a0, c_eDs3 (c_gw g) m_a0, c_eI (f := 1400) m_a2_ rfl, c_eI (f := 1407) m_a2_ rfl, c_eI (f := 1410) m_a2_ rfl, c_eI (f := 1016) m_a6_ rfl, c_eI (f := 1017) m_a6_ rfl, c_eI (f := 1018) m_a6_ rfl, c_eI (f := 1400) m_a14_ rfl, c_eI (f := 1407) m_a14_ rfl, c_eI (f := 1410) m_a14_ rfl, c_eI (f := 1400) m_a17_ rfl, c_eI (f := 1407) m_a17_ rfl, c_eI (f := 1410) m_a17_ rfl, c_eI (f := 1400) m_a21_ rfl, c_eI (f := 1407) m_a21_ rfl, c_eI (f := 1410) m_a21_ rfl, true_and, Option.some.injEq, exists_eq_left', c_xm, c_xn, c_xs]
      refine ⟨h.1, ?_⟩
      have h := h.2
      refine fun S25_ e_S25_ => ?_
      have h := h S25_ e_S25_
      obtain ⟨a26_, e_a26_, m_a26_, h⟩ := h
      refine ⟨a26_, e_a26_, ?_⟩
      try simp only [c_gk g m_a0 1 rfl, c_gk g m_a2_ 8 rfl, c_gk g m_a6_ 6 rfl, c_gk g m_a14_ 8 rfl, c_gk g m_a17_ 8 rfl, c_gk g m_a21_ 8 rfl, c_gk g m_a26_ 6 rfl, c_gr g r_a17_ 21 rfl, c_gN g r_a17_ 32 (by decide), c_eA r_a17_, c_eAs (c_gw g) r_a17_, c_gr g r_a21_ 21 rfl, c_gN g r_a21_ 32 (by decide), c_eA r_a21_, c_eAs (c_gw g) r_a21_, c_eD1 m_a0, c_eDs1 (c_gw g) m_a0, c_eD2 m_a0, c_eDs2 (c_gw g) m_a0, c_eD3 m_a0, c_eDs3 (c_gw g) m_a0, c_eI (f := 1400) m_a2_ rfl, c_eI (f := 1407) m_a2_ rfl, c_eI (f := 1410) m_a2_ rfl, c_eI (f := 1016) m_a6_ rfl, c_eI (f := 1017) m_a6_ rfl, c_eI (f := 1018) m_a6_ rfl, c_eI (f := 1400) m_a14_ rfl, c_eI (f := 1407) m_a14_ rfl, c_eI (f := 1410) m_a14_ rfl, c_eI (f := 1400) m_a17_ rfl, c_eI (f := 1407) m_a17_ rfl, c_eI (f := 1410) m_a17_ rfl, c_eI (f := 1400) m_a21_ rfl, c_eI (f := 1407) m_a21_ rfl, c_eI (f := 1410) m_a21_ rfl, c_eI (f := 1016) m_a26_ rfl, c_eI (f := 1017) m_a26_ rfl, c_eI (f := 1018) m_a26_ rfl, true_and, Option.some.injEq, exists_eq_left', c_xm, c_xn, c_xs]
      obtain ⟨a29_, e_a29_, m_a29_, h⟩ := h
      have r_a29_ := c_gA g 1411 rfl (by decide) m_a29_
      refine ⟨a29_, e_a29_, ?_⟩
      try simp only [c_gk g m_a0 1 rfl, c_gk g m_a2_ 8 rfl, c_gk g m_a6_ 6 rfl, c_gk g m_a14_ 8 rfl, c_gk g m_a17_ 8 rfl, c_gk g m_a21_ 8 rfl, c_gk g m_a26_ 6 rfl, c_gk g m_a29_ 8 rfl, c_gr g r_a17_ 21 rfl, c_gN g r_a17_ 32 (by decide), c_eA r_a17_, c_eAs (c_gw g) r_a17_, c_gr g r_a21_ 21 rfl, c_gN g r_a21_ 32 (by decide), c_eA r_a21_, c_eAs (c_gw g) r_a21_, c_gr g r_a29_ 21 rfl, c_gN g r_a29_ 32 (by decide), c_eA r_a29_, c_eAs (c_gw g) r_a29_, c_eD1 m_a0, c_eDs1 (c_gw g) m_a0, c_eD2 m_a0, c_eDs2 (c_gw g) m_a0, c_eD3 m_a0, c_eDs3 (c_gw g) m_a0, c_eI (f := 1400) m_a2_ rfl, c_eI (f := 1407) m_a2_ rfl, c_eI (f := 1410) m_a2_ rfl, c_eI (f := 1016) m_a6_ rfl, c_eI (f := 1017) m_a6_ rfl, c_eI (f := 1018) m_a6_ rfl, c_eI (f := 1400) m_a14_ rfl, c_eI (f := 1407) m_a14_ rfl, c_eI (f := 1410) m_a14_ rfl, c_eI (f := 1400) m_a17_ rfl, c_eI (f := 1407) m_a17_ rfl, c_eI (f := 1410) m_a17_ rfl, c_eI (f := 1400) m_a21_ rfl, c_eI (f := 1407) m_a21_ rfl, c_eI (f := 1410) m_a21_ rfl, c_eI (f := 1016) m_a26_ rfl, c_eI (f := 1017) m_a26_ rfl, c_eI (f := 1018) m_a26_ rfl, c_eI (f := 1400) m_a29_ rfl, c_eI (f := 1407) m_a29_ rfl, c_eI (f := 1410) m_a29_ rfl, true_and, Option.some.injEq, exists_eq_left', c_xm, c_xn, c_xs]
      refine ⟨h.1, ?_⟩
      have h := h.2
      obtain ⟨a33_, e_a33_, m_a33_, h⟩ := h
      refine ⟨a33_, e_a33_, ?_⟩
      try simp only [c_gk g m_a0 1 rfl, c_gk g m_a2_ 8 rfl, c_gk g m_a6_ 6 rfl, c_gk g m_a14_ 8 rfl, c_gk g m_a17_ 8 rfl, c_gk g m_a21_ 8 rfl, c_gk g m_a26_ 6 rfl, c_gk g m_a29_ 8 rfl, c_gk g m_a33_ 6 rfl, c_gr g r_a17_ 21 rfl, c_gN g r_a17_ 32 (by decide), c_eA r_a17_, c_eAs (c_gw g) r_a17_, c_gr g r_a21_ 21 rfl, c_gN g r_a21_ 32 (by decide), c_eA r_a21_, c_eAs (c_gw g) r_a21_, c_gr g r_a29_ 21 rfl, c_gN g r_a29_ 32 (by decide), c_eA r_a29_, c_eAs (c_gw g) r_a29_, c_eD1 m_a0, c_eDs1 (c_gw g) m_a0, c_eD2 m_a0, c_eDs2 (c_gw g) m_a0, c_eD3 m_a0, c_eDs3 (c_gw g) m_a0, c_eI (f := 1400) m_a2_ rfl, c_eI (f := 1407) m_a2_ rfl, c_eI (f := 1410) m_a2_ rfl, c_eI (f := 1016) m_a6_ rfl, c_eI (f := 1017) m_a6_ rfl, c_eI (f := 1018) m_a6_ rfl, c_eI (f := 1400) m_a14_ rfl, c_eI (f := 1407) m_a14_ rfl, c_eI (f := 1410) m_a14_ rfl, c_eI (f := 1400) m_a17_ rfl, c_eI (f := 1407) m_a17_ rfl, c_eI (f := 1410) m_a17_ rfl, c_eI (f := 1400) m_a21_ rfl, c_eI (f := 1407) m_a21_ rfl, c_eI (f := 1410) m_a21_ rfl, c_eI (f := 1016) m_a26_ rfl, c_eI (f := 1017) m_a26_ rfl, c_eI (f := 1018) m_a26_ rfl, c_eI (f := 1400) m_a29_ rfl, c_eI (f := 1407) m_a29_ rfl, c_eI (f := 1410) m_a29_ rfl, c_eI (f := 1016) m_a33_ rfl, c_eI (f := 1017) m_a33_ rfl, c_eI (f := 1018) m_a33_ rfl, true_and, Option.some.injEq, exists_eq_left', c_xm, c_xn, c_xs]
      exact hQ _ _ h
    · have h := h.2 hc
      exact hQ _ _ h
  · have h := h.2 hc
    exact hQ _ _ h
def kb_X0_decide_42 (L : c_L) (S : c_S) (Q : Int32 → c_S → Prop) : Prop := Q (1 : Int32) S
set_option maxRecDepth 100000 in
set_option maxHeartbeats 4000000 in
theorem ub_X0_decide_42 {L : c_L} {T : q_S} (g : c_G L T) (S : c_S)  {Q1 : Int32 → c_S → Prop} {Q : Option Value → q_S → Prop} (h : kb_X0_decide_42 L  S Q1) (hQ : ∀ (v : Int32) (K : c_S), Q1 v K → Q (some (.int v)) (c_E L K T)) : wb_X0_decide_42  (c_E L S T) Q := by
  unfold wb_X0_decide_42
  unfold kb_X0_decide_42 at h
  try simp only [true_and, Option.some.injEq, exists_eq_left', c_xm, c_xn, c_xs]
  exact hQ _ _ h
def kb_X0_decide_125 (L : c_L) (S : c_S) (Q : Int32 → c_S → Prop) : Prop := Q (0 : Int32) S
set_option maxRecDepth 100000 in
set_option maxHeartbeats 4000000 in
theorem ub_X0_decide_125 {L : c_L} {T : q_S} (g : c_G L T) (S : c_S)  {Q1 : Int32 → c_S → Prop} {Q : Option Value → q_S → Prop} (h : kb_X0_decide_125 L  S Q1) (hQ : ∀ (v : Int32) (K : c_S), Q1 v K → Q (some (.int v)) (c_E L K T)) : wb_X0_decide_125  (c_E L S T) Q := by
  unfold wb_X0_decide_125
  unfold kb_X0_decide_125 at h
  try simp only [true_and, Option.some.injEq, exists_eq_left', c_xm, c_xn, c_xs]
  exact hQ _ _ h
def kb_X0_decide_113 (L : c_L) (S : c_S) (a0 : Nat) (r2 : Option Nat) (rs0 : Option Nat) (xs1 : Int32) (xs2 : Int32) (Q : Int32 → c_S → Prop) : Prop := ∃ a1_ : Nat, rs0 = some a1_ ∧ (c_mk L 7 a1_ ∧ (∃ a5_ : Nat, (c_P (cs_I S 1410 a1_ (xs1 + xs2)) 1 a0) = some a5_ ∧ (c_mk L 5 a5_ ∧ (km_X5_makeReady L (cs_I S 1410 a1_ (xs1 + xs2)) a5_ r2 (fun S9_ => (kb_X0_decide_125 L S9_ Q))))))
set_option maxRecDepth 100000 in
set_option maxHeartbeats 4000000 in
theorem ub_X0_decide_113 {L : c_L} {T : q_S} (g : c_G L T) (S : c_S) (a0 : Nat) (r2 : Option Nat) (rs0 : Option Nat) (xs1 : Int32) (xs2 : Int32) (m_a0 : c_mk L 0 a0) {Q1 : Int32 → c_S → Prop} {Q : Option Value → q_S → Prop} (h : kb_X0_decide_113 L  S a0 r2 rs0 xs1 xs2 Q1) (hQ : ∀ (v : Int32) (K : c_S), Q1 v K → Q (some (.int v)) (c_E L K T)) : wb_X0_decide_113  (c_E L S T) (c_ob L 0 a0) (r2.map (c_ob L 7)) (rs0.map (c_ob L 7)) xs1 xs2 Q := by
  unfold wb_X0_decide_113
  unfold kb_X0_decide_113 at h
  try simp only [c_gk g m_a0 1 rfl, c_eD1 m_a0, c_eDs1 (c_gw g) m_a0, true_and, Option.some.injEq, exists_eq_left', c_xm, c_xn, c_xs]
  obtain ⟨a1_, e_a1_, m_a1_, h⟩ := h
  refine ⟨a1_, e_a1_, ?_⟩
  try simp only [c_gk g m_a0 1 rfl, c_gk g m_a1_ 8 rfl, c_eD1 m_a0, c_eDs1 (c_gw g) m_a0, c_eIs (f := 1410) (c_gw g) m_a1_ rfl, true_and, Option.some.injEq, exists_eq_left', c_xm, c_xn, c_xs]
  obtain ⟨a5_, e_a5_, m_a5_, h⟩ := h
  refine ⟨a5_, e_a5_, ?_⟩
  try simp only [c_gk g m_a0 1 rfl, c_gk g m_a1_ 8 rfl, c_gk g m_a5_ 6 rfl, c_eD1 m_a0, c_eDs1 (c_gw g) m_a0, c_eIs (f := 1410) (c_gw g) m_a1_ rfl, true_and, Option.some.injEq, exists_eq_left', c_xm, c_xn, c_xs]
  refine um_X5_makeReady g _ a5_ r2 m_a5_ h (fun S9_ h => ?_)
  refine ⟨rfl, ?_⟩
  try simp only [c_gk g m_a0 1 rfl, c_gk g m_a1_ 8 rfl, c_gk g m_a5_ 6 rfl, c_eD1 m_a0, c_eDs1 (c_gw g) m_a0, c_eIs (f := 1410) (c_gw g) m_a1_ rfl, true_and, Option.some.injEq, exists_eq_left', c_xm, c_xn, c_xs]
  exact ub_X0_decide_125 g _  h hQ
def km_X0_decide (L : c_L) (S : c_S) (a0 : Nat) (x1 : Int32) (Q : Int32 → c_S → Prop) : Prop := ∃ a11_ : Nat, (c_P S 2 a0) = some a11_ ∧ (c_mk L 7 a11_ ∧ ((¬ (c_I S 1407 a11_) = 0 → (∃ a15_ : Nat, (c_P S 1 a0) = some a15_ ∧ (c_mk L 5 a15_ ∧ (km_X5_processAt L S a15_ (c_I S 1016 a15_) (fun r20_ S19_ => ((¬ r20_ = none → ((x1 < 0 → (kb_X0_decide_42 L S19_ Q)) ∧ (¬ x1 < 0 → ((x1 ≤ (2 : Int32) → ((¬ x1 = (1 : Int32) → ((¬ x1 = (2 : Int32) → (∃ a27_ : Nat, (c_P S19_ 1 a0) = some a27_ ∧ (c_mk L 5 a27_ ∧ (∃ a30_ : Nat, r20_ = some a30_ ∧ (c_mk L 7 a30_ ∧ (∃ a33_ : Nat, (c_P (cs_I S19_ 1016 a27_ (-1 : Int32)) 1 a0) = some a33_ ∧ (c_mk L 5 a33_ ∧ ((¬ (c_I (cs_I S19_ 1016 a27_ (-1 : Int32)) 1017 a33_) = (2 : Int32) → (kb_X0_decide_113 L (cs_I S19_ 1016 a27_ (-1 : Int32)) a0 r20_ r20_ (c_I (cs_I S19_ 1016 a27_ (-1 : Int32)) 1410 a30_) (4 : Int32) Q)) ∧ ((c_I (cs_I S19_ 1016 a27_ (-1 : Int32)) 1017 a33_) = (2 : Int32) → (kb_X0_decide_113 L (cs_I S19_ 1016 a27_ (-1 : Int32)) a0 r20_ r20_ (c_I (cs_I S19_ 1016 a27_ (-1 : Int32)) 1410 a30_) (0 : Int32) Q)))))))))) ∧ (x1 = (2 : Int32) → (∃ a38_ : Nat, (c_P S19_ 1 a0) = some a38_ ∧ (c_mk L 5 a38_ ∧ (km_X5_start L S19_ a38_ r20_ (c_I S19_ 4 a0) (c_I S19_ 4 a0) (fun S42_ => (kb_X0_decide_125 L S42_ Q)))))))) ∧ (x1 = (1 : Int32) → (∃ a44_ : Nat, (c_P S19_ 1 a0) = some a44_ ∧ (c_mk L 5 a44_ ∧ (km_X5_rest L S19_ a44_ r20_ (fun S48_ => (kb_X0_decide_125 L S48_ Q)))))))) ∧ (¬ x1 ≤ (2 : Int32) → (kb_X0_decide_42 L S19_ Q)))))) ∧ (r20_ = none → (Q (2 : Int32) S19_)))))))) ∧ ((c_I S 1407 a11_) = 0 → (Q (3 : Int32) S))))
set_option maxRecDepth 100000 in
set_option maxHeartbeats 4000000 in
theorem um_X0_decide {L : c_L} {T : q_S} (g : c_G L T) (S : c_S) (a0 : Nat) (x1 : Int32) (m_a0 : c_mk L 0 a0) {Q1 : Int32 → c_S → Prop} {Q : Option Value → q_S → Prop} (h : km_X0_decide L  S a0 x1 Q1) (hQ : ∀ (v : Int32) (K : c_S), Q1 v K → Q (some (.int v)) (c_E L K T)) : wm_X0_decide  (c_E L S T) (c_ob L 0 a0) x1 Q := by
  unfold wm_X0_decide
  unfold km_X0_decide at h
  try simp only [c_gk g m_a0 1 rfl, c_eI (f := 4) m_a0 rfl, c_eD1 m_a0, c_eDs1 (c_gw g) m_a0, c_eD2 m_a0, c_eDs2 (c_gw g) m_a0, true_and, Option.some.injEq, exists_eq_left', c_xm, c_xn, c_xs]
  obtain ⟨a11_, e_a11_, m_a11_, h⟩ := h
  refine ⟨a11_, e_a11_, ?_⟩
  try simp only [c_gk g m_a0 1 rfl, c_gk g m_a11_ 8 rfl, c_eI (f := 4) m_a0 rfl, c_eD1 m_a0, c_eDs1 (c_gw g) m_a0, c_eD2 m_a0, c_eDs2 (c_gw g) m_a0, c_eI (f := 1407) m_a11_ rfl, c_eI (f := 1410) m_a11_ rfl, true_and, Option.some.injEq, exists_eq_left', c_xm, c_xn, c_xs]
  refine ⟨fun hc => ?_, fun hc => ?_⟩
  · have h := h.1 hc
    obtain ⟨a15_, e_a15_, m_a15_, h⟩ := h
    refine ⟨a15_, e_a15_, ?_⟩
    try simp only [c_gk g m_a0 1 rfl, c_gk g m_a11_ 8 rfl, c_gk g m_a15_ 6 rfl, c_eI (f := 4) m_a0 rfl, c_eD1 m_a0, c_eDs1 (c_gw g) m_a0, c_eD2 m_a0, c_eDs2 (c_gw g) m_a0, c_eI (f := 1407) m_a11_ rfl, c_eI (f := 1410) m_a11_ rfl, c_eI (f := 1016) m_a15_ rfl, c_eI (f := 1017) m_a15_ rfl, c_eIs (f := 1016) (c_gw g) m_a15_ rfl, true_and, Option.some.injEq, exists_eq_left', c_xm, c_xn, c_xs]
    refine um_X5_processAt g _ a15_ _ m_a15_ h (fun r20_ S19_ h => ?_)
    refine ⟨_, rfl, ?_⟩
    try simp only [c_gk g m_a0 1 rfl, c_gk g m_a11_ 8 rfl, c_gk g m_a15_ 6 rfl, c_eI (f := 4) m_a0 rfl, c_eD1 m_a0, c_eDs1 (c_gw g) m_a0, c_eD2 m_a0, c_eDs2 (c_gw g) m_a0, c_eI (f := 1407) m_a11_ rfl, c_eI (f := 1410) m_a11_ rfl, c_eI (f := 1016) m_a15_ rfl, c_eI (f := 1017) m_a15_ rfl, c_eIs (f := 1016) (c_gw g) m_a15_ rfl, true_and, Option.some.injEq, exists_eq_left', c_xm, c_xn, c_xs]
    refine ⟨fun hc => ?_, fun hc => ?_⟩
    · have h := h.1 hc
      refine ⟨fun hc => ?_, fun hc => ?_⟩
      · have h := h.1 hc
        exact ub_X0_decide_42 g _  h hQ
      · have h := h.2 hc
        refine ⟨fun hc => ?_, fun hc => ?_⟩
        · have h := h.1 hc
          refine ⟨fun hc => ?_, fun hc => ?_⟩
          · have h := h.1 hc
            refine ⟨fun hc => ?_, fun hc => ?_⟩
            · have h := h.1 hc
              obtain ⟨a27_, e_a27_, m_a27_, h⟩ := h
              refine ⟨a27_, e_a27_, ?_⟩
              try simp only [c_gk g m_a0 1 rfl, c_gk g m_a11_ 8 rfl, c_gk g m_a15_ 6 rfl, c_gk g m_a27_ 6 rfl, c_eI (f := 4) m_a0 rfl, c_eD1 m_a0, c_eDs1 (c_gw g) m_a0, c_eD2 m_a0, c_eDs2 (c_gw g) m_a0, c_eI (f := 1407) m_a11_ rfl, c_eI (f := 1410) m_a11_ rfl, c_eI (f := 1016) m_a15_ rfl, c_eI (f := 1017) m_a15_ rfl, c_eIs (f := 1016) (c_gw g) m_a15_ rfl, c_eI (f := 1016) m_a27_ rfl, c_eI (f := 1017) m_a27_ rfl, c_eIs (f := 1016) (c_gw g) m_a27_ rfl, true_and, Option.some.injEq, exists_eq_left', c_xm, c_xn, c_xs]
              obtain ⟨a30_, e_a30_, m_a30_, h⟩ := h
              refine ⟨a30_, e_a30_, ?_⟩
              try simp only [c_gk g m_a0 1 rfl, c_gk g m_a11_ 8 rfl, c_gk g m_a15_ 6 rfl, c_gk g m_a27_ 6 rfl, c_gk g m_a30_ 8 rfl, c_eI (f := 4) m_a0 rfl, c_eD1 m_a0, c_eDs1 (c_gw g) m_a0, c_eD2 m_a0, c_eDs2 (c_gw g) m_a0, c_eI (f := 1407) m_a11_ rfl, c_eI (f := 1410) m_a11_ rfl, c_eI (f := 1016) m_a15_ rfl, c_eI (f := 1017) m_a15_ rfl, c_eIs (f := 1016) (c_gw g) m_a15_ rfl, c_eI (f := 1016) m_a27_ rfl, c_eI (f := 1017) m_a27_ rfl, c_eIs (f := 1016) (c_gw g) m_a27_ rfl, c_eI (f := 1407) m_a30_ rfl, c_eI (f := 1410) m_a30_ rfl, true_and, Option.some.injEq, exists_eq_left', c_xm, c_xn, c_xs]
              obtain ⟨a33_, e_a33_, m_a33_, h⟩ := h
              refine ⟨a33_, e_a33_, ?_⟩
              try simp only [c_gk g m_a0 1 rfl, c_gk g m_a11_ 8 rfl, c_gk g m_a15_ 6 rfl, c_gk g m_a27_ 6 rfl, c_gk g m_a30_ 8 rfl, c_gk g m_a33_ 6 rfl, c_eI (f := 4) m_a0 rfl, c_eD1 m_a0, c_eDs1 (c_gw g) m_a0, c_eD2 m_a0, c_eDs2 (c_gw g) m_a0, c_eI (f := 1407) m_a11_ rfl, c_eI (f := 1410) m_a11_ rfl, c_eI (f := 1016) m_a15_ rfl, c_eI (f := 1017) m_a15_ rfl, c_eIs (f := 1016) (c_gw g) m_a15_ rfl, c_eI (f := 1016) m_a27_ rfl, c_eI (f := 1017) m_a27_ rfl, c_eIs (f := 1016) (c_gw g) m_a27_ rfl, c_eI (f := 1407) m_a30_ rfl, c_eI (f := 1410) m_a30_ rfl, c_eI (f := 1016) m_a33_ rfl, c_eI (f := 1017) m_a33_ rfl, c_eIs (f := 1016) (c_gw g) m_a33_ rfl, true_and, Option.some.injEq, exists_eq_left', c_xm, c_xn, c_xs]
              refine ⟨fun hc => ?_, fun hc => ?_⟩
              · have h := h.1 hc
                exact ub_X0_decide_113 g _ a0 r20_ r20_ _ _ m_a0 h hQ
              · have h := h.2 hc
                exact ub_X0_decide_113 g _ a0 r20_ r20_ _ _ m_a0 h hQ
            · have h := h.2 hc
              obtain ⟨a38_, e_a38_, m_a38_, h⟩ := h
              refine ⟨a38_, e_a38_, ?_⟩
              try simp only [c_gk g m_a0 1 rfl, c_gk g m_a11_ 8 rfl, c_gk g m_a15_ 6 rfl, c_gk g m_a38_ 6 rfl, c_eI (f := 4) m_a0 rfl, c_eD1 m_a0, c_eDs1 (c_gw g) m_a0, c_eD2 m_a0, c_eDs2 (c_gw g) m_a0, c_eI (f := 1407) m_a11_ rfl, c_eI (f := 1410) m_a11_ rfl, c_eI (f := 1016) m_a15_ rfl, c_eI (f := 1017) m_a15_ rfl, c_eIs (f := 1016) (c_gw g) m_a15_ rfl, c_eI (f := 1016) m_a38_ rfl, c_eI (f := 1017) m_a38_ rfl, c_eIs (f := 1016) (c_gw g) m_a38_ rfl, true_and, Option.some.injEq, exists_eq_left', c_xm, c_xn, c_xs]
              refine um_X5_start g _ a38_ r20_ _ _ m_a38_ h (fun S42_ h => ?_)
              refine ⟨rfl, ?_⟩
              try simp only [c_gk g m_a0 1 rfl, c_gk g m_a11_ 8 rfl, c_gk g m_a15_ 6 rfl, c_gk g m_a38_ 6 rfl, c_eI (f := 4) m_a0 rfl, c_eD1 m_a0, c_eDs1 (c_gw g) m_a0, c_eD2 m_a0, c_eDs2 (c_gw g) m_a0, c_eI (f := 1407) m_a11_ rfl, c_eI (f := 1410) m_a11_ rfl, c_eI (f := 1016) m_a15_ rfl, c_eI (f := 1017) m_a15_ rfl, c_eIs (f := 1016) (c_gw g) m_a15_ rfl, c_eI (f := 1016) m_a38_ rfl, c_eI (f := 1017) m_a38_ rfl, c_eIs (f := 1016) (c_gw g) m_a38_ rfl, true_and, Option.some.injEq, exists_eq_left', c_xm, c_xn, c_xs]
              exact ub_X0_decide_125 g _  h hQ
          · have h := h.2 hc
            obtain ⟨a44_, e_a44_, m_a44_, h⟩ := h
            refine ⟨a44_, e_a44_, ?_⟩
            try simp only [c_gk g m_a0 1 rfl, c_gk g m_a11_ 8 rfl, c_gk g m_a15_ 6 rfl, c_gk g m_a44_ 6 rfl, c_eI (f := 4) m_a0 rfl, c_eD1 m_a0, c_eDs1 (c_gw g) m_a0, c_eD2 m_a0, c_eDs2 (c_gw g) m_a0, c_eI (f := 1407) m_a11_ rfl, c_eI (f := 1410) m_a11_ rfl, c_eI (f := 1016) m_a15_ rfl, c_eI (f := 1017) m_a15_ rfl, c_eIs (f := 1016) (c_gw g) m_a15_ rfl, c_eI (f := 1016) m_a44_ rfl, c_eI (f := 1017) m_a44_ rfl, c_eIs (f := 1016) (c_gw g) m_a44_ rfl, true_and, Option.some.injEq, exists_eq_left', c_xm, c_xn, c_xs]
            refine um_X5_rest g _ a44_ r20_ m_a44_ h (fun S48_ h => ?_)
            refine ⟨rfl, ?_⟩
            try simp only [c_gk g m_a0 1 rfl, c_gk g m_a11_ 8 rfl, c_gk g m_a15_ 6 rfl, c_gk g m_a44_ 6 rfl, c_eI (f := 4) m_a0 rfl, c_eD1 m_a0, c_eDs1 (c_gw g) m_a0, c_eD2 m_a0, c_eDs2 (c_gw g) m_a0, c_eI (f := 1407) m_a11_ rfl, c_eI (f := 1410) m_a11_ rfl, c_eI (f := 1016) m_a15_ rfl, c_eI (f := 1017) m_a15_ rfl, c_eIs (f := 1016) (c_gw g) m_a15_ rfl, c_eI (f := 1016) m_a44_ rfl, c_eI (f := 1017) m_a44_ rfl, c_eIs (f := 1016) (c_gw g) m_a44_ rfl, true_and, Option.some.injEq, exists_eq_left', c_xm, c_xn, c_xs]
            exact ub_X0_decide_125 g _  h hQ
        · have h := h.2 hc
          exact ub_X0_decide_42 g _  h hQ
    · have h := h.2 hc
      exact hQ _ _ h
  · have h := h.2 hc
    exact hQ _ _ h
def km_X0_ofPartition (L : c_L) (S : c_S) (a0 : Nat) (x1 : Int32) (x2 : Int32) (Q : Int32 → c_S → Prop) : Prop := (x1.toInt < 21 ∨ 24 < x1.toInt → (km_X0_decide L S a0 x2 (fun x4_ S3_ => (Q x4_ S3_)))) ∧ (x1 = (21 : Int32) → (km_X0_lock L S a0 (fun x8_ S7_ => (Q x8_ S7_)))) ∧ (x1 = (22 : Int32) → (km_X0_unlock L S a0 (fun x12_ S11_ => (Q x12_ S11_)))) ∧ (x1 = (23 : Int32) → (km_X0_beginPartition L S a0 x2 (fun x16_ S15_ => (Q x16_ S15_)))) ∧ (x1 = (24 : Int32) → (km_X0_tellFault L S a0 (fun x20_ S19_ => (Q x20_ S19_))))
set_option maxRecDepth 100000 in
set_option maxHeartbeats 4000000 in
theorem um_X0_ofPartition {L : c_L} {T : q_S} (g : c_G L T) (S : c_S) (a0 : Nat) (x1 : Int32) (x2 : Int32) (m_a0 : c_mk L 0 a0) {Q1 : Int32 → c_S → Prop} {Q : Option Value → q_S → Prop} (h : km_X0_ofPartition L  S a0 x1 x2 Q1) (hQ : ∀ (v : Int32) (K : c_S), Q1 v K → Q (some (.int v)) (c_E L K T)) : wm_X0_ofPartition  (c_E L S T) (c_ob L 0 a0) x1 x2 Q := by
  unfold wm_X0_ofPartition
  unfold km_X0_ofPartition at h
  try simp only [c_gk g m_a0 1 rfl, true_and, Option.some.injEq, exists_eq_left', c_xm, c_xn, c_xs]
  refine ⟨fun hc => ?_, fun hc => ?_, fun hc => ?_, fun hc => ?_, fun hc => ?_⟩
  · have h := h.1 hc
    refine um_X0_decide g _ a0 _ m_a0 h (fun x4_ S3_ h => ?_)
    refine ⟨_, rfl, ?_⟩
    try simp only [c_gk g m_a0 1 rfl, true_and, Option.some.injEq, exists_eq_left', c_xm, c_xn, c_xs]
    exact hQ _ _ h
  · have h := h.2.1 hc
    refine um_X0_lock g _ a0 m_a0 h (fun x8_ S7_ h => ?_)
    refine ⟨_, rfl, ?_⟩
    try simp only [c_gk g m_a0 1 rfl, true_and, Option.some.injEq, exists_eq_left', c_xm, c_xn, c_xs]
    exact hQ _ _ h
  · have h := h.2.2.1 hc
    refine um_X0_unlock g _ a0 m_a0 h (fun x12_ S11_ h => ?_)
    refine ⟨_, rfl, ?_⟩
    try simp only [c_gk g m_a0 1 rfl, true_and, Option.some.injEq, exists_eq_left', c_xm, c_xn, c_xs]
    exact hQ _ _ h
  · have h := h.2.2.2.1 hc
    refine um_X0_beginPartition g _ a0 _ m_a0 h (fun x16_ S15_ h => ?_)
    refine ⟨_, rfl, ?_⟩
    try simp only [c_gk g m_a0 1 rfl, true_and, Option.some.injEq, exists_eq_left', c_xm, c_xn, c_xs]
    exact hQ _ _ h
  · have h := h.2.2.2.2 hc
    refine um_X0_tellFault g _ a0 m_a0 h (fun x20_ S19_ h => ?_)
    refine ⟨_, rfl, ?_⟩
    try simp only [c_gk g m_a0 1 rfl, true_and, Option.some.injEq, exists_eq_left', c_xm, c_xn, c_xs]
    exact hQ _ _ h
def kb_X0_waitToGoOn_32 (L : c_L) (S : c_S) (xs0 : Int32) (Q : Int32 → c_S → Prop) : Prop := Q xs0 S
set_option maxRecDepth 100000 in
set_option maxHeartbeats 4000000 in
theorem ub_X0_waitToGoOn_32 {L : c_L} {T : q_S} (g : c_G L T) (S : c_S) (xs0 : Int32)  {Q1 : Int32 → c_S → Prop} {Q : Option Value → q_S → Prop} (h : kb_X0_waitToGoOn_32 L  S xs0 Q1) (hQ : ∀ (v : Int32) (K : c_S), Q1 v K → Q (some (.int v)) (c_E L K T)) : wb_X0_waitToGoOn_32  (c_E L S T) xs0 Q := by
  unfold wb_X0_waitToGoOn_32
  unfold kb_X0_waitToGoOn_32 at h
  try simp only [true_and, Option.some.injEq, exists_eq_left', c_xm, c_xn, c_xs]
  exact hQ _ _ h
def km_X0_waitToGoOn (L : c_L) (S : c_S) (a0 : Nat) (x1 : Int32) (Q : Int32 → c_S → Prop) : Prop := km_X0_isNoTime L S a0 x1 (fun x4_ S3_ => ((x4_ = 0 → (∃ a7_ : Nat, (c_P S3_ 2 a0) = some a7_ ∧ (c_mk L 7 a7_ ∧ (((c_I S3_ 1404 a7_) ≤ 0 → (km_X0_waitFor L S3_ a0 (129 : Int32) x1 (fun x13_ S12_ => (kb_X0_waitToGoOn_32 L S12_ x13_ Q)))) ∧ (¬ (c_I S3_ 1404 a7_) ≤ 0 → (kb_X0_waitToGoOn_32 L S3_ (3 : Int32) Q)))))) ∧ (¬ x4_ = 0 → (Q (1 : Int32) S3_))))
set_option maxRecDepth 100000 in
set_option maxHeartbeats 4000000 in
theorem um_X0_waitToGoOn {L : c_L} {T : q_S} (g : c_G L T) (S : c_S) (a0 : Nat) (x1 : Int32) (m_a0 : c_mk L 0 a0) {Q1 : Int32 → c_S → Prop} {Q : Option Value → q_S → Prop} (h : km_X0_waitToGoOn L  S a0 x1 Q1) (hQ : ∀ (v : Int32) (K : c_S), Q1 v K → Q (some (.int v)) (c_E L K T)) : wm_X0_waitToGoOn  (c_E L S T) (c_ob L 0 a0) x1 Q := by
  unfold wm_X0_waitToGoOn
  unfold km_X0_waitToGoOn at h
  try simp only [c_gk g m_a0 1 rfl, c_eD2 m_a0, c_eDs2 (c_gw g) m_a0, true_and, Option.some.injEq, exists_eq_left', c_xm, c_xn, c_xs]
  refine um_X0_isNoTime g _ a0 _ m_a0 h (fun x4_ S3_ h => ?_)
  refine ⟨_, rfl, ?_⟩
  try simp only [c_gk g m_a0 1 rfl, c_eD2 m_a0, c_eDs2 (c_gw g) m_a0, true_and, Option.some.injEq, exists_eq_left', c_xm, c_xn, c_xs]
  refine ⟨fun hc => ?_, fun hc => ?_⟩
  · have h := h.1 hc
    obtain ⟨a7_, e_a7_, m_a7_, h⟩ := h
    refine ⟨a7_, e_a7_, ?_⟩
    try simp only [c_gk g m_a0 1 rfl, c_gk g m_a7_ 8 rfl, c_eD2 m_a0, c_eDs2 (c_gw g) m_a0, c_eI (f := 1404) m_a7_ rfl, true_and, Option.some.injEq, exists_eq_left', c_xm, c_xn, c_xs]
    refine ⟨fun hc => ?_, fun hc => ?_⟩
    · have h := h.1 hc
      refine um_X0_waitFor g _ a0 _ _ m_a0 h (fun x13_ S12_ h => ?_)
      refine ⟨_, rfl, ?_⟩
      try simp only [c_gk g m_a0 1 rfl, c_gk g m_a7_ 8 rfl, c_eD2 m_a0, c_eDs2 (c_gw g) m_a0, c_eI (f := 1404) m_a7_ rfl, true_and, Option.some.injEq, exists_eq_left', c_xm, c_xn, c_xs]
      exact ub_X0_waitToGoOn_32 g _ _  h hQ
    · have h := h.2 hc
      exact ub_X0_waitToGoOn_32 g _ _  h hQ
  · have h := h.2 hc
    exact hQ _ _ h
def kb_X0_hold_28 (L : c_L) (S : c_S) (Q : Int32 → c_S → Prop) : Prop := Q (1 : Int32) S
set_option maxRecDepth 100000 in
set_option maxHeartbeats 4000000 in
theorem ub_X0_hold_28 {L : c_L} {T : q_S} (g : c_G L T) (S : c_S)  {Q1 : Int32 → c_S → Prop} {Q : Option Value → q_S → Prop} (h : kb_X0_hold_28 L  S Q1) (hQ : ∀ (v : Int32) (K : c_S), Q1 v K → Q (some (.int v)) (c_E L K T)) : wb_X0_hold_28  (c_E L S T) Q := by
  unfold wb_X0_hold_28
  unfold kb_X0_hold_28 at h
  try simp only [true_and, Option.some.injEq, exists_eq_left', c_xm, c_xn, c_xs]
  exact hQ _ _ h
def kb_X0_hold_58 (L : c_L) (S : c_S) (Q : Int32 → c_S → Prop) : Prop := Q (3 : Int32) S
set_option maxRecDepth 100000 in
set_option maxHeartbeats 4000000 in
theorem ub_X0_hold_58 {L : c_L} {T : q_S} (g : c_G L T) (S : c_S)  {Q1 : Int32 → c_S → Prop} {Q : Option Value → q_S → Prop} (h : kb_X0_hold_58 L  S Q1) (hQ : ∀ (v : Int32) (K : c_S), Q1 v K → Q (some (.int v)) (c_E L K T)) : wb_X0_hold_58  (c_E L S T) Q := by
  unfold wb_X0_hold_58
  unfold kb_X0_hold_58 at h
  try simp only [true_and, Option.some.injEq, exists_eq_left', c_xm, c_xn, c_xs]
  exact hQ _ _ h
def kb_X0_hold_82 (L : c_L) (S : c_S) (Q : Int32 → c_S → Prop) : Prop := Q (2 : Int32) S
set_option maxRecDepth 100000 in
set_option maxHeartbeats 4000000 in
theorem ub_X0_hold_82 {L : c_L} {T : q_S} (g : c_G L T) (S : c_S)  {Q1 : Int32 → c_S → Prop} {Q : Option Value → q_S → Prop} (h : kb_X0_hold_82 L  S Q1) (hQ : ∀ (v : Int32) (K : c_S), Q1 v K → Q (some (.int v)) (c_E L K T)) : wb_X0_hold_82  (c_E L S T) Q := by
  unfold wb_X0_hold_82
  unfold kb_X0_hold_82 at h
  try simp only [true_and, Option.some.injEq, exists_eq_left', c_xm, c_xn, c_xs]
  exact hQ _ _ h
def kb_X0_hold_60 (L : c_L) (S : c_S) (r2 : Option Nat) (Q : Int32 → c_S → Prop) : Prop := ∃ a1_ : Nat, r2 = some a1_ ∧ (c_mk L 7 a1_ ∧ (((c_I S 1409 a1_) = 0 → (kb_X0_hold_82 L S Q)) ∧ (¬ (c_I S 1409 a1_) = 0 → (((c_I S 1409 a1_) = (3 : Int32) → (kb_X0_hold_82 L S Q)) ∧ (¬ (c_I S 1409 a1_) = (3 : Int32) → (((c_I S 1416 a1_) = 0 → (Q (0 : Int32) (cs_I S 1416 a1_ (1 : Int32)))) ∧ (¬ (c_I S 1416 a1_) = 0 → (kb_X0_hold_82 L S Q))))))))
set_option maxRecDepth 100000 in
set_option maxHeartbeats 4000000 in
theorem ub_X0_hold_60 {L : c_L} {T : q_S} (g : c_G L T) (S : c_S) (r2 : Option Nat)  {Q1 : Int32 → c_S → Prop} {Q : Option Value → q_S → Prop} (h : kb_X0_hold_60 L  S r2 Q1) (hQ : ∀ (v : Int32) (K : c_S), Q1 v K → Q (some (.int v)) (c_E L K T)) : wb_X0_hold_60  (c_E L S T) (r2.map (c_ob L 7)) Q := by
  unfold wb_X0_hold_60
  unfold kb_X0_hold_60 at h
  try simp only [true_and, Option.some.injEq, exists_eq_left', c_xm, c_xn, c_xs]
  obtain ⟨a1_, e_a1_, m_a1_, h⟩ := h
  refine ⟨a1_, e_a1_, ?_⟩
  try simp only [c_gk g m_a1_ 8 rfl, c_eI (f := 1409) m_a1_ rfl, c_eI (f := 1416) m_a1_ rfl, c_eIs (f := 1416) (c_gw g) m_a1_ rfl, true_and, Option.some.injEq, exists_eq_left', c_xm, c_xn, c_xs]
  refine ⟨fun hc => ?_, fun hc => ?_⟩
  · have h := h.1 hc
    exact ub_X0_hold_82 g _  h hQ
  · have h := h.2 hc
    refine ⟨fun hc => ?_, fun hc => ?_⟩
    · have h := h.1 hc
      exact ub_X0_hold_82 g _  h hQ
    · have h := h.2 hc
      refine ⟨fun hc => ?_, fun hc => ?_⟩
      · have h := h.1 hc
        exact hQ _ _ h
      · have h := h.2 hc
        exact ub_X0_hold_82 g _  h hQ
def km_X0_hold (L : c_L) (S : c_S) (a0 : Nat) (x1 : Int32) (Q : Int32 → c_S → Prop) : Prop := ∃ a8_ : Nat, (c_P S 1 a0) = some a8_ ∧ (c_mk L 5 a8_ ∧ (km_X5_processAt L S a8_ x1 (fun r13_ S12_ => ((r13_ = none → (kb_X0_hold_28 L S12_ Q)) ∧ (¬ r13_ = none → ((∀ i : Nat, r13_ = some i → c_mk L 7 i) ∧ (∀ i : Nat, (c_P S12_ 2 a0) = some i → c_mk L 7 i) ∧ ((r13_ = (c_P S12_ 2 a0) → (kb_X0_hold_28 L S12_ Q)) ∧ (¬ r13_ = (c_P S12_ 2 a0) → (∃ a17_ : Nat, r13_ = some a17_ ∧ (c_mk L 7 a17_ ∧ (((c_I S12_ 1407 a17_) = 0 → ((0 < (c_I S12_ 1404 a17_) → (kb_X0_hold_58 L S12_ Q)) ∧ (¬ 0 < (c_I S12_ 1404 a17_) → (∃ a22_ : Nat, (c_P S12_ 1 a0) = some a22_ ∧ (c_mk L 5 a22_ ∧ (((c_I S12_ 1013 a22_) ≤ 0 → (kb_X0_hold_60 L S12_ r13_ Q)) ∧ (¬ (c_I S12_ 1013 a22_) ≤ 0 → ((¬ (c_I S12_ 1014 a22_) = x1 → (kb_X0_hold_60 L S12_ r13_ Q)) ∧ ((c_I S12_ 1014 a22_) = x1 → (kb_X0_hold_58 L S12_ Q)))))))))) ∧ (¬ (c_I S12_ 1407 a17_) = 0 → (kb_X0_hold_28 L S12_ Q)))))))))))))
set_option maxRecDepth 100000 in
set_option maxHeartbeats 4000000 in
theorem um_X0_hold {L : c_L} {T : q_S} (g : c_G L T) (S : c_S) (a0 : Nat) (x1 : Int32) (m_a0 : c_mk L 0 a0) {Q1 : Int32 → c_S → Prop} {Q : Option Value → q_S → Prop} (h : km_X0_hold L  S a0 x1 Q1) (hQ : ∀ (v : Int32) (K : c_S), Q1 v K → Q (some (.int v)) (c_E L K T)) : wm_X0_hold  (c_E L S T) (c_ob L 0 a0) x1 Q := by
  unfold wm_X0_hold
  unfold km_X0_hold at h
  try simp only [c_gk g m_a0 1 rfl, c_eD1 m_a0, c_eDs1 (c_gw g) m_a0, c_eD2 m_a0, c_eDs2 (c_gw g) m_a0, true_and, Option.some.injEq, exists_eq_left', c_xm, c_xn, c_xs]
  obtain ⟨a8_, e_a8_, m_a8_, h⟩ := h
  refine ⟨a8_, e_a8_, ?_⟩
  try simp only [c_gk g m_a0 1 rfl, c_gk g m_a8_ 6 rfl, c_eD1 m_a0, c_eDs1 (c_gw g) m_a0, c_eD2 m_a0, c_eDs2 (c_gw g) m_a0, c_eI (f := 1013) m_a8_ rfl, c_eI (f := 1014) m_a8_ rfl, true_and, Option.some.injEq, exists_eq_left', c_xm, c_xn, c_xs]
  refine um_X5_processAt g _ a8_ _ m_a8_ h (fun r13_ S12_ h => ?_)
  refine ⟨_, rfl, ?_⟩
  try simp only [c_gk g m_a0 1 rfl, c_gk g m_a8_ 6 rfl, c_eD1 m_a0, c_eDs1 (c_gw g) m_a0, c_eD2 m_a0, c_eDs2 (c_gw g) m_a0, c_eI (f := 1013) m_a8_ rfl, c_eI (f := 1014) m_a8_ rfl, true_and, Option.some.injEq, exists_eq_left', c_xm, c_xn, c_xs]
  refine ⟨fun hc => ?_, fun hc => ?_⟩
  · have h := h.1 hc
    exact ub_X0_hold_28 g _  h hQ
  · have h := h.2 hc
    obtain ⟨hg1, hg2, h⟩ := h
    simp only [c_xe (c_gw g) hg1 hg2]
    refine ⟨fun hc => ?_, fun hc => ?_⟩
    · have h := h.1 hc
      exact ub_X0_hold_28 g _  h hQ
    · have h := h.2 hc
      obtain ⟨a17_, e_a17_, m_a17_, h⟩ := h
      refine ⟨a17_, e_a17_, ?_⟩
      try simp only [c_gk g m_a0 1 rfl, c_gk g m_a8_ 6 rfl, c_gk g m_a17_ 8 rfl, c_eD1 m_a0, c_eDs1 (c_gw g) m_a0, c_eD2 m_a0, c_eDs2 (c_gw g) m_a0, c_eI (f := 1013) m_a8_ rfl, c_eI (f := 1014) m_a8_ rfl, c_eI (f := 1404) m_a17_ rfl, c_eI (f := 1407) m_a17_ rfl, true_and, Option.some.injEq, exists_eq_left', c_xm, c_xn, c_xs]
      refine ⟨fun hc => ?_, fun hc => ?_⟩
      · have h := h.1 hc
        refine ⟨fun hc => ?_, fun hc => ?_⟩
        · have h := h.1 hc
          exact ub_X0_hold_58 g _  h hQ
        · have h := h.2 hc
          obtain ⟨a22_, e_a22_, m_a22_, h⟩ := h
          refine ⟨a22_, e_a22_, ?_⟩
          try simp only [c_gk g m_a0 1 rfl, c_gk g m_a8_ 6 rfl, c_gk g m_a17_ 8 rfl, c_gk g m_a22_ 6 rfl, c_eD1 m_a0, c_eDs1 (c_gw g) m_a0, c_eD2 m_a0, c_eDs2 (c_gw g) m_a0, c_eI (f := 1013) m_a8_ rfl, c_eI (f := 1014) m_a8_ rfl, c_eI (f := 1404) m_a17_ rfl, c_eI (f := 1407) m_a17_ rfl, c_eI (f := 1013) m_a22_ rfl, c_eI (f := 1014) m_a22_ rfl, true_and, Option.some.injEq, exists_eq_left', c_xm, c_xn, c_xs]
          refine ⟨fun hc => ?_, fun hc => ?_⟩
          · have h := h.1 hc
            exact ub_X0_hold_60 g _ r13_  h hQ
          · have h := h.2 hc
            refine ⟨fun hc => ?_, fun hc => ?_⟩
            · have h := h.1 hc
              exact ub_X0_hold_60 g _ r13_  h hQ
            · have h := h.2 hc
              exact ub_X0_hold_58 g _  h hQ
      · have h := h.2 hc
        exact ub_X0_hold_28 g _  h hQ
def kb_X0_letGoOn_81 (L : c_L) (S : c_S) (Q : Int32 → c_S → Prop) : Prop := Q (0 : Int32) S
set_option maxRecDepth 100000 in
set_option maxHeartbeats 4000000 in
theorem ub_X0_letGoOn_81 {L : c_L} {T : q_S} (g : c_G L T) (S : c_S)  {Q1 : Int32 → c_S → Prop} {Q : Option Value → q_S → Prop} (h : kb_X0_letGoOn_81 L  S Q1) (hQ : ∀ (v : Int32) (K : c_S), Q1 v K → Q (some (.int v)) (c_E L K T)) : wb_X0_letGoOn_81  (c_E L S T) Q := by
  unfold wb_X0_letGoOn_81
  unfold kb_X0_letGoOn_81 at h
  try simp only [true_and, Option.some.injEq, exists_eq_left', c_xm, c_xn, c_xs]
  exact hQ _ _ h
def kb_X0_letGoOn_44 (L : c_L) (S : c_S) (a0 : Nat) (r2 : Option Nat) (x3 : Int32) (Q : Int32 → c_S → Prop) : Prop := ∃ a1_ : Nat, r2 = some a1_ ∧ (c_mk L 7 a1_ ∧ ((x3 = 0 → ((¬ (c_I (cs_I S 1416 a1_ (0 : Int32)) 1409 a1_) = (1 : Int32) → (kb_X0_letGoOn_81 L (cs_I S 1416 a1_ (0 : Int32)) Q)) ∧ ((c_I (cs_I S 1416 a1_ (0 : Int32)) 1409 a1_) = (1 : Int32) → (∃ a7_ : Nat, (c_P (cs_I S 1416 a1_ (0 : Int32)) 1 a0) = some a7_ ∧ (c_mk L 5 a7_ ∧ (km_X5_toTheBack L (cs_I S 1416 a1_ (0 : Int32)) a7_ r2 (fun S11_ => (kb_X0_letGoOn_81 L S11_ Q)))))))) ∧ (¬ x3 = 0 → (∃ a13_ : Nat, (c_P (cs_I S 1416 a1_ (0 : Int32)) 1 a0) = some a13_ ∧ (c_mk L 5 a13_ ∧ (km_X5_answerWaiter L (cs_I S 1416 a1_ (0 : Int32)) a13_ r2 (0 : Int32) (fun S17_ => (kb_X0_letGoOn_81 L S17_ Q))))))))
set_option maxRecDepth 100000 in
set_option maxHeartbeats 4000000 in
theorem ub_X0_letGoOn_44 {L : c_L} {T : q_S} (g : c_G L T) (S : c_S) (a0 : Nat) (r2 : Option Nat) (x3 : Int32) (m_a0 : c_mk L 0 a0) {Q1 : Int32 → c_S → Prop} {Q : Option Value → q_S → Prop} (h : kb_X0_letGoOn_44 L  S a0 r2 x3 Q1) (hQ : ∀ (v : Int32) (K : c_S), Q1 v K → Q (some (.int v)) (c_E L K T)) : wb_X0_letGoOn_44  (c_E L S T) (c_ob L 0 a0) (r2.map (c_ob L 7)) x3 Q := by
  unfold wb_X0_letGoOn_44
  unfold kb_X0_letGoOn_44 at h
  try simp only [c_gk g m_a0 1 rfl, c_eD1 m_a0, c_eDs1 (c_gw g) m_a0, true_and, Option.some.injEq, exists_eq_left', c_xm, c_xn, c_xs]
  obtain ⟨a1_, e_a1_, m_a1_, h⟩ := h
  refine ⟨a1_, e_a1_, ?_⟩
  try simp only [c_gk g m_a0 1 rfl, c_gk g m_a1_ 8 rfl, c_eD1 m_a0, c_eDs1 (c_gw g) m_a0, c_eI (f := 1409) m_a1_ rfl, c_eIs (f := 1416) (c_gw g) m_a1_ rfl, true_and, Option.some.injEq, exists_eq_left', c_xm, c_xn, c_xs]
  refine ⟨fun hc => ?_, fun hc => ?_⟩
  · have h := h.1 hc
    refine ⟨fun hc => ?_, fun hc => ?_⟩
    · have h := h.1 hc
      exact ub_X0_letGoOn_81 g _  h hQ
    · have h := h.2 hc
      obtain ⟨a7_, e_a7_, m_a7_, h⟩ := h
      refine ⟨a7_, e_a7_, ?_⟩
      try simp only [c_gk g m_a0 1 rfl, c_gk g m_a1_ 8 rfl, c_gk g m_a7_ 6 rfl, c_eD1 m_a0, c_eDs1 (c_gw g) m_a0, c_eI (f := 1409) m_a1_ rfl, c_eIs (f := 1416) (c_gw g) m_a1_ rfl, true_and, Option.some.injEq, exists_eq_left', c_xm, c_xn, c_xs]
      refine um_X5_toTheBack g _ a7_ r2 m_a7_ h (fun S11_ h => ?_)
      refine ⟨rfl, ?_⟩
      try simp only [c_gk g m_a0 1 rfl, c_gk g m_a1_ 8 rfl, c_gk g m_a7_ 6 rfl, c_eD1 m_a0, c_eDs1 (c_gw g) m_a0, c_eI (f := 1409) m_a1_ rfl, c_eIs (f := 1416) (c_gw g) m_a1_ rfl, true_and, Option.some.injEq, exists_eq_left', c_xm, c_xn, c_xs]
      exact ub_X0_letGoOn_81 g _  h hQ
  · have h := h.2 hc
    obtain ⟨a13_, e_a13_, m_a13_, h⟩ := h
    refine ⟨a13_, e_a13_, ?_⟩
    try simp only [c_gk g m_a0 1 rfl, c_gk g m_a1_ 8 rfl, c_gk g m_a13_ 6 rfl, c_eD1 m_a0, c_eDs1 (c_gw g) m_a0, c_eI (f := 1409) m_a1_ rfl, c_eIs (f := 1416) (c_gw g) m_a1_ rfl, true_and, Option.some.injEq, exists_eq_left', c_xm, c_xn, c_xs]
    refine um_X5_answerWaiter g _ a13_ r2 _ m_a13_ h (fun S17_ h => ?_)
    refine ⟨rfl, ?_⟩
    try simp only [c_gk g m_a0 1 rfl, c_gk g m_a1_ 8 rfl, c_gk g m_a13_ 6 rfl, c_eD1 m_a0, c_eDs1 (c_gw g) m_a0, c_eI (f := 1409) m_a1_ rfl, c_eIs (f := 1416) (c_gw g) m_a1_ rfl, true_and, Option.some.injEq, exists_eq_left', c_xm, c_xn, c_xs]
    exact ub_X0_letGoOn_81 g _  h hQ
def kb_X0_letGoOn_30 (L : c_L) (S : c_S) (a0 : Nat) (r2 : Option Nat) (xs0 : Int32) (Q : Int32 → c_S → Prop) : Prop := (¬ xs0 = 0 → (kb_X0_letGoOn_44 L S a0 r2 xs0 Q)) ∧ (xs0 = 0 → (∃ a19_ : Nat, r2 = some a19_ ∧ (c_mk L 7 a19_ ∧ ((¬ (c_I S 1416 a19_) = 0 → (kb_X0_letGoOn_44 L S a0 r2 xs0 Q)) ∧ ((c_I S 1416 a19_) = 0 → (Q (2 : Int32) S))))))
set_option maxRecDepth 100000 in
set_option maxHeartbeats 4000000 in
theorem ub_X0_letGoOn_30 {L : c_L} {T : q_S} (g : c_G L T) (S : c_S) (a0 : Nat) (r2 : Option Nat) (xs0 : Int32) (m_a0 : c_mk L 0 a0) {Q1 : Int32 → c_S → Prop} {Q : Option Value → q_S → Prop} (h : kb_X0_letGoOn_30 L  S a0 r2 xs0 Q1) (hQ : ∀ (v : Int32) (K : c_S), Q1 v K → Q (some (.int v)) (c_E L K T)) : wb_X0_letGoOn_30  (c_E L S T) (c_ob L 0 a0) (r2.map (c_ob L 7)) xs0 Q := by
  unfold wb_X0_letGoOn_30
  unfold kb_X0_letGoOn_30 at h
  try simp only [c_gk g m_a0 1 rfl, true_and, Option.some.injEq, exists_eq_left', c_xm, c_xn, c_xs]
  refine ⟨fun hc => ?_, fun hc => ?_⟩
  · have h := h.1 hc
    exact ub_X0_letGoOn_44 g _ a0 r2 _ m_a0 h hQ
  · have h := h.2 hc
    obtain ⟨a19_, e_a19_, m_a19_, h⟩ := h
    refine ⟨a19_, e_a19_, ?_⟩
    try simp only [c_gk g m_a0 1 rfl, c_gk g m_a19_ 8 rfl, c_eI (f := 1416) m_a19_ rfl, true_and, Option.some.injEq, exists_eq_left', c_xm, c_xn, c_xs]
    refine ⟨fun hc => ?_, fun hc => ?_⟩
    · have h := h.1 hc
      exact ub_X0_letGoOn_44 g _ a0 r2 _ m_a0 h hQ
    · have h := h.2 hc
      exact hQ _ _ h
def km_X0_letGoOn (L : c_L) (S : c_S) (a0 : Nat) (x1 : Int32) (Q : Int32 → c_S → Prop) : Prop := ∃ a24_ : Nat, (c_P S 1 a0) = some a24_ ∧ (c_mk L 5 a24_ ∧ (km_X5_processAt L S a24_ x1 (fun r29_ S28_ => ((¬ r29_ = none → (∃ a31_ : Nat, r29_ = some a31_ ∧ (c_mk L 7 a31_ ∧ ((¬ (c_I S28_ 1418 a31_) = (129 : Int32) → (kb_X0_letGoOn_30 L S28_ a0 r29_ (0 : Int32) Q)) ∧ ((c_I S28_ 1418 a31_) = (129 : Int32) → (kb_X0_letGoOn_30 L S28_ a0 r29_ (1 : Int32) Q)))))) ∧ (r29_ = none → (Q (1 : Int32) S28_))))))
set_option maxRecDepth 100000 in
set_option maxHeartbeats 4000000 in
theorem um_X0_letGoOn {L : c_L} {T : q_S} (g : c_G L T) (S : c_S) (a0 : Nat) (x1 : Int32) (m_a0 : c_mk L 0 a0) {Q1 : Int32 → c_S → Prop} {Q : Option Value → q_S → Prop} (h : km_X0_letGoOn L  S a0 x1 Q1) (hQ : ∀ (v : Int32) (K : c_S), Q1 v K → Q (some (.int v)) (c_E L K T)) : wm_X0_letGoOn  (c_E L S T) (c_ob L 0 a0) x1 Q := by
  unfold wm_X0_letGoOn
  unfold km_X0_letGoOn at h
  try simp only [c_gk g m_a0 1 rfl, c_eD1 m_a0, c_eDs1 (c_gw g) m_a0, true_and, Option.some.injEq, exists_eq_left', c_xm, c_xn, c_xs]
  obtain ⟨a24_, e_a24_, m_a24_, h⟩ := h
  refine ⟨a24_, e_a24_, ?_⟩
  try simp only [c_gk g m_a0 1 rfl, c_gk g m_a24_ 6 rfl, c_eD1 m_a0, c_eDs1 (c_gw g) m_a0, true_and, Option.some.injEq, exists_eq_left', c_xm, c_xn, c_xs]
  refine um_X5_processAt g _ a24_ _ m_a24_ h (fun r29_ S28_ h => ?_)
  refine ⟨_, rfl, ?_⟩
  try simp only [c_gk g m_a0 1 rfl, c_gk g m_a24_ 6 rfl, c_eD1 m_a0, c_eDs1 (c_gw g) m_a0, true_and, Option.some.injEq, exists_eq_left', c_xm, c_xn, c_xs]
  refine ⟨fun hc => ?_, fun hc => ?_⟩
  · have h := h.1 hc
    obtain ⟨a31_, e_a31_, m_a31_, h⟩ := h
    refine ⟨a31_, e_a31_, ?_⟩
    try simp only [c_gk g m_a0 1 rfl, c_gk g m_a24_ 6 rfl, c_gk g m_a31_ 8 rfl, c_eD1 m_a0, c_eDs1 (c_gw g) m_a0, c_eI (f := 1418) m_a31_ rfl, true_and, Option.some.injEq, exists_eq_left', c_xm, c_xn, c_xs]
    refine ⟨fun hc => ?_, fun hc => ?_⟩
    · have h := h.1 hc
      exact ub_X0_letGoOn_30 g _ a0 r29_ _ m_a0 h hQ
    · have h := h.2 hc
      exact ub_X0_letGoOn_30 g _ a0 r29_ _ m_a0 h hQ
  · have h := h.2 hc
    exact hQ _ _ h
