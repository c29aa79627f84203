def kb_X5_named_63 (L : c_L) (B23 : c_S → Nat → Int32 → Int64 → Int32 → Int32 → Prop) (S : c_S) (a0 : Nat) (x1 : Int32) (z2 : Int64) (x4 : Int32) (x5 : Int32) (zs0 : Int64) (Q : Int32 → c_S → Prop) : Prop := (¬ (lg_cmp zs0 z2) = 0 → (B23 S a0 x1 z2 x4 (x5 + 1))) ∧ ((lg_cmp zs0 z2) = 0 → (Q x5 S))
set_option maxRecDepth 100000 in
set_option maxHeartbeats 4000000 in
theorem ub_X5_named_63 {L : c_L} {T : q_S} (g : c_G L T) {OB23 : q_S → Nat → Int32 → Int64 → Int32 → Int32 → Prop} {B23 : c_S → Nat → Int32 → Int64 → Int32 → Int32 → Prop} (hB23 : ∀ (S1 : c_S) (a0 : Nat) (x1 : Int32) (z2 : Int64) (x4 : Int32) (x5 : Int32), c_mk L 5 a0 → B23 S1 a0 x1 z2 x4 x5 → OB23 (c_E L S1 T) (c_ob L 5 a0) x1 z2 x4 x5) (S : c_S) (a0 : Nat) (x1 : Int32) (z2 : Int64) (x4 : Int32) (x5 : Int32) (zs0 : Int64) (m_a0 : c_mk L 5 a0) {Q1 : Int32 → c_S → Prop} {Q : Option Value → q_S → Prop} (h : kb_X5_named_63 L B23 S a0 x1 z2 x4 x5 zs0 Q1) (hQ : ∀ (v : Int32) (K : c_S), Q1 v K → Q (some (.int v)) (c_E L K T)) : wb_X5_named_63 OB23 (c_E L S T) (c_ob L 5 a0) x1 z2 x4 x5 zs0 Q := by
  unfold wb_X5_named_63
  unfold kb_X5_named_63 at h
  try simp only [c_gk g m_a0 6 rfl, true_and, Option.some.injEq, exists_eq_left', c_xm, c_xn, c_xs]
  refine ⟨fun hc => ?_, fun hc => ?_⟩
  · have h := h.1 hc
    exact hB23 _ a0 _ _ _ _ m_a0 h
  · have h := h.2 hc
    exact hQ _ _ h
def kb_X5_named_23 (L : c_L) (B23 : c_S → Nat → Int32 → Int64 → Int32 → Int32 → Prop) (S : c_S) (a0 : Nat) (x1 : Int32) (z2 : Int64) (x4 : Int32) (x5 : Int32) (Q : Int32 → c_S → Prop) : Prop := (x4 ≤ x5 → (Q (-1 : Int32) S)) ∧ (¬ x4 ≤ x5 → ((¬ x1 = (5 : Int32) → (vp_in ((x1 * (8 : Int32)) + x5) 48 ∧ (∃ a9_ : Nat, (c_e10 L a0 ((x1 * (8 : Int32)) + x5).toNatClampNeg) = some a9_ ∧ (c_mk L 10 a9_ ∧ (kb_X5_named_63 L B23 S a0 x1 z2 x4 x5 (c_J S 2000 a9_) Q))))) ∧ (x1 = (5 : Int32) → (vp_in x5 16 ∧ (∃ a17_ : Nat, (c_e7 L a0 x5.toNatClampNeg) = some a17_ ∧ (c_mk L 7 a17_ ∧ (kb_X5_named_63 L B23 S a0 x1 z2 x4 x5 (c_J S 1401 a17_) Q)))))))
set_option maxRecDepth 100000 in
set_option maxHeartbeats 4000000 in
theorem ub_X5_named_23 {L : c_L} {T : q_S} (g : c_G L T) {OB23 : q_S → Nat → Int32 → Int64 → Int32 → Int32 → Prop} {B23 : c_S → Nat → Int32 → Int64 → Int32 → Int32 → Prop} (hB23 : ∀ (S1 : c_S) (a0 : Nat) (x1 : Int32) (z2 : Int64) (x4 : Int32) (x5 : Int32), c_mk L 5 a0 → B23 S1 a0 x1 z2 x4 x5 → OB23 (c_E L S1 T) (c_ob L 5 a0) x1 z2 x4 x5) (S : c_S) (a0 : Nat) (x1 : Int32) (z2 : Int64) (x4 : Int32) (x5 : Int32) (m_a0 : c_mk L 5 a0) {Q1 : Int32 → c_S → Prop} {Q : Option Value → q_S → Prop} (h : kb_X5_named_23 L B23 S a0 x1 z2 x4 x5 Q1) (hQ : ∀ (v : Int32) (K : c_S), Q1 v K → Q (some (.int v)) (c_E L K T)) : wb_X5_named_23 OB23 (c_E L S T) (c_ob L 5 a0) x1 z2 x4 x5 Q := by
  unfold wb_X5_named_23
  unfold kb_X5_named_23 at h
  try simp only [c_gk g m_a0 6 rfl, true_and, Option.some.injEq, exists_eq_left', c_xm, c_xn, c_xs]
  refine ⟨fun hc => ?_, fun hc => ?_⟩
  · have h := h.1 hc
    exact hQ _ _ h
  · have h := h.2 hc
    refine ⟨fun hc => ?_, fun hc => ?_⟩
    · have h := h.1 hc
      have n1005_a0 := c_gA g 1005 rfl (by decide) m_a0
      try simp only [c_gk g m_a0 6 rfl, c_gr g n1005_a0 27 rfl, c_gN g n1005_a0 48 (by decide), c_g10 g m_a0, c_ga g 1005 rfl rfl (by decide) m_a0, true_and, Option.some.injEq, exists_eq_left', c_xm, c_xn, c_xs]
      refine ⟨h.1, ?_⟩
      have h := h.2
      obtain ⟨a9_, e_a9_, m_a9_, h⟩ := h
      refine ⟨a9_, e_a9_, ?_⟩
      try simp only [c_gk g m_a0 6 rfl, c_gk g m_a9_ 11 rfl, c_gr g n1005_a0 27 rfl, c_gN g n1005_a0 48 (by decide), c_g10 g m_a0, c_ga g 1005 rfl rfl (by decide) m_a0, c_eJ (f := 2000) m_a9_ rfl, true_and, Option.some.injEq, exists_eq_left', c_xm, c_xn, c_xs]
      exact ub_X5_named_63 g hB23 _ a0 _ _ _ _ _ m_a0 h hQ
    · have h := h.2 hc
      have n1003_a0 := c_gA g 1003 rfl (by decide) m_a0
      try simp only [c_gk g m_a0 6 rfl, c_gr g n1003_a0 26 rfl, c_gN g n1003_a0 16 (by decide), c_g7 g m_a0, c_ga g 1003 rfl rfl (by decide) m_a0, true_and, Option.some.injEq, exists_eq_left', c_xm, c_xn, c_xs]
      refine ⟨h.1, ?_⟩
      have h := h.2
      obtain ⟨a17_, e_a17_, m_a17_, h⟩ := h
      refine ⟨a17_, e_a17_, ?_⟩
      try simp only [c_gk g m_a0 6 rfl, c_gk g m_a17_ 8 rfl, c_gr g n1003_a0 26 rfl, c_gN g n1003_a0 16 (by decide), c_g7 g m_a0, c_ga g 1003 rfl rfl (by decide) m_a0, c_eJ (f := 1401) m_a17_ rfl, true_and, Option.some.injEq, exists_eq_left', c_xm, c_xn, c_xs]
      exact ub_X5_named_63 g hB23 _ a0 _ _ _ _ _ m_a0 h hQ
def kl_X5_named_23 (L : c_L)  : Nat → c_S → Nat → Int32 → Int64 → Int32 → Int32 → (Int32 → c_S → Prop) → Prop
  | 0, _, _, _, _, _, _, _ => False
  | n + 1, S, a0, x1, z2, x4, x5, Q => kb_X5_named_23 L (fun S a0 x1 z2 x4 x5 => kl_X5_named_23 L n S a0 x1 z2 x4 x5 Q) S a0 x1 z2 x4 x5 Q
theorem ul_X5_named_23 {L : c_L} {T : q_S} (g : c_G L T) (n : Nat) (S : c_S) (a0 : Nat) (x1 : Int32) (z2 : Int64) (x4 : Int32) (x5 : Int32) (m_a0 : c_mk L 5 a0) {Q1 : Int32 → c_S → Prop} {Q : Option Value → q_S → Prop} (h : kl_X5_named_23 L  n S a0 x1 z2 x4 x5 Q1) (hQ : ∀ (v : Int32) (K : c_S), Q1 v K → Q (some (.int v)) (c_E L K T)) : wl_X5_named_23  n (c_E L S T) (c_ob L 5 a0) x1 z2 x4 x5 Q := by
  induction n generalizing S a0 x1 z2 x4 x5 with
  | zero => exact h.elim
  | succ n ih => exact ub_X5_named_23 g (fun u0 u1 u2 u3 u4 u5 w0 h => ih u0 u1 u2 u3 u4 u5 w0 h) S a0 x1 z2 x4 x5 m_a0 h hQ
def kb_X5_named_18 (L : c_L) (S : c_S) (a0 : Nat) (x1 : Int32) (z2 : Int64) (xs0 : Int32) (Q : Int32 → c_S → Prop) : Prop := ∃ n20_ : Nat, kl_X5_named_23 L n20_ S a0 x1 z2 xs0 (0 : Int32) Q
set_option maxRecDepth 100000 in
set_option maxHeartbeats 4000000 in
theorem ub_X5_named_18 {L : c_L} {T : q_S} (g : c_G L T) (S : c_S) (a0 : Nat) (x1 : Int32) (z2 : Int64) (xs0 : Int32) (m_a0 : c_mk L 5 a0) {Q1 : Int32 → c_S → Prop} {Q : Option Value → q_S → Prop} (h : kb_X5_named_18 L  S a0 x1 z2 xs0 Q1) (hQ : ∀ (v : Int32) (K : c_S), Q1 v K → Q (some (.int v)) (c_E L K T)) : wb_X5_named_18  (c_E L S T) (c_ob L 5 a0) x1 z2 xs0 Q := by
  unfold wb_X5_named_18
  unfold kb_X5_named_18 at h
  try simp only [c_gk g m_a0 6 rfl, true_and, Option.some.injEq, exists_eq_left', c_xm, c_xn, c_xs]
  obtain ⟨n20_, h⟩ := h
  refine ⟨n20_, ?_⟩
  exact ul_X5_named_23 g n20_ _ a0 _ _ _ _ m_a0 h hQ
def km_X5_named (L : c_L) (S : c_S) (a0 : Nat) (x1 : Int32) (z2 : Int64) (Q : Int32 → c_S → Prop) : Prop := (¬ x1 = (5 : Int32) → (vp_in x1 5 ∧ (kb_X5_named_18 L S a0 x1 z2 (c_A S 1006 a0 x1.toNatClampNeg) Q))) ∧ (x1 = (5 : Int32) → (kb_X5_named_18 L S a0 x1 z2 (c_I S 1004 a0) Q))
set_option maxRecDepth 100000 in
set_option maxHeartbeats 4000000 in
theorem um_X5_named {L : c_L} {T : q_S} (g : c_G L T) (S : c_S) (a0 : Nat) (x1 : Int32) (z2 : Int64) (m_a0 : c_mk L 5 a0) {Q1 : Int32 → c_S → Prop} {Q : Option Value → q_S → Prop} (h : km_X5_named L  S a0 x1 z2 Q1) (hQ : ∀ (v : Int32) (K : c_S), Q1 v K → Q (some (.int v)) (c_E L K T)) : wm_X5_named  (c_E L S T) (c_ob L 5 a0) x1 z2 Q := by
  unfold wm_X5_named
  unfold km_X5_named at h
  try simp only [c_gk g m_a0 6 rfl, c_eI (f := 1004) m_a0 rfl, true_and, Option.some.injEq, exists_eq_left', c_xm, c_xn, c_xs]
  refine ⟨fun hc => ?_, fun hc => ?_⟩
  · have h := h.1 hc
    have n1006_a0 := c_gA g 1006 rfl (by decide) m_a0
    try simp only [c_gk g m_a0 6 rfl, c_gr g n1006_a0 21 rfl, c_gN g n1006_a0 5 (by decide), c_eA n1006_a0, c_eAs (c_gw g) n1006_a0, c_ga g 1006 rfl rfl (by decide) m_a0, c_eI (f := 1004) m_a0 rfl, true_and, Option.some.injEq, exists_eq_left', c_xm, c_xn, c_xs]
    refine ⟨h.1, ?_⟩
    have h := h.2
    exact ub_X5_named_18 g _ a0 _ _ _ m_a0 h hQ
  · have h := h.2 hc
    exact ub_X5_named_18 g _ a0 _ _ _ m_a0 h hQ
def kb_X0_findNamed_20 (L : c_L) (S : c_S) (Q : Int32 → c_S → Prop) : Prop := Q (1 : Int32) S
set_option maxRecDepth 100000 in
set_option maxHeartbeats 4000000 in
theorem ub_X0_findNamed_20 {L : c_L} {T : q_S} (g : c_G L T) (S : c_S)  {Q1 : Int32 → c_S → Prop} {Q : Option Value → q_S → Prop} (h : kb_X0_findNamed_20 L  S Q1) (hQ : ∀ (v : Int32) (K : c_S), Q1 v K → Q (some (.int v)) (c_E L K T)) : wb_X0_findNamed_20  (c_E L S T) Q := by
  unfold wb_X0_findNamed_20
  unfold kb_X0_findNamed_20 at h
  try simp only [true_and, Option.some.injEq, exists_eq_left', c_xm, c_xn, c_xs]
  exact hQ _ _ h
def kb_X0_findNamed_42 (L : c_L) (S : c_S) (Q : Int32 → c_S → Prop) : Prop := Q (1 : Int32) S
set_option maxRecDepth 100000 in
set_option maxHeartbeats 4000000 in
theorem ub_X0_findNamed_42 {L : c_L} {T : q_S} (g : c_G L T) (S : c_S)  {Q1 : Int32 → c_S → Prop} {Q : Option Value → q_S → Prop} (h : kb_X0_findNamed_42 L  S Q1) (hQ : ∀ (v : Int32) (K : c_S), Q1 v K → Q (some (.int v)) (c_E L K T)) : wb_X0_findNamed_42  (c_E L S T) Q := by
  unfold wb_X0_findNamed_42
  unfold kb_X0_findNamed_42 at h
  try simp only [true_and, Option.some.injEq, exists_eq_left', c_xm, c_xn, c_xs]
  exact hQ _ _ h
def km_X0_findNamed (L : c_L) (S : c_S) (a0 : Nat) (x1 : Int32) (x2 : Int32) (x3 : Int32) (Q : Int32 → c_S → Prop) : Prop := (x1 < 0 → (kb_X0_findNamed_20 L S Q)) ∧ (¬ x1 < 0 → (((5 : Int32) < x1 → (kb_X0_findNamed_20 L S Q)) ∧ (¬ (5 : Int32) < x1 → ((x3 < (1 : Int32) → (kb_X0_findNamed_20 L S Q)) ∧ (¬ x3 < (1 : Int32) → ((x3 ≤ (12 : Int32) → ((x2 < 0 → (kb_X0_findNamed_42 L S Q)) ∧ (¬ x2 < 0 → (∃ a7_ : Nat, (c_P S 1 a0) = some a7_ ∧ (c_mk L 5 a7_ ∧ ((x2 ≤ ((c_I S 800 a7_) - x3) → (km_X4_nameAt L S a7_ x2 x3 (fun z16_ S15_ => (km_X5_named L S15_ a7_ x1 z16_ (fun x20_ S19_ => ((¬ x20_ = (-1 : Int32) → (∃ a23_ : Nat, (c_P S19_ 3 a0) = some a23_ ∧ (c_mk L 7 a23_ ∧ (vp_in (11 : Int32) 32 ∧ (Q (0 : Int32) (cs_A S19_ 1411 a23_ (11 : Int32).toNatClampNeg x20_)))))) ∧ (x20_ = (-1 : Int32) → (Q (2 : Int32) S19_)))))))) ∧ (¬ x2 ≤ ((c_I S 800 a7_) - x3) → (kb_X0_findNamed_42 L S Q)))))))) ∧ (¬ x3 ≤ (12 : Int32) → (kb_X0_findNamed_20 L S Q))))))))
set_option maxRecDepth 100000 in
set_option maxHeartbeats 4000000 in
theorem um_X0_findNamed {L : c_L} {T : q_S} (g : c_G L T) (S : c_S) (a0 : Nat) (x1 : Int32) (x2 : Int32) (x3 : Int32) (m_a0 : c_mk L 0 a0) {Q1 : Int32 → c_S → Prop} {Q : Option Value → q_S → Prop} (h : km_X0_findNamed L  S a0 x1 x2 x3 Q1) (hQ : ∀ (v : Int32) (K : c_S), Q1 v K → Q (some (.int v)) (c_E L K T)) : wm_X0_findNamed  (c_E L S T) (c_ob L 0 a0) x1 x2 x3 Q := by
  unfold wm_X0_findNamed
  unfold km_X0_findNamed at h
  try simp only [c_gk g m_a0 1 rfl, c_eD1 m_a0, c_eDs1 (c_gw g) m_a0, c_eD3 m_a0, c_eDs3 (c_gw g) m_a0, true_and, Option.some.injEq, exists_eq_left', c_xm, c_xn, c_xs]
  refine ⟨fun hc => ?_, fun hc => ?_⟩
  · have h := h.1 hc
    exact ub_X0_findNamed_20 g _  h hQ
  · have h := h.2 hc
    refine ⟨fun hc => ?_, fun hc => ?_⟩
    · have h := h.1 hc
      exact ub_X0_findNamed_20 g _  h hQ
    · have h := h.2 hc
      refine ⟨fun hc => ?_, fun hc => ?_⟩
      · have h := h.1 hc
        exact ub_X0_findNamed_20 g _  h hQ
      · have h := h.2 hc
        refine ⟨fun hc => ?_, fun hc => ?_⟩
        · have h := h.1 hc
          refine ⟨fun hc => ?_, fun hc => ?_⟩
          · have h := h.1 hc
            exact ub_X0_findNamed_42 g _  h hQ
          · have h := h.2 hc
            obtain ⟨a7_, e_a7_, m_a7_, h⟩ := h
            refine ⟨a7_, e_a7_, ?_⟩
            try simp only [c_gk g m_a0 1 rfl, c_gk g m_a7_ 6 rfl, c_eD1 m_a0, c_eDs1 (c_gw g) m_a0, c_eD3 m_a0, c_eDs3 (c_gw g) m_a0, true_and, Option.some.injEq, exists_eq_left', c_xm, c_xn, c_xs]
            have n1002_a7_ := c_gO g 1002 4 rfl (by decide) m_a7_
            try simp only [c_gk g m_a0 1 rfl, c_gk g m_a7_ 6 rfl, c_gk g n1002_a7_ 5 rfl, c_gp g 1002 4 rfl rfl (by decide) m_a7_, c_eD1 m_a0, c_eDs1 (c_gw g) m_a0, c_eD3 m_a0, c_eDs3 (c_gw g) m_a0, c_eI (f := 800) n1002_a7_ rfl, true_and, Option.some.injEq, exists_eq_left', c_xm, c_xn, c_xs]
            refine ⟨fun hc => ?_, fun hc => ?_⟩
            · have h := h.1 hc
              refine um_X4_nameAt g _ a7_ _ _ n1002_a7_ h (fun z16_ S15_ h => ?_)
              refine ⟨_, rfl, ?_⟩
              try simp only [c_gk g m_a0 1 rfl, c_gk g m_a7_ 6 rfl, c_gk g n1002_a7_ 5 rfl, c_gp g 1002 4 rfl rfl (by decide) m_a7_, c_eD1 m_a0, c_eDs1 (c_gw g) m_a0, c_eD3 m_a0, c_eDs3 (c_gw g) m_a0, c_eI (f := 800) n1002_a7_ rfl, true_and, Option.some.injEq, exists_eq_left', c_xm, c_xn, c_xs]
              refine um_X5_named g _ a7_ _ _ m_a7_ h (fun x20_ S19_ h => ?_)
              refine ⟨_, rfl, ?_⟩
              try simp only [c_gk g m_a0 1 rfl, c_gk g m_a7_ 6 rfl, c_gk g n1002_a7_ 5 rfl, c_gp g 1002 4 rfl rfl (by decide) m_a7_, c_eD1 m_a0, c_eDs1 (c_gw g) m_a0, c_eD3 m_a0, c_eDs3 (c_gw g) m_a0, c_eI (f := 800) n1002_a7_ rfl, true_and, Option.some.injEq, exists_eq_left', c_xm, c_xn, c_xs]
              refine ⟨fun hc => ?_, fun hc => ?_⟩
              · have h := h.1 hc
                obtain ⟨a23_, e_a23_, m_a23_, h⟩ := h
                have r_a23_ := c_gA g 1411 rfl (by decide) m_a23_
                refine ⟨a23_, e_a23_, ?_⟩
                try simp only [c_gk g m_a0 1 rfl, c_gk g m_a7_ 6 rfl, c_gk g n1002_a7_ 5 rfl, c_gk g m_a23_ 8 rfl, c_gr g r_a23_ 21 rfl, c_gN g r_a23_ 32 (by decide), c_eA r_a23_, c_eAs (c_gw g) r_a23_, c_gp g 1002 4 rfl rfl (by decide) m_a7_, c_eD1 m_a0, c_eDs1 (c_gw g) m_a0, c_eD3 m_a0, c_eDs3 (c_gw g) m_a0, c_eI (f := 800) n1002_a7_ rfl, true_and, Option.some.injEq, exists_eq_left', c_xm, c_xn, c_xs]
                refine ⟨h.1, ?_⟩
                have h := h.2
                exact hQ _ _ h
              · have h := h.2 hc
                exact hQ _ _ h
            · have h := h.2 hc
              exact ub_X0_findNamed_42 g _  h hQ
        · have h := h.2 hc
          exact ub_X0_findNamed_20 g _  h hQ
def kb_X0_ofLooks_101 (L : c_L) (S : c_S) (xs0 : Int32) (Q : Int32 → c_S → Prop) : Prop := Q xs0 S
set_option maxRecDepth 100000 in
set_option maxHeartbeats 4000000 in
theorem ub_X0_ofLooks_101 {L : c_L} {T : q_S} (g : c_G L T) (S : c_S) (xs0 : Int32)  {Q1 : Int32 → c_S → Prop} {Q : Option Value → q_S → Prop} (h : kb_X0_ofLooks_101 L  S xs0 Q1) (hQ : ∀ (v : Int32) (K : c_S), Q1 v K → Q (some (.int v)) (c_E L K T)) : wb_X0_ofLooks_101  (c_E L S T) xs0 Q := by
  unfold wb_X0_ofLooks_101
  unfold kb_X0_ofLooks_101 at h
  try simp only [true_and, Option.some.injEq, exists_eq_left', c_xm, c_xn, c_xs]
  exact hQ _ _ h
def km_X0_ofLooks (L : c_L) (S : c_S) (a0 : Nat) (x1 : Int32) (x2 : Int32) (x3 : Int32) (x4 : Int32) (Q : Int32 → c_S → Prop) : Prop := (x1.toInt < 32 ∨ 35 < x1.toInt → (km_X0_findNamed L S a0 x2 x3 x4 (fun x4_ S3_ => (Q x4_ S3_)))) ∧ (x1 = (32 : Int32) → (∃ a6_ : Nat, (c_P S 1 a0) = some a6_ ∧ (c_mk L 5 a6_ ∧ (∃ a9_ : Nat, (c_P S 3 a0) = some a9_ ∧ (c_mk L 7 a9_ ∧ (vp_in (11 : Int32) 32 ∧ (∃ a13_ : Nat, (c_P (cs_A S 1411 a9_ (11 : Int32).toNatClampNeg (c_I S 1000 a6_)) 1 a0) = some a13_ ∧ (c_mk L 5 a13_ ∧ (∃ a16_ : Nat, (c_P (cs_A S 1411 a9_ (11 : Int32).toNatClampNeg (c_I S 1000 a6_)) 3 a0) = some a16_ ∧ (c_mk L 7 a16_ ∧ (vp_in (12 : Int32) 32 ∧ (∀ S20_ : c_S, S20_ = (cs_A (cs_A S 1411 a9_ (11 : Int32).toNatClampNeg (c_I S 1000 a6_)) 1411 a16_ (12 : Int32).toNatClampNeg (c_I (cs_A S 1411 a9_ (11 : Int32).toNatClampNeg (c_I S 1000 a6_)) 1010 a13_)) → (∃ a21_ : Nat, (c_P S20_ 1 a0) = some a21_ ∧ (c_mk L 5 a21_ ∧ (∃ a24_ : Nat, (c_P S20_ 3 a0) = some a24_ ∧ (c_mk L 7 a24_ ∧ (vp_in (13 : Int32) 32 ∧ (Q (0 : Int32) (cs_A S20_ 1411 a24_ (13 : Int32).toNatClampNeg (c_I S20_ 1013 a21_)))))))))))))))))))) ∧ (x1 = (33 : Int32) → (km_X0_tellThing L S a0 x2 x3 (fun x31_ S30_ => (Q x31_ S30_)))) ∧ (x1 = (34 : Int32) → (km_X0_isNoDelay L S a0 x3 (fun x35_ S34_ => ((x35_ = 0 → (km_X0_startOther L S34_ a0 x2 x3 (fun x40_ S39_ => (kb_X0_ofLooks_101 L S39_ x40_ Q)))) ∧ (¬ x35_ = 0 → (kb_X0_ofLooks_101 L S34_ (1 : Int32) Q)))))) ∧ (x1 = (35 : Int32) → (∃ a42_ : Nat, (c_P S 0 a0) = some a42_ ∧ (c_mk L 6 a42_ ∧ (km_X6_ticksLeft L S a42_ (fun x47_ S46_ => (∃ a48_ : Nat, (c_P S 3 a0) = some a48_ ∧ (c_mk L 7 a48_ ∧ (vp_in (11 : Int32) 32 ∧ (∃ a53_ : Nat, (c_P (cs_A S46_ 1411 a48_ (11 : Int32).toNatClampNeg x47_) 0 a0) = some a53_ ∧ (c_mk L 6 a53_ ∧ (km_X6_ticksBetween L (cs_A S46_ 1411 a48_ (11 : Int32).toNatClampNeg x47_) a53_ (fun x58_ S57_ => (∃ a59_ : Nat, (c_P (cs_A S46_ 1411 a48_ (11 : Int32).toNatClampNeg x47_) 3 a0) = some a59_ ∧ (c_mk L 7 a59_ ∧ (vp_in (12 : Int32) 32 ∧ (∃ a64_ : Nat, (c_P (cs_A S57_ 1411 a59_ (12 : Int32).toNatClampNeg x58_) 0 a0) = some a64_ ∧ (c_mk L 6 a64_ ∧ (km_X6_frameTicks L (cs_A S57_ 1411 a59_ (12 : Int32).toNatClampNeg x58_) a64_ (fun x69_ S68_ => (∃ a70_ : Nat, (c_P (cs_A S57_ 1411 a59_ (12 : Int32).toNatClampNeg x58_) 3 a0) = some a70_ ∧ (c_mk L 7 a70_ ∧ (vp_in (13 : Int32) 32 ∧ (Q (0 : Int32) (cs_A S68_ 1411 a70_ (13 : Int32).toNatClampNeg x69_))))))))))))))))))))))))
set_option maxRecDepth 100000 in
set_option maxHeartbeats 4000000 in
theorem um_X0_ofLooks {L : c_L} {T : q_S} (g : c_G L T) (S : c_S) (a0 : Nat) (x1 : Int32) (x2 : Int32) (x3 : Int32) (x4 : Int32) (m_a0 : c_mk L 0 a0) {Q1 : Int32 → c_S → Prop} {Q : Option Value → q_S → Prop} (h : km_X0_ofLooks L  S a0 x1 x2 x3 x4 Q1) (hQ : ∀ (v : Int32) (K : c_S), Q1 v K → Q (some (.int v)) (c_E L K T)) : wm_X0_ofLooks  (c_E L S T) (c_ob L 0 a0) x1 x2 x3 x4 Q := by
  unfold wm_X0_ofLooks
  unfold km_X0_ofLooks at h
  try simp only [c_gk g m_a0 1 rfl, c_eD0 m_a0, c_eDs0 (c_gw g) m_a0, c_eD1 m_a0, c_eDs1 (c_gw g) m_a0, c_eD3 m_a0, c_eDs3 (c_gw g) m_a0, true_and, Option.some.injEq, exists_eq_left', c_xm, c_xn, c_xs]
  refine ⟨fun hc => ?_, fun hc => ?_, fun hc => ?_, fun hc => ?_, fun hc => ?_⟩
  · have h := h.1 hc
    refine um_X0_findNamed g _ a0 _ _ _ m_a0 h (fun x4_ S3_ h => ?_)
    refine ⟨_, rfl, ?_⟩
    try simp only [c_gk g m_a0 1 rfl, c_eD0 m_a0, c_eDs0 (c_gw g) m_a0, c_eD1 m_a0, c_eDs1 (c_gw g) m_a0, c_eD3 m_a0, c_eDs3 (c_gw g) m_a0, true_and, Option.some.injEq, exists_eq_left', c_xm, c_xn, c_xs]
    exact hQ _ _ h
  · have h := h.2.1 hc
    obtain ⟨a6_, e_a6_, m_a6_, h⟩ := h
    refine ⟨a6_, e_a6_, ?_⟩
    try simp only [c_gk g m_a0 1 rfl, c_gk g m_a6_ 6 rfl, c_eD0 m_a0, c_eDs0 (c_gw g) m_a0, c_eD1 m_a0, c_eDs1 (c_gw g) m_a0, c_eD3 m_a0, c_eDs3 (c_gw g) m_a0, c_eI (f := 1000) m_a6_ rfl, c_eI (f := 1010) m_a6_ rfl, c_eI (f := 1013) m_a6_ rfl, true_and, Option.some.injEq, exists_eq_left', c_xm, c_xn, c_xs]
    obtain ⟨a9_, e_a9_, m_a9_, h⟩ := h
    have r_a9_ := c_gA g 1411 rfl (by decide) m_a9_
    refine ⟨a9_, e_a9_, ?_⟩
    try simp only [c_gk g m_a0 1 rfl, c_gk g m_a6_ 6 rfl, c_gk g m_a9_ 8 rfl, c_gr g r_a9_ 21 rfl, c_gN g r_a9_ 32 (by decide), c_eA r_a9_, c_eAs (c_gw g) r_a9_, c_eD0 m_a0, c_eDs0 (c_gw g) m_a0, c_eD1 m_a0, c_eDs1 (c_gw g) m_a0, c_eD3 m_a0, c_eDs3 (c_gw g) m_a0, c_eI (f := 1000) m_a6_ rfl, c_eI (f := 1010) m_a6_ rfl, c_eI (f := 1013) m_a6_ rfl, true_and, Option.some.injEq, exists_eq_left', c_xm, c_xn, c_xs]
    refine ⟨h.1, ?_⟩
    have h := h.2
    obtain ⟨a13_, e_a13_, m_a13_, h⟩ := h
    refine ⟨a13_, e_a13_, ?_⟩
    try simp only [c_gk g m_a0 1 rfl, c_gk g m_a6_ 6 rfl, c_gk g m_a9_ 8 rfl, c_gk g m_a13_ 6 rfl, c_gr g r_a9_ 21 rfl, c_gN g r_a9_ 32 (by decide), c_eA r_a9_, c_eAs (c_gw g) r_a9_, c_eD0 m_a0, c_eDs0 (c_gw g) m_a0, c_eD1 m_a0, c_eDs1 (c_gw g) m_a0, c_eD3 m_a0, c_eDs3 (c_gw g) m_a0, c_eI (f := 1000) m_a6_ rfl, c_eI (f := 1010) m_a6_ rfl, c_eI (f := 1013) m_a6_ rfl, c_eI (f := 1000) m_a13_ rfl, c_eI (f := 1010) m_a13_ rfl, c_eI (f := 1013) m_a13_ rfl, true_and, Option.some.injEq, exists_eq_left', c_xm, c_xn, c_xs]
    obtain ⟨a16_, e_a16_, m_a16_, h⟩ := h
    have r_a16_ := c_gA g 1411 rfl (by decide) m_a16_
    refine ⟨a16_, e_a16_, ?_⟩
    try simp only [c_gk g m_a0 1 rfl, c_gk g m_a6_ 6 rfl, c_gk g m_a9_ 8 rfl, c_gk g m_a13_ 6 rfl, c_gk g m_a16_ 8 rfl, c_gr g r_a9_ 21 rfl, c_gN g r_a9_ 32 (by decide), c_eA r_a9_, c_eAs (c_gw g) r_a9_, c_gr g r_a16_ 21 rfl, c_gN g r_a16_ 32 (by decide), c_eA r_a16_, c_eAs (c_gw g) r_a16_, c_eD0 m_a0, c_eDs0 (c_gw g) m_a0, c_eD1 m_a0, c_eDs1 (c_gw g) m_a0, c_eD3 m_a0, c_eDs3 (c_gw g) m_a0, c_eI (f := 1000) m_a6_ rfl, c_eI (f := 1010) m_a6_ rfl, c_eI (f := 1013) m_a6_ rfl, c_eI (f := 1000) m_a13_ rfl, c_eI (f := 1010) m_a13_ rfl, c_eI (f := 1013) m_a13_ rfl, true_and, Option.some.injEq, exists_eq_left', c_xm, c_xn, c_xs]
    refine ⟨h.1, ?_⟩
    have h := h.2
    refine fun S20_ e_S20_ => ?_
    have h := h S20_ e_S20_
    obtain ⟨a21_, e_a21_, m_a21_, h⟩ := h
    refine ⟨a21_, e_a21_, ?_⟩
    try simp only [c_gk g m_a0 1 rfl, c_gk g m_a6_ 6 rfl, c_gk g m_a9_ 8 rfl, c_gk g m_a13_ 6 rfl, c_gk g m_a16_ 8 rfl, c_gk g m_a21_ 6 rfl, c_gr g r_a9_ 21 rfl, c_gN g r_a9_ 32 (by decide), c_eA r_a9_, c_eAs (c_gw g) r_a9_, c_gr g r_a16_ 21 rfl, c_gN g r_a16_ 32 (by decide), c_eA r_a16_, c_eAs (c_gw g) r_a16_, c_eD0 m_a0, c_eDs0 (c_gw g) m_a0, c_eD1 m_a0, c_eDs1 (c_gw g) m_a0, c_eD3 m_a0, c_eDs3 (c_gw g) m_a0, c_eI (f := 1000) m_a6_ rfl, c_eI (f := 1010) m_a6_ rfl, c_eI (f := 1013) m_a6_ rfl, c_eI (f := 1000) m_a13_ rfl, c_eI (f := 1010) m_a13_ rfl, c_eI (f := 1013) m_a13_ rfl, c_eI (f := 1000) m_a21_ rfl, c_eI (f := 1010) m_a21_ rfl, c_eI (f := 1013) m_a21_ rfl, true_and, Option.some.injEq, exists_eq_left', c_xm, c_xn, c_xs]
    obtain ⟨a24_, e_a24_, m_a24_, h⟩ := h
    have r_a24_ := c_gA g 1411 rfl (by decide) m_a24_
    refine ⟨a24_, e_a24_, ?_⟩
    try simp only [c_gk g m_a0 1 rfl, c_gk g m_a6_ 6 rfl, c_gk g m_a9_ 8 rfl, c_gk g m_a13_ 6 rfl, c_gk g m_a16_ 8 rfl, c_gk g m_a21_ 6 rfl, c_gk g m_a24_ 8 rfl, c_gr g r_a9_ 21 rfl, c_gN g r_a9_ 32 (by decide), c_eA r_a9_, c_eAs (c_gw g) r_a9_, c_gr g r_a16_ 21 rfl, c_gN g r_a16_ 32 (by decide), c_eA r_a16_, c_eAs (c_gw g) r_a16_, c_gr g r_a24_ 21 rfl, c_gN g r_a24_ 32 (by decide), c_eA r_a24_, c_eAs (c_gw g) r_a24_, c_eD0 m_a0, c_eDs0 (c_gw g) m_a0, c_eD1 m_a0, c_eDs1 (c_gw g) m_a0, c_eD3 m_a0, c_eDs3 (c_gw g) m_a0, c_eI (f := 1000) m_a6_ rfl, c_eI (f := 1010) m_a6_ rfl, c_eI (f := 1013) m_a6_ rfl, c_eI (f := 1000) m_a13_ rfl, c_eI (f := 1010) m_a13_ rfl, c_eI (f := 1013) m_a13_ rfl, c_eI (f := 1000) m_a21_ rfl, c_eI (f := 1010) m_a21_ rfl, c_eI (f := 1013) m_a21_ rfl, true_and, Option.some.injEq, exists_eq_left', c_xm, c_xn, c_xs]
    refine ⟨h.1, ?_⟩
    have h := h.2
    exact hQ _ _ h
  · have h := h.2.2.1 hc
    refine um_X0_tellThing g _ a0 _ _ m_a0 h (fun x31_ S30_ h => ?_)
    refine ⟨_, rfl, ?_⟩
    try simp only [c_gk g m_a0 1 rfl, c_eD0 m_a0, c_eDs0 (c_gw g) m_a0, c_eD1 m_a0, c_eDs1 (c_gw g) m_a0, c_eD3 m_a0, c_eDs3 (c_gw g) m_a0, true_and, Option.some.injEq, exists_eq_left', c_xm, c_xn, c_xs]
    exact hQ _ _ h
  · have h := h.2.2.2.1 hc
    refine um_X0_isNoDelay g _ a0 _ m_a0 h (fun x35_ S34_ h => ?_)
    refine ⟨_, rfl, ?_⟩
    try simp only [c_gk g m_a0 1 rfl, c_eD0 m_a0, c_eDs0 (c_gw g) m_a0, c_eD1 m_a0, c_eDs1 (c_gw g) m_a0, c_eD3 m_a0, c_eDs3 (c_gw g) m_a0, true_and, Option.some.injEq, exists_eq_left', c_xm, c_xn, c_xs]
    refine ⟨fun hc => ?_, fun hc => ?_⟩
    · have h := h.1 hc
      refine um_X0_startOther g _ a0 _ _ m_a0 h (fun x40_ S39_ h => ?_)
      refine ⟨_, rfl, ?_⟩
      try simp only [c_gk g m_a0 1 rfl, c_eD0 m_a0, c_eDs0 (c_gw g) m_a0, c_eD1 m_a0, c_eDs1 (c_gw g) m_a0, c_eD3 m_a0, c_eDs3 (c_gw g) m_a0, true_and, Option.some.injEq, exists_eq_left', c_xm, c_xn, c_xs]
      exact ub_X0_ofLooks_101 g _ _  h hQ
    · have h := h.2 hc
      exact ub_X0_ofLooks_101 g _ _  h hQ
  · have h := h.2.2.2.2 hc
    obtain ⟨a42_, e_a42_, m_a42_, h⟩ := h
    refine ⟨a42_, e_a42_, ?_⟩
    try simp only [c_gk g m_a0 1 rfl, c_gk g m_a42_ 7 rfl, c_eD0 m_a0, c_eDs0 (c_gw g) m_a0, c_eD1 m_a0, c_eDs1 (c_gw g) m_a0, c_eD3 m_a0, c_eDs3 (c_gw g) m_a0, true_and, Option.some.injEq, exists_eq_left', c_xm, c_xn, c_xs]
    refine um_X6_ticksLeft g _ a42_ m_a42_ h (fun x47_ S46_ h => ?_)
    refine ⟨_, rfl, ?_⟩
    try simp only [c_gk g m_a0 1 rfl, c_gk g m_a42_ 7 rfl, c_eD0 m_a0, c_eDs0 (c_gw g) m_a0, c_eD1 m_a0, c_eDs1 (c_gw g) m_a0, c_eD3 m_a0, c_eDs3 (c_gw g) m_a0, true_and, Option.some.injEq, exists_eq_left', c_xm, c_xn, c_xs]
    obtain ⟨a48_, e_a48_, m_a48_, h⟩ := h
    have r_a48_ := c_gA g 1411 rfl (by decide) m_a48_
    refine ⟨a48_, e_a48_, ?_⟩
    try simp only [c_gk g m_a0 1 rfl, c_gk g m_a42_ 7 rfl, c_gk g m_a48_ 8 rfl, c_gr g r_a48_ 21 rfl, c_gN g r_a48_ 32 (by decide), c_eA r_a48_, c_eAs (c_gw g) r_a48_, c_eD0 m_a0, c_eDs0 (c_gw g) m_a0, c_eD1 m_a0, c_eDs1 (c_gw g) m_a0, c_eD3 m_a0, c_eDs3 (c_gw g) m_a0, true_and, Option.some.injEq, exists_eq_left', c_xm, c_xn, c_xs]
    refine ⟨h.1, ?_⟩
    have h := h.2
    obtain ⟨a53_, e_a53_, m_a53_, h⟩ := h
    refine ⟨a53_, e_a53_, ?_⟩
    try simp only [c_gk g m_a0 1 rfl, c_gk g m_a42_ 7 rfl, c_gk g m_a48_ 8 rfl, c_gk g m_a53_ 7 rfl, c_gr g r_a48_ 21 rfl, c_gN g r_a48_ 32 (by decide), c_eA r_a48_, c_eAs (c_gw g) r_a48_, c_eD0 m_a0, c_eDs0 (c_gw g) m_a0, c_eD1 m_a0, c_eDs1 (c_gw g) m_a0, c_eD3 m_a0, c_eDs3 (c_gw g) m_a0, true_and, Option.some.injEq, exists_eq_left', c_xm, c_xn, c_xs]
    refine um_X6_ticksBetween g _ a53_ m_a53_ h (fun x58_ S57_ h => ?_)
    refine ⟨_, rfl, ?_⟩
    try simp only [c_gk g m_a0 1 rfl, c_gk g m_a42_ 7 rfl, c_gk g m_a48_ 8 rfl, c_gk g m_a53_ 7 rfl, c_gr g r_a48_ 21 rfl, c_gN g r_a48_ 32 (by decide), c_eA r_a48_, c_eAs (c_gw g) r_a48_, c_eD0 m_a0, c_eDs0 (c_gw g) m_a0, c_eD1 m_a0, c_eDs1 (c_gw g) m_a0, c_eD3 m_a0, c_eDs3 (c_gw g) m_a0, true_and, Option.some.injEq, exists_eq_left', c_xm, c_xn, c_xs]
    obtain ⟨a59_, e_a59_, m_a59_, h⟩ := h
    have r_a59_ := c_gA g 1411 rfl (by decide) m_a59_
    refine ⟨a59_, e_a59_, ?_⟩
    try simp only [c_gk g m_a0 1 rfl, c_gk g m_a42_ 7 rfl, c_gk g m_a48_ 8 rfl, c_gk g m_a53_ 7 rfl, c_gk g m_a59_ 8 rfl, c_gr g r_a48_ 21 rfl, c_gN g r_a48_ 32 (by decide), c_eA r_a48_, c_eAs (c_gw g) r_a48_, c_gr g r_a59_ 21 rfl, c_gN g r_a59_ 32 (by decide), c_eA r_a59_, c_eAs (c_gw g) r_a59_, c_eD0 m_a0, c_eDs0 (c_gw g) m_a0, c_eD1 m_a0, c_eDs1 (c_gw g) m_a0, c_eD3 m_a0, c_eDs3 (c_gw g) m_a0, true_and, Option.some.injEq, exists_eq_left', c_xm, c_xn, c_xs]
    refine ⟨h.1, ?_⟩
    have h := h.2
    obtain ⟨a64_, e_a64_, m_a64_, h⟩ := h
    refine ⟨a64_, e_a64_, ?_⟩
    try simp only [c_gk g m_a0 1 rfl, c_gk g m_a42_ 7 rfl, c_gk g m_a48_ 8 rfl, c_gk g m_a53_ 7 rfl, c_gk g m_a59_ 8 rfl, c_gk g m_a64_ 7 rfl, c_gr g r_a48_ 21 rfl, c_gN g r_a48_ 32 (by decide), c_eA r_a48_, c_eAs (c_gw g) r_a48_, c_gr g r_a59_ 21 rfl, c_gN g r_a59_ 32 (by decide), c_eA r_a59_, c_eAs (c_gw g) r_a59_, c_eD0 m_a0, c_eDs0 (c_gw g) m_a0, c_eD1 m_a0, c_eDs1 (c_gw g) m_a0, c_eD3 m_a0, c_eDs3 (c_gw g) m_a0, true_and, Option.some.injEq, exists_eq_left', c_xm, c_xn, c_xs]
    refine um_X6_frameTicks g _ a64_ m_a64_ h (fun x69_ S68_ h => ?_)
    refine ⟨_, rfl, ?_⟩
    try simp only [c_gk g m_a0 1 rfl, c_gk g m_a42_ 7 rfl, c_gk g m_a48_ 8 rfl, c_gk g m_a53_ 7 rfl, c_gk g m_a59_ 8 rfl, c_gk g m_a64_ 7 rfl, c_gr g r_a48_ 21 rfl, c_gN g r_a48_ 32 (by decide), c_eA r_a48_, c_eAs (c_gw g) r_a48_, c_gr g r_a59_ 21 rfl, c_gN g r_a59_ 32 (by decide), c_eA r_a59_, c_eAs (c_gw g) r_a59_, c_eD0 m_a0, c_eDs0 (c_gw g) m_a0, c_eD1 m_a0, c_eDs1 (c_gw g) m_a0, c_eD3 m_a0, c_eDs3 (c_gw g) m_a0, true_and, Option.some.injEq, exists_eq_left', c_xm, c_xn, c_xs]
    obtain ⟨a70_, e_a70_, m_a70_, h⟩ := h
    have r_a70_ := c_gA g 1411 rfl (by decide) m_a70_
    refine ⟨a70_, e_a70_, ?_⟩
    try simp only [c_gk g m_a0 1 rfl, c_gk g m_a42_ 7 rfl, c_gk g m_a48_ 8 rfl, c_gk g m_a53_ 7 rfl, c_gk g m_a59_ 8 rfl, c_gk g m_a64_ 7 rfl, c_gk g m_a70_ 8 rfl, c_gr g r_a48_ 21 rfl, c_gN g r_a48_ 32 (by decide), c_eA r_a48_, c_eAs (c_gw g) r_a48_, c_gr g r_a59_ 21 rfl, c_gN g r_a59_ 32 (by decide), c_eA r_a59_, c_eAs (c_gw g) r_a59_, c_gr g r_a70_ 21 rfl, c_gN g r_a70_ 32 (by decide), c_eA r_a70_, c_eAs (c_gw g) r_a70_, c_eD0 m_a0, c_eDs0 (c_gw g) m_a0, c_eD1 m_a0, c_eDs1 (c_gw g) m_a0, c_eD3 m_a0, c_eDs3 (c_gw g) m_a0, true_and, Option.some.injEq, exists_eq_left', c_xm, c_xn, c_xs]
    refine ⟨h.1, ?_⟩
    have h := h.2
    exact hQ _ _ h
def kb_X0_answer_52 (L : c_L) (S : c_S) (Q : Int32 → c_S → Prop) : Prop := Q (0 : Int32) S
set_option maxRecDepth 100000 in
set_option maxHeartbeats 4000000 in
theorem ub_X0_answer_52 {L : c_L} {T : q_S} (g : c_G L T) (S : c_S)  {Q1 : Int32 → c_S → Prop} {Q : Option Value → q_S → Prop} (h : kb_X0_answer_52 L  S Q1) (hQ : ∀ (v : Int32) (K : c_S), Q1 v K → Q (some (.int v)) (c_E L K T)) : wb_X0_answer_52  (c_E L S T) Q := by
  unfold wb_X0_answer_52
  unfold kb_X0_answer_52 at h
  try simp only [true_and, Option.some.injEq, exists_eq_left', c_xm, c_xn, c_xs]
  exact hQ _ _ h
def kb_X0_answer_335 (L : c_L) (S : c_S) (Q : Int32 → c_S → Prop) : Prop := Q (-1 : Int32) S
set_option maxRecDepth 100000 in
set_option maxHeartbeats 4000000 in
theorem ub_X0_answer_335 {L : c_L} {T : q_S} (g : c_G L T) (S : c_S)  {Q1 : Int32 → c_S → Prop} {Q : Option Value → q_S → Prop} (h : kb_X0_answer_335 L  S Q1) (hQ : ∀ (v : Int32) (K : c_S), Q1 v K → Q (some (.int v)) (c_E L K T)) : wb_X0_answer_335  (c_E L S T) Q := by
  unfold wb_X0_answer_335
  unfold kb_X0_answer_335 at h
  try simp only [true_and, Option.some.injEq, exists_eq_left', c_xm, c_xn, c_xs]
  exact hQ _ _ h
def kb_X0_answer_320 (L : c_L) (S : c_S) (a0 : Nat) (x5 : Int32) (Q : Int32 → c_S → Prop) : Prop := (x5 = (-1 : Int32) → (kb_X0_answer_335 L S Q)) ∧ (¬ x5 = (-1 : Int32) → (∃ a3_ : Nat, (c_P S 3 a0) = some a3_ ∧ (c_mk L 7 a3_ ∧ (vp_in (10 : Int32) 32 ∧ (kb_X0_answer_335 L (cs_A S 1411 a3_ (10 : Int32).toNatClampNeg x5) Q)))))
set_option maxRecDepth 100000 in
set_option maxHeartbeats 4000000 in
theorem ub_X0_answer_320 {L : c_L} {T : q_S} (g : c_G L T) (S : c_S) (a0 : Nat) (x5 : Int32) (m_a0 : c_mk L 0 a0) {Q1 : Int32 → c_S → Prop} {Q : Option Value → q_S → Prop} (h : kb_X0_answer_320 L  S a0 x5 Q1) (hQ : ∀ (v : Int32) (K : c_S), Q1 v K → Q (some (.int v)) (c_E L K T)) : wb_X0_answer_320  (c_E L S T) (c_ob L 0 a0) x5 Q := by
  unfold wb_X0_answer_320
  unfold kb_X0_answer_320 at h
  try simp only [c_gk g m_a0 1 rfl, c_eD3 m_a0, c_eDs3 (c_gw g) m_a0, true_and, Option.some.injEq, exists_eq_left', c_xm, c_xn, c_xs]
  refine ⟨fun hc => ?_, fun hc => ?_⟩
  · have h := h.1 hc
    exact ub_X0_answer_335 g _  h hQ
  · have h := h.2 hc
    obtain ⟨a3_, e_a3_, m_a3_, h⟩ := h
    have r_a3_ := c_gA g 1411 rfl (by decide) m_a3_
    refine ⟨a3_, e_a3_, ?_⟩
    try simp only [c_gk g m_a0 1 rfl, c_gk g m_a3_ 8 rfl, c_gr g r_a3_ 21 rfl, c_gN g r_a3_ 32 (by decide), c_eA r_a3_, c_eAs (c_gw g) r_a3_, c_eD3 m_a0, c_eDs3 (c_gw g) m_a0, true_and, Option.some.injEq, exists_eq_left', c_xm, c_xn, c_xs]
    refine ⟨h.1, ?_⟩
    have h := h.2
    exact ub_X0_answer_335 g _  h hQ
def kb_X0_answer_236 (L : c_L) (S : c_S) (a0 : Nat) (xs0 : Int32) (Q : Int32 → c_S → Prop) : Prop := kb_X0_answer_320 L S a0 xs0 Q
set_option maxRecDepth 100000 in
set_option maxHeartbeats 4000000 in
theorem ub_X0_answer_236 {L : c_L} {T : q_S} (g : c_G L T) (S : c_S) (a0 : Nat) (xs0 : Int32) (m_a0 : c_mk L 0 a0) {Q1 : Int32 → c_S → Prop} {Q : Option Value → q_S → Prop} (h : kb_X0_answer_236 L  S a0 xs0 Q1) (hQ : ∀ (v : Int32) (K : c_S), Q1 v K → Q (some (.int v)) (c_E L K T)) : wb_X0_answer_236  (c_E L S T) (c_ob L 0 a0) xs0 Q := by
  unfold wb_X0_answer_236
  unfold kb_X0_answer_236 at h
  try simp only [c_gk g m_a0 1 rfl, true_and, Option.some.injEq, exists_eq_left', c_xm, c_xn, c_xs]
  exact ub_X0_answer_320 g _ a0 _ m_a0 h hQ
def km_X0_answer (L : c_L) (S : c_S) (a0 : Nat) (r1 : Option Nat) (r2 : Option Nat) (r3 : Option Nat) (Q : Int32 → c_S → Prop) : Prop := ∀ S8_ : c_S, S8_ = (cs_P (cs_P (cs_P S 0 a0 r1) 1 a0 r2) 2 a0 r3) → (∃ a9_ : Nat, r3 = some a9_ ∧ (c_mk L 7 a9_ ∧ (∃ a12_ : Nat, r1 = some a12_ ∧ (c_mk L 6 a12_ ∧ (∀ S15_ : c_S, S15_ = (cs_I (cs_P S8_ 3 a0 (some a9_)) 4 a0 (c_I (cs_P S8_ 3 a0 (some a9_)) 1211 a12_)) → (∃ a16_ : Nat, (c_P S15_ 3 a0) = some a16_ ∧ (c_mk L 7 a16_ ∧ (vp_in (17 : Int32) 32 ∧ (((c_A S15_ 1411 a16_ (17 : Int32).toNatClampNeg) < 0 → (kb_X0_answer_52 L S15_ Q)) ∧ (¬ (c_A S15_ 1411 a16_ (17 : Int32).toNatClampNeg) < 0 → (((c_A S15_ 1411 a16_ (17 : Int32).toNatClampNeg) ≤ (36 : Int32) → ((¬ (c_A S15_ 1411 a16_ (17 : Int32).toNatClampNeg) = (20 : Int32) → (((7 : Int32) < (c_A S15_ 1411 a16_ (17 : Int32).toNatClampNeg) → (((12 : Int32) < (c_A S15_ 1411 a16_ (17 : Int32).toNatClampNeg) → (((17 : Int32) < (c_A S15_ 1411 a16_ (17 : Int32).toNatClampNeg) → (((19 : Int32) < (c_A S15_ 1411 a16_ (17 : Int32).toNatClampNeg) → (((25 : Int32) < (c_A S15_ 1411 a16_ (17 : Int32).toNatClampNeg) → (((31 : Int32) < (c_A S15_ 1411 a16_ (17 : Int32).toNatClampNeg) → (∃ a29_ : Nat, (c_P (cs_I S15_ 1410 a9_ ((c_I S15_ 1410 a9_) + (4 : Int32))) 3 a0) = some a29_ ∧ (c_mk L 7 a29_ ∧ (vp_in (10 : Int32) 32 ∧ (vp_in (11 : Int32) 32 ∧ (vp_in (12 : Int32) 32 ∧ (km_X0_ofLooks L (cs_I S15_ 1410 a9_ ((c_I S15_ 1410 a9_) + (4 : Int32))) a0 (c_A S15_ 1411 a16_ (17 : Int32).toNatClampNeg) (c_A (cs_I S15_ 1410 a9_ ((c_I S15_ 1410 a9_) + (4 : Int32))) 1411 a29_ (10 : Int32).toNatClampNeg) (c_A (cs_I S15_ 1410 a9_ ((c_I S15_ 1410 a9_) + (4 : Int32))) 1411 a29_ (11 : Int32).toNatClampNeg) (c_A (cs_I S15_ 1410 a9_ ((c_I S15_ 1410 a9_) + (4 : Int32))) 1411 a29_ (12 : Int32).toNatClampNeg) (fun x37_ S36_ => (kb_X0_answer_320 L S36_ a0 x37_ Q))))))))) ∧ (¬ (31 : Int32) < (c_A S15_ 1411 a16_ (17 : Int32).toNatClampNeg) → (∃ a38_ : Nat, (c_P (cs_I S15_ 1410 a9_ ((c_I S15_ 1410 a9_) + (4 : Int32))) 3 a0) = some a38_ ∧ (c_mk L 7 a38_ ∧ (vp_in (10 : Int32) 32 ∧ (km_X0_ofOthers L (cs_I S15_ 1410 a9_ ((c_I S15_ 1410 a9_) + (4 : Int32))) a0 (c_A S15_ 1411 a16_ (17 : Int32).toNatClampNeg) (c_A (cs_I S15_ 1410 a9_ ((c_I S15_ 1410 a9_) + (4 : Int32))) 1411 a38_ (10 : Int32).toNatClampNeg) (fun x44_ S43_ => (kb_X0_answer_320 L S43_ a0 x44_ Q))))))))) ∧ (¬ (25 : Int32) < (c_A S15_ 1411 a16_ (17 : Int32).toNatClampNeg) → (∃ a45_ : Nat, (c_P (cs_I S15_ 1410 a9_ ((c_I S15_ 1410 a9_) + (4 : Int32))) 3 a0) = some a45_ ∧ (c_mk L 7 a45_ ∧ (vp_in (10 : Int32) 32 ∧ (km_X0_ofPartition L (cs_I S15_ 1410 a9_ ((c_I S15_ 1410 a9_) + (4 : Int32))) a0 (c_A S15_ 1411 a16_ (17 : Int32).toNatClampNeg) (c_A (cs_I S15_ 1410 a9_ ((c_I S15_ 1410 a9_) + (4 : Int32))) 1411 a45_ (10 : Int32).toNatClampNeg) (fun x51_ S50_ => (kb_X0_answer_320 L S50_ a0 x51_ Q))))))))) ∧ (¬ (19 : Int32) < (c_A S15_ 1411 a16_ (17 : Int32).toNatClampNeg) → ((¬ (c_A S15_ 1411 a16_ (17 : Int32).toNatClampNeg) = (18 : Int32) → (∃ a53_ : Nat, (c_P (cs_I S15_ 1410 a9_ ((c_I S15_ 1410 a9_) + (4 : Int32))) 3 a0) = some a53_ ∧ (c_mk L 7 a53_ ∧ (vp_in (10 : Int32) 32 ∧ (vp_in (11 : Int32) 32 ∧ (km_X0_receive L (cs_I S15_ 1410 a9_ ((c_I S15_ 1410 a9_) + (4 : Int32))) a0 (c_A (cs_I S15_ 1410 a9_ ((c_I S15_ 1410 a9_) + (4 : Int32))) 1411 a53_ (10 : Int32).toNatClampNeg) (c_A (cs_I S15_ 1410 a9_ ((c_I S15_ 1410 a9_) + (4 : Int32))) 1411 a53_ (11 : Int32).toNatClampNeg) (fun x60_ S59_ => (kb_X0_answer_236 L S59_ a0 x60_ Q)))))))) ∧ ((c_A S15_ 1411 a16_ (17 : Int32).toNatClampNeg) = (18 : Int32) → (∃ a61_ : Nat, (c_P (cs_I S15_ 1410 a9_ ((c_I S15_ 1410 a9_) + (4 : Int32))) 3 a0) = some a61_ ∧ (c_mk L 7 a61_ ∧ (vp_in (10 : Int32) 32 ∧ (vp_in (11 : Int32) 32 ∧ (vp_in (12 : Int32) 32 ∧ (km_X0_send L (cs_I S15_ 1410 a9_ ((c_I S15_ 1410 a9_) + (4 : Int32))) a0 (c_A (cs_I S15_ 1410 a9_ ((c_I S15_ 1410 a9_) + (4 : Int32))) 1411 a61_ (10 : Int32).toNatClampNeg) (c_A (cs_I S15_ 1410 a9_ ((c_I S15_ 1410 a9_) + (4 : Int32))) 1411 a61_ (11 : Int32).toNatClampNeg) (c_A (cs_I S15_ 1410 a9_ ((c_I S15_ 1410 a9_) + (4 : Int32))) 1411 a61_ (12 : Int32).toNatClampNeg) (fun x69_ S68_ => (kb_X0_answer_236 L S68_ a0 x69_ Q))))))))))))) ∧ (¬ (17 : Int32) < (c_A S15_ 1411 a16_ (17 : Int32).toNatClampNeg) → (∃ a70_ : Nat, (c_P (cs_I S15_ 1410 a9_ ((c_I S15_ 1410 a9_) + (4 : Int32))) 3 a0) = some a70_ ∧ (c_mk L 7 a70_ ∧ (vp_in (10 : Int32) 32 ∧ (vp_in (11 : Int32) 32 ∧ (vp_in (12 : Int32) 32 ∧ (km_X0_ofWords L (cs_I S15_ 1410 a9_ ((c_I S15_ 1410 a9_) + (4 : Int32))) a0 (c_A S15_ 1411 a16_ (17 : Int32).toNatClampNeg) (c_A (cs_I S15_ 1410 a9_ ((c_I S15_ 1410 a9_) + (4 : Int32))) 1411 a70_ (10 : Int32).toNatClampNeg) (c_A (cs_I S15_ 1410 a9_ ((c_I S15_ 1410 a9_) + (4 : Int32))) 1411 a70_ (11 : Int32).toNatClampNeg) (c_A (cs_I S15_ 1410 a9_ ((c_I S15_ 1410 a9_) + (4 : Int32))) 1411 a70_ (12 : Int32).toNatClampNeg) (fun x78_ S77_ => (kb_X0_answer_320 L S77_ a0 x78_ Q))))))))))) ∧ (¬ (12 : Int32) < (c_A S15_ 1411 a16_ (17 : Int32).toNatClampNeg) → (∃ a79_ : Nat, (c_P (cs_I S15_ 1410 a9_ ((c_I S15_ 1410 a9_) + (4 : Int32))) 3 a0) = some a79_ ∧ (c_mk L 7 a79_ ∧ (vp_in (10 : Int32) 32 ∧ (vp_in (11 : Int32) 32 ∧ (km_X0_ofSignals L (cs_I S15_ 1410 a9_ ((c_I S15_ 1410 a9_) + (4 : Int32))) a0 (c_A S15_ 1411 a16_ (17 : Int32).toNatClampNeg) (c_A (cs_I S15_ 1410 a9_ ((c_I S15_ 1410 a9_) + (4 : Int32))) 1411 a79_ (10 : Int32).toNatClampNeg) (c_A (cs_I S15_ 1410 a9_ ((c_I S15_ 1410 a9_) + (4 : Int32))) 1411 a79_ (11 : Int32).toNatClampNeg) (fun x86_ S85_ => (kb_X0_answer_320 L S85_ a0 x86_ Q)))))))))) ∧ (¬ (7 : Int32) < (c_A S15_ 1411 a16_ (17 : Int32).toNatClampNeg) → (∃ a87_ : Nat, (c_P (cs_I S15_ 1410 a9_ ((c_I S15_ 1410 a9_) + (4 : Int32))) 3 a0) = some a87_ ∧ (c_mk L 7 a87_ ∧ (vp_in (10 : Int32) 32 ∧ (vp_in (11 : Int32) 32 ∧ (km_X0_ofProcesses L (cs_I S15_ 1410 a9_ ((c_I S15_ 1410 a9_) + (4 : Int32))) a0 (c_A S15_ 1411 a16_ (17 : Int32).toNatClampNeg) (c_A (cs_I S15_ 1410 a9_ ((c_I S15_ 1410 a9_) + (4 : Int32))) 1411 a87_ (10 : Int32).toNatClampNeg) (c_A (cs_I S15_ 1410 a9_ ((c_I S15_ 1410 a9_) + (4 : Int32))) 1411 a87_ (11 : Int32).toNatClampNeg) (fun x94_ S93_ => (kb_X0_answer_320 L S93_ a0 x94_ Q)))))))))) ∧ ((c_A S15_ 1411 a16_ (17 : Int32).toNatClampNeg) = (20 : Int32) → (Q (3 : Int32) S15_)))) ∧ (¬ (c_A S15_ 1411 a16_ (17 : Int32).toNatClampNeg) ≤ (36 : Int32) → (kb_X0_answer_52 L S15_ Q)))))))))))))
set_option maxRecDepth 100000 in
set_option maxHeartbeats 4000000 in
theorem um_X0_answer {L : c_L} {T : q_S} (g : c_G L T) (S : c_S) (a0 : Nat) (r1 : Option Nat) (r2 : Option Nat) (r3 : Option Nat) (m_a0 : c_mk L 0 a0) {Q1 : Int32 → c_S → Prop} {Q : Option Value → q_S → Prop} (h : km_X0_answer L  S a0 r1 r2 r3 Q1) (hQ : ∀ (v : Int32) (K : c_S), Q1 v K → Q (some (.int v)) (c_E L K T)) : wm_X0_answer  (c_E L S T) (c_ob L 0 a0) (r1.map (c_ob L 6)) (r2.map (c_ob L 5)) (r3.map (c_ob L 7)) Q := by
  unfold wm_X0_answer
  unfold km_X0_answer at h
  try simp only [c_gk g m_a0 1 rfl, c_eIs (f := 4) (c_gw g) m_a0 rfl, c_eD0 m_a0, c_eDs0 (c_gw g) m_a0, c_eD1 m_a0, c_eDs1 (c_gw g) m_a0, c_eD2 m_a0, c_eDs2 (c_gw g) m_a0, c_eD3 m_a0, c_eDs3 (c_gw g) m_a0, true_and, Option.some.injEq, exists_eq_left', c_xm, c_xn, c_xs]
  refine fun S8_ e_S8_ => ?_
  have h := h S8_ e_S8_
  obtain ⟨a9_, e_a9_, m_a9_, h⟩ := h
  refine ⟨a9_, e_a9_, ?_⟩
  try simp only [c_gk g m_a0 1 rfl, c_gk g m_a9_ 8 rfl, c_eIs (f := 4) (c_gw g) m_a0 rfl, c_eD0 m_a0, c_eDs0 (c_gw g) m_a0, c_eD1 m_a0, c_eDs1 (c_gw g) m_a0, c_eD2 m_a0, c_eDs2 (c_gw g) m_a0, c_eD3 m_a0, c_eDs3 (c_gw g) m_a0, c_eI (f := 1410) m_a9_ rfl, c_eIs (f := 1410) (c_gw g) m_a9_ rfl, true_and, Option.some.injEq, exists_eq_left', c_xm, c_xn, c_xs]
  obtain ⟨a12_, e_a12_, m_a12_, h⟩ := h
  refine ⟨a12_, e_a12_, ?_⟩
  try simp only [c_gk g m_a0 1 rfl, c_gk g m_a9_ 8 rfl, c_gk g m_a12_ 7 rfl, c_eIs (f := 4) (c_gw g) m_a0 rfl, c_eD0 m_a0, c_eDs0 (c_gw g) m_a0, c_eD1 m_a0, c_eDs1 (c_gw g) m_a0, c_eD2 m_a0, c_eDs2 (c_gw g) m_a0, c_eD3 m_a0, c_eDs3 (c_gw g) m_a0, c_eI (f := 1410) m_a9_ rfl, c_eIs (f := 1410) (c_gw g) m_a9_ rfl, c_eI (f := 1211) m_a12_ rfl, true_and, Option.some.injEq, exists_eq_left', c_xm, c_xn, c_xs]
  have n1411_a9_ := c_gA g 1411 rfl (by decide) m_a9_
  try simp only [c_gk g m_a0 1 rfl, c_gk g m_a9_ 8 rfl, c_gk g m_a12_ 7 rfl, c_gr g n1411_a9_ 21 rfl, c_gN g n1411_a9_ 32 (by decide), c_eA n1411_a9_, c_eAs (c_gw g) n1411_a9_, c_ga g 1411 rfl rfl (by decide) m_a9_, c_eIs (f := 4) (c_gw g) m_a0 rfl, c_eD0 m_a0, c_eDs0 (c_gw g) m_a0, c_eD1 m_a0, c_eDs1 (c_gw g) m_a0, c_eD2 m_a0, c_eDs2 (c_gw g) m_a0, c_eD3 m_a0, c_eDs3 (c_gw g) m_a0, c_eI (f := 1410) m_a9_ rfl, c_eIs (f := 1410) (c_gw g) m_a9_ rfl, c_eI (f := 1211) m_a12_ rfl, true_and, Option.some.injEq, exists_eq_left', c_xm, c_xn, c_xs]
  refine fun S15_ e_S15_ => ?_
  have h := h S15_ e_S15_
  obtain ⟨a16_, e_a16_, m_a16_, h⟩ := h
  have r_a16_ := c_gA g 1411 rfl (by decide) m_a16_
  refine ⟨a16_, e_a16_, ?_⟩
  try simp only [c_gk g m_a0 1 rfl, c_gk g m_a9_ 8 rfl, c_gk g m_a12_ 7 rfl, c_gk g m_a16_ 8 rfl, c_gr g n1411_a9_ 21 rfl, c_gN g n1411_a9_ 32 (by decide), c_eA n1411_a9_, c_eAs (c_gw g) n1411_a9_, c_gr g r_a16_ 21 rfl, c_gN g r_a16_ 32 (by decide), c_eA r_a16_, c_eAs (c_gw g) r_a16_, c_ga g 1411 rfl rfl (by decide) m_a9_, c_eIs (f := 4) (c_gw g) m_a0 rfl, c_eD0 m_a0, c_eDs0 (c_gw g) m_a0, c_eD1 m_a0, c_eDs1 (c_gw g) m_a0, c_eD2 m_a0, c_eDs2 (c_gw g) m_a0, c_eD3 m_a0, c_eDs3 (c_gw g) m_a0, c_eI (f := 1410) m_a9_ rfl, c_eIs (f := 1410) (c_gw g) m_a9_ rfl, c_eI (f := 1211) m_a12_ rfl, c_eI (f := 1410) m_a16_ rfl, c_eIs (f := 1410) (c_gw g) m_a16_ rfl, true_and, Option.some.injEq, exists_eq_left', c_xm, c_xn, c_xs]
  refine ⟨h.1, ?_⟩
  have h := h.2
  refine ⟨fun hc => ?_, fun hc => ?_⟩
  · have h := h.1 hc
    exact ub_X0_answer_52 g _  h hQ
  · have h := h.2 hc
    refine ⟨fun hc => ?_, fun hc => ?_⟩
    · have h := h.1 hc
      refine ⟨fun hc => ?_, fun hc => ?_⟩
      · have h := h.1 hc
        refine ⟨fun hc => ?_, fun hc => ?_⟩
        · have h := h.1 hc
          refine ⟨fun hc => ?_, fun hc => ?_⟩
          · have h := h.1 hc
            refine ⟨fun hc => ?_, fun hc => ?_⟩
            · have h := h.1 hc
              refine ⟨fun hc => ?_, fun hc => ?_⟩
              · have h := h.1 hc
                refine ⟨fun hc => ?_, fun hc => ?_⟩
                · have h := h.1 hc
                  refine ⟨fun hc => ?_, fun hc => ?_⟩
                  · have h := h.1 hc
                    obtain ⟨a29_, e_a29_, m_a29_, h⟩ := h
                    have r_a29_ := c_gA g 1411 rfl (by decide) m_a29_
                    refine ⟨a29_, e_a29_, ?_⟩
                    try simp only [c_gk g m_a0 1 rfl, c_gk g m_a9_ 8 rfl, c_gk g m_a12_ 7 rfl, c_gk g m_a16_ 8 rfl, c_gk g m_a29_ 8 rfl, c_gr g n1411_a9_ 21 rfl, c_gN g n1411_a9_ 32 (by decide), c_eA n1411_a9_, c_eAs (c_gw g) n1411_a9_, c_gr g r_a16_ 21 rfl, c_gN g r_a16_ 32 (by decide), c_eA r_a16_, c_eAs (c_gw g) r_a16_, c_gr g r_a29_ 21 rfl, c_gN g r_a29_ 32 (by decide), c_eA r_a29_, c_eAs (c_gw g) r_a29_, c_ga g 1411 rfl rfl (by decide) m_a9_, c_eIs (f := 4) (c_gw g) m_a0 rfl, c_eD0 m_a0, c_eDs0 (c_gw g) m_a0, c_eD1 m_a0, c_eDs1 (c_gw g) m_a0, c_eD2 m_a0, c_eDs2 (c_gw g) m_a0, c_eD3 m_a0, c_eDs3 (c_gw g) m_a0, c_eI (f := 1410) m_a9_ rfl, c_eIs (f := 1410) (c_gw g) m_a9_ rfl, c_eI (f := 1211) m_a12_ rfl, c_eI (f := 1410) m_a16_ rfl, c_eIs (f := 1410) (c_gw g) m_a16_ rfl, c_eI (f := 1410) m_a29_ rfl, c_eIs (f := 1410) (c_gw g) m_a29_ rfl, true_and, Option.some.injEq, exists_eq_left', c_xm, c_xn, c_xs]
                    refine ⟨h.1, ?_⟩
                    have h := h.2
                    refine ⟨h.1, ?_⟩
                    have h := h.2
                    refine ⟨h.1, ?_⟩
                    have h := h.2
                    refine um_X0_ofLooks g _ a0 _ _ _ _ m_a0 h (fun x37_ S36_ h => ?_)
                    refine ⟨_, rfl, ?_⟩
                    try simp only [c_gk g m_a0 1 rfl, c_gk g m_a9_ 8 rfl, c_gk g m_a12_ 7 rfl, c_gk g m_a16_ 8 rfl, c_gk g m_a29_ 8 rfl, c_gr g n1411_a9_ 21 rfl, c_gN g n1411_a9_ 32 (by decide), c_eA n1411_a9_, c_eAs (c_gw g) n1411_a9_, c_gr g r_a16_ 21 rfl, c_gN g r_a16_ 32 (by decide), c_eA r_a16_, c_eAs (c_gw g) r_a16_, c_gr g r_a29_ 21 rfl, c_gN g r_a29_ 32 (by decide), c_eA r_a29_, c_eAs (c_gw g) r_a29_, c_ga g 1411 rfl rfl (by decide) m_a9_, c_eIs (f := 4) (c_gw g) m_a0 rfl, c_eD0 m_a0, c_eDs0 (c_gw g) m_a0, c_eD1 m_a0, c_eDs1 (c_gw g) m_a0, c_eD2 m_a0, c_eDs2 (c_gw g) m_a0, c_eD3 m_a0, c_eDs3 (c_gw g) m_a0, c_eI (f := 1410) m_a9_ rfl, c_eIs (f := 1410) (c_gw g) m_a9_ rfl, c_eI (f := 1211) m_a12_ rfl, c_eI (f := 1410) m_a16_ rfl, c_eIs (f := 1410) (c_gw g) m_a16_ rfl, c_eI (f := 1410) m_a29_ rfl, c_eIs (f := 1410) (c_gw g) m_a29_ rfl, true_and, Option.some.injEq, exists_eq_left', c_xm, c_xn, c_xs]
                    exact ub_X0_answer_320 g _ a0 _ m_a0 h hQ
                  · have h := h.2 hc
                    obtain ⟨a38_, e_a38_, m_a38_, h⟩ := h
                    have r_a38_ := c_gA g 1411 rfl (by decide) m_a38_
                    refine ⟨a38_, e_a38_, ?_⟩
                    try simp only [c_gk g m_a0 1 rfl, c_gk g m_a9_ 8 rfl, c_gk g m_a12_ 7 rfl, c_gk g m_a16_ 8 rfl, c_gk g m_a38_ 8 rfl, c_gr g n1411_a9_ 21 rfl, c_gN g n1411_a9_ 32 (by decide), c_eA n1411_a9_, c_eAs (c_gw g) n1411_a9_, c_gr g r_a16_ 21 rfl, c_gN g r_a16_ 32 (by decide), c_eA r_a16_, c_eAs (c_gw g) r_a16_, c_gr g r_a38_ 21 rfl, c_gN g r_a38_ 32 (by decide), c_eA r_a38_, c_eAs (c_gw g) r_a38_, c_ga g 1411 rfl rfl (by decide) m_a9_, c_eIs (f := 4) (c_gw g) m_a0 rfl, c_eD0 m_a0, c_eDs0 (c_gw g) m_a0, c_eD1 m_a0, c_eDs1 (c_gw g) m_a0, c_eD2 m_a0, c_eDs2 (c_gw g) m_a0, c_eD3 m_a0, c_eDs3 (c_gw g) m_a0, c_eI (f := 1410) m_a9_ rfl, c_eIs (f := 1410) (c_gw g) m_a9_ rfl, c_eI (f := 1211) m_a12_ rfl, c_eI (f := 1410) m_a16_ rfl, c_eIs (f := 1410) (c_gw g) m_a16_ rfl, c_eI (f := 1410) m_a38_ rfl, c_eIs (f := 1410) (c_gw g) m_a38_ rfl, true_and, Option.some.injEq, exists_eq_left', c_xm, c_xn, c_xs]
                    refine ⟨h.1, ?_⟩
                    have h := h.2
                    refine um_X0_ofOthers g _ a0 _ _ m_a0 h (fun x44_ S43_ h => ?_)
                    refine ⟨_, rfl, ?_⟩
                    try simp only [c_gk g m_a0 1 rfl, c_gk g m_a9_ 8 rfl, c_gk g m_a12_ 7 rfl, c_gk g m_a16_ 8 rfl, c_gk g m_a38_ 8 rfl, c_gr g n1411_a9_ 21 rfl, c_gN g n1411_a9_ 32 (by decide), c_eA n1411_a9_, c_eAs (c_gw g) n1411_a9_, c_gr g r_a16_ 21 rfl, c_gN g r_a16_ 32 (by decide), c_eA r_a16_, c_eAs (c_gw g) r_a16_, c_gr g r_a38_ 21 rfl, c_gN g r_a38_ 32 (by decide), c_eA r_a38_, c_eAs (c_gw g) r_a38_, c_ga g 1411 rfl rfl (by decide) m_a9_, c_eIs (f := 4) (c_gw g) m_a0 rfl, c_eD0 m_a0, c_eDs0 (c_gw g) m_a0, c_eD1 m_a0, c_eDs1 (c_gw g) m_a0, c_eD2 m_a0, c_eDs2 (c_gw g) m_a0, c_eD3 m_a0, c_eDs3 (c_gw g) m_a0, c_eI (f := 1410) m_a9_ rfl, c_eIs (f := 1410) (c_gw g) m_a9_ rfl, c_eI (f := 1211) m_a12_ rfl, c_eI (f := 1410) m_a16_ rfl, c_eIs (f := 1410) (c_gw g) m_a16_ rfl, c_eI (f := 1410) m_a38_ rfl, c_eIs (f := 1410) (c_gw g) m_a38_ rfl, true_and, Option.some.injEq, exists_eq_left', c_xm, c_xn, c_xs]
                    exact ub_X0_answer_320 g _ a0 _ m_a0 h hQ
                · have h := h.2 hc
                  obtain ⟨a45_, e_a45_, m_a45_, h⟩ := h
                  have r_a45_ := c_gA g 1411 rfl (by decide) m_a45_
                  refine ⟨a45_, e_a45_, ?_⟩
                  try simp only [c_gk g m_a0 1 rfl, c_gk g m_a9_ 8 rfl, c_gk g m_a12_ 7 rfl, c_gk g m_a16_ 8 rfl, c_gk g m_a45_ 8 rfl, c_gr g n1411_a9_ 21 rfl, c_gN g n1411_a9_ 32 (by decide), c_eA n1411_a9_, c_eAs (c_gw g) n1411_a9_, c_gr g r_a16_ 21 rfl, c_gN g r_a16_ 32 (by decide), c_eA r_a16_, c_eAs (c_gw g) r_a16_, c_gr g r_a45_ 21 rfl, c_gN g r_a45_ 32 (by decide), c_eA r_a45_, c_eAs (c_gw g) r_a45_, c_ga g 1411 rfl rfl (by decide) m_a9_, c_eIs (f := 4) (c_gw g) m_a0 rfl, c_eD0 m_a0, c_eDs0 (c_gw g) m_a0, c_eD1 m_a0, c_eDs1 (c_gw g) m_a0, c_eD2 m_a0, c_eDs2 (c_gw g) m_a0, c_eD3 m_a0, c_eDs3 (c_gw g) m_a0, c_eI (f := 1410) m_a9_ rfl, c_eIs (f := 1410) (c_gw g) m_a9_ rfl, c_eI (f := 1211) m_a12_ rfl, c_eI (f := 1410) m_a16_ rfl, c_eIs (f := 1410) (c_gw g) m_a16_ rfl, c_eI (f := 1410) m_a45_ rfl, c_eIs (f := 1410) (c_gw g) m_a45_ rfl, true_and, Option.some.injEq, exists_eq_left', c_xm, c_xn, c_xs]
                  refine ⟨h.1, ?_⟩
                  have h := h.2
                  refine um_X0_ofPartition g _ a0 _ _ m_a0 h (fun x51_ S50_ h => ?_)
                  refine ⟨_, rfl, ?_⟩
                  try simp only [c_gk g m_a0 1 rfl, c_gk g m_a9_ 8 rfl, c_gk g m_a12_ 7 rfl, c_gk g m_a16_ 8 rfl, c_gk g m_a45_ 8 rfl, c_gr g n1411_a9_ 21 rfl, c_gN g n1411_a9_ 32 (by decide), c_eA n1411_a9_, c_eAs (c_gw g) n1411_a9_, c_gr g r_a16_ 21 rfl, c_gN g r_a16_ 32 (by decide), c_eA r_a16_, c_eAs (c_gw g) r_a16_, c_gr g r_a45_ 21 rfl, c_gN g r_a45_ 32 (by decide), c_eA r_a45_, c_eAs (c_gw g) r_a45_, c_ga g 1411 rfl rfl (by decide) m_a9_, c_eIs (f := 4) (c_gw g) m_a0 rfl, c_eD0 m_a0, c_eDs0 (c_gw g) m_a0, c_eD1 m_a0, c_eDs1 (c_gw g) m_a0, c_eD2 m_a0, c_eDs2 (c_gw g) m_a0, c_eD3 m_a0, c_eDs3 (c_gw g) m_a0, c_eI (f := 1410) m_a9_ rfl, c_eIs (f := 1410) (c_gw g) m_a9_ rfl, c_eI (f := 1211) m_a12_ rfl, c_eI (f := 1410) m_a16_ rfl, c_eIs (f := 1410) (c_gw g) m_a16_ rfl, c_eI (f := 1410) m_a45_ rfl, c_eIs (f := 1410) (c_gw g) m_a45_ rfl, true_and, Option.some.injEq, exists_eq_left', c_xm, c_xn, c_xs]
                  exact ub_X0_answer_320 g _ a0 _ m_a0 h hQ
              · have h := h.2 hc
                refine ⟨fun hc => ?_, fun hc => ?_⟩
                · have h := h.1 hc
                  obtain ⟨a53_, e_a53_, m_a53_, h⟩ := h
                  have r_a53_ := c_gA g 1411 rfl (by decide) m_a53_
                  refine ⟨a53_, e_a53_, ?_⟩
                  try simp only [c_gk g m_a0 1 rfl, c_gk g m_a9_ 8 rfl, c_gk g m_a12_ 7 rfl, c_gk g m_a16_ 8 rfl, c_gk g m_a53_ 8 rfl, c_gr g n1411_a9_ 21 rfl, c_gN g n1411_a9_ 32 (by decide), c_eA n1411_a9_, c_eAs (c_gw g) n1411_a9_, c_gr g r_a16_ 21 rfl, c_gN g r_a16_ 32 (by decide), c_eA r_a16_, c_eAs (c_gw g) r_a16_, c_gr g r_a53_ 21 rfl, c_gN g r_a53_ 32 (by decide), c_eA r_a53_, c_eAs (c_gw g) r_a53_, c_ga g 1411 rfl rfl (by decide) m_a9_, c_eIs (f := 4) (c_gw g) m_a0 rfl, c_eD0 m_a0, c_eDs0 (c_gw g) m_a0, c_eD1 m_a0, c_eDs1 (c_gw g) m_a0, c_eD2 m_a0, c_eDs2 (c_gw g) m_a0, c_eD3 m_a0, c_eDs3 (c_gw g) m_a0, c_eI (f := 1410) m_a9_ rfl, c_eIs (f := 1410) (c_gw g) m_a9_ rfl, c_eI (f := 1211) m_a12_ rfl, c_eI (f := 1410) m_a16_ rfl, c_eIs (f := 1410) (c_gw g) m_a16_ rfl, c_eI (f := 1410) m_a53_ rfl, c_eIs (f := 1410) (c_gw g) m_a53_ rfl, true_and, Option.some.injEq, exists_eq_left', c_xm, c_xn, c_xs]
                  refine ⟨h.1, ?_⟩
                  have h := h.2
                  refine ⟨h.1, ?_⟩
                  have h := h.2
                  refine um_X0_receive g _ a0 _ _ m_a0 h (fun x60_ S59_ h => ?_)
                  refine ⟨_, rfl, ?_⟩
                  try simp only [c_gk g m_a0 1 rfl, c_gk g m_a9_ 8 rfl, c_gk g m_a12_ 7 rfl, c_gk g m_a16_ 8 rfl, c_gk g m_a53_ 8 rfl, c_gr g n1411_a9_ 21 rfl, c_gN g n1411_a9_ 32 (by decide), c_eA n1411_a9_, c_eAs (c_gw g) n1411_a9_, c_gr g r_a16_ 21 rfl, c_gN g r_a16_ 32 (by decide), c_eA r_a16_, c_eAs (c_gw g) r_a16_, c_gr g r_a53_ 21 rfl, c_gN g r_a53_ 32 (by decide), c_eA r_a53_, c_eAs (c_gw g) r_a53_, c_ga g 1411 rfl rfl (by decide) m_a9_, c_eIs (f := 4) (c_gw g) m_a0 rfl, c_eD0 m_a0, c_eDs0 (c_gw g) m_a0, c_eD1 m_a0, c_eDs1 (c_gw g) m_a0, c_eD2 m_a0, c_eDs2 (c_gw g) m_a0, c_eD3 m_a0, c_eDs3 (c_gw g) m_a0, c_eI (f := 1410) m_a9_ rfl, c_eIs (f := 1410) (c_gw g) m_a9_ rfl, c_eI (f := 1211) m_a12_ rfl, c_eI (f := 1410) m_a16_ rfl, c_eIs (f := 1410) (c_gw g) m_a16_ rfl, c_eI (f := 1410) m_a53_ rfl, c_eIs (f := 1410) (c_gw g) m_a53_ rfl, true_and, Option.some.injEq, exists_eq_left', c_xm, c_xn, c_xs]
                  exact ub_X0_answer_236 g _ a0 _ m_a0 h hQ
                · have h := h.2 hc
                  obtain ⟨a61_, e_a61_, m_a61_, h⟩ := h
                  have r_a61_ := c_gA g 1411 rfl (by decide) m_a61_
                  refine ⟨a61_, e_a61_, ?_⟩
                  try simp only [c_gk g m_a0 1 rfl, c_gk g m_a9_ 8 rfl, c_gk g m_a12_ 7 rfl, c_gk g m_a16_ 8 rfl, c_gk g m_a61_ 8 rfl, c_gr g n1411_a9_ 21 rfl, c_gN g n1411_a9_ 32 (by decide), c_eA n1411_a9_, c_eAs (c_gw g) n1411_a9_, c_gr g r_a16_ 21 rfl, c_gN g r_a16_ 32 (by decide), c_eA r_a16_, c_eAs (c_gw g) r_a16_, c_gr g r_a61_ 21 rfl, c_gN g r_a61_ 32 (by decide), c_eA r_a61_, c_eAs (c_gw g) r_a61_, c_ga g 1411 rfl rfl (by decide) m_a9_, c_eIs (f := 4) (c_gw g) m_a0 rfl, c_eD0 m_a0, c_eDs0 (c_gw g) m_a0, c_eD1 m_a0, c_eDs1 (c_gw g) m_a0, c_eD2 m_a0, c_eDs2 (c_gw g) m_a0, c_eD3 m_a0, c_eDs3 (c_gw g) m_a0, c_eI (f := 1410) m_a9_ rfl, c_eIs (f := 1410) (c_gw g) m_a9_ rfl, c_eI (f := 1211) m_a12_ rfl, c_eI (f := 1410) m_a16_ rfl, c_eIs (f := 1410) (c_gw g) m_a16_ rfl, c_eI (f := 1410) m_a61_ rfl, c_eIs (f := 1410) (c_gw g) m_a61_ rfl, true_and, Option.some.injEq, exists_eq_left', c_xm, c_xn, c_xs]
                  refine ⟨h.1, ?_⟩
                  have h := h.2
                  refine ⟨h.1, ?_⟩
                  have h := h.2
                  refine ⟨h.1, ?_⟩
                  have h := h.2
                  refine um_X0_send g _ a0 _ _ _ m_a0 h (fun x69_ S68_ h => ?_)
                  refine ⟨_, rfl, ?_⟩
                  try simp only [c_gk g m_a0 1 rfl, c_gk g m_a9_ 8 rfl, c_gk g m_a12_ 7 rfl, c_gk g m_a16_ 8 rfl, c_gk g m_a61_ 8 rfl, c_gr g n1411_a9_ 21 rfl, c_gN g n1411_a9_ 32 (by decide), c_eA n1411_a9_, c_eAs (c_gw g) n1411_a9_, c_gr g r_a16_ 21 rfl, c_gN g r_a16_ 32 (by decide), c_eA r_a16_, c_eAs (c_gw g) r_a16_, c_gr g r_a61_ 21 rfl, c_gN g r_a61_ 32 (by decide), c_eA r_a61_, c_eAs (c_gw g) r_a61_, c_ga g 1411 rfl rfl (by decide) m_a9_, c_eIs (f := 4) (c_gw g) m_a0 rfl, c_eD0 m_a0, c_eDs0 (c_gw g) m_a0, c_eD1 m_a0, c_eDs1 (c_gw g) m_a0, c_eD2 m_a0, c_eDs2 (c_gw g) m_a0, c_eD3 m_a0, c_eDs3 (c_gw g) m_a0, c_eI (f := 1410) m_a9_ rfl, c_eIs (f := 1410) (c_gw g) m_a9_ rfl, c_eI (f := 1211) m_a12_ rfl, c_eI (f := 1410) m_a16_ rfl, c_eIs (f := 1410) (c_gw g) m_a16_ rfl, c_eI (f := 1410) m_a61_ rfl, c_eIs (f := 1410) (c_gw g) m_a61_ rfl, true_and, Option.some.injEq, exists_eq_left', c_xm, c_xn, c_xs]
                  exact ub_X0_answer_236 g _ a0 _ m_a0 h hQ
            · have h := h.2 hc
              obtain ⟨a70_, e_a70_, m_a70_, h⟩ := h
              have r_a70_ := c_gA g 1411 rfl (by decide) m_a70_
              refine ⟨a70_, e_a70_, ?_⟩
              try simp only [c_gk g m_a0 1 rfl, c_gk g m_a9_ 8 rfl, c_gk g m_a12_ 7 rfl, c_gk g m_a16_ 8 rfl, c_gk g m_a70_ 8 rfl, c_gr g n1411_a9_ 21 rfl, c_gN g n1411_a9_ 32 (by decide), c_eA n1411_a9_, c_eAs (c_gw g) n1411_a9_, c_gr g r_a16_ 21 rfl, c_gN g r_a16_ 32 (by decide), c_eA r_a16_, c_eAs (c_gw g) r_a16_, c_gr g r_a70_ 21 rfl, c_gN g r_a70_ 32 (by decide), c_eA r_a70_, c_eAs (c_gw g) r_a70_, c_ga g 1411 rfl rfl (by decide) m_a9_, c_eIs (f := 4) (c_gw g) m_a0 rfl, c_eD0 m_a0, c_eDs0 (c_gw g) m_a0, c_eD1 m_a0, c_eDs1 (c_gw g) m_a0, c_eD2 m_a0, c_eDs2 (c_gw g) m_a0, c_eD3 m_a0, c_eDs3 (c_gw g) m_a0, c_eI (f := 1410) m_a9_ rfl, c_eIs (f := 1410) (c_gw g) m_a9_ rfl, c_eI (f := 1211) m_a12_ rfl, c_eI (f := 1410) m_a16_ rfl, c_eIs (f := 1410) (c_gw g) m_a16_ rfl, c_eI (f := 1410) m_a70_ rfl, c_eIs (f := 1410) (c_gw g) m_a70_ rfl, true_and, Option.some.injEq, exists_eq_left', c_xm, c_xn, c_xs]
              refine ⟨h.1, ?_⟩
              have h := h.2
              refine ⟨h.1, ?_⟩
              have h := h.2
              refine ⟨h.1, ?_⟩
              have h := h.2
              refine um_X0_ofWords g _ a0 _ _ _ _ m_a0 h (fun x78_ S77_ h => ?_)
              refine ⟨_, rfl, ?_⟩
              try simp only [c_gk g m_a0 1 rfl, c_gk g m_a9_ 8 rfl, c_gk g m_a12_ 7 rfl, c_gk g m_a16_ 8 rfl, c_gk g m_a70_ 8 rfl, c_gr g n1411_a9_ 21 rfl, c_gN g n1411_a9_ 32 (by decide), c_eA n1411_a9_, c_eAs (c_gw g) n1411_a9_, c_gr g r_a16_ 21 rfl, c_gN g r_a16_ 32 (by decide), c_eA r_a16_, c_eAs (c_gw g) r_a16_, c_gr g r_a70_ 21 rfl, c_gN g r_a70_ 32 (by decide), c_eA r_a70_, c_eAs (c_gw g) r_a70_, c_ga g 1411 rfl rfl (by decide) m_a9_, c_eIs (f := 4) (c_gw g) m_a0 rfl, c_eD0 m_a0, c_eDs0 (c_gw g) m_a0, c_eD1 m_a0, c_eDs1 (c_gw g) m_a0, c_eD2 m_a0, c_eDs2 (c_gw g) m_a0, c_eD3 m_a0, c_eDs3 (c_gw g) m_a0, c_eI (f := 1410) m_a9_ rfl, c_eIs (f := 1410) (c_gw g) m_a9_ rfl, c_eI (f := 1211) m_a12_ rfl, c_eI (f := 1410) m_a16_ rfl, c_eIs (f := 1410) (c_gw g) m_a16_ rfl, c_eI (f := 1410) m_a70_ rfl, c_eIs (f := 1410) (c_gw g) m_a70_ rfl, true_and, Option.some.injEq, exists_eq_left', c_xm, c_xn, c_xs]
              exact ub_X0_answer_320 g _ a0 _ m_a0 h hQ
          · have h := h.2 hc
            obtain ⟨a79_, e_a79_, m_a79_, h⟩ := h
            have r_a79_ := c_gA g 1411 rfl (by decide) m_a79_
            refine ⟨a79_, e_a79_, ?_⟩
            try simp only [c_gk g m_a0 1 rfl, c_gk g m_a9_ 8 rfl, c_gk g m_a12_ 7 rfl, c_gk g m_a16_ 8 rfl, c_gk g m_a79_ 8 rfl, c_gr g n1411_a9_ 21 rfl, c_gN g n1411_a9_ 32 (by decide), c_eA n1411_a9_, c_eAs (c_gw g) n1411_a9_, c_gr g r_a16_ 21 rfl, c_gN g r_a16_ 32 (by decide), c_eA r_a16_, c_eAs (c_gw g) r_a16_, c_gr g r_a79_ 21 rfl, c_gN g r_a79_ 32 (by decide), c_eA r_a79_, c_eAs (c_gw g) r_a79_, c_ga g 1411 rfl rfl (by decide) m_a9_, c_eIs (f := 4) (c_gw g) m_a0 rfl, c_eD0 m_a0, c_eDs0 (c_gw g) m_a0, c_eD1 m_a0, c_eDs1 (c_gw g) m_a0, c_eD2 m_a0, c_eDs2 (c_gw g) m_a0, c_eD3 m_a0, c_eDs3 (c_gw g) m_a0, c_eI (f := 1410) m_a9_ rfl, c_eIs (f := 1410) (c_gw g) m_a9_ rfl, c_eI (f := 1211) m_a12_ rfl, c_eI (f := 1410) m_a16_ rfl, c_eIs (f := 1410) (c_gw g) m_a16_ rfl, c_eI (f := 1410) m_a79_ rfl, c_eIs (f := 1410) (c_gw g) m_a79_ rfl, true_and, Option.some.injEq, exists_eq_left', c_xm, c_xn, c_xs]
            refine ⟨h.1, ?_⟩
            have h := h.2
            refine ⟨h.1, ?_⟩
            have h := h.2
            refine um_X0_ofSignals g _ a0 _ _ _ m_a0 h (fun x86_ S85_ h => ?_)
            refine ⟨_, rfl, ?_⟩
            try simp only [c_gk g m_a0 1 rfl, c_gk g m_a9_ 8 rfl, c_gk g m_a12_ 7 rfl, c_gk g m_a16_ 8 rfl, c_gk g m_a79_ 8 rfl, c_gr g n1411_a9_ 21 rfl, c_gN g n1411_a9_ 32 (by decide), c_eA n1411_a9_, c_eAs (c_gw g) n1411_a9_, c_gr g r_a16_ 21 rfl, c_gN g r_a16_ 32 (by decide), c_eA r_a16_, c_eAs (c_gw g) r_a16_, c_gr g r_a79_ 21 rfl, c_gN g r_a79_ 32 (by decide), c_eA r_a79_, c_eAs (c_gw g) r_a79_, c_ga g 1411 rfl rfl (by decide) m_a9_, c_eIs (f := 4) (c_gw g) m_a0 rfl, c_eD0 m_a0, c_eDs0 (c_gw g) m_a0, c_eD1 m_a0, c_eDs1 (c_gw g) m_a0, c_eD2 m_a0, c_eDs2 (c_gw g) m_a0, c_eD3 m_a0, c_eDs3 (c_gw g) m_a0, c_eI (f := 1410) m_a9_ rfl, c_eIs (f := 1410) (c_gw g) m_a9_ rfl, c_eI (f := 1211) m_a12_ rfl, c_eI (f := 1410) m_a16_ rfl, c_eIs (f := 1410) (c_gw g) m_a16_ rfl, c_eI (f := 1410) m_a79_ rfl, c_eIs (f := 1410) (c_gw g) m_a79_ rfl, true_and, Option.some.injEq, exists_eq_left', c_xm, c_xn, c_xs]
            exact ub_X0_answer_320 g _ a0 _ m_a0 h hQ
        · have h := h.2 hc
          obtain ⟨a87_, e_a87_, m_a87_, h⟩ := h
          have r_a87_ := c_gA g 1411 rfl (by decide) m_a87_
          refine ⟨a87_, e_a87_, ?_⟩
          try simp only [c_gk g m_a0 1 rfl, c_gk g m_a9_ 8 rfl, c_gk g m_a12_ 7 rfl, c_gk g m_a16_ 8 rfl, c_gk g m_a87_ 8 rfl, c_gr g n1411_a9_ 21 rfl, c_gN g n1411_a9_ 32 (by decide), c_eA n1411_a9_, c_eAs (c_gw g) n1411_a9_, c_gr g r_a16_ 21 rfl, c_gN g r_a16_ 32 (by decide), c_eA r_a16_, c_eAs (c_gw g) r_a16_, c_gr g r_a87_ 21 rfl, c_gN g r_a87_ 32 (by decide), c_eA r_a87_, c_eAs (c_gw g) r_a87_, c_ga g 1411 rfl rfl (by decide) m_a9_, c_eIs (f := 4) (c_gw g) m_a0 rfl, c_eD0 m_a0, c_eDs0 (c_gw g) m_a0, c_eD1 m_a0, c_eDs1 (c_gw g) m_a0, c_eD2 m_a0, c_eDs2 (c_gw g) m_a0, c_eD3 m_a0, c_eDs3 (c_gw g) m_a0, c_eI (f := 1410) m_a9_ rfl, c_eIs (f := 1410) (c_gw g) m_a9_ rfl, c_eI (f := 1211) m_a12_ rfl, c_eI (f := 1410) m_a16_ rfl, c_eIs (f := 1410) (c_gw g) m_a16_ rfl, c_eI (f := 1410) m_a87_ rfl, c_eIs (f := 1410) (c_gw g) m_a87_ rfl, true_and, Option.some.injEq, exists_eq_left', c_xm, c_xn, c_xs]
          refine ⟨h.1, ?_⟩
          have h := h.2
          refine ⟨h.1, ?_⟩
          have h := h.2
          refine um_X0_ofProcesses g _ a0 _ _ _ m_a0 h (fun x94_ S93_ h => ?_)
          refine ⟨_, rfl, ?_⟩
          try simp only [c_gk g m_a0 1 rfl, c_gk g m_a9_ 8 rfl, c_gk g m_a12_ 7 rfl, c_gk g m_a16_ 8 rfl, c_gk g m_a87_ 8 rfl, c_gr g n1411_a9_ 21 rfl, c_gN g n1411_a9_ 32 (by decide), c_eA n1411_a9_, c_eAs (c_gw g) n1411_a9_, c_gr g r_a16_ 21 rfl, c_gN g r_a16_ 32 (by decide), c_eA r_a16_, c_eAs (c_gw g) r_a16_, c_gr g r_a87_ 21 rfl, c_gN g r_a87_ 32 (by decide), c_eA r_a87_, c_eAs (c_gw g) r_a87_, c_ga g 1411 rfl rfl (by decide) m_a9_, c_eIs (f := 4) (c_gw g) m_a0 rfl, c_eD0 m_a0, c_eDs0 (c_gw g) m_a0, c_eD1 m_a0, c_eDs1 (c_gw g) m_a0, c_eD2 m_a0, c_eDs2 (c_gw g) m_a0, c_eD3 m_a0, c_eDs3 (c_gw g) m_a0, c_eI (f := 1410) m_a9_ rfl, c_eIs (f := 1410) (c_gw g) m_a9_ rfl, c_eI (f := 1211) m_a12_ rfl, c_eI (f := 1410) m_a16_ rfl, c_eIs (f := 1410) (c_gw g) m_a16_ rfl, c_eI (f := 1410) m_a87_ rfl, c_eIs (f := 1410) (c_gw g) m_a87_ rfl, true_and, Option.some.injEq, exists_eq_left', c_xm, c_xn, c_xs]
          exact ub_X0_answer_320 g _ a0 _ m_a0 h hQ
      · have h := h.2 hc
        exact hQ _ _ h
    · have h := h.2 hc
      exact ub_X0_answer_52 g _  h hQ
