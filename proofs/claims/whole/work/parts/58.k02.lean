def km_X0_readBoard (L : c_L) (S : c_S) (a0 : Nat) (r1 : Option Nat) (x2 : Int32) (x3 : Int32) (Q : Int32 → c_S → Prop) : Prop := km_X0_isNoTime L S a0 x3 (fun x4_ S3_ => ((x4_ = 0 → (∃ a6_ : Nat, r1 = some a6_ ∧ (c_mk L 10 a6_ ∧ ((¬ (c_I S3_ 2001 a6_) = 0 → (∃ a11_ : Nat, (c_P S3_ 3 a0) = some a11_ ∧ (c_mk L 7 a11_ ∧ (vp_in (11 : Int32) 32 ∧ (Q (0 : Int32) (cs_A S3_ 1411 a11_ (11 : Int32).toNatClampNeg (c_I S3_ 2005 a6_))))))) ∧ ((c_I S3_ 2001 a6_) = 0 → (km_X0_waitFor L S3_ a0 x2 x3 (fun x18_ S17_ => (Q x18_ S17_)))))))) ∧ (¬ x4_ = 0 → (Q (1 : Int32) S3_))))
set_option maxRecDepth 100000 in
set_option maxHeartbeats 4000000 in
theorem um_X0_readBoard {L : c_L} {T : q_S} (g : c_G L T) (S : c_S) (a0 : Nat) (r1 : Option Nat) (x2 : Int32) (x3 : Int32) (m_a0 : c_mk L 0 a0) {Q1 : Int32 → c_S → Prop} {Q : Option Value → q_S → Prop} (h : km_X0_readBoard L  S a0 r1 x2 x3 Q1) (hQ : ∀ (v : Int32) (K : c_S), Q1 v K → Q (some (.int v)) (c_E L K T)) : wm_X0_readBoard  (c_E L S T) (c_ob L 0 a0) (r1.map (c_ob L 10)) x2 x3 Q := by
  unfold wm_X0_readBoard
  unfold km_X0_readBoard at h
  try simp only [c_gk g m_a0 1 rfl, c_eD3 m_a0, c_eDs3 (c_gw g) m_a0, true_and, Option.some.injEq, exists_eq_left', c_xm, c_xn, c_xs]
  refine um_X0_isNoTime g _ a0 _ m_a0 h (fun x4_ S3_ h => ?_)
  refine ⟨_, rfl, ?_⟩
  try simp only [c_gk g m_a0 1 rfl, c_eD3 m_a0, c_eDs3 (c_gw g) m_a0, true_and, Option.some.injEq, exists_eq_left', c_xm, c_xn, c_xs]
  refine ⟨fun hc => ?_, fun hc => ?_⟩
  · have h := h.1 hc
    obtain ⟨a6_, e_a6_, m_a6_, h⟩ := h
    refine ⟨a6_, e_a6_, ?_⟩
    try simp only [c_gk g m_a0 1 rfl, c_gk g m_a6_ 11 rfl, c_eD3 m_a0, c_eDs3 (c_gw g) m_a0, c_eI (f := 2001) m_a6_ rfl, c_eI (f := 2005) m_a6_ rfl, true_and, Option.some.injEq, exists_eq_left', c_xm, c_xn, c_xs]
    refine ⟨fun hc => ?_, fun hc => ?_⟩
    · have h := h.1 hc
      obtain ⟨a11_, e_a11_, m_a11_, h⟩ := h
      have r_a11_ := c_gA g 1411 rfl (by decide) m_a11_
      refine ⟨a11_, e_a11_, ?_⟩
      try simp only [c_gk g m_a0 1 rfl, c_gk g m_a6_ 11 rfl, c_gk g m_a11_ 8 rfl, c_gr g r_a11_ 21 rfl, c_gN g r_a11_ 32 (by decide), c_eA r_a11_, c_eAs (c_gw g) r_a11_, c_eD3 m_a0, c_eDs3 (c_gw g) m_a0, c_eI (f := 2001) m_a6_ rfl, c_eI (f := 2005) m_a6_ rfl, true_and, Option.some.injEq, exists_eq_left', c_xm, c_xn, c_xs]
      refine ⟨h.1, ?_⟩
      have h := h.2
      exact hQ _ _ h
    · have h := h.2 hc
      refine um_X0_waitFor g _ a0 _ _ m_a0 h (fun x18_ S17_ h => ?_)
      refine ⟨_, rfl, ?_⟩
      try simp only [c_gk g m_a0 1 rfl, c_gk g m_a6_ 11 rfl, c_eD3 m_a0, c_eDs3 (c_gw g) m_a0, c_eI (f := 2001) m_a6_ rfl, c_eI (f := 2005) m_a6_ rfl, true_and, Option.some.injEq, exists_eq_left', c_xm, c_xn, c_xs]
      exact hQ _ _ h
  · have h := h.2 hc
    exact hQ _ _ h
def kb_X0_ofWords_119 (L : c_L) (S : c_S) (xs0 : Int32) (Q : Int32 → c_S → Prop) : Prop := Q xs0 S
set_option maxRecDepth 100000 in
set_option maxHeartbeats 4000000 in
theorem ub_X0_ofWords_119 {L : c_L} {T : q_S} (g : c_G L T) (S : c_S) (xs0 : Int32)  {Q1 : Int32 → c_S → Prop} {Q : Option Value → q_S → Prop} (h : kb_X0_ofWords_119 L  S xs0 Q1) (hQ : ∀ (v : Int32) (K : c_S), Q1 v K → Q (some (.int v)) (c_E L K T)) : wb_X0_ofWords_119  (c_E L S T) xs0 Q := by
  unfold wb_X0_ofWords_119
  unfold kb_X0_ofWords_119 at h
  try simp only [true_and, Option.some.injEq, exists_eq_left', c_xm, c_xn, c_xs]
  exact hQ _ _ h
def kb_X0_ofWords_11 (L : c_L) (S : c_S) (a0 : Nat) (x1 : Int32) (x2 : Int32) (x3 : Int32) (x4 : Int32) (xs0 : Int32) (Q : Int32 → c_S → Prop) : Prop := ∃ a2_ : Nat, (c_P S 1 a0) = some a2_ ∧ (c_mk L 5 a2_ ∧ (km_X5_thingAt L S a2_ xs0 x2 (fun r7_ S6_ => ((¬ r7_ = none → ((x1.toInt < 13 ∨ 16 < x1.toInt → (km_X0_readBoard L S6_ a0 r7_ ((xs0 * (8 : Int32)) + x2) x3 (fun x12_ S11_ => (Q x12_ S11_)))) ∧ (x1 = (13 : Int32) → (km_X0_putIntoBuffer L S6_ a0 r7_ ((xs0 * (8 : Int32)) + x2) x3 x4 (fun x16_ S15_ => (Q x16_ S15_)))) ∧ (x1 = (14 : Int32) → (km_X0_isNoTime L S6_ a0 x3 (fun x20_ S19_ => ((x20_ = 0 → (∃ a22_ : Nat, r7_ = some a22_ ∧ (c_mk L 10 a22_ ∧ (km_X0_takeFrom L S19_ a0 (c_qu a22_) ((xs0 * (8 : Int32)) + x2) x3 (c_P S19_ 1 a0) ((xs0 * (8 : Int32)) + x2) (c_I S19_ 2004 a22_) (fun x28_ S27_ => (kb_X0_ofWords_119 L S27_ x28_ Q)))))) ∧ (¬ x20_ = 0 → (kb_X0_ofWords_119 L S19_ (1 : Int32) Q)))))) ∧ (x1 = (15 : Int32) → (∃ a29_ : Nat, r7_ = some a29_ ∧ (c_mk L 10 a29_ ∧ (∃ a33_ : Nat, (c_P (cs_I (cs_I S6_ 2001 a29_ (1 : Int32)) 2005 a29_ x3) 1 a0) = some a33_ ∧ (c_mk L 5 a33_ ∧ (km_X5_showAll L (cs_I (cs_I S6_ 2001 a29_ (1 : Int32)) 2005 a29_ x3) a33_ ((xs0 * (8 : Int32)) + x2) x3 (fun S37_ => (Q (0 : Int32) S37_)))))))) ∧ (x1 = (16 : Int32) → (∃ a38_ : Nat, r7_ = some a38_ ∧ (c_mk L 10 a38_ ∧ (Q (0 : Int32) (cs_I S6_ 2001 a38_ (0 : Int32)))))))) ∧ (r7_ = none → (Q (1 : Int32) S6_))))))
set_option maxRecDepth 100000 in
set_option maxHeartbeats 4000000 in
theorem ub_X0_ofWords_11 {L : c_L} {T : q_S} (g : c_G L T) (S : c_S) (a0 : Nat) (x1 : Int32) (x2 : Int32) (x3 : Int32) (x4 : Int32) (xs0 : Int32) (m_a0 : c_mk L 0 a0) {Q1 : Int32 → c_S → Prop} {Q : Option Value → q_S → Prop} (h : kb_X0_ofWords_11 L  S a0 x1 x2 x3 x4 xs0 Q1) (hQ : ∀ (v : Int32) (K : c_S), Q1 v K → Q (some (.int v)) (c_E L K T)) : wb_X0_ofWords_11  (c_E L S T) (c_ob L 0 a0) x1 x2 x3 x4 xs0 Q := by
  unfold wb_X0_ofWords_11
  unfold kb_X0_ofWords_11 at h
  try simp only [c_gk g m_a0 1 rfl, c_eD1 m_a0, c_eDs1 (c_gw g) m_a0, true_and, Option.some.injEq, exists_eq_left', c_xm, c_xn, c_xs]
  obtain ⟨a2_, e_a2_, m_a2_, h⟩ := h
  refine ⟨a2_, e_a2_, ?_⟩
  try simp only [c_gk g m_a0 1 rfl, c_gk g m_a2_ 6 rfl, c_eD1 m_a0, c_eDs1 (c_gw g) m_a0, true_and, Option.some.injEq, exists_eq_left', c_xm, c_xn, c_xs]
  refine um_X5_thingAt g _ a2_ _ _ m_a2_ h (fun r7_ S6_ h => ?_)
  refine ⟨_, rfl, ?_⟩
  try simp only [c_gk g m_a0 1 rfl, c_gk g m_a2_ 6 rfl, c_eD1 m_a0, c_eDs1 (c_gw g) m_a0, true_and, Option.some.injEq, exists_eq_left', c_xm, c_xn, c_xs]
  refine ⟨fun hc => ?_, fun hc => ?_⟩
  · have h := h.1 hc
    refine ⟨fun hc => ?_, fun hc => ?_, fun hc => ?_, fun hc => ?_, fun hc => ?_⟩
    · have h := h.1 hc
      refine um_X0_readBoard g _ a0 r7_ _ _ m_a0 h (fun x12_ S11_ h => ?_)
      refine ⟨_, rfl, ?_⟩
      try simp only [c_gk g m_a0 1 rfl, c_gk g m_a2_ 6 rfl, c_eD1 m_a0, c_eDs1 (c_gw g) m_a0, true_and, Option.some.injEq, exists_eq_left', c_xm, c_xn, c_xs]
      exact hQ _ _ h
    · have h := h.2.1 hc
      refine um_X0_putIntoBuffer g _ a0 r7_ _ _ _ m_a0 h (fun x16_ S15_ h => ?_)
      refine ⟨_, rfl, ?_⟩
      try simp only [c_gk g m_a0 1 rfl, c_gk g m_a2_ 6 rfl, c_eD1 m_a0, c_eDs1 (c_gw g) m_a0, true_and, Option.some.injEq, exists_eq_left', c_xm, c_xn, c_xs]
      exact hQ _ _ h
    · have h := h.2.2.1 hc
      refine um_X0_isNoTime g _ a0 _ m_a0 h (fun x20_ S19_ h => ?_)
      refine ⟨_, rfl, ?_⟩
      try simp only [c_gk g m_a0 1 rfl, c_gk g m_a2_ 6 rfl, c_eD1 m_a0, c_eDs1 (c_gw g) m_a0, true_and, Option.some.injEq, exists_eq_left', c_xm, c_xn, c_xs]
      refine ⟨fun hc => ?_, fun hc => ?_⟩
      · have h := h.1 hc
        obtain ⟨a22_, e_a22_, m_a22_, h⟩ := h
        refine ⟨a22_, e_a22_, ?_⟩
        try simp only [c_gk g m_a0 1 rfl, c_gk g m_a2_ 6 rfl, c_gk g m_a22_ 11 rfl, c_eD1 m_a0, c_eDs1 (c_gw g) m_a0, c_eI (f := 2004) m_a22_ rfl, c_eIs (f := 2001) (c_gw g) m_a22_ rfl, c_eIs (f := 2005) (c_gw g) m_a22_ rfl, c_gu g m_a22_, true_and, Option.some.injEq, exists_eq_left', c_xm, c_xn, c_xs]
        refine um_X0_takeFrom g _ a0 (c_qu a22_) _ _ (c_P S19_ 1 a0) _ _ m_a0 h (fun x28_ S27_ h => ?_)
        refine ⟨_, rfl, ?_⟩
        try simp only [c_gk g m_a0 1 rfl, c_gk g m_a2_ 6 rfl, c_gk g m_a22_ 11 rfl, c_eD1 m_a0, c_eDs1 (c_gw g) m_a0, c_eI (f := 2004) m_a22_ rfl, c_eIs (f := 2001) (c_gw g) m_a22_ rfl, c_eIs (f := 2005) (c_gw g) m_a22_ rfl, c_gu g m_a22_, true_and, Option.some.injEq, exists_eq_left', c_xm, c_xn, c_xs]
        exact ub_X0_ofWords_119 g _ _  h hQ
      · have h := h.2 hc
        exact ub_X0_ofWords_119 g _ _  h hQ
    · have h := h.2.2.2.1 hc
      obtain ⟨a29_, e_a29_, m_a29_, h⟩ := h
      refine ⟨a29_, e_a29_, ?_⟩
      try simp only [c_gk g m_a0 1 rfl, c_gk g m_a2_ 6 rfl, c_gk g m_a29_ 11 rfl, c_eD1 m_a0, c_eDs1 (c_gw g) m_a0, c_eI (f := 2004) m_a29_ rfl, c_eIs (f := 2001) (c_gw g) m_a29_ rfl, c_eIs (f := 2005) (c_gw g) m_a29_ rfl, c_gu g m_a29_, true_and, Option.some.injEq, exists_eq_left', c_xm, c_xn, c_xs]
      obtain ⟨a33_, e_a33_, m_a33_, h⟩ := h
      refine ⟨a33_, e_a33_, ?_⟩
      try simp only [c_gk g m_a0 1 rfl, c_gk g m_a2_ 6 rfl, c_gk g m_a29_ 11 rfl, c_gk g m_a33_ 6 rfl, c_eD1 m_a0, c_eDs1 (c_gw g) m_a0, c_eI (f := 2004) m_a29_ rfl, c_eIs (f := 2001) (c_gw g) m_a29_ rfl, c_eIs (f := 2005) (c_gw g) m_a29_ rfl, c_gu g m_a29_, true_and, Option.some.injEq, exists_eq_left', c_xm, c_xn, c_xs]
      refine um_X5_showAll g _ a33_ _ _ m_a33_ h (fun S37_ h => ?_)
      refine ⟨rfl, ?_⟩
      try simp only [c_gk g m_a0 1 rfl, c_gk g m_a2_ 6 rfl, c_gk g m_a29_ 11 rfl, c_gk g m_a33_ 6 rfl, c_eD1 m_a0, c_eDs1 (c_gw g) m_a0, c_eI (f := 2004) m_a29_ rfl, c_eIs (f := 2001) (c_gw g) m_a29_ rfl, c_eIs (f := 2005) (c_gw g) m_a29_ rfl, c_gu g m_a29_, true_and, Option.some.injEq, exists_eq_left', c_xm, c_xn, c_xs]
      exact hQ _ _ h
    · have h := h.2.2.2.2 hc
      obtain ⟨a38_, e_a38_, m_a38_, h⟩ := h
      refine ⟨a38_, e_a38_, ?_⟩
      try simp only [c_gk g m_a0 1 rfl, c_gk g m_a2_ 6 rfl, c_gk g m_a38_ 11 rfl, c_eD1 m_a0, c_eDs1 (c_gw g) m_a0, c_eI (f := 2004) m_a38_ rfl, c_eIs (f := 2001) (c_gw g) m_a38_ rfl, c_eIs (f := 2005) (c_gw g) m_a38_ rfl, c_gu g m_a38_, true_and, Option.some.injEq, exists_eq_left', c_xm, c_xn, c_xs]
      exact hQ _ _ h
  · have h := h.2 hc
    exact hQ _ _ h
def km_X0_ofWords (L : c_L) (S : c_S) (a0 : Nat) (x1 : Int32) (x2 : Int32) (x3 : Int32) (x4 : Int32) (Q : Int32 → c_S → Prop) : Prop := ((14 : Int32) < x1 → (kb_X0_ofWords_11 L S a0 x1 x2 x3 x4 (3 : Int32) Q)) ∧ (¬ (14 : Int32) < x1 → (kb_X0_ofWords_11 L S a0 x1 x2 x3 x4 (2 : Int32) Q))
set_option maxRecDepth 100000 in
set_option maxHeartbeats 4000000 in
theorem um_X0_ofWords {L : c_L} {T : q_S} (g : c_G L T) (S : c_S) (a0 : Nat) (x1 : Int32) (x2 : Int32) (x3 : Int32) (x4 : Int32) (m_a0 : c_mk L 0 a0) {Q1 : Int32 → c_S → Prop} {Q : Option Value → q_S → Prop} (h : km_X0_ofWords L  S a0 x1 x2 x3 x4 Q1) (hQ : ∀ (v : Int32) (K : c_S), Q1 v K → Q (some (.int v)) (c_E L K T)) : wm_X0_ofWords  (c_E L S T) (c_ob L 0 a0) x1 x2 x3 x4 Q := by
  unfold wm_X0_ofWords
  unfold km_X0_ofWords at h
  try simp only [c_gk g m_a0 1 rfl, true_and, Option.some.injEq, exists_eq_left', c_xm, c_xn, c_xs]
  refine ⟨fun hc => ?_, fun hc => ?_⟩
  · have h := h.1 hc
    exact ub_X0_ofWords_11 g _ a0 _ _ _ _ _ m_a0 h hQ
  · have h := h.2 hc
    exact ub_X0_ofWords_11 g _ a0 _ _ _ _ _ m_a0 h hQ
def kb_X6_channelAt_22 (L : c_L) (S : c_S) (rs0 : Option Nat) (Q : Option Nat → c_S → Prop) : Prop := Q rs0 S
set_option maxRecDepth 100000 in
set_option maxHeartbeats 4000000 in
theorem ub_X6_channelAt_22 {L : c_L} {T : q_S} (g : c_G L T) (S : c_S) (rs0 : Option Nat)  {Q1 : Option Nat → c_S → Prop} {Q : Option Value → q_S → Prop} (h : kb_X6_channelAt_22 L  S rs0 Q1) (hQ : ∀ (v : Option Nat) (K : c_S), Q1 v K → Q (some (va_rf (v.map (c_ob L 1)))) (c_E L K T)) : wb_X6_channelAt_22  (c_E L S T) (rs0.map (c_ob L 1)) Q := by
  unfold wb_X6_channelAt_22
  unfold kb_X6_channelAt_22 at h
  try simp only [true_and, Option.some.injEq, exists_eq_left', c_xm, c_xn, c_xs]
  exact hQ _ _ h
def kb_X6_channelAt_12 (L : c_L) (S : c_S) (Q : Option Nat → c_S → Prop) : Prop := kb_X6_channelAt_22 L S none Q
set_option maxRecDepth 100000 in
set_option maxHeartbeats 4000000 in
theorem ub_X6_channelAt_12 {L : c_L} {T : q_S} (g : c_G L T) (S : c_S)  {Q1 : Option Nat → c_S → Prop} {Q : Option Value → q_S → Prop} (h : kb_X6_channelAt_12 L  S Q1) (hQ : ∀ (v : Option Nat) (K : c_S), Q1 v K → Q (some (va_rf (v.map (c_ob L 1)))) (c_E L K T)) : wb_X6_channelAt_12  (c_E L S T) Q := by
  unfold wb_X6_channelAt_12
  unfold kb_X6_channelAt_12 at h
  try simp only [true_and, Option.some.injEq, exists_eq_left', c_xm, c_xn, c_xs]
  exact ub_X6_channelAt_22 g _ none  h hQ
def km_X6_channelAt (L : c_L) (S : c_S) (a0 : Nat) (x1 : Int32) (Q : Option Nat → c_S → Prop) : Prop := (x1 < 0 → (kb_X6_channelAt_12 L S Q)) ∧ (¬ x1 < 0 → ((x1 < (c_I S 1203 a0) → (vp_in x1 24 ∧ (kb_X6_channelAt_22 L S (c_e1 L x1.toNatClampNeg) Q))) ∧ (¬ x1 < (c_I S 1203 a0) → (kb_X6_channelAt_12 L S Q))))
set_option maxRecDepth 100000 in
set_option maxHeartbeats 4000000 in
theorem um_X6_channelAt {L : c_L} {T : q_S} (g : c_G L T) (S : c_S) (a0 : Nat) (x1 : Int32) (m_a0 : c_mk L 6 a0) {Q1 : Option Nat → c_S → Prop} {Q : Option Value → q_S → Prop} (h : km_X6_channelAt L  S a0 x1 Q1) (hQ : ∀ (v : Option Nat) (K : c_S), Q1 v K → Q (some (va_rf (v.map (c_ob L 1)))) (c_E L K T)) : wm_X6_channelAt  (c_E L S T) (c_ob L 6 a0) x1 Q := by
  unfold wm_X6_channelAt
  unfold km_X6_channelAt at h
  try simp only [c_gk g m_a0 7 rfl, c_eI (f := 1203) m_a0 rfl, true_and, Option.some.injEq, exists_eq_left', c_xm, c_xn, c_xs]
  refine ⟨fun hc => ?_, fun hc => ?_⟩
  · have h := h.1 hc
    exact ub_X6_channelAt_12 g _  h hQ
  · have h := h.2 hc
    refine ⟨fun hc => ?_, fun hc => ?_⟩
    · have h := h.1 hc
      have n1202_a0 := c_gA g 1202 rfl (by decide) m_a0
      try simp only [c_gk g m_a0 7 rfl, c_gr g n1202_a0 24 rfl, c_gN g n1202_a0 24 (by decide), c_g1 g m_a0, c_ga g 1202 rfl rfl (by decide) m_a0, c_eI (f := 1203) m_a0 rfl, true_and, Option.some.injEq, exists_eq_left', c_xm, c_xn, c_xs]
      refine ⟨h.1, ?_⟩
      have h := h.2
      exact ub_X6_channelAt_22 g _ (c_e1 L x1.toNatClampNeg)  h hQ
    · have h := h.2 hc
      exact ub_X6_channelAt_12 g _  h hQ
def kb_X2_show_46 (L : c_L) (S : c_S) (a0 : Nat) (Q : c_S → Prop) : Prop := Q (cs_I S 402 a0 ((c_I S 402 a0) + (1 : Int32)))
set_option maxRecDepth 100000 in
set_option maxHeartbeats 4000000 in
theorem ub_X2_show_46 {L : c_L} {T : q_S} (g : c_G L T) (S : c_S) (a0 : Nat) (m_a0 : c_mk L 2 a0) {Q1 : c_S → Prop} {Q : Option Value → q_S → Prop} (h : kb_X2_show_46 L  S a0 Q1) (hQ : ∀ K : c_S, Q1 K → Q none (c_E L K T)) : wb_X2_show_46  (c_E L S T) (c_ob L 2 a0) Q := by
  unfold wb_X2_show_46
  unfold kb_X2_show_46 at h
  try simp only [c_gk g m_a0 3 rfl, c_eI (f := 402) m_a0 rfl, c_eIs (f := 402) (c_gw g) m_a0 rfl, true_and, Option.some.injEq, exists_eq_left', c_xm, c_xn, c_xs]
  exact hQ _ h
def km_X2_show (L : c_L) (S : c_S) (a0 : Nat) (x1 : Int32) (x2 : Int32) (x3 : Int32) (Q : c_S → Prop) : Prop := ((300 : Int32) ≤ (c_I S 402 a0) → (kb_X2_show_46 L S a0 Q)) ∧ (¬ (300 : Int32) ≤ (c_I S 402 a0) → (vp_in ((c_I S 402 a0) * (3 : Int32)) 900 ∧ (vp_in (((c_I S 402 a0) * (3 : Int32)) + (1 : Int32)) 900 ∧ (vp_in (((c_I S 402 a0) * (3 : Int32)) + (2 : Int32)) 900 ∧ (∀ S16_ : c_S, S16_ = (cs_A (cs_A (cs_A S 400 a0 ((c_I S 402 a0) * (3 : Int32)).toNatClampNeg x1) 400 a0 (((c_I S 402 a0) * (3 : Int32)) + (1 : Int32)).toNatClampNeg x2) 400 a0 (((c_I S 402 a0) * (3 : Int32)) + (2 : Int32)).toNatClampNeg x3) → (kb_X2_show_46 L S16_ a0 Q))))))
set_option maxRecDepth 100000 in
set_option maxHeartbeats 4000000 in
theorem um_X2_show {L : c_L} {T : q_S} (g : c_G L T) (S : c_S) (a0 : Nat) (x1 : Int32) (x2 : Int32) (x3 : Int32) (m_a0 : c_mk L 2 a0) {Q1 : c_S → Prop} {Q : Option Value → q_S → Prop} (h : km_X2_show L  S a0 x1 x2 x3 Q1) (hQ : ∀ K : c_S, Q1 K → Q none (c_E L K T)) : wm_X2_show  (c_E L S T) (c_ob L 2 a0) x1 x2 x3 Q := by
  unfold wm_X2_show
  unfold km_X2_show at h
  try simp only [c_gk g m_a0 3 rfl, c_eI (f := 402) m_a0 rfl, true_and, Option.some.injEq, exists_eq_left', c_xm, c_xn, c_xs]
  refine ⟨fun hc => ?_, fun hc => ?_⟩
  · have h := h.1 hc
    exact ub_X2_show_46 g _ a0 m_a0 h hQ
  · have h := h.2 hc
    have n400_a0 := c_gA g 400 rfl (by decide) m_a0
    try simp only [c_gk g m_a0 3 rfl, c_gr g n400_a0 21 rfl, c_gN g n400_a0 900 (by decide), c_eA n400_a0, c_eAs (c_gw g) n400_a0, c_ga g 400 rfl rfl (by decide) m_a0, c_eI (f := 402) m_a0 rfl, true_and, Option.some.injEq, exists_eq_left', c_xm, c_xn, c_xs]
    refine ⟨h.1, ?_⟩
    have h := h.2
    refine ⟨h.1, ?_⟩
    have h := h.2
    refine ⟨h.1, ?_⟩
    have h := h.2
    refine fun S16_ e_S16_ => ?_
    have h := h S16_ e_S16_
    exact ub_X2_show_46 g _ a0 m_a0 h hQ
def km_X8_empty (L : c_L) (S : c_S) (a0 : Nat) (Q : c_S → Prop) : Prop := Q (cs_I (cs_I S 1602 a0 (0 : Int32)) 1603 a0 (0 : Int32))
set_option maxRecDepth 100000 in
set_option maxHeartbeats 4000000 in
theorem um_X8_empty {L : c_L} {T : q_S} (g : c_G L T) (S : c_S) (a0 : Nat) (m_a0 : c_mk L 8 a0) {Q1 : c_S → Prop} {Q : Option Value → q_S → Prop} (h : km_X8_empty L  S a0 Q1) (hQ : ∀ K : c_S, Q1 K → Q none (c_E L K T)) : wm_X8_empty  (c_E L S T) (c_ob L 8 a0) Q := by
  unfold wm_X8_empty
  unfold km_X8_empty at h
  try simp only [c_gk g m_a0 9 rfl, c_eIs (f := 1602) (c_gw g) m_a0 rfl, c_eIs (f := 1603) (c_gw g) m_a0 rfl, true_and, Option.some.injEq, exists_eq_left', c_xm, c_xn, c_xs]
  exact hQ _ h
def km_X1_sample (L : c_L) (S : c_S) (a0 : Nat) (x1 : Int32) (x2 : Int32) (Q : c_S → Prop) : Prop := km_X8_empty L S (1000 + a0) (fun S6_ => (km_X8_add L S6_ (1000 + a0) x1 (fun x13_ S12_ => (Q (cs_I S12_ 205 a0 x2)))))
set_option maxRecDepth 100000 in
set_option maxHeartbeats 4000000 in
theorem um_X1_sample {L : c_L} {T : q_S} (g : c_G L T) (S : c_S) (a0 : Nat) (x1 : Int32) (x2 : Int32) (m_a0 : c_mk L 1 a0) {Q1 : c_S → Prop} {Q : Option Value → q_S → Prop} (h : km_X1_sample L  S a0 x1 x2 Q1) (hQ : ∀ K : c_S, Q1 K → Q none (c_E L K T)) : wm_X1_sample  (c_E L S T) (c_ob L 1 a0) x1 x2 Q := by
  unfold wm_X1_sample
  unfold km_X1_sample at h
  try simp only [c_gk g m_a0 2 rfl, c_eIs (f := 205) (c_gw g) m_a0 rfl, true_and, Option.some.injEq, exists_eq_left', c_xm, c_xn, c_xs]
  have n204_a0 := c_gQ g m_a0
  try simp only [c_gk g m_a0 2 rfl, c_gk g n204_a0 9 rfl, c_gq g m_a0, c_eIs (f := 205) (c_gw g) m_a0 rfl, true_and, Option.some.injEq, exists_eq_left', c_xm, c_xn, c_xs]
  refine um_X8_empty g _ (1000 + a0) n204_a0 h (fun S6_ h => ?_)
  refine ⟨rfl, ?_⟩
  try simp only [c_gk g m_a0 2 rfl, c_gk g n204_a0 9 rfl, c_gq g m_a0, c_eIs (f := 205) (c_gw g) m_a0 rfl, true_and, Option.some.injEq, exists_eq_left', c_xm, c_xn, c_xs]
  refine um_X8_add g _ (1000 + a0) _ n204_a0 h (fun x13_ S12_ h => ?_)
  refine ⟨_, rfl, ?_⟩
  try simp only [c_gk g m_a0 2 rfl, c_gk g n204_a0 9 rfl, c_gq g m_a0, c_eIs (f := 205) (c_gw g) m_a0 rfl, true_and, Option.some.injEq, exists_eq_left', c_xm, c_xn, c_xs]
  exact hQ _ h
def kb_X6_carry_83 (L : c_L) (S : c_S) (Q : Int32 → c_S → Prop) : Prop := Q (1 : Int32) S
set_option maxRecDepth 100000 in
set_option maxHeartbeats 4000000 in
theorem ub_X6_carry_83 {L : c_L} {T : q_S} (g : c_G L T) (S : c_S)  {Q1 : Int32 → c_S → Prop} {Q : Option Value → q_S → Prop} (h : kb_X6_carry_83 L  S Q1) (hQ : ∀ (v : Int32) (K : c_S), Q1 v K → Q (some (.int v)) (c_E L K T)) : wb_X6_carry_83  (c_E L S T) Q := by
  unfold wb_X6_carry_83
  unfold kb_X6_carry_83 at h
  try simp only [true_and, Option.some.injEq, exists_eq_left', c_xm, c_xn, c_xs]
  exact hQ _ _ h
def kb_X6_carry_85 (L : c_L) (S : c_S) (r1 : Option Nat) (x2 : Int32) (Q : Int32 → c_S → Prop) : Prop := ∃ a1_ : Nat, r1 = some a1_ ∧ (c_mk L 1 a1_ ∧ (km_X8_add L S (1000 + a1_) x2 (fun x9_ S8_ => (narrow .boolean (.int x9_) = .int x9_ ∧ (Q x9_ S8_)))))
set_option maxRecDepth 100000 in
set_option maxHeartbeats 4000000 in
theorem ub_X6_carry_85 {L : c_L} {T : q_S} (g : c_G L T) (S : c_S) (r1 : Option Nat) (x2 : Int32)  {Q1 : Int32 → c_S → Prop} {Q : Option Value → q_S → Prop} (h : kb_X6_carry_85 L  S r1 x2 Q1) (hQ : ∀ (v : Int32) (K : c_S), Q1 v K → Q (some (.int v)) (c_E L K T)) : wb_X6_carry_85  (c_E L S T) (r1.map (c_ob L 1)) x2 Q := by
  unfold wb_X6_carry_85
  unfold kb_X6_carry_85 at h
  try simp only [true_and, Option.some.injEq, exists_eq_left', c_xm, c_xn, c_xs]
  obtain ⟨a1_, e_a1_, m_a1_, h⟩ := h
  refine ⟨a1_, e_a1_, ?_⟩
  try simp only [c_gk g m_a1_ 2 rfl, true_and, Option.some.injEq, exists_eq_left', c_xm, c_xn, c_xs]
  have n204_a1_ := c_gQ g m_a1_
  try simp only [c_gk g m_a1_ 2 rfl, c_gk g n204_a1_ 9 rfl, c_gq g m_a1_, true_and, Option.some.injEq, exists_eq_left', c_xm, c_xn, c_xs]
  refine um_X8_add g _ (1000 + a1_) _ n204_a1_ h (fun x9_ S8_ h => ?_)
  refine ⟨_, rfl, ?_⟩
  try simp only [c_gk g m_a1_ 2 rfl, c_gk g n204_a1_ 9 rfl, c_gq g m_a1_, true_and, Option.some.injEq, exists_eq_left', c_xm, c_xn, c_xs]
  refine ⟨h.1, ?_⟩
  have h := h.2
  exact hQ _ _ h
def kb_X6_carry_2 (L : c_L) (B2 : c_S → Nat → Option Nat → Int32 → Int32 → Prop) (S : c_S) (a0 : Nat) (r1 : Option Nat) (x2 : Int32) (x3 : Int32) (Q : Int32 → c_S → Prop) : Prop := ∃ a10_ : Nat, r1 = some a10_ ∧ (c_mk L 1 a10_ ∧ (((c_I S 208 a10_) ≤ x3 → ((¬ (c_I S 201 a10_) = 0 → ((0 < (c_I S 208 a10_) → (kb_X6_carry_83 L S Q)) ∧ (¬ 0 < (c_I S 208 a10_) → (((c_P S 211 a10_) = none → (kb_X6_carry_85 L S r1 x2 Q)) ∧ (¬ (c_P S 211 a10_) = none → (∃ a17_ : Nat, (c_P S 211 a10_) = some a17_ ∧ (c_mk L 5 a17_ ∧ (km_X5_giveTaker L S a17_ (c_I S 212 a10_) (c_I S 202 a10_) x2 (fun x22_ S21_ => ((x22_ = 0 → (kb_X6_carry_85 L S21_ r1 x2 Q)) ∧ (¬ x22_ = 0 → (kb_X6_carry_83 L S21_ Q)))))))))))) ∧ ((c_I S 201 a10_) = 0 → (km_X1_sample L S a10_ x2 (c_I S 1211 a0) (fun S26_ => (Q (1 : Int32) S26_)))))) ∧ (¬ (c_I S 208 a10_) ≤ x3 → (km_X2_show L S a0 (c_I S 1211 a0) (c_I S 200 a10_) x2 (fun S32_ => (B2 S32_ a0 r1 x2 (x3 + 1)))))))
set_option maxRecDepth 100000 in
set_option maxHeartbeats 4000000 in
theorem ub_X6_carry_2 {L : c_L} {T : q_S} (g : c_G L T) {OB2 : q_S → Nat → Option Nat → Int32 → Int32 → Prop} {B2 : c_S → Nat → Option Nat → Int32 → Int32 → Prop} (hB2 : ∀ (S1 : c_S) (a0 : Nat) (r1 : Option Nat) (x2 : Int32) (x3 : Int32), c_mk L 6 a0 → B2 S1 a0 r1 x2 x3 → OB2 (c_E L S1 T) (c_ob L 6 a0) (r1.map (c_ob L 1)) x2 x3) (S : c_S) (a0 : Nat) (r1 : Option Nat) (x2 : Int32) (x3 : Int32) (m_a0 : c_mk L 6 a0) {Q1 : Int32 → c_S → Prop} {Q : Option Value → q_S → Prop} (h : kb_X6_carry_2 L B2 S a0 r1 x2 x3 Q1) (hQ : ∀ (v : Int32) (K : c_S), Q1 v K → Q (some (.int v)) (c_E L K T)) : wb_X6_carry_2 OB2 (c_E L S T) (c_ob L 6 a0) (r1.map (c_ob L 1)) x2 x3 Q := by
  unfold wb_X6_carry_2
  unfold kb_X6_carry_2 at h
  try simp only [c_gk g m_a0 7 rfl, c_eI (f := 1211) m_a0 rfl, true_and, Option.some.injEq, exists_eq_left', c_xm, c_xn, c_xs]
  obtain ⟨a10_, e_a10_, m_a10_, h⟩ := h
  refine ⟨a10_, e_a10_, ?_⟩
  try simp only [c_gk g m_a0 7 rfl, c_gk g m_a10_ 2 rfl, c_eI (f := 1211) m_a0 rfl, c_eI (f := 200) m_a10_ rfl, c_eI (f := 201) m_a10_ rfl, c_eI (f := 202) m_a10_ rfl, c_eI (f := 208) m_a10_ rfl, c_eI (f := 212) m_a10_ rfl, c_eD211 m_a10_, c_eDs211 (c_gw g) m_a10_, c_eDs211n (c_gw g) m_a10_, true_and, Option.some.injEq, exists_eq_left', c_xm, c_xn, c_xs]
  refine ⟨fun hc => ?_, fun hc => ?_⟩
  · have h := h.1 hc
    refine ⟨fun hc => ?_, fun hc => ?_⟩
    · have h := h.1 hc
      refine ⟨fun hc => ?_, fun hc => ?_⟩
      · have h := h.1 hc
        exact ub_X6_carry_83 g _  h hQ
      · have h := h.2 hc
        refine ⟨fun hc => ?_, fun hc => ?_⟩
        · have h := h.1 hc
          exact ub_X6_carry_85 g _ r1 _  h hQ
        · have h := h.2 hc
          obtain ⟨a17_, e_a17_, m_a17_, h⟩ := h
          refine ⟨a17_, e_a17_, ?_⟩
          try simp only [c_gk g m_a0 7 rfl, c_gk g m_a10_ 2 rfl, c_gk g m_a17_ 6 rfl, c_eI (f := 1211) m_a0 rfl, c_eI (f := 200) m_a10_ rfl, c_eI (f := 201) m_a10_ rfl, c_eI (f := 202) m_a10_ rfl, c_eI (f := 208) m_a10_ rfl, c_eI (f := 212) m_a10_ rfl, c_eD211 m_a10_, c_eDs211 (c_gw g) m_a10_, c_eDs211n (c_gw g) m_a10_, true_and, Option.some.injEq, exists_eq_left', c_xm, c_xn, c_xs]
          refine um_X5_giveTaker g _ a17_ _ _ _ m_a17_ h (fun x22_ S21_ h => ?_)
          refine ⟨_, rfl, ?_⟩
          try simp only [c_gk g m_a0 7 rfl, c_gk g m_a10_ 2 rfl, c_gk g m_a17_ 6 rfl, c_eI (f := 1211) m_a0 rfl, c_eI (f := 200) m_a10_ rfl, c_eI (f := 201) m_a10_ rfl, c_eI (f := 202) m_a10_ rfl, c_eI (f := 208) m_a10_ rfl, c_eI (f := 212) m_a10_ rfl, c_eD211 m_a10_, c_eDs211 (c_gw g) m_a10_, c_eDs211n (c_gw g) m_a10_, true_and, Option.some.injEq, exists_eq_left', c_xm, c_xn, c_xs]
          refine ⟨fun hc => ?_, fun hc => ?_⟩
          · have h := h.1 hc
            exact ub_X6_carry_85 g _ r1 _  h hQ
          · have h := h.2 hc
            exact ub_X6_carry_83 g _  h hQ
    · have h := h.2 hc
      refine um_X1_sample g _ a10_ _ _ m_a10_ h (fun S26_ h => ?_)
      refine ⟨rfl, ?_⟩
      try simp only [c_gk g m_a0 7 rfl, c_gk g m_a10_ 2 rfl, c_eI (f := 1211) m_a0 rfl, c_eI (f := 200) m_a10_ rfl, c_eI (f := 201) m_a10_ rfl, c_eI (f := 202) m_a10_ rfl, c_eI (f := 208) m_a10_ rfl, c_eI (f := 212) m_a10_ rfl, c_eD211 m_a10_, c_eDs211 (c_gw g) m_a10_, c_eDs211n (c_gw g) m_a10_, true_and, Option.some.injEq, exists_eq_left', c_xm, c_xn, c_xs]
      exact hQ _ _ h
  · have h := h.2 hc
    have n1210_a0 := c_gO g 1210 2 rfl (by decide) m_a0
    try simp only [c_gk g m_a0 7 rfl, c_gk g m_a10_ 2 rfl, c_gk g n1210_a0 3 rfl, c_gp g 1210 2 rfl rfl (by decide) m_a0, c_eI (f := 1211) m_a0 rfl, c_eI (f := 200) m_a10_ rfl, c_eI (f := 201) m_a10_ rfl, c_eI (f := 202) m_a10_ rfl, c_eI (f := 208) m_a10_ rfl, c_eI (f := 212) m_a10_ rfl, c_eD211 m_a10_, c_eDs211 (c_gw g) m_a10_, c_eDs211n (c_gw g) m_a10_, true_and, Option.some.injEq, exists_eq_left', c_xm, c_xn, c_xs]
    refine um_X2_show g _ a0 _ _ _ n1210_a0 h (fun S32_ h => ?_)
    refine ⟨rfl, ?_⟩
    try simp only [c_gk g m_a0 7 rfl, c_gk g m_a10_ 2 rfl, c_gk g n1210_a0 3 rfl, c_gp g 1210 2 rfl rfl (by decide) m_a0, c_eI (f := 1211) m_a0 rfl, c_eI (f := 200) m_a10_ rfl, c_eI (f := 201) m_a10_ rfl, c_eI (f := 202) m_a10_ rfl, c_eI (f := 208) m_a10_ rfl, c_eI (f := 212) m_a10_ rfl, c_eD211 m_a10_, c_eDs211 (c_gw g) m_a10_, c_eDs211n (c_gw g) m_a10_, true_and, Option.some.injEq, exists_eq_left', c_xm, c_xn, c_xs]
    exact hB2 _ a0 r1 _ _ m_a0 h
def kl_X6_carry_2 (L : c_L)  : Nat → c_S → Nat → Option Nat → Int32 → Int32 → (Int32 → c_S → Prop) → Prop
  | 0, _, _, _, _, _, _ => False
  | n + 1, S, a0, r1, x2, x3, Q => kb_X6_carry_2 L (fun S a0 r1 x2 x3 => kl_X6_carry_2 L n S a0 r1 x2 x3 Q) S a0 r1 x2 x3 Q
theorem ul_X6_carry_2 {L : c_L} {T : q_S} (g : c_G L T) (n : Nat) (S : c_S) (a0 : Nat) (r1 : Option Nat) (x2 : Int32) (x3 : Int32) (m_a0 : c_mk L 6 a0) {Q1 : Int32 → c_S → Prop} {Q : Option Value → q_S → Prop} (h : kl_X6_carry_2 L  n S a0 r1 x2 x3 Q1) (hQ : ∀ (v : Int32) (K : c_S), Q1 v K → Q (some (.int v)) (c_E L K T)) : wl_X6_carry_2  n (c_E L S T) (c_ob L 6 a0) (r1.map (c_ob L 1)) x2 x3 Q := by
  induction n generalizing S a0 r1 x2 x3 with
  | zero => exact h.elim
  | succ n ih => exact ub_X6_carry_2 g (fun u0 u1 u2 u3 u4 w0 h => ih u0 u1 u2 u3 u4 w0 h) S a0 r1 x2 x3 m_a0 h hQ
def km_X6_carry (L : c_L) (S : c_S) (a0 : Nat) (r1 : Option Nat) (x2 : Int32) (Q : Int32 → c_S → Prop) : Prop := ∃ n33_ : Nat, kl_X6_carry_2 L n33_ S a0 r1 x2 (0 : Int32) Q
set_option maxRecDepth 100000 in
set_option maxHeartbeats 4000000 in
theorem um_X6_carry {L : c_L} {T : q_S} (g : c_G L T) (S : c_S) (a0 : Nat) (r1 : Option Nat) (x2 : Int32) (m_a0 : c_mk L 6 a0) {Q1 : Int32 → c_S → Prop} {Q : Option Value → q_S → Prop} (h : km_X6_carry L  S a0 r1 x2 Q1) (hQ : ∀ (v : Int32) (K : c_S), Q1 v K → Q (some (.int v)) (c_E L K T)) : wm_X6_carry  (c_E L S T) (c_ob L 6 a0) (r1.map (c_ob L 1)) x2 Q := by
  unfold wm_X6_carry
  unfold km_X6_carry at h
  try simp only [c_gk g m_a0 7 rfl, true_and, Option.some.injEq, exists_eq_left', c_xm, c_xn, c_xs]
  obtain ⟨n33_, h⟩ := h
  refine ⟨n33_, ?_⟩
  exact ul_X6_carry_2 g n33_ _ a0 r1 _ _ m_a0 h hQ
def kb_X0_send_40 (L : c_L) (S : c_S) (Q : Int32 → c_S → Prop) : Prop := Q (1 : Int32) S
set_option maxRecDepth 100000 in
set_option maxHeartbeats 4000000 in
theorem ub_X0_send_40 {L : c_L} {T : q_S} (g : c_G L T) (S : c_S)  {Q1 : Int32 → c_S → Prop} {Q : Option Value → q_S → Prop} (h : kb_X0_send_40 L  S Q1) (hQ : ∀ (v : Int32) (K : c_S), Q1 v K → Q (some (.int v)) (c_E L K T)) : wb_X0_send_40  (c_E L S T) Q := by
  unfold wb_X0_send_40
  unfold kb_X0_send_40 at h
  try simp only [true_and, Option.some.injEq, exists_eq_left', c_xm, c_xn, c_xs]
  exact hQ _ _ h
def kb_X0_send_90 (L : c_L) (S : c_S) (xs0 : Int32) (Q : Int32 → c_S → Prop) : Prop := Q xs0 S
set_option maxRecDepth 100000 in
set_option maxHeartbeats 4000000 in
theorem ub_X0_send_90 {L : c_L} {T : q_S} (g : c_G L T) (S : c_S) (xs0 : Int32)  {Q1 : Int32 → c_S → Prop} {Q : Option Value → q_S → Prop} (h : kb_X0_send_90 L  S xs0 Q1) (hQ : ∀ (v : Int32) (K : c_S), Q1 v K → Q (some (.int v)) (c_E L K T)) : wb_X0_send_90  (c_E L S T) xs0 Q := by
  unfold wb_X0_send_90
  unfold kb_X0_send_90 at h
  try simp only [true_and, Option.some.injEq, exists_eq_left', c_xm, c_xn, c_xs]
  exact hQ _ _ h
def kb_X0_send_42 (L : c_L) (S : c_S) (a0 : Nat) (x1 : Int32) (x2 : Int32) (x3 : Int32) (r4 : Option Nat) (Q : Int32 → c_S → Prop) : Prop := ∃ a2_ : Nat, r4 = some a2_ ∧ (c_mk L 10 a2_ ∧ (∃ a5_ : Nat, (c_P S 0 a0) = some a5_ ∧ (c_mk L 6 a5_ ∧ (km_X6_channelAt L S a5_ (c_I S 2008 a2_) (fun r10_ S9_ => ((¬ r10_ = none → (∃ a13_ : Nat, (c_P S9_ 0 a0) = some a13_ ∧ (c_mk L 6 a13_ ∧ (km_X6_carry L S9_ a13_ r10_ x2 (fun x18_ S17_ => ((x18_ = 0 → (km_X0_waitWith L S17_ a0 ((32 : Int32) + x1) x2 x3 (fun x23_ S22_ => (kb_X0_send_90 L S22_ x23_ Q)))) ∧ (¬ x18_ = 0 → (kb_X0_send_90 L S17_ (0 : Int32) Q)))))))) ∧ (r10_ = none → (Q (3 : Int32) S9_))))))))
set_option maxRecDepth 100000 in
set_option maxHeartbeats 4000000 in
theorem ub_X0_send_42 {L : c_L} {T : q_S} (g : c_G L T) (S : c_S) (a0 : Nat) (x1 : Int32) (x2 : Int32) (x3 : Int32) (r4 : Option Nat) (m_a0 : c_mk L 0 a0) {Q1 : Int32 → c_S → Prop} {Q : Option Value → q_S → Prop} (h : kb_X0_send_42 L  S a0 x1 x2 x3 r4 Q1) (hQ : ∀ (v : Int32) (K : c_S), Q1 v K → Q (some (.int v)) (c_E L K T)) : wb_X0_send_42  (c_E L S T) (c_ob L 0 a0) x1 x2 x3 (r4.map (c_ob L 10)) Q := by
  unfold wb_X0_send_42
  unfold kb_X0_send_42 at h
  try simp only [c_gk g m_a0 1 rfl, c_eD0 m_a0, c_eDs0 (c_gw g) m_a0, true_and, Option.some.injEq, exists_eq_left', c_xm, c_xn, c_xs]
  obtain ⟨a2_, e_a2_, m_a2_, h⟩ := h
  refine ⟨a2_, e_a2_, ?_⟩
  try simp only [c_gk g m_a0 1 rfl, c_gk g m_a2_ 11 rfl, c_eD0 m_a0, c_eDs0 (c_gw g) m_a0, c_eI (f := 2008) m_a2_ rfl, true_and, Option.some.injEq, exists_eq_left', c_xm, c_xn, c_xs]
  obtain ⟨a5_, e_a5_, m_a5_, h⟩ := h
  refine ⟨a5_, e_a5_, ?_⟩
  try simp only [c_gk g m_a0 1 rfl, c_gk g m_a2_ 11 rfl, c_gk g m_a5_ 7 rfl, c_eD0 m_a0, c_eDs0 (c_gw g) m_a0, c_eI (f := 2008) m_a2_ rfl, true_and, Option.some.injEq, exists_eq_left', c_xm, c_xn, c_xs]
  refine um_X6_channelAt g _ a5_ _ m_a5_ h (fun r10_ S9_ h => ?_)
  refine ⟨_, rfl, ?_⟩
  try simp only [c_gk g m_a0 1 rfl, c_gk g m_a2_ 11 rfl, c_gk g m_a5_ 7 rfl, c_eD0 m_a0, c_eDs0 (c_gw g) m_a0, c_eI (f := 2008) m_a2_ rfl, true_and, Option.some.injEq, exists_eq_left', c_xm, c_xn, c_xs]
  refine ⟨fun hc => ?_, fun hc => ?_⟩
  · have h := h.1 hc
    obtain ⟨a13_, e_a13_, m_a13_, h⟩ := h
    refine ⟨a13_, e_a13_, ?_⟩
    try simp only [c_gk g m_a0 1 rfl, c_gk g m_a2_ 11 rfl, c_gk g m_a5_ 7 rfl, c_gk g m_a13_ 7 rfl, c_eD0 m_a0, c_eDs0 (c_gw g) m_a0, c_eI (f := 2008) m_a2_ rfl, true_and, Option.some.injEq, exists_eq_left', c_xm, c_xn, c_xs]
    refine um_X6_carry g _ a13_ r10_ _ m_a13_ h (fun x18_ S17_ h => ?_)
    refine ⟨_, rfl, ?_⟩
    try simp only [c_gk g m_a0 1 rfl, c_gk g m_a2_ 11 rfl, c_gk g m_a5_ 7 rfl, c_gk g m_a13_ 7 rfl, c_eD0 m_a0, c_eDs0 (c_gw g) m_a0, c_eI (f := 2008) m_a2_ rfl, true_and, Option.some.injEq, exists_eq_left', c_xm, c_xn, c_xs]
    refine ⟨fun hc => ?_, fun hc => ?_⟩
    · have h := h.1 hc
      refine um_X0_waitWith g _ a0 _ _ _ m_a0 h (fun x23_ S22_ h => ?_)
      refine ⟨_, rfl, ?_⟩
      try simp only [c_gk g m_a0 1 rfl, c_gk g m_a2_ 11 rfl, c_gk g m_a5_ 7 rfl, c_gk g m_a13_ 7 rfl, c_eD0 m_a0, c_eDs0 (c_gw g) m_a0, c_eI (f := 2008) m_a2_ rfl, true_and, Option.some.injEq, exists_eq_left', c_xm, c_xn, c_xs]
      exact ub_X0_send_90 g _ _  h hQ
    · have h := h.2 hc
      exact ub_X0_send_90 g _ _  h hQ
  · have h := h.2 hc
    exact hQ _ _ h
def km_X0_send (L : c_L) (S : c_S) (a0 : Nat) (x1 : Int32) (x2 : Int32) (x3 : Int32) (Q : Int32 → c_S → Prop) : Prop := ∃ a25_ : Nat, (c_P S 1 a0) = some a25_ ∧ (c_mk L 5 a25_ ∧ (km_X5_thingAt L S a25_ (4 : Int32) x1 (fun r30_ S29_ => ((r30_ = none → (kb_X0_send_40 L S29_ Q)) ∧ (¬ r30_ = none → (∃ a32_ : Nat, r30_ = some a32_ ∧ (c_mk L 10 a32_ ∧ (((c_I S29_ 2006 a32_) = 0 → (kb_X0_send_40 L S29_ Q)) ∧ (¬ (c_I S29_ 2006 a32_) = 0 → (((c_I S29_ 2007 a32_) = 0 → (kb_X0_send_42 L S29_ a0 x1 x2 x3 r30_ Q)) ∧ (¬ (c_I S29_ 2007 a32_) = 0 → (km_X0_isNoTime L S29_ a0 x3 (fun x40_ S39_ => ((x40_ = 0 → (kb_X0_send_42 L S39_ a0 x1 x2 x3 r30_ Q)) ∧ (¬ x40_ = 0 → (kb_X0_send_40 L S39_ Q))))))))))))))))
set_option maxRecDepth 100000 in
set_option maxHeartbeats 4000000 in
theorem um_X0_send {L : c_L} {T : q_S} (g : c_G L T) (S : c_S) (a0 : Nat) (x1 : Int32) (x2 : Int32) (x3 : Int32) (m_a0 : c_mk L 0 a0) {Q1 : Int32 → c_S → Prop} {Q : Option Value → q_S → Prop} (h : km_X0_send L  S a0 x1 x2 x3 Q1) (hQ : ∀ (v : Int32) (K : c_S), Q1 v K → Q (some (.int v)) (c_E L K T)) : wm_X0_send  (c_E L S T) (c_ob L 0 a0) x1 x2 x3 Q := by
  unfold wm_X0_send
  unfold km_X0_send at h
  try simp only [c_gk g m_a0 1 rfl, c_eD1 m_a0, c_eDs1 (c_gw g) m_a0, true_and, Option.some.injEq, exists_eq_left', c_xm, c_xn, c_xs]
  obtain ⟨a25_, e_a25_, m_a25_, h⟩ := h
  refine ⟨a25_, e_a25_, ?_⟩
  try simp only [c_gk g m_a0 1 rfl, c_gk g m_a25_ 6 rfl, c_eD1 m_a0, c_eDs1 (c_gw g) m_a0, true_and, Option.some.injEq, exists_eq_left', c_xm, c_xn, c_xs]
  refine um_X5_thingAt g _ a25_ _ _ m_a25_ h (fun r30_ S29_ h => ?_)
  refine ⟨_, rfl, ?_⟩
  try simp only [c_gk g m_a0 1 rfl, c_gk g m_a25_ 6 rfl, c_eD1 m_a0, c_eDs1 (c_gw g) m_a0, true_and, Option.some.injEq, exists_eq_left', c_xm, c_xn, c_xs]
  refine ⟨fun hc => ?_, fun hc => ?_⟩
  · have h := h.1 hc
    exact ub_X0_send_40 g _  h hQ
  · have h := h.2 hc
    obtain ⟨a32_, e_a32_, m_a32_, h⟩ := h
    refine ⟨a32_, e_a32_, ?_⟩
    try simp only [c_gk g m_a0 1 rfl, c_gk g m_a25_ 6 rfl, c_gk g m_a32_ 11 rfl, c_eD1 m_a0, c_eDs1 (c_gw g) m_a0, c_eI (f := 2006) m_a32_ rfl, c_eI (f := 2007) m_a32_ rfl, true_and, Option.some.injEq, exists_eq_left', c_xm, c_xn, c_xs]
    refine ⟨fun hc => ?_, fun hc => ?_⟩
    · have h := h.1 hc
      exact ub_X0_send_40 g _  h hQ
    · have h := h.2 hc
      refine ⟨fun hc => ?_, fun hc => ?_⟩
      · have h := h.1 hc
        exact ub_X0_send_42 g _ a0 _ _ _ r30_ m_a0 h hQ
      · have h := h.2 hc
        refine um_X0_isNoTime g _ a0 _ m_a0 h (fun x40_ S39_ h => ?_)
        refine ⟨_, rfl, ?_⟩
        try simp only [c_gk g m_a0 1 rfl, c_gk g m_a25_ 6 rfl, c_gk g m_a32_ 11 rfl, c_eD1 m_a0, c_eDs1 (c_gw g) m_a0, c_eI (f := 2006) m_a32_ rfl, c_eI (f := 2007) m_a32_ rfl, true_and, Option.some.injEq, exists_eq_left', c_xm, c_xn, c_xs]
        refine ⟨fun hc => ?_, fun hc => ?_⟩
        · have h := h.1 hc
          exact ub_X0_send_42 g _ a0 _ _ _ r30_ m_a0 h hQ
        · have h := h.2 hc
          exact ub_X0_send_40 g _  h hQ
def kb_X0_receive_36 (L : c_L) (S : c_S) (Q : Int32 → c_S → Prop) : Prop := Q (1 : Int32) S
set_option maxRecDepth 100000 in
set_option maxHeartbeats 4000000 in
theorem ub_X0_receive_36 {L : c_L} {T : q_S} (g : c_G L T) (S : c_S)  {Q1 : Int32 → c_S → Prop} {Q : Option Value → q_S → Prop} (h : kb_X0_receive_36 L  S Q1) (hQ : ∀ (v : Int32) (K : c_S), Q1 v K → Q (some (.int v)) (c_E L K T)) : wb_X0_receive_36  (c_E L S T) Q := by
  unfold wb_X0_receive_36
  unfold kb_X0_receive_36 at h
  try simp only [true_and, Option.some.injEq, exists_eq_left', c_xm, c_xn, c_xs]
  exact hQ _ _ h
def kb_X0_receive_146 (L : c_L) (S : c_S) (xs0 : Int32) (Q : Int32 → c_S → Prop) : Prop := Q xs0 S
set_option maxRecDepth 100000 in
set_option maxHeartbeats 4000000 in
theorem ub_X0_receive_146 {L : c_L} {T : q_S} (g : c_G L T) (S : c_S) (xs0 : Int32)  {Q1 : Int32 → c_S → Prop} {Q : Option Value → q_S → Prop} (h : kb_X0_receive_146 L  S xs0 Q1) (hQ : ∀ (v : Int32) (K : c_S), Q1 v K → Q (some (.int v)) (c_E L K T)) : wb_X0_receive_146  (c_E L S T) xs0 Q := by
  unfold wb_X0_receive_146
  unfold kb_X0_receive_146 at h
  try simp only [true_and, Option.some.injEq, exists_eq_left', c_xm, c_xn, c_xs]
  exact hQ _ _ h
def kb_X0_receive_38 (L : c_L) (S : c_S) (a0 : Nat) (x1 : Int32) (x2 : Int32) (r3 : Option Nat) (Q : Int32 → c_S → Prop) : Prop := ∃ a2_ : Nat, r3 = some a2_ ∧ (c_mk L 10 a2_ ∧ (∃ a5_ : Nat, (c_P S 0 a0) = some a5_ ∧ (c_mk L 6 a5_ ∧ (km_X6_channelAt L S a5_ (c_I S 2008 a2_) (fun r10_ S9_ => ((¬ r10_ = none → (∃ a12_ : Nat, r10_ = some a12_ ∧ (c_mk L 1 a12_ ∧ (((c_I S9_ 201 a12_) = 0 → ((¬ (c_I S9_ 205 a12_) = (-1 : Int32) → (km_X8_at L S9_ (1000 + a12_) (0 : Int32) (fun x23_ S22_ => (∃ a24_ : Nat, (c_P S9_ 3 a0) = some a24_ ∧ (c_mk L 7 a24_ ∧ (vp_in (11 : Int32) 32 ∧ (((c_I (cs_A S22_ 1411 a24_ (11 : Int32).toNatClampNeg x23_) 203 a12_) < ((c_I (cs_A S22_ 1411 a24_ (11 : Int32).toNatClampNeg x23_) 4 a0) - (c_I (cs_A S22_ 1411 a24_ (11 : Int32).toNatClampNeg x23_) 205 a12_)) → (kb_X0_receive_146 L (cs_A S22_ 1411 a24_ (11 : Int32).toNatClampNeg x23_) (5 : Int32) Q)) ∧ (¬ (c_I (cs_A S22_ 1411 a24_ (11 : Int32).toNatClampNeg x23_) 203 a12_) < ((c_I (cs_A S22_ 1411 a24_ (11 : Int32).toNatClampNeg x23_) 4 a0) - (c_I (cs_A S22_ 1411 a24_ (11 : Int32).toNatClampNeg x23_) 205 a12_)) → (kb_X0_receive_146 L (cs_A S22_ 1411 a24_ (11 : Int32).toNatClampNeg x23_) (0 : Int32) Q))))))))) ∧ ((c_I S9_ 205 a12_) = (-1 : Int32) → (Q (2 : Int32) S9_)))) ∧ (¬ (c_I S9_ 201 a12_) = 0 → (km_X0_takeFrom L S9_ a0 (some (1000 + a12_)) ((32 : Int32) + x1) x2 (c_P S9_ 209 a12_) (c_I S9_ 210 a12_) (c_I S9_ 202 a12_) (fun x34_ S33_ => (Q x34_ S33_)))))))) ∧ (r10_ = none → (Q (3 : Int32) S9_))))))))
set_option maxRecDepth 100000 in
set_option maxHeartbeats 4000000 in
theorem ub_X0_receive_38 {L : c_L} {T : q_S} (g : c_G L T) (S : c_S) (a0 : Nat) (x1 : Int32) (x2 : Int32) (r3 : Option Nat) (m_a0 : c_mk L 0 a0) {Q1 : Int32 → c_S → Prop} {Q : Option Value → q_S → Prop} (h : kb_X0_receive_38 L  S a0 x1 x2 r3 Q1) (hQ : ∀ (v : Int32) (K : c_S), Q1 v K → Q (some (.int v)) (c_E L K T)) : wb_X0_receive_38  (c_E L S T) (c_ob L 0 a0) x1 x2 (r3.map (c_ob L 10)) Q := by
  unfold wb_X0_receive_38
  unfold kb_X0_receive_38 at h
  try simp only [c_gk g m_a0 1 rfl, c_eI (f := 4) m_a0 rfl, c_eD0 m_a0, c_eDs0 (c_gw g) m_a0, c_eD3 m_a0, c_eDs3 (c_gw g) m_a0, true_and, Option.some.injEq, exists_eq_left', c_xm, c_xn, c_xs]
  obtain ⟨a2_, e_a2_, m_a2_, h⟩ := h
  refine ⟨a2_, e_a2_, ?_⟩
  try simp only [c_gk g m_a0 1 rfl, c_gk g m_a2_ 11 rfl, c_eI (f := 4) m_a0 rfl, c_eD0 m_a0, c_eDs0 (c_gw g) m_a0, c_eD3 m_a0, c_eDs3 (c_gw g) m_a0, c_eI (f := 2008) m_a2_ rfl, true_and, Option.some.injEq, exists_eq_left', c_xm, c_xn, c_xs]
  obtain ⟨a5_, e_a5_, m_a5_, h⟩ := h
  refine ⟨a5_, e_a5_, ?_⟩
  try simp only [c_gk g m_a0 1 rfl, c_gk g m_a2_ 11 rfl, c_gk g m_a5_ 7 rfl, c_eI (f := 4) m_a0 rfl, c_eD0 m_a0, c_eDs0 (c_gw g) m_a0, c_eD3 m_a0, c_eDs3 (c_gw g) m_a0, c_eI (f := 2008) m_a2_ rfl, true_and, Option.some.injEq, exists_eq_left', c_xm, c_xn, c_xs]
  refine um_X6_channelAt g _ a5_ _ m_a5_ h (fun r10_ S9_ h => ?_)
  refine ⟨_, rfl, ?_⟩
  try simp only [c_gk g m_a0 1 rfl, c_gk g m_a2_ 11 rfl, c_gk g m_a5_ 7 rfl, c_eI (f := 4) m_a0 rfl, c_eD0 m_a0, c_eDs0 (c_gw g) m_a0, c_eD3 m_a0, c_eDs3 (c_gw g) m_a0, c_eI (f := 2008) m_a2_ rfl, true_and, Option.some.injEq, exists_eq_left', c_xm, c_xn, c_xs]
  refine ⟨fun hc => ?_, fun hc => ?_⟩
  · have h := h.1 hc
    obtain ⟨a12_, e_a12_, m_a12_, h⟩ := h
    refine ⟨a12_, e_a12_, ?_⟩
    try simp only [c_gk g m_a0 1 rfl, c_gk g m_a2_ 11 rfl, c_gk g m_a5_ 7 rfl, c_gk g m_a12_ 2 rfl, c_eI (f := 4) m_a0 rfl, c_eD0 m_a0, c_eDs0 (c_gw g) m_a0, c_eD3 m_a0, c_eDs3 (c_gw g) m_a0, c_eI (f := 2008) m_a2_ rfl, c_eI (f := 201) m_a12_ rfl, c_eI (f := 202) m_a12_ rfl, c_eI (f := 203) m_a12_ rfl, c_eI (f := 205) m_a12_ rfl, c_eI (f := 210) m_a12_ rfl, c_eD209 m_a12_, c_eDs209 (c_gw g) m_a12_, c_eDs209n (c_gw g) m_a12_, true_and, Option.some.injEq, exists_eq_left', c_xm, c_xn, c_xs]
    refine ⟨fun hc => ?_, fun hc => ?_⟩
    · have h := h.1 hc
      refine ⟨fun hc => ?_, fun hc => ?_⟩
      · have h := h.1 hc
        have n204_a12_ := c_gQ g m_a12_
        try simp only [c_gk g m_a0 1 rfl, c_gk g m_a2_ 11 rfl, c_gk g m_a5_ 7 rfl, c_gk g m_a12_ 2 rfl, c_gk g n204_a12_ 9 rfl, c_gq g m_a12_, c_eI (f := 4) m_a0 rfl, c_eD0 m_a0, c_eDs0 (c_gw g) m_a0, c_eD3 m_a0, c_eDs3 (c_gw g) m_a0, c_eI (f := 2008) m_a2_ rfl, c_eI (f := 201) m_a12_ rfl, c_eI (f := 202) m_a12_ rfl, c_eI (f := 203) m_a12_ rfl, c_eI (f := 205) m_a12_ rfl, c_eI (f := 210) m_a12_ rfl, c_eD209 m_a12_, c_eDs209 (c_gw g) m_a12_, c_eDs209n (c_gw g) m_a12_, true_and, Option.some.injEq, exists_eq_left', c_xm, c_xn, c_xs]
        refine um_X8_at g _ (1000 + a12_) _ n204_a12_ h (fun x23_ S22_ h => ?_)
        refine ⟨_, rfl, ?_⟩
        try simp only [c_gk g m_a0 1 rfl, c_gk g m_a2_ 11 rfl, c_gk g m_a5_ 7 rfl, c_gk g m_a12_ 2 rfl, c_gk g n204_a12_ 9 rfl, c_gq g m_a12_, c_eI (f := 4) m_a0 rfl, c_eD0 m_a0, c_eDs0 (c_gw g) m_a0, c_eD3 m_a0, c_eDs3 (c_gw g) m_a0, c_eI (f := 2008) m_a2_ rfl, c_eI (f := 201) m_a12_ rfl, c_eI (f := 202) m_a12_ rfl, c_eI (f := 203) m_a12_ rfl, c_eI (f := 205) m_a12_ rfl, c_eI (f := 210) m_a12_ rfl, c_eD209 m_a12_, c_eDs209 (c_gw g) m_a12_, c_eDs209n (c_gw g) m_a12_, true_and, Option.some.injEq, exists_eq_left', c_xm, c_xn, c_xs]
        obtain ⟨a24_, e_a24_, m_a24_, h⟩ := h
        have r_a24_ := c_gA g 1411 rfl (by decide) m_a24_
        refine ⟨a24_, e_a24_, ?_⟩
        try simp only [c_gk g m_a0 1 rfl, c_gk g m_a2_ 11 rfl, c_gk g m_a5_ 7 rfl, c_gk g m_a12_ 2 rfl, c_gk g n204_a12_ 9 rfl, c_gk g m_a24_ 8 rfl, c_gr g r_a24_ 21 rfl, c_gN g r_a24_ 32 (by decide), c_eA r_a24_, c_eAs (c_gw g) r_a24_, c_gq g m_a12_, c_eI (f := 4) m_a0 rfl, c_eD0 m_a0, c_eDs0 (c_gw g) m_a0, c_eD3 m_a0, c_eDs3 (c_gw g) m_a0, c_eI (f := 2008) m_a2_ rfl, c_eI (f := 201) m_a12_ rfl, c_eI (f := 202) m_a12_ rfl, c_eI (f := 203) m_a12_ rfl, c_eI (f := 205) m_a12_ rfl, c_eI (f := 210) m_a12_ rfl, c_eD209 m_a12_, c_eDs209 (c_gw g) m_a12_, c_eDs209n (c_gw g) m_a12_, true_and, Option.some.injEq, exists_eq_left', c_xm, c_xn, c_xs]
        refine ⟨h.1, ?_⟩
        have h := h.2
        refine ⟨fun hc => ?_, fun hc => ?_⟩
        · have h := h.1 hc
          exact ub_X0_receive_146 g _ _  h hQ
        · have h := h.2 hc
          exact ub_X0_receive_146 g _ _  h hQ
      · have h := h.2 hc
        exact hQ _ _ h
    · have h := h.2 hc
      have n204_a12_ := c_gQ g m_a12_
      try simp only [c_gk g m_a0 1 rfl, c_gk g m_a2_ 11 rfl, c_gk g m_a5_ 7 rfl, c_gk g m_a12_ 2 rfl, c_gk g n204_a12_ 9 rfl, c_gq g m_a12_, c_eI (f := 4) m_a0 rfl, c_eD0 m_a0, c_eDs0 (c_gw g) m_a0, c_eD3 m_a0, c_eDs3 (c_gw g) m_a0, c_eI (f := 2008) m_a2_ rfl, c_eI (f := 201) m_a12_ rfl, c_eI (f := 202) m_a12_ rfl, c_eI (f := 203) m_a12_ rfl, c_eI (f := 205) m_a12_ rfl, c_eI (f := 210) m_a12_ rfl, c_eD209 m_a12_, c_eDs209 (c_gw g) m_a12_, c_eDs209n (c_gw g) m_a12_, true_and, Option.some.injEq, exists_eq_left', c_xm, c_xn, c_xs]
      refine um_X0_takeFrom g _ a0 (some (1000 + a12_)) _ _ (c_P S9_ 209 a12_) _ _ m_a0 h (fun x34_ S33_ h => ?_)
      refine ⟨_, rfl, ?_⟩
      try simp only [c_gk g m_a0 1 rfl, c_gk g m_a2_ 11 rfl, c_gk g m_a5_ 7 rfl, c_gk g m_a12_ 2 rfl, c_gk g n204_a12_ 9 rfl, c_gq g m_a12_, c_eI (f := 4) m_a0 rfl, c_eD0 m_a0, c_eDs0 (c_gw g) m_a0, c_eD3 m_a0, c_eDs3 (c_gw g) m_a0, c_eI (f := 2008) m_a2_ rfl, c_eI (f := 201) m_a12_ rfl, c_eI (f := 202) m_a12_ rfl, c_eI (f := 203) m_a12_ rfl, c_eI (f := 205) m_a12_ rfl, c_eI (f := 210) m_a12_ rfl, c_eD209 m_a12_, c_eDs209 (c_gw g) m_a12_, c_eDs209n (c_gw g) m_a12_, true_and, Option.some.injEq, exists_eq_left', c_xm, c_xn, c_xs]
      exact hQ _ _ h
  · have h := h.2 hc
    exact hQ _ _ h
def km_X0_receive (L : c_L) (S : c_S) (a0 : Nat) (x1 : Int32) (x2 : Int32) (Q : Int32 → c_S → Prop) : Prop := ∃ a36_ : Nat, (c_P S 1 a0) = some a36_ ∧ (c_mk L 5 a36_ ∧ (km_X5_thingAt L S a36_ (4 : Int32) x1 (fun r41_ S40_ => ((r41_ = none → (kb_X0_receive_36 L S40_ Q)) ∧ (¬ r41_ = none → (∃ a43_ : Nat, r41_ = some a43_ ∧ (c_mk L 10 a43_ ∧ ((¬ (c_I S40_ 2006 a43_) = 0 → (kb_X0_receive_36 L S40_ Q)) ∧ ((c_I S40_ 2006 a43_) = 0 → (((c_I S40_ 2007 a43_) = 0 → (kb_X0_receive_38 L S40_ a0 x1 x2 r41_ Q)) ∧ (¬ (c_I S40_ 2007 a43_) = 0 → (km_X0_isNoTime L S40_ a0 x2 (fun x51_ S50_ => ((x51_ = 0 → (kb_X0_receive_38 L S50_ a0 x1 x2 r41_ Q)) ∧ (¬ x51_ = 0 → (kb_X0_receive_36 L S50_ Q))))))))))))))))
set_option maxRecDepth 100000 in
set_option maxHeartbeats 4000000 in
theorem um_X0_receive {L : c_L} {T : q_S} (g : c_G L T) (S : c_S) (a0 : Nat) (x1 : Int32) (x2 : Int32) (m_a0 : c_mk L 0 a0) {Q1 : Int32 → c_S → Prop} {Q : Option Value → q_S → Prop} (h : km_X0_receive L  S a0 x1 x2 Q1) (hQ : ∀ (v : Int32) (K : c_S), Q1 v K → Q (some (.int v)) (c_E L K T)) : wm_X0_receive  (c_E L S T) (c_ob L 0 a0) x1 x2 Q := by
  unfold wm_X0_receive
  unfold km_X0_receive at h
  try simp only [c_gk g m_a0 1 rfl, c_eD1 m_a0, c_eDs1 (c_gw g) m_a0, true_and, Option.some.injEq, exists_eq_left', c_xm, c_xn, c_xs]
  obtain ⟨a36_, e_a36_, m_a36_, h⟩ := h
  refine ⟨a36_, e_a36_, ?_⟩
  try simp only [c_gk g m_a0 1 rfl, c_gk g m_a36_ 6 rfl, c_eD1 m_a0, c_eDs1 (c_gw g) m_a0, true_and, Option.some.injEq, exists_eq_left', c_xm, c_xn, c_xs]
  refine um_X5_thingAt g _ a36_ _ _ m_a36_ h (fun r41_ S40_ h => ?_)
  refine ⟨_, rfl, ?_⟩
  try simp only [c_gk g m_a0 1 rfl, c_gk g m_a36_ 6 rfl, c_eD1 m_a0, c_eDs1 (c_gw g) m_a0, true_and, Option.some.injEq, exists_eq_left', c_xm, c_xn, c_xs]
  refine ⟨fun hc => ?_, fun hc => ?_⟩
  · have h := h.1 hc
    exact ub_X0_receive_36 g _  h hQ
  · have h := h.2 hc
    obtain ⟨a43_, e_a43_, m_a43_, h⟩ := h
    refine ⟨a43_, e_a43_, ?_⟩
    try simp only [c_gk g m_a0 1 rfl, c_gk g m_a36_ 6 rfl, c_gk g m_a43_ 11 rfl, c_eD1 m_a0, c_eDs1 (c_gw g) m_a0, c_eI (f := 2006) m_a43_ rfl, c_eI (f := 2007) m_a43_ rfl, true_and, Option.some.injEq, exists_eq_left', c_xm, c_xn, c_xs]
    refine ⟨fun hc => ?_, fun hc => ?_⟩
    · have h := h.1 hc
      exact ub_X0_receive_36 g _  h hQ
    · have h := h.2 hc
      refine ⟨fun hc => ?_, fun hc => ?_⟩
      · have h := h.1 hc
        exact ub_X0_receive_38 g _ a0 _ _ r41_ m_a0 h hQ
      · have h := h.2 hc
        refine um_X0_isNoTime g _ a0 _ m_a0 h (fun x51_ S50_ h => ?_)
        refine ⟨_, rfl, ?_⟩
        try simp only [c_gk g m_a0 1 rfl, c_gk g m_a36_ 6 rfl, c_gk g m_a43_ 11 rfl, c_eD1 m_a0, c_eDs1 (c_gw g) m_a0, c_eI (f := 2006) m_a43_ rfl, c_eI (f := 2007) m_a43_ rfl, true_and, Option.some.injEq, exists_eq_left', c_xm, c_xn, c_xs]
        refine ⟨fun hc => ?_, fun hc => ?_⟩
        · have h := h.1 hc
          exact ub_X0_receive_38 g _ a0 _ _ r41_ m_a0 h hQ
        · have h := h.2 hc
          exact ub_X0_receive_36 g _  h hQ
def km_X5_lockBy (L : c_L) (S : c_S) (a0 : Nat) (r1 : Option Nat) (Q : c_S → Prop) : Prop := ∃ a2_ : Nat, r1 = some a2_ ∧ (c_mk L 7 a2_ ∧ (∀ S5_ : c_S, S5_ = (cs_I (cs_I S 1013 a0 ((c_I S 1013 a0) + (1 : Int32))) 1014 a0 (c_I (cs_I S 1013 a0 ((c_I S 1013 a0) + (1 : Int32))) 1400 a2_)) → (Q S5_)))
set_option maxRecDepth 100000 in
set_option maxHeartbeats 4000000 in
theorem um_X5_lockBy {L : c_L} {T : q_S} (g : c_G L T) (S : c_S) (a0 : Nat) (r1 : Option Nat) (m_a0 : c_mk L 5 a0) {Q1 : c_S → Prop} {Q : Option Value → q_S → Prop} (h : km_X5_lockBy L  S a0 r1 Q1) (hQ : ∀ K : c_S, Q1 K → Q none (c_E L K T)) : wm_X5_lockBy  (c_E L S T) (c_ob L 5 a0) (r1.map (c_ob L 7)) Q := by
  unfold wm_X5_lockBy
  unfold km_X5_lockBy at h
  try simp only [c_gk g m_a0 6 rfl, c_eI (f := 1013) m_a0 rfl, c_eIs (f := 1013) (c_gw g) m_a0 rfl, c_eIs (f := 1014) (c_gw g) m_a0 rfl, true_and, Option.some.injEq, exists_eq_left', c_xm, c_xn, c_xs]
  obtain ⟨a2_, e_a2_, m_a2_, h⟩ := h
  refine ⟨a2_, e_a2_, ?_⟩
  try simp only [c_gk g m_a0 6 rfl, c_gk g m_a2_ 8 rfl, c_eI (f := 1013) m_a0 rfl, c_eIs (f := 1013) (c_gw g) m_a0 rfl, c_eIs (f := 1014) (c_gw g) m_a0 rfl, c_eI (f := 1400) m_a2_ rfl, true_and, Option.some.injEq, exists_eq_left', c_xm, c_xn, c_xs]
  refine fun S5_ e_S5_ => ?_
  have h := h S5_ e_S5_
  exact hQ _ h
def km_X0_lock (L : c_L) (S : c_S) (a0 : Nat) (Q : Int32 → c_S → Prop) : Prop := ∃ a2_ : Nat, (c_P S 2 a0) = some a2_ ∧ (c_mk L 7 a2_ ∧ (((c_I S 1407 a2_) = 0 → (∃ a6_ : Nat, (c_P S 1 a0) = some a6_ ∧ (c_mk L 5 a6_ ∧ (((c_I S 1013 a6_) < (8 : Int32) → (km_X5_lockBy L S a6_ (some a2_) (fun S11_ => (Q (0 : Int32) S11_)))) ∧ (¬ (c_I S 1013 a6_) < (8 : Int32) → (Q (2 : Int32) S)))))) ∧ (¬ (c_I S 1407 a2_) = 0 → (Q (3 : Int32) S))))
set_option maxRecDepth 100000 in
set_option maxHeartbeats 4000000 in
theorem um_X0_lock {L : c_L} {T : q_S} (g : c_G L T) (S : c_S) (a0 : Nat) (m_a0 : c_mk L 0 a0) {Q1 : Int32 → c_S → Prop} {Q : Option Value → q_S → Prop} (h : km_X0_lock L  S a0 Q1) (hQ : ∀ (v : Int32) (K : c_S), Q1 v K → Q (some (.int v)) (c_E L K T)) : wm_X0_lock  (c_E L S T) (c_ob L 0 a0) Q := by
  unfold wm_X0_lock
  unfold km_X0_lock at h
  try simp only [c_gk g m_a0 1 rfl, c_eD1 m_a0, c_eDs1 (c_gw g) m_a0, c_eD2 m_a0, c_eDs2 (c_gw g) m_a0, true_and, Option.some.injEq, exists_eq_left', c_xm, c_xn, c_xs]
  obtain ⟨a2_, e_a2_, m_a2_, h⟩ := h
  refine ⟨a2_, e_a2_, ?_⟩
  try simp only [c_gk g m_a0 1 rfl, c_gk g m_a2_ 8 rfl, c_eD1 m_a0, c_eDs1 (c_gw g) m_a0, c_eD2 m_a0, c_eDs2 (c_gw g) m_a0, c_eI (f := 1407) m_a2_ rfl, true_and, Option.some.injEq, exists_eq_left', c_xm, c_xn, c_xs]
  refine ⟨fun hc => ?_, fun hc => ?_⟩
  · have h := h.1 hc
    obtain ⟨a6_, e_a6_, m_a6_, h⟩ := h
    refine ⟨a6_, e_a6_, ?_⟩
    try simp only [c_gk g m_a0 1 rfl, c_gk g m_a2_ 8 rfl, c_gk g m_a6_ 6 rfl, c_eD1 m_a0, c_eDs1 (c_gw g) m_a0, c_eD2 m_a0, c_eDs2 (c_gw g) m_a0, c_eI (f := 1407) m_a2_ rfl, c_eI (f := 1013) m_a6_ rfl, true_and, Option.some.injEq, exists_eq_left', c_xm, c_xn, c_xs]
    refine ⟨fun hc => ?_, fun hc => ?_⟩
    · have h := h.1 hc
      refine um_X5_lockBy g _ a6_ (some a2_) m_a6_ h (fun S11_ h => ?_)
      refine ⟨rfl, ?_⟩
      try simp only [c_gk g m_a0 1 rfl, c_gk g m_a2_ 8 rfl, c_gk g m_a6_ 6 rfl, c_eD1 m_a0, c_eDs1 (c_gw g) m_a0, c_eD2 m_a0, c_eDs2 (c_gw g) m_a0, c_eI (f := 1407) m_a2_ rfl, c_eI (f := 1013) m_a6_ rfl, true_and, Option.some.injEq, exists_eq_left', c_xm, c_xn, c_xs]
      exact hQ _ _ h
    · have h := h.2 hc
      exact hQ _ _ h
  · have h := h.2 hc
    exact hQ _ _ h
def kb_X5_unlockOnce_22 (L : c_L) (S : c_S) (Q : c_S → Prop) : Prop := Q S
set_option maxRecDepth 100000 in
set_option maxHeartbeats 4000000 in
theorem ub_X5_unlockOnce_22 {L : c_L} {T : q_S} (g : c_G L T) (S : c_S)  {Q1 : c_S → Prop} {Q : Option Value → q_S → Prop} (h : kb_X5_unlockOnce_22 L  S Q1) (hQ : ∀ K : c_S, Q1 K → Q none (c_E L K T)) : wb_X5_unlockOnce_22  (c_E L S T) Q := by
  unfold wb_X5_unlockOnce_22
  unfold kb_X5_unlockOnce_22 at h
  try simp only [true_and, Option.some.injEq, exists_eq_left', c_xm, c_xn, c_xs]
  exact hQ _ h
def km_X5_unlockOnce (L : c_L) (S : c_S) (a0 : Nat) (Q : c_S → Prop) : Prop := (¬ (c_I (cs_I S 1013 a0 ((c_I S 1013 a0) - (1 : Int32))) 1013 a0) = 0 → (kb_X5_unlockOnce_22 L (cs_I S 1013 a0 ((c_I S 1013 a0) - (1 : Int32))) Q)) ∧ ((c_I (cs_I S 1013 a0 ((c_I S 1013 a0) - (1 : Int32))) 1013 a0) = 0 → (kb_X5_unlockOnce_22 L (cs_I (cs_I S 1013 a0 ((c_I S 1013 a0) - (1 : Int32))) 1014 a0 (-1 : Int32)) Q))
set_option maxRecDepth 100000 in
set_option maxHeartbeats 4000000 in
theorem um_X5_unlockOnce {L : c_L} {T : q_S} (g : c_G L T) (S : c_S) (a0 : Nat) (m_a0 : c_mk L 5 a0) {Q1 : c_S → Prop} {Q : Option Value → q_S → Prop} (h : km_X5_unlockOnce L  S a0 Q1) (hQ : ∀ K : c_S, Q1 K → Q none (c_E L K T)) : wm_X5_unlockOnce  (c_E L S T) (c_ob L 5 a0) Q := by
  unfold wm_X5_unlockOnce
  unfold km_X5_unlockOnce at h
  try simp only [c_gk g m_a0 6 rfl, c_eI (f := 1013) m_a0 rfl, c_eIs (f := 1013) (c_gw g) m_a0 rfl, c_eIs (f := 1014) (c_gw g) m_a0 rfl, true_and, Option.some.injEq, exists_eq_left', c_xm, c_xn, c_xs]
  refine ⟨fun hc => ?_, fun hc => ?_⟩
  · have h := h.1 hc
    exact ub_X5_unlockOnce_22 g _  h hQ
  · have h := h.2 hc
    exact ub_X5_unlockOnce_22 g _  h hQ
def km_X0_unlock (L : c_L) (S : c_S) (a0 : Nat) (Q : Int32 → c_S → Prop) : Prop := ∃ a2_ : Nat, (c_P S 2 a0) = some a2_ ∧ (c_mk L 7 a2_ ∧ (((c_I S 1407 a2_) = 0 → (∃ a6_ : Nat, (c_P S 1 a0) = some a6_ ∧ (c_mk L 5 a6_ ∧ ((0 < (c_I S 1013 a6_) → (km_X5_unlockOnce L S a6_ (fun S11_ => (Q (0 : Int32) S11_)))) ∧ (¬ 0 < (c_I S 1013 a6_) → (Q (2 : Int32) S)))))) ∧ (¬ (c_I S 1407 a2_) = 0 → (Q (3 : Int32) S))))
set_option maxRecDepth 100000 in
set_option maxHeartbeats 4000000 in
theorem um_X0_unlock {L : c_L} {T : q_S} (g : c_G L T) (S : c_S) (a0 : Nat) (m_a0 : c_mk L 0 a0) {Q1 : Int32 → c_S → Prop} {Q : Option Value → q_S → Prop} (h : km_X0_unlock L  S a0 Q1) (hQ : ∀ (v : Int32) (K : c_S), Q1 v K → Q (some (.int v)) (c_E L K T)) : wm_X0_unlock  (c_E L S T) (c_ob L 0 a0) Q := by
  unfold wm_X0_unlock
  unfold km_X0_unlock at h
  try simp only [c_gk g m_a0 1 rfl, c_eD1 m_a0, c_eDs1 (c_gw g) m_a0, c_eD2 m_a0, c_eDs2 (c_gw g) m_a0, true_and, Option.some.injEq, exists_eq_left', c_xm, c_xn, c_xs]
  obtain ⟨a2_, e_a2_, m_a2_, h⟩ := h
  refine ⟨a2_, e_a2_, ?_⟩
  try simp only [c_gk g m_a0 1 rfl, c_gk g m_a2_ 8 rfl, c_eD1 m_a0, c_eDs1 (c_gw g) m_a0, c_eD2 m_a0, c_eDs2 (c_gw g) m_a0, c_eI (f := 1407) m_a2_ rfl, true_and, Option.some.injEq, exists_eq_left', c_xm, c_xn, c_xs]
  refine ⟨fun hc => ?_, fun hc => ?_⟩
  · have h := h.1 hc
    obtain ⟨a6_, e_a6_, m_a6_, h⟩ := h
    refine ⟨a6_, e_a6_, ?_⟩
    try simp only [c_gk g m_a0 1 rfl, c_gk g m_a2_ 8 rfl, c_gk g m_a6_ 6 rfl, c_eD1 m_a0, c_eDs1 (c_gw g) m_a0, c_eD2 m_a0, c_eDs2 (c_gw g) m_a0, c_eI (f := 1407) m_a2_ rfl, c_eI (f := 1013) m_a6_ rfl, true_and, Option.some.injEq, exists_eq_left', c_xm, c_xn, c_xs]
    refine ⟨fun hc => ?_, fun hc => ?_⟩
    · have h := h.1 hc
      refine um_X5_unlockOnce g _ a6_ m_a6_ h (fun S11_ h => ?_)
      refine ⟨rfl, ?_⟩
      try simp only [c_gk g m_a0 1 rfl, c_gk g m_a2_ 8 rfl, c_gk g m_a6_ 6 rfl, c_eD1 m_a0, c_eDs1 (c_gw g) m_a0, c_eD2 m_a0, c_eDs2 (c_gw g) m_a0, c_eI (f := 1407) m_a2_ rfl, c_eI (f := 1013) m_a6_ rfl, true_and, Option.some.injEq, exists_eq_left', c_xm, c_xn, c_xs]
      exact hQ _ _ h
    · have h := h.2 hc
      exact hQ _ _ h
  · have h := h.2 hc
    exact hQ _ _ h
def kb_X5_allRest_2 (L : c_L) (B2 : c_S → Nat → Int32 → Prop) (S : c_S) (a0 : Nat) (x1 : Int32) (Q : c_S → Prop) : Prop := ((c_I S 1004 a0) ≤ x1 → (∀ S3_ : c_S, S3_ = (cs_I (cs_I (cs_I S 1013 a0 (0 : Int32)) 1014 a0 (-1 : Int32)) 1016 a0 (-1 : Int32)) → (Q S3_))) ∧ (¬ (c_I S 1004 a0) ≤ x1 → (vp_in x1 16 ∧ (∃ a8_ : Nat, (c_e7 L a0 x1.toNatClampNeg) = some a8_ ∧ (c_mk L 7 a8_ ∧ (km_X7_leave L S a8_ (0 : Int32) (fun S12_ => (B2 S12_ a0 (x1 + 1))))))))
set_option maxRecDepth 100000 in
set_option maxHeartbeats 4000000 in
theorem ub_X5_allRest_2 {L : c_L} {T : q_S} (g : c_G L T) {OB2 : q_S → Nat → Int32 → Prop} {B2 : c_S → Nat → Int32 → Prop} (hB2 : ∀ (S1 : c_S) (a0 : Nat) (x1 : Int32), c_mk L 5 a0 → B2 S1 a0 x1 → OB2 (c_E L S1 T) (c_ob L 5 a0) x1) (S : c_S) (a0 : Nat) (x1 : Int32) (m_a0 : c_mk L 5 a0) {Q1 : c_S → Prop} {Q : Option Value → q_S → Prop} (h : kb_X5_allRest_2 L B2 S a0 x1 Q1) (hQ : ∀ K : c_S, Q1 K → Q none (c_E L K T)) : wb_X5_allRest_2 OB2 (c_E L S T) (c_ob L 5 a0) x1 Q := by
  unfold wb_X5_allRest_2
  unfold kb_X5_allRest_2 at h
  try simp only [c_gk g m_a0 6 rfl, c_eI (f := 1004) m_a0 rfl, c_eIs (f := 1013) (c_gw g) m_a0 rfl, c_eIs (f := 1014) (c_gw g) m_a0 rfl, c_eIs (f := 1016) (c_gw g) m_a0 rfl, true_and, Option.some.injEq, exists_eq_left', c_xm, c_xn, c_xs]
  refine ⟨fun hc => ?_, fun hc => ?_⟩
  · have h := h.1 hc
    refine fun S3_ e_S3_ => ?_
    have h := h S3_ e_S3_
    exact hQ _ h
  · have h := h.2 hc
    have n1003_a0 := c_gA g 1003 rfl (by decide) m_a0
    try simp only [c_gk g m_a0 6 rfl, c_gr g n1003_a0 26 rfl, c_gN g n1003_a0 16 (by decide), c_g7 g m_a0, c_ga g 1003 rfl rfl (by decide) m_a0, c_eI (f := 1004) m_a0 rfl, c_eIs (f := 1013) (c_gw g) m_a0 rfl, c_eIs (f := 1014) (c_gw g) m_a0 rfl, c_eIs (f := 1016) (c_gw g) m_a0 rfl, true_and, Option.some.injEq, exists_eq_left', c_xm, c_xn, c_xs]
    refine ⟨h.1, ?_⟩
    have h := h.2
    obtain ⟨a8_, e_a8_, m_a8_, h⟩ := h
    refine ⟨a8_, e_a8_, ?_⟩
    try simp only [c_gk g m_a0 6 rfl, c_gk g m_a8_ 8 rfl, c_gr g n1003_a0 26 rfl, c_gN g n1003_a0 16 (by decide), c_g7 g m_a0, c_ga g 1003 rfl rfl (by decide) m_a0, c_eI (f := 1004) m_a0 rfl, c_eIs (f := 1013) (c_gw g) m_a0 rfl, c_eIs (f := 1014) (c_gw g) m_a0 rfl, c_eIs (f := 1016) (c_gw g) m_a0 rfl, true_and, Option.some.injEq, exists_eq_left', c_xm, c_xn, c_xs]
    refine um_X7_leave g _ a8_ _ m_a8_ h (fun S12_ h => ?_)
    refine ⟨rfl, ?_⟩
    try simp only [c_gk g m_a0 6 rfl, c_gk g m_a8_ 8 rfl, c_gr g n1003_a0 26 rfl, c_gN g n1003_a0 16 (by decide), c_g7 g m_a0, c_ga g 1003 rfl rfl (by decide) m_a0, c_eI (f := 1004) m_a0 rfl, c_eIs (f := 1013) (c_gw g) m_a0 rfl, c_eIs (f := 1014) (c_gw g) m_a0 rfl, c_eIs (f := 1016) (c_gw g) m_a0 rfl, true_and, Option.some.injEq, exists_eq_left', c_xm, c_xn, c_xs]
    exact hB2 _ a0 _ m_a0 h
def kl_X5_allRest_2 (L : c_L)  : Nat → c_S → Nat → Int32 → (c_S → Prop) → Prop
  | 0, _, _, _, _ => False
  | n + 1, S, a0, x1, Q => kb_X5_allRest_2 L (fun S a0 x1 => kl_X5_allRest_2 L n S a0 x1 Q) S a0 x1 Q
theorem ul_X5_allRest_2 {L : c_L} {T : q_S} (g : c_G L T) (n : Nat) (S : c_S) (a0 : Nat) (x1 : Int32) (m_a0 : c_mk L 5 a0) {Q1 : c_S → Prop} {Q : Option Value → q_S → Prop} (h : kl_X5_allRest_2 L  n S a0 x1 Q1) (hQ : ∀ K : c_S, Q1 K → Q none (c_E L K T)) : wl_X5_allRest_2  n (c_E L S T) (c_ob L 5 a0) x1 Q := by
  induction n generalizing S a0 x1 with
  | zero => exact h.elim
  | succ n ih => exact ub_X5_allRest_2 g (fun u0 u1 u2 w0 h => ih u0 u1 u2 w0 h) S a0 x1 m_a0 h hQ
def km_X5_allRest (L : c_L) (S : c_S) (a0 : Nat) (Q : c_S → Prop) : Prop := ∃ n13_ : Nat, kl_X5_allRest_2 L n13_ S a0 (0 : Int32) Q
set_option maxRecDepth 100000 in
set_option maxHeartbeats 4000000 in
theorem um_X5_allRest {L : c_L} {T : q_S} (g : c_G L T) (S : c_S) (a0 : Nat) (m_a0 : c_mk L 5 a0) {Q1 : c_S → Prop} {Q : Option Value → q_S → Prop} (h : km_X5_allRest L  S a0 Q1) (hQ : ∀ K : c_S, Q1 K → Q none (c_E L K T)) : wm_X5_allRest  (c_E L S T) (c_ob L 5 a0) Q := by
  unfold wm_X5_allRest
  unfold km_X5_allRest at h
  try simp only [c_gk g m_a0 6 rfl, true_and, Option.some.injEq, exists_eq_left', c_xm, c_xn, c_xs]
  obtain ⟨n13_, h⟩ := h
  refine ⟨n13_, ?_⟩
  exact ul_X5_allRest_2 g n13_ _ a0 _ m_a0 h hQ
def km_X5_goIdle (L : c_L) (S : c_S) (a0 : Nat) (Q : c_S → Prop) : Prop := km_X5_allRest L S a0 (fun S3_ => (Q (cs_I S3_ 1009 a0 (1 : Int32))))
set_option maxRecDepth 100000 in
set_option maxHeartbeats 4000000 in
theorem um_X5_goIdle {L : c_L} {T : q_S} (g : c_G L T) (S : c_S) (a0 : Nat) (m_a0 : c_mk L 5 a0) {Q1 : c_S → Prop} {Q : Option Value → q_S → Prop} (h : km_X5_goIdle L  S a0 Q1) (hQ : ∀ K : c_S, Q1 K → Q none (c_E L K T)) : wm_X5_goIdle  (c_E L S T) (c_ob L 5 a0) Q := by
  unfold wm_X5_goIdle
  unfold km_X5_goIdle at h
  try simp only [c_gk g m_a0 6 rfl, c_eIs (f := 1009) (c_gw g) m_a0 rfl, true_and, Option.some.injEq, exists_eq_left', c_xm, c_xn, c_xs]
  refine um_X5_allRest g _ a0 m_a0 h (fun S3_ h => ?_)
  refine ⟨rfl, ?_⟩
  try simp only [c_gk g m_a0 6 rfl, c_eIs (f := 1009) (c_gw g) m_a0 rfl, true_and, Option.some.injEq, exists_eq_left', c_xm, c_xn, c_xs]
  exact hQ _ h
def kb_X10_empty_22 (L : c_L) (S : c_S) (Q : c_S → Prop) : Prop := Q S
set_option maxRecDepth 100000 in
set_option maxHeartbeats 4000000 in
theorem ub_X10_empty_22 {L : c_L} {T : q_S} (g : c_G L T) (S : c_S)  {Q1 : c_S → Prop} {Q : Option Value → q_S → Prop} (h : kb_X10_empty_22 L  S Q1) (hQ : ∀ K : c_S, Q1 K → Q none (c_E L K T)) : wb_X10_empty_22  (c_E L S T) Q := by
  unfold wb_X10_empty_22
  unfold kb_X10_empty_22 at h
  try simp only [true_and, Option.some.injEq, exists_eq_left', c_xm, c_xn, c_xs]
  exact hQ _ h
def km_X10_empty (L : c_L) (S : c_S) (a0 : Nat) (Q : c_S → Prop) : Prop := ((c_qu a0) = none → (kb_X10_empty_22 L (cs_I S 2001 a0 (c_I S 2002 a0)) Q)) ∧ (¬ (c_qu a0) = none → (∃ a3_ : Nat, (c_qu a0) = some a3_ ∧ (c_mk L 8 a3_ ∧ (km_X8_empty L (cs_I S 2001 a0 (c_I S 2002 a0)) a3_ (fun S7_ => (kb_X10_empty_22 L S7_ Q))))))
set_option maxRecDepth 100000 in
set_option maxHeartbeats 4000000 in
theorem um_X10_empty {L : c_L} {T : q_S} (g : c_G L T) (S : c_S) (a0 : Nat) (m_a0 : c_mk L 10 a0) {Q1 : c_S → Prop} {Q : Option Value → q_S → Prop} (h : km_X10_empty L  S a0 Q1) (hQ : ∀ K : c_S, Q1 K → Q none (c_E L K T)) : wm_X10_empty  (c_E L S T) (c_ob L 10 a0) Q := by
  unfold wm_X10_empty
  unfold km_X10_empty at h
  try simp only [c_gk g m_a0 11 rfl, c_eI (f := 2002) m_a0 rfl, c_eIs (f := 2001) (c_gw g) m_a0 rfl, c_gu g m_a0, true_and, Option.some.injEq, exists_eq_left', c_xm, c_xn, c_xs]
  refine ⟨fun hc => ?_, fun hc => ?_⟩
  · have h := h.1 hc
    exact ub_X10_empty_22 g _  h hQ
  · have h := h.2 hc
    obtain ⟨a3_, e_a3_, m_a3_, h⟩ := h
    refine ⟨a3_, e_a3_, ?_⟩
    try simp only [c_gk g m_a0 11 rfl, c_gk g m_a3_ 9 rfl, c_eI (f := 2002) m_a0 rfl, c_eIs (f := 2001) (c_gw g) m_a0 rfl, c_gu g m_a0, true_and, Option.some.injEq, exists_eq_left', c_xm, c_xn, c_xs]
    refine um_X8_empty g _ a3_ m_a3_ h (fun S7_ h => ?_)
    refine ⟨rfl, ?_⟩
    try simp only [c_gk g m_a0 11 rfl, c_gk g m_a3_ 9 rfl, c_eI (f := 2002) m_a0 rfl, c_eIs (f := 2001) (c_gw g) m_a0 rfl, c_gu g m_a0, true_and, Option.some.injEq, exists_eq_left', c_xm, c_xn, c_xs]
    exact ub_X10_empty_22 g _  h hQ
