def kb_X11_turn_11 (L : c_L) (S : c_S) (Q : c_S → Prop) : Prop := Q S
set_option maxRecDepth 100000 in
set_option maxHeartbeats 4000000 in
theorem ub_X11_turn_11 {L : c_L} {T : q_S} (g : c_G L T) (S : c_S)  {Q1 : c_S → Prop} {Q : Option Value → q_S → Prop} (h : kb_X11_turn_11 L  S Q1) (hQ : ∀ K : c_S, Q1 K → Q none (c_E L K T)) : wb_X11_turn_11  (c_E L S T) Q := by
  unfold wb_X11_turn_11
  unfold kb_X11_turn_11 at h
  try simp only [true_and, Option.some.injEq, exists_eq_left', c_xm, c_xn, c_xs]
  exact hQ _ h
def kb_X11_turn_150 (L : c_L) (S : c_S) (Q : c_S → Prop) : Prop := Q S
set_option maxRecDepth 100000 in
set_option maxHeartbeats 4000000 in
theorem ub_X11_turn_150 {L : c_L} {T : q_S} (g : c_G L T) (S : c_S)  {Q1 : c_S → Prop} {Q : Option Value → q_S → Prop} (h : kb_X11_turn_150 L  S Q1) (hQ : ∀ K : c_S, Q1 K → Q none (c_E L K T)) : wb_X11_turn_150  (c_E L S T) Q := by
  unfold wb_X11_turn_150
  unfold kb_X11_turn_150 at h
  try simp only [true_and, Option.some.injEq, exists_eq_left', c_xm, c_xn, c_xs]
  exact hQ _ h
def kb_X11_turn_135 (L : c_L) (S : c_S) (a0 : Nat) (r1 : Option Nat) (r2 : Option Nat) (x3 : Int32) (x4 : Int32) (Q : c_S → Prop) : Prop := (x3 = (-1 : Int32) → (kb_X11_turn_150 L S Q)) ∧ (¬ x3 = (-1 : Int32) → (km_X11_goWrong L S a0 r1 r2 x3 x4 (fun x5_ S4_ => (kb_X11_turn_150 L S4_ Q))))
set_option maxRecDepth 100000 in
set_option maxHeartbeats 4000000 in
theorem ub_X11_turn_135 {L : c_L} {T : q_S} (g : c_G L T) (S : c_S) (a0 : Nat) (r1 : Option Nat) (r2 : Option Nat) (x3 : Int32) (x4 : Int32) (m_a0 : c_mk L 11 a0) {Q1 : c_S → Prop} {Q : Option Value → q_S → Prop} (h : kb_X11_turn_135 L  S a0 r1 r2 x3 x4 Q1) (hQ : ∀ K : c_S, Q1 K → Q none (c_E L K T)) : wb_X11_turn_135  (c_E L S T) (c_ob L 11 a0) (r1.map (c_ob L 5)) (r2.map (c_ob L 7)) x3 x4 Q := by
  unfold wb_X11_turn_135
  unfold kb_X11_turn_135 at h
  try simp only [c_gk g m_a0 12 rfl, true_and, Option.some.injEq, exists_eq_left', c_xm, c_xn, c_xs]
  refine ⟨fun hc => ?_, fun hc => ?_⟩
  · have h := h.1 hc
    exact ub_X11_turn_150 g _  h hQ
  · have h := h.2 hc
    refine um_X11_goWrong g _ a0 r1 r2 _ _ m_a0 h (fun x5_ S4_ h => ?_)
    refine ⟨_, rfl, ?_⟩
    try simp only [c_gk g m_a0 12 rfl, true_and, Option.some.injEq, exists_eq_left', c_xm, c_xn, c_xs]
    exact ub_X11_turn_150 g _  h hQ
def kb_X11_turn_133 (L : c_L) (S : c_S) (a0 : Nat) (r1 : Option Nat) (r2 : Option Nat) (x3 : Int32) (xs0 : Int32) (Q : c_S → Prop) : Prop := kb_X11_turn_135 L S a0 r1 r2 x3 xs0 Q
set_option maxRecDepth 100000 in
set_option maxHeartbeats 4000000 in
theorem ub_X11_turn_133 {L : c_L} {T : q_S} (g : c_G L T) (S : c_S) (a0 : Nat) (r1 : Option Nat) (r2 : Option Nat) (x3 : Int32) (xs0 : Int32) (m_a0 : c_mk L 11 a0) {Q1 : c_S → Prop} {Q : Option Value → q_S → Prop} (h : kb_X11_turn_133 L  S a0 r1 r2 x3 xs0 Q1) (hQ : ∀ K : c_S, Q1 K → Q none (c_E L K T)) : wb_X11_turn_133  (c_E L S T) (c_ob L 11 a0) (r1.map (c_ob L 5)) (r2.map (c_ob L 7)) x3 xs0 Q := by
  unfold wb_X11_turn_133
  unfold kb_X11_turn_133 at h
  try simp only [c_gk g m_a0 12 rfl, true_and, Option.some.injEq, exists_eq_left', c_xm, c_xn, c_xs]
  exact ub_X11_turn_135 g _ a0 r1 r2 _ _ m_a0 h hQ
def km_X11_turn (L : c_L) (S : c_S) (a0 : Nat) (r1 : Option Nat) (Q : c_S → Prop) : Prop := (r1 = none → (kb_X11_turn_11 L S Q)) ∧ (¬ r1 = none → (∃ a7_ : Nat, r1 = some a7_ ∧ (c_mk L 5 a7_ ∧ (((c_I S 1009 a7_) = 0 → (km_X5_wakeUntil L S a7_ (c_I S 1211 a0) (fun S16_ => (km_X11_lateOnesDealtWith L S16_ a0 r1 (fun x20_ S19_ => ((¬ x20_ = 0 → (km_X5_chosen L S19_ a7_ (fun r25_ S24_ => ((¬ r25_ = none → (∃ a27_ : Nat, r25_ = some a27_ ∧ (c_mk L 7 a27_ ∧ (∀ S31_ : c_S, S31_ = (cs_I (cs_I S24_ 1414 a27_ ((c_I S24_ 1414 a27_) + (1 : Int32))) 1012 a7_ ((c_I (cs_I S24_ 1414 a27_ ((c_I S24_ 1414 a27_) + (1 : Int32))) 1012 a7_) + (1 : Int32))) → (km_X3_step L (cs_I S31_ 1212 a0 ((c_I S31_ 1212 a0) + (1 : Int32))) a0 r25_ (some a7_) (fun x41_ S40_ => ((¬ x41_ = (5 : Int32) → (kb_X11_turn_135 L S40_ a0 r1 r25_ x41_ (c_I S40_ 600 a0) Q)) ∧ (x41_ = (5 : Int32) → (km_X0_answer L S40_ a0 (some a0) r1 r25_ (fun x52_ S51_ => ((¬ x52_ = (3 : Int32) → (kb_X11_turn_133 L S51_ a0 r1 r25_ x52_ (115 : Int32) Q)) ∧ (x52_ = (3 : Int32) → (vp_in (10 : Int32) 32 ∧ (kb_X11_turn_133 L S51_ a0 r1 r25_ x52_ (c_A S51_ 1411 a27_ (10 : Int32).toNatClampNeg) Q)))))))))))))) ∧ (r25_ = none → (Q S24_)))))) ∧ (x20_ = 0 → (Q S19_)))))))) ∧ (¬ (c_I S 1009 a7_) = 0 → (kb_X11_turn_11 L S Q))))))
set_option maxRecDepth 100000 in
set_option maxHeartbeats 4000000 in
theorem um_X11_turn {L : c_L} {T : q_S} (g : c_G L T) (S : c_S) (a0 : Nat) (r1 : Option Nat) (m_a0 : c_mk L 11 a0) {Q1 : c_S → Prop} {Q : Option Value → q_S → Prop} (h : km_X11_turn L  S a0 r1 Q1) (hQ : ∀ K : c_S, Q1 K → Q none (c_E L K T)) : wm_X11_turn  (c_E L S T) (c_ob L 11 a0) (r1.map (c_ob L 5)) Q := by
  unfold wm_X11_turn
  unfold km_X11_turn at h
  try simp only [c_gk g m_a0 12 rfl, true_and, Option.some.injEq, exists_eq_left', c_xm, c_xn, c_xs]
  refine ⟨fun hc => ?_, fun hc => ?_⟩
  · have h := h.1 hc
    exact ub_X11_turn_11 g _  h hQ
  · have h := h.2 hc
    obtain ⟨a7_, e_a7_, m_a7_, h⟩ := h
    refine ⟨a7_, e_a7_, ?_⟩
    try simp only [c_gk g m_a0 12 rfl, c_gk g m_a7_ 6 rfl, c_eI (f := 1009) m_a7_ rfl, c_eI (f := 1012) m_a7_ rfl, c_eIs (f := 1012) (c_gw g) m_a7_ rfl, true_and, Option.some.injEq, exists_eq_left', c_xm, c_xn, c_xs]
    refine ⟨fun hc => ?_, fun hc => ?_⟩
    · have h := h.1 hc
      have n2201_a0 := c_gO g 2201 6 rfl (by decide) m_a0
      try simp only [c_gk g m_a0 12 rfl, c_gk g m_a7_ 6 rfl, c_gk g n2201_a0 7 rfl, c_gp g 2201 6 rfl rfl (by decide) m_a0, c_eI (f := 1009) m_a7_ rfl, c_eI (f := 1012) m_a7_ rfl, c_eIs (f := 1012) (c_gw g) m_a7_ rfl, c_eI (f := 1211) n2201_a0 rfl, c_eI (f := 1212) n2201_a0 rfl, c_eIs (f := 1212) (c_gw g) n2201_a0 rfl, true_and, Option.some.injEq, exists_eq_left', c_xm, c_xn, c_xs]
      refine um_X5_wakeUntil g _ a7_ _ m_a7_ h (fun S16_ h => ?_)
      refine ⟨rfl, ?_⟩
      try simp only [c_gk g m_a0 12 rfl, c_gk g m_a7_ 6 rfl, c_gk g n2201_a0 7 rfl, c_gp g 2201 6 rfl rfl (by decide) m_a0, c_eI (f := 1009) m_a7_ rfl, c_eI (f := 1012) m_a7_ rfl, c_eIs (f := 1012) (c_gw g) m_a7_ rfl, c_eI (f := 1211) n2201_a0 rfl, c_eI (f := 1212) n2201_a0 rfl, c_eIs (f := 1212) (c_gw g) n2201_a0 rfl, true_and, Option.some.injEq, exists_eq_left', c_xm, c_xn, c_xs]
      refine um_X11_lateOnesDealtWith g _ a0 r1 m_a0 h (fun x20_ S19_ h => ?_)
      refine ⟨_, rfl, ?_⟩
      try simp only [c_gk g m_a0 12 rfl, c_gk g m_a7_ 6 rfl, c_gk g n2201_a0 7 rfl, c_gp g 2201 6 rfl rfl (by decide) m_a0, c_eI (f := 1009) m_a7_ rfl, c_eI (f := 1012) m_a7_ rfl, c_eIs (f := 1012) (c_gw g) m_a7_ rfl, c_eI (f := 1211) n2201_a0 rfl, c_eI (f := 1212) n2201_a0 rfl, c_eIs (f := 1212) (c_gw g) n2201_a0 rfl, true_and, Option.some.injEq, exists_eq_left', c_xm, c_xn, c_xs]
      refine ⟨fun hc => ?_, fun hc => ?_⟩
      · have h := h.1 hc
        refine um_X5_chosen g _ a7_ m_a7_ h (fun r25_ S24_ h => ?_)
        refine ⟨_, rfl, ?_⟩
        try simp only [c_gk g m_a0 12 rfl, c_gk g m_a7_ 6 rfl, c_gk g n2201_a0 7 rfl, c_gp g 2201 6 rfl rfl (by decide) m_a0, c_eI (f := 1009) m_a7_ rfl, c_eI (f := 1012) m_a7_ rfl, c_eIs (f := 1012) (c_gw g) m_a7_ rfl, c_eI (f := 1211) n2201_a0 rfl, c_eI (f := 1212) n2201_a0 rfl, c_eIs (f := 1212) (c_gw g) n2201_a0 rfl, true_and, Option.some.injEq, exists_eq_left', c_xm, c_xn, c_xs]
        refine ⟨fun hc => ?_, fun hc => ?_⟩
        · have h := h.1 hc
          obtain ⟨a27_, e_a27_, m_a27_, h⟩ := h
          refine ⟨a27_, e_a27_, ?_⟩
          try simp only [c_gk g m_a0 12 rfl, c_gk g m_a7_ 6 rfl, c_gk g n2201_a0 7 rfl, c_gk g m_a27_ 8 rfl, c_gp g 2201 6 rfl rfl (by decide) m_a0, c_eI (f := 1009) m_a7_ rfl, c_eI (f := 1012) m_a7_ rfl, c_eIs (f := 1012) (c_gw g) m_a7_ rfl, c_eI (f := 1211) n2201_a0 rfl, c_eI (f := 1212) n2201_a0 rfl, c_eIs (f := 1212) (c_gw g) n2201_a0 rfl, c_eI (f := 1414) m_a27_ rfl, c_eIs (f := 1414) (c_gw g) m_a27_ rfl, true_and, Option.some.injEq, exists_eq_left', c_xm, c_xn, c_xs]
          refine fun S31_ e_S31_ => ?_
          have h := h S31_ e_S31_
          have n2202_a0 := c_gO g 2202 3 rfl (by decide) m_a0
          try simp only [c_gk g m_a0 12 rfl, c_gk g m_a7_ 6 rfl, c_gk g n2201_a0 7 rfl, c_gk g m_a27_ 8 rfl, c_gk g n2202_a0 4 rfl, c_gp g 2201 6 rfl rfl (by decide) m_a0, c_gp g 2202 3 rfl rfl (by decide) m_a0, c_eI (f := 1009) m_a7_ rfl, c_eI (f := 1012) m_a7_ rfl, c_eIs (f := 1012) (c_gw g) m_a7_ rfl, c_eI (f := 1211) n2201_a0 rfl, c_eI (f := 1212) n2201_a0 rfl, c_eIs (f := 1212) (c_gw g) n2201_a0 rfl, c_eI (f := 1414) m_a27_ rfl, c_eIs (f := 1414) (c_gw g) m_a27_ rfl, c_eI (f := 600) n2202_a0 rfl, true_and, Option.some.injEq, exists_eq_left', c_xm, c_xn, c_xs]
          have n1002_a7_ := c_gO g 1002 4 rfl (by decide) m_a7_
          try simp only [c_gk g m_a0 12 rfl, c_gk g m_a7_ 6 rfl, c_gk g n2201_a0 7 rfl, c_gk g m_a27_ 8 rfl, c_gk g n2202_a0 4 rfl, c_gk g n1002_a7_ 5 rfl, c_gp g 2201 6 rfl rfl (by decide) m_a0, c_gp g 2202 3 rfl rfl (by decide) m_a0, c_gp g 1002 4 rfl rfl (by decide) m_a7_, c_eI (f := 1009) m_a7_ rfl, c_eI (f := 1012) m_a7_ rfl, c_eIs (f := 1012) (c_gw g) m_a7_ rfl, c_eI (f := 1211) n2201_a0 rfl, c_eI (f := 1212) n2201_a0 rfl, c_eIs (f := 1212) (c_gw g) n2201_a0 rfl, c_eI (f := 1414) m_a27_ rfl, c_eIs (f := 1414) (c_gw g) m_a27_ rfl, c_eI (f := 600) n2202_a0 rfl, true_and, Option.some.injEq, exists_eq_left', c_xm, c_xn, c_xs]
          refine um_X3_step g _ a0 r25_ (some a7_) n2202_a0 h (fun x41_ S40_ h => ?_)
          refine ⟨_, rfl, ?_⟩
          try simp only [c_gk g m_a0 12 rfl, c_gk g m_a7_ 6 rfl, c_gk g n2201_a0 7 rfl, c_gk g m_a27_ 8 rfl, c_gk g n2202_a0 4 rfl, c_gk g n1002_a7_ 5 rfl, c_gp g 2201 6 rfl rfl (by decide) m_a0, c_gp g 2202 3 rfl rfl (by decide) m_a0, c_gp g 1002 4 rfl rfl (by decide) m_a7_, c_eI (f := 1009) m_a7_ rfl, c_eI (f := 1012) m_a7_ rfl, c_eIs (f := 1012) (c_gw g) m_a7_ rfl, c_eI (f := 1211) n2201_a0 rfl, c_eI (f := 1212) n2201_a0 rfl, c_eIs (f := 1212) (c_gw g) n2201_a0 rfl, c_eI (f := 1414) m_a27_ rfl, c_eIs (f := 1414) (c_gw g) m_a27_ rfl, c_eI (f := 600) n2202_a0 rfl, true_and, Option.some.injEq, exists_eq_left', c_xm, c_xn, c_xs]
          refine ⟨fun hc => ?_, fun hc => ?_⟩
          · have h := h.1 hc
            exact ub_X11_turn_135 g _ a0 r1 r25_ _ _ m_a0 h hQ
          · have h := h.2 hc
            have n2203_a0 := c_gO g 2203 0 rfl (by decide) m_a0
            try simp only [c_gk g m_a0 12 rfl, c_gk g m_a7_ 6 rfl, c_gk g n2201_a0 7 rfl, c_gk g m_a27_ 8 rfl, c_gk g n2202_a0 4 rfl, c_gk g n1002_a7_ 5 rfl, c_gk g n2203_a0 1 rfl, c_gp g 2201 6 rfl rfl (by decide) m_a0, c_gp g 2202 3 rfl rfl (by decide) m_a0, c_gp g 1002 4 rfl rfl (by decide) m_a7_, c_gp g 2203 0 rfl rfl (by decide) m_a0, c_eI (f := 1009) m_a7_ rfl, c_eI (f := 1012) m_a7_ rfl, c_eIs (f := 1012) (c_gw g) m_a7_ rfl, c_eI (f := 1211) n2201_a0 rfl, c_eI (f := 1212) n2201_a0 rfl, c_eIs (f := 1212) (c_gw g) n2201_a0 rfl, c_eI (f := 1414) m_a27_ rfl, c_eIs (f := 1414) (c_gw g) m_a27_ rfl, c_eI (f := 600) n2202_a0 rfl, true_and, Option.some.injEq, exists_eq_left', c_xm, c_xn, c_xs]
            refine um_X0_answer g _ a0 (some a0) r1 r25_ n2203_a0 h (fun x52_ S51_ h => ?_)
            refine ⟨_, rfl, ?_⟩
            try simp only [c_gk g m_a0 12 rfl, c_gk g m_a7_ 6 rfl, c_gk g n2201_a0 7 rfl, c_gk g m_a27_ 8 rfl, c_gk g n2202_a0 4 rfl, c_gk g n1002_a7_ 5 rfl, c_gk g n2203_a0 1 rfl, c_gp g 2201 6 rfl rfl (by decide) m_a0, c_gp g 2202 3 rfl rfl (by decide) m_a0, c_gp g 1002 4 rfl rfl (by decide) m_a7_, c_gp g 2203 0 rfl rfl (by decide) m_a0, c_eI (f := 1009) m_a7_ rfl, c_eI (f := 1012) m_a7_ rfl, c_eIs (f := 1012) (c_gw g) m_a7_ rfl, c_eI (f := 1211) n2201_a0 rfl, c_eI (f := 1212) n2201_a0 rfl, c_eIs (f := 1212) (c_gw g) n2201_a0 rfl, c_eI (f := 1414) m_a27_ rfl, c_eIs (f := 1414) (c_gw g) m_a27_ rfl, c_eI (f := 600) n2202_a0 rfl, true_and, Option.some.injEq, exists_eq_left', c_xm, c_xn, c_xs]
            refine ⟨fun hc => ?_, fun hc => ?_⟩
            · have h := h.1 hc
              exact ub_X11_turn_133 g _ a0 r1 r25_ _ _ m_a0 h hQ
            · have h := h.2 hc
              have n1411_a27_ := c_gA g 1411 rfl (by decide) m_a27_
              try simp only [c_gk g m_a0 12 rfl, c_gk g m_a7_ 6 rfl, c_gk g n2201_a0 7 rfl, c_gk g m_a27_ 8 rfl, c_gk g n2202_a0 4 rfl, c_gk g n1002_a7_ 5 rfl, c_gk g n2203_a0 1 rfl, c_gr g n1411_a27_ 21 rfl, c_gN g n1411_a27_ 32 (by decide), c_eA n1411_a27_, c_eAs (c_gw g) n1411_a27_, c_gp g 2201 6 rfl rfl (by decide) m_a0, c_gp g 2202 3 rfl rfl (by decide) m_a0, c_gp g 1002 4 rfl rfl (by decide) m_a7_, c_gp g 2203 0 rfl rfl (by decide) m_a0, c_ga g 1411 rfl rfl (by decide) m_a27_, c_eI (f := 1009) m_a7_ rfl, c_eI (f := 1012) m_a7_ rfl, c_eIs (f := 1012) (c_gw g) m_a7_ rfl, c_eI (f := 1211) n2201_a0 rfl, c_eI (f := 1212) n2201_a0 rfl, c_eIs (f := 1212) (c_gw g) n2201_a0 rfl, c_eI (f := 1414) m_a27_ rfl, c_eIs (f := 1414) (c_gw g) m_a27_ rfl, c_eI (f := 600) n2202_a0 rfl, true_and, Option.some.injEq, exists_eq_left', c_xm, c_xn, c_xs]
              refine ⟨h.1, ?_⟩
              have h := h.2
              exact ub_X11_turn_133 g _ a0 r1 r25_ _ _ m_a0 h hQ
        · have h := h.2 hc
          exact hQ _ h
      · have h := h.2 hc
        exact hQ _ h
    · have h := h.2 hc
      exact ub_X11_turn_11 g _  h hQ
def kb_X11_peek_24 (L : c_L) (S : c_S) (Q : Int32 → c_S → Prop) : Prop := Q (0 : Int32) S
set_option maxRecDepth 100000 in
set_option maxHeartbeats 4000000 in
theorem ub_X11_peek_24 {L : c_L} {T : q_S} (g : c_G L T) (S : c_S)  {Q1 : Int32 → c_S → Prop} {Q : Option Value → q_S → Prop} (h : kb_X11_peek_24 L  S Q1) (hQ : ∀ (v : Int32) (K : c_S), Q1 v K → Q (some (.int v)) (c_E L K T)) : wb_X11_peek_24  (c_E L S T) Q := by
  unfold wb_X11_peek_24
  unfold kb_X11_peek_24 at h
  try simp only [true_and, Option.some.injEq, exists_eq_left', c_xm, c_xn, c_xs]
  exact hQ _ _ h
def kb_X11_peek_61 (L : c_L) (S : c_S) (xs0 : Int32) (Q : Int32 → c_S → Prop) : Prop := Q xs0 S
set_option maxRecDepth 100000 in
set_option maxHeartbeats 4000000 in
theorem ub_X11_peek_61 {L : c_L} {T : q_S} (g : c_G L T) (S : c_S) (xs0 : Int32)  {Q1 : Int32 → c_S → Prop} {Q : Option Value → q_S → Prop} (h : kb_X11_peek_61 L  S xs0 Q1) (hQ : ∀ (v : Int32) (K : c_S), Q1 v K → Q (some (.int v)) (c_E L K T)) : wb_X11_peek_61  (c_E L S T) xs0 Q := by
  unfold wb_X11_peek_61
  unfold kb_X11_peek_61 at h
  try simp only [true_and, Option.some.injEq, exists_eq_left', c_xm, c_xn, c_xs]
  exact hQ _ _ h
def km_X11_peek (L : c_L) (S : c_S) (a0 : Nat) (x1 : Int32) (x2 : Int32) (Q : Int32 → c_S → Prop) : Prop := km_X6_partitionAt L S a0 x1 (fun r7_ S6_ => ((r7_ = none → (kb_X11_peek_24 L S6_ Q)) ∧ (¬ r7_ = none → (∃ a9_ : Nat, r7_ = some a9_ ∧ (c_mk L 5 a9_ ∧ (km_X4_hasWord L S6_ a9_ x2 (fun x17_ S16_ => ((¬ x17_ = 0 → (((c_I S16_ 1214 a0) = 0 → (vp_in (x2 >>> ((2 : Int32) &&& 31)) (c_ln L 802 a9_) ∧ (kb_X11_peek_61 L S16_ (c_A S16_ 802 a9_ (x2 >>> ((2 : Int32) &&& 31)).toNatClampNeg) Q))) ∧ (¬ (c_I S16_ 1214 a0) = 0 → (vp_in (x2 >>> ((2 : Int32) &&& 31)) (c_ln L 801 a9_) ∧ (kb_X11_peek_61 L S16_ (c_A S16_ 801 a9_ (x2 >>> ((2 : Int32) &&& 31)).toNatClampNeg) Q))))) ∧ (x17_ = 0 → (kb_X11_peek_24 L S16_ Q))))))))))
set_option maxRecDepth 100000 in
set_option maxHeartbeats 4000000 in
theorem um_X11_peek {L : c_L} {T : q_S} (g : c_G L T) (S : c_S) (a0 : Nat) (x1 : Int32) (x2 : Int32) (m_a0 : c_mk L 11 a0) {Q1 : Int32 → c_S → Prop} {Q : Option Value → q_S → Prop} (h : km_X11_peek L  S a0 x1 x2 Q1) (hQ : ∀ (v : Int32) (K : c_S), Q1 v K → Q (some (.int v)) (c_E L K T)) : wm_X11_peek  (c_E L S T) (c_ob L 11 a0) x1 x2 Q := by
  unfold wm_X11_peek
  unfold km_X11_peek at h
  try simp only [c_gk g m_a0 12 rfl, true_and, Option.some.injEq, exists_eq_left', c_xm, c_xn, c_xs]
  have n2201_a0 := c_gO g 2201 6 rfl (by decide) m_a0
  try simp only [c_gk g m_a0 12 rfl, c_gk g n2201_a0 7 rfl, c_gp g 2201 6 rfl rfl (by decide) m_a0, c_eI (f := 1214) n2201_a0 rfl, true_and, Option.some.injEq, exists_eq_left', c_xm, c_xn, c_xs]
  refine um_X6_partitionAt g _ a0 _ n2201_a0 h (fun r7_ S6_ h => ?_)
  refine ⟨_, rfl, ?_⟩
  try simp only [c_gk g m_a0 12 rfl, c_gk g n2201_a0 7 rfl, c_gp g 2201 6 rfl rfl (by decide) m_a0, c_eI (f := 1214) n2201_a0 rfl, true_and, Option.some.injEq, exists_eq_left', c_xm, c_xn, c_xs]
  refine ⟨fun hc => ?_, fun hc => ?_⟩
  · have h := h.1 hc
    exact ub_X11_peek_24 g _  h hQ
  · have h := h.2 hc
    obtain ⟨a9_, e_a9_, m_a9_, h⟩ := h
    refine ⟨a9_, e_a9_, ?_⟩
    try simp only [c_gk g m_a0 12 rfl, c_gk g n2201_a0 7 rfl, c_gk g m_a9_ 6 rfl, c_gp g 2201 6 rfl rfl (by decide) m_a0, c_eI (f := 1214) n2201_a0 rfl, true_and, Option.some.injEq, exists_eq_left', c_xm, c_xn, c_xs]
    have n1002_a9_ := c_gO g 1002 4 rfl (by decide) m_a9_
    try simp only [c_gk g m_a0 12 rfl, c_gk g n2201_a0 7 rfl, c_gk g m_a9_ 6 rfl, c_gk g n1002_a9_ 5 rfl, c_gp g 2201 6 rfl rfl (by decide) m_a0, c_gp g 1002 4 rfl rfl (by decide) m_a9_, c_eI (f := 1214) n2201_a0 rfl, true_and, Option.some.injEq, exists_eq_left', c_xm, c_xn, c_xs]
    refine um_X4_hasWord g _ a9_ _ n1002_a9_ h (fun x17_ S16_ h => ?_)
    refine ⟨_, rfl, ?_⟩
    try simp only [c_gk g m_a0 12 rfl, c_gk g n2201_a0 7 rfl, c_gk g m_a9_ 6 rfl, c_gk g n1002_a9_ 5 rfl, c_gp g 2201 6 rfl rfl (by decide) m_a0, c_gp g 1002 4 rfl rfl (by decide) m_a9_, c_eI (f := 1214) n2201_a0 rfl, true_and, Option.some.injEq, exists_eq_left', c_xm, c_xn, c_xs]
    refine ⟨fun hc => ?_, fun hc => ?_⟩
    · have h := h.1 hc
      refine ⟨fun hc => ?_, fun hc => ?_⟩
      · have h := h.1 hc
        have n802_n1002_a9_ := c_gA g 802 rfl (by decide) n1002_a9_
        try simp only [c_gk g m_a0 12 rfl, c_gk g n2201_a0 7 rfl, c_gk g m_a9_ 6 rfl, c_gk g n1002_a9_ 5 rfl, c_gr g n802_n1002_a9_ 21 rfl, c_gn g n802_n1002_a9_, c_eA n802_n1002_a9_, c_eAs (c_gw g) n802_n1002_a9_, c_gp g 2201 6 rfl rfl (by decide) m_a0, c_gp g 1002 4 rfl rfl (by decide) m_a9_, c_ga g 802 rfl rfl (by decide) n1002_a9_, c_eI (f := 1214) n2201_a0 rfl, true_and, Option.some.injEq, exists_eq_left', c_xm, c_xn, c_xs]
        refine ⟨h.1, ?_⟩
        have h := h.2
        exact ub_X11_peek_61 g _ _  h hQ
      · have h := h.2 hc
        have n801_n1002_a9_ := c_gA g 801 rfl (by decide) n1002_a9_
        try simp only [c_gk g m_a0 12 rfl, c_gk g n2201_a0 7 rfl, c_gk g m_a9_ 6 rfl, c_gk g n1002_a9_ 5 rfl, c_gr g n801_n1002_a9_ 21 rfl, c_gn g n801_n1002_a9_, c_eA n801_n1002_a9_, c_eAs (c_gw g) n801_n1002_a9_, c_gp g 2201 6 rfl rfl (by decide) m_a0, c_gp g 1002 4 rfl rfl (by decide) m_a9_, c_ga g 801 rfl rfl (by decide) n1002_a9_, c_eI (f := 1214) n2201_a0 rfl, true_and, Option.some.injEq, exists_eq_left', c_xm, c_xn, c_xs]
        refine ⟨h.1, ?_⟩
        have h := h.2
        exact ub_X11_peek_61 g _ _  h hQ
    · have h := h.2 hc
      exact ub_X11_peek_24 g _  h hQ
def kb_X11_register_37 (L : c_L) (S : c_S) (xs0 : Int32) (Q : Int32 → c_S → Prop) : Prop := Q xs0 S
set_option maxRecDepth 100000 in
set_option maxHeartbeats 4000000 in
theorem ub_X11_register_37 {L : c_L} {T : q_S} (g : c_G L T) (S : c_S) (xs0 : Int32)  {Q1 : Int32 → c_S → Prop} {Q : Option Value → q_S → Prop} (h : kb_X11_register_37 L  S xs0 Q1) (hQ : ∀ (v : Int32) (K : c_S), Q1 v K → Q (some (.int v)) (c_E L K T)) : wb_X11_register_37  (c_E L S T) xs0 Q := by
  unfold wb_X11_register_37
  unfold kb_X11_register_37 at h
  try simp only [true_and, Option.some.injEq, exists_eq_left', c_xm, c_xn, c_xs]
  exact hQ _ _ h
def kb_X11_register_26 (L : c_L) (S : c_S) (Q : Int32 → c_S → Prop) : Prop := kb_X11_register_37 L S (0 : Int32) Q
set_option maxRecDepth 100000 in
set_option maxHeartbeats 4000000 in
theorem ub_X11_register_26 {L : c_L} {T : q_S} (g : c_G L T) (S : c_S)  {Q1 : Int32 → c_S → Prop} {Q : Option Value → q_S → Prop} (h : kb_X11_register_26 L  S Q1) (hQ : ∀ (v : Int32) (K : c_S), Q1 v K → Q (some (.int v)) (c_E L K T)) : wb_X11_register_26  (c_E L S T) Q := by
  unfold wb_X11_register_26
  unfold kb_X11_register_26 at h
  try simp only [true_and, Option.some.injEq, exists_eq_left', c_xm, c_xn, c_xs]
  exact ub_X11_register_37 g _ _  h hQ
def km_X11_register (L : c_L) (S : c_S) (a0 : Nat) (x1 : Int32) (x2 : Int32) (x3 : Int32) (Q : Int32 → c_S → Prop) : Prop := km_X6_processAt L S a0 x1 x2 (fun r7_ S6_ => ((r7_ = none → (kb_X11_register_26 L S6_ Q)) ∧ (¬ r7_ = none → ((x3 < 0 → (kb_X11_register_26 L S6_ Q)) ∧ (¬ x3 < 0 → ((x3 ≤ (31 : Int32) → (∃ a11_ : Nat, r7_ = some a11_ ∧ (c_mk L 7 a11_ ∧ (vp_in x3 32 ∧ (kb_X11_register_37 L S6_ (c_A S6_ 1411 a11_ x3.toNatClampNeg) Q))))) ∧ (¬ x3 ≤ (31 : Int32) → (kb_X11_register_26 L S6_ Q))))))))
set_option maxRecDepth 100000 in
set_option maxHeartbeats 4000000 in
theorem um_X11_register {L : c_L} {T : q_S} (g : c_G L T) (S : c_S) (a0 : Nat) (x1 : Int32) (x2 : Int32) (x3 : Int32) (m_a0 : c_mk L 11 a0) {Q1 : Int32 → c_S → Prop} {Q : Option Value → q_S → Prop} (h : km_X11_register L  S a0 x1 x2 x3 Q1) (hQ : ∀ (v : Int32) (K : c_S), Q1 v K → Q (some (.int v)) (c_E L K T)) : wm_X11_register  (c_E L S T) (c_ob L 11 a0) x1 x2 x3 Q := by
  unfold wm_X11_register
  unfold km_X11_register at h
  try simp only [c_gk g m_a0 12 rfl, true_and, Option.some.injEq, exists_eq_left', c_xm, c_xn, c_xs]
  have n2201_a0 := c_gO g 2201 6 rfl (by decide) m_a0
  try simp only [c_gk g m_a0 12 rfl, c_gk g n2201_a0 7 rfl, c_gp g 2201 6 rfl rfl (by decide) m_a0, true_and, Option.some.injEq, exists_eq_left', c_xm, c_xn, c_xs]
  refine um_X6_processAt g _ a0 _ _ n2201_a0 h (fun r7_ S6_ h => ?_)
  refine ⟨_, rfl, ?_⟩
  try simp only [c_gk g m_a0 12 rfl, c_gk g n2201_a0 7 rfl, c_gp g 2201 6 rfl rfl (by decide) m_a0, true_and, Option.some.injEq, exists_eq_left', c_xm, c_xn, c_xs]
  refine ⟨fun hc => ?_, fun hc => ?_⟩
  · have h := h.1 hc
    exact ub_X11_register_26 g _  h hQ
  · have h := h.2 hc
    refine ⟨fun hc => ?_, fun hc => ?_⟩
    · have h := h.1 hc
      exact ub_X11_register_26 g _  h hQ
    · have h := h.2 hc
      refine ⟨fun hc => ?_, fun hc => ?_⟩
      · have h := h.1 hc
        obtain ⟨a11_, e_a11_, m_a11_, h⟩ := h
        refine ⟨a11_, e_a11_, ?_⟩
        try simp only [c_gk g m_a0 12 rfl, c_gk g n2201_a0 7 rfl, c_gk g m_a11_ 8 rfl, c_gp g 2201 6 rfl rfl (by decide) m_a0, true_and, Option.some.injEq, exists_eq_left', c_xm, c_xn, c_xs]
        have n1411_a11_ := c_gA g 1411 rfl (by decide) m_a11_
        try simp only [c_gk g m_a0 12 rfl, c_gk g n2201_a0 7 rfl, c_gk g m_a11_ 8 rfl, c_gr g n1411_a11_ 21 rfl, c_gN g n1411_a11_ 32 (by decide), c_eA n1411_a11_, c_eAs (c_gw g) n1411_a11_, c_gp g 2201 6 rfl rfl (by decide) m_a0, c_ga g 1411 rfl rfl (by decide) m_a11_, true_and, Option.some.injEq, exists_eq_left', c_xm, c_xn, c_xs]
        refine ⟨h.1, ?_⟩
        have h := h.2
        exact ub_X11_register_37 g _ _  h hQ
      · have h := h.2 hc
        exact ub_X11_register_26 g _  h hQ
def kb_X11_state_137 (L : c_L) (S : c_S) (xs0 : Int32) (Q : Int32 → c_S → Prop) : Prop := Q xs0 S
set_option maxRecDepth 100000 in
set_option maxHeartbeats 4000000 in
theorem ub_X11_state_137 {L : c_L} {T : q_S} (g : c_G L T) (S : c_S) (xs0 : Int32)  {Q1 : Int32 → c_S → Prop} {Q : Option Value → q_S → Prop} (h : kb_X11_state_137 L  S xs0 Q1) (hQ : ∀ (v : Int32) (K : c_S), Q1 v K → Q (some (.int v)) (c_E L K T)) : wb_X11_state_137  (c_E L S T) xs0 Q := by
  unfold wb_X11_state_137
  unfold kb_X11_state_137 at h
  try simp only [true_and, Option.some.injEq, exists_eq_left', c_xm, c_xn, c_xs]
  exact hQ _ _ h
def kb_X11_state_123 (L : c_L) (S : c_S) (xs0 : Int32) (Q : Int32 → c_S → Prop) : Prop := Q xs0 S
set_option maxRecDepth 100000 in
set_option maxHeartbeats 4000000 in
theorem ub_X11_state_123 {L : c_L} {T : q_S} (g : c_G L T) (S : c_S) (xs0 : Int32)  {Q1 : Int32 → c_S → Prop} {Q : Option Value → q_S → Prop} (h : kb_X11_state_123 L  S xs0 Q1) (hQ : ∀ (v : Int32) (K : c_S), Q1 v K → Q (some (.int v)) (c_E L K T)) : wb_X11_state_123  (c_E L S T) xs0 Q := by
  unfold wb_X11_state_123
  unfold kb_X11_state_123 at h
  try simp only [true_and, Option.some.injEq, exists_eq_left', c_xm, c_xn, c_xs]
  exact hQ _ _ h
def km_X11_state (L : c_L) (S : c_S) (a0 : Nat) (x1 : Int32) (x2 : Int32) (x3 : Int32) (Q : Int32 → c_S → Prop) : Prop := km_X6_processAt L S a0 x1 x2 (fun r7_ S6_ => ((¬ r7_ = none → ((x3.toInt < 0 ∨ 8 < x3.toInt → (Q (-1 : Int32) S6_)) ∧ (x3 = (0 : Int32) → (∃ a9_ : Nat, r7_ = some a9_ ∧ (c_mk L 7 a9_ ∧ (Q (c_I S6_ 1409 a9_) S6_)))) ∧ (x3 = (1 : Int32) → (∃ a12_ : Nat, r7_ = some a12_ ∧ (c_mk L 7 a12_ ∧ (Q (c_I S6_ 1410 a12_) S6_)))) ∧ (x3 = (2 : Int32) → (∃ a15_ : Nat, r7_ = some a15_ ∧ (c_mk L 7 a15_ ∧ (Q (c_I S6_ 1403 a15_) S6_)))) ∧ (x3 = (3 : Int32) → (∃ a18_ : Nat, r7_ = some a18_ ∧ (c_mk L 7 a18_ ∧ (Q (c_I S6_ 1412 a18_) S6_)))) ∧ (x3 = (4 : Int32) → (∃ a21_ : Nat, r7_ = some a21_ ∧ (c_mk L 7 a21_ ∧ (Q (c_I S6_ 1413 a21_) S6_)))) ∧ (x3 = (5 : Int32) → (∃ a24_ : Nat, r7_ = some a24_ ∧ (c_mk L 7 a24_ ∧ (Q (c_I S6_ 1414 a24_) S6_)))) ∧ (x3 = (6 : Int32) → (∃ a27_ : Nat, r7_ = some a27_ ∧ (c_mk L 7 a27_ ∧ (Q (c_I S6_ 1415 a27_) S6_)))) ∧ (x3 = (7 : Int32) → (∃ a30_ : Nat, r7_ = some a30_ ∧ (c_mk L 7 a30_ ∧ (((c_I S6_ 1407 a30_) = 0 → (kb_X11_state_123 L S6_ (0 : Int32) Q)) ∧ (¬ (c_I S6_ 1407 a30_) = 0 → (kb_X11_state_123 L S6_ (1 : Int32) Q)))))) ∧ (x3 = (8 : Int32) → (∃ a34_ : Nat, r7_ = some a34_ ∧ (c_mk L 7 a34_ ∧ (((c_I S6_ 1416 a34_) = 0 → (kb_X11_state_137 L S6_ (0 : Int32) Q)) ∧ (¬ (c_I S6_ 1416 a34_) = 0 → (kb_X11_state_137 L S6_ (1 : Int32) Q)))))))) ∧ (r7_ = none → (Q (-1 : Int32) S6_))))
set_option maxRecDepth 100000 in
set_option maxHeartbeats 4000000 in
theorem um_X11_state {L : c_L} {T : q_S} (g : c_G L T) (S : c_S) (a0 : Nat) (x1 : Int32) (x2 : Int32) (x3 : Int32) (m_a0 : c_mk L 11 a0) {Q1 : Int32 → c_S → Prop} {Q : Option Value → q_S → Prop} (h : km_X11_state L  S a0 x1 x2 x3 Q1) (hQ : ∀ (v : Int32) (K : c_S), Q1 v K → Q (some (.int v)) (c_E L K T)) : wm_X11_state  (c_E L S T) (c_ob L 11 a0) x1 x2 x3 Q := by
  unfold wm_X11_state
  unfold km_X11_state at h
  try simp only [c_gk g m_a0 12 rfl, true_and, Option.some.injEq, exists_eq_left', c_xm, c_xn, c_xs]
  have n2201_a0 := c_gO g 2201 6 rfl (by decide) m_a0
  try simp only [c_gk g m_a0 12 rfl, c_gk g n2201_a0 7 rfl, c_gp g 2201 6 rfl rfl (by decide) m_a0, true_and, Option.some.injEq, exists_eq_left', c_xm, c_xn, c_xs]
  refine um_X6_processAt g _ a0 _ _ n2201_a0 h (fun r7_ S6_ h => ?_)
  refine ⟨_, rfl, ?_⟩
  try simp only [c_gk g m_a0 12 rfl, c_gk g n2201_a0 7 rfl, c_gp g 2201 6 rfl rfl (by decide) m_a0, true_and, Option.some.injEq, exists_eq_left', c_xm, c_xn, c_xs]
  refine ⟨fun hc => ?_, fun hc => ?_⟩
  · have h := h.1 hc
    refine ⟨fun hc => ?_, fun hc => ?_, fun hc => ?_, fun hc => ?_, fun hc => ?_, fun hc => ?_, fun hc => ?_, fun hc => ?_, fun hc => ?_, fun hc => ?_⟩
    · have h := h.1 hc
      exact hQ _ _ h
    · have h := h.2.1 hc
      obtain ⟨a9_, e_a9_, m_a9_, h⟩ := h
      refine ⟨a9_, e_a9_, ?_⟩
      try simp only [c_gk g m_a0 12 rfl, c_gk g n2201_a0 7 rfl, c_gk g m_a9_ 8 rfl, c_gp g 2201 6 rfl rfl (by decide) m_a0, c_eI (f := 1403) m_a9_ rfl, c_eI (f := 1407) m_a9_ rfl, c_eI (f := 1409) m_a9_ rfl, c_eI (f := 1410) m_a9_ rfl, c_eI (f := 1412) m_a9_ rfl, c_eI (f := 1413) m_a9_ rfl, c_eI (f := 1414) m_a9_ rfl, c_eI (f := 1415) m_a9_ rfl, c_eI (f := 1416) m_a9_ rfl, true_and, Option.some.injEq, exists_eq_left', c_xm, c_xn, c_xs]
      exact hQ _ _ h
    · have h := h.2.2.1 hc
      obtain ⟨a12_, e_a12_, m_a12_, h⟩ := h
      refine ⟨a12_, e_a12_, ?_⟩
      try simp only [c_gk g m_a0 12 rfl, c_gk g n2201_a0 7 rfl, c_gk g m_a12_ 8 rfl, c_gp g 2201 6 rfl rfl (by decide) m_a0, c_eI (f := 1403) m_a12_ rfl, c_eI (f := 1407) m_a12_ rfl, c_eI (f := 1409) m_a12_ rfl, c_eI (f := 1410) m_a12_ rfl, c_eI (f := 1412) m_a12_ rfl, c_eI (f := 1413) m_a12_ rfl, c_eI (f := 1414) m_a12_ rfl, c_eI (f := 1415) m_a12_ rfl, c_eI (f := 1416) m_a12_ rfl, true_and, Option.some.injEq, exists_eq_left', c_xm, c_xn, c_xs]
      exact hQ _ _ h
    · have h := h.2.2.2.1 hc
      obtain ⟨a15_, e_a15_, m_a15_, h⟩ := h
      refine ⟨a15_, e_a15_, ?_⟩
      try simp only [c_gk g m_a0 12 rfl, c_gk g n2201_a0 7 rfl, c_gk g m_a15_ 8 rfl, c_gp g 2201 6 rfl rfl (by decide) m_a0, c_eI (f := 1403) m_a15_ rfl, c_eI (f := 1407) m_a15_ rfl, c_eI (f := 1409) m_a15_ rfl, c_eI (f := 1410) m_a15_ rfl, c_eI (f := 1412) m_a15_ rfl, c_eI (f := 1413) m_a15_ rfl, c_eI (f := 1414) m_a15_ rfl, c_eI (f := 1415) m_a15_ rfl, c_eI (f := 1416) m_a15_ rfl, true_and, Option.some.injEq, exists_eq_left', c_xm, c_xn, c_xs]
      exact hQ _ _ h
    · have h := h.2.2.2.2.1 hc
      obtain ⟨a18_, e_a18_, m_a18_, h⟩ := h
      refine ⟨a18_, e_a18_, ?_⟩
      try simp only [c_gk g m_a0 12 rfl, c_gk g n2201_a0 7 rfl, c_gk g m_a18_ 8 rfl, c_gp g 2201 6 rfl rfl (by decide) m_a0, c_eI (f := 1403) m_a18_ rfl, c_eI (f := 1407) m_a18_ rfl, c_eI (f := 1409) m_a18_ rfl, c_eI (f := 1410) m_a18_ rfl, c_eI (f := 1412) m_a18_ rfl, c_eI (f := 1413) m_a18_ rfl, c_eI (f := 1414) m_a18_ rfl, c_eI (f := 1415) m_a18_ rfl, c_eI (f := 1416) m_a18_ rfl, true_and, Option.some.injEq, exists_eq_left', c_xm, c_xn, c_xs]
      exact hQ _ _ h
    · have h := h.2.2.2.2.2.1 hc
      obtain ⟨a21_, e_a21_, m_a21_, h⟩ := h
      refine ⟨a21_, e_a21_, ?_⟩
      try simp only [c_gk g m_a0 12 rfl, c_gk g n2201_a0 7 rfl, c_gk g m_a21_ 8 rfl, c_gp g 2201 6 rfl rfl (by decide) m_a0, c_eI (f := 1403) m_a21_ rfl, c_eI (f := 1407) m_a21_ rfl, c_eI (f := 1409) m_a21_ rfl, c_eI (f := 1410) m_a21_ rfl, c_eI (f := 1412) m_a21_ rfl, c_eI (f := 1413) m_a21_ rfl, c_eI (f := 1414) m_a21_ rfl, c_eI (f := 1415) m_a21_ rfl, c_eI (f := 1416) m_a21_ rfl, true_and, Option.some.injEq, exists_eq_left', c_xm, c_xn, c_xs]
      exact hQ _ _ h
    · have h := h.2.2.2.2.2.2.1 hc
      obtain ⟨a24_, e_a24_, m_a24_, h⟩ := h
      refine ⟨a24_, e_a24_, ?_⟩
      try simp only [c_gk g m_a0 12 rfl, c_gk g n2201_a0 7 rfl, c_gk g m_a24_ 8 rfl, c_gp g 2201 6 rfl rfl (by decide) m_a0, c_eI (f := 1403) m_a24_ rfl, c_eI (f := 1407) m_a24_ rfl, c_eI (f := 1409) m_a24_ rfl, c_eI (f := 1410) m_a24_ rfl, c_eI (f := 1412) m_a24_ rfl, c_eI (f := 1413) m_a24_ rfl, c_eI (f := 1414) m_a24_ rfl, c_eI (f := 1415) m_a24_ rfl, c_eI (f := 1416) m_a24_ rfl, true_and, Option.some.injEq, exists_eq_left', c_xm, c_xn, c_xs]
      exact hQ _ _ h
    · have h := h.2.2.2.2.2.2.2.1 hc
      obtain ⟨a27_, e_a27_, m_a27_, h⟩ := h
      refine ⟨a27_, e_a27_, ?_⟩
      try simp only [c_gk g m_a0 12 rfl, c_gk g n2201_a0 7 rfl, c_gk g m_a27_ 8 rfl, c_gp g 2201 6 rfl rfl (by decide) m_a0, c_eI (f := 1403) m_a27_ rfl, c_eI (f := 1407) m_a27_ rfl, c_eI (f := 1409) m_a27_ rfl, c_eI (f := 1410) m_a27_ rfl, c_eI (f := 1412) m_a27_ rfl, c_eI (f := 1413) m_a27_ rfl, c_eI (f := 1414) m_a27_ rfl, c_eI (f := 1415) m_a27_ rfl, c_eI (f := 1416) m_a27_ rfl, true_and, Option.some.injEq, exists_eq_left', c_xm, c_xn, c_xs]
      exact hQ _ _ h
    · have h := h.2.2.2.2.2.2.2.2.1 hc
      obtain ⟨a30_, e_a30_, m_a30_, h⟩ := h
      refine ⟨a30_, e_a30_, ?_⟩
      try simp only [c_gk g m_a0 12 rfl, c_gk g n2201_a0 7 rfl, c_gk g m_a30_ 8 rfl, c_gp g 2201 6 rfl rfl (by decide) m_a0, c_eI (f := 1403) m_a30_ rfl, c_eI (f := 1407) m_a30_ rfl, c_eI (f := 1409) m_a30_ rfl, c_eI (f := 1410) m_a30_ rfl, c_eI (f := 1412) m_a30_ rfl, c_eI (f := 1413) m_a30_ rfl, c_eI (f := 1414) m_a30_ rfl, c_eI (f := 1415) m_a30_ rfl, c_eI (f := 1416) m_a30_ rfl, true_and, Option.some.injEq, exists_eq_left', c_xm, c_xn, c_xs]
      refine ⟨fun hc => ?_, fun hc => ?_⟩
      · have h := h.1 hc
        exact ub_X11_state_123 g _ _  h hQ
      · have h := h.2 hc
        exact ub_X11_state_123 g _ _  h hQ
    · have h := h.2.2.2.2.2.2.2.2.2 hc
      obtain ⟨a34_, e_a34_, m_a34_, h⟩ := h
      refine ⟨a34_, e_a34_, ?_⟩
      try simp only [c_gk g m_a0 12 rfl, c_gk g n2201_a0 7 rfl, c_gk g m_a34_ 8 rfl, c_gp g 2201 6 rfl rfl (by decide) m_a0, c_eI (f := 1403) m_a34_ rfl, c_eI (f := 1407) m_a34_ rfl, c_eI (f := 1409) m_a34_ rfl, c_eI (f := 1410) m_a34_ rfl, c_eI (f := 1412) m_a34_ rfl, c_eI (f := 1413) m_a34_ rfl, c_eI (f := 1414) m_a34_ rfl, c_eI (f := 1415) m_a34_ rfl, c_eI (f := 1416) m_a34_ rfl, true_and, Option.some.injEq, exists_eq_left', c_xm, c_xn, c_xs]
      refine ⟨fun hc => ?_, fun hc => ?_⟩
      · have h := h.1 hc
        exact ub_X11_state_137 g _ _  h hQ
      · have h := h.2 hc
        exact ub_X11_state_137 g _ _  h hQ
  · have h := h.2 hc
    exact hQ _ _ h
def kb_X11_partition_156 (L : c_L) (S : c_S) (xs0 : Int32) (Q : Int32 → c_S → Prop) : Prop := Q xs0 S
set_option maxRecDepth 100000 in
set_option maxHeartbeats 4000000 in
theorem ub_X11_partition_156 {L : c_L} {T : q_S} (g : c_G L T) (S : c_S) (xs0 : Int32)  {Q1 : Int32 → c_S → Prop} {Q : Option Value → q_S → Prop} (h : kb_X11_partition_156 L  S xs0 Q1) (hQ : ∀ (v : Int32) (K : c_S), Q1 v K → Q (some (.int v)) (c_E L K T)) : wb_X11_partition_156  (c_E L S T) xs0 Q := by
  unfold wb_X11_partition_156
  unfold kb_X11_partition_156 at h
  try simp only [true_and, Option.some.injEq, exists_eq_left', c_xm, c_xn, c_xs]
  exact hQ _ _ h
def kb_X11_partition_35 (L : c_L) (S : c_S) (x2 : Int32) (r3 : Option Nat) (Q : Int32 → c_S → Prop) : Prop := (x2.toInt < 0 ∨ 13 < x2.toInt → (Q (-1 : Int32) S)) ∧ (x2 = (0 : Int32) → (∃ a1_ : Nat, r3 = some a1_ ∧ (c_mk L 5 a1_ ∧ (Q (c_I S 1009 a1_) S)))) ∧ (x2 = (1 : Int32) → (∃ a4_ : Nat, r3 = some a4_ ∧ (c_mk L 5 a4_ ∧ (Q (c_I S 800 a4_) S)))) ∧ (x2 = (2 : Int32) → (∃ a10_ : Nat, r3 = some a10_ ∧ (c_mk L 5 a10_ ∧ (Q (c_I S 1004 a10_) S)))) ∧ (x2 = (3 : Int32) ∨ x2 = (4 : Int32) ∨ x2 = (5 : Int32) ∨ x2 = (6 : Int32) ∨ x2 = (7 : Int32) → (Q (-1 : Int32) S)) ∧ (x2 = (8 : Int32) → (∃ a13_ : Nat, r3 = some a13_ ∧ (c_mk L 5 a13_ ∧ (Q (c_I S 1011 a13_) S)))) ∧ (x2 = (9 : Int32) → (∃ a16_ : Nat, r3 = some a16_ ∧ (c_mk L 5 a16_ ∧ (Q (c_I S 1013 a16_) S)))) ∧ (x2 = (10 : Int32) → (∃ a19_ : Nat, r3 = some a19_ ∧ (c_mk L 5 a19_ ∧ (km_X5_chosen L S a19_ (fun r24_ S23_ => ((¬ r24_ = none → (∃ a26_ : Nat, r24_ = some a26_ ∧ (c_mk L 7 a26_ ∧ (kb_X11_partition_156 L S23_ (c_I S23_ 1400 a26_) Q)))) ∧ (r24_ = none → (kb_X11_partition_156 L S23_ (-1 : Int32) Q)))))))) ∧ (x2 = (11 : Int32) → (∃ a29_ : Nat, r3 = some a29_ ∧ (c_mk L 5 a29_ ∧ (Q (c_I S 1010 a29_) S)))) ∧ (x2 = (12 : Int32) → (∃ a32_ : Nat, r3 = some a32_ ∧ (c_mk L 5 a32_ ∧ (Q (c_I S 803 a32_) S)))) ∧ (x2 = (13 : Int32) → (∃ a38_ : Nat, r3 = some a38_ ∧ (c_mk L 5 a38_ ∧ (Q (c_I S 1012 a38_) S))))
set_option maxRecDepth 100000 in
set_option maxHeartbeats 4000000 in
theorem ub_X11_partition_35 {L : c_L} {T : q_S} (g : c_G L T) (S : c_S) (x2 : Int32) (r3 : Option Nat)  {Q1 : Int32 → c_S → Prop} {Q : Option Value → q_S → Prop} (h : kb_X11_partition_35 L  S x2 r3 Q1) (hQ : ∀ (v : Int32) (K : c_S), Q1 v K → Q (some (.int v)) (c_E L K T)) : wb_X11_partition_35  (c_E L S T) x2 (r3.map (c_ob L 5)) Q := by
  unfold wb_X11_partition_35
  unfold kb_X11_partition_35 at h
  try simp only [true_and, Option.some.injEq, exists_eq_left', c_xm, c_xn, c_xs]
  refine ⟨fun hc => ?_, fun hc => ?_, fun hc => ?_, fun hc => ?_, fun hc => ?_, fun hc => ?_, fun hc => ?_, fun hc => ?_, fun hc => ?_, fun hc => ?_, fun hc => ?_⟩
  · have h := h.1 hc
    exact hQ _ _ h
  · have h := h.2.1 hc
    obtain ⟨a1_, e_a1_, m_a1_, h⟩ := h
    refine ⟨a1_, e_a1_, ?_⟩
    try simp only [c_gk g m_a1_ 6 rfl, c_eI (f := 1004) m_a1_ rfl, c_eI (f := 1009) m_a1_ rfl, c_eI (f := 1010) m_a1_ rfl, c_eI (f := 1011) m_a1_ rfl, c_eI (f := 1012) m_a1_ rfl, c_eI (f := 1013) m_a1_ rfl, true_and, Option.some.injEq, exists_eq_left', c_xm, c_xn, c_xs]
    exact hQ _ _ h
  · have h := h.2.2.1 hc
    obtain ⟨a4_, e_a4_, m_a4_, h⟩ := h
    refine ⟨a4_, e_a4_, ?_⟩
    try simp only [c_gk g m_a4_ 6 rfl, c_eI (f := 1004) m_a4_ rfl, c_eI (f := 1009) m_a4_ rfl, c_eI (f := 1010) m_a4_ rfl, c_eI (f := 1011) m_a4_ rfl, c_eI (f := 1012) m_a4_ rfl, c_eI (f := 1013) m_a4_ rfl, true_and, Option.some.injEq, exists_eq_left', c_xm, c_xn, c_xs]
    have n1002_a4_ := c_gO g 1002 4 rfl (by decide) m_a4_
    try simp only [c_gk g m_a4_ 6 rfl, c_gk g n1002_a4_ 5 rfl, c_gp g 1002 4 rfl rfl (by decide) m_a4_, c_eI (f := 1004) m_a4_ rfl, c_eI (f := 1009) m_a4_ rfl, c_eI (f := 1010) m_a4_ rfl, c_eI (f := 1011) m_a4_ rfl, c_eI (f := 1012) m_a4_ rfl, c_eI (f := 1013) m_a4_ rfl, c_eI (f := 800) n1002_a4_ rfl, c_eI (f := 803) n1002_a4_ rfl, true_and, Option.some.injEq, exists_eq_left', c_xm, c_xn, c_xs]
    exact hQ _ _ h
  · have h := h.2.2.2.1 hc
    obtain ⟨a10_, e_a10_, m_a10_, h⟩ := h
    refine ⟨a10_, e_a10_, ?_⟩
    try simp only [c_gk g m_a10_ 6 rfl, c_eI (f := 1004) m_a10_ rfl, c_eI (f := 1009) m_a10_ rfl, c_eI (f := 1010) m_a10_ rfl, c_eI (f := 1011) m_a10_ rfl, c_eI (f := 1012) m_a10_ rfl, c_eI (f := 1013) m_a10_ rfl, true_and, Option.some.injEq, exists_eq_left', c_xm, c_xn, c_xs]
    exact hQ _ _ h
  · have h := h.2.2.2.2.1 hc
    exact hQ _ _ h
  · have h := h.2.2.2.2.2.1 hc
    obtain ⟨a13_, e_a13_, m_a13_, h⟩ := h
    refine ⟨a13_, e_a13_, ?_⟩
    try simp only [c_gk g m_a13_ 6 rfl, c_eI (f := 1004) m_a13_ rfl, c_eI (f := 1009) m_a13_ rfl, c_eI (f := 1010) m_a13_ rfl, c_eI (f := 1011) m_a13_ rfl, c_eI (f := 1012) m_a13_ rfl, c_eI (f := 1013) m_a13_ rfl, true_and, Option.some.injEq, exists_eq_left', c_xm, c_xn, c_xs]
    exact hQ _ _ h
  · have h := h.2.2.2.2.2.2.1 hc
    obtain ⟨a16_, e_a16_, m_a16_, h⟩ := h
    refine ⟨a16_, e_a16_, ?_⟩
    try simp only [c_gk g m_a16_ 6 rfl, c_eI (f := 1004) m_a16_ rfl, c_eI (f := 1009) m_a16_ rfl, c_eI (f := 1010) m_a16_ rfl, c_eI (f := 1011) m_a16_ rfl, c_eI (f := 1012) m_a16_ rfl, c_eI (f := 1013) m_a16_ rfl, true_and, Option.some.injEq, exists_eq_left', c_xm, c_xn, c_xs]
    exact hQ _ _ h
  · have h := h.2.2.2.2.2.2.2.1 hc
    obtain ⟨a19_, e_a19_, m_a19_, h⟩ := h
    refine ⟨a19_, e_a19_, ?_⟩
    try simp only [c_gk g m_a19_ 6 rfl, c_eI (f := 1004) m_a19_ rfl, c_eI (f := 1009) m_a19_ rfl, c_eI (f := 1010) m_a19_ rfl, c_eI (f := 1011) m_a19_ rfl, c_eI (f := 1012) m_a19_ rfl, c_eI (f := 1013) m_a19_ rfl, true_and, Option.some.injEq, exists_eq_left', c_xm, c_xn, c_xs]
    refine um_X5_chosen g _ a19_ m_a19_ h (fun r24_ S23_ h => ?_)
    refine ⟨_, rfl, ?_⟩
    try simp only [c_gk g m_a19_ 6 rfl, c_eI (f := 1004) m_a19_ rfl, c_eI (f := 1009) m_a19_ rfl, c_eI (f := 1010) m_a19_ rfl, c_eI (f := 1011) m_a19_ rfl, c_eI (f := 1012) m_a19_ rfl, c_eI (f := 1013) m_a19_ rfl, true_and, Option.some.injEq, exists_eq_left', c_xm, c_xn, c_xs]
    refine ⟨fun hc => ?_, fun hc => ?_⟩
    · have h := h.1 hc
      obtain ⟨a26_, e_a26_, m_a26_, h⟩ := h
      refine ⟨a26_, e_a26_, ?_⟩
      try simp only [c_gk g m_a19_ 6 rfl, c_gk g m_a26_ 8 rfl, c_eI (f := 1004) m_a19_ rfl, c_eI (f := 1009) m_a19_ rfl, c_eI (f := 1010) m_a19_ rfl, c_eI (f := 1011) m_a19_ rfl, c_eI (f := 1012) m_a19_ rfl, c_eI (f := 1013) m_a19_ rfl, c_eI (f := 1400) m_a26_ rfl, true_and, Option.some.injEq, exists_eq_left', c_xm, c_xn, c_xs]
      exact ub_X11_partition_156 g _ _  h hQ
    · have h := h.2 hc
      exact ub_X11_partition_156 g _ _  h hQ
  · have h := h.2.2.2.2.2.2.2.2.1 hc
    obtain ⟨a29_, e_a29_, m_a29_, h⟩ := h
    refine ⟨a29_, e_a29_, ?_⟩
    try simp only [c_gk g m_a29_ 6 rfl, c_eI (f := 1004) m_a29_ rfl, c_eI (f := 1009) m_a29_ rfl, c_eI (f := 1010) m_a29_ rfl, c_eI (f := 1011) m_a29_ rfl, c_eI (f := 1012) m_a29_ rfl, c_eI (f := 1013) m_a29_ rfl, true_and, Option.some.injEq, exists_eq_left', c_xm, c_xn, c_xs]
    exact hQ _ _ h
  · have h := h.2.2.2.2.2.2.2.2.2.1 hc
    obtain ⟨a32_, e_a32_, m_a32_, h⟩ := h
    refine ⟨a32_, e_a32_, ?_⟩
    try simp only [c_gk g m_a32_ 6 rfl, c_eI (f := 1004) m_a32_ rfl, c_eI (f := 1009) m_a32_ rfl, c_eI (f := 1010) m_a32_ rfl, c_eI (f := 1011) m_a32_ rfl, c_eI (f := 1012) m_a32_ rfl, c_eI (f := 1013) m_a32_ rfl, true_and, Option.some.injEq, exists_eq_left', c_xm, c_xn, c_xs]
    have n1002_a32_ := c_gO g 1002 4 rfl (by decide) m_a32_
    try simp only [c_gk g m_a32_ 6 rfl, c_gk g n1002_a32_ 5 rfl, c_gp g 1002 4 rfl rfl (by decide) m_a32_, c_eI (f := 1004) m_a32_ rfl, c_eI (f := 1009) m_a32_ rfl, c_eI (f := 1010) m_a32_ rfl, c_eI (f := 1011) m_a32_ rfl, c_eI (f := 1012) m_a32_ rfl, c_eI (f := 1013) m_a32_ rfl, c_eI (f := 800) n1002_a32_ rfl, c_eI (f := 803) n1002_a32_ rfl, true_and, Option.some.injEq, exists_eq_left', c_xm, c_xn, c_xs]
    exact hQ _ _ h
  · have h := h.2.2.2.2.2.2.2.2.2.2 hc
    obtain ⟨a38_, e_a38_, m_a38_, h⟩ := h
    refine ⟨a38_, e_a38_, ?_⟩
    try simp only [c_gk g m_a38_ 6 rfl, c_eI (f := 1004) m_a38_ rfl, c_eI (f := 1009) m_a38_ rfl, c_eI (f := 1010) m_a38_ rfl, c_eI (f := 1011) m_a38_ rfl, c_eI (f := 1012) m_a38_ rfl, c_eI (f := 1013) m_a38_ rfl, true_and, Option.some.injEq, exists_eq_left', c_xm, c_xn, c_xs]
    exact hQ _ _ h
def km_X11_partition (L : c_L) (S : c_S) (a0 : Nat) (x1 : Int32) (x2 : Int32) (Q : Int32 → c_S → Prop) : Prop := km_X6_partitionAt L S a0 x1 (fun r49_ S48_ => ((¬ r49_ = none → ((x2 < (3 : Int32) → (kb_X11_partition_35 L S48_ x2 r49_ Q)) ∧ (¬ x2 < (3 : Int32) → (((8 : Int32) ≤ x2 → (kb_X11_partition_35 L S48_ x2 r49_ Q)) ∧ (¬ (8 : Int32) ≤ x2 → (∃ a53_ : Nat, r49_ = some a53_ ∧ (c_mk L 5 a53_ ∧ (vp_in (x2 - (3 : Int32)) 5 ∧ (Q (c_A S48_ 1006 a53_ (x2 - (3 : Int32)).toNatClampNeg) S48_))))))))) ∧ (r49_ = none → (Q (-1 : Int32) S48_))))
set_option maxRecDepth 100000 in
set_option maxHeartbeats 4000000 in
theorem um_X11_partition {L : c_L} {T : q_S} (g : c_G L T) (S : c_S) (a0 : Nat) (x1 : Int32) (x2 : Int32) (m_a0 : c_mk L 11 a0) {Q1 : Int32 → c_S → Prop} {Q : Option Value → q_S → Prop} (h : km_X11_partition L  S a0 x1 x2 Q1) (hQ : ∀ (v : Int32) (K : c_S), Q1 v K → Q (some (.int v)) (c_E L K T)) : wm_X11_partition  (c_E L S T) (c_ob L 11 a0) x1 x2 Q := by
  unfold wm_X11_partition
  unfold km_X11_partition at h
  try simp only [c_gk g m_a0 12 rfl, true_and, Option.some.injEq, exists_eq_left', c_xm, c_xn, c_xs]
  have n2201_a0 := c_gO g 2201 6 rfl (by decide) m_a0
  try simp only [c_gk g m_a0 12 rfl, c_gk g n2201_a0 7 rfl, c_gp g 2201 6 rfl rfl (by decide) m_a0, true_and, Option.some.injEq, exists_eq_left', c_xm, c_xn, c_xs]
  refine um_X6_partitionAt g _ a0 _ n2201_a0 h (fun r49_ S48_ h => ?_)
  refine ⟨_, rfl, ?_⟩
  try simp only [c_gk g m_a0 12 rfl, c_gk g n2201_a0 7 rfl, c_gp g 2201 6 rfl rfl (by decide) m_a0, true_and, Option.some.injEq, exists_eq_left', c_xm, c_xn, c_xs]
  refine ⟨fun hc => ?_, fun hc => ?_⟩
  · have h := h.1 hc
    refine ⟨fun hc => ?_, fun hc => ?_⟩
    · have h := h.1 hc
      exact ub_X11_partition_35 g _ _ r49_  h hQ
    · have h := h.2 hc
      refine ⟨fun hc => ?_, fun hc => ?_⟩
      · have h := h.1 hc
        exact ub_X11_partition_35 g _ _ r49_  h hQ
      · have h := h.2 hc
        obtain ⟨a53_, e_a53_, m_a53_, h⟩ := h
        refine ⟨a53_, e_a53_, ?_⟩
        try simp only [c_gk g m_a0 12 rfl, c_gk g n2201_a0 7 rfl, c_gk g m_a53_ 6 rfl, c_gp g 2201 6 rfl rfl (by decide) m_a0, true_and, Option.some.injEq, exists_eq_left', c_xm, c_xn, c_xs]
        have n1006_a53_ := c_gA g 1006 rfl (by decide) m_a53_
        try simp only [c_gk g m_a0 12 rfl, c_gk g n2201_a0 7 rfl, c_gk g m_a53_ 6 rfl, c_gr g n1006_a53_ 21 rfl, c_gN g n1006_a53_ 5 (by decide), c_eA n1006_a53_, c_eAs (c_gw g) n1006_a53_, c_gp g 2201 6 rfl rfl (by decide) m_a0, c_ga g 1006 rfl rfl (by decide) m_a53_, true_and, Option.some.injEq, exists_eq_left', c_xm, c_xn, c_xs]
        refine ⟨h.1, ?_⟩
        have h := h.2
        exact hQ _ _ h
  · have h := h.2 hc
    exact hQ _ _ h
def kb_X11_thing_37 (L : c_L) (S : c_S) (xs0 : Int32) (Q : Int32 → c_S → Prop) : Prop := Q xs0 S
set_option maxRecDepth 100000 in
set_option maxHeartbeats 4000000 in
theorem ub_X11_thing_37 {L : c_L} {T : q_S} (g : c_G L T) (S : c_S) (xs0 : Int32)  {Q1 : Int32 → c_S → Prop} {Q : Option Value → q_S → Prop} (h : kb_X11_thing_37 L  S xs0 Q1) (hQ : ∀ (v : Int32) (K : c_S), Q1 v K → Q (some (.int v)) (c_E L K T)) : wb_X11_thing_37  (c_E L S T) xs0 Q := by
  unfold wb_X11_thing_37
  unfold kb_X11_thing_37 at h
  try simp only [true_and, Option.some.injEq, exists_eq_left', c_xm, c_xn, c_xs]
  exact hQ _ _ h
def km_X11_thing (L : c_L) (S : c_S) (a0 : Nat) (x1 : Int32) (x2 : Int32) (x3 : Int32) (Q : Int32 → c_S → Prop) : Prop := km_X6_thingAt L S a0 x1 x2 x3 (fun r7_ S6_ => ((¬ r7_ = none → ((¬ x2 = (4 : Int32) → (∃ a10_ : Nat, r7_ = some a10_ ∧ (c_mk L 10 a10_ ∧ (km_X10_value L S6_ a10_ (fun x15_ S14_ => (kb_X11_thing_37 L S14_ x15_ Q)))))) ∧ (x2 = (4 : Int32) → (∃ a16_ : Nat, r7_ = some a16_ ∧ (c_mk L 10 a16_ ∧ (kb_X11_thing_37 L S6_ (c_I S6_ 2008 a16_) Q)))))) ∧ (r7_ = none → (Q (-1 : Int32) S6_))))
set_option maxRecDepth 100000 in
set_option maxHeartbeats 4000000 in
theorem um_X11_thing {L : c_L} {T : q_S} (g : c_G L T) (S : c_S) (a0 : Nat) (x1 : Int32) (x2 : Int32) (x3 : Int32) (m_a0 : c_mk L 11 a0) {Q1 : Int32 → c_S → Prop} {Q : Option Value → q_S → Prop} (h : km_X11_thing L  S a0 x1 x2 x3 Q1) (hQ : ∀ (v : Int32) (K : c_S), Q1 v K → Q (some (.int v)) (c_E L K T)) : wm_X11_thing  (c_E L S T) (c_ob L 11 a0) x1 x2 x3 Q := by
  unfold wm_X11_thing
  unfold km_X11_thing at h
  try simp only [c_gk g m_a0 12 rfl, true_and, Option.some.injEq, exists_eq_left', c_xm, c_xn, c_xs]
  have n2201_a0 := c_gO g 2201 6 rfl (by decide) m_a0
  try simp only [c_gk g m_a0 12 rfl, c_gk g n2201_a0 7 rfl, c_gp g 2201 6 rfl rfl (by decide) m_a0, true_and, Option.some.injEq, exists_eq_left', c_xm, c_xn, c_xs]
  refine um_X6_thingAt g _ a0 _ _ _ n2201_a0 h (fun r7_ S6_ h => ?_)
  refine ⟨_, rfl, ?_⟩
  try simp only [c_gk g m_a0 12 rfl, c_gk g n2201_a0 7 rfl, c_gp g 2201 6 rfl rfl (by decide) m_a0, true_and, Option.some.injEq, exists_eq_left', c_xm, c_xn, c_xs]
  refine ⟨fun hc => ?_, fun hc => ?_⟩
  · have h := h.1 hc
    refine ⟨fun hc => ?_, fun hc => ?_⟩
    · have h := h.1 hc
      obtain ⟨a10_, e_a10_, m_a10_, h⟩ := h
      refine ⟨a10_, e_a10_, ?_⟩
      try simp only [c_gk g m_a0 12 rfl, c_gk g n2201_a0 7 rfl, c_gk g m_a10_ 11 rfl, c_gp g 2201 6 rfl rfl (by decide) m_a0, c_eI (f := 2008) m_a10_ rfl, true_and, Option.some.injEq, exists_eq_left', c_xm, c_xn, c_xs]
      refine um_X10_value g _ a10_ m_a10_ h (fun x15_ S14_ h => ?_)
      refine ⟨_, rfl, ?_⟩
      try simp only [c_gk g m_a0 12 rfl, c_gk g n2201_a0 7 rfl, c_gk g m_a10_ 11 rfl, c_gp g 2201 6 rfl rfl (by decide) m_a0, c_eI (f := 2008) m_a10_ rfl, true_and, Option.some.injEq, exists_eq_left', c_xm, c_xn, c_xs]
      exact ub_X11_thing_37 g _ _  h hQ
    · have h := h.2 hc
      obtain ⟨a16_, e_a16_, m_a16_, h⟩ := h
      refine ⟨a16_, e_a16_, ?_⟩
      try simp only [c_gk g m_a0 12 rfl, c_gk g n2201_a0 7 rfl, c_gk g m_a16_ 11 rfl, c_gp g 2201 6 rfl rfl (by decide) m_a0, c_eI (f := 2008) m_a16_ rfl, true_and, Option.some.injEq, exists_eq_left', c_xm, c_xn, c_xs]
      exact ub_X11_thing_37 g _ _  h hQ
  · have h := h.2 hc
    exact hQ _ _ h
def kb_X11_waiting_25 (L : c_L) (S : c_S) (Q : Int32 → c_S → Prop) : Prop := Q (-1 : Int32) S
set_option maxRecDepth 100000 in
set_option maxHeartbeats 4000000 in
theorem ub_X11_waiting_25 {L : c_L} {T : q_S} (g : c_G L T) (S : c_S)  {Q1 : Int32 → c_S → Prop} {Q : Option Value → q_S → Prop} (h : kb_X11_waiting_25 L  S Q1) (hQ : ∀ (v : Int32) (K : c_S), Q1 v K → Q (some (.int v)) (c_E L K T)) : wb_X11_waiting_25  (c_E L S T) Q := by
  unfold wb_X11_waiting_25
  unfold kb_X11_waiting_25 at h
  try simp only [true_and, Option.some.injEq, exists_eq_left', c_xm, c_xn, c_xs]
  exact hQ _ _ h
def km_X11_waiting (L : c_L) (S : c_S) (a0 : Nat) (x1 : Int32) (x2 : Int32) (x3 : Int32) (Q : Int32 → c_S → Prop) : Prop := km_X6_partitionAt L S a0 x1 (fun r7_ S6_ => ((r7_ = none → (kb_X11_waiting_25 L S6_ Q)) ∧ (¬ r7_ = none → (∃ a9_ : Nat, r7_ = some a9_ ∧ (c_mk L 5 a9_ ∧ (km_X5_thingAt L S6_ a9_ x2 x3 (fun r14_ S13_ => ((¬ r14_ = none → (km_X5_countWaiting L S13_ a9_ ((x2 * (8 : Int32)) + x3) (fun x19_ S18_ => (Q x19_ S18_)))) ∧ (r14_ = none → (kb_X11_waiting_25 L S13_ Q))))))))))
set_option maxRecDepth 100000 in
set_option maxHeartbeats 4000000 in
theorem um_X11_waiting {L : c_L} {T : q_S} (g : c_G L T) (S : c_S) (a0 : Nat) (x1 : Int32) (x2 : Int32) (x3 : Int32) (m_a0 : c_mk L 11 a0) {Q1 : Int32 → c_S → Prop} {Q : Option Value → q_S → Prop} (h : km_X11_waiting L  S a0 x1 x2 x3 Q1) (hQ : ∀ (v : Int32) (K : c_S), Q1 v K → Q (some (.int v)) (c_E L K T)) : wm_X11_waiting  (c_E L S T) (c_ob L 11 a0) x1 x2 x3 Q := by
  unfold wm_X11_waiting
  unfold km_X11_waiting at h
  try simp only [c_gk g m_a0 12 rfl, true_and, Option.some.injEq, exists_eq_left', c_xm, c_xn, c_xs]
  have n2201_a0 := c_gO g 2201 6 rfl (by decide) m_a0
  try simp only [c_gk g m_a0 12 rfl, c_gk g n2201_a0 7 rfl, c_gp g 2201 6 rfl rfl (by decide) m_a0, true_and, Option.some.injEq, exists_eq_left', c_xm, c_xn, c_xs]
  refine um_X6_partitionAt g _ a0 _ n2201_a0 h (fun r7_ S6_ h => ?_)
  refine ⟨_, rfl, ?_⟩
  try simp only [c_gk g m_a0 12 rfl, c_gk g n2201_a0 7 rfl, c_gp g 2201 6 rfl rfl (by decide) m_a0, true_and, Option.some.injEq, exists_eq_left', c_xm, c_xn, c_xs]
  refine ⟨fun hc => ?_, fun hc => ?_⟩
  · have h := h.1 hc
    exact ub_X11_waiting_25 g _  h hQ
  · have h := h.2 hc
    obtain ⟨a9_, e_a9_, m_a9_, h⟩ := h
    refine ⟨a9_, e_a9_, ?_⟩
    try simp only [c_gk g m_a0 12 rfl, c_gk g n2201_a0 7 rfl, c_gk g m_a9_ 6 rfl, c_gp g 2201 6 rfl rfl (by decide) m_a0, true_and, Option.some.injEq, exists_eq_left', c_xm, c_xn, c_xs]
    refine um_X5_thingAt g _ a9_ _ _ m_a9_ h (fun r14_ S13_ h => ?_)
    refine ⟨_, rfl, ?_⟩
    try simp only [c_gk g m_a0 12 rfl, c_gk g n2201_a0 7 rfl, c_gk g m_a9_ 6 rfl, c_gp g 2201 6 rfl rfl (by decide) m_a0, true_and, Option.some.injEq, exists_eq_left', c_xm, c_xn, c_xs]
    refine ⟨fun hc => ?_, fun hc => ?_⟩
    · have h := h.1 hc
      refine um_X5_countWaiting g _ a9_ _ m_a9_ h (fun x19_ S18_ h => ?_)
      refine ⟨_, rfl, ?_⟩
      try simp only [c_gk g m_a0 12 rfl, c_gk g n2201_a0 7 rfl, c_gk g m_a9_ 6 rfl, c_gp g 2201 6 rfl rfl (by decide) m_a0, true_and, Option.some.injEq, exists_eq_left', c_xm, c_xn, c_xs]
      exact hQ _ _ h
    · have h := h.2 hc
      exact ub_X11_waiting_25 g _  h hQ
def kb_X11_region_31 (L : c_L) (S : c_S) (Q : Int32 → c_S → Prop) : Prop := Q (-1 : Int32) S
set_option maxRecDepth 100000 in
set_option maxHeartbeats 4000000 in
theorem ub_X11_region_31 {L : c_L} {T : q_S} (g : c_G L T) (S : c_S)  {Q1 : Int32 → c_S → Prop} {Q : Option Value → q_S → Prop} (h : kb_X11_region_31 L  S Q1) (hQ : ∀ (v : Int32) (K : c_S), Q1 v K → Q (some (.int v)) (c_E L K T)) : wb_X11_region_31  (c_E L S T) Q := by
  unfold wb_X11_region_31
  unfold kb_X11_region_31 at h
  try simp only [true_and, Option.some.injEq, exists_eq_left', c_xm, c_xn, c_xs]
  exact hQ _ _ h
def km_X11_region (L : c_L) (S : c_S) (a0 : Nat) (x1 : Int32) (x2 : Int32) (x3 : Int32) (Q : Int32 → c_S → Prop) : Prop := km_X6_partitionAt L S a0 x1 (fun r7_ S6_ => ((r7_ = none → (kb_X11_region_31 L S6_ Q)) ∧ (¬ r7_ = none → ((x2 < 0 → (kb_X11_region_31 L S6_ Q)) ∧ (¬ x2 < 0 → (∃ a10_ : Nat, r7_ = some a10_ ∧ (c_mk L 5 a10_ ∧ ((x2 < (c_I S6_ 803 a10_) → ((x3.toInt < 0 ∨ 2 < x3.toInt → (Q (-1 : Int32) S6_)) ∧ (x3 = (0 : Int32) → (km_X4_firstOf L S6_ a10_ x2 (fun x19_ S18_ => (Q x19_ S18_)))) ∧ (x3 = (1 : Int32) → (vp_in x2 6 ∧ (km_X4_firstOf L S6_ a10_ x2 (fun x26_ S25_ => (Q ((c_A S6_ 804 a10_ x2.toNatClampNeg) - x26_) S25_))))) ∧ (x3 = (2 : Int32) → (vp_in x2 6 ∧ (Q (c_A S6_ 805 a10_ x2.toNatClampNeg) S6_))))) ∧ (¬ x2 < (c_I S6_ 803 a10_) → (kb_X11_region_31 L S6_ Q))))))))))
set_option maxRecDepth 100000 in
set_option maxHeartbeats 4000000 in
theorem um_X11_region {L : c_L} {T : q_S} (g : c_G L T) (S : c_S) (a0 : Nat) (x1 : Int32) (x2 : Int32) (x3 : Int32) (m_a0 : c_mk L 11 a0) {Q1 : Int32 → c_S → Prop} {Q : Option Value → q_S → Prop} (h : km_X11_region L  S a0 x1 x2 x3 Q1) (hQ : ∀ (v : Int32) (K : c_S), Q1 v K → Q (some (.int v)) (c_E L K T)) : wm_X11_region  (c_E L S T) (c_ob L 11 a0) x1 x2 x3 Q := by
  unfold wm_X11_region
  unfold km_X11_region at h
  try simp only [c_gk g m_a0 12 rfl, true_and, Option.some.injEq, exists_eq_left', c_xm, c_xn, c_xs]
  have n2201_a0 := c_gO g 2201 6 rfl (by decide) m_a0
  try simp only [c_gk g m_a0 12 rfl, c_gk g n2201_a0 7 rfl, c_gp g 2201 6 rfl rfl (by decide) m_a0, true_and, Option.some.injEq, exists_eq_left', c_xm, c_xn, c_xs]
  refine um_X6_partitionAt g _ a0 _ n2201_a0 h (fun r7_ S6_ h => ?_)
  refine ⟨_, rfl, ?_⟩
  try simp only [c_gk g m_a0 12 rfl, c_gk g n2201_a0 7 rfl, c_gp g 2201 6 rfl rfl (by decide) m_a0, true_and, Option.some.injEq, exists_eq_left', c_xm, c_xn, c_xs]
  refine ⟨fun hc => ?_, fun hc => ?_⟩
  · have h := h.1 hc
    exact ub_X11_region_31 g _  h hQ
  · have h := h.2 hc
    refine ⟨fun hc => ?_, fun hc => ?_⟩
    · have h := h.1 hc
      exact ub_X11_region_31 g _  h hQ
    · have h := h.2 hc
      obtain ⟨a10_, e_a10_, m_a10_, h⟩ := h
      refine ⟨a10_, e_a10_, ?_⟩
      try simp only [c_gk g m_a0 12 rfl, c_gk g n2201_a0 7 rfl, c_gk g m_a10_ 6 rfl, c_gp g 2201 6 rfl rfl (by decide) m_a0, true_and, Option.some.injEq, exists_eq_left', c_xm, c_xn, c_xs]
      have n1002_a10_ := c_gO g 1002 4 rfl (by decide) m_a10_
      try simp only [c_gk g m_a0 12 rfl, c_gk g n2201_a0 7 rfl, c_gk g m_a10_ 6 rfl, c_gk g n1002_a10_ 5 rfl, c_gp g 2201 6 rfl rfl (by decide) m_a0, c_gp g 1002 4 rfl rfl (by decide) m_a10_, c_eI (f := 803) n1002_a10_ rfl, true_and, Option.some.injEq, exists_eq_left', c_xm, c_xn, c_xs]
      refine ⟨fun hc => ?_, fun hc => ?_⟩
      · have h := h.1 hc
        refine ⟨fun hc => ?_, fun hc => ?_, fun hc => ?_, fun hc => ?_⟩
        · have h := h.1 hc
          exact hQ _ _ h
        · have h := h.2.1 hc
          refine um_X4_firstOf g _ a10_ _ n1002_a10_ h (fun x19_ S18_ h => ?_)
          refine ⟨_, rfl, ?_⟩
          try simp only [c_gk g m_a0 12 rfl, c_gk g n2201_a0 7 rfl, c_gk g m_a10_ 6 rfl, c_gk g n1002_a10_ 5 rfl, c_gp g 2201 6 rfl rfl (by decide) m_a0, c_gp g 1002 4 rfl rfl (by decide) m_a10_, c_eI (f := 803) n1002_a10_ rfl, true_and, Option.some.injEq, exists_eq_left', c_xm, c_xn, c_xs]
          exact hQ _ _ h
        · have h := h.2.2.1 hc
          have n804_n1002_a10_ := c_gA g 804 rfl (by decide) n1002_a10_
          try simp only [c_gk g m_a0 12 rfl, c_gk g n2201_a0 7 rfl, c_gk g m_a10_ 6 rfl, c_gk g n1002_a10_ 5 rfl, c_gr g n804_n1002_a10_ 21 rfl, c_gN g n804_n1002_a10_ 6 (by decide), c_eA n804_n1002_a10_, c_eAs (c_gw g) n804_n1002_a10_, c_gp g 2201 6 rfl rfl (by decide) m_a0, c_gp g 1002 4 rfl rfl (by decide) m_a10_, c_ga g 804 rfl rfl (by decide) n1002_a10_, c_eI (f := 803) n1002_a10_ rfl, true_and, Option.some.injEq, exists_eq_left', c_xm, c_xn, c_xs]
          refine ⟨h.1, ?_⟩
          have h := h.2
          refine um_X4_firstOf g _ a10_ _ n1002_a10_ h (fun x26_ S25_ h => ?_)
          refine ⟨_, rfl, ?_⟩
          try simp only [c_gk g m_a0 12 rfl, c_gk g n2201_a0 7 rfl, c_gk g m_a10_ 6 rfl, c_gk g n1002_a10_ 5 rfl, c_gr g n804_n1002_a10_ 21 rfl, c_gN g n804_n1002_a10_ 6 (by decide), c_eA n804_n1002_a10_, c_eAs (c_gw g) n804_n1002_a10_, c_gp g 2201 6 rfl rfl (by decide) m_a0, c_gp g 1002 4 rfl rfl (by decide) m_a10_, c_ga g 804 rfl rfl (by decide) n1002_a10_, c_eI (f := 803) n1002_a10_ rfl, true_and, Option.some.injEq, exists_eq_left', c_xm, c_xn, c_xs]
          exact hQ _ _ h
        · have h := h.2.2.2 hc
          have n805_n1002_a10_ := c_gA g 805 rfl (by decide) n1002_a10_
          try simp only [c_gk g m_a0 12 rfl, c_gk g n2201_a0 7 rfl, c_gk g m_a10_ 6 rfl, c_gk g n1002_a10_ 5 rfl, c_gr g n805_n1002_a10_ 21 rfl, c_gN g n805_n1002_a10_ 6 (by decide), c_eA n805_n1002_a10_, c_eAs (c_gw g) n805_n1002_a10_, c_gp g 2201 6 rfl rfl (by decide) m_a0, c_gp g 1002 4 rfl rfl (by decide) m_a10_, c_ga g 805 rfl rfl (by decide) n1002_a10_, c_eI (f := 803) n1002_a10_ rfl, true_and, Option.some.injEq, exists_eq_left', c_xm, c_xn, c_xs]
          refine ⟨h.1, ?_⟩
          have h := h.2
          exact hQ _ _ h
      · have h := h.2 hc
        exact ub_X11_region_31 g _  h hQ
def kb_X11_wordOf_65 (L : c_L) (S : c_S) (xs0 : Int32) (Q : Int32 → c_S → Prop) : Prop := Q xs0 S
set_option maxRecDepth 100000 in
set_option maxHeartbeats 4000000 in
theorem ub_X11_wordOf_65 {L : c_L} {T : q_S} (g : c_G L T) (S : c_S) (xs0 : Int32)  {Q1 : Int32 → c_S → Prop} {Q : Option Value → q_S → Prop} (h : kb_X11_wordOf_65 L  S xs0 Q1) (hQ : ∀ (v : Int32) (K : c_S), Q1 v K → Q (some (.int v)) (c_E L K T)) : wb_X11_wordOf_65  (c_E L S T) xs0 Q := by
  unfold wb_X11_wordOf_65
  unfold kb_X11_wordOf_65 at h
  try simp only [true_and, Option.some.injEq, exists_eq_left', c_xm, c_xn, c_xs]
  exact hQ _ _ h
def kb_X11_wordOf_64 (L : c_L) (S : c_S) (Q : Int32 → c_S → Prop) : Prop := kb_X11_wordOf_65 L S (0 : Int32) Q
set_option maxRecDepth 100000 in
set_option maxHeartbeats 4000000 in
theorem ub_X11_wordOf_64 {L : c_L} {T : q_S} (g : c_G L T) (S : c_S)  {Q1 : Int32 → c_S → Prop} {Q : Option Value → q_S → Prop} (h : kb_X11_wordOf_64 L  S Q1) (hQ : ∀ (v : Int32) (K : c_S), Q1 v K → Q (some (.int v)) (c_E L K T)) : wb_X11_wordOf_64  (c_E L S T) Q := by
  unfold wb_X11_wordOf_64
  unfold kb_X11_wordOf_64 at h
  try simp only [true_and, Option.some.injEq, exists_eq_left', c_xm, c_xn, c_xs]
  exact ub_X11_wordOf_65 g _ _  h hQ
def km_X11_wordOf (L : c_L) (S : c_S) (a0 : Nat) (x1 : Int32) (x2 : Int32) (x3 : Int32) (x4 : Int32) (Q : Int32 → c_S → Prop) : Prop := km_X6_thingAt L S a0 x1 x2 x3 (fun r7_ S6_ => ((¬ r7_ = none → (∃ a9_ : Nat, r7_ = some a9_ ∧ (c_mk L 10 a9_ ∧ (((c_qu a9_) = none → ((¬ x2 = (3 : Int32) → (kb_X11_wordOf_64 L S6_ Q)) ∧ (x2 = (3 : Int32) → (((c_I S6_ 2001 a9_) = 0 → (kb_X11_wordOf_64 L S6_ Q)) ∧ (¬ (c_I S6_ 2001 a9_) = 0 → ((¬ x4 = 0 → (kb_X11_wordOf_64 L S6_ Q)) ∧ (x4 = 0 → (kb_X11_wordOf_65 L S6_ (c_I S6_ 2005 a9_) Q)))))))) ∧ (¬ (c_qu a9_) = none → (∃ a16_ : Nat, (c_qu a9_) = some a16_ ∧ (c_mk L 8 a16_ ∧ (km_X8_at L S6_ a16_ x4 (fun x21_ S20_ => (Q x21_ S20_)))))))))) ∧ (r7_ = none → (Q (0 : Int32) S6_))))
set_option maxRecDepth 100000 in
set_option maxHeartbeats 4000000 in
theorem um_X11_wordOf {L : c_L} {T : q_S} (g : c_G L T) (S : c_S) (a0 : Nat) (x1 : Int32) (x2 : Int32) (x3 : Int32) (x4 : Int32) (m_a0 : c_mk L 11 a0) {Q1 : Int32 → c_S → Prop} {Q : Option Value → q_S → Prop} (h : km_X11_wordOf L  S a0 x1 x2 x3 x4 Q1) (hQ : ∀ (v : Int32) (K : c_S), Q1 v K → Q (some (.int v)) (c_E L K T)) : wm_X11_wordOf  (c_E L S T) (c_ob L 11 a0) x1 x2 x3 x4 Q := by
  unfold wm_X11_wordOf
  unfold km_X11_wordOf at h
  try simp only [c_gk g m_a0 12 rfl, true_and, Option.some.injEq, exists_eq_left', c_xm, c_xn, c_xs]
  have n2201_a0 := c_gO g 2201 6 rfl (by decide) m_a0
  try simp only [c_gk g m_a0 12 rfl, c_gk g n2201_a0 7 rfl, c_gp g 2201 6 rfl rfl (by decide) m_a0, true_and, Option.some.injEq, exists_eq_left', c_xm, c_xn, c_xs]
  refine um_X6_thingAt g _ a0 _ _ _ n2201_a0 h (fun r7_ S6_ h => ?_)
  refine ⟨_, rfl, ?_⟩
  try simp only [c_gk g m_a0 12 rfl, c_gk g n2201_a0 7 rfl, c_gp g 2201 6 rfl rfl (by decide) m_a0, true_and, Option.some.injEq, exists_eq_left', c_xm, c_xn, c_xs]
  refine ⟨fun hc => ?_, fun hc => ?_⟩
  · have h := h.1 hc
    obtain ⟨a9_, e_a9_, m_a9_, h⟩ := h
    refine ⟨a9_, e_a9_, ?_⟩
    try simp only [c_gk g m_a0 12 rfl, c_gk g n2201_a0 7 rfl, c_gk g m_a9_ 11 rfl, c_gp g 2201 6 rfl rfl (by decide) m_a0, c_eI (f := 2001) m_a9_ rfl, c_eI (f := 2005) m_a9_ rfl, c_gu g m_a9_, true_and, Option.some.injEq, exists_eq_left', c_xm, c_xn, c_xs]
    refine ⟨fun hc => ?_, fun hc => ?_⟩
    · have h := h.1 hc
      refine ⟨fun hc => ?_, fun hc => ?_⟩
      · have h := h.1 hc
        exact ub_X11_wordOf_64 g _  h hQ
      · have h := h.2 hc
        refine ⟨fun hc => ?_, fun hc => ?_⟩
        · have h := h.1 hc
          exact ub_X11_wordOf_64 g _  h hQ
        · have h := h.2 hc
          refine ⟨fun hc => ?_, fun hc => ?_⟩
          · have h := h.1 hc
            exact ub_X11_wordOf_64 g _  h hQ
          · have h := h.2 hc
            exact ub_X11_wordOf_65 g _ _  h hQ
    · have h := h.2 hc
      obtain ⟨a16_, e_a16_, m_a16_, h⟩ := h
      refine ⟨a16_, e_a16_, ?_⟩
      try simp only [c_gk g m_a0 12 rfl, c_gk g n2201_a0 7 rfl, c_gk g m_a9_ 11 rfl, c_gk g m_a16_ 9 rfl, c_gp g 2201 6 rfl rfl (by decide) m_a0, c_eI (f := 2001) m_a9_ rfl, c_eI (f := 2005) m_a9_ rfl, c_gu g m_a9_, true_and, Option.some.injEq, exists_eq_left', c_xm, c_xn, c_xs]
      refine um_X8_at g _ a16_ _ m_a16_ h (fun x21_ S20_ h => ?_)
      refine ⟨_, rfl, ?_⟩
      try simp only [c_gk g m_a0 12 rfl, c_gk g n2201_a0 7 rfl, c_gk g m_a9_ 11 rfl, c_gk g m_a16_ 9 rfl, c_gp g 2201 6 rfl rfl (by decide) m_a0, c_eI (f := 2001) m_a9_ rfl, c_eI (f := 2005) m_a9_ rfl, c_gu g m_a9_, true_and, Option.some.injEq, exists_eq_left', c_xm, c_xn, c_xs]
      exact hQ _ _ h
  · have h := h.2 hc
    exact hQ _ _ h
