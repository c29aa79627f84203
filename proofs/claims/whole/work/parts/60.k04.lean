def kb_X0_setDue_54 (L : c_L) (S : c_S) (Q : Int32 → c_S → Prop) : Prop := Q (3 : Int32) S
set_option maxRecDepth 100000 in
set_option maxHeartbeats 4000000 in
theorem ub_X0_setDue_54 {L : c_L} {T : q_S} (g : c_G L T) (S : c_S)  {Q1 : Int32 → c_S → Prop} {Q : Option Value → q_S → Prop} (h : kb_X0_setDue_54 L  S Q1) (hQ : ∀ (v : Int32) (K : c_S), Q1 v K → Q (some (.int v)) (c_E L K T)) : wb_X0_setDue_54  (c_E L S T) Q := by
  unfold wb_X0_setDue_54
  unfold kb_X0_setDue_54 at h
  try simp only [true_and, Option.some.injEq, exists_eq_left', c_xm, c_xn, c_xs]
  exact hQ _ _ h
def kb_X0_setDue_56 (L : c_L) (S : c_S) (a0 : Nat) (x1 : Int32) (Q : Int32 → c_S → Prop) : Prop := ∃ a2_ : Nat, (c_P S 2 a0) = some a2_ ∧ (c_mk L 7 a2_ ∧ (Q (0 : Int32) (cs_I S 1412 a2_ ((c_I S 4 a0) + x1))))
set_option maxRecDepth 100000 in
set_option maxHeartbeats 4000000 in
theorem ub_X0_setDue_56 {L : c_L} {T : q_S} (g : c_G L T) (S : c_S) (a0 : Nat) (x1 : Int32) (m_a0 : c_mk L 0 a0) {Q1 : Int32 → c_S → Prop} {Q : Option Value → q_S → Prop} (h : kb_X0_setDue_56 L  S a0 x1 Q1) (hQ : ∀ (v : Int32) (K : c_S), Q1 v K → Q (some (.int v)) (c_E L K T)) : wb_X0_setDue_56  (c_E L S T) (c_ob L 0 a0) x1 Q := by
  unfold wb_X0_setDue_56
  unfold kb_X0_setDue_56 at h
  try simp only [c_gk g m_a0 1 rfl, c_eI (f := 4) m_a0 rfl, c_eD2 m_a0, c_eDs2 (c_gw g) m_a0, true_and, Option.some.injEq, exists_eq_left', c_xm, c_xn, c_xs]
  obtain ⟨a2_, e_a2_, m_a2_, h⟩ := h
  refine ⟨a2_, e_a2_, ?_⟩
  try simp only [c_gk g m_a0 1 rfl, c_gk g m_a2_ 8 rfl, c_eI (f := 4) m_a0 rfl, c_eD2 m_a0, c_eDs2 (c_gw g) m_a0, c_eIs (f := 1412) (c_gw g) m_a2_ rfl, true_and, Option.some.injEq, exists_eq_left', c_xm, c_xn, c_xs]
  exact hQ _ _ h
def km_X0_setDue (L : c_L) (S : c_S) (a0 : Nat) (x1 : Int32) (Q : Int32 → c_S → Prop) : Prop := km_X0_isNoDelay L S a0 x1 (fun x8_ S7_ => ((x8_ = 0 → (∃ a11_ : Nat, (c_P S7_ 2 a0) = some a11_ ∧ (c_mk L 7 a11_ ∧ (((c_I S7_ 1405 a11_) = 0 → (kb_X0_setDue_54 L S7_ Q)) ∧ (¬ (c_I S7_ 1405 a11_) = 0 → (((c_I S7_ 1404 a11_) ≤ 0 → (kb_X0_setDue_56 L S7_ a0 x1 Q)) ∧ (¬ (c_I S7_ 1404 a11_) ≤ 0 → ((((c_I S7_ 4 a0) + x1) ≤ ((c_I S7_ 1415 a11_) + (c_I S7_ 1404 a11_)) → (kb_X0_setDue_56 L S7_ a0 x1 Q)) ∧ (¬ ((c_I S7_ 4 a0) + x1) ≤ ((c_I S7_ 1415 a11_) + (c_I S7_ 1404 a11_)) → (kb_X0_setDue_54 L S7_ Q)))))))))) ∧ (¬ x8_ = 0 → (Q (1 : Int32) S7_))))
set_option maxRecDepth 100000 in
set_option maxHeartbeats 4000000 in
theorem um_X0_setDue {L : c_L} {T : q_S} (g : c_G L T) (S : c_S) (a0 : Nat) (x1 : Int32) (m_a0 : c_mk L 0 a0) {Q1 : Int32 → c_S → Prop} {Q : Option Value → q_S → Prop} (h : km_X0_setDue L  S a0 x1 Q1) (hQ : ∀ (v : Int32) (K : c_S), Q1 v K → Q (some (.int v)) (c_E L K T)) : wm_X0_setDue  (c_E L S T) (c_ob L 0 a0) x1 Q := by
  unfold wm_X0_setDue
  unfold km_X0_setDue at h
  try simp only [c_gk g m_a0 1 rfl, c_eI (f := 4) m_a0 rfl, c_eD2 m_a0, c_eDs2 (c_gw g) m_a0, true_and, Option.some.injEq, exists_eq_left', c_xm, c_xn, c_xs]
  refine um_X0_isNoDelay g _ a0 _ m_a0 h (fun x8_ S7_ h => ?_)
  refine ⟨_, rfl, ?_⟩
  try simp only [c_gk g m_a0 1 rfl, c_eI (f := 4) m_a0 rfl, c_eD2 m_a0, c_eDs2 (c_gw g) m_a0, true_and, Option.some.injEq, exists_eq_left', c_xm, c_xn, c_xs]
  refine ⟨fun hc => ?_, fun hc => ?_⟩
  · have h := h.1 hc
    obtain ⟨a11_, e_a11_, m_a11_, h⟩ := h
    refine ⟨a11_, e_a11_, ?_⟩
    try simp only [c_gk g m_a0 1 rfl, c_gk g m_a11_ 8 rfl, c_eI (f := 4) m_a0 rfl, c_eD2 m_a0, c_eDs2 (c_gw g) m_a0, c_eI (f := 1404) m_a11_ rfl, c_eI (f := 1405) m_a11_ rfl, c_eI (f := 1415) m_a11_ rfl, true_and, Option.some.injEq, exists_eq_left', c_xm, c_xn, c_xs]
    refine ⟨fun hc => ?_, fun hc => ?_⟩
    · have h := h.1 hc
      exact ub_X0_setDue_54 g _  h hQ
    · have h := h.2 hc
      refine ⟨fun hc => ?_, fun hc => ?_⟩
      · have h := h.1 hc
        exact ub_X0_setDue_56 g _ a0 _ m_a0 h hQ
      · have h := h.2 hc
        refine ⟨fun hc => ?_, fun hc => ?_⟩
        · have h := h.1 hc
          exact ub_X0_setDue_56 g _ a0 _ m_a0 h hQ
        · have h := h.2 hc
          exact ub_X0_setDue_54 g _  h hQ
  · have h := h.2 hc
    exact hQ _ _ h
def km_X0_tellProcess (L : c_L) (S : c_S) (a0 : Nat) (x1 : Int32) (Q : Int32 → c_S → Prop) : Prop := ∃ a2_ : Nat, (c_P S 1 a0) = some a2_ ∧ (c_mk L 5 a2_ ∧ (km_X5_processAt L S a2_ x1 (fun r7_ S6_ => ((¬ r7_ = none → (∃ a10_ : Nat, r7_ = some a10_ ∧ (c_mk L 7 a10_ ∧ (∃ a13_ : Nat, (c_P S6_ 3 a0) = some a13_ ∧ (c_mk L 7 a13_ ∧ (vp_in (11 : Int32) 32 ∧ (∃ a17_ : Nat, (c_P (cs_A S6_ 1411 a13_ (11 : Int32).toNatClampNeg (c_I S6_ 1409 a10_)) 3 a0) = some a17_ ∧ (c_mk L 7 a17_ ∧ (vp_in (12 : Int32) 32 ∧ (∀ S21_ : c_S, S21_ = (cs_A (cs_A S6_ 1411 a13_ (11 : Int32).toNatClampNeg (c_I S6_ 1409 a10_)) 1411 a17_ (12 : Int32).toNatClampNeg (c_I (cs_A S6_ 1411 a13_ (11 : Int32).toNatClampNeg (c_I S6_ 1409 a10_)) 1403 a10_)) → (∃ a22_ : Nat, (c_P S21_ 3 a0) = some a22_ ∧ (c_mk L 7 a22_ ∧ (vp_in (13 : Int32) 32 ∧ (Q (0 : Int32) (cs_A S21_ 1411 a22_ (13 : Int32).toNatClampNeg (c_I S21_ 1412 a10_)))))))))))))))) ∧ (r7_ = none → (Q (1 : Int32) S6_))))))
set_option maxRecDepth 100000 in
set_option maxHeartbeats 4000000 in
theorem um_X0_tellProcess {L : c_L} {T : q_S} (g : c_G L T) (S : c_S) (a0 : Nat) (x1 : Int32) (m_a0 : c_mk L 0 a0) {Q1 : Int32 → c_S → Prop} {Q : Option Value → q_S → Prop} (h : km_X0_tellProcess L  S a0 x1 Q1) (hQ : ∀ (v : Int32) (K : c_S), Q1 v K → Q (some (.int v)) (c_E L K T)) : wm_X0_tellProcess  (c_E L S T) (c_ob L 0 a0) x1 Q := by
  unfold wm_X0_tellProcess
  unfold km_X0_tellProcess at h
  try simp only [c_gk g m_a0 1 rfl, c_eD1 m_a0, c_eDs1 (c_gw g) m_a0, c_eD3 m_a0, c_eDs3 (c_gw g) m_a0, true_and, Option.some.injEq, exists_eq_left', c_xm, c_xn, c_xs]
  obtain ⟨a2_, e_a2_, m_a2_, h⟩ := h
  refine ⟨a2_, e_a2_, ?_⟩
  try simp only [c_gk g m_a0 1 rfl, c_gk g m_a2_ 6 rfl, c_eD1 m_a0, c_eDs1 (c_gw g) m_a0, c_eD3 m_a0, c_eDs3 (c_gw g) m_a0, true_and, Option.some.injEq, exists_eq_left', c_xm, c_xn, c_xs]
  refine um_X5_processAt g _ a2_ _ m_a2_ h (fun r7_ S6_ h => ?_)
  refine ⟨_, rfl, ?_⟩
  try simp only [c_gk g m_a0 1 rfl, c_gk g m_a2_ 6 rfl, c_eD1 m_a0, c_eDs1 (c_gw g) m_a0, c_eD3 m_a0, c_eDs3 (c_gw g) m_a0, true_and, Option.some.injEq, exists_eq_left', c_xm, c_xn, c_xs]
  refine ⟨fun hc => ?_, fun hc => ?_⟩
  · have h := h.1 hc
    obtain ⟨a10_, e_a10_, m_a10_, h⟩ := h
    refine ⟨a10_, e_a10_, ?_⟩
    try simp only [c_gk g m_a0 1 rfl, c_gk g m_a2_ 6 rfl, c_gk g m_a10_ 8 rfl, c_eD1 m_a0, c_eDs1 (c_gw g) m_a0, c_eD3 m_a0, c_eDs3 (c_gw g) m_a0, c_eI (f := 1403) m_a10_ rfl, c_eI (f := 1409) m_a10_ rfl, c_eI (f := 1412) m_a10_ rfl, true_and, Option.some.injEq, exists_eq_left', c_xm, c_xn, c_xs]
    obtain ⟨a13_, e_a13_, m_a13_, h⟩ := h
    have r_a13_ := c_gA g 1411 rfl (by decide) m_a13_
    refine ⟨a13_, e_a13_, ?_⟩
    try simp only [c_gk g m_a0 1 rfl, c_gk g m_a2_ 6 rfl, c_gk g m_a10_ 8 rfl, c_gk g m_a13_ 8 rfl, c_gr g r_a13_ 21 rfl, c_gN g r_a13_ 32 (by decide), c_eA r_a13_, c_eAs (c_gw g) r_a13_, c_eD1 m_a0, c_eDs1 (c_gw g) m_a0, c_eD3 m_a0, c_eDs3 (c_gw g) m_a0, c_eI (f := 1403) m_a10_ rfl, c_eI (f := 1409) m_a10_ rfl, c_eI (f := 1412) m_a10_ rfl, c_eI (f := 1403) m_a13_ rfl, c_eI (f := 1409) m_a13_ rfl, c_eI (f := 1412) m_a13_ rfl, true_and, Option.some.injEq, exists_eq_left', c_xm, c_xn, c_xs]
    refine ⟨h.1, ?_⟩
    have h := h.2
    obtain ⟨a17_, e_a17_, m_a17_, h⟩ := h
    have r_a17_ := c_gA g 1411 rfl (by decide) m_a17_
    refine ⟨a17_, e_a17_, ?_⟩
    try simp only [c_gk g m_a0 1 rfl, c_gk g m_a2_ 6 rfl, c_gk g m_a10_ 8 rfl, c_gk g m_a13_ 8 rfl, c_gk g m_a17_ 8 rfl, c_gr g r_a13_ 21 rfl, c_gN g r_a13_ 32 (by decide), c_eA r_a13_, c_eAs (c_gw g) r_a13_, c_gr g r_a17_ 21 rfl, c_gN g r_a17_ 32 (by decide), c_eA r_a17_, c_eAs (c_gw g) r_a17_, c_eD1 m_a0, c_eDs1 (c_gw g) m_a0, c_eD3 m_a0, c_eDs3 (c_gw g) m_a0, c_eI (f := 1403) m_a10_ rfl, c_eI (f := 1409) m_a10_ rfl, c_eI (f := 1412) m_a10_ rfl, c_eI (f := 1403) m_a13_ rfl, c_eI (f := 1409) m_a13_ rfl, c_eI (f := 1412) m_a13_ rfl, c_eI (f := 1403) m_a17_ rfl, c_eI (f := 1409) m_a17_ rfl, c_eI (f := 1412) m_a17_ rfl, true_and, Option.some.injEq, exists_eq_left', c_xm, c_xn, c_xs]
    refine ⟨h.1, ?_⟩
    have h := h.2
    refine fun S21_ e_S21_ => ?_
    have h := h S21_ e_S21_
    obtain ⟨a22_, e_a22_, m_a22_, h⟩ := h
    have r_a22_ := c_gA g 1411 rfl (by decide) m_a22_
    refine ⟨a22_, e_a22_, ?_⟩
    try simp only [c_gk g m_a0 1 rfl, c_gk g m_a2_ 6 rfl, c_gk g m_a10_ 8 rfl, c_gk g m_a13_ 8 rfl, c_gk g m_a17_ 8 rfl, c_gk g m_a22_ 8 rfl, c_gr g r_a13_ 21 rfl, c_gN g r_a13_ 32 (by decide), c_eA r_a13_, c_eAs (c_gw g) r_a13_, c_gr g r_a17_ 21 rfl, c_gN g r_a17_ 32 (by decide), c_eA r_a17_, c_eAs (c_gw g) r_a17_, c_gr g r_a22_ 21 rfl, c_gN g r_a22_ 32 (by decide), c_eA r_a22_, c_eAs (c_gw g) r_a22_, c_eD1 m_a0, c_eDs1 (c_gw g) m_a0, c_eD3 m_a0, c_eDs3 (c_gw g) m_a0, c_eI (f := 1403) m_a10_ rfl, c_eI (f := 1409) m_a10_ rfl, c_eI (f := 1412) m_a10_ rfl, c_eI (f := 1403) m_a13_ rfl, c_eI (f := 1409) m_a13_ rfl, c_eI (f := 1412) m_a13_ rfl, c_eI (f := 1403) m_a17_ rfl, c_eI (f := 1409) m_a17_ rfl, c_eI (f := 1412) m_a17_ rfl, c_eI (f := 1403) m_a22_ rfl, c_eI (f := 1409) m_a22_ rfl, c_eI (f := 1412) m_a22_ rfl, true_and, Option.some.injEq, exists_eq_left', c_xm, c_xn, c_xs]
    refine ⟨h.1, ?_⟩
    have h := h.2
    exact hQ _ _ h
  · have h := h.2 hc
    exact hQ _ _ h
def km_X0_ofOthers (L : c_L) (S : c_S) (a0 : Nat) (x1 : Int32) (x2 : Int32) (Q : Int32 → c_S → Prop) : Prop := (x1.toInt < 26 ∨ 30 < x1.toInt → (∃ a2_ : Nat, (c_P S 2 a0) = some a2_ ∧ (c_mk L 7 a2_ ∧ (Q (c_I S 1400 a2_) S)))) ∧ (x1 = (26 : Int32) → (km_X0_waitToGoOn L S a0 x2 (fun x8_ S7_ => (Q x8_ S7_)))) ∧ (x1 = (27 : Int32) → (km_X0_hold L S a0 x2 (fun x12_ S11_ => (Q x12_ S11_)))) ∧ (x1 = (28 : Int32) → (km_X0_letGoOn L S a0 x2 (fun x16_ S15_ => (Q x16_ S15_)))) ∧ (x1 = (29 : Int32) → (km_X0_setDue L S a0 x2 (fun x20_ S19_ => (Q x20_ S19_)))) ∧ (x1 = (30 : Int32) → (km_X0_tellProcess L S a0 x2 (fun x24_ S23_ => (Q x24_ S23_))))
set_option maxRecDepth 100000 in
set_option maxHeartbeats 4000000 in
theorem um_X0_ofOthers {L : c_L} {T : q_S} (g : c_G L T) (S : c_S) (a0 : Nat) (x1 : Int32) (x2 : Int32) (m_a0 : c_mk L 0 a0) {Q1 : Int32 → c_S → Prop} {Q : Option Value → q_S → Prop} (h : km_X0_ofOthers L  S a0 x1 x2 Q1) (hQ : ∀ (v : Int32) (K : c_S), Q1 v K → Q (some (.int v)) (c_E L K T)) : wm_X0_ofOthers  (c_E L S T) (c_ob L 0 a0) x1 x2 Q := by
  unfold wm_X0_ofOthers
  unfold km_X0_ofOthers at h
  try simp only [c_gk g m_a0 1 rfl, c_eD2 m_a0, c_eDs2 (c_gw g) m_a0, true_and, Option.some.injEq, exists_eq_left', c_xm, c_xn, c_xs]
  refine ⟨fun hc => ?_, fun hc => ?_, fun hc => ?_, fun hc => ?_, fun hc => ?_, fun hc => ?_⟩
  · have h := h.1 hc
    obtain ⟨a2_, e_a2_, m_a2_, h⟩ := h
    refine ⟨a2_, e_a2_, ?_⟩
    try simp only [c_gk g m_a0 1 rfl, c_gk g m_a2_ 8 rfl, c_eD2 m_a0, c_eDs2 (c_gw g) m_a0, c_eI (f := 1400) m_a2_ rfl, true_and, Option.some.injEq, exists_eq_left', c_xm, c_xn, c_xs]
    exact hQ _ _ h
  · have h := h.2.1 hc
    refine um_X0_waitToGoOn g _ a0 _ m_a0 h (fun x8_ S7_ h => ?_)
    refine ⟨_, rfl, ?_⟩
    try simp only [c_gk g m_a0 1 rfl, c_eD2 m_a0, c_eDs2 (c_gw g) m_a0, true_and, Option.some.injEq, exists_eq_left', c_xm, c_xn, c_xs]
    exact hQ _ _ h
  · have h := h.2.2.1 hc
    refine um_X0_hold g _ a0 _ m_a0 h (fun x12_ S11_ h => ?_)
    refine ⟨_, rfl, ?_⟩
    try simp only [c_gk g m_a0 1 rfl, c_eD2 m_a0, c_eDs2 (c_gw g) m_a0, true_and, Option.some.injEq, exists_eq_left', c_xm, c_xn, c_xs]
    exact hQ _ _ h
  · have h := h.2.2.2.1 hc
    refine um_X0_letGoOn g _ a0 _ m_a0 h (fun x16_ S15_ h => ?_)
    refine ⟨_, rfl, ?_⟩
    try simp only [c_gk g m_a0 1 rfl, c_eD2 m_a0, c_eDs2 (c_gw g) m_a0, true_and, Option.some.injEq, exists_eq_left', c_xm, c_xn, c_xs]
    exact hQ _ _ h
  · have h := h.2.2.2.2.1 hc
    refine um_X0_setDue g _ a0 _ m_a0 h (fun x20_ S19_ h => ?_)
    refine ⟨_, rfl, ?_⟩
    try simp only [c_gk g m_a0 1 rfl, c_eD2 m_a0, c_eDs2 (c_gw g) m_a0, true_and, Option.some.injEq, exists_eq_left', c_xm, c_xn, c_xs]
    exact hQ _ _ h
  · have h := h.2.2.2.2.2 hc
    refine um_X0_tellProcess g _ a0 _ m_a0 h (fun x24_ S23_ h => ?_)
    refine ⟨_, rfl, ?_⟩
    try simp only [c_gk g m_a0 1 rfl, c_eD2 m_a0, c_eDs2 (c_gw g) m_a0, true_and, Option.some.injEq, exists_eq_left', c_xm, c_xn, c_xs]
    exact hQ _ _ h
def kb_X10_value_21 (L : c_L) (S : c_S) (xs0 : Int32) (Q : Int32 → c_S → Prop) : Prop := Q xs0 S
set_option maxRecDepth 100000 in
set_option maxHeartbeats 4000000 in
theorem ub_X10_value_21 {L : c_L} {T : q_S} (g : c_G L T) (S : c_S) (xs0 : Int32)  {Q1 : Int32 → c_S → Prop} {Q : Option Value → q_S → Prop} (h : kb_X10_value_21 L  S xs0 Q1) (hQ : ∀ (v : Int32) (K : c_S), Q1 v K → Q (some (.int v)) (c_E L K T)) : wb_X10_value_21  (c_E L S T) xs0 Q := by
  unfold wb_X10_value_21
  unfold kb_X10_value_21 at h
  try simp only [true_and, Option.some.injEq, exists_eq_left', c_xm, c_xn, c_xs]
  exact hQ _ _ h
def km_X10_value (L : c_L) (S : c_S) (a0 : Nat) (Q : Int32 → c_S → Prop) : Prop := (¬ (c_qu a0) = none → (∃ a3_ : Nat, (c_qu a0) = some a3_ ∧ (c_mk L 8 a3_ ∧ (kb_X10_value_21 L S (c_I S 1603 a3_) Q)))) ∧ ((c_qu a0) = none → (kb_X10_value_21 L S (c_I S 2001 a0) Q))
set_option maxRecDepth 100000 in
set_option maxHeartbeats 4000000 in
theorem um_X10_value {L : c_L} {T : q_S} (g : c_G L T) (S : c_S) (a0 : Nat) (m_a0 : c_mk L 10 a0) {Q1 : Int32 → c_S → Prop} {Q : Option Value → q_S → Prop} (h : km_X10_value L  S a0 Q1) (hQ : ∀ (v : Int32) (K : c_S), Q1 v K → Q (some (.int v)) (c_E L K T)) : wm_X10_value  (c_E L S T) (c_ob L 10 a0) Q := by
  unfold wm_X10_value
  unfold km_X10_value at h
  try simp only [c_gk g m_a0 11 rfl, c_eI (f := 2001) m_a0 rfl, c_gu g m_a0, true_and, Option.some.injEq, exists_eq_left', c_xm, c_xn, c_xs]
  refine ⟨fun hc => ?_, fun hc => ?_⟩
  · have h := h.1 hc
    obtain ⟨a3_, e_a3_, m_a3_, h⟩ := h
    refine ⟨a3_, e_a3_, ?_⟩
    try simp only [c_gk g m_a0 11 rfl, c_gk g m_a3_ 9 rfl, c_eI (f := 2001) m_a0 rfl, c_gu g m_a0, c_eI (f := 1603) m_a3_ rfl, true_and, Option.some.injEq, exists_eq_left', c_xm, c_xn, c_xs]
    exact ub_X10_value_21 g _ _  h hQ
  · have h := h.2 hc
    exact ub_X10_value_21 g _ _  h hQ
def kb_X5_countWaiting_44 (L : c_L) (B4 : c_S → Nat → Int32 → Int32 → Int32 → Prop) (S : c_S) (a0 : Nat) (x1 : Int32) (x3 : Int32) (xs0 : Int32) (xs1 : Int32) (Q : Int32 → c_S → Prop) : Prop := B4 S a0 x1 (xs0 + xs1) (x3 + 1)
set_option maxRecDepth 100000 in
set_option maxHeartbeats 4000000 in
theorem ub_X5_countWaiting_44 {L : c_L} {T : q_S} (g : c_G L T) {OB4 : q_S → Nat → Int32 → Int32 → Int32 → Prop} {B4 : c_S → Nat → Int32 → Int32 → Int32 → Prop} (hB4 : ∀ (S1 : c_S) (a0 : Nat) (x1 : Int32) (x2 : Int32) (x3 : Int32), c_mk L 5 a0 → B4 S1 a0 x1 x2 x3 → OB4 (c_E L S1 T) (c_ob L 5 a0) x1 x2 x3) (S : c_S) (a0 : Nat) (x1 : Int32) (x3 : Int32) (xs0 : Int32) (xs1 : Int32) (m_a0 : c_mk L 5 a0) {Q1 : Int32 → c_S → Prop} {Q : Option Value → q_S → Prop} (h : kb_X5_countWaiting_44 L B4 S a0 x1 x3 xs0 xs1 Q1) (hQ : ∀ (v : Int32) (K : c_S), Q1 v K → Q (some (.int v)) (c_E L K T)) : wb_X5_countWaiting_44 OB4 (c_E L S T) (c_ob L 5 a0) x1 x3 xs0 xs1 Q := by
  unfold wb_X5_countWaiting_44
  unfold kb_X5_countWaiting_44 at h
  try simp only [c_gk g m_a0 6 rfl, true_and, Option.some.injEq, exists_eq_left', c_xm, c_xn, c_xs]
  exact hB4 _ a0 _ _ _ m_a0 h
def kb_X5_countWaiting_39 (L : c_L) (B4 : c_S → Nat → Int32 → Int32 → Int32 → Prop) (S : c_S) (a0 : Nat) (x1 : Int32) (x3 : Int32) (xs0 : Int32) (Q : Int32 → c_S → Prop) : Prop := kb_X5_countWaiting_44 L B4 S a0 x1 x3 xs0 (1 : Int32) Q
set_option maxRecDepth 100000 in
set_option maxHeartbeats 4000000 in
theorem ub_X5_countWaiting_39 {L : c_L} {T : q_S} (g : c_G L T) {OB4 : q_S → Nat → Int32 → Int32 → Int32 → Prop} {B4 : c_S → Nat → Int32 → Int32 → Int32 → Prop} (hB4 : ∀ (S1 : c_S) (a0 : Nat) (x1 : Int32) (x2 : Int32) (x3 : Int32), c_mk L 5 a0 → B4 S1 a0 x1 x2 x3 → OB4 (c_E L S1 T) (c_ob L 5 a0) x1 x2 x3) (S : c_S) (a0 : Nat) (x1 : Int32) (x3 : Int32) (xs0 : Int32) (m_a0 : c_mk L 5 a0) {Q1 : Int32 → c_S → Prop} {Q : Option Value → q_S → Prop} (h : kb_X5_countWaiting_39 L B4 S a0 x1 x3 xs0 Q1) (hQ : ∀ (v : Int32) (K : c_S), Q1 v K → Q (some (.int v)) (c_E L K T)) : wb_X5_countWaiting_39 OB4 (c_E L S T) (c_ob L 5 a0) x1 x3 xs0 Q := by
  unfold wb_X5_countWaiting_39
  unfold kb_X5_countWaiting_39 at h
  try simp only [c_gk g m_a0 6 rfl, true_and, Option.some.injEq, exists_eq_left', c_xm, c_xn, c_xs]
  exact ub_X5_countWaiting_44 g hB4 _ a0 _ _ _ _ m_a0 h hQ
def kb_X5_countWaiting_4 (L : c_L) (B4 : c_S → Nat → Int32 → Int32 → Int32 → Prop) (S : c_S) (a0 : Nat) (x1 : Int32) (x2 : Int32) (x3 : Int32) (Q : Int32 → c_S → Prop) : Prop := ((c_I S 1004 a0) ≤ x3 → (Q x2 S)) ∧ (¬ (c_I S 1004 a0) ≤ x3 → (vp_in x3 16 ∧ (∃ a7_ : Nat, (c_e7 L a0 x3.toNatClampNeg) = some a7_ ∧ (c_mk L 7 a7_ ∧ (((c_I S 1418 a7_) = x1 → (kb_X5_countWaiting_39 L B4 S a0 x1 x3 x2 Q)) ∧ (¬ (c_I S 1418 a7_) = x1 → ((¬ (c_I S 1418 a7_) = ((64 : Int32) + x1) → (kb_X5_countWaiting_44 L B4 S a0 x1 x3 x2 (0 : Int32) Q)) ∧ ((c_I S 1418 a7_) = ((64 : Int32) + x1) → (kb_X5_countWaiting_39 L B4 S a0 x1 x3 x2 Q)))))))))
set_option maxRecDepth 100000 in
set_option maxHeartbeats 4000000 in
theorem ub_X5_countWaiting_4 {L : c_L} {T : q_S} (g : c_G L T) {OB4 : q_S → Nat → Int32 → Int32 → Int32 → Prop} {B4 : c_S → Nat → Int32 → Int32 → Int32 → Prop} (hB4 : ∀ (S1 : c_S) (a0 : Nat) (x1 : Int32) (x2 : Int32) (x3 : Int32), c_mk L 5 a0 → B4 S1 a0 x1 x2 x3 → OB4 (c_E L S1 T) (c_ob L 5 a0) x1 x2 x3) (S : c_S) (a0 : Nat) (x1 : Int32) (x2 : Int32) (x3 : Int32) (m_a0 : c_mk L 5 a0) {Q1 : Int32 → c_S → Prop} {Q : Option Value → q_S → Prop} (h : kb_X5_countWaiting_4 L B4 S a0 x1 x2 x3 Q1) (hQ : ∀ (v : Int32) (K : c_S), Q1 v K → Q (some (.int v)) (c_E L K T)) : wb_X5_countWaiting_4 OB4 (c_E L S T) (c_ob L 5 a0) x1 x2 x3 Q := by
  unfold wb_X5_countWaiting_4
  unfold kb_X5_countWaiting_4 at h
  try simp only [c_gk g m_a0 6 rfl, c_eI (f := 1004) m_a0 rfl, true_and, Option.some.injEq, exists_eq_left', c_xm, c_xn, c_xs]
  refine ⟨fun hc => ?_, fun hc => ?_⟩
  · have h := h.1 hc
    exact hQ _ _ h
  · have h := h.2 hc
    have n1003_a0 := c_gA g 1003 rfl (by decide) m_a0
    try simp only [c_gk g m_a0 6 rfl, c_gr g n1003_a0 26 rfl, c_gN g n1003_a0 16 (by decide), c_g7 g m_a0, c_ga g 1003 rfl rfl (by decide) m_a0, c_eI (f := 1004) m_a0 rfl, true_and, Option.some.injEq, exists_eq_left', c_xm, c_xn, c_xs]
    refine ⟨h.1, ?_⟩
    have h := h.2
    obtain ⟨a7_, e_a7_, m_a7_, h⟩ := h
    refine ⟨a7_, e_a7_, ?_⟩
    try simp only [c_gk g m_a0 6 rfl, c_gk g m_a7_ 8 rfl, c_gr g n1003_a0 26 rfl, c_gN g n1003_a0 16 (by decide), c_g7 g m_a0, c_ga g 1003 rfl rfl (by decide) m_a0, c_eI (f := 1004) m_a0 rfl, c_eI (f := 1418) m_a7_ rfl, true_and, Option.some.injEq, exists_eq_left', c_xm, c_xn, c_xs]
    refine ⟨fun hc => ?_, fun hc => ?_⟩
    · have h := h.1 hc
      exact ub_X5_countWaiting_39 g hB4 _ a0 _ _ _ m_a0 h hQ
    · have h := h.2 hc
      refine ⟨fun hc => ?_, fun hc => ?_⟩
      · have h := h.1 hc
        exact ub_X5_countWaiting_44 g hB4 _ a0 _ _ _ _ m_a0 h hQ
      · have h := h.2 hc
        exact ub_X5_countWaiting_39 g hB4 _ a0 _ _ _ m_a0 h hQ
def kl_X5_countWaiting_4 (L : c_L)  : Nat → c_S → Nat → Int32 → Int32 → Int32 → (Int32 → c_S → Prop) → Prop
  | 0, _, _, _, _, _, _ => False
  | n + 1, S, a0, x1, x2, x3, Q => kb_X5_countWaiting_4 L (fun S a0 x1 x2 x3 => kl_X5_countWaiting_4 L n S a0 x1 x2 x3 Q) S a0 x1 x2 x3 Q
theorem ul_X5_countWaiting_4 {L : c_L} {T : q_S} (g : c_G L T) (n : Nat) (S : c_S) (a0 : Nat) (x1 : Int32) (x2 : Int32) (x3 : Int32) (m_a0 : c_mk L 5 a0) {Q1 : Int32 → c_S → Prop} {Q : Option Value → q_S → Prop} (h : kl_X5_countWaiting_4 L  n S a0 x1 x2 x3 Q1) (hQ : ∀ (v : Int32) (K : c_S), Q1 v K → Q (some (.int v)) (c_E L K T)) : wl_X5_countWaiting_4  n (c_E L S T) (c_ob L 5 a0) x1 x2 x3 Q := by
  induction n generalizing S a0 x1 x2 x3 with
  | zero => exact h.elim
  | succ n ih => exact ub_X5_countWaiting_4 g (fun u0 u1 u2 u3 u4 w0 h => ih u0 u1 u2 u3 u4 w0 h) S a0 x1 x2 x3 m_a0 h hQ
def km_X5_countWaiting (L : c_L) (S : c_S) (a0 : Nat) (x1 : Int32) (Q : Int32 → c_S → Prop) : Prop := ∃ n12_ : Nat, kl_X5_countWaiting_4 L n12_ S a0 x1 (0 : Int32) (0 : Int32) Q
set_option maxRecDepth 100000 in
set_option maxHeartbeats 4000000 in
theorem um_X5_countWaiting {L : c_L} {T : q_S} (g : c_G L T) (S : c_S) (a0 : Nat) (x1 : Int32) (m_a0 : c_mk L 5 a0) {Q1 : Int32 → c_S → Prop} {Q : Option Value → q_S → Prop} (h : km_X5_countWaiting L  S a0 x1 Q1) (hQ : ∀ (v : Int32) (K : c_S), Q1 v K → Q (some (.int v)) (c_E L K T)) : wm_X5_countWaiting  (c_E L S T) (c_ob L 5 a0) x1 Q := by
  unfold wm_X5_countWaiting
  unfold km_X5_countWaiting at h
  try simp only [c_gk g m_a0 6 rfl, true_and, Option.some.injEq, exists_eq_left', c_xm, c_xn, c_xs]
  obtain ⟨n12_, h⟩ := h
  refine ⟨n12_, ?_⟩
  exact ul_X5_countWaiting_4 g n12_ _ a0 _ _ _ m_a0 h hQ
def kb_X0_tellThing_64 (L : c_L) (S : c_S) (a0 : Nat) (x1 : Int32) (x2 : Int32) (rs0 : Option Nat) (xs1 : Int32) (xs2 : Int32) (Q : Int32 → c_S → Prop) : Prop := ∃ a1_ : Nat, rs0 = some a1_ ∧ (c_mk L 7 a1_ ∧ (vp_in xs1 32 ∧ (∃ a6_ : Nat, (c_P (cs_A S 1411 a1_ xs1.toNatClampNeg xs2) 1 a0) = some a6_ ∧ (c_mk L 5 a6_ ∧ (km_X5_countWaiting L (cs_A S 1411 a1_ xs1.toNatClampNeg xs2) a6_ ((x1 * (8 : Int32)) + x2) (fun x11_ S10_ => (∃ a12_ : Nat, (c_P (cs_A S 1411 a1_ xs1.toNatClampNeg xs2) 3 a0) = some a12_ ∧ (c_mk L 7 a12_ ∧ (vp_in (12 : Int32) 32 ∧ (Q (0 : Int32) (cs_A S10_ 1411 a12_ (12 : Int32).toNatClampNeg x11_)))))))))))
set_option maxRecDepth 100000 in
set_option maxHeartbeats 4000000 in
theorem ub_X0_tellThing_64 {L : c_L} {T : q_S} (g : c_G L T) (S : c_S) (a0 : Nat) (x1 : Int32) (x2 : Int32) (rs0 : Option Nat) (xs1 : Int32) (xs2 : Int32) (m_a0 : c_mk L 0 a0) {Q1 : Int32 → c_S → Prop} {Q : Option Value → q_S → Prop} (h : kb_X0_tellThing_64 L  S a0 x1 x2 rs0 xs1 xs2 Q1) (hQ : ∀ (v : Int32) (K : c_S), Q1 v K → Q (some (.int v)) (c_E L K T)) : wb_X0_tellThing_64  (c_E L S T) (c_ob L 0 a0) x1 x2 (rs0.map (c_ar L 1411)) xs1 xs2 Q := by
  unfold wb_X0_tellThing_64
  unfold kb_X0_tellThing_64 at h
  try simp only [c_gk g m_a0 1 rfl, c_eD1 m_a0, c_eDs1 (c_gw g) m_a0, c_eD3 m_a0, c_eDs3 (c_gw g) m_a0, true_and, Option.some.injEq, exists_eq_left', c_xm, c_xn, c_xs]
  obtain ⟨a1_, e_a1_, m_a1_, h⟩ := h
  have r_a1_ := c_gA g 1411 rfl (by decide) m_a1_
  refine ⟨a1_, e_a1_, ?_⟩
  try simp only [c_gk g m_a0 1 rfl, c_gk g m_a1_ 8 rfl, c_gr g r_a1_ 21 rfl, c_gN g r_a1_ 32 (by decide), c_eA r_a1_, c_eAs (c_gw g) r_a1_, c_eD1 m_a0, c_eDs1 (c_gw g) m_a0, c_eD3 m_a0, c_eDs3 (c_gw g) m_a0, true_and, Option.some.injEq, exists_eq_left', c_xm, c_xn, c_xs]
  refine ⟨h.1, ?_⟩
  have h := h.2
  obtain ⟨a6_, e_a6_, m_a6_, h⟩ := h
  refine ⟨a6_, e_a6_, ?_⟩
  try simp only [c_gk g m_a0 1 rfl, c_gk g m_a1_ 8 rfl, c_gk g m_a6_ 6 rfl, c_gr g r_a1_ 21 rfl, c_gN g r_a1_ 32 (by decide), c_eA r_a1_, c_eAs (c_gw g) r_a1_, c_eD1 m_a0, c_eDs1 (c_gw g) m_a0, c_eD3 m_a0, c_eDs3 (c_gw g) m_a0, true_and, Option.some.injEq, exists_eq_left', c_xm, c_xn, c_xs]
  refine um_X5_countWaiting g _ a6_ _ m_a6_ h (fun x11_ S10_ h => ?_)
  refine ⟨_, rfl, ?_⟩
  try simp only [c_gk g m_a0 1 rfl, c_gk g m_a1_ 8 rfl, c_gk g m_a6_ 6 rfl, c_gr g r_a1_ 21 rfl, c_gN g r_a1_ 32 (by decide), c_eA r_a1_, c_eAs (c_gw g) r_a1_, c_eD1 m_a0, c_eDs1 (c_gw g) m_a0, c_eD3 m_a0, c_eDs3 (c_gw g) m_a0, true_and, Option.some.injEq, exists_eq_left', c_xm, c_xn, c_xs]
  obtain ⟨a12_, e_a12_, m_a12_, h⟩ := h
  have r_a12_ := c_gA g 1411 rfl (by decide) m_a12_
  refine ⟨a12_, e_a12_, ?_⟩
  try simp only [c_gk g m_a0 1 rfl, c_gk g m_a1_ 8 rfl, c_gk g m_a6_ 6 rfl, c_gk g m_a12_ 8 rfl, c_gr g r_a1_ 21 rfl, c_gN g r_a1_ 32 (by decide), c_eA r_a1_, c_eAs (c_gw g) r_a1_, c_gr g r_a12_ 21 rfl, c_gN g r_a12_ 32 (by decide), c_eA r_a12_, c_eAs (c_gw g) r_a12_, c_eD1 m_a0, c_eDs1 (c_gw g) m_a0, c_eD3 m_a0, c_eDs3 (c_gw g) m_a0, true_and, Option.some.injEq, exists_eq_left', c_xm, c_xn, c_xs]
  refine ⟨h.1, ?_⟩
  have h := h.2
  exact hQ _ _ h
def kb_X0_tellThing_36 (L : c_L) (S : c_S) (a0 : Nat) (x1 : Int32) (x2 : Int32) (r3 : Option Nat) (rs0 : Option Nat) (Q : Int32 → c_S → Prop) : Prop := (¬ rs0 = none → (∃ a18_ : Nat, rs0 = some a18_ ∧ (c_mk L 1 a18_ ∧ (kb_X0_tellThing_64 L S a0 x1 x2 (c_P S 3 a0) (11 : Int32) (c_I S 1603 (1000 + a18_)) Q)))) ∧ (rs0 = none → (∃ a24_ : Nat, r3 = some a24_ ∧ (c_mk L 10 a24_ ∧ (km_X10_value L S a24_ (fun x29_ S28_ => (kb_X0_tellThing_64 L S28_ a0 x1 x2 (c_P S 3 a0) (11 : Int32) x29_ Q))))))
set_option maxRecDepth 100000 in
set_option maxHeartbeats 4000000 in
theorem ub_X0_tellThing_36 {L : c_L} {T : q_S} (g : c_G L T) (S : c_S) (a0 : Nat) (x1 : Int32) (x2 : Int32) (r3 : Option Nat) (rs0 : Option Nat) (m_a0 : c_mk L 0 a0) {Q1 : Int32 → c_S → Prop} {Q : Option Value → q_S → Prop} (h : kb_X0_tellThing_36 L  S a0 x1 x2 r3 rs0 Q1) (hQ : ∀ (v : Int32) (K : c_S), Q1 v K → Q (some (.int v)) (c_E L K T)) : wb_X0_tellThing_36  (c_E L S T) (c_ob L 0 a0) x1 x2 (r3.map (c_ob L 10)) (rs0.map (c_ob L 1)) Q := by
  unfold wb_X0_tellThing_36
  unfold kb_X0_tellThing_36 at h
  try simp only [c_gk g m_a0 1 rfl, c_eD3 m_a0, c_eDs3 (c_gw g) m_a0, true_and, Option.some.injEq, exists_eq_left', c_xm, c_xn, c_xs]
  refine ⟨fun hc => ?_, fun hc => ?_⟩
  · have h := h.1 hc
    obtain ⟨a18_, e_a18_, m_a18_, h⟩ := h
    refine ⟨a18_, e_a18_, ?_⟩
    try simp only [c_gk g m_a0 1 rfl, c_gk g m_a18_ 2 rfl, c_eD3 m_a0, c_eDs3 (c_gw g) m_a0, true_and, Option.some.injEq, exists_eq_left', c_xm, c_xn, c_xs]
    have n204_a18_ := c_gQ g m_a18_
    try simp only [c_gk g m_a0 1 rfl, c_gk g m_a18_ 2 rfl, c_gk g n204_a18_ 9 rfl, c_gq g m_a18_, c_eD3 m_a0, c_eDs3 (c_gw g) m_a0, c_eI (f := 1603) n204_a18_ rfl, true_and, Option.some.injEq, exists_eq_left', c_xm, c_xn, c_xs]
    exact ub_X0_tellThing_64 g _ a0 _ _ (c_P S 3 a0) _ _ m_a0 h hQ
  · have h := h.2 hc
    obtain ⟨a24_, e_a24_, m_a24_, h⟩ := h
    refine ⟨a24_, e_a24_, ?_⟩
    try simp only [c_gk g m_a0 1 rfl, c_gk g m_a24_ 11 rfl, c_eD3 m_a0, c_eDs3 (c_gw g) m_a0, true_and, Option.some.injEq, exists_eq_left', c_xm, c_xn, c_xs]
    refine um_X10_value g _ a24_ m_a24_ h (fun x29_ S28_ h => ?_)
    refine ⟨_, rfl, ?_⟩
    try simp only [c_gk g m_a0 1 rfl, c_gk g m_a24_ 11 rfl, c_eD3 m_a0, c_eDs3 (c_gw g) m_a0, true_and, Option.some.injEq, exists_eq_left', c_xm, c_xn, c_xs]
    exact ub_X0_tellThing_64 g _ a0 _ _ (c_P S 3 a0) _ _ m_a0 h hQ
def km_X0_tellThing (L : c_L) (S : c_S) (a0 : Nat) (x1 : Int32) (x2 : Int32) (Q : Int32 → c_S → Prop) : Prop := ∃ a31_ : Nat, (c_P S 1 a0) = some a31_ ∧ (c_mk L 5 a31_ ∧ (km_X5_thingAt L S a31_ x1 x2 (fun r36_ S35_ => ((¬ r36_ = none → ((¬ x1 = (4 : Int32) → (kb_X0_tellThing_36 L S35_ a0 x1 x2 r36_ none Q)) ∧ (x1 = (4 : Int32) → (∃ a40_ : Nat, r36_ = some a40_ ∧ (c_mk L 10 a40_ ∧ (∃ a43_ : Nat, (c_P S35_ 0 a0) = some a43_ ∧ (c_mk L 6 a43_ ∧ (km_X6_channelAt L S35_ a43_ (c_I S35_ 2008 a40_) (fun r48_ S47_ => (kb_X0_tellThing_36 L S47_ a0 x1 x2 r36_ r48_ Q)))))))))) ∧ (r36_ = none → (Q (1 : Int32) S35_))))))
set_option maxRecDepth 100000 in
set_option maxHeartbeats 4000000 in
theorem um_X0_tellThing {L : c_L} {T : q_S} (g : c_G L T) (S : c_S) (a0 : Nat) (x1 : Int32) (x2 : Int32) (m_a0 : c_mk L 0 a0) {Q1 : Int32 → c_S → Prop} {Q : Option Value → q_S → Prop} (h : km_X0_tellThing L  S a0 x1 x2 Q1) (hQ : ∀ (v : Int32) (K : c_S), Q1 v K → Q (some (.int v)) (c_E L K T)) : wm_X0_tellThing  (c_E L S T) (c_ob L 0 a0) x1 x2 Q := by
  unfold wm_X0_tellThing
  unfold km_X0_tellThing at h
  try simp only [c_gk g m_a0 1 rfl, c_eD0 m_a0, c_eDs0 (c_gw g) m_a0, c_eD1 m_a0, c_eDs1 (c_gw g) m_a0, true_and, Option.some.injEq, exists_eq_left', c_xm, c_xn, c_xs]
  obtain ⟨a31_, e_a31_, m_a31_, h⟩ := h
  refine ⟨a31_, e_a31_, ?_⟩
  try simp only [c_gk g m_a0 1 rfl, c_gk g m_a31_ 6 rfl, c_eD0 m_a0, c_eDs0 (c_gw g) m_a0, c_eD1 m_a0, c_eDs1 (c_gw g) m_a0, true_and, Option.some.injEq, exists_eq_left', c_xm, c_xn, c_xs]
  refine um_X5_thingAt g _ a31_ _ _ m_a31_ h (fun r36_ S35_ h => ?_)
  refine ⟨_, rfl, ?_⟩
  try simp only [c_gk g m_a0 1 rfl, c_gk g m_a31_ 6 rfl, c_eD0 m_a0, c_eDs0 (c_gw g) m_a0, c_eD1 m_a0, c_eDs1 (c_gw g) m_a0, true_and, Option.some.injEq, exists_eq_left', c_xm, c_xn, c_xs]
  refine ⟨fun hc => ?_, fun hc => ?_⟩
  · have h := h.1 hc
    refine ⟨fun hc => ?_, fun hc => ?_⟩
    · have h := h.1 hc
      exact ub_X0_tellThing_36 g _ a0 _ _ r36_ none m_a0 h hQ
    · have h := h.2 hc
      obtain ⟨a40_, e_a40_, m_a40_, h⟩ := h
      refine ⟨a40_, e_a40_, ?_⟩
      try simp only [c_gk g m_a0 1 rfl, c_gk g m_a31_ 6 rfl, c_gk g m_a40_ 11 rfl, c_eD0 m_a0, c_eDs0 (c_gw g) m_a0, c_eD1 m_a0, c_eDs1 (c_gw g) m_a0, c_eI (f := 2008) m_a40_ rfl, true_and, Option.some.injEq, exists_eq_left', c_xm, c_xn, c_xs]
      obtain ⟨a43_, e_a43_, m_a43_, h⟩ := h
      refine ⟨a43_, e_a43_, ?_⟩
      try simp only [c_gk g m_a0 1 rfl, c_gk g m_a31_ 6 rfl, c_gk g m_a40_ 11 rfl, c_gk g m_a43_ 7 rfl, c_eD0 m_a0, c_eDs0 (c_gw g) m_a0, c_eD1 m_a0, c_eDs1 (c_gw g) m_a0, c_eI (f := 2008) m_a40_ rfl, true_and, Option.some.injEq, exists_eq_left', c_xm, c_xn, c_xs]
      refine um_X6_channelAt g _ a43_ _ m_a43_ h (fun r48_ S47_ h => ?_)
      refine ⟨_, rfl, ?_⟩
      try simp only [c_gk g m_a0 1 rfl, c_gk g m_a31_ 6 rfl, c_gk g m_a40_ 11 rfl, c_gk g m_a43_ 7 rfl, c_eD0 m_a0, c_eDs0 (c_gw g) m_a0, c_eD1 m_a0, c_eDs1 (c_gw g) m_a0, c_eI (f := 2008) m_a40_ rfl, true_and, Option.some.injEq, exists_eq_left', c_xm, c_xn, c_xs]
      exact ub_X0_tellThing_36 g _ a0 _ _ r36_ r48_ m_a0 h hQ
  · have h := h.2 hc
    exact hQ _ _ h
def kb_X6_frameTicks_22 (L : c_L) (S : c_S) (xs0 : Int32) (Q : Int32 → c_S → Prop) : Prop := Q xs0 S
set_option maxRecDepth 100000 in
set_option maxHeartbeats 4000000 in
theorem ub_X6_frameTicks_22 {L : c_L} {T : q_S} (g : c_G L T) (S : c_S) (xs0 : Int32)  {Q1 : Int32 → c_S → Prop} {Q : Option Value → q_S → Prop} (h : kb_X6_frameTicks_22 L  S xs0 Q1) (hQ : ∀ (v : Int32) (K : c_S), Q1 v K → Q (some (.int v)) (c_E L K T)) : wb_X6_frameTicks_22  (c_E L S T) xs0 Q := by
  unfold wb_X6_frameTicks_22
  unfold kb_X6_frameTicks_22 at h
  try simp only [true_and, Option.some.injEq, exists_eq_left', c_xm, c_xn, c_xs]
  exact hQ _ _ h
def km_X6_frameTicks (L : c_L) (S : c_S) (a0 : Nat) (Q : Int32 → c_S → Prop) : Prop := (¬ (c_I S 1209 a0) = 0 → (vp_in ((c_I S 1209 a0) - (1 : Int32)) 24 ∧ (kb_X6_frameTicks_22 L S (c_A S 1208 a0 ((c_I S 1209 a0) - (1 : Int32)).toNatClampNeg) Q))) ∧ ((c_I S 1209 a0) = 0 → (kb_X6_frameTicks_22 L S (0 : Int32) Q))
set_option maxRecDepth 100000 in
set_option maxHeartbeats 4000000 in
theorem um_X6_frameTicks {L : c_L} {T : q_S} (g : c_G L T) (S : c_S) (a0 : Nat) (m_a0 : c_mk L 6 a0) {Q1 : Int32 → c_S → Prop} {Q : Option Value → q_S → Prop} (h : km_X6_frameTicks L  S a0 Q1) (hQ : ∀ (v : Int32) (K : c_S), Q1 v K → Q (some (.int v)) (c_E L K T)) : wm_X6_frameTicks  (c_E L S T) (c_ob L 6 a0) Q := by
  unfold wm_X6_frameTicks
  unfold km_X6_frameTicks at h
  try simp only [c_gk g m_a0 7 rfl, c_eI (f := 1209) m_a0 rfl, true_and, Option.some.injEq, exists_eq_left', c_xm, c_xn, c_xs]
  refine ⟨fun hc => ?_, fun hc => ?_⟩
  · have h := h.1 hc
    have n1208_a0 := c_gA g 1208 rfl (by decide) m_a0
    try simp only [c_gk g m_a0 7 rfl, c_gr g n1208_a0 21 rfl, c_gN g n1208_a0 24 (by decide), c_eA n1208_a0, c_eAs (c_gw g) n1208_a0, c_ga g 1208 rfl rfl (by decide) m_a0, c_eI (f := 1209) m_a0 rfl, true_and, Option.some.injEq, exists_eq_left', c_xm, c_xn, c_xs]
    refine ⟨h.1, ?_⟩
    have h := h.2
    exact ub_X6_frameTicks_22 g _ _  h hQ
  · have h := h.2 hc
    exact ub_X6_frameTicks_22 g _ _  h hQ
def kb_X6_tickOfFrame_19 (L : c_L) (S : c_S) (xs0 : Int32) (Q : Int32 → c_S → Prop) : Prop := Q xs0 S
set_option maxRecDepth 100000 in
set_option maxHeartbeats 4000000 in
theorem ub_X6_tickOfFrame_19 {L : c_L} {T : q_S} (g : c_G L T) (S : c_S) (xs0 : Int32)  {Q1 : Int32 → c_S → Prop} {Q : Option Value → q_S → Prop} (h : kb_X6_tickOfFrame_19 L  S xs0 Q1) (hQ : ∀ (v : Int32) (K : c_S), Q1 v K → Q (some (.int v)) (c_E L K T)) : wb_X6_tickOfFrame_19  (c_E L S T) xs0 Q := by
  unfold wb_X6_tickOfFrame_19
  unfold kb_X6_tickOfFrame_19 at h
  try simp only [true_and, Option.some.injEq, exists_eq_left', c_xm, c_xn, c_xs]
  exact hQ _ _ h
def km_X6_tickOfFrame (L : c_L) (S : c_S) (a0 : Nat) (Q : Int32 → c_S → Prop) : Prop := km_X6_frameTicks L S a0 (fun x4_ S3_ => ((0 < x4_ → ((¬ x4_ = 0) ∧ (kb_X6_tickOfFrame_19 L S3_ ((c_I S3_ 1211 a0) - (c_I S3_ 1211 a0) / x4_ * x4_) Q))) ∧ (¬ 0 < x4_ → (kb_X6_tickOfFrame_19 L S3_ (0 : Int32) Q))))
set_option maxRecDepth 100000 in
set_option maxHeartbeats 4000000 in
theorem um_X6_tickOfFrame {L : c_L} {T : q_S} (g : c_G L T) (S : c_S) (a0 : Nat) (m_a0 : c_mk L 6 a0) {Q1 : Int32 → c_S → Prop} {Q : Option Value → q_S → Prop} (h : km_X6_tickOfFrame L  S a0 Q1) (hQ : ∀ (v : Int32) (K : c_S), Q1 v K → Q (some (.int v)) (c_E L K T)) : wm_X6_tickOfFrame  (c_E L S T) (c_ob L 6 a0) Q := by
  unfold wm_X6_tickOfFrame
  unfold km_X6_tickOfFrame at h
  try simp only [c_gk g m_a0 7 rfl, c_eI (f := 1211) m_a0 rfl, true_and, Option.some.injEq, exists_eq_left', c_xm, c_xn, c_xs]
  refine um_X6_frameTicks g _ a0 m_a0 h (fun x4_ S3_ h => ?_)
  refine ⟨_, rfl, ?_⟩
  try simp only [c_gk g m_a0 7 rfl, c_eI (f := 1211) m_a0 rfl, true_and, Option.some.injEq, exists_eq_left', c_xm, c_xn, c_xs]
  refine ⟨fun hc => ?_, fun hc => ?_⟩
  · have h := h.1 hc
    refine ⟨h.1, ?_⟩
    have h := h.2
    exact ub_X6_tickOfFrame_19 g _ _  h hQ
  · have h := h.2 hc
    exact ub_X6_tickOfFrame_19 g _ _  h hQ
def kb_X6_windowNow_7 (L : c_L) (B7 : c_S → Nat → Int32 → Int32 → Prop) (S : c_S) (a0 : Nat) (x1 : Int32) (x2 : Int32) (Q : Int32 → c_S → Prop) : Prop := ((c_I S 1209 a0) ≤ x2 → (Q (-1 : Int32) S)) ∧ (¬ (c_I S 1209 a0) ≤ x2 → (vp_in x2 24 ∧ (((c_A S 1208 a0 x2.toNatClampNeg) ≤ x1 → (B7 S a0 x1 (x2 + 1))) ∧ (¬ (c_A S 1208 a0 x2.toNatClampNeg) ≤ x1 → (Q x2 S)))))
set_option maxRecDepth 100000 in
set_option maxHeartbeats 4000000 in
theorem ub_X6_windowNow_7 {L : c_L} {T : q_S} (g : c_G L T) {OB7 : q_S → Nat → Int32 → Int32 → Prop} {B7 : c_S → Nat → Int32 → Int32 → Prop} (hB7 : ∀ (S1 : c_S) (a0 : Nat) (x1 : Int32) (x2 : Int32), c_mk L 6 a0 → B7 S1 a0 x1 x2 → OB7 (c_E L S1 T) (c_ob L 6 a0) x1 x2) (S : c_S) (a0 : Nat) (x1 : Int32) (x2 : Int32) (m_a0 : c_mk L 6 a0) {Q1 : Int32 → c_S → Prop} {Q : Option Value → q_S → Prop} (h : kb_X6_windowNow_7 L B7 S a0 x1 x2 Q1) (hQ : ∀ (v : Int32) (K : c_S), Q1 v K → Q (some (.int v)) (c_E L K T)) : wb_X6_windowNow_7 OB7 (c_E L S T) (c_ob L 6 a0) x1 x2 Q := by
  unfold wb_X6_windowNow_7
  unfold kb_X6_windowNow_7 at h
  try simp only [c_gk g m_a0 7 rfl, c_eI (f := 1209) m_a0 rfl, true_and, Option.some.injEq, exists_eq_left', c_xm, c_xn, c_xs]
  refine ⟨fun hc => ?_, fun hc => ?_⟩
  · have h := h.1 hc
    exact hQ _ _ h
  · have h := h.2 hc
    have n1208_a0 := c_gA g 1208 rfl (by decide) m_a0
    try simp only [c_gk g m_a0 7 rfl, c_gr g n1208_a0 21 rfl, c_gN g n1208_a0 24 (by decide), c_eA n1208_a0, c_eAs (c_gw g) n1208_a0, c_ga g 1208 rfl rfl (by decide) m_a0, c_eI (f := 1209) m_a0 rfl, true_and, Option.some.injEq, exists_eq_left', c_xm, c_xn, c_xs]
    refine ⟨h.1, ?_⟩
    have h := h.2
    refine ⟨fun hc => ?_, fun hc => ?_⟩
    · have h := h.1 hc
      exact hB7 _ a0 _ _ m_a0 h
    · have h := h.2 hc
      exact hQ _ _ h
def kl_X6_windowNow_7 (L : c_L)  : Nat → c_S → Nat → Int32 → Int32 → (Int32 → c_S → Prop) → Prop
  | 0, _, _, _, _, _ => False
  | n + 1, S, a0, x1, x2, Q => kb_X6_windowNow_7 L (fun S a0 x1 x2 => kl_X6_windowNow_7 L n S a0 x1 x2 Q) S a0 x1 x2 Q
theorem ul_X6_windowNow_7 {L : c_L} {T : q_S} (g : c_G L T) (n : Nat) (S : c_S) (a0 : Nat) (x1 : Int32) (x2 : Int32) (m_a0 : c_mk L 6 a0) {Q1 : Int32 → c_S → Prop} {Q : Option Value → q_S → Prop} (h : kl_X6_windowNow_7 L  n S a0 x1 x2 Q1) (hQ : ∀ (v : Int32) (K : c_S), Q1 v K → Q (some (.int v)) (c_E L K T)) : wl_X6_windowNow_7  n (c_E L S T) (c_ob L 6 a0) x1 x2 Q := by
  induction n generalizing S a0 x1 x2 with
  | zero => exact h.elim
  | succ n ih => exact ub_X6_windowNow_7 g (fun u0 u1 u2 u3 w0 h => ih u0 u1 u2 u3 w0 h) S a0 x1 x2 m_a0 h hQ
def km_X6_windowNow (L : c_L) (S : c_S) (a0 : Nat) (Q : Int32 → c_S → Prop) : Prop := km_X6_tickOfFrame L S a0 (fun x11_ S10_ => (∃ n12_ : Nat, kl_X6_windowNow_7 L n12_ S10_ a0 x11_ (0 : Int32) Q))
set_option maxRecDepth 100000 in
set_option maxHeartbeats 4000000 in
theorem um_X6_windowNow {L : c_L} {T : q_S} (g : c_G L T) (S : c_S) (a0 : Nat) (m_a0 : c_mk L 6 a0) {Q1 : Int32 → c_S → Prop} {Q : Option Value → q_S → Prop} (h : km_X6_windowNow L  S a0 Q1) (hQ : ∀ (v : Int32) (K : c_S), Q1 v K → Q (some (.int v)) (c_E L K T)) : wm_X6_windowNow  (c_E L S T) (c_ob L 6 a0) Q := by
  unfold wm_X6_windowNow
  unfold km_X6_windowNow at h
  try simp only [c_gk g m_a0 7 rfl, true_and, Option.some.injEq, exists_eq_left', c_xm, c_xn, c_xs]
  refine um_X6_tickOfFrame g _ a0 m_a0 h (fun x11_ S10_ h => ?_)
  refine ⟨_, rfl, ?_⟩
  try simp only [c_gk g m_a0 7 rfl, true_and, Option.some.injEq, exists_eq_left', c_xm, c_xn, c_xs]
  obtain ⟨n12_, h⟩ := h
  refine ⟨n12_, ?_⟩
  exact ul_X6_windowNow_7 g n12_ _ a0 _ _ m_a0 h hQ
def kb_X6_ticksLeft_25 (L : c_L) (S : c_S) (xs0 : Int32) (Q : Int32 → c_S → Prop) : Prop := Q xs0 S
set_option maxRecDepth 100000 in
set_option maxHeartbeats 4000000 in
theorem ub_X6_ticksLeft_25 {L : c_L} {T : q_S} (g : c_G L T) (S : c_S) (xs0 : Int32)  {Q1 : Int32 → c_S → Prop} {Q : Option Value → q_S → Prop} (h : kb_X6_ticksLeft_25 L  S xs0 Q1) (hQ : ∀ (v : Int32) (K : c_S), Q1 v K → Q (some (.int v)) (c_E L K T)) : wb_X6_ticksLeft_25  (c_E L S T) xs0 Q := by
  unfold wb_X6_ticksLeft_25
  unfold kb_X6_ticksLeft_25 at h
  try simp only [true_and, Option.some.injEq, exists_eq_left', c_xm, c_xn, c_xs]
  exact hQ _ _ h
def km_X6_ticksLeft (L : c_L) (S : c_S) (a0 : Nat) (Q : Int32 → c_S → Prop) : Prop := km_X6_windowNow L S a0 (fun x4_ S3_ => ((¬ x4_ = (-1 : Int32) → (vp_in x4_ 24 ∧ (km_X6_tickOfFrame L S3_ a0 (fun x13_ S12_ => (kb_X6_ticksLeft_25 L S12_ ((c_A S3_ 1208 a0 x4_.toNatClampNeg) - x13_) Q))))) ∧ (x4_ = (-1 : Int32) → (kb_X6_ticksLeft_25 L S3_ (0 : Int32) Q))))
set_option maxRecDepth 100000 in
set_option maxHeartbeats 4000000 in
theorem um_X6_ticksLeft {L : c_L} {T : q_S} (g : c_G L T) (S : c_S) (a0 : Nat) (m_a0 : c_mk L 6 a0) {Q1 : Int32 → c_S → Prop} {Q : Option Value → q_S → Prop} (h : km_X6_ticksLeft L  S a0 Q1) (hQ : ∀ (v : Int32) (K : c_S), Q1 v K → Q (some (.int v)) (c_E L K T)) : wm_X6_ticksLeft  (c_E L S T) (c_ob L 6 a0) Q := by
  unfold wm_X6_ticksLeft
  unfold km_X6_ticksLeft at h
  try simp only [c_gk g m_a0 7 rfl, true_and, Option.some.injEq, exists_eq_left', c_xm, c_xn, c_xs]
  refine um_X6_windowNow g _ a0 m_a0 h (fun x4_ S3_ h => ?_)
  refine ⟨_, rfl, ?_⟩
  try simp only [c_gk g m_a0 7 rfl, true_and, Option.some.injEq, exists_eq_left', c_xm, c_xn, c_xs]
  refine ⟨fun hc => ?_, fun hc => ?_⟩
  · have h := h.1 hc
    have n1208_a0 := c_gA g 1208 rfl (by decide) m_a0
    try simp only [c_gk g m_a0 7 rfl, c_gr g n1208_a0 21 rfl, c_gN g n1208_a0 24 (by decide), c_eA n1208_a0, c_eAs (c_gw g) n1208_a0, c_ga g 1208 rfl rfl (by decide) m_a0, true_and, Option.some.injEq, exists_eq_left', c_xm, c_xn, c_xs]
    refine ⟨h.1, ?_⟩
    have h := h.2
    refine um_X6_tickOfFrame g _ a0 m_a0 h (fun x13_ S12_ h => ?_)
    refine ⟨_, rfl, ?_⟩
    try simp only [c_gk g m_a0 7 rfl, c_gr g n1208_a0 21 rfl, c_gN g n1208_a0 24 (by decide), c_eA n1208_a0, c_eAs (c_gw g) n1208_a0, c_ga g 1208 rfl rfl (by decide) m_a0, true_and, Option.some.injEq, exists_eq_left', c_xm, c_xn, c_xs]
    exact ub_X6_ticksLeft_25 g _ _  h hQ
  · have h := h.2 hc
    exact ub_X6_ticksLeft_25 g _ _  h hQ
def kb_X6_ticksBetween_76 (L : c_L) (B9 : c_S → Nat → Int32 → Int32 → Int32 → Prop) (S : c_S) (a0 : Nat) (x1 : Int32) (x3 : Int32) (xs0 : Int32) (xs1 : Int32) (xs2 : Int32) (Q : Int32 → c_S → Prop) : Prop := B9 S a0 x1 (xs0 + (xs1 - xs2)) (x3 + 1)
set_option maxRecDepth 100000 in
set_option maxHeartbeats 4000000 in
theorem ub_X6_ticksBetween_76 {L : c_L} {T : q_S} (g : c_G L T) {OB9 : q_S → Nat → Int32 → Int32 → Int32 → Prop} {B9 : c_S → Nat → Int32 → Int32 → Int32 → Prop} (hB9 : ∀ (S1 : c_S) (a0 : Nat) (x1 : Int32) (x2 : Int32) (x3 : Int32), c_mk L 6 a0 → B9 S1 a0 x1 x2 x3 → OB9 (c_E L S1 T) (c_ob L 6 a0) x1 x2 x3) (S : c_S) (a0 : Nat) (x1 : Int32) (x3 : Int32) (xs0 : Int32) (xs1 : Int32) (xs2 : Int32) (m_a0 : c_mk L 6 a0) {Q1 : Int32 → c_S → Prop} {Q : Option Value → q_S → Prop} (h : kb_X6_ticksBetween_76 L B9 S a0 x1 x3 xs0 xs1 xs2 Q1) (hQ : ∀ (v : Int32) (K : c_S), Q1 v K → Q (some (.int v)) (c_E L K T)) : wb_X6_ticksBetween_76 OB9 (c_E L S T) (c_ob L 6 a0) x1 x3 xs0 xs1 xs2 Q := by
  unfold wb_X6_ticksBetween_76
  unfold kb_X6_ticksBetween_76 at h
  try simp only [c_gk g m_a0 7 rfl, true_and, Option.some.injEq, exists_eq_left', c_xm, c_xn, c_xs]
  exact hB9 _ a0 _ _ _ m_a0 h
def kb_X6_ticksBetween_85 (L : c_L) (S : c_S) (x2 : Int32) (Q : Int32 → c_S → Prop) : Prop := Q x2 S
set_option maxRecDepth 100000 in
set_option maxHeartbeats 4000000 in
theorem ub_X6_ticksBetween_85 {L : c_L} {T : q_S} (g : c_G L T) (S : c_S) (x2 : Int32)  {Q1 : Int32 → c_S → Prop} {Q : Option Value → q_S → Prop} (h : kb_X6_ticksBetween_85 L  S x2 Q1) (hQ : ∀ (v : Int32) (K : c_S), Q1 v K → Q (some (.int v)) (c_E L K T)) : wb_X6_ticksBetween_85  (c_E L S T) x2 Q := by
  unfold wb_X6_ticksBetween_85
  unfold kb_X6_ticksBetween_85 at h
  try simp only [true_and, Option.some.injEq, exists_eq_left', c_xm, c_xn, c_xs]
  exact hQ _ _ h
def kb_X6_ticksBetween_9 (L : c_L) (B9 : c_S → Nat → Int32 → Int32 → Int32 → Prop) (S : c_S) (a0 : Nat) (x1 : Int32) (x2 : Int32) (x3 : Int32) (Q : Int32 → c_S → Prop) : Prop := ((c_I S 1209 a0) ≤ x3 → (kb_X6_ticksBetween_85 L S x2 Q)) ∧ (¬ (c_I S 1209 a0) ≤ x3 → ((x1 = (-1 : Int32) → (kb_X6_ticksBetween_85 L S x2 Q)) ∧ (¬ x1 = (-1 : Int32) → ((¬ (c_I S 1209 a0) = 0) ∧ (vp_in ((x1 + x3) - (x1 + x3) / (c_I S 1209 a0) * (c_I S 1209 a0)) 24 ∧ (vp_in x1 24 ∧ ((¬ (c_A S 1207 a0 ((x1 + x3) - (x1 + x3) / (c_I S 1209 a0) * (c_I S 1209 a0)).toNatClampNeg) = (c_A S 1207 a0 x1.toNatClampNeg) → (vp_in ((x1 + x3) - (x1 + x3) / (c_I S 1209 a0) * (c_I S 1209 a0)) 24 ∧ ((¬ ((x1 + x3) - (x1 + x3) / (c_I S 1209 a0) * (c_I S 1209 a0)) = 0 → (vp_in (((x1 + x3) - (x1 + x3) / (c_I S 1209 a0) * (c_I S 1209 a0)) - (1 : Int32)) 24 ∧ (kb_X6_ticksBetween_76 L B9 S a0 x1 x3 x2 (c_A S 1208 a0 ((x1 + x3) - (x1 + x3) / (c_I S 1209 a0) * (c_I S 1209 a0)).toNatClampNeg) (c_A S 1208 a0 (((x1 + x3) - (x1 + x3) / (c_I S 1209 a0) * (c_I S 1209 a0)) - (1 : Int32)).toNatClampNeg) Q))) ∧ (((x1 + x3) - (x1 + x3) / (c_I S 1209 a0) * (c_I S 1209 a0)) = 0 → (kb_X6_ticksBetween_76 L B9 S a0 x1 x3 x2 (c_A S 1208 a0 ((x1 + x3) - (x1 + x3) / (c_I S 1209 a0) * (c_I S 1209 a0)).toNatClampNeg) (0 : Int32) Q))))) ∧ ((c_A S 1207 a0 ((x1 + x3) - (x1 + x3) / (c_I S 1209 a0) * (c_I S 1209 a0)).toNatClampNeg) = (c_A S 1207 a0 x1.toNatClampNeg) → (Q x2 S)))))))))
set_option maxRecDepth 100000 in
set_option maxHeartbeats 4000000 in
theorem ub_X6_ticksBetween_9 {L : c_L} {T : q_S} (g : c_G L T) {OB9 : q_S → Nat → Int32 → Int32 → Int32 → Prop} {B9 : c_S → Nat → Int32 → Int32 → Int32 → Prop} (hB9 : ∀ (S1 : c_S) (a0 : Nat) (x1 : Int32) (x2 : Int32) (x3 : Int32), c_mk L 6 a0 → B9 S1 a0 x1 x2 x3 → OB9 (c_E L S1 T) (c_ob L 6 a0) x1 x2 x3) (S : c_S) (a0 : Nat) (x1 : Int32) (x2 : Int32) (x3 : Int32) (m_a0 : c_mk L 6 a0) {Q1 : Int32 → c_S → Prop} {Q : Option Value → q_S → Prop} (h : kb_X6_ticksBetween_9 L B9 S a0 x1 x2 x3 Q1) (hQ : ∀ (v : Int32) (K : c_S), Q1 v K → Q (some (.int v)) (c_E L K T)) : wb_X6_ticksBetween_9 OB9 (c_E L S T) (c_ob L 6 a0) x1 x2 x3 Q := by
  unfold wb_X6_ticksBetween_9
  unfold kb_X6_ticksBetween_9 at h
  try simp only [c_gk g m_a0 7 rfl, c_eI (f := 1209) m_a0 rfl, true_and, Option.some.injEq, exists_eq_left', c_xm, c_xn, c_xs]
  refine ⟨fun hc => ?_, fun hc => ?_⟩
  · have h := h.1 hc
    exact ub_X6_ticksBetween_85 g _ _  h hQ
  · have h := h.2 hc
    refine ⟨fun hc => ?_, fun hc => ?_⟩
    · have h := h.1 hc
      exact ub_X6_ticksBetween_85 g _ _  h hQ
    · have h := h.2 hc
      refine ⟨h.1, ?_⟩
      have h := h.2
      have n1207_a0 := c_gA g 1207 rfl (by decide) m_a0
      try simp only [c_gk g m_a0 7 rfl, c_gr g n1207_a0 21 rfl, c_gN g n1207_a0 24 (by decide), c_eA n1207_a0, c_eAs (c_gw g) n1207_a0, c_ga g 1207 rfl rfl (by decide) m_a0, c_eI (f := 1209) m_a0 rfl, true_and, Option.some.injEq, exists_eq_left', c_xm, c_xn, c_xs]
      refine ⟨h.1, ?_⟩
      have h := h.2
      refine ⟨h.1, ?_⟩
      have h := h.2
      refine ⟨fun hc => ?_, fun hc => ?_⟩
      · have h := h.1 hc
        have n1208_a0 := c_gA g 1208 rfl (by decide) m_a0
        try simp only [c_gk g m_a0 7 rfl, c_gr g n1207_a0 21 rfl, c_gN g n1207_a0 24 (by decide), c_eA n1207_a0, c_eAs (c_gw g) n1207_a0, c_gr g n1208_a0 21 rfl, c_gN g n1208_a0 24 (by decide), c_eA n1208_a0, c_eAs (c_gw g) n1208_a0, c_ga g 1207 rfl rfl (by decide) m_a0, c_ga g 1208 rfl rfl (by decide) m_a0, c_eI (f := 1209) m_a0 rfl, true_and, Option.some.injEq, exists_eq_left', c_xm, c_xn, c_xs]
        refine ⟨h.1, ?_⟩
        have h := h.2
        refine ⟨fun hc => ?_, fun hc => ?_⟩
        · have h := h.1 hc
          refine ⟨h.1, ?_⟩
          have h := h.2
          exact ub_X6_ticksBetween_76 g hB9 _ a0 _ _ _ _ _ m_a0 h hQ
        · have h := h.2 hc
          exact ub_X6_ticksBetween_76 g hB9 _ a0 _ _ _ _ _ m_a0 h hQ
      · have h := h.2 hc
        exact hQ _ _ h
def kl_X6_ticksBetween_9 (L : c_L)  : Nat → c_S → Nat → Int32 → Int32 → Int32 → (Int32 → c_S → Prop) → Prop
  | 0, _, _, _, _, _, _ => False
  | n + 1, S, a0, x1, x2, x3, Q => kb_X6_ticksBetween_9 L (fun S a0 x1 x2 x3 => kl_X6_ticksBetween_9 L n S a0 x1 x2 x3 Q) S a0 x1 x2 x3 Q
theorem ul_X6_ticksBetween_9 {L : c_L} {T : q_S} (g : c_G L T) (n : Nat) (S : c_S) (a0 : Nat) (x1 : Int32) (x2 : Int32) (x3 : Int32) (m_a0 : c_mk L 6 a0) {Q1 : Int32 → c_S → Prop} {Q : Option Value → q_S → Prop} (h : kl_X6_ticksBetween_9 L  n S a0 x1 x2 x3 Q1) (hQ : ∀ (v : Int32) (K : c_S), Q1 v K → Q (some (.int v)) (c_E L K T)) : wl_X6_ticksBetween_9  n (c_E L S T) (c_ob L 6 a0) x1 x2 x3 Q := by
  induction n generalizing S a0 x1 x2 x3 with
  | zero => exact h.elim
  | succ n ih => exact ub_X6_ticksBetween_9 g (fun u0 u1 u2 u3 u4 w0 h => ih u0 u1 u2 u3 u4 w0 h) S a0 x1 x2 x3 m_a0 h hQ
def km_X6_ticksBetween (L : c_L) (S : c_S) (a0 : Nat) (Q : Int32 → c_S → Prop) : Prop := km_X6_windowNow L S a0 (fun x20_ S19_ => (∃ n21_ : Nat, kl_X6_ticksBetween_9 L n21_ S19_ a0 x20_ (0 : Int32) (1 : Int32) Q))
set_option maxRecDepth 100000 in
set_option maxHeartbeats 4000000 in
theorem um_X6_ticksBetween {L : c_L} {T : q_S} (g : c_G L T) (S : c_S) (a0 : Nat) (m_a0 : c_mk L 6 a0) {Q1 : Int32 → c_S → Prop} {Q : Option Value → q_S → Prop} (h : km_X6_ticksBetween L  S a0 Q1) (hQ : ∀ (v : Int32) (K : c_S), Q1 v K → Q (some (.int v)) (c_E L K T)) : wm_X6_ticksBetween  (c_E L S T) (c_ob L 6 a0) Q := by
  unfold wm_X6_ticksBetween
  unfold km_X6_ticksBetween at h
  try simp only [c_gk g m_a0 7 rfl, true_and, Option.some.injEq, exists_eq_left', c_xm, c_xn, c_xs]
  refine um_X6_windowNow g _ a0 m_a0 h (fun x20_ S19_ h => ?_)
  refine ⟨_, rfl, ?_⟩
  try simp only [c_gk g m_a0 7 rfl, true_and, Option.some.injEq, exists_eq_left', c_xm, c_xn, c_xs]
  obtain ⟨n21_, h⟩ := h
  refine ⟨n21_, ?_⟩
  exact ul_X6_ticksBetween_9 g n21_ _ a0 _ _ _ m_a0 h hQ
def kb_X4_holds_17 (L : c_L) (S : c_S) (xs0 : Int32) (Q : Int32 → c_S → Prop) : Prop := narrow .boolean (.int xs0) = .int xs0 ∧ (Q xs0 S)
set_option maxRecDepth 100000 in
set_option maxHeartbeats 4000000 in
theorem ub_X4_holds_17 {L : c_L} {T : q_S} (g : c_G L T) (S : c_S) (xs0 : Int32)  {Q1 : Int32 → c_S → Prop} {Q : Option Value → q_S → Prop} (h : kb_X4_holds_17 L  S xs0 Q1) (hQ : ∀ (v : Int32) (K : c_S), Q1 v K → Q (some (.int v)) (c_E L K T)) : wb_X4_holds_17  (c_E L S T) xs0 Q := by
  unfold wb_X4_holds_17
  unfold kb_X4_holds_17 at h
  try simp only [true_and, Option.some.injEq, exists_eq_left', c_xm, c_xn, c_xs]
  refine ⟨h.1, ?_⟩
  have h := h.2
  exact hQ _ _ h
def kb_X4_holds_16 (L : c_L) (S : c_S) (Q : Int32 → c_S → Prop) : Prop := kb_X4_holds_17 L S (0 : Int32) Q
set_option maxRecDepth 100000 in
set_option maxHeartbeats 4000000 in
theorem ub_X4_holds_16 {L : c_L} {T : q_S} (g : c_G L T) (S : c_S)  {Q1 : Int32 → c_S → Prop} {Q : Option Value → q_S → Prop} (h : kb_X4_holds_16 L  S Q1) (hQ : ∀ (v : Int32) (K : c_S), Q1 v K → Q (some (.int v)) (c_E L K T)) : wb_X4_holds_16  (c_E L S T) Q := by
  unfold wb_X4_holds_16
  unfold kb_X4_holds_16 at h
  try simp only [true_and, Option.some.injEq, exists_eq_left', c_xm, c_xn, c_xs]
  exact ub_X4_holds_17 g _ _  h hQ
def km_X4_holds (L : c_L) (S : c_S) (a0 : Nat) (x1 : Int32) (Q : Int32 → c_S → Prop) : Prop := (x1 < 0 → (kb_X4_holds_16 L S Q)) ∧ (¬ x1 < 0 → (((c_I S 800 a0) ≤ x1 → (kb_X4_holds_16 L S Q)) ∧ (¬ (c_I S 800 a0) ≤ x1 → (kb_X4_holds_17 L S (1 : Int32) Q))))
set_option maxRecDepth 100000 in
set_option maxHeartbeats 4000000 in
theorem um_X4_holds {L : c_L} {T : q_S} (g : c_G L T) (S : c_S) (a0 : Nat) (x1 : Int32) (m_a0 : c_mk L 4 a0) {Q1 : Int32 → c_S → Prop} {Q : Option Value → q_S → Prop} (h : km_X4_holds L  S a0 x1 Q1) (hQ : ∀ (v : Int32) (K : c_S), Q1 v K → Q (some (.int v)) (c_E L K T)) : wm_X4_holds  (c_E L S T) (c_ob L 4 a0) x1 Q := by
  unfold wm_X4_holds
  unfold km_X4_holds at h
  try simp only [c_gk g m_a0 5 rfl, c_eI (f := 800) m_a0 rfl, true_and, Option.some.injEq, exists_eq_left', c_xm, c_xn, c_xs]
  refine ⟨fun hc => ?_, fun hc => ?_⟩
  · have h := h.1 hc
    exact ub_X4_holds_16 g _  h hQ
  · have h := h.2 hc
    refine ⟨fun hc => ?_, fun hc => ?_⟩
    · have h := h.1 hc
      exact ub_X4_holds_16 g _  h hQ
    · have h := h.2 hc
      exact ub_X4_holds_17 g _ _  h hQ
def kb_X4_maskOf_17 (L : c_L) (S : c_S) (xs0 : Int32) (Q : Int32 → c_S → Prop) : Prop := Q xs0 S
set_option maxRecDepth 100000 in
set_option maxHeartbeats 4000000 in
theorem ub_X4_maskOf_17 {L : c_L} {T : q_S} (g : c_G L T) (S : c_S) (xs0 : Int32)  {Q1 : Int32 → c_S → Prop} {Q : Option Value → q_S → Prop} (h : kb_X4_maskOf_17 L  S xs0 Q1) (hQ : ∀ (v : Int32) (K : c_S), Q1 v K → Q (some (.int v)) (c_E L K T)) : wb_X4_maskOf_17  (c_E L S T) xs0 Q := by
  unfold wb_X4_maskOf_17
  unfold kb_X4_maskOf_17 at h
  try simp only [true_and, Option.some.injEq, exists_eq_left', c_xm, c_xn, c_xs]
  exact hQ _ _ h
def km_X4_maskOf (L : c_L) (S : c_S) (x0 : Int32) (Q : Int32 → c_S → Prop) : Prop := (x0 < (4 : Int32) → (kb_X4_maskOf_17 L S (((1 : Int32) <<< (((8 : Int32) * x0) &&& 31)) - (1 : Int32)) Q)) ∧ (¬ x0 < (4 : Int32) → (kb_X4_maskOf_17 L S (-1 : Int32) Q))
set_option maxRecDepth 100000 in
set_option maxHeartbeats 4000000 in
theorem um_X4_maskOf {L : c_L} {T : q_S} (g : c_G L T) (S : c_S) (x0 : Int32)  {Q1 : Int32 → c_S → Prop} {Q : Option Value → q_S → Prop} (h : km_X4_maskOf L  S x0 Q1) (hQ : ∀ (v : Int32) (K : c_S), Q1 v K → Q (some (.int v)) (c_E L K T)) : wm_X4_maskOf  (c_E L S T) x0 Q := by
  unfold wm_X4_maskOf
  unfold km_X4_maskOf at h
  try simp only [true_and, Option.some.injEq, exists_eq_left', c_xm, c_xn, c_xs]
  refine ⟨fun hc => ?_, fun hc => ?_⟩
  · have h := h.1 hc
    exact ub_X4_maskOf_17 g _ _  h hQ
  · have h := h.2 hc
    exact ub_X4_maskOf_17 g _ _  h hQ
def kb_X4_partAt_32 (L : c_L) (S : c_S) (xs0 : Int32) (Q : Int32 → c_S → Prop) : Prop := Q xs0 S
set_option maxRecDepth 100000 in
set_option maxHeartbeats 4000000 in
theorem ub_X4_partAt_32 {L : c_L} {T : q_S} (g : c_G L T) (S : c_S) (xs0 : Int32)  {Q1 : Int32 → c_S → Prop} {Q : Option Value → q_S → Prop} (h : kb_X4_partAt_32 L  S xs0 Q1) (hQ : ∀ (v : Int32) (K : c_S), Q1 v K → Q (some (.int v)) (c_E L K T)) : wb_X4_partAt_32  (c_E L S T) xs0 Q := by
  unfold wb_X4_partAt_32
  unfold kb_X4_partAt_32 at h
  try simp only [true_and, Option.some.injEq, exists_eq_left', c_xm, c_xn, c_xs]
  exact hQ _ _ h
def km_X4_partAt (L : c_L) (S : c_S) (a0 : Nat) (x1 : Int32) (x2 : Int32) (Q : Int32 → c_S → Prop) : Prop := km_X4_holds L S a0 x1 (fun x4_ S3_ => ((x4_ = 0 → (kb_X4_partAt_32 L S3_ (0 : Int32) Q)) ∧ (¬ x4_ = 0 → (vp_in (x1 >>> ((2 : Int32) &&& 31)) (c_ln L 801 a0) ∧ (km_X4_maskOf L S3_ x2 (fun x13_ S12_ => (kb_X4_partAt_32 L S12_ ((((c_A S3_ 801 a0 (x1 >>> ((2 : Int32) &&& 31)).toNatClampNeg).toUInt32 >>> (((8 : Int32) * (x1 &&& (3 : Int32))).toUInt32 &&& Int32.toUInt32 31)).toInt32) &&& x13_) Q)))))))
set_option maxRecDepth 100000 in
set_option maxHeartbeats 4000000 in
theorem um_X4_partAt {L : c_L} {T : q_S} (g : c_G L T) (S : c_S) (a0 : Nat) (x1 : Int32) (x2 : Int32) (m_a0 : c_mk L 4 a0) {Q1 : Int32 → c_S → Prop} {Q : Option Value → q_S → Prop} (h : km_X4_partAt L  S a0 x1 x2 Q1) (hQ : ∀ (v : Int32) (K : c_S), Q1 v K → Q (some (.int v)) (c_E L K T)) : wm_X4_partAt  (c_E L S T) (c_ob L 4 a0) x1 x2 Q := by
  unfold wm_X4_partAt
  unfold km_X4_partAt at h
  try simp only [c_gk g m_a0 5 rfl, true_and, Option.some.injEq, exists_eq_left', c_xm, c_xn, c_xs]
  refine um_X4_holds g _ a0 _ m_a0 h (fun x4_ S3_ h => ?_)
  refine ⟨_, rfl, ?_⟩
  try simp only [c_gk g m_a0 5 rfl, true_and, Option.some.injEq, exists_eq_left', c_xm, c_xn, c_xs]
  refine ⟨fun hc => ?_, fun hc => ?_⟩
  · have h := h.1 hc
    exact ub_X4_partAt_32 g _ _  h hQ
  · have h := h.2 hc
    have n801_a0 := c_gA g 801 rfl (by decide) m_a0
    try simp only [c_gk g m_a0 5 rfl, c_gr g n801_a0 21 rfl, c_gn g n801_a0, c_eA n801_a0, c_eAs (c_gw g) n801_a0, c_ga g 801 rfl rfl (by decide) m_a0, true_and, Option.some.injEq, exists_eq_left', c_xm, c_xn, c_xs]
    refine ⟨h.1, ?_⟩
    have h := h.2
    refine um_X4_maskOf g _ _  h (fun x13_ S12_ h => ?_)
    refine ⟨_, rfl, ?_⟩
    try simp only [c_gk g m_a0 5 rfl, c_gr g n801_a0 21 rfl, c_gn g n801_a0, c_eA n801_a0, c_eAs (c_gw g) n801_a0, c_ga g 801 rfl rfl (by decide) m_a0, true_and, Option.some.injEq, exists_eq_left', c_xm, c_xn, c_xs]
    exact ub_X4_partAt_32 g _ _  h hQ
def kb_X11_nameDigit_42 (L : c_L) (S : c_S) (xs0 : Int32) (Q : Int32 → c_S → Prop) : Prop := Q xs0 S
set_option maxRecDepth 100000 in
set_option maxHeartbeats 4000000 in
theorem ub_X11_nameDigit_42 {L : c_L} {T : q_S} (g : c_G L T) (S : c_S) (xs0 : Int32)  {Q1 : Int32 → c_S → Prop} {Q : Option Value → q_S → Prop} (h : kb_X11_nameDigit_42 L  S xs0 Q1) (hQ : ∀ (v : Int32) (K : c_S), Q1 v K → Q (some (.int v)) (c_E L K T)) : wb_X11_nameDigit_42  (c_E L S T) xs0 Q := by
  unfold wb_X11_nameDigit_42
  unfold kb_X11_nameDigit_42 at h
  try simp only [true_and, Option.some.injEq, exists_eq_left', c_xm, c_xn, c_xs]
  exact hQ _ _ h
def kb_X11_nameDigit_41 (L : c_L) (S : c_S) (Q : Int32 → c_S → Prop) : Prop := kb_X11_nameDigit_42 L S (0 : Int32) Q
set_option maxRecDepth 100000 in
set_option maxHeartbeats 4000000 in
theorem ub_X11_nameDigit_41 {L : c_L} {T : q_S} (g : c_G L T) (S : c_S)  {Q1 : Int32 → c_S → Prop} {Q : Option Value → q_S → Prop} (h : kb_X11_nameDigit_41 L  S Q1) (hQ : ∀ (v : Int32) (K : c_S), Q1 v K → Q (some (.int v)) (c_E L K T)) : wb_X11_nameDigit_41  (c_E L S T) Q := by
  unfold wb_X11_nameDigit_41
  unfold kb_X11_nameDigit_41 at h
  try simp only [true_and, Option.some.injEq, exists_eq_left', c_xm, c_xn, c_xs]
  exact ub_X11_nameDigit_42 g _ _  h hQ
def kb_X11_nameDigit_19 (L : c_L) (S : c_S) (x0 : Int32) (Q : Int32 → c_S → Prop) : Prop := (x0 < (48 : Int32) → (kb_X11_nameDigit_41 L S Q)) ∧ (¬ x0 < (48 : Int32) → (((57 : Int32) < x0 → (kb_X11_nameDigit_41 L S Q)) ∧ (¬ (57 : Int32) < x0 → (kb_X11_nameDigit_42 L S ((x0 - (48 : Int32)) + (27 : Int32)) Q))))
set_option maxRecDepth 100000 in
set_option maxHeartbeats 4000000 in
theorem ub_X11_nameDigit_19 {L : c_L} {T : q_S} (g : c_G L T) (S : c_S) (x0 : Int32)  {Q1 : Int32 → c_S → Prop} {Q : Option Value → q_S → Prop} (h : kb_X11_nameDigit_19 L  S x0 Q1) (hQ : ∀ (v : Int32) (K : c_S), Q1 v K → Q (some (.int v)) (c_E L K T)) : wb_X11_nameDigit_19  (c_E L S T) x0 Q := by
  unfold wb_X11_nameDigit_19
  unfold kb_X11_nameDigit_19 at h
  try simp only [true_and, Option.some.injEq, exists_eq_left', c_xm, c_xn, c_xs]
  refine ⟨fun hc => ?_, fun hc => ?_⟩
  · have h := h.1 hc
    exact ub_X11_nameDigit_41 g _  h hQ
  · have h := h.2 hc
    refine ⟨fun hc => ?_, fun hc => ?_⟩
    · have h := h.1 hc
      exact ub_X11_nameDigit_41 g _  h hQ
    · have h := h.2 hc
      exact ub_X11_nameDigit_42 g _ _  h hQ
def km_X11_nameDigit (L : c_L) (S : c_S) (x0 : Int32) (Q : Int32 → c_S → Prop) : Prop := (x0 < (97 : Int32) → (kb_X11_nameDigit_19 L S x0 Q)) ∧ (¬ x0 < (97 : Int32) → (((122 : Int32) < x0 → (kb_X11_nameDigit_19 L S x0 Q)) ∧ (¬ (122 : Int32) < x0 → (Q ((x0 - (97 : Int32)) + (1 : Int32)) S))))
set_option maxRecDepth 100000 in
set_option maxHeartbeats 4000000 in
theorem um_X11_nameDigit {L : c_L} {T : q_S} (g : c_G L T) (S : c_S) (x0 : Int32)  {Q1 : Int32 → c_S → Prop} {Q : Option Value → q_S → Prop} (h : km_X11_nameDigit L  S x0 Q1) (hQ : ∀ (v : Int32) (K : c_S), Q1 v K → Q (some (.int v)) (c_E L K T)) : wm_X11_nameDigit  (c_E L S T) x0 Q := by
  unfold wm_X11_nameDigit
  unfold km_X11_nameDigit at h
  try simp only [true_and, Option.some.injEq, exists_eq_left', c_xm, c_xn, c_xs]
  refine ⟨fun hc => ?_, fun hc => ?_⟩
  · have h := h.1 hc
    exact ub_X11_nameDigit_19 g _ _  h hQ
  · have h := h.2 hc
    refine ⟨fun hc => ?_, fun hc => ?_⟩
    · have h := h.1 hc
      exact ub_X11_nameDigit_19 g _ _  h hQ
    · have h := h.2 hc
      exact hQ _ _ h
def kb_X4_nameAt_5 (L : c_L) (B5 : c_S → Nat → Int32 → Int32 → Int64 → Int32 → Prop) (S : c_S) (a0 : Nat) (x1 : Int32) (x2 : Int32) (z3 : Int64) (x5 : Int32) (Q : Int64 → c_S → Prop) : Prop := (x2 ≤ x5 → (Q z3 S)) ∧ (¬ x2 ≤ x5 → (km_X4_partAt L S a0 (x1 + x5) (1 : Int32) (fun x5_ S4_ => (km_X11_nameDigit L S4_ x5_ (fun x8_ S7_ => ((¬ x8_ = 0 → (B5 S7_ a0 x1 x2 ((z3 * (37 : Int64)) + (x8_.toInt64)) (x5 + 1))) ∧ (x8_ = 0 → (Q (0 : Int64) S7_))))))))
set_option maxRecDepth 100000 in
set_option maxHeartbeats 4000000 in
theorem ub_X4_nameAt_5 {L : c_L} {T : q_S} (g : c_G L T) {OB5 : q_S → Nat → Int32 → Int32 → Int64 → Int32 → Prop} {B5 : c_S → Nat → Int32 → Int32 → Int64 → Int32 → Prop} (hB5 : ∀ (S1 : c_S) (a0 : Nat) (x1 : Int32) (x2 : Int32) (z3 : Int64) (x5 : Int32), c_mk L 4 a0 → B5 S1 a0 x1 x2 z3 x5 → OB5 (c_E L S1 T) (c_ob L 4 a0) x1 x2 z3 x5) (S : c_S) (a0 : Nat) (x1 : Int32) (x2 : Int32) (z3 : Int64) (x5 : Int32) (m_a0 : c_mk L 4 a0) {Q1 : Int64 → c_S → Prop} {Q : Option Value → q_S → Prop} (h : kb_X4_nameAt_5 L B5 S a0 x1 x2 z3 x5 Q1) (hQ : ∀ (v : Int64) (K : c_S), Q1 v K → Q (some (.long v)) (c_E L K T)) : wb_X4_nameAt_5 OB5 (c_E L S T) (c_ob L 4 a0) x1 x2 z3 x5 Q := by
  unfold wb_X4_nameAt_5
  unfold kb_X4_nameAt_5 at h
  try simp only [c_gk g m_a0 5 rfl, true_and, Option.some.injEq, exists_eq_left', c_xm, c_xn, c_xs]
  refine ⟨fun hc => ?_, fun hc => ?_⟩
  · have h := h.1 hc
    exact hQ _ _ h
  · have h := h.2 hc
    refine um_X4_partAt g _ a0 _ _ m_a0 h (fun x5_ S4_ h => ?_)
    refine ⟨_, rfl, ?_⟩
    try simp only [c_gk g m_a0 5 rfl, true_and, Option.some.injEq, exists_eq_left', c_xm, c_xn, c_xs]
    refine um_X11_nameDigit g _ _  h (fun x8_ S7_ h => ?_)
    refine ⟨_, rfl, ?_⟩
    try simp only [c_gk g m_a0 5 rfl, true_and, Option.some.injEq, exists_eq_left', c_xm, c_xn, c_xs]
    refine ⟨fun hc => ?_, fun hc => ?_⟩
    · have h := h.1 hc
      exact hB5 _ a0 _ _ _ _ m_a0 h
    · have h := h.2 hc
      exact hQ _ _ h
def kl_X4_nameAt_5 (L : c_L)  : Nat → c_S → Nat → Int32 → Int32 → Int64 → Int32 → (Int64 → c_S → Prop) → Prop
  | 0, _, _, _, _, _, _, _ => False
  | n + 1, S, a0, x1, x2, z3, x5, Q => kb_X4_nameAt_5 L (fun S a0 x1 x2 z3 x5 => kl_X4_nameAt_5 L n S a0 x1 x2 z3 x5 Q) S a0 x1 x2 z3 x5 Q
theorem ul_X4_nameAt_5 {L : c_L} {T : q_S} (g : c_G L T) (n : Nat) (S : c_S) (a0 : Nat) (x1 : Int32) (x2 : Int32) (z3 : Int64) (x5 : Int32) (m_a0 : c_mk L 4 a0) {Q1 : Int64 → c_S → Prop} {Q : Option Value → q_S → Prop} (h : kl_X4_nameAt_5 L  n S a0 x1 x2 z3 x5 Q1) (hQ : ∀ (v : Int64) (K : c_S), Q1 v K → Q (some (.long v)) (c_E L K T)) : wl_X4_nameAt_5  n (c_E L S T) (c_ob L 4 a0) x1 x2 z3 x5 Q := by
  induction n generalizing S a0 x1 x2 z3 x5 with
  | zero => exact h.elim
  | succ n ih => exact ub_X4_nameAt_5 g (fun u0 u1 u2 u3 u4 u5 w0 h => ih u0 u1 u2 u3 u4 u5 w0 h) S a0 x1 x2 z3 x5 m_a0 h hQ
def km_X4_nameAt (L : c_L) (S : c_S) (a0 : Nat) (x1 : Int32) (x2 : Int32) (Q : Int64 → c_S → Prop) : Prop := ∃ n10_ : Nat, kl_X4_nameAt_5 L n10_ S a0 x1 x2 (0 : Int64) (0 : Int32) Q
set_option maxRecDepth 100000 in
set_option maxHeartbeats 4000000 in
theorem um_X4_nameAt {L : c_L} {T : q_S} (g : c_G L T) (S : c_S) (a0 : Nat) (x1 : Int32) (x2 : Int32) (m_a0 : c_mk L 4 a0) {Q1 : Int64 → c_S → Prop} {Q : Option Value → q_S → Prop} (h : km_X4_nameAt L  S a0 x1 x2 Q1) (hQ : ∀ (v : Int64) (K : c_S), Q1 v K → Q (some (.long v)) (c_E L K T)) : wm_X4_nameAt  (c_E L S T) (c_ob L 4 a0) x1 x2 Q := by
  unfold wm_X4_nameAt
  unfold km_X4_nameAt at h
  try simp only [c_gk g m_a0 5 rfl, true_and, Option.some.injEq, exists_eq_left', c_xm, c_xn, c_xs]
  obtain ⟨n10_, h⟩ := h
  refine ⟨n10_, ?_⟩
  exact ul_X4_nameAt_5 g n10_ _ a0 _ _ _ _ m_a0 h hQ
