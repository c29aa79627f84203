def kb_X3_reckon_121 (L : c_L) (S : c_S) (xs0 : Int32) (Q : Int32 → c_S → Prop) : Prop := Q xs0 S
set_option maxRecDepth 100000 in
set_option maxHeartbeats 4000000 in
theorem ub_X3_reckon_121 {L : c_L} {T : q_S} (g : c_G L T) (S : c_S) (xs0 : Int32)  {Q1 : Int32 → c_S → Prop} {Q : Option Value → q_S → Prop} (h : kb_X3_reckon_121 L  S xs0 Q1) (hQ : ∀ (v : Int32) (K : c_S), Q1 v K → Q (some (.int v)) (c_E L K T)) : wb_X3_reckon_121  (c_E L S T) xs0 Q := by
  unfold wb_X3_reckon_121
  unfold kb_X3_reckon_121 at h
  try simp only [true_and, Option.some.injEq, exists_eq_left', c_xm, c_xn, c_xs]
  exact hQ _ _ h
def kb_X3_reckon_94 (L : c_L) (S : c_S) (xs0 : Int32) (Q : Int32 → c_S → Prop) : Prop := Q xs0 S
set_option maxRecDepth 100000 in
set_option maxHeartbeats 4000000 in
theorem ub_X3_reckon_94 {L : c_L} {T : q_S} (g : c_G L T) (S : c_S) (xs0 : Int32)  {Q1 : Int32 → c_S → Prop} {Q : Option Value → q_S → Prop} (h : kb_X3_reckon_94 L  S xs0 Q1) (hQ : ∀ (v : Int32) (K : c_S), Q1 v K → Q (some (.int v)) (c_E L K T)) : wb_X3_reckon_94  (c_E L S T) xs0 Q := by
  unfold wb_X3_reckon_94
  unfold kb_X3_reckon_94 at h
  try simp only [true_and, Option.some.injEq, exists_eq_left', c_xm, c_xn, c_xs]
  exact hQ _ _ h
def kb_X3_reckon_79 (L : c_L) (S : c_S) (xs0 : Int32) (Q : Int32 → c_S → Prop) : Prop := Q xs0 S
set_option maxRecDepth 100000 in
set_option maxHeartbeats 4000000 in
theorem ub_X3_reckon_79 {L : c_L} {T : q_S} (g : c_G L T) (S : c_S) (xs0 : Int32)  {Q1 : Int32 → c_S → Prop} {Q : Option Value → q_S → Prop} (h : kb_X3_reckon_79 L  S xs0 Q1) (hQ : ∀ (v : Int32) (K : c_S), Q1 v K → Q (some (.int v)) (c_E L K T)) : wb_X3_reckon_79  (c_E L S T) xs0 Q := by
  unfold wb_X3_reckon_79
  unfold kb_X3_reckon_79 at h
  try simp only [true_and, Option.some.injEq, exists_eq_left', c_xm, c_xn, c_xs]
  exact hQ _ _ h
def kb_X3_reckon_59 (L : c_L) (S : c_S) (xs0 : Int32) (Q : Int32 → c_S → Prop) : Prop := Q xs0 S
set_option maxRecDepth 100000 in
set_option maxHeartbeats 4000000 in
theorem ub_X3_reckon_59 {L : c_L} {T : q_S} (g : c_G L T) (S : c_S) (xs0 : Int32)  {Q1 : Int32 → c_S → Prop} {Q : Option Value → q_S → Prop} (h : kb_X3_reckon_59 L  S xs0 Q1) (hQ : ∀ (v : Int32) (K : c_S), Q1 v K → Q (some (.int v)) (c_E L K T)) : wb_X3_reckon_59  (c_E L S T) xs0 Q := by
  unfold wb_X3_reckon_59
  unfold kb_X3_reckon_59 at h
  try simp only [true_and, Option.some.injEq, exists_eq_left', c_xm, c_xn, c_xs]
  exact hQ _ _ h
def km_X3_reckon (L : c_L) (S : c_S) (a0 : Nat) (x1 : Int32) (x2 : Int32) (x3 : Int32) (x4 : Int32) (Q : Int32 → c_S → Prop) : Prop := (x1.toInt < 0 ∨ 6 < x1.toInt → (Q (x3 &&& x4) S)) ∧ (x1 = (0 : Int32) → ((x2 = 0 → (kb_X3_reckon_59 L S (x3 + x4) Q)) ∧ (¬ x2 = 0 → (kb_X3_reckon_59 L S (x3 - x4) Q)))) ∧ (x1 = (1 : Int32) → (Q (x3 <<< ((x4 &&& (31 : Int32)) &&& 31)) S)) ∧ (x1 = (2 : Int32) → ((x4 ≤ x3 → (kb_X3_reckon_79 L S (0 : Int32) Q)) ∧ (¬ x4 ≤ x3 → (kb_X3_reckon_79 L S (1 : Int32) Q)))) ∧ (x1 = (3 : Int32) → (km_J6_compareUnsigned_7cf53 L S x3 x4 (fun x5_ S4_ => ((0 ≤ x5_ → (kb_X3_reckon_94 L S4_ (0 : Int32) Q)) ∧ (¬ 0 ≤ x5_ → (kb_X3_reckon_94 L S4_ (1 : Int32) Q)))))) ∧ (x1 = (4 : Int32) → (Q (x3 ^^^ x4) S)) ∧ (x1 = (5 : Int32) → ((x2 = 0 → (kb_X3_reckon_121 L S ((x3.toUInt32 >>> ((x4 &&& (31 : Int32)).toUInt32 &&& Int32.toUInt32 31)).toInt32) Q)) ∧ (¬ x2 = 0 → (kb_X3_reckon_121 L S (x3 >>> ((x4 &&& (31 : Int32)) &&& 31)) Q)))) ∧ (x1 = (6 : Int32) → (Q (x3 ||| x4) S))
set_option maxRecDepth 100000 in
set_option maxHeartbeats 4000000 in
theorem um_X3_reckon {L : c_L} {T : q_S} (g : c_G L T) (S : c_S) (a0 : Nat) (x1 : Int32) (x2 : Int32) (x3 : Int32) (x4 : Int32) (m_a0 : c_mk L 3 a0) {Q1 : Int32 → c_S → Prop} {Q : Option Value → q_S → Prop} (h : km_X3_reckon L  S a0 x1 x2 x3 x4 Q1) (hQ : ∀ (v : Int32) (K : c_S), Q1 v K → Q (some (.int v)) (c_E L K T)) : wm_X3_reckon  (c_E L S T) (c_ob L 3 a0) x1 x2 x3 x4 Q := by
  unfold wm_X3_reckon
  unfold km_X3_reckon at h
  try simp only [c_gk g m_a0 4 rfl, true_and, Option.some.injEq, exists_eq_left', c_xm, c_xn, c_xs]
  refine ⟨fun hc => ?_, fun hc => ?_, fun hc => ?_, fun hc => ?_, fun hc => ?_, fun hc => ?_, fun hc => ?_, fun hc => ?_⟩
  · have h := h.1 hc
    exact hQ _ _ h
  · have h := h.2.1 hc
    refine ⟨fun hc => ?_, fun hc => ?_⟩
    · have h := h.1 hc
      exact ub_X3_reckon_59 g _ _  h hQ
    · have h := h.2 hc
      exact ub_X3_reckon_59 g _ _  h hQ
  · have h := h.2.2.1 hc
    exact hQ _ _ h
  · have h := h.2.2.2.1 hc
    refine ⟨fun hc => ?_, fun hc => ?_⟩
    · have h := h.1 hc
      exact ub_X3_reckon_79 g _ _  h hQ
    · have h := h.2 hc
      exact ub_X3_reckon_79 g _ _  h hQ
  · have h := h.2.2.2.2.1 hc
    refine um_J6_compareUnsigned_7cf53 g _ _ _  h (fun x5_ S4_ h => ?_)
    refine ⟨_, rfl, ?_⟩
    try simp only [c_gk g m_a0 4 rfl, true_and, Option.some.injEq, exists_eq_left', c_xm, c_xn, c_xs]
    refine ⟨fun hc => ?_, fun hc => ?_⟩
    · have h := h.1 hc
      exact ub_X3_reckon_94 g _ _  h hQ
    · have h := h.2 hc
      exact ub_X3_reckon_94 g _ _  h hQ
  · have h := h.2.2.2.2.2.1 hc
    exact hQ _ _ h
  · have h := h.2.2.2.2.2.2.1 hc
    refine ⟨fun hc => ?_, fun hc => ?_⟩
    · have h := h.1 hc
      exact ub_X3_reckon_121 g _ _  h hQ
    · have h := h.2 hc
      exact ub_X3_reckon_121 g _ _  h hQ
  · have h := h.2.2.2.2.2.2.2 hc
    exact hQ _ _ h
def kb_X3_reckonWithNumber_55 (L : c_L) (S : c_S) (a0 : Nat) (r1 : Option Nat) (x2 : Int32) (x3 : Int32) (x5 : Int32) (Q : Int32 → c_S → Prop) : Prop := ∃ a1_ : Nat, r1 = some a1_ ∧ (c_mk L 7 a1_ ∧ (vp_in ((x2 >>> ((15 : Int32) &&& 31)) &&& (31 : Int32)) 32 ∧ (km_X3_reckon L S a0 x3 x5 (c_A S 1411 a1_ ((x2 >>> ((15 : Int32) &&& 31)) &&& (31 : Int32)).toNatClampNeg) (x2 >>> ((20 : Int32) &&& 31)) (fun x11_ S10_ => (km_X3_finish L S10_ a0 r1 x2 x11_ ((c_I S10_ 1410 a1_) + (4 : Int32)) (fun x16_ S15_ => (Q x16_ S15_)))))))
set_option maxRecDepth 100000 in
set_option maxHeartbeats 4000000 in
theorem ub_X3_reckonWithNumber_55 {L : c_L} {T : q_S} (g : c_G L T) (S : c_S) (a0 : Nat) (r1 : Option Nat) (x2 : Int32) (x3 : Int32) (x5 : Int32) (m_a0 : c_mk L 3 a0) {Q1 : Int32 → c_S → Prop} {Q : Option Value → q_S → Prop} (h : kb_X3_reckonWithNumber_55 L  S a0 r1 x2 x3 x5 Q1) (hQ : ∀ (v : Int32) (K : c_S), Q1 v K → Q (some (.int v)) (c_E L K T)) : wb_X3_reckonWithNumber_55  (c_E L S T) (c_ob L 3 a0) (r1.map (c_ob L 7)) x2 x3 x5 Q := by
  unfold wb_X3_reckonWithNumber_55
  unfold kb_X3_reckonWithNumber_55 at h
  try simp only [c_gk g m_a0 4 rfl, true_and, Option.some.injEq, exists_eq_left', c_xm, c_xn, c_xs]
  obtain ⟨a1_, e_a1_, m_a1_, h⟩ := h
  refine ⟨a1_, e_a1_, ?_⟩
  try simp only [c_gk g m_a0 4 rfl, c_gk g m_a1_ 8 rfl, c_eI (f := 1410) m_a1_ rfl, true_and, Option.some.injEq, exists_eq_left', c_xm, c_xn, c_xs]
  have n1411_a1_ := c_gA g 1411 rfl (by decide) m_a1_
  try simp only [c_gk g m_a0 4 rfl, c_gk g m_a1_ 8 rfl, c_gr g n1411_a1_ 21 rfl, c_gN g n1411_a1_ 32 (by decide), c_eA n1411_a1_, c_eAs (c_gw g) n1411_a1_, c_ga g 1411 rfl rfl (by decide) m_a1_, c_eI (f := 1410) m_a1_ rfl, true_and, Option.some.injEq, exists_eq_left', c_xm, c_xn, c_xs]
  refine ⟨h.1, ?_⟩
  have h := h.2
  refine um_X3_reckon g _ a0 _ _ _ _ m_a0 h (fun x11_ S10_ h => ?_)
  refine ⟨_, rfl, ?_⟩
  try simp only [c_gk g m_a0 4 rfl, c_gk g m_a1_ 8 rfl, c_gr g n1411_a1_ 21 rfl, c_gN g n1411_a1_ 32 (by decide), c_eA n1411_a1_, c_eAs (c_gw g) n1411_a1_, c_ga g 1411 rfl rfl (by decide) m_a1_, c_eI (f := 1410) m_a1_ rfl, true_and, Option.some.injEq, exists_eq_left', c_xm, c_xn, c_xs]
  refine um_X3_finish g _ a0 r1 _ _ _ m_a0 h (fun x16_ S15_ h => ?_)
  refine ⟨_, rfl, ?_⟩
  try simp only [c_gk g m_a0 4 rfl, c_gk g m_a1_ 8 rfl, c_gr g n1411_a1_ 21 rfl, c_gN g n1411_a1_ 32 (by decide), c_eA n1411_a1_, c_eAs (c_gw g) n1411_a1_, c_ga g 1411 rfl rfl (by decide) m_a1_, c_eI (f := 1410) m_a1_ rfl, true_and, Option.some.injEq, exists_eq_left', c_xm, c_xn, c_xs]
  exact hQ _ _ h
def kb_X3_reckonWithNumber_43 (L : c_L) (S : c_S) (a0 : Nat) (r1 : Option Nat) (x2 : Int32) (x3 : Int32) (x4 : Int32) (x5 : Int32) (Q : Int32 → c_S → Prop) : Prop := (x4 = 0 → (kb_X3_reckonWithNumber_55 L S a0 r1 x2 x3 x5 Q)) ∧ (¬ x4 = 0 → ((¬ x5 = 0 → (kb_X3_reckonWithNumber_55 L S a0 r1 x2 x3 x5 Q)) ∧ (x5 = 0 → (Q (0 : Int32) S))))
set_option maxRecDepth 100000 in
set_option maxHeartbeats 4000000 in
theorem ub_X3_reckonWithNumber_43 {L : c_L} {T : q_S} (g : c_G L T) (S : c_S) (a0 : Nat) (r1 : Option Nat) (x2 : Int32) (x3 : Int32) (x4 : Int32) (x5 : Int32) (m_a0 : c_mk L 3 a0) {Q1 : Int32 → c_S → Prop} {Q : Option Value → q_S → Prop} (h : kb_X3_reckonWithNumber_43 L  S a0 r1 x2 x3 x4 x5 Q1) (hQ : ∀ (v : Int32) (K : c_S), Q1 v K → Q (some (.int v)) (c_E L K T)) : wb_X3_reckonWithNumber_43  (c_E L S T) (c_ob L 3 a0) (r1.map (c_ob L 7)) x2 x3 x4 x5 Q := by
  unfold wb_X3_reckonWithNumber_43
  unfold kb_X3_reckonWithNumber_43 at h
  try simp only [c_gk g m_a0 4 rfl, true_and, Option.some.injEq, exists_eq_left', c_xm, c_xn, c_xs]
  refine ⟨fun hc => ?_, fun hc => ?_⟩
  · have h := h.1 hc
    exact ub_X3_reckonWithNumber_55 g _ a0 r1 _ _ _ m_a0 h hQ
  · have h := h.2 hc
    refine ⟨fun hc => ?_, fun hc => ?_⟩
    · have h := h.1 hc
      exact ub_X3_reckonWithNumber_55 g _ a0 r1 _ _ _ m_a0 h hQ
    · have h := h.2 hc
      exact hQ _ _ h
def kb_X3_reckonWithNumber_31 (L : c_L) (S : c_S) (a0 : Nat) (r1 : Option Nat) (x2 : Int32) (x3 : Int32) (x4 : Int32) (xs0 : Int32) (Q : Int32 → c_S → Prop) : Prop := (x3 = (1 : Int32) → (kb_X3_reckonWithNumber_43 L S a0 r1 x2 x3 x4 xs0 Q)) ∧ (¬ x3 = (1 : Int32) → ((¬ x3 = (5 : Int32) → (kb_X3_reckonWithNumber_55 L S a0 r1 x2 x3 xs0 Q)) ∧ (x3 = (5 : Int32) → (kb_X3_reckonWithNumber_43 L S a0 r1 x2 x3 x4 xs0 Q))))
set_option maxRecDepth 100000 in
set_option maxHeartbeats 4000000 in
theorem ub_X3_reckonWithNumber_31 {L : c_L} {T : q_S} (g : c_G L T) (S : c_S) (a0 : Nat) (r1 : Option Nat) (x2 : Int32) (x3 : Int32) (x4 : Int32) (xs0 : Int32) (m_a0 : c_mk L 3 a0) {Q1 : Int32 → c_S → Prop} {Q : Option Value → q_S → Prop} (h : kb_X3_reckonWithNumber_31 L  S a0 r1 x2 x3 x4 xs0 Q1) (hQ : ∀ (v : Int32) (K : c_S), Q1 v K → Q (some (.int v)) (c_E L K T)) : wb_X3_reckonWithNumber_31  (c_E L S T) (c_ob L 3 a0) (r1.map (c_ob L 7)) x2 x3 x4 xs0 Q := by
  unfold wb_X3_reckonWithNumber_31
  unfold kb_X3_reckonWithNumber_31 at h
  try simp only [c_gk g m_a0 4 rfl, true_and, Option.some.injEq, exists_eq_left', c_xm, c_xn, c_xs]
  refine ⟨fun hc => ?_, fun hc => ?_⟩
  · have h := h.1 hc
    exact ub_X3_reckonWithNumber_43 g _ a0 r1 _ _ _ _ m_a0 h hQ
  · have h := h.2 hc
    refine ⟨fun hc => ?_, fun hc => ?_⟩
    · have h := h.1 hc
      exact ub_X3_reckonWithNumber_55 g _ a0 r1 _ _ _ m_a0 h hQ
    · have h := h.2 hc
      exact ub_X3_reckonWithNumber_43 g _ a0 r1 _ _ _ _ m_a0 h hQ
def kb_X3_reckonWithNumber_30 (L : c_L) (S : c_S) (a0 : Nat) (r1 : Option Nat) (x2 : Int32) (x3 : Int32) (x4 : Int32) (Q : Int32 → c_S → Prop) : Prop := kb_X3_reckonWithNumber_31 L S a0 r1 x2 x3 x4 (0 : Int32) Q
set_option maxRecDepth 100000 in
set_option maxHeartbeats 4000000 in
theorem ub_X3_reckonWithNumber_30 {L : c_L} {T : q_S} (g : c_G L T) (S : c_S) (a0 : Nat) (r1 : Option Nat) (x2 : Int32) (x3 : Int32) (x4 : Int32) (m_a0 : c_mk L 3 a0) {Q1 : Int32 → c_S → Prop} {Q : Option Value → q_S → Prop} (h : kb_X3_reckonWithNumber_30 L  S a0 r1 x2 x3 x4 Q1) (hQ : ∀ (v : Int32) (K : c_S), Q1 v K → Q (some (.int v)) (c_E L K T)) : wb_X3_reckonWithNumber_30  (c_E L S T) (c_ob L 3 a0) (r1.map (c_ob L 7)) x2 x3 x4 Q := by
  unfold wb_X3_reckonWithNumber_30
  unfold kb_X3_reckonWithNumber_30 at h
  try simp only [c_gk g m_a0 4 rfl, true_and, Option.some.injEq, exists_eq_left', c_xm, c_xn, c_xs]
  exact ub_X3_reckonWithNumber_31 g _ a0 r1 _ _ _ _ m_a0 h hQ
def km_X3_reckonWithNumber (L : c_L) (S : c_S) (a0 : Nat) (r1 : Option Nat) (x2 : Int32) (Q : Int32 → c_S → Prop) : Prop := (¬ ((x2 >>> ((12 : Int32) &&& 31)) &&& (7 : Int32)) = (5 : Int32) → (kb_X3_reckonWithNumber_30 L S a0 r1 x2 ((x2 >>> ((12 : Int32) &&& 31)) &&& (7 : Int32)) ((x2.toUInt32 >>> ((25 : Int32).toUInt32 &&& Int32.toUInt32 31)).toInt32) Q)) ∧ (((x2 >>> ((12 : Int32) &&& 31)) &&& (7 : Int32)) = (5 : Int32) → ((¬ ((x2.toUInt32 >>> ((25 : Int32).toUInt32 &&& Int32.toUInt32 31)).toInt32) = (32 : Int32) → (kb_X3_reckonWithNumber_30 L S a0 r1 x2 ((x2 >>> ((12 : Int32) &&& 31)) &&& (7 : Int32)) ((x2.toUInt32 >>> ((25 : Int32).toUInt32 &&& Int32.toUInt32 31)).toInt32) Q)) ∧ (((x2.toUInt32 >>> ((25 : Int32).toUInt32 &&& Int32.toUInt32 31)).toInt32) = (32 : Int32) → (kb_X3_reckonWithNumber_31 L S a0 r1 x2 ((x2 >>> ((12 : Int32) &&& 31)) &&& (7 : Int32)) ((x2.toUInt32 >>> ((25 : Int32).toUInt32 &&& Int32.toUInt32 31)).toInt32) (1 : Int32) Q))))
set_option maxRecDepth 100000 in
set_option maxHeartbeats 4000000 in
theorem um_X3_reckonWithNumber {L : c_L} {T : q_S} (g : c_G L T) (S : c_S) (a0 : Nat) (r1 : Option Nat) (x2 : Int32) (m_a0 : c_mk L 3 a0) {Q1 : Int32 → c_S → Prop} {Q : Option Value → q_S → Prop} (h : km_X3_reckonWithNumber L  S a0 r1 x2 Q1) (hQ : ∀ (v : Int32) (K : c_S), Q1 v K → Q (some (.int v)) (c_E L K T)) : wm_X3_reckonWithNumber  (c_E L S T) (c_ob L 3 a0) (r1.map (c_ob L 7)) x2 Q := by
  unfold wm_X3_reckonWithNumber
  unfold km_X3_reckonWithNumber at h
  try simp only [c_gk g m_a0 4 rfl, true_and, Option.some.injEq, exists_eq_left', c_xm, c_xn, c_xs]
  refine ⟨fun hc => ?_, fun hc => ?_⟩
  · have h := h.1 hc
    exact ub_X3_reckonWithNumber_30 g _ a0 r1 _ _ _ m_a0 h hQ
  · have h := h.2 hc
    refine ⟨fun hc => ?_, fun hc => ?_⟩
    · have h := h.1 hc
      exact ub_X3_reckonWithNumber_30 g _ a0 r1 _ _ _ m_a0 h hQ
    · have h := h.2 hc
      exact ub_X3_reckonWithNumber_31 g _ a0 r1 _ _ _ _ m_a0 h hQ
def kb_X3_reckonWithRegister_49 (L : c_L) (S : c_S) (a0 : Nat) (r1 : Option Nat) (x2 : Int32) (x3 : Int32) (x5 : Int32) (Q : Int32 → c_S → Prop) : Prop := ∃ a1_ : Nat, r1 = some a1_ ∧ (c_mk L 7 a1_ ∧ (vp_in ((x2 >>> ((15 : Int32) &&& 31)) &&& (31 : Int32)) 32 ∧ (vp_in ((x2 >>> ((20 : Int32) &&& 31)) &&& (31 : Int32)) 32 ∧ (km_X3_reckon L S a0 x3 x5 (c_A S 1411 a1_ ((x2 >>> ((15 : Int32) &&& 31)) &&& (31 : Int32)).toNatClampNeg) (c_A S 1411 a1_ ((x2 >>> ((20 : Int32) &&& 31)) &&& (31 : Int32)).toNatClampNeg) (fun x12_ S11_ => (km_X3_finish L S11_ a0 r1 x2 x12_ ((c_I S11_ 1410 a1_) + (4 : Int32)) (fun x17_ S16_ => (Q x17_ S16_))))))))
set_option maxRecDepth 100000 in
set_option maxHeartbeats 4000000 in
theorem ub_X3_reckonWithRegister_49 {L : c_L} {T : q_S} (g : c_G L T) (S : c_S) (a0 : Nat) (r1 : Option Nat) (x2 : Int32) (x3 : Int32) (x5 : Int32) (m_a0 : c_mk L 3 a0) {Q1 : Int32 → c_S → Prop} {Q : Option Value → q_S → Prop} (h : kb_X3_reckonWithRegister_49 L  S a0 r1 x2 x3 x5 Q1) (hQ : ∀ (v : Int32) (K : c_S), Q1 v K → Q (some (.int v)) (c_E L K T)) : wb_X3_reckonWithRegister_49  (c_E L S T) (c_ob L 3 a0) (r1.map (c_ob L 7)) x2 x3 x5 Q := by
  unfold wb_X3_reckonWithRegister_49
  unfold kb_X3_reckonWithRegister_49 at h
  try simp only [c_gk g m_a0 4 rfl, true_and, Option.some.injEq, exists_eq_left', c_xm, c_xn, c_xs]
  obtain ⟨a1_, e_a1_, m_a1_, h⟩ := h
  refine ⟨a1_, e_a1_, ?_⟩
  try simp only [c_gk g m_a0 4 rfl, c_gk g m_a1_ 8 rfl, c_eI (f := 1410) m_a1_ rfl, true_and, Option.some.injEq, exists_eq_left', c_xm, c_xn, c_xs]
  have n1411_a1_ := c_gA g 1411 rfl (by decide) m_a1_
  try simp only [c_gk g m_a0 4 rfl, c_gk g m_a1_ 8 rfl, c_gr g n1411_a1_ 21 rfl, c_gN g n1411_a1_ 32 (by decide), c_eA n1411_a1_, c_eAs (c_gw g) n1411_a1_, c_ga g 1411 rfl rfl (by decide) m_a1_, c_eI (f := 1410) m_a1_ rfl, true_and, Option.some.injEq, exists_eq_left', c_xm, c_xn, c_xs]
  refine ⟨h.1, ?_⟩
  have h := h.2
  refine ⟨h.1, ?_⟩
  have h := h.2
  refine um_X3_reckon g _ a0 _ _ _ _ m_a0 h (fun x12_ S11_ h => ?_)
  refine ⟨_, rfl, ?_⟩
  try simp only [c_gk g m_a0 4 rfl, c_gk g m_a1_ 8 rfl, c_gr g n1411_a1_ 21 rfl, c_gN g n1411_a1_ 32 (by decide), c_eA n1411_a1_, c_eAs (c_gw g) n1411_a1_, c_ga g 1411 rfl rfl (by decide) m_a1_, c_eI (f := 1410) m_a1_ rfl, true_and, Option.some.injEq, exists_eq_left', c_xm, c_xn, c_xs]
  refine um_X3_finish g _ a0 r1 _ _ _ m_a0 h (fun x17_ S16_ h => ?_)
  refine ⟨_, rfl, ?_⟩
  try simp only [c_gk g m_a0 4 rfl, c_gk g m_a1_ 8 rfl, c_gr g n1411_a1_ 21 rfl, c_gN g n1411_a1_ 32 (by decide), c_eA n1411_a1_, c_eAs (c_gw g) n1411_a1_, c_ga g 1411 rfl rfl (by decide) m_a1_, c_eI (f := 1410) m_a1_ rfl, true_and, Option.some.injEq, exists_eq_left', c_xm, c_xn, c_xs]
  exact hQ _ _ h
def kb_X3_reckonWithRegister_35 (L : c_L) (S : c_S) (a0 : Nat) (r1 : Option Nat) (x2 : Int32) (x3 : Int32) (x4 : Int32) (xs0 : Int32) (Q : Int32 → c_S → Prop) : Prop := (x4 = 0 → (kb_X3_reckonWithRegister_49 L S a0 r1 x2 x3 xs0 Q)) ∧ (¬ x4 = 0 → ((¬ xs0 = 0 → (kb_X3_reckonWithRegister_49 L S a0 r1 x2 x3 xs0 Q)) ∧ (xs0 = 0 → (Q (0 : Int32) S))))
set_option maxRecDepth 100000 in
set_option maxHeartbeats 4000000 in
theorem ub_X3_reckonWithRegister_35 {L : c_L} {T : q_S} (g : c_G L T) (S : c_S) (a0 : Nat) (r1 : Option Nat) (x2 : Int32) (x3 : Int32) (x4 : Int32) (xs0 : Int32) (m_a0 : c_mk L 3 a0) {Q1 : Int32 → c_S → Prop} {Q : Option Value → q_S → Prop} (h : kb_X3_reckonWithRegister_35 L  S a0 r1 x2 x3 x4 xs0 Q1) (hQ : ∀ (v : Int32) (K : c_S), Q1 v K → Q (some (.int v)) (c_E L K T)) : wb_X3_reckonWithRegister_35  (c_E L S T) (c_ob L 3 a0) (r1.map (c_ob L 7)) x2 x3 x4 xs0 Q := by
  unfold wb_X3_reckonWithRegister_35
  unfold kb_X3_reckonWithRegister_35 at h
  try simp only [c_gk g m_a0 4 rfl, true_and, Option.some.injEq, exists_eq_left', c_xm, c_xn, c_xs]
  refine ⟨fun hc => ?_, fun hc => ?_⟩
  · have h := h.1 hc
    exact ub_X3_reckonWithRegister_49 g _ a0 r1 _ _ _ m_a0 h hQ
  · have h := h.2 hc
    refine ⟨fun hc => ?_, fun hc => ?_⟩
    · have h := h.1 hc
      exact ub_X3_reckonWithRegister_49 g _ a0 r1 _ _ _ m_a0 h hQ
    · have h := h.2 hc
      exact hQ _ _ h
def kb_X3_reckonWithRegister_30 (L : c_L) (S : c_S) (a0 : Nat) (r1 : Option Nat) (x2 : Int32) (x3 : Int32) (x4 : Int32) (Q : Int32 → c_S → Prop) : Prop := kb_X3_reckonWithRegister_35 L S a0 r1 x2 x3 x4 (1 : Int32) Q
set_option maxRecDepth 100000 in
set_option maxHeartbeats 4000000 in
theorem ub_X3_reckonWithRegister_30 {L : c_L} {T : q_S} (g : c_G L T) (S : c_S) (a0 : Nat) (r1 : Option Nat) (x2 : Int32) (x3 : Int32) (x4 : Int32) (m_a0 : c_mk L 3 a0) {Q1 : Int32 → c_S → Prop} {Q : Option Value → q_S → Prop} (h : kb_X3_reckonWithRegister_30 L  S a0 r1 x2 x3 x4 Q1) (hQ : ∀ (v : Int32) (K : c_S), Q1 v K → Q (some (.int v)) (c_E L K T)) : wb_X3_reckonWithRegister_30  (c_E L S T) (c_ob L 3 a0) (r1.map (c_ob L 7)) x2 x3 x4 Q := by
  unfold wb_X3_reckonWithRegister_30
  unfold kb_X3_reckonWithRegister_30 at h
  try simp only [c_gk g m_a0 4 rfl, true_and, Option.some.injEq, exists_eq_left', c_xm, c_xn, c_xs]
  exact ub_X3_reckonWithRegister_35 g _ a0 r1 _ _ _ _ m_a0 h hQ
def kb_X3_reckonWithRegister_34 (L : c_L) (S : c_S) (a0 : Nat) (r1 : Option Nat) (x2 : Int32) (x3 : Int32) (x4 : Int32) (Q : Int32 → c_S → Prop) : Prop := kb_X3_reckonWithRegister_35 L S a0 r1 x2 x3 x4 (0 : Int32) Q
set_option maxRecDepth 100000 in
set_option maxHeartbeats 4000000 in
theorem ub_X3_reckonWithRegister_34 {L : c_L} {T : q_S} (g : c_G L T) (S : c_S) (a0 : Nat) (r1 : Option Nat) (x2 : Int32) (x3 : Int32) (x4 : Int32) (m_a0 : c_mk L 3 a0) {Q1 : Int32 → c_S → Prop} {Q : Option Value → q_S → Prop} (h : kb_X3_reckonWithRegister_34 L  S a0 r1 x2 x3 x4 Q1) (hQ : ∀ (v : Int32) (K : c_S), Q1 v K → Q (some (.int v)) (c_E L K T)) : wb_X3_reckonWithRegister_34  (c_E L S T) (c_ob L 3 a0) (r1.map (c_ob L 7)) x2 x3 x4 Q := by
  unfold wb_X3_reckonWithRegister_34
  unfold kb_X3_reckonWithRegister_34 at h
  try simp only [c_gk g m_a0 4 rfl, true_and, Option.some.injEq, exists_eq_left', c_xm, c_xn, c_xs]
  exact ub_X3_reckonWithRegister_35 g _ a0 r1 _ _ _ _ m_a0 h hQ
def km_X3_reckonWithRegister (L : c_L) (S : c_S) (a0 : Nat) (r1 : Option Nat) (x2 : Int32) (Q : Int32 → c_S → Prop) : Prop := (¬ ((x2.toUInt32 >>> ((25 : Int32).toUInt32 &&& Int32.toUInt32 31)).toInt32) = (32 : Int32) → (kb_X3_reckonWithRegister_34 L S a0 r1 x2 ((x2 >>> ((12 : Int32) &&& 31)) &&& (7 : Int32)) ((x2.toUInt32 >>> ((25 : Int32).toUInt32 &&& Int32.toUInt32 31)).toInt32) Q)) ∧ (((x2.toUInt32 >>> ((25 : Int32).toUInt32 &&& Int32.toUInt32 31)).toInt32) = (32 : Int32) → ((((x2 >>> ((12 : Int32) &&& 31)) &&& (7 : Int32)) = 0 → (kb_X3_reckonWithRegister_30 L S a0 r1 x2 ((x2 >>> ((12 : Int32) &&& 31)) &&& (7 : Int32)) ((x2.toUInt32 >>> ((25 : Int32).toUInt32 &&& Int32.toUInt32 31)).toInt32) Q)) ∧ (¬ ((x2 >>> ((12 : Int32) &&& 31)) &&& (7 : Int32)) = 0 → ((¬ ((x2 >>> ((12 : Int32) &&& 31)) &&& (7 : Int32)) = (5 : Int32) → (kb_X3_reckonWithRegister_34 L S a0 r1 x2 ((x2 >>> ((12 : Int32) &&& 31)) &&& (7 : Int32)) ((x2.toUInt32 >>> ((25 : Int32).toUInt32 &&& Int32.toUInt32 31)).toInt32) Q)) ∧ (((x2 >>> ((12 : Int32) &&& 31)) &&& (7 : Int32)) = (5 : Int32) → (kb_X3_reckonWithRegister_30 L S a0 r1 x2 ((x2 >>> ((12 : Int32) &&& 31)) &&& (7 : Int32)) ((x2.toUInt32 >>> ((25 : Int32).toUInt32 &&& Int32.toUInt32 31)).toInt32) Q))))))
set_option maxRecDepth 100000 in
set_option maxHeartbeats 4000000 in
theorem um_X3_reckonWithRegister {L : c_L} {T : q_S} (g : c_G L T) (S : c_S) (a0 : Nat) (r1 : Option Nat) (x2 : Int32) (m_a0 : c_mk L 3 a0) {Q1 : Int32 → c_S → Prop} {Q : Option Value → q_S → Prop} (h : km_X3_reckonWithRegister L  S a0 r1 x2 Q1) (hQ : ∀ (v : Int32) (K : c_S), Q1 v K → Q (some (.int v)) (c_E L K T)) : wm_X3_reckonWithRegister  (c_E L S T) (c_ob L 3 a0) (r1.map (c_ob L 7)) x2 Q := by
  unfold wm_X3_reckonWithRegister
  unfold km_X3_reckonWithRegister at h
  try simp only [c_gk g m_a0 4 rfl, true_and, Option.some.injEq, exists_eq_left', c_xm, c_xn, c_xs]
  refine ⟨fun hc => ?_, fun hc => ?_⟩
  · have h := h.1 hc
    exact ub_X3_reckonWithRegister_34 g _ a0 r1 _ _ _ m_a0 h hQ
  · have h := h.2 hc
    refine ⟨fun hc => ?_, fun hc => ?_⟩
    · have h := h.1 hc
      exact ub_X3_reckonWithRegister_30 g _ a0 r1 _ _ _ m_a0 h hQ
    · have h := h.2 hc
      refine ⟨fun hc => ?_, fun hc => ?_⟩
      · have h := h.1 hc
        exact ub_X3_reckonWithRegister_34 g _ a0 r1 _ _ _ m_a0 h hQ
      · have h := h.2 hc
        exact ub_X3_reckonWithRegister_30 g _ a0 r1 _ _ _ m_a0 h hQ
def kb_X3_step_293 (L : c_L) (S : c_S) (xs0 : Int32) (Q : Int32 → c_S → Prop) : Prop := Q xs0 S
set_option maxRecDepth 100000 in
set_option maxHeartbeats 4000000 in
theorem ub_X3_step_293 {L : c_L} {T : q_S} (g : c_G L T) (S : c_S) (xs0 : Int32)  {Q1 : Int32 → c_S → Prop} {Q : Option Value → q_S → Prop} (h : kb_X3_step_293 L  S xs0 Q1) (hQ : ∀ (v : Int32) (K : c_S), Q1 v K → Q (some (.int v)) (c_E L K T)) : wb_X3_step_293  (c_E L S T) xs0 Q := by
  unfold wb_X3_step_293
  unfold kb_X3_step_293 at h
  try simp only [true_and, Option.some.injEq, exists_eq_left', c_xm, c_xn, c_xs]
  exact hQ _ _ h
def kb_X3_step_244 (L : c_L) (S : c_S) (xs0 : Int32) (Q : Int32 → c_S → Prop) : Prop := Q xs0 S
set_option maxRecDepth 100000 in
set_option maxHeartbeats 4000000 in
theorem ub_X3_step_244 {L : c_L} {T : q_S} (g : c_G L T) (S : c_S) (xs0 : Int32)  {Q1 : Int32 → c_S → Prop} {Q : Option Value → q_S → Prop} (h : kb_X3_step_244 L  S xs0 Q1) (hQ : ∀ (v : Int32) (K : c_S), Q1 v K → Q (some (.int v)) (c_E L K T)) : wb_X3_step_244  (c_E L S T) xs0 Q := by
  unfold wb_X3_step_244
  unfold kb_X3_step_244 at h
  try simp only [true_and, Option.some.injEq, exists_eq_left', c_xm, c_xn, c_xs]
  exact hQ _ _ h
def km_X3_step (L : c_L) (S : c_S) (a0 : Nat) (r1 : Option Nat) (r2 : Option Nat) (Q : Int32 → c_S → Prop) : Prop := ∃ a1_ : Nat, r1 = some a1_ ∧ (c_mk L 7 a1_ ∧ ((((c_I (cs_I S 600 a0 (c_I S 1410 a1_)) 1410 a1_) &&& (3 : Int32)) = 0 → (∃ a6_ : Nat, r2 = some a6_ ∧ (c_mk L 4 a6_ ∧ (km_X4_mayRun L (cs_I S 600 a0 (c_I S 1410 a1_)) a6_ (c_I (cs_I S 600 a0 (c_I S 1410 a1_)) 1410 a1_) (fun x11_ S10_ => ((¬ x11_ = 0 → (km_X4_partAt L S10_ a6_ (c_I S10_ 1410 a1_) (4 : Int32) (fun x17_ S16_ => (((x17_ &&& (127 : Int32)) = (3 : Int32) → (km_X3_fetch L (cs_I S16_ 600 a0 x17_) a0 r1 r2 x17_ (fun x21_ S20_ => (Q x21_ S20_)))) ∧ ((x17_ &&& (127 : Int32)) = (19 : Int32) → (km_X3_reckonWithNumber L (cs_I S16_ 600 a0 x17_) a0 r1 x17_ (fun x24_ S23_ => (Q x24_ S23_)))) ∧ ((x17_ &&& (127 : Int32)) = (23 : Int32) → (km_X3_finish L (cs_I S16_ 600 a0 x17_) a0 r1 x17_ ((c_I (cs_I S16_ 600 a0 x17_) 1410 a1_) + (x17_ &&& (-4096 : Int32))) ((c_I (cs_I S16_ 600 a0 x17_) 1410 a1_) + (4 : Int32)) (fun x28_ S27_ => (Q x28_ S27_)))) ∧ ((x17_ &&& (127 : Int32)) = (35 : Int32) → (km_X3_store L (cs_I S16_ 600 a0 x17_) a0 r1 r2 x17_ (fun x31_ S30_ => (Q x31_ S30_)))) ∧ ((x17_ &&& (127 : Int32)) = (51 : Int32) → (km_X3_reckonWithRegister L (cs_I S16_ 600 a0 x17_) a0 r1 x17_ (fun x34_ S33_ => (Q x34_ S33_)))) ∧ ((x17_ &&& (127 : Int32)) = (55 : Int32) → (km_X3_finish L (cs_I S16_ 600 a0 x17_) a0 r1 x17_ (x17_ &&& (-4096 : Int32)) ((c_I (cs_I S16_ 600 a0 x17_) 1410 a1_) + (4 : Int32)) (fun x38_ S37_ => (Q x38_ S37_)))) ∧ ((x17_ &&& (127 : Int32)) = (99 : Int32) → (km_X3_branch L (cs_I S16_ 600 a0 x17_) a0 r1 x17_ (fun x41_ S40_ => (Q x41_ S40_)))) ∧ ((x17_ &&& (127 : Int32)) = (103 : Int32) → ((((x17_ >>> ((12 : Int32) &&& 31)) &&& (7 : Int32)) = 0 → (vp_in ((x17_ >>> ((15 : Int32) &&& 31)) &&& (31 : Int32)) 32 ∧ (km_X3_finish L (cs_I S16_ 600 a0 x17_) a0 r1 x17_ ((c_I (cs_I S16_ 600 a0 x17_) 1410 a1_) + (4 : Int32)) (((c_A (cs_I S16_ 600 a0 x17_) 1411 a1_ ((x17_ >>> ((15 : Int32) &&& 31)) &&& (31 : Int32)).toNatClampNeg) + (x17_ >>> ((20 : Int32) &&& 31))) &&& (-2 : Int32)) (fun x50_ S49_ => (kb_X3_step_244 L S49_ x50_ Q))))) ∧ (¬ ((x17_ >>> ((12 : Int32) &&& 31)) &&& (7 : Int32)) = 0 → (kb_X3_step_244 L (cs_I S16_ 600 a0 x17_) (0 : Int32) Q)))) ∧ ((x17_ &&& (127 : Int32)) = (111 : Int32) → (km_X3_jumpOf L (cs_I S16_ 600 a0 x17_) a0 x17_ (fun x54_ S53_ => (km_X3_finish L S53_ a0 r1 x17_ ((c_I (cs_I S16_ 600 a0 x17_) 1410 a1_) + (4 : Int32)) ((c_I (cs_I S16_ 600 a0 x17_) 1410 a1_) + x54_) (fun x58_ S57_ => (Q x58_ S57_)))))) ∧ (¬ (x17_ &&& (127 : Int32)) = (3 : Int32) ∧ ¬ (x17_ &&& (127 : Int32)) = (19 : Int32) ∧ ¬ (x17_ &&& (127 : Int32)) = (23 : Int32) ∧ ¬ (x17_ &&& (127 : Int32)) = (35 : Int32) ∧ ¬ (x17_ &&& (127 : Int32)) = (51 : Int32) ∧ ¬ (x17_ &&& (127 : Int32)) = (55 : Int32) ∧ ¬ (x17_ &&& (127 : Int32)) = (99 : Int32) ∧ ¬ (x17_ &&& (127 : Int32)) = (103 : Int32) ∧ ¬ (x17_ &&& (127 : Int32)) = (111 : Int32) → ((¬ x17_ = (115 : Int32) → (kb_X3_step_293 L (cs_I S16_ 600 a0 x17_) (0 : Int32) Q)) ∧ (x17_ = (115 : Int32) → (kb_X3_step_293 L (cs_I S16_ 600 a0 x17_) (5 : Int32) Q)))))))) ∧ (x11_ = 0 → (Q (1 : Int32) S10_)))))))) ∧ (¬ ((c_I (cs_I S 600 a0 (c_I S 1410 a1_)) 1410 a1_) &&& (3 : Int32)) = 0 → (Q (4 : Int32) (cs_I S 600 a0 (c_I S 1410 a1_))))))
set_option maxRecDepth 100000 in
set_option maxHeartbeats 4000000 in
theorem um_X3_step {L : c_L} {T : q_S} (g : c_G L T) (S : c_S) (a0 : Nat) (r1 : Option Nat) (r2 : Option Nat) (m_a0 : c_mk L 3 a0) {Q1 : Int32 → c_S → Prop} {Q : Option Value → q_S → Prop} (h : km_X3_step L  S a0 r1 r2 Q1) (hQ : ∀ (v : Int32) (K : c_S), Q1 v K → Q (some (.int v)) (c_E L K T)) : wm_X3_step  (c_E L S T) (c_ob L 3 a0) (r1.map (c_ob L 7)) (r2.map (c_ob L 4)) Q := by
  unfold wm_X3_step
  unfold km_X3_step at h
  try simp only [c_gk g m_a0 4 rfl, c_eIs (f := 600) (c_gw g) m_a0 rfl, true_and, Option.some.injEq, exists_eq_left', c_xm, c_xn, c_xs]
  obtain ⟨a1_, e_a1_, m_a1_, h⟩ := h
  refine ⟨a1_, e_a1_, ?_⟩
  try simp only [c_gk g m_a0 4 rfl, c_gk g m_a1_ 8 rfl, c_eIs (f := 600) (c_gw g) m_a0 rfl, c_eI (f := 1410) m_a1_ rfl, true_and, Option.some.injEq, exists_eq_left', c_xm, c_xn, c_xs]
  refine ⟨fun hc => ?_, fun hc => ?_⟩
  · have h := h.1 hc
    obtain ⟨a6_, e_a6_, m_a6_, h⟩ := h
    refine ⟨a6_, e_a6_, ?_⟩
    try simp only [c_gk g m_a0 4 rfl, c_gk g m_a1_ 8 rfl, c_gk g m_a6_ 5 rfl, c_eIs (f := 600) (c_gw g) m_a0 rfl, c_eI (f := 1410) m_a1_ rfl, true_and, Option.some.injEq, exists_eq_left', c_xm, c_xn, c_xs]
    refine um_X4_mayRun g _ a6_ _ m_a6_ h (fun x11_ S10_ h => ?_)
    refine ⟨_, rfl, ?_⟩
    try simp only [c_gk g m_a0 4 rfl, c_gk g m_a1_ 8 rfl, c_gk g m_a6_ 5 rfl, c_eIs (f := 600) (c_gw g) m_a0 rfl, c_eI (f := 1410) m_a1_ rfl, true_and, Option.some.injEq, exists_eq_left', c_xm, c_xn, c_xs]
    refine ⟨fun hc => ?_, fun hc => ?_⟩
    · have h := h.1 hc
      refine um_X4_partAt g _ a6_ _ _ m_a6_ h (fun x17_ S16_ h => ?_)
      refine ⟨_, rfl, ?_⟩
      try simp only [c_gk g m_a0 4 rfl, c_gk g m_a1_ 8 rfl, c_gk g m_a6_ 5 rfl, c_eIs (f := 600) (c_gw g) m_a0 rfl, c_eI (f := 1410) m_a1_ rfl, true_and, Option.some.injEq, exists_eq_left', c_xm, c_xn, c_xs]
      refine ⟨fun hc => ?_, fun hc => ?_, fun hc => ?_, fun hc => ?_, fun hc => ?_, fun hc => ?_, fun hc => ?_, fun hc => ?_, fun hc => ?_, fun hc => ?_⟩
      · have h := h.1 hc
        refine um_X3_fetch g _ a0 r1 r2 _ m_a0 h (fun x21_ S20_ h => ?_)
        refine ⟨_, rfl, ?_⟩
        try simp only [c_gk g m_a0 4 rfl, c_gk g m_a1_ 8 rfl, c_gk g m_a6_ 5 rfl, c_eIs (f := 600) (c_gw g) m_a0 rfl, c_eI (f := 1410) m_a1_ rfl, true_and, Option.some.injEq, exists_eq_left', c_xm, c_xn, c_xs]
        exact hQ _ _ h
      · have h := h.2.1 hc
        refine um_X3_reckonWithNumber g _ a0 r1 _ m_a0 h (fun x24_ S23_ h => ?_)
        refine ⟨_, rfl, ?_⟩
        try simp only [c_gk g m_a0 4 rfl, c_gk g m_a1_ 8 rfl, c_gk g m_a6_ 5 rfl, c_eIs (f := 600) (c_gw g) m_a0 rfl, c_eI (f := 1410) m_a1_ rfl, true_and, Option.some.injEq, exists_eq_left', c_xm, c_xn, c_xs]
        exact hQ _ _ h
      · have h := h.2.2.1 hc
        refine um_X3_finish g _ a0 r1 _ _ _ m_a0 h (fun x28_ S27_ h => ?_)
        refine ⟨_, rfl, ?_⟩
        try simp only [c_gk g m_a0 4 rfl, c_gk g m_a1_ 8 rfl, c_gk g m_a6_ 5 rfl, c_eIs (f := 600) (c_gw g) m_a0 rfl, c_eI (f := 1410) m_a1_ rfl, true_and, Option.some.injEq, exists_eq_left', c_xm, c_xn, c_xs]
        exact hQ _ _ h
      · have h := h.2.2.2.1 hc
        refine um_X3_store g _ a0 r1 r2 _ m_a0 h (fun x31_ S30_ h => ?_)
        refine ⟨_, rfl, ?_⟩
        try simp only [c_gk g m_a0 4 rfl, c_gk g m_a1_ 8 rfl, c_gk g m_a6_ 5 rfl, c_eIs (f := 600) (c_gw g) m_a0 rfl, c_eI (f := 1410) m_a1_ rfl, true_and, Option.some.injEq, exists_eq_left', c_xm, c_xn, c_xs]
        exact hQ _ _ h
      · have h := h.2.2.2.2.1 hc
        refine um_X3_reckonWithRegister g _ a0 r1 _ m_a0 h (fun x34_ S33_ h => ?_)
        refine ⟨_, rfl, ?_⟩
        try simp only [c_gk g m_a0 4 rfl, c_gk g m_a1_ 8 rfl, c_gk g m_a6_ 5 rfl, c_eIs (f := 600) (c_gw g) m_a0 rfl, c_eI (f := 1410) m_a1_ rfl, true_and, Option.some.injEq, exists_eq_left', c_xm, c_xn, c_xs]
        exact hQ _ _ h
      · have h := h.2.2.2.2.2.1 hc
        refine um_X3_finish g _ a0 r1 _ _ _ m_a0 h (fun x38_ S37_ h => ?_)
        refine ⟨_, rfl, ?_⟩
        try simp only [c_gk g m_a0 4 rfl, c_gk g m_a1_ 8 rfl, c_gk g m_a6_ 5 rfl, c_eIs (f := 600) (c_gw g) m_a0 rfl, c_eI (f := 1410) m_a1_ rfl, true_and, Option.some.injEq, exists_eq_left', c_xm, c_xn, c_xs]
        exact hQ _ _ h
      · have h := h.2.2.2.2.2.2.1 hc
        refine um_X3_branch g _ a0 r1 _ m_a0 h (fun x41_ S40_ h => ?_)
        refine ⟨_, rfl, ?_⟩
        try simp only [c_gk g m_a0 4 rfl, c_gk g m_a1_ 8 rfl, c_gk g m_a6_ 5 rfl, c_eIs (f := 600) (c_gw g) m_a0 rfl, c_eI (f := 1410) m_a1_ rfl, true_and, Option.some.injEq, exists_eq_left', c_xm, c_xn, c_xs]
        exact hQ _ _ h
      · have h := h.2.2.2.2.2.2.2.1 hc
        refine ⟨fun hc => ?_, fun hc => ?_⟩
        · have h := h.1 hc
          have n1411_a1_ := c_gA g 1411 rfl (by decide) m_a1_
          try simp only [c_gk g m_a0 4 rfl, c_gk g m_a1_ 8 rfl, c_gk g m_a6_ 5 rfl, c_gr g n1411_a1_ 21 rfl, c_gN g n1411_a1_ 32 (by decide), c_eA n1411_a1_, c_eAs (c_gw g) n1411_a1_, c_ga g 1411 rfl rfl (by decide) m_a1_, c_eIs (f := 600) (c_gw g) m_a0 rfl, c_eI (f := 1410) m_a1_ rfl, true_and, Option.some.injEq, exists_eq_left', c_xm, c_xn, c_xs]
          refine ⟨h.1, ?_⟩
          have h := h.2
          refine um_X3_finish g _ a0 r1 _ _ _ m_a0 h (fun x50_ S49_ h => ?_)
          refine ⟨_, rfl, ?_⟩
          try simp only [c_gk g m_a0 4 rfl, c_gk g m_a1_ 8 rfl, c_gk g m_a6_ 5 rfl, c_gr g n1411_a1_ 21 rfl, c_gN g n1411_a1_ 32 (by decide), c_eA n1411_a1_, c_eAs (c_gw g) n1411_a1_, c_ga g 1411 rfl rfl (by decide) m_a1_, c_eIs (f := 600) (c_gw g) m_a0 rfl, c_eI (f := 1410) m_a1_ rfl, true_and, Option.some.injEq, exists_eq_left', c_xm, c_xn, c_xs]
          exact ub_X3_step_244 g _ _  h hQ
        · have h := h.2 hc
          exact ub_X3_step_244 g _ _  h hQ
      · have h := h.2.2.2.2.2.2.2.2.1 hc
        refine um_X3_jumpOf g _ a0 _ m_a0 h (fun x54_ S53_ h => ?_)
        refine ⟨_, rfl, ?_⟩
        try simp only [c_gk g m_a0 4 rfl, c_gk g m_a1_ 8 rfl, c_gk g m_a6_ 5 rfl, c_eIs (f := 600) (c_gw g) m_a0 rfl, c_eI (f := 1410) m_a1_ rfl, true_and, Option.some.injEq, exists_eq_left', c_xm, c_xn, c_xs]
        refine um_X3_finish g _ a0 r1 _ _ _ m_a0 h (fun x58_ S57_ h => ?_)
        refine ⟨_, rfl, ?_⟩
        try simp only [c_gk g m_a0 4 rfl, c_gk g m_a1_ 8 rfl, c_gk g m_a6_ 5 rfl, c_eIs (f := 600) (c_gw g) m_a0 rfl, c_eI (f := 1410) m_a1_ rfl, true_and, Option.some.injEq, exists_eq_left', c_xm, c_xn, c_xs]
        exact hQ _ _ h
      · have h := h.2.2.2.2.2.2.2.2.2 hc
        refine ⟨fun hc => ?_, fun hc => ?_⟩
        · have h := h.1 hc
          exact ub_X3_step_293 g _ _  h hQ
        · have h := h.2 hc
          exact ub_X3_step_293 g _ _  h hQ
    · have h := h.2 hc
      exact hQ _ _ h
  · have h := h.2 hc
    exact hQ _ _ h
def kb_X4_covered_22 (L : c_L) (S : c_S) (xs0 : Int32) (Q : Int32 → c_S → Prop) : Prop := Q xs0 S
set_option maxRecDepth 100000 in
set_option maxHeartbeats 4000000 in
theorem ub_X4_covered_22 {L : c_L} {T : q_S} (g : c_G L T) (S : c_S) (xs0 : Int32)  {Q1 : Int32 → c_S → Prop} {Q : Option Value → q_S → Prop} (h : kb_X4_covered_22 L  S xs0 Q1) (hQ : ∀ (v : Int32) (K : c_S), Q1 v K → Q (some (.int v)) (c_E L K T)) : wb_X4_covered_22  (c_E L S T) xs0 Q := by
  unfold wb_X4_covered_22
  unfold kb_X4_covered_22 at h
  try simp only [true_and, Option.some.injEq, exists_eq_left', c_xm, c_xn, c_xs]
  exact hQ _ _ h
def km_X4_covered (L : c_L) (S : c_S) (a0 : Nat) (Q : Int32 → c_S → Prop) : Prop := (¬ (c_I S 803 a0) = 0 → (vp_in ((c_I S 803 a0) - (1 : Int32)) 6 ∧ (kb_X4_covered_22 L S (c_A S 804 a0 ((c_I S 803 a0) - (1 : Int32)).toNatClampNeg) Q))) ∧ ((c_I S 803 a0) = 0 → (kb_X4_covered_22 L S (0 : Int32) Q))
set_option maxRecDepth 100000 in
set_option maxHeartbeats 4000000 in
theorem um_X4_covered {L : c_L} {T : q_S} (g : c_G L T) (S : c_S) (a0 : Nat) (m_a0 : c_mk L 4 a0) {Q1 : Int32 → c_S → Prop} {Q : Option Value → q_S → Prop} (h : km_X4_covered L  S a0 Q1) (hQ : ∀ (v : Int32) (K : c_S), Q1 v K → Q (some (.int v)) (c_E L K T)) : wm_X4_covered  (c_E L S T) (c_ob L 4 a0) Q := by
  unfold wm_X4_covered
  unfold km_X4_covered at h
  try simp only [c_gk g m_a0 5 rfl, c_eI (f := 803) m_a0 rfl, true_and, Option.some.injEq, exists_eq_left', c_xm, c_xn, c_xs]
  refine ⟨fun hc => ?_, fun hc => ?_⟩
  · have h := h.1 hc
    have n804_a0 := c_gA g 804 rfl (by decide) m_a0
    try simp only [c_gk g m_a0 5 rfl, c_gr g n804_a0 21 rfl, c_gN g n804_a0 6 (by decide), c_eA n804_a0, c_eAs (c_gw g) n804_a0, c_ga g 804 rfl rfl (by decide) m_a0, c_eI (f := 803) m_a0 rfl, true_and, Option.some.injEq, exists_eq_left', c_xm, c_xn, c_xs]
    refine ⟨h.1, ?_⟩
    have h := h.2
    exact ub_X4_covered_22 g _ _  h hQ
  · have h := h.2 hc
    exact ub_X4_covered_22 g _ _  h hQ
def kb_X4_addRegion_44 (L : c_L) (S : c_S) (Q : c_S → Prop) : Prop := Q S
set_option maxRecDepth 100000 in
set_option maxHeartbeats 4000000 in
theorem ub_X4_addRegion_44 {L : c_L} {T : q_S} (g : c_G L T) (S : c_S)  {Q1 : c_S → Prop} {Q : Option Value → q_S → Prop} (h : kb_X4_addRegion_44 L  S Q1) (hQ : ∀ K : c_S, Q1 K → Q none (c_E L K T)) : wb_X4_addRegion_44  (c_E L S T) Q := by
  unfold wb_X4_addRegion_44
  unfold kb_X4_addRegion_44 at h
  try simp only [true_and, Option.some.injEq, exists_eq_left', c_xm, c_xn, c_xs]
  exact hQ _ h
def km_X4_addRegion (L : c_L) (S : c_S) (a0 : Nat) (x1 : Int32) (x2 : Int32) (Q : c_S → Prop) : Prop := ((6 : Int32) ≤ (c_I S 803 a0) → (kb_X4_addRegion_44 L S Q)) ∧ (¬ (6 : Int32) ≤ (c_I S 803 a0) → (km_X4_covered L S a0 (fun x5_ S4_ => (vp_in (c_I S 803 a0) 6 ∧ (vp_in (c_I (cs_A S4_ 804 a0 (c_I S 803 a0).toNatClampNeg (x5_ + x1)) 803 a0) 6 ∧ (∀ S15_ : c_S, S15_ = (cs_A (cs_A S4_ 804 a0 (c_I S 803 a0).toNatClampNeg (x5_ + x1)) 805 a0 (c_I (cs_A S4_ 804 a0 (c_I S 803 a0).toNatClampNeg (x5_ + x1)) 803 a0).toNatClampNeg x2) → (kb_X4_addRegion_44 L (cs_I S15_ 803 a0 ((c_I S15_ 803 a0) + (1 : Int32))) Q)))))))
set_option maxRecDepth 100000 in
set_option maxHeartbeats 4000000 in
theorem um_X4_addRegion {L : c_L} {T : q_S} (g : c_G L T) (S : c_S) (a0 : Nat) (x1 : Int32) (x2 : Int32) (m_a0 : c_mk L 4 a0) {Q1 : c_S → Prop} {Q : Option Value → q_S → Prop} (h : km_X4_addRegion L  S a0 x1 x2 Q1) (hQ : ∀ K : c_S, Q1 K → Q none (c_E L K T)) : wm_X4_addRegion  (c_E L S T) (c_ob L 4 a0) x1 x2 Q := by
  unfold wm_X4_addRegion
  unfold km_X4_addRegion at h
  try simp only [c_gk g m_a0 5 rfl, c_eI (f := 803) m_a0 rfl, c_eIs (f := 803) (c_gw g) m_a0 rfl, true_and, Option.some.injEq, exists_eq_left', c_xm, c_xn, c_xs]
  refine ⟨fun hc => ?_, fun hc => ?_⟩
  · have h := h.1 hc
    exact ub_X4_addRegion_44 g _  h hQ
  · have h := h.2 hc
    refine um_X4_covered g _ a0 m_a0 h (fun x5_ S4_ h => ?_)
    refine ⟨_, rfl, ?_⟩
    try simp only [c_gk g m_a0 5 rfl, c_eI (f := 803) m_a0 rfl, c_eIs (f := 803) (c_gw g) m_a0 rfl, true_and, Option.some.injEq, exists_eq_left', c_xm, c_xn, c_xs]
    have n804_a0 := c_gA g 804 rfl (by decide) m_a0
    try simp only [c_gk g m_a0 5 rfl, c_gr g n804_a0 21 rfl, c_gN g n804_a0 6 (by decide), c_eA n804_a0, c_eAs (c_gw g) n804_a0, c_ga g 804 rfl rfl (by decide) m_a0, c_eI (f := 803) m_a0 rfl, c_eIs (f := 803) (c_gw g) m_a0 rfl, true_and, Option.some.injEq, exists_eq_left', c_xm, c_xn, c_xs]
    refine ⟨h.1, ?_⟩
    have h := h.2
    have n805_a0 := c_gA g 805 rfl (by decide) m_a0
    try simp only [c_gk g m_a0 5 rfl, c_gr g n804_a0 21 rfl, c_gN g n804_a0 6 (by decide), c_eA n804_a0, c_eAs (c_gw g) n804_a0, c_gr g n805_a0 21 rfl, c_gN g n805_a0 6 (by decide), c_eA n805_a0, c_eAs (c_gw g) n805_a0, c_ga g 804 rfl rfl (by decide) m_a0, c_ga g 805 rfl rfl (by decide) m_a0, c_eI (f := 803) m_a0 rfl, c_eIs (f := 803) (c_gw g) m_a0 rfl, true_and, Option.some.injEq, exists_eq_left', c_xm, c_xn, c_xs]
    refine ⟨h.1, ?_⟩
    have h := h.2
    refine fun S15_ e_S15_ => ?_
    have h := h S15_ e_S15_
    exact ub_X4_addRegion_44 g _  h hQ
def kb_X4_firstOf_24 (L : c_L) (S : c_S) (xs0 : Int32) (Q : Int32 → c_S → Prop) : Prop := Q xs0 S
set_option maxRecDepth 100000 in
set_option maxHeartbeats 4000000 in
theorem ub_X4_firstOf_24 {L : c_L} {T : q_S} (g : c_G L T) (S : c_S) (xs0 : Int32)  {Q1 : Int32 → c_S → Prop} {Q : Option Value → q_S → Prop} (h : kb_X4_firstOf_24 L  S xs0 Q1) (hQ : ∀ (v : Int32) (K : c_S), Q1 v K → Q (some (.int v)) (c_E L K T)) : wb_X4_firstOf_24  (c_E L S T) xs0 Q := by
  unfold wb_X4_firstOf_24
  unfold kb_X4_firstOf_24 at h
  try simp only [true_and, Option.some.injEq, exists_eq_left', c_xm, c_xn, c_xs]
  exact hQ _ _ h
def kb_X4_firstOf_12 (L : c_L) (S : c_S) (Q : Int32 → c_S → Prop) : Prop := kb_X4_firstOf_24 L S (0 : Int32) Q
set_option maxRecDepth 100000 in
set_option maxHeartbeats 4000000 in
theorem ub_X4_firstOf_12 {L : c_L} {T : q_S} (g : c_G L T) (S : c_S)  {Q1 : Int32 → c_S → Prop} {Q : Option Value → q_S → Prop} (h : kb_X4_firstOf_12 L  S Q1) (hQ : ∀ (v : Int32) (K : c_S), Q1 v K → Q (some (.int v)) (c_E L K T)) : wb_X4_firstOf_12  (c_E L S T) Q := by
  unfold wb_X4_firstOf_12
  unfold kb_X4_firstOf_12 at h
  try simp only [true_and, Option.some.injEq, exists_eq_left', c_xm, c_xn, c_xs]
  exact ub_X4_firstOf_24 g _ _  h hQ
def km_X4_firstOf (L : c_L) (S : c_S) (a0 : Nat) (x1 : Int32) (Q : Int32 → c_S → Prop) : Prop := (x1 ≤ 0 → (kb_X4_firstOf_12 L S Q)) ∧ (¬ x1 ≤ 0 → ((x1 ≤ (c_I S 803 a0) → (vp_in (x1 - (1 : Int32)) 6 ∧ (kb_X4_firstOf_24 L S (c_A S 804 a0 (x1 - (1 : Int32)).toNatClampNeg) Q))) ∧ (¬ x1 ≤ (c_I S 803 a0) → (kb_X4_firstOf_12 L S Q))))
set_option maxRecDepth 100000 in
set_option maxHeartbeats 4000000 in
theorem um_X4_firstOf {L : c_L} {T : q_S} (g : c_G L T) (S : c_S) (a0 : Nat) (x1 : Int32) (m_a0 : c_mk L 4 a0) {Q1 : Int32 → c_S → Prop} {Q : Option Value → q_S → Prop} (h : km_X4_firstOf L  S a0 x1 Q1) (hQ : ∀ (v : Int32) (K : c_S), Q1 v K → Q (some (.int v)) (c_E L K T)) : wm_X4_firstOf  (c_E L S T) (c_ob L 4 a0) x1 Q := by
  unfold wm_X4_firstOf
  unfold km_X4_firstOf at h
  try simp only [c_gk g m_a0 5 rfl, c_eI (f := 803) m_a0 rfl, true_and, Option.some.injEq, exists_eq_left', c_xm, c_xn, c_xs]
  refine ⟨fun hc => ?_, fun hc => ?_⟩
  · have h := h.1 hc
    exact ub_X4_firstOf_12 g _  h hQ
  · have h := h.2 hc
    refine ⟨fun hc => ?_, fun hc => ?_⟩
    · have h := h.1 hc
      have n804_a0 := c_gA g 804 rfl (by decide) m_a0
      try simp only [c_gk g m_a0 5 rfl, c_gr g n804_a0 21 rfl, c_gN g n804_a0 6 (by decide), c_eA n804_a0, c_eAs (c_gw g) n804_a0, c_ga g 804 rfl rfl (by decide) m_a0, c_eI (f := 803) m_a0 rfl, true_and, Option.some.injEq, exists_eq_left', c_xm, c_xn, c_xs]
      refine ⟨h.1, ?_⟩
      have h := h.2
      exact ub_X4_firstOf_24 g _ _  h hQ
    · have h := h.2 hc
      exact ub_X4_firstOf_12 g _  h hQ
def kb_X4_hasWord_23 (L : c_L) (S : c_S) (xs0 : Int32) (Q : Int32 → c_S → Prop) : Prop := narrow .boolean (.int xs0) = .int xs0 ∧ (Q xs0 S)
set_option maxRecDepth 100000 in
set_option maxHeartbeats 4000000 in
theorem ub_X4_hasWord_23 {L : c_L} {T : q_S} (g : c_G L T) (S : c_S) (xs0 : Int32)  {Q1 : Int32 → c_S → Prop} {Q : Option Value → q_S → Prop} (h : kb_X4_hasWord_23 L  S xs0 Q1) (hQ : ∀ (v : Int32) (K : c_S), Q1 v K → Q (some (.int v)) (c_E L K T)) : wb_X4_hasWord_23  (c_E L S T) xs0 Q := by
  unfold wb_X4_hasWord_23
  unfold kb_X4_hasWord_23 at h
  try simp only [true_and, Option.some.injEq, exists_eq_left', c_xm, c_xn, c_xs]
  refine ⟨h.1, ?_⟩
  have h := h.2
  exact hQ _ _ h
def kb_X4_hasWord_22 (L : c_L) (S : c_S) (Q : Int32 → c_S → Prop) : Prop := kb_X4_hasWord_23 L S (0 : Int32) Q
set_option maxRecDepth 100000 in
set_option maxHeartbeats 4000000 in
theorem ub_X4_hasWord_22 {L : c_L} {T : q_S} (g : c_G L T) (S : c_S)  {Q1 : Int32 → c_S → Prop} {Q : Option Value → q_S → Prop} (h : kb_X4_hasWord_22 L  S Q1) (hQ : ∀ (v : Int32) (K : c_S), Q1 v K → Q (some (.int v)) (c_E L K T)) : wb_X4_hasWord_22  (c_E L S T) Q := by
  unfold wb_X4_hasWord_22
  unfold kb_X4_hasWord_22 at h
  try simp only [true_and, Option.some.injEq, exists_eq_left', c_xm, c_xn, c_xs]
  exact ub_X4_hasWord_23 g _ _  h hQ
def km_X4_hasWord (L : c_L) (S : c_S) (a0 : Nat) (x1 : Int32) (Q : Int32 → c_S → Prop) : Prop := (x1 < 0 → (kb_X4_hasWord_22 L S Q)) ∧ (¬ x1 < 0 → (((c_I S 800 a0) ≤ x1 → (kb_X4_hasWord_22 L S Q)) ∧ (¬ (c_I S 800 a0) ≤ x1 → ((¬ (x1 &&& (3 : Int32)) = 0 → (kb_X4_hasWord_22 L S Q)) ∧ ((x1 &&& (3 : Int32)) = 0 → (kb_X4_hasWord_23 L S (1 : Int32) Q))))))
set_option maxRecDepth 100000 in
set_option maxHeartbeats 4000000 in
theorem um_X4_hasWord {L : c_L} {T : q_S} (g : c_G L T) (S : c_S) (a0 : Nat) (x1 : Int32) (m_a0 : c_mk L 4 a0) {Q1 : Int32 → c_S → Prop} {Q : Option Value → q_S → Prop} (h : km_X4_hasWord L  S a0 x1 Q1) (hQ : ∀ (v : Int32) (K : c_S), Q1 v K → Q (some (.int v)) (c_E L K T)) : wm_X4_hasWord  (c_E L S T) (c_ob L 4 a0) x1 Q := by
  unfold wm_X4_hasWord
  unfold km_X4_hasWord at h
  try simp only [c_gk g m_a0 5 rfl, c_eI (f := 800) m_a0 rfl, true_and, Option.some.injEq, exists_eq_left', c_xm, c_xn, c_xs]
  refine ⟨fun hc => ?_, fun hc => ?_⟩
  · have h := h.1 hc
    exact ub_X4_hasWord_22 g _  h hQ
  · have h := h.2 hc
    refine ⟨fun hc => ?_, fun hc => ?_⟩
    · have h := h.1 hc
      exact ub_X4_hasWord_22 g _  h hQ
    · have h := h.2 hc
      refine ⟨fun hc => ?_, fun hc => ?_⟩
      · have h := h.1 hc
        exact ub_X4_hasWord_22 g _  h hQ
      · have h := h.2 hc
        exact ub_X4_hasWord_23 g _ _  h hQ
def km_X5_reset (L : c_L) (S : c_S) (a0 : Nat) (x1 : Int32) (z2 : Int64) (Q : c_S → Prop) : Prop := ∀ S2_ : c_S, S2_ = (cs_I (cs_J (cs_I S 1000 a0 x1) 1001 a0 z2) 1004 a0 (0 : Int32)) → (km_J7_fill_53178 L S2_ 1006 a0 (0 : Int32) (fun S4_ => (km_J7_fill_53178 L S4_ 1007 a0 (0 : Int32) (fun S7_ => (∀ S9_ : c_S, S9_ = (cs_I (cs_I (cs_I S7_ 1008 a0 (-1 : Int32)) 1009 a0 (0 : Int32)) 1010 a0 (-1 : Int32)) → (∀ S10_ : c_S, S10_ = (cs_I (cs_I (cs_I S9_ 1011 a0 (0 : Int32)) 1012 a0 (0 : Int32)) 1013 a0 (0 : Int32)) → (∀ S11_ : c_S, S11_ = (cs_I (cs_I (cs_I S10_ 1014 a0 (-1 : Int32)) 1015 a0 (0 : Int32)) 1016 a0 (-1 : Int32)) → (Q S11_))))))))
set_option maxRecDepth 100000 in
set_option maxHeartbeats 4000000 in
theorem um_X5_reset {L : c_L} {T : q_S} (g : c_G L T) (S : c_S) (a0 : Nat) (x1 : Int32) (z2 : Int64) (m_a0 : c_mk L 5 a0) {Q1 : c_S → Prop} {Q : Option Value → q_S → Prop} (h : km_X5_reset L  S a0 x1 z2 Q1) (hQ : ∀ K : c_S, Q1 K → Q none (c_E L K T)) : wm_X5_reset  (c_E L S T) (c_ob L 5 a0) x1 z2 Q := by
  unfold wm_X5_reset
  unfold km_X5_reset at h
  try simp only [c_gk g m_a0 6 rfl, c_eIs (f := 1000) (c_gw g) m_a0 rfl, c_eIs (f := 1004) (c_gw g) m_a0 rfl, c_eIs (f := 1008) (c_gw g) m_a0 rfl, c_eIs (f := 1009) (c_gw g) m_a0 rfl, c_eIs (f := 1010) (c_gw g) m_a0 rfl, c_eIs (f := 1011) (c_gw g) m_a0 rfl, c_eIs (f := 1012) (c_gw g) m_a0 rfl, c_eIs (f := 1013) (c_gw g) m_a0 rfl, c_eIs (f := 1014) (c_gw g) m_a0 rfl, c_eIs (f := 1015) (c_gw g) m_a0 rfl, c_eIs (f := 1016) (c_gw g) m_a0 rfl, c_eJs (f := 1001) (c_gw g) m_a0 rfl, true_and, Option.some.injEq, exists_eq_left', c_xm, c_xn, c_xs]
  refine fun S2_ e_S2_ => ?_
  have h := h S2_ e_S2_
  have n1006_a0 := c_gA g 1006 rfl (by decide) m_a0
  try simp only [c_gk g m_a0 6 rfl, c_gr g n1006_a0 21 rfl, c_gN g n1006_a0 5 (by decide), c_eA n1006_a0, c_eAs (c_gw g) n1006_a0, c_ga g 1006 rfl rfl (by decide) m_a0, c_eIs (f := 1000) (c_gw g) m_a0 rfl, c_eIs (f := 1004) (c_gw g) m_a0 rfl, c_eIs (f := 1008) (c_gw g) m_a0 rfl, c_eIs (f := 1009) (c_gw g) m_a0 rfl, c_eIs (f := 1010) (c_gw g) m_a0 rfl, c_eIs (f := 1011) (c_gw g) m_a0 rfl, c_eIs (f := 1012) (c_gw g) m_a0 rfl, c_eIs (f := 1013) (c_gw g) m_a0 rfl, c_eIs (f := 1014) (c_gw g) m_a0 rfl, c_eIs (f := 1015) (c_gw g) m_a0 rfl, c_eIs (f := 1016) (c_gw g) m_a0 rfl, c_eJs (f := 1001) (c_gw g) m_a0 rfl, true_and, Option.some.injEq, exists_eq_left', c_xm, c_xn, c_xs]
  refine um_J7_fill_53178 g _ 1006 a0 _ n1006_a0 h (fun S4_ h => ?_)
  refine ⟨rfl, ?_⟩
  try simp only [c_gk g m_a0 6 rfl, c_gr g n1006_a0 21 rfl, c_gN g n1006_a0 5 (by decide), c_eA n1006_a0, c_eAs (c_gw g) n1006_a0, c_ga g 1006 rfl rfl (by decide) m_a0, c_eIs (f := 1000) (c_gw g) m_a0 rfl, c_eIs (f := 1004) (c_gw g) m_a0 rfl, c_eIs (f := 1008) (c_gw g) m_a0 rfl, c_eIs (f := 1009) (c_gw g) m_a0 rfl, c_eIs (f := 1010) (c_gw g) m_a0 rfl, c_eIs (f := 1011) (c_gw g) m_a0 rfl, c_eIs (f := 1012) (c_gw g) m_a0 rfl, c_eIs (f := 1013) (c_gw g) m_a0 rfl, c_eIs (f := 1014) (c_gw g) m_a0 rfl, c_eIs (f := 1015) (c_gw g) m_a0 rfl, c_eIs (f := 1016) (c_gw g) m_a0 rfl, c_eJs (f := 1001) (c_gw g) m_a0 rfl, true_and, Option.some.injEq, exists_eq_left', c_xm, c_xn, c_xs]
  have n1007_a0 := c_gA g 1007 rfl (by decide) m_a0
  try simp only [c_gk g m_a0 6 rfl, c_gr g n1006_a0 21 rfl, c_gN g n1006_a0 5 (by decide), c_eA n1006_a0, c_eAs (c_gw g) n1006_a0, c_gr g n1007_a0 21 rfl, c_gN g n1007_a0 5 (by decide), c_eA n1007_a0, c_eAs (c_gw g) n1007_a0, c_ga g 1006 rfl rfl (by decide) m_a0, c_ga g 1007 rfl rfl (by decide) m_a0, c_eIs (f := 1000) (c_gw g) m_a0 rfl, c_eIs (f := 1004) (c_gw g) m_a0 rfl, c_eIs (f := 1008) (c_gw g) m_a0 rfl, c_eIs (f := 1009) (c_gw g) m_a0 rfl, c_eIs (f := 1010) (c_gw g) m_a0 rfl, c_eIs (f := 1011) (c_gw g) m_a0 rfl, c_eIs (f := 1012) (c_gw g) m_a0 rfl, c_eIs (f := 1013) (c_gw g) m_a0 rfl, c_eIs (f := 1014) (c_gw g) m_a0 rfl, c_eIs (f := 1015) (c_gw g) m_a0 rfl, c_eIs (f := 1016) (c_gw g) m_a0 rfl, c_eJs (f := 1001) (c_gw g) m_a0 rfl, true_and, Option.some.injEq, exists_eq_left', c_xm, c_xn, c_xs]
  refine um_J7_fill_53178 g _ 1007 a0 _ n1007_a0 h (fun S7_ h => ?_)
  refine ⟨rfl, ?_⟩
  try simp only [c_gk g m_a0 6 rfl, c_gr g n1006_a0 21 rfl, c_gN g n1006_a0 5 (by decide), c_eA n1006_a0, c_eAs (c_gw g) n1006_a0, c_gr g n1007_a0 21 rfl, c_gN g n1007_a0 5 (by decide), c_eA n1007_a0, c_eAs (c_gw g) n1007_a0, c_ga g 1006 rfl rfl (by decide) m_a0, c_ga g 1007 rfl rfl (by decide) m_a0, c_eIs (f := 1000) (c_gw g) m_a0 rfl, c_eIs (f := 1004) (c_gw g) m_a0 rfl, c_eIs (f := 1008) (c_gw g) m_a0 rfl, c_eIs (f := 1009) (c_gw g) m_a0 rfl, c_eIs (f := 1010) (c_gw g) m_a0 rfl, c_eIs (f := 1011) (c_gw g) m_a0 rfl, c_eIs (f := 1012) (c_gw g) m_a0 rfl, c_eIs (f := 1013) (c_gw g) m_a0 rfl, c_eIs (f := 1014) (c_gw g) m_a0 rfl, c_eIs (f := 1015) (c_gw g) m_a0 rfl, c_eIs (f := 1016) (c_gw g) m_a0 rfl, c_eJs (f := 1001) (c_gw g) m_a0 rfl, true_and, Option.some.injEq, exists_eq_left', c_xm, c_xn, c_xs]
  refine fun S9_ e_S9_ => ?_
  have h := h S9_ e_S9_
  refine fun S10_ e_S10_ => ?_
  have h := h S10_ e_S10_
  refine fun S11_ e_S11_ => ?_
  have h := h S11_ e_S11_
  exact hQ _ h
def kb_X5_isFull_19 (L : c_L) (S : c_S) (xs0 : Int32) (Q : Int32 → c_S → Prop) : Prop := narrow .boolean (.int xs0) = .int xs0 ∧ (Q xs0 S)
set_option maxRecDepth 100000 in
set_option maxHeartbeats 4000000 in
theorem ub_X5_isFull_19 {L : c_L} {T : q_S} (g : c_G L T) (S : c_S) (xs0 : Int32)  {Q1 : Int32 → c_S → Prop} {Q : Option Value → q_S → Prop} (h : kb_X5_isFull_19 L  S xs0 Q1) (hQ : ∀ (v : Int32) (K : c_S), Q1 v K → Q (some (.int v)) (c_E L K T)) : wb_X5_isFull_19  (c_E L S T) xs0 Q := by
  unfold wb_X5_isFull_19
  unfold kb_X5_isFull_19 at h
  try simp only [true_and, Option.some.injEq, exists_eq_left', c_xm, c_xn, c_xs]
  refine ⟨h.1, ?_⟩
  have h := h.2
  exact hQ _ _ h
def kb_X5_isFull_46 (L : c_L) (S : c_S) (xs0 : Int32) (Q : Int32 → c_S → Prop) : Prop := narrow .boolean (.int xs0) = .int xs0 ∧ (Q xs0 S)
set_option maxRecDepth 100000 in
set_option maxHeartbeats 4000000 in
theorem ub_X5_isFull_46 {L : c_L} {T : q_S} (g : c_G L T) (S : c_S) (xs0 : Int32)  {Q1 : Int32 → c_S → Prop} {Q : Option Value → q_S → Prop} (h : kb_X5_isFull_46 L  S xs0 Q1) (hQ : ∀ (v : Int32) (K : c_S), Q1 v K → Q (some (.int v)) (c_E L K T)) : wb_X5_isFull_46  (c_E L S T) xs0 Q := by
  unfold wb_X5_isFull_46
  unfold kb_X5_isFull_46 at h
  try simp only [true_and, Option.some.injEq, exists_eq_left', c_xm, c_xn, c_xs]
  refine ⟨h.1, ?_⟩
  have h := h.2
  exact hQ _ _ h
def kb_X5_isFull_38 (L : c_L) (S : c_S) (xs0 : Int32) (xs1 : Int32) (Q : Int32 → c_S → Prop) : Prop := (xs0 < xs1 → (kb_X5_isFull_46 L S (0 : Int32) Q)) ∧ (¬ xs0 < xs1 → (kb_X5_isFull_46 L S (1 : Int32) Q))
set_option maxRecDepth 100000 in
set_option maxHeartbeats 4000000 in
theorem ub_X5_isFull_38 {L : c_L} {T : q_S} (g : c_G L T) (S : c_S) (xs0 : Int32) (xs1 : Int32)  {Q1 : Int32 → c_S → Prop} {Q : Option Value → q_S → Prop} (h : kb_X5_isFull_38 L  S xs0 xs1 Q1) (hQ : ∀ (v : Int32) (K : c_S), Q1 v K → Q (some (.int v)) (c_E L K T)) : wb_X5_isFull_38  (c_E L S T) xs0 xs1 Q := by
  unfold wb_X5_isFull_38
  unfold kb_X5_isFull_38 at h
  try simp only [true_and, Option.some.injEq, exists_eq_left', c_xm, c_xn, c_xs]
  refine ⟨fun hc => ?_, fun hc => ?_⟩
  · have h := h.1 hc
    exact ub_X5_isFull_46 g _ _  h hQ
  · have h := h.2 hc
    exact ub_X5_isFull_46 g _ _  h hQ
def km_X5_isFull (L : c_L) (S : c_S) (a0 : Nat) (x1 : Int32) (Q : Int32 → c_S → Prop) : Prop := (¬ x1 = (5 : Int32) → (vp_in x1 5 ∧ ((¬ x1 = (4 : Int32) → (kb_X5_isFull_38 L S (c_A S 1006 a0 x1.toNatClampNeg) (8 : Int32) Q)) ∧ (x1 = (4 : Int32) → (kb_X5_isFull_38 L S (c_A S 1006 a0 x1.toNatClampNeg) (16 : Int32) Q))))) ∧ (x1 = (5 : Int32) → (((c_I S 1004 a0) < (16 : Int32) → (kb_X5_isFull_19 L S (0 : Int32) Q)) ∧ (¬ (c_I S 1004 a0) < (16 : Int32) → (kb_X5_isFull_19 L S (1 : Int32) Q))))
set_option maxRecDepth 100000 in
set_option maxHeartbeats 4000000 in
theorem um_X5_isFull {L : c_L} {T : q_S} (g : c_G L T) (S : c_S) (a0 : Nat) (x1 : Int32) (m_a0 : c_mk L 5 a0) {Q1 : Int32 → c_S → Prop} {Q : Option Value → q_S → Prop} (h : km_X5_isFull L  S a0 x1 Q1) (hQ : ∀ (v : Int32) (K : c_S), Q1 v K → Q (some (.int v)) (c_E L K T)) : wm_X5_isFull  (c_E L S T) (c_ob L 5 a0) x1 Q := by
  unfold wm_X5_isFull
  unfold km_X5_isFull at h
  try simp only [c_gk g m_a0 6 rfl, c_eI (f := 1004) m_a0 rfl, true_and, Option.some.injEq, exists_eq_left', c_xm, c_xn, c_xs]
  refine ⟨fun hc => ?_, fun hc => ?_⟩
  · have h := h.1 hc
    have n1006_a0 := c_gA g 1006 rfl (by decide) m_a0
    try simp only [c_gk g m_a0 6 rfl, c_gr g n1006_a0 21 rfl, c_gN g n1006_a0 5 (by decide), c_eA n1006_a0, c_eAs (c_gw g) n1006_a0, c_ga g 1006 rfl rfl (by decide) m_a0, c_eI (f := 1004) m_a0 rfl, true_and, Option.some.injEq, exists_eq_left', c_xm, c_xn, c_xs]
    refine ⟨h.1, ?_⟩
    have h := h.2
    refine ⟨fun hc => ?_, fun hc => ?_⟩
    · have h := h.1 hc
      exact ub_X5_isFull_38 g _ _ _  h hQ
    · have h := h.2 hc
      exact ub_X5_isFull_38 g _ _ _  h hQ
  · have h := h.2 hc
    refine ⟨fun hc => ?_, fun hc => ?_⟩
    · have h := h.1 hc
      exact ub_X5_isFull_19 g _ _  h hQ
    · have h := h.2 hc
      exact ub_X5_isFull_19 g _ _  h hQ
def km_X7_reset (L : c_L) (S : c_S) (a0 : Nat) (x1 : Int32) (z2 : Int64) (Q : c_S → Prop) : Prop := ∀ S2_ : c_S, S2_ = (cs_I (cs_J (cs_I S 1400 a0 x1) 1401 a0 z2) 1404 a0 (0 : Int32)) → (∀ S3_ : c_S, S3_ = (cs_I (cs_I (cs_I S2_ 1405 a0 (0 : Int32)) 1406 a0 (0 : Int32)) 1407 a0 (0 : Int32)) → (km_J7_fill_53178 L (cs_I (cs_I S3_ 1408 a0 (0 : Int32)) 1410 a0 (0 : Int32)) 1411 a0 (0 : Int32) (fun S5_ => (km_X7_leave L (cs_I (cs_I S5_ 1414 a0 (0 : Int32)) 1415 a0 (0 : Int32)) a0 (0 : Int32) (fun S8_ => (Q S8_))))))
set_option maxRecDepth 100000 in
set_option maxHeartbeats 4000000 in
theorem um_X7_reset {L : c_L} {T : q_S} (g : c_G L T) (S : c_S) (a0 : Nat) (x1 : Int32) (z2 : Int64) (m_a0 : c_mk L 7 a0) {Q1 : c_S → Prop} {Q : Option Value → q_S → Prop} (h : km_X7_reset L  S a0 x1 z2 Q1) (hQ : ∀ K : c_S, Q1 K → Q none (c_E L K T)) : wm_X7_reset  (c_E L S T) (c_ob L 7 a0) x1 z2 Q := by
  unfold wm_X7_reset
  unfold km_X7_reset at h
  try simp only [c_gk g m_a0 8 rfl, c_eIs (f := 1400) (c_gw g) m_a0 rfl, c_eIs (f := 1404) (c_gw g) m_a0 rfl, c_eIs (f := 1405) (c_gw g) m_a0 rfl, c_eIs (f := 1406) (c_gw g) m_a0 rfl, c_eIs (f := 1407) (c_gw g) m_a0 rfl, c_eIs (f := 1408) (c_gw g) m_a0 rfl, c_eIs (f := 1410) (c_gw g) m_a0 rfl, c_eIs (f := 1414) (c_gw g) m_a0 rfl, c_eIs (f := 1415) (c_gw g) m_a0 rfl, c_eJs (f := 1401) (c_gw g) m_a0 rfl, true_and, Option.some.injEq, exists_eq_left', c_xm, c_xn, c_xs]
  refine fun S2_ e_S2_ => ?_
  have h := h S2_ e_S2_
  refine fun S3_ e_S3_ => ?_
  have h := h S3_ e_S3_
  have n1411_a0 := c_gA g 1411 rfl (by decide) m_a0
  try simp only [c_gk g m_a0 8 rfl, c_gr g n1411_a0 21 rfl, c_gN g n1411_a0 32 (by decide), c_eA n1411_a0, c_eAs (c_gw g) n1411_a0, c_ga g 1411 rfl rfl (by decide) m_a0, c_eIs (f := 1400) (c_gw g) m_a0 rfl, c_eIs (f := 1404) (c_gw g) m_a0 rfl, c_eIs (f := 1405) (c_gw g) m_a0 rfl, c_eIs (f := 1406) (c_gw g) m_a0 rfl, c_eIs (f := 1407) (c_gw g) m_a0 rfl, c_eIs (f := 1408) (c_gw g) m_a0 rfl, c_eIs (f := 1410) (c_gw g) m_a0 rfl, c_eIs (f := 1414) (c_gw g) m_a0 rfl, c_eIs (f := 1415) (c_gw g) m_a0 rfl, c_eJs (f := 1401) (c_gw g) m_a0 rfl, true_and, Option.some.injEq, exists_eq_left', c_xm, c_xn, c_xs]
  refine um_J7_fill_53178 g _ 1411 a0 _ n1411_a0 h (fun S5_ h => ?_)
  refine ⟨rfl, ?_⟩
  try simp only [c_gk g m_a0 8 rfl, c_gr g n1411_a0 21 rfl, c_gN g n1411_a0 32 (by decide), c_eA n1411_a0, c_eAs (c_gw g) n1411_a0, c_ga g 1411 rfl rfl (by decide) m_a0, c_eIs (f := 1400) (c_gw g) m_a0 rfl, c_eIs (f := 1404) (c_gw g) m_a0 rfl, c_eIs (f := 1405) (c_gw g) m_a0 rfl, c_eIs (f := 1406) (c_gw g) m_a0 rfl, c_eIs (f := 1407) (c_gw g) m_a0 rfl, c_eIs (f := 1408) (c_gw g) m_a0 rfl, c_eIs (f := 1410) (c_gw g) m_a0 rfl, c_eIs (f := 1414) (c_gw g) m_a0 rfl, c_eIs (f := 1415) (c_gw g) m_a0 rfl, c_eJs (f := 1401) (c_gw g) m_a0 rfl, true_and, Option.some.injEq, exists_eq_left', c_xm, c_xn, c_xs]
  refine um_X7_leave g _ a0 _ m_a0 h (fun S8_ h => ?_)
  refine ⟨rfl, ?_⟩
  try simp only [c_gk g m_a0 8 rfl, c_gr g n1411_a0 21 rfl, c_gN g n1411_a0 32 (by decide), c_eA n1411_a0, c_eAs (c_gw g) n1411_a0, c_ga g 1411 rfl rfl (by decide) m_a0, c_eIs (f := 1400) (c_gw g) m_a0 rfl, c_eIs (f := 1404) (c_gw g) m_a0 rfl, c_eIs (f := 1405) (c_gw g) m_a0 rfl, c_eIs (f := 1406) (c_gw g) m_a0 rfl, c_eIs (f := 1407) (c_gw g) m_a0 rfl, c_eIs (f := 1408) (c_gw g) m_a0 rfl, c_eIs (f := 1410) (c_gw g) m_a0 rfl, c_eIs (f := 1414) (c_gw g) m_a0 rfl, c_eIs (f := 1415) (c_gw g) m_a0 rfl, c_eJs (f := 1401) (c_gw g) m_a0 rfl, true_and, Option.some.injEq, exists_eq_left', c_xm, c_xn, c_xs]
  exact hQ _ h
def km_X10_reset (L : c_L) (S : c_S) (a0 : Nat) (z1 : Int64) (Q : c_S → Prop) : Prop := ∀ S2_ : c_S, S2_ = (cs_I (cs_I (cs_J S 2000 a0 z1) 2002 a0 (0 : Int32)) 2003 a0 (0 : Int32)) → (∀ S3_ : c_S, S3_ = (cs_I (cs_I (cs_I S2_ 2004 a0 (0 : Int32)) 2006 a0 (0 : Int32)) 2007 a0 (0 : Int32)) → (Q (cs_I (cs_I S3_ 2008 a0 (-1 : Int32)) 2001 a0 (0 : Int32))))
set_option maxRecDepth 100000 in
set_option maxHeartbeats 4000000 in
theorem um_X10_reset {L : c_L} {T : q_S} (g : c_G L T) (S : c_S) (a0 : Nat) (z1 : Int64) (m_a0 : c_mk L 10 a0) {Q1 : c_S → Prop} {Q : Option Value → q_S → Prop} (h : km_X10_reset L  S a0 z1 Q1) (hQ : ∀ K : c_S, Q1 K → Q none (c_E L K T)) : wm_X10_reset  (c_E L S T) (c_ob L 10 a0) z1 Q := by
  unfold wm_X10_reset
  unfold km_X10_reset at h
  try simp only [c_gk g m_a0 11 rfl, c_eIs (f := 2001) (c_gw g) m_a0 rfl, c_eIs (f := 2002) (c_gw g) m_a0 rfl, c_eIs (f := 2003) (c_gw g) m_a0 rfl, c_eIs (f := 2004) (c_gw g) m_a0 rfl, c_eIs (f := 2006) (c_gw g) m_a0 rfl, c_eIs (f := 2007) (c_gw g) m_a0 rfl, c_eIs (f := 2008) (c_gw g) m_a0 rfl, c_eJs (f := 2000) (c_gw g) m_a0 rfl, true_and, Option.some.injEq, exists_eq_left', c_xm, c_xn, c_xs]
  refine fun S2_ e_S2_ => ?_
  have h := h S2_ e_S2_
  refine fun S3_ e_S3_ => ?_
  have h := h S3_ e_S3_
  exact hQ _ h
def kb_X5_knows_2 (L : c_L) (B2 : c_S → Nat → Int64 → Int32 → Prop) (S : c_S) (a0 : Nat) (z1 : Int64) (x3 : Int32) (Q : Int32 → c_S → Prop) : Prop := ((5 : Int32) < x3 → (Q (0 : Int32) S)) ∧ (¬ (5 : Int32) < x3 → (km_X5_named L S a0 x3 z1 (fun x5_ S4_ => ((x5_ = (-1 : Int32) → (B2 S4_ a0 z1 (x3 + 1))) ∧ (¬ x5_ = (-1 : Int32) → (Q (1 : Int32) S4_))))))
set_option maxRecDepth 100000 in
set_option maxHeartbeats 4000000 in
theorem ub_X5_knows_2 {L : c_L} {T : q_S} (g : c_G L T) {OB2 : q_S → Nat → Int64 → Int32 → Prop} {B2 : c_S → Nat → Int64 → Int32 → Prop} (hB2 : ∀ (S1 : c_S) (a0 : Nat) (z1 : Int64) (x3 : Int32), c_mk L 5 a0 → B2 S1 a0 z1 x3 → OB2 (c_E L S1 T) (c_ob L 5 a0) z1 x3) (S : c_S) (a0 : Nat) (z1 : Int64) (x3 : Int32) (m_a0 : c_mk L 5 a0) {Q1 : Int32 → c_S → Prop} {Q : Option Value → q_S → Prop} (h : kb_X5_knows_2 L B2 S a0 z1 x3 Q1) (hQ : ∀ (v : Int32) (K : c_S), Q1 v K → Q (some (.int v)) (c_E L K T)) : wb_X5_knows_2 OB2 (c_E L S T) (c_ob L 5 a0) z1 x3 Q := by
  unfold wb_X5_knows_2
  unfold kb_X5_knows_2 at h
  try simp only [c_gk g m_a0 6 rfl, true_and, Option.some.injEq, exists_eq_left', c_xm, c_xn, c_xs]
  refine ⟨fun hc => ?_, fun hc => ?_⟩
  · have h := h.1 hc
    exact hQ _ _ h
  · have h := h.2 hc
    refine um_X5_named g _ a0 _ _ m_a0 h (fun x5_ S4_ h => ?_)
    refine ⟨_, rfl, ?_⟩
    try simp only [c_gk g m_a0 6 rfl, true_and, Option.some.injEq, exists_eq_left', c_xm, c_xn, c_xs]
    refine ⟨fun hc => ?_, fun hc => ?_⟩
    · have h := h.1 hc
      exact hB2 _ a0 _ _ m_a0 h
    · have h := h.2 hc
      exact hQ _ _ h
def kl_X5_knows_2 (L : c_L)  : Nat → c_S → Nat → Int64 → Int32 → (Int32 → c_S → Prop) → Prop
  | 0, _, _, _, _, _ => False
  | n + 1, S, a0, z1, x3, Q => kb_X5_knows_2 L (fun S a0 z1 x3 => kl_X5_knows_2 L n S a0 z1 x3 Q) S a0 z1 x3 Q
theorem ul_X5_knows_2 {L : c_L} {T : q_S} (g : c_G L T) (n : Nat) (S : c_S) (a0 : Nat) (z1 : Int64) (x3 : Int32) (m_a0 : c_mk L 5 a0) {Q1 : Int32 → c_S → Prop} {Q : Option Value → q_S → Prop} (h : kl_X5_knows_2 L  n S a0 z1 x3 Q1) (hQ : ∀ (v : Int32) (K : c_S), Q1 v K → Q (some (.int v)) (c_E L K T)) : wl_X5_knows_2  n (c_E L S T) (c_ob L 5 a0) z1 x3 Q := by
  induction n generalizing S a0 z1 x3 with
  | zero => exact h.elim
  | succ n ih => exact ub_X5_knows_2 g (fun u0 u1 u2 u3 w0 h => ih u0 u1 u2 u3 w0 h) S a0 z1 x3 m_a0 h hQ
def km_X5_knows (L : c_L) (S : c_S) (a0 : Nat) (z1 : Int64) (Q : Int32 → c_S → Prop) : Prop := ∃ n7_ : Nat, kl_X5_knows_2 L n7_ S a0 z1 (0 : Int32) Q
set_option maxRecDepth 100000 in
set_option maxHeartbeats 4000000 in
theorem um_X5_knows {L : c_L} {T : q_S} (g : c_G L T) (S : c_S) (a0 : Nat) (z1 : Int64) (m_a0 : c_mk L 5 a0) {Q1 : Int32 → c_S → Prop} {Q : Option Value → q_S → Prop} (h : km_X5_knows L  S a0 z1 Q1) (hQ : ∀ (v : Int32) (K : c_S), Q1 v K → Q (some (.int v)) (c_E L K T)) : wm_X5_knows  (c_E L S T) (c_ob L 5 a0) z1 Q := by
  unfold wm_X5_knows
  unfold km_X5_knows at h
  try simp only [c_gk g m_a0 6 rfl, true_and, Option.some.injEq, exists_eq_left', c_xm, c_xn, c_xs]
  obtain ⟨n7_, h⟩ := h
  refine ⟨n7_, ?_⟩
  exact ul_X5_knows_2 g n7_ _ a0 _ _ m_a0 h hQ
