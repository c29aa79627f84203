/-! All of it together. RS: what steps of a process leave alone. -/
def RS (L : c_L) (Z : z_C) (K : c_S) (R : r_S) : Prop := (CQ L Z K R ∧ CT L Z K R ∧ CC L Z K R ∧ CM L Z K R) ∧ TH Z K R ∧ CH Z K R ∧ IN L Z K R ∧ ME Z K R ∧ JR K R ∧ GL K R ∧ TX K R
def WR (b : Nat) (L : c_L) (Z : z_C) (K : c_S) (R : r_S) : Prop := RS L Z K R ∧ DP Z K R ∧ OP b Z K R ∧ TI Z R ∧ PD Z K R ∧ JB b R
theorem JB_w {b c : Nat} {R : r_S} (h : JB b R) (hb : b ≤ c) : JB c R := ⟨⟨h.1.1, by have := h.1.2; omega⟩, h.2.1, by have := h.2.2; omega⟩
theorem WR_w {b c : Nat} {L : c_L} {Z : z_C} {K : c_S} {R : r_S} (h : WR b L Z K R) (hb : b ≤ c) : WR c L Z K R := ⟨h.1, h.2.1, OP_w h.2.2.1 hb, h.2.2.2.1, h.2.2.2.2.1, JB_w h.2.2.2.2.2 hb⟩
theorem WR_cq {b : Nat} {L : c_L} {Z : z_C} {K : c_S} {R : r_S} (h : WR b L Z K R) : CQ L Z K R := h.1.1.1
theorem WR_ct {b : Nat} {L : c_L} {Z : z_C} {K : c_S} {R : r_S} (h : WR b L Z K R) : CT L Z K R := h.1.1.2.1
theorem WR_cc {b : Nat} {L : c_L} {Z : z_C} {K : c_S} {R : r_S} (h : WR b L Z K R) : CC L Z K R := h.1.1.2.2.1
theorem WR_cm {b : Nat} {L : c_L} {Z : z_C} {K : c_S} {R : r_S} (h : WR b L Z K R) : CM L Z K R := h.1.1.2.2.2
/-! the configuration's words -/
theorem CQ_np {L : c_L} {Z : z_C} {K : c_S} {R : r_S} (h : CQ L Z K R) : z_np Z ≤ 16 := h.1
theorem CQ_nq {L : c_L} {Z : z_C} {K : c_S} {R : r_S} (h : CQ L Z K R) : ∀ p : Nat, p < z_np Z → z_nq Z p ≤ 16 := fun p hp => (h.2 p hp).1.1
theorem CQ_p {L : c_L} {Z : z_C} {K : c_S} {R : r_S} (h : CQ L Z K R) {p : Nat} (hp : p < z_np Z) : c_mk L 5 p ∧ c_I K 1000 p = nI p ∧ c_I K 1004 p = nI (z_nq Z p) ∧ r_A R 2435 (6 * p + 5) = nI (z_nq Z p) := (h.2 p hp).1.2
theorem CQ_h0 {L : c_L} {Z : z_C} {K : c_S} {R : r_S} (h : CQ L Z K R) {p : Nat} (hp : p < z_np Z) (e : z_hd Z p = none) : c_I K 1008 p = -1 ∧ r_A R 2442 p = -1 := by
  have q := (h.2 p hp).2.1
  rw [e] at q
  exact q
theorem CQ_h1 {L : c_L} {Z : z_C} {K : c_S} {R : r_S} (h : CQ L Z K R) {p i : Nat} (hp : p < z_np Z) (e : z_hd Z p = some i) : i < z_nq Z p ∧ c_I K 1008 p = nI i ∧ r_A R 2442 p = nI (16 * p + i) := by
  have q := (h.2 p hp).2.1
  rw [e] at q
  exact q
theorem CQ_t {L : c_L} {Z : z_C} {K : c_S} {R : r_S} (h : CQ L Z K R) {p i : Nat} (hp : p < z_np Z) (hi : i < 5) : c_A K 1007 p i = r_A R 2452 (5 * p + i) ∧ 0 ≤ (r_A R 2452 (5 * p + i)).toInt ∧ (r_A R 2452 (5 * p + i)).toInt ≤ 6 ∧ (r_A R 2452 (5 * p + i) = 6 → z_hd Z p ≠ none) := (h.2 p hp).2.2.1 i hi
theorem CQ_q {L : c_L} {Z : z_C} {K : c_S} {R : r_S} (h : CQ L Z K R) {p j : Nat} (hp : p < z_np Z) (hj : j < z_nq Z p) : c_mk L 7 (16 * p + j) ∧ c_ln L 1411 (16 * p + j) = 32 ∧ c_I K 1400 (16 * p + j) = nI j ∧ c_I K 1407 (16 * p + j) = (if z_hd Z p = some j then 1 else 0) := ((h.2 p hp).2.2.2 j hj).1
theorem CQ_e {L : c_L} {Z : z_C} {K : c_S} {R : r_S} (h : CQ L Z K R) {p j : Nat} (hp : p < z_np Z) (hj : j < z_nq Z p) : c_I K 1402 (16 * p + j) = r_A R 2436 (16 * p + j) ∧ c_I K 1404 (16 * p + j) = r_A R 2438 (16 * p + j) ∧ c_I K 1405 (16 * p + j) = r_A R 2439 (16 * p + j) ∧ c_I K 1406 (16 * p + j) = r_A R 2440 (16 * p + j) ∧ c_I K 1408 (16 * p + j) = r_A R 2441 (16 * p + j) := ((h.2 p hp).2.2.2 j hj).2.1
theorem CQ_b {L : c_L} {Z : z_C} {K : c_S} {R : r_S} (h : CQ L Z K R) {p j : Nat} (hp : p < z_np Z) (hj : j < z_nq Z p) : (0 ≤ (r_A R 2438 (16 * p + j)).toInt ∧ (r_A R 2438 (16 * p + j)).toInt ≤ 100000) ∧ (0 ≤ (r_A R 2439 (16 * p + j)).toInt ∧ (r_A R 2439 (16 * p + j)).toInt ≤ 100000) ∧ (0 ≤ (r_A R 2440 (16 * p + j)).toInt ∧ (r_A R 2440 (16 * p + j)).toInt ≤ 100000) := ((h.2 p hp).2.2.2 j hj).2.2
theorem CQ_hq {L : c_L} {Z : z_C} {K : c_S} {R : r_S} (h : CQ L Z K R) {p j : Nat} (hp : p < z_np Z) (hj : j < z_nq Z p) : r_A R 2442 p = nI (16 * p + j) ↔ z_hd Z p = some j := by
  have n16 := CQ_nq h p hp
  have np := CQ_np h
  cases e : z_hd Z p with
  | none =>
    rw [(CQ_h0 h hp e).2]
    refine ⟨fun z => ?_, fun z => by cases z⟩
    have := congrArg Int32.toInt z
    rw [nI_toInt (by omega)] at this
    have t : (-1 : Int32).toInt = -1 := by decide
    omega
  | some i =>
    obtain ⟨hi, -, e2⟩ := CQ_h1 h hp e
    rw [e2, nI_eq (by omega) (by omega)]
    exact ⟨fun z => by rw [show i = j by omega], fun z => by injection z with z; omega⟩
/-! the state of q alone changes -/
theorem PD_1 {Z : z_C} {K K' : c_S} {R R' : r_S} {p j : Nat} (h : PD Z K R) (hp : p < z_np Z) (hj : j < z_nq Z p) (hn : ∀ p : Nat, p < z_np Z → z_nq Z p ≤ 16) (ek : m_I [1009, 1010, 1011, 1012, 1013, 1014, 1016, 1017, 1018] K' = m_I [1009, 1010, 1011, 1012, 1013, 1014, 1016, 1017, 1018] K) (er : n_A [2483, 2484, 2485, 2486, 2487, 2488, 2489, 2490, 2491] R' = n_A [2483, 2484, 2485, 2486, 2487, 2488, 2489, 2490, 2491] R) (es : ∀ q : Nat, q ≠ 16 * p + j → r_A R' 2467 q = r_A R 2467 q)
    (hm : r_A R 2483 p = 0 ∨ r_A R' 2467 (16 * p + j) = 0) (o3 : r_A R 2467 (16 * p + j) ≠ 3) (n3 : r_A R' 2467 (16 * p + j) ≠ 3)
    (hl : r_A R' 2467 (16 * p + j) ≠ 1 → c_I K 1013 p = 0 ∨ c_I K 1014 p ≠ nI j) (hh : z_hd Z p = some j → r_A R' 2467 (16 * p + j) = 1 ∨ r_A R' 2467 (16 * p + j) = 0 ∧ c_I K 1016 p = -1) : PD Z K' R' := by
  unfold PD at h ⊢
  rw [ek, er]
  intro p' hp'
  have hn' := hn p' hp'
  have hnp := hn p hp
  obtain ⟨g1, g2, g3, g4, g5, g6, g7, g8, g9⟩ := h p' hp'
  have e0 : ∀ q : Nat, n_A [2467] R 2467 q = r_A R 2467 q := fun _ => rfl
  have e1 : ∀ q : Nat, n_A [2467] R' 2467 q = r_A R' 2467 q := fun _ => rfl
  simp only [e0, e1] at g5 g6 g8 g9 ⊢
  by_cases ep : p' = p
  · subst ep
    have ej : ∀ i : Nat, i ≠ j → r_A R' 2467 (16 * p' + i) = r_A R 2467 (16 * p' + i) := fun i hi => es _ (by omega)
    refine ⟨g1, g2, g3, g4, fun z => ?_, ?_, g7, fun i hi => ?_, fun z i hi => ?_⟩
    · obtain ⟨i, a1, a2, a3, a4, a5⟩ := g5 z
      refine ⟨i, a1, a2, a3, a4, ?_⟩
      by_cases e : i = j
      · subst e
        by_cases e' : r_A R' 2467 (16 * p' + i) = 1
        · exact e'
        · rcases hl e' with q | q
          · exact absurd q z
          · exact absurd a3 q
      · rw [ej i e]; exact a5
    · rcases g6 with ⟨a1, a2⟩ | ⟨i, h', a1, a2, a3, a4, a5, a6, a7, a8, a9, a10⟩
      · refine Or.inl ⟨a1, fun i hi => ?_⟩
        by_cases e : i = j
        · subst e; exact n3
        · rw [ej i e]; exact a2 i hi
      · have eij : i ≠ j := fun e => o3 (by rw [← e]; exact a8)
        refine Or.inr ⟨i, h', a1, a2, a3, a4, a5, a6, a7, by rw [ej i eij]; exact a8, ?_, fun i' hi' z => ?_⟩
        · by_cases e : h' = j
          · subst e
            rcases hh a2 with q | q
            · exact q
            · have t : (-1 : Int32) = nI i := q.2.symm.trans a4
              have := congrArg Int32.toInt t
              rw [nI_toInt (by omega)] at this
              have t : (-1 : Int32).toInt = -1 := by decide
              omega
          · rw [ej h' e]; exact a9
        · by_cases e : i' = j
          · subst e; exact absurd z n3
          · rw [ej i' e] at z; exact a10 i' hi' z
    · by_cases e : i = j
      · subst e
        rcases hh hi with q | q
        · exact ⟨hj, Or.inr q⟩
        · exact ⟨hj, Or.inl q.1⟩
      · rw [ej i e]; exact g8 i hi
    · by_cases e : i = j
      · subst e
        rcases hm with q | q
        · have z : r_A R 2483 p' = 1 := z
          rw [q] at z; exact absurd z (by decide)
        · exact q
      · rw [ej i e]; exact g9 z i hi
  · have ej : ∀ i : Nat, i < z_nq Z p' → r_A R' 2467 (16 * p' + i) = r_A R 2467 (16 * p' + i) := fun i hi => es _ (by omega)
    refine ⟨g1, g2, g3, g4, fun z => ?_, ?_, g7, fun i hi => ?_, fun z i hi => ?_⟩
    · obtain ⟨i, a1, a2, a3, a4, a5⟩ := g5 z
      exact ⟨i, a1, a2, a3, a4, by rw [ej i a1]; exact a5⟩
    · rcases g6 with ⟨a1, a2⟩ | ⟨i, h', a1, a2, a3, a4, a5, a6, a7, a8, a9, a10⟩
      · exact Or.inl ⟨a1, fun i hi => by rw [ej i hi]; exact a2 i hi⟩
      · exact Or.inr ⟨i, h', a1, a2, a3, a4, a5, a6, a7, by rw [ej i a1]; exact a8, by rw [ej h' (g8 h' a2).1]; exact a9, fun i' hi' z => a10 i' hi' (by rw [← ej i' hi']; exact z)⟩
    · rw [ej i (g8 i hi).1]; exact g8 i hi
    · rw [ej i hi]; exact g9 z i hi
