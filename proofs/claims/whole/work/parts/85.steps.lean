/-! All of it together. RS: what steps of a process leave alone. -/
def RS (L : c_L) (Z : z_C) (K : c_S) (R : r_S) : Prop := (CQ L Z K R ∧ CT L Z K R ∧ CC L Z K R ∧ CM L Z K R ∧ NM Z K R) ∧ TH Z K R ∧ CH Z K R ∧ IN L Z K R ∧ ME Z K R ∧ JR K R ∧ GL Z K R ∧ TX K R
def WR (b : Nat) (L : c_L) (Z : z_C) (K : c_S) (R : r_S) : Prop := RS L Z K R ∧ DP Z K R ∧ OP b Z K R ∧ TI Z R ∧ PD Z K R ∧ JB b R
def W0 (b : Nat) (L : c_L) (Z : z_C) (K : c_S) (R : r_S) : Prop := RS L Z K R ∧ DP Z K R ∧ OP b Z K R ∧ TI Z R ∧ JB b R
theorem W0_of {b : Nat} {L : c_L} {Z : z_C} {K : c_S} {R : r_S} (h : WR b L Z K R) : W0 b L Z K R := ⟨h.1, h.2.1, h.2.2.1, h.2.2.2.1, h.2.2.2.2.2⟩
theorem WR_of {b : Nat} {L : c_L} {Z : z_C} {K : c_S} {R : r_S} (h : W0 b L Z K R) (d : PD Z K R) : WR b L Z K R := ⟨h.1, h.2.1, h.2.2.1, h.2.2.2.1, d, h.2.2.2.2⟩
theorem JB_w {b c : Nat} {R : r_S} (h : JB b R) (hb : b ≤ c) : JB c R := ⟨⟨h.1.1, by have := h.1.2; omega⟩, h.2.1, by have := h.2.2; omega⟩
theorem WR_w {b c : Nat} {L : c_L} {Z : z_C} {K : c_S} {R : r_S} (h : WR b L Z K R) (hb : b ≤ c) : WR c L Z K R := ⟨h.1, h.2.1, OP_w h.2.2.1 hb, h.2.2.2.1, h.2.2.2.2.1, JB_w h.2.2.2.2.2 hb⟩
theorem WR_cq {b : Nat} {L : c_L} {Z : z_C} {K : c_S} {R : r_S} (h : WR b L Z K R) : CQ L Z K R := h.1.1.1
theorem WR_ct {b : Nat} {L : c_L} {Z : z_C} {K : c_S} {R : r_S} (h : WR b L Z K R) : CT L Z K R := h.1.1.2.1
theorem WR_cc {b : Nat} {L : c_L} {Z : z_C} {K : c_S} {R : r_S} (h : WR b L Z K R) : CC L Z K R := h.1.1.2.2.1
theorem WR_cm {b : Nat} {L : c_L} {Z : z_C} {K : c_S} {R : r_S} (h : WR b L Z K R) : CM L Z K R := h.1.1.2.2.2.1
theorem WR_nm {b : Nat} {L : c_L} {Z : z_C} {K : c_S} {R : r_S} (h : WR b L Z K R) : NM Z K R := h.1.1.2.2.2.2
/-! the configuration's words -/
theorem CQ_np {L : c_L} {Z : z_C} {K : c_S} {R : r_S} (h : CQ L Z K R) : z_np Z ≤ 16 := h.1
theorem CQ_nq {L : c_L} {Z : z_C} {K : c_S} {R : r_S} (h : CQ L Z K R) : ∀ p : Nat, p < z_np Z → z_nq Z p ≤ 16 := fun p hp => (h.2 p hp).1.1
theorem CQ_p {L : c_L} {Z : z_C} {K : c_S} {R : r_S} (h : CQ L Z K R) {p : Nat} (hp : p < z_np Z) : c_mk L 5 p ∧ c_I K 1000 p = nI p ∧ c_I K 1004 p = nI (z_nq Z p) ∧ r_A R 2435 (6 * p + 5) = nI (z_nq Z p) := (h.2 p hp).1.2
theorem CQ_h0 {L : c_L} {Z : z_C} {K : c_S} {R : r_S} (h : CQ L Z K R) {p : Nat} (hp : p < z_np Z) (e : z_hd Z p = none) : c_I K 1008 p = -1 ∧ r_A R 2442 p = -1 := by
  have q := (h.2 p hp).2.1
  rw [e] at q
  exact q
theorem CQ_h1 {L : c_L} {Z : z_C} {K : c_S} {R : r_S} (h : CQ L Z K R) {p i : Nat} (hp : p < z_np Z) (e : z_hd Z p = some i) : i < z_nq Z p ∧ c_I K 1008 p = nI i ∧ r_A R 2442 p = nI (16 * p + i) := by
  have q := (h.2 p hp).2.1
  rw [e] at q
  exact q
theorem CQ_t {L : c_L} {Z : z_C} {K : c_S} {R : r_S} (h : CQ L Z K R) {p i : Nat} (hp : p < z_np Z) (hi : i < 5) : c_A K 1007 p i = r_A R 2452 (5 * p + i) ∧ 0 ≤ (r_A R 2452 (5 * p + i)).toInt ∧ (r_A R 2452 (5 * p + i)).toInt ≤ 6 ∧ (r_A R 2452 (5 * p + i) = 6 → z_hd Z p ≠ none) := (h.2 p hp).2.2.1 i hi
theorem CQ_q {L : c_L} {Z : z_C} {K : c_S} {R : r_S} (h : CQ L Z K R) {p j : Nat} (hp : p < z_np Z) (hj : j < z_nq Z p) : c_mk L 7 (16 * p + j) ∧ c_ln L 1411 (16 * p + j) = 32 ∧ c_I K 1400 (16 * p + j) = nI j ∧ c_I K 1407 (16 * p + j) = (if z_hd Z p = some j then 1 else 0) := ((h.2 p hp).2.2.2 j hj).1
theorem CQ_e {L : c_L} {Z : z_C} {K : c_S} {R : r_S} (h : CQ L Z K R) {p j : Nat} (hp : p < z_np Z) (hj : j < z_nq Z p) : c_I K 1402 (16 * p + j) = r_A R 2436 (16 * p + j) ∧ c_I K 1404 (16 * p + j) = r_A R 2438 (16 * p + j) ∧ c_I K 1405 (16 * p + j) = r_A R 2439 (16 * p + j) ∧ c_I K 1406 (16 * p + j) = r_A R 2440 (16 * p + j) ∧ c_I K 1408 (16 * p + j) = r_A R 2441 (16 * p + j) := ((h.2 p hp).2.2.2 j hj).2.1
theorem CQ_b {L : c_L} {Z : z_C} {K : c_S} {R : r_S} (h : CQ L Z K R) {p j : Nat} (hp : p < z_np Z) (hj : j < z_nq Z p) : (0 ≤ (r_A R 2438 (16 * p + j)).toInt ∧ (r_A R 2438 (16 * p + j)).toInt ≤ 100000) ∧ (0 ≤ (r_A R 2439 (16 * p + j)).toInt ∧ (r_A R 2439 (16 * p + j)).toInt ≤ 100000) ∧ (0 ≤ (r_A R 2440 (16 * p + j)).toInt ∧ (r_A R 2440 (16 * p + j)).toInt ≤ 100000) := ((h.2 p hp).2.2.2 j hj).2.2
theorem CQ_hq {L : c_L} {Z : z_C} {K : c_S} {R : r_S} (h : CQ L Z K R) {p j : Nat} (hp : p < z_np Z) (hj : j < z_nq Z p) : r_A R 2442 p = nI (16 * p + j) ↔ z_hd Z p = some j := by
  have n16 := CQ_nq h p hp
  have np := CQ_np h
  cases e : z_hd Z p with
  | none =>
    rw [(CQ_h0 h hp e).2]
    refine ⟨fun z => ?_, fun z => by cases z⟩
    have := congrArg Int32.toInt z
    rw [nI_toInt (by omega)] at this
    have t : (-1 : Int32).toInt = -1 := by decide
    omega
  | some i =>
    obtain ⟨hi, -, e2⟩ := CQ_h1 h hp e
    rw [e2, nI_eq (by omega) (by omega)]
    exact ⟨fun z => by rw [show i = j by omega], fun z => by injection z with z; omega⟩
/-! one partition's -/
def pd_k (K : c_S) (p f : Nat) : Int32 := m_I [1009, 1010, 1011, 1012, 1013, 1014, 1016, 1017, 1018] K f p
def pd_r (R : r_S) (p f : Nat) : Int32 := n_A [2483, 2484, 2485, 2486, 2487, 2488, 2489, 2490, 2491] R f p
def pd_s (R : r_S) (p j : Nat) : Int32 := r_A R 2467 (16 * p + j)
theorem PD_v {Z : z_C} {K : c_S} {R : r_S} (h : PD Z K R) {p : Nat} (hp : p < z_np Z) : PDv Z p (pd_k K p) (pd_r R p) (pd_s R p) := h p hp
theorem PDv_s {Z : z_C} {p : Nat} {k r s s' : Nat → Int32} (h : PDv Z p k r s) (e : ∀ j : Nat, j < z_nq Z p → s' j = s j) : PDv Z p k r s' := by
  obtain ⟨g1, g2, g3, g4, g5, g6, g7, g8, g9⟩ := h
  refine ⟨g1, g2, g3, g4, fun z => ?_, ?_, g7, fun i hi => ?_, fun z i hi => ?_⟩
  · obtain ⟨i, a1, a2, a3, a4, a5⟩ := g5 z
    exact ⟨i, a1, a2, a3, a4, by rw [e i a1]; exact a5⟩
  · rcases g6 with ⟨a1, a2⟩ | ⟨i, h', a1, a2, a3, a4, a5, a6, a7, a8, a9, a10⟩
    · exact Or.inl ⟨a1, fun i hi => by rw [e i hi]; exact a2 i hi⟩
    · exact Or.inr ⟨i, h', a1, a2, a3, a4, a5, a6, a7, by rw [e i a1]; exact a8, by rw [e h' (g8 h' a2).1]; exact a9, fun i' hi' z => a10 i' hi' (by rw [← e i' hi']; exact z)⟩
  · rw [e i (g8 i hi).1]; exact g8 i hi
  · rw [e i hi]; exact g9 z i hi
theorem PD_p {Z : z_C} {K K' : c_S} {R R' : r_S} {p : Nat} (h : PD Z K R) (hn : ∀ p : Nat, p < z_np Z → z_nq Z p ≤ 16) (ek : ∀ p' : Nat, p' ≠ p → pd_k K' p' = pd_k K p') (er : ∀ p' : Nat, p' ≠ p → pd_r R' p' = pd_r R p') (es : ∀ q : Nat, q / 16 ≠ p → r_A R' 2467 q = r_A R 2467 q) (n : p < z_np Z → PDv Z p (pd_k K' p) (pd_r R' p) (pd_s R' p)) : PD Z K' R' := by
  intro p' hp'
  by_cases e : p' = p
  · subst e; exact n hp'
  · show PDv Z p' (pd_k K' p') (pd_r R' p') (pd_s R' p')
    rw [ek p' e, er p' e]
    refine PDv_s (h p' hp') (fun j hj => ?_)
    have := hn p' hp'
    exact es _ (by omega)
/-- the state of q alone changes -/
theorem PDv_1 {Z : z_C} {p j : Nat} {k r s s' : Nat → Int32} (h : PDv Z p k r s) (n16 : z_nq Z p ≤ 16) (hj : j < z_nq Z p) (ej : ∀ i : Nat, i ≠ j → s' i = s i) (hm : r 2483 = 0 ∨ s' j = 0) (o3 : s j ≠ 3) (n3 : s' j ≠ 3) (hl : s' j ≠ 1 → k 1013 = 0 ∨ k 1014 ≠ nI j) (hh : z_hd Z p = some j → s' j = 1 ∨ s' j = 0 ∧ k 1016 = -1) : PDv Z p k r s' := by
  obtain ⟨g1, g2, g3, g4, g5, g6, g7, g8, g9⟩ := h
  refine ⟨g1, g2, g3, g4, fun z => ?_, ?_, g7, fun i hi => ?_, fun z i hi => ?_⟩
  · obtain ⟨i, a1, a2, a3, a4, a5⟩ := g5 z
    refine ⟨i, a1, a2, a3, a4, ?_⟩
    by_cases e : i = j
    · subst e
      by_cases e' : s' i = 1
      · exact e'
      · rcases hl e' with q | q
        · exact absurd q z
        · exact absurd a3 q
    · rw [ej i e]; exact a5
  · rcases g6 with ⟨a1, a2⟩ | ⟨i, h', a1, a2, a3, a4, a5, a6, a7, a8, a9, a10⟩
    · refine Or.inl ⟨a1, fun i hi => ?_⟩
      by_cases e : i = j
      · subst e; exact n3
      · rw [ej i e]; exact a2 i hi
    · have eij : i ≠ j := fun e => o3 (by rw [← e]; exact a8)
      refine Or.inr ⟨i, h', a1, a2, a3, a4, a5, a6, a7, by rw [ej i eij]; exact a8, ?_, fun i' hi' z => ?_⟩
      · by_cases e : h' = j
        · subst e
          rcases hh a2 with q | q
          · exact q
          · have t : (-1 : Int32) = nI i := q.2.symm.trans a4
            have := congrArg Int32.toInt t
            rw [nI_toInt (by omega)] at this
            have t : (-1 : Int32).toInt = -1 := by decide
            omega
        · rw [ej h' e]; exact a9
      · by_cases e : i' = j
        · subst e; exact absurd z n3
        · rw [ej i' e] at z; exact a10 i' hi' z
  · by_cases e : i = j
    · subst e
      rcases hh hi with q | q
      · exact ⟨hj, Or.inr q⟩
      · exact ⟨hj, Or.inl q.1⟩
    · rw [ej i e]; exact g8 i hi
  · by_cases e : i = j
    · subst e
      rcases hm with q | q
      · rw [q] at z; exact absurd z (by decide)
      · exact q
    · rw [ej i e]; exact g9 z i hi
theorem PD_1 {Z : z_C} {K K' : c_S} {R R' : r_S} {p j : Nat} (h : PD Z K R) (hp : p < z_np Z) (hj : j < z_nq Z p) (hn : ∀ p : Nat, p < z_np Z → z_nq Z p ≤ 16) (ek : m_I [1009, 1010, 1011, 1012, 1013, 1014, 1016, 1017, 1018] K' = m_I [1009, 1010, 1011, 1012, 1013, 1014, 1016, 1017, 1018] K) (er : n_A [2483, 2484, 2485, 2486, 2487, 2488, 2489, 2490, 2491] R' = n_A [2483, 2484, 2485, 2486, 2487, 2488, 2489, 2490, 2491] R) (es : ∀ q : Nat, q ≠ 16 * p + j → r_A R' 2467 q = r_A R 2467 q)
    (hm : r_A R 2483 p = 0 ∨ r_A R' 2467 (16 * p + j) = 0) (o3 : r_A R 2467 (16 * p + j) ≠ 3) (n3 : r_A R' 2467 (16 * p + j) ≠ 3)
    (hl : r_A R' 2467 (16 * p + j) ≠ 1 → c_I K 1013 p = 0 ∨ c_I K 1014 p ≠ nI j) (hh : z_hd Z p = some j → r_A R' 2467 (16 * p + j) = 1 ∨ r_A R' 2467 (16 * p + j) = 0 ∧ c_I K 1016 p = -1) : PD Z K' R' := by
  have n16 := hn p hp
  refine PD_p (p := p) h hn (fun p' _ => funext fun f => by unfold pd_k; rw [ek]) (fun p' _ => funext fun f => by unfold pd_r; rw [er]) (fun q hq => es q (fun z => hq (by omega))) (fun _ => ?_)
  rw [show pd_k K' p = pd_k K p from funext fun f => by unfold pd_k; rw [ek], show pd_r R' p = pd_r R p from funext fun f => by unfold pd_r; rw [er]]
  exact PDv_1 (PD_v h hp) n16 hj (fun i hi => es _ (by omega)) hm o3 n3 hl hh
