/-! Within a call: whose, and what the answerer holds. -/
def GK (L : c_L) : Prop := c_mk L 6 0 ∧ (∀ i j : Nat, c_mk L 10 i → c_qu i = some j → c_mk L 8 j) ∧ ∀ i : Nat, c_mk L 1 i → c_mk L 8 (1000 + i)
def CX (b : Nat) (L : c_L) (Z : z_C) (K : c_S) (R : r_S) (p j : Nat) : Prop := WR b L Z K R ∧ (p < z_np Z ∧ j < z_nq Z p) ∧ (c_P K 0 0 = some 0 ∧ c_P K 1 0 = some p ∧ c_P K 2 0 = some (16 * p + j) ∧ c_P K 3 0 = some (16 * p + j)) ∧ c_I K 4 0 = r_I R 2463 ∧ r_A R 2467 (16 * p + j) = 1 ∧ r_A R 2483 p = 0 ∧ GK L
/-- both answer alike -/
def AN (b : Nat) (L : c_L) (Z : z_C) (q : Nat) (KM : (Int32 → c_S → Prop) → Prop) (RM : (Option Value → r_S → Prop) → Prop) : Prop := ∃ (v : Int32) (K' : c_S) (R' : r_S), (∀ Q : Int32 → c_S → Prop, Q v K' → KM Q) ∧ (∀ Q : Option Value → r_S → Prop, Q (some (.int v)) R' → RM Q) ∧ WR b L Z K' R' ∧ c_P K' 3 0 = some q
/-- and behind the answer's way into the register -/
def AF (b : Nat) (L : c_L) (Z : z_C) (q : Nat) (KM : (Int32 → c_S → Prop) → Prop) (RM : (Option Value → r_S → Prop) → Prop) : Prop := ∃ (K' : c_S) (R' : r_S), (∀ Q : Int32 → c_S → Prop, Q (-1) K' → KM (fun x S => kb_X0_answer_320 L S 0 x Q)) ∧ (∀ Q : Option Value → r_S → Prop, Q none R' → RM (fun r S => ∃ x : Int32, r = some (.int x) ∧ rb_X12_calls_220 S (nI q) x Q)) ∧ WR b L Z K' R'
theorem AN_w {b c : Nat} {L : c_L} {Z : z_C} {q : Nat} {KM : (Int32 → c_S → Prop) → Prop} {RM : (Option Value → r_S → Prop) → Prop} (h : AN b L Z q KM RM) (hb : b ≤ c) : AN c L Z q KM RM := by
  obtain ⟨v, K', R', h1, h2, h3, h4⟩ := h
  exact ⟨v, K', R', h1, h2, WR_w h3 hb, h4⟩
theorem AF_w {b c : Nat} {L : c_L} {Z : z_C} {q : Nat} {KM : (Int32 → c_S → Prop) → Prop} {RM : (Option Value → r_S → Prop) → Prop} (h : AF b L Z q KM RM) (hb : b ≤ c) : AF c L Z q KM RM := by
  obtain ⟨K', R', h1, h2, h3⟩ := h
  exact ⟨K', R', h1, h2, WR_w h3 hb⟩
/-- other programs that end likewise -/
theorem AN_m {b : Nat} {L : c_L} {Z : z_C} {q : Nat} {KM KM' : (Int32 → c_S → Prop) → Prop} {RM RM' : (Option Value → r_S → Prop) → Prop} (h : AN b L Z q KM RM) (hk : ∀ Q : Int32 → c_S → Prop, KM Q → KM' Q) (hr : ∀ Q : Option Value → r_S → Prop, RM (fun r S => ∃ x : Int32, r = some (.int x) ∧ Q (some (.int x)) S) → RM' Q) : AN b L Z q KM' RM' := by
  obtain ⟨v, K', R', h1, h2, h3, h4⟩ := h
  exact ⟨v, K', R', fun Q z => hk Q (h1 Q z), fun Q z => hr Q (h2 _ ⟨_, rfl, z⟩), h3, h4⟩
theorem AN_i {b : Nat} {L : c_L} {Z : z_C} {q : Nat} {KM : (Int32 → c_S → Prop) → Prop} {RM : (Option Value → r_S → Prop) → Prop} (v : Int32) (K' : c_S) (R' : r_S) (h3 : WR b L Z K' R') (h4 : c_P K' 3 0 = some q) (h1 : ∀ Q : Int32 → c_S → Prop, Q v K' → KM Q) (h2 : ∀ Q : Option Value → r_S → Prop, Q (some (.int v)) R' → RM Q) : AN b L Z q KM RM := ⟨v, K', R', h1, h2, h3, h4⟩
theorem v32 {n : Nat} (h : n < 32) : vp_in (nI n) 32 := vp_in_nI h (by decide)
theorem AF_of {b : Nat} {L : c_L} {Z : z_C} {p j : Nat} {KM : (Int32 → c_S → Prop) → Prop} {RM : (Option Value → r_S → Prop) → Prop} (hp : p < z_np Z) (hj : j < z_nq Z p) (h : AN b L Z (16 * p + j) KM RM) : AF b L Z (16 * p + j) KM RM := by
  obtain ⟨v, K', R', h1, h2, h3, h4⟩ := h
  have cq := WR_cq h3
  have np16 := CQ_np cq
  have n16 := CQ_nq cq p hp
  have mq := (CQ_q cq hp hj).1
  by_cases c : v = -1
  · subst c
    exact ⟨K', R', fun Q hQ => h1 _ ⟨fun _ => hQ, fun z => absurd rfl z⟩, fun Q hQ => h2 _ ⟨_, rfl, fun _ => hQ, fun z => absurd rfl z⟩, h3⟩
  · refine ⟨cs_A K' 1411 (16 * p + j) 10 v, rs_A R' 2477 (32 * (16 * p + j) + 10) v, fun Q hQ => h1 _ ⟨fun z => absurd z c, fun _ => ⟨_, h4, mq, v32 (n := 10) (by decide), hQ⟩⟩, fun Q hQ => h2 _ ⟨_, rfl, fun z => absurd z c, fun _ => re_answer (by omega) ⟨rfl, hQ⟩⟩, WR_x h3 hp hj (by decide)⟩
theorem nb_0 : narrow .boolean (.int (0 : Int32)) = .int 0 := rfl
theorem nb_1 : narrow .boolean (.int (1 : Int32)) = .int 1 := rfl
theorem ke_isNoTime {L : c_L} {K : c_S} {t : Int32} {Q : Int32 → c_S → Prop} (h : Q (if t < -1 ∨ 100000 < t then 1 else 0) K) : km_X0_isNoTime L K 0 t Q := by
  refine ⟨fun c => ⟨nb_1, ?_⟩, fun c => ⟨fun c2 => ⟨nb_0, ?_⟩, fun c2 => ⟨nb_1, ?_⟩⟩⟩
  · rw [if_pos (Or.inl c)] at h; exact h
  · rw [if_neg (fun z => z.elim c (i_nlt.mpr c2))] at h; exact h
  · rw [if_pos (Or.inr (i_nle.mp c2))] at h; exact h
theorem re_isTime {R : r_S} {t : Int32} {Q : Option Value → r_S → Prop} (h : Q (some (.int (if t < -1 ∨ 100000 < t then 0 else 1))) R) : rm_X12_isTime R t Q := by
  refine ⟨fun c => ⟨nb_0, ?_⟩, fun c => ⟨fun c2 => ⟨nb_0, ?_⟩, fun c2 => ⟨nb_1, ?_⟩⟩⟩
  · rw [if_pos (Or.inl c)] at h; exact h
  · rw [if_pos (Or.inr c2)] at h; exact h
  · rw [if_neg (fun z => z.elim c c2)] at h; exact h
theorem ke_isNoDelay {L : c_L} {K : c_S} {t : Int32} {Q : Int32 → c_S → Prop} (h : Q (if t < 1 ∨ 100000 < t then 1 else 0) K) : km_X0_isNoDelay L K 0 t Q := by
  refine ⟨fun c => ⟨nb_1, ?_⟩, fun c => ⟨fun c2 => ⟨nb_0, ?_⟩, fun c2 => ⟨nb_1, ?_⟩⟩⟩
  · rw [if_pos (Or.inl c)] at h; exact h
  · rw [if_neg (fun z => z.elim c (i_nlt.mpr c2))] at h; exact h
  · rw [if_pos (Or.inr (i_nle.mp c2))] at h; exact h
theorem PD_lk {b : Nat} {L : c_L} {Z : z_C} {K : c_S} {R : r_S} (h : WR b L Z K R) {p : Nat} (hp : p < z_np Z) : c_I K 1013 p = r_A R 2486 p ∧ 0 ≤ (r_A R 2486 p).toInt := ⟨(PD_v h.2.2.2.2.1 hp).1.2.2.2.2, (PD_v h.2.2.2.2.1 hp).2.2.1.1⟩
theorem i_0 {x : Int32} (h : 0 ≤ x.toInt) : ¬ 0 < x ↔ x = 0 := by
  rw [i_lt]
  refine ⟨fun z => Int32.toInt_inj.mp ?_, fun z => by rw [z]; decide⟩
  have t : (0 : Int32).toInt = 0 := by decide
  omega
/-- may it wait? -/
theorem ke_may {b : Nat} {L : c_L} {Z : z_C} {K : c_S} {R : r_S} {p j : Nat} {Q : Int32 → c_S → Prop} (x : CX b L Z K R p j) (h : Q (if 0 < r_A R 2486 p ∨ r_A R 2442 p = nI (16 * p + j) then 1 else 0) K) : km_X0_mayNotWait L K 0 Q := by
  obtain ⟨w, ⟨hp, hj⟩, ⟨-, p1, p2, -⟩, -, -, -, -⟩ := x
  have cq := WR_cq w
  have hf := (CQ_q cq hp hj).2.2.2
  have hq := CQ_hq cq hp hj
  have lk := (PD_lk w hp).1
  refine ⟨p, p1, (CQ_p cq hp).1, fun c => ⟨nb_1, ?_⟩, fun c => ⟨_, p2, (CQ_q cq hp hj).1, fun c2 => ⟨nb_0, ?_⟩, fun c2 => ⟨nb_1, ?_⟩⟩⟩
  · rw [if_pos (Or.inl (lk ▸ c))] at h; exact h
  · rw [hf] at c2
    rw [if_neg (fun z => z.elim (fun z => c (lk ▸ z)) (fun z => by rw [if_pos (hq.mp z)] at c2; exact absurd c2 (by decide)))] at h; exact h
  · rw [hf] at c2
    rw [if_pos (Or.inr (hq.mpr (Classical.byContradiction fun z => by rw [if_neg z] at c2; exact c2 rfl)))] at h; exact h
/-- a wait for something, without a word -/
theorem AN_wait {b : Nat} {L : c_L} {Z : z_C} {K : c_S} {R : r_S} {p j : Nat} {code s th t : Int32} (x : CX b L Z K R p j) (hb : b < 1999999990) (hs : s ≠ 4 ∧ s ≠ 7) (hc : ∀ til : Int32, code = p_wc p (p_r (r_wt R (16 * p + j) s th til) (16 * p + j))) (hwg : ∀ til : Int32, WGt Z p (fun a => r_A R 2448 (16 * p + a)) (fun a => r_A R 2450 (16 * p + a)) (p_r (r_wt R (16 * p + j) s th til) (16 * p + j))) : AN (b + 1) L Z (16 * p + j) (km_X0_waitFor L K 0 code t) (rm_X12_waits R (nI (16 * p + j)) s th t) := by
  have x' := x
  obtain ⟨w, ⟨hp, hj⟩, ⟨-, p1, p2, p3⟩, hnow, h1, hm, -⟩ := x
  have cq := WR_cq w
  have np16 := CQ_np cq
  have n16 := CQ_nq cq p hp
  have hq := CQ_hq cq hp hj
  by_cases c0 : t = 0
  · subst c0
    exact AN_i 2 K R (WR_w w (by omega)) p3 (fun Q hQ => ⟨fun z => absurd rfl z, fun _ => hQ⟩) (fun Q hQ => re_waits0 hQ)
  · by_cases cl : 0 < r_A R 2486 p ∨ r_A R 2442 p = nI (16 * p + j)
    · refine AN_i 3 K R (WR_w w (by omega)) p3 (fun Q hQ => ⟨fun _ => ke_may x' ?_, fun z => absurd z c0⟩) (fun Q hQ => re_waitsL (by omega) (by omega) c0 cl hQ)
      rw [if_pos cl]
      exact ⟨fun z => absurd z (by decide), fun _ => hQ⟩
    · have nl : ¬ 0 < r_A R 2486 p := fun z => cl (Or.inl z)
      have nh : r_A R 2442 p ≠ nI (16 * p + j) := fun z => cl (Or.inr z)
      refine AN_i (-1) (k_wt K p (16 * p + j) code (if 0 ≤ t then r_I R 2463 + t else -1)) (r_wt R (16 * p + j) s th (if 0 ≤ t then r_I R 2463 + t else -1)) ?_ p3 (fun Q hQ => ⟨fun _ => ke_may x' ?_, fun z => absurd z c0⟩) (fun Q hQ => re_waits (by omega) (by omega) c0 nl nh hQ)
      · exact WR_wt w (by omega) hp hj h1 hm ((PD_lk w hp).1.trans ((i_0 (PD_lk w hp).2).mp nl)) (fun z => nh (hq.mpr z)) (hc _) (hwg _) hs
      · rw [if_neg cl]
        refine ⟨fun _ => ⟨fun c => ⟨p, p1, (CQ_p cq hp).1, ?_⟩, fun c => ⟨p, p1, (CQ_p cq hp).1, ?_⟩⟩, fun z => absurd rfl z⟩
        · rw [p2, hnow]
          rw [if_pos c] at hQ
          exact ke_makeWait (CQ_q cq hp hj).1 hQ
        · rw [p2]
          rw [if_neg c] at hQ
          exact ke_makeWait (CQ_q cq hp hj).1 hQ
/-- the codes of waits for things -/
theorem wc_thing {p : Nat} {w : Nat → Int32} {s k : Nat} (hs : 1 ≤ s ∧ s ≤ 5) (e11 : w 11 = nI s) (e12 : w 12 = nI (8 * p + k)) : p_wc p w = nI (b_co s + k) := by
  have ed := i_sub0 e12
  unfold p_wc
  rw [e11, ed]
  have : s = 1 ∨ s = 2 ∨ s = 3 ∨ s = 4 ∨ s = 5 := by omega
  rcases this with rfl | rfl | rfl | rfl | rfl
  · rw [if_neg (by decide), if_pos (by decide), show b_co 1 + k = k from Nat.zero_add k]
  · rw [if_neg (by decide), if_neg (by decide), if_pos (by decide), show (8 : Int32) = nI 8 from rfl, nI_add]; rfl
  · rw [if_neg (by decide), if_neg (by decide), if_neg (by decide), if_pos (by decide), show (16 : Int32) = nI 16 from rfl, nI_add]; rfl
  · rw [if_neg (by decide), if_neg (by decide), if_neg (by decide), if_neg (by decide), if_pos (by decide), show (80 : Int32) = nI 80 from rfl, nI_add]; rfl
  · rw [if_neg (by decide), if_neg (by decide), if_neg (by decide), if_neg (by decide), if_neg (by decide), if_pos (by decide), show (24 : Int32) = nI 24 from rfl, nI_add]; rfl
theorem WG_thing {Z : z_C} {p : Nat} {c48 c50 w : Nat → Int32} {s k : Nat} (hs : 1 ≤ s ∧ s ≤ 5) (hk : k < 8) (e11 : w 11 = nI s) (e12 : w 12 = nI (8 * p + k)) : WGt Z p c48 c50 w := by
  refine Or.inr (Or.inl ⟨?_, k, hk, e12⟩)
  rw [e11]
  have : s = 1 ∨ s = 2 ∨ s = 3 ∨ s = 4 ∨ s = 5 := by omega
  rcases this with rfl | rfl | rfl | rfl | rfl
  · exact Or.inl rfl
  · exact Or.inr (Or.inl rfl)
  · exact Or.inr (Or.inr (Or.inl rfl))
  · exact Or.inr (Or.inr (Or.inr (Or.inl rfl)))
  · exact Or.inr (Or.inr (Or.inr (Or.inr rfl)))
theorem AN_waitT {b : Nat} {L : c_L} {Z : z_C} {K : c_S} {R : r_S} {p j s k : Nat} {t : Int32} (x : CX b L Z K R p j) (hb : b < 1999999990) (hs : 1 ≤ s ∧ s ≤ 5) (h4 : s ≠ 4) (hk : k < 8) : AN (b + 1) L Z (16 * p + j) (km_X0_waitFor L K 0 (nI (b_co s + k)) t) (rm_X12_waits R (nI (16 * p + j)) (nI s) (nI (8 * p + k)) t) :=
  AN_wait x hb ⟨fun z => h4 ((nI_eq (by omega) (by decide)).mp (z.trans (show (4 : Int32) = nI 4 from rfl))), fun z => by have := (nI_eq (a := s) (b := 7) (by omega) (by decide)).mp (z.trans (show (7 : Int32) = nI 7 from rfl)); omega⟩ (fun til => by rw [r_wt_r]; exact (wc_thing hs rfl rfl).symm) (fun til => by rw [r_wt_r]; exact WG_thing hs hk rfl rfl)
