theorem CC_c {L : c_L} {Z : z_C} {K : c_S} {R : r_S} (h : CC L Z K R) {c : Nat} (hc : c < z_nc Z) : (c_mk L 1 c ∧ c_I K 200 c = nI c ∧ c_I K 201 c = r_A R 2454 c ∧ c_I K 202 c = r_A R 2456 c ∧ c_I K 203 c = r_A R 2455 c ∧ c_I K 207 c = nI (z_ng Z c) ∧ r_A R 2458 c = nI (z_ng Z c) ∧ 1 ≤ z_ng Z c ∧ z_ng Z c ≤ 4) ∧ (r_A R 2454 c = 0 ∨ r_A R 2454 c = 1) ∧ (r_A R 2456 c = 0 ∨ r_A R 2456 c = 1) ∧ 0 ≤ (r_A R 2455 c).toInt := by
  have q := h.2.2.2.2.2.2.1 c hc
  exact ⟨q.1, q.2.1, q.2.2.1, q.2.2.2.1⟩
theorem CC_d {L : c_L} {Z : z_C} {K : c_S} {R : r_S} (h : CC L Z K R) {c : Nat} (hc : c < z_nc Z) : c_I K 1601 (1000 + c) = nI (z_dc Z (1000 + c)) ∧ 1 ≤ z_dc Z (1000 + c) ∧ z_dc Z (1000 + c) ≤ 32 ∧ z_dc Z (1000 + c) ≤ c_ln L 1600 (1000 + c) ∧ c_ln L 1600 (1000 + c) < 2 ^ 31 ∧ (r_A R 2454 c = 1 → r_A R 2455 c = nI (z_dc Z (1000 + c)) ∧ z_ng Z c = 1) ∧ (r_A R 2454 c = 0 → z_dc Z (1000 + c) = 1) := (h.2.2.2.2.2.2.1 c hc).2.2.2.2.1
theorem CC_s0 {L : c_L} {Z : z_C} {K : c_S} {R : r_S} (h : CC L Z K R) {c : Nat} (hc : c < z_nc Z) (e : z_sp Z c = none) : c_P K 209 c = none ∧ r_A R 2457 c = -2 := by
  have q := (h.2.2.2.2.2.2.1 c hc).2.2.2.2.2.1
  rw [e] at q
  exact q
theorem CC_s1 {L : c_L} {Z : z_C} {K : c_S} {R : r_S} (h : CC L Z K R) {c p a : Nat} (hc : c < z_nc Z) (e : z_sp Z c = some (p, a)) : p < z_np Z ∧ a < z_nt Z p 4 ∧ c_P K 209 c = some p ∧ c_I K 210 c = nI (32 + a) ∧ r_A R 2457 c = nI (16 * p + a) ∧ r_A R 2450 (16 * p + a) = nI c ∧ r_A R 2448 (16 * p + a) = 1 := by
  have q := (h.2.2.2.2.2.2.1 c hc).2.2.2.2.2.1
  rw [e] at q
  exact q
theorem CC_g0 {L : c_L} {Z : z_C} {K : c_S} {R : r_S} (h : CC L Z K R) {c g : Nat} (hc : c < z_nc Z) (hg : g < z_ng Z c) (e : z_gp Z c g = none) : r_A R 2459 (4 * c + g) = -2 := by
  have q := (h.2.2.2.2.2.2.1 c hc).2.2.2.2.2.2.1 g hg
  rw [e] at q
  exact q
theorem CC_g1 {L : c_L} {Z : z_C} {K : c_S} {R : r_S} (h : CC L Z K R) {c g p a : Nat} (hc : c < z_nc Z) (hg : g < z_ng Z c) (e : z_gp Z c g = some (p, a)) : p < z_np Z ∧ a < z_nt Z p 4 ∧ r_A R 2459 (4 * c + g) = nI (16 * p + a) ∧ r_A R 2450 (16 * p + a) = nI c ∧ r_A R 2448 (16 * p + a) = 0 := by
  have q := (h.2.2.2.2.2.2.1 c hc).2.2.2.2.2.2.1 g hg
  rw [e] at q
  exact q
theorem CC_o {L : c_L} {Z : z_C} {K : c_S} {R : r_S} (h : CC L Z K R) {c : Nat} (hc : c < z_nc Z) : c_I K 208 c = nI (((List.range (z_ng Z c)).filter (fun g => (z_gp Z c g).isNone)).length) := (h.2.2.2.2.2.2.1 c hc).2.2.2.2.2.2.2.1
theorem CC_q {L : c_L} {Z : z_C} {K : c_S} {R : r_S} (h : CC L Z K R) {c : Nat} (hc : c < z_nc Z) (hq : r_A R 2454 c = 1) : match z_gp Z c 0 with | none => c_P K 211 c = none | some q => c_P K 211 c = some q.1 ∧ c_I K 212 c = nI (32 + q.2) := (h.2.2.2.2.2.2.1 c hc).2.2.2.2.2.2.2.2 hq
theorem CT_p {L : c_L} {Z : z_C} {K : c_S} {R : r_S} (h : CT L Z K R) {p i : Nat} (hp : p < z_np Z) (hi : i < z_nt Z p 4) : c_I K 2006 (48 * p + (32 + i)) = r_A R 2448 (16 * p + i) ∧ c_I K 2007 (48 * p + (32 + i)) = r_A R 2449 (16 * p + i) ∧ c_I K 2008 (48 * p + (32 + i)) = r_A R 2450 (16 * p + i) ∧ (r_A R 2448 (16 * p + i) = 0 ∨ r_A R 2448 (16 * p + i) = 1) ∧ (r_A R 2449 (16 * p + i) = 0 ∨ r_A R 2449 (16 * p + i) = 1) ∧ (r_A R 2450 (16 * p + i) = -1 ∨ ∃ c : Nat, c < z_nc Z ∧ r_A R 2450 (16 * p + i) = nI c ∧ r_A R 2454 c = r_A R 2449 (16 * p + i) ∧ (r_A R 2448 (16 * p + i) = 1 → z_sp Z c = some (p, i)) ∧ (r_A R 2448 (16 * p + i) = 0 → ∃ g : Nat, g < z_ng Z c ∧ z_gp Z c g = some (p, i))) := ((h p hp).2.2.2.2.2 i hi).2
theorem CT_n {L : c_L} {Z : z_C} {K : c_S} {R : r_S} (h : CT L Z K R) {p s : Nat} (hp : p < z_np Z) (hs : s < 5) : z_nt Z p s ≤ (if s = 4 then 16 else 8) ∧ c_A K 1006 p s = nI (z_nt Z p s) ∧ r_A R 2435 (6 * p + s) = nI (z_nt Z p s) ∧ ∀ i : Nat, i < z_nt Z p s → c_mk L 10 (48 * p + (8 * s + i)) := (h p hp).1 s hs
/-- a process's wait, told apart by its code -/
theorem wc_cases {b : Nat} {L : c_L} {Z : z_C} {K : c_S} {R : r_S} {p i : Nat} (h : WR b L Z K R) (hp : p < z_np Z) (hi : i < z_nq Z p) : (r_A R 2467 (16 * p + i) ≠ 2 ∧ c_I K 1418 (16 * p + i) = -1) ∨ (r_A R 2467 (16 * p + i) = 2 ∧ ((r_A R 2478 (16 * p + i) = 0 ∧ c_I K 1418 (16 * p + i) = nI 128) ∨ (∃ s k : Nat, (1 ≤ s ∧ s ≤ 5) ∧ k < 8 ∧ r_A R 2478 (16 * p + i) = nI s ∧ r_A R 2479 (16 * p + i) = nI (8 * p + k) ∧ c_I K 1418 (16 * p + i) = nI (b_co s + k)) ∨ (∃ a : Nat, a < z_nt Z p 4 ∧ r_A R 2478 (16 * p + i) = nI 6 ∧ r_A R 2480 (16 * p + i) = nI a ∧ r_A R 2479 (16 * p + i) = r_A R 2450 (16 * p + a) ∧ r_A R 2448 (16 * p + a) = 0 ∧ c_I K 1418 (16 * p + i) = nI (32 + a)) ∨ (∃ a : Nat, a < z_nt Z p 4 ∧ r_A R 2478 (16 * p + i) = nI 7 ∧ r_A R 2480 (16 * p + i) = nI a ∧ r_A R 2479 (16 * p + i) = r_A R 2450 (16 * p + a) ∧ r_A R 2448 (16 * p + a) = 1 ∧ c_I K 1418 (16 * p + i) = nI (96 + a)) ∨ (r_A R 2478 (16 * p + i) = nI 8 ∧ c_I K 1418 (16 * p + i) = nI 129))) := by
  have pr := DP_w h hp hi
  have wg := (WR_ti h hp hi).2.2.2.2.2
  have e18 : c_I K 1418 (16 * p + i) = (if r_A R 2467 (16 * p + i) = 2 then p_wc p (p_r R (16 * p + i)) else -1) := pr.2.2.2.1
  by_cases c2 : r_A R 2467 (16 * p + i) = 2
  · refine Or.inr ⟨c2, ?_⟩
    rw [if_pos c2] at e18
    have w0 := wg c2
    have q11 : p_r R (16 * p + i) 11 = r_A R 2478 (16 * p + i) := rfl
    have q12 : p_r R (16 * p + i) 12 = r_A R 2479 (16 * p + i) := rfl
    have q13 : p_r R (16 * p + i) 13 = r_A R 2480 (16 * p + i) := rfl
    unfold WGt at w0
    rcases w0 with e | ⟨e, k', hk', e'⟩ | ⟨e, a, ha, e', e2, e3⟩ | ⟨e, a, ha, e', e2, e3⟩ | e
    · refine Or.inl ⟨e, e18.trans ?_⟩
      unfold p_wc
      rw [if_pos e]; rfl
    · obtain ⟨s', h1, h2, e1⟩ : ∃ s' : Nat, 1 ≤ s' ∧ s' ≤ 5 ∧ r_A R 2478 (16 * p + i) = nI s' := by
        rcases e with e | e | e | e | e
        · exact ⟨1, by omega, by omega, e⟩
        · exact ⟨2, by omega, by omega, e⟩
        · exact ⟨3, by omega, by omega, e⟩
        · exact ⟨4, by omega, by omega, e⟩
        · exact ⟨5, by omega, by omega, e⟩
      refine Or.inr (Or.inl ⟨s', k', ⟨h1, h2⟩, hk', e1, e', ?_⟩)
      refine (mt_thing h hp hi ⟨h1, h2⟩ hk').mpr ?_
      unfold r_mt
      rw [decide_eq_true_eq]
      exact ⟨c2, e1, e'⟩
    · refine Or.inr (Or.inr (Or.inl ⟨a, ha, e, e', e2, e3, e18.trans ?_⟩))
      unfold p_wc
      rw [e, if_neg (by decide), if_neg (by decide), if_neg (by decide), if_neg (by decide), if_neg (by decide), if_neg (by decide), if_pos rfl, e', show (32 : Int32) = nI 32 from rfl, nI_add]
    · refine Or.inr (Or.inr (Or.inr (Or.inl ⟨a, ha, e, e', e2, e3, e18.trans ?_⟩)))
      unfold p_wc
      rw [e, if_neg (by decide), if_neg (by decide), if_neg (by decide), if_neg (by decide), if_neg (by decide), if_neg (by decide), if_neg (by decide), if_pos rfl, e', show (96 : Int32) = nI 96 from rfl, nI_add]
    · refine Or.inr (Or.inr (Or.inr (Or.inr ⟨e, e18.trans ?_⟩)))
      unfold p_wc
      rw [e, if_neg (by decide), if_neg (by decide), if_neg (by decide), if_neg (by decide), if_neg (by decide), if_neg (by decide), if_neg (by decide), if_neg (by decide)]
      rfl
  · rw [if_neg c2] at e18
    exact Or.inl ⟨c2, e18⟩
theorem b_co80 {s : Nat} : b_co s ≤ 80 := by unfold b_co; split <;> (try split) <;> (try split) <;> (try split) <;> omega
theorem b_cor {s : Nat} (hs : 1 ≤ s ∧ s ≤ 5) : b_co s = 80 ∨ b_co s ≤ 24 := by
  have c2 : s = 1 ∨ s = 2 ∨ s = 3 ∨ s = 4 ∨ s = 5 := by omega
  unfold b_co
  rcases c2 with rfl | rfl | rfl | rfl | rfl <;> simp
/-- of a queue, at its goal -/
theorem mt_recv {b : Nat} {L : c_L} {Z : z_C} {K : c_S} {R : r_S} {p i c a : Nat} (h : WR b L Z K R) (hp : p < z_np Z) (hi : i < z_nq Z p) (hc : c < z_nc Z) (hq : r_A R 2454 c = 1) (hg : z_gp Z c 0 = some (p, a)) : c_I K 1418 (16 * p + i) = nI (32 + a) ↔ r_mt R 6 (nI c) (16 * p + i) = true := by
  have cc := WR_cc h
  have nc24 : z_nc Z ≤ 24 := cc.1.1
  have ng1 := (CC_d cc hc).2.2.2.2.2.1 hq
  obtain ⟨g1, g2, g3, g4, g5⟩ := CC_g1 cc hc (by omega) hg
  have n16 := (CT_n (WR_ct h) hp (s := 4) (by decide)).1
  rw [if_pos rfl] at n16
  unfold r_mt
  rw [decide_eq_true_eq]
  rcases wc_cases h hp hi with ⟨c2, e⟩ | ⟨c2, hh⟩
  · rw [e]
    exact ⟨fun z => absurd z.symm (nI_m1 (by omega)), fun z => absurd z.1 c2⟩
  · rcases hh with ⟨e1, e2⟩ | ⟨s, k, hs, hk, e1, e2, e3⟩ | ⟨a', ha, e1, e2, e3, e4, e5⟩ | ⟨a', ha, e1, e2, e3, e4, e5⟩ | ⟨e1, e2⟩
    · rw [e2, nI_eq (by omega) (by omega), e1, show (0 : Int32) = nI 0 from rfl, show (6 : Int32) = nI 6 from rfl, nI_eq (by omega) (by omega)]
      omega
    · have b80 := b_co80 (s := s)
      have br := b_cor hs
      rw [e3, nI_eq (by omega) (by omega), e1, show (6 : Int32) = nI 6 from rfl, nI_eq (by omega) (by omega)]
      omega
    · rw [e5, nI_eq (by omega) (by omega), e3]
      refine ⟨fun z => ?_, fun z => ?_⟩
      · obtain rfl : a' = a := by omega
        exact ⟨c2, e1, g4⟩
      · have hcp := (CT_p (WR_ct h) hp ha).2.2.2.2.2
        rcases hcp with q | ⟨c', q1, q2, q3, q4, q5⟩
        · exact absurd (z.2.2.symm.trans q) (nI_m1 (by omega))
        · obtain rfl : c' = c := (nI_eq (by omega) (by omega)).mp (q2.symm.trans z.2.2)
          obtain ⟨g, hg1, hg2⟩ := q5 e4
          rw [show g = 0 by omega, hg] at hg2
          injection hg2 with hg2
          injection hg2 with _ hg2
          omega
    · rw [e5, nI_eq (by omega) (by omega), e1, show (6 : Int32) = nI 6 from rfl, nI_eq (by omega) (by omega)]
      omega
    · rw [e2, nI_eq (by omega) (by omega), e1, show (6 : Int32) = nI 6 from rfl, nI_eq (by omega) (by omega)]
      omega
/-- and at its source -/
theorem mt_send {b : Nat} {L : c_L} {Z : z_C} {K : c_S} {R : r_S} {p i c a : Nat} (h : WR b L Z K R) (hp : p < z_np Z) (hi : i < z_nq Z p) (hc : c < z_nc Z) (hg : z_sp Z c = some (p, a)) : c_I K 1418 (16 * p + i) = nI (96 + a) ↔ r_mt R 7 (nI c) (16 * p + i) = true := by
  have cc := WR_cc h
  have nc24 : z_nc Z ≤ 24 := cc.1.1
  obtain ⟨g1, g2, -, -, g3, g4, g5⟩ := CC_s1 cc hc hg
  have n16 := (CT_n (WR_ct h) hp (s := 4) (by decide)).1
  rw [if_pos rfl] at n16
  unfold r_mt
  rw [decide_eq_true_eq]
  rcases wc_cases h hp hi with ⟨c2, e⟩ | ⟨c2, hh⟩
  · rw [e]
    exact ⟨fun z => absurd z.symm (nI_m1 (by omega)), fun z => absurd z.1 c2⟩
  · rcases hh with ⟨e1, e2⟩ | ⟨s, k, hs, hk, e1, e2, e3⟩ | ⟨a', ha, e1, e2, e3, e4, e5⟩ | ⟨a', ha, e1, e2, e3, e4, e5⟩ | ⟨e1, e2⟩
    · rw [e2, nI_eq (by omega) (by omega), e1, show (0 : Int32) = nI 0 from rfl, show (7 : Int32) = nI 7 from rfl, nI_eq (by omega) (by omega)]
      omega
    · have b80 := b_co80 (s := s)
      rw [e3, nI_eq (by omega) (by omega), e1, show (7 : Int32) = nI 7 from rfl, nI_eq (by omega) (by omega)]
      omega
    · rw [e5, nI_eq (by omega) (by omega), e1, show (7 : Int32) = nI 7 from rfl, nI_eq (by omega) (by omega)]
      omega
    · rw [e5, nI_eq (by omega) (by omega), e3]
      refine ⟨fun z => ?_, fun z => ?_⟩
      · obtain rfl : a' = a := by omega
        exact ⟨c2, e1, g4⟩
      · have hcp := (CT_p (WR_ct h) hp ha).2.2.2.2.2
        rcases hcp with q | ⟨c', q1, q2, q3, q4, q5⟩
        · exact absurd (z.2.2.symm.trans q) (nI_m1 (by omega))
        · obtain rfl : c' = c := (nI_eq (by omega) (by omega)).mp (q2.symm.trans z.2.2)
          have hg2 := q4 e4
          rw [hg] at hg2
          injection hg2 with hg2
          injection hg2 with _ hg2
          omega
    · rw [e2, nI_eq (by omega) (by omega), e1, show (7 : Int32) = nI 7 from rfl, nI_eq (by omega) (by omega)]
      omega
/-- nobody of another partition waits there -/
theorem mt_other {b : Nat} {L : c_L} {Z : z_C} {K : c_S} {R : r_S} {p q : Nat} {s th : Int32} (h : WR b L Z K R) (hp : p < z_np Z) (hq : q < 256) (ho : ¬ (16 * p ≤ q ∧ q < 16 * p + z_nq Z p))
    (hx : (∃ t k : Nat, (1 ≤ t ∧ t ≤ 5) ∧ k < 8 ∧ s = nI t ∧ th = nI (8 * p + k)) ∨ (∃ c a : Nat, c < z_nc Z ∧ r_A R 2454 c = 1 ∧ z_gp Z c 0 = some (p, a) ∧ s = 6 ∧ th = nI c) ∨ (∃ c a : Nat, c < z_nc Z ∧ z_sp Z c = some (p, a) ∧ s = 7 ∧ th = nI c)) : r_mt R s th q = false := by
  have cc := WR_cc h
  have nc24 : z_nc Z ≤ 24 := cc.1.1
  have np16 := CQ_np (WR_cq h)
  unfold r_mt
  rw [decide_eq_false_iff_not]
  intro z
  by_cases hv : ∃ p' j' : Nat, p' < z_np Z ∧ j' < z_nq Z p' ∧ q = 16 * p' + j'
  · obtain ⟨p', j', hp', hj', rfl⟩ := hv
    have n16 := CQ_nq (WR_cq h) p' hp'
    have n16' := CQ_nq (WR_cq h) p hp
    have hpp : p' ≠ p := fun e => ho (by subst e; omega)
    rcases wc_cases h hp' hj' with ⟨c2, e⟩ | ⟨c2, hh⟩
    · exact c2 z.1
    · rcases hx with ⟨t, k, ht, hk, rfl, rfl⟩ | ⟨c, a, hc, hqq, hg, rfl, rfl⟩ | ⟨c, a, hc, hg, rfl, rfl⟩
      · rcases hh with ⟨e1, e2⟩ | ⟨s', k', hs, hk', e1, e2, e3⟩ | ⟨a', ha, e1, e2, e3, e4, e5⟩ | ⟨a', ha, e1, e2, e3, e4, e5⟩ | ⟨e1, e2⟩
        · have := e1.symm.trans z.2.1
          rw [show (0 : Int32) = nI 0 from rfl, nI_eq (by omega) (by omega)] at this
          omega
        · have := e2.symm.trans z.2.2
          rw [nI_eq (by omega) (by omega)] at this
          omega
        · have := e1.symm.trans z.2.1
          rw [nI_eq (by omega) (by omega)] at this
          omega
        · have := e1.symm.trans z.2.1
          rw [nI_eq (by omega) (by omega)] at this
          omega
        · have := e1.symm.trans z.2.1
          rw [nI_eq (by omega) (by omega)] at this
          omega
      · have z1 : r_A R 2478 (16 * p' + j') = nI 6 := z.2.1
        rcases hh with ⟨e1, e2⟩ | ⟨s', k', hs, hk', e1, e2, e3⟩ | ⟨a', ha, e1, e2, e3, e4, e5⟩ | ⟨a', ha, e1, e2, e3, e4, e5⟩ | ⟨e1, e2⟩
        · have := e1.symm.trans z1
          rw [show (0 : Int32) = nI 0 from rfl, nI_eq (by omega) (by omega)] at this
          omega
        · have := e1.symm.trans z1
          rw [nI_eq (by omega) (by omega)] at this
          omega
        · have ng1 := (CC_d cc hc).2.2.2.2.2.1 hqq
          have hcp := (CT_p (WR_ct h) hp' ha).2.2.2.2.2
          have z2 := e3.symm.trans z.2.2
          rcases hcp with q | ⟨c', q1, q2, q3, q4, q5⟩
          · exact absurd (z2.symm.trans q) (nI_m1 (by omega))
          · obtain rfl : c' = c := (nI_eq (by omega) (by omega)).mp (q2.symm.trans z2)
            obtain ⟨g, hg1, hg2⟩ := q5 e4
            rw [show g = 0 by omega, hg] at hg2
            injection hg2 with hg2
            injection hg2 with hg2 _
            exact hpp hg2.symm
        · have := e1.symm.trans z1
          rw [nI_eq (by omega) (by omega)] at this
          omega
        · have := e1.symm.trans z1
          rw [nI_eq (by omega) (by omega)] at this
          omega
      · have z1 : r_A R 2478 (16 * p' + j') = nI 7 := z.2.1
        rcases hh with ⟨e1, e2⟩ | ⟨s', k', hs, hk', e1, e2, e3⟩ | ⟨a', ha, e1, e2, e3, e4, e5⟩ | ⟨a', ha, e1, e2, e3, e4, e5⟩ | ⟨e1, e2⟩
        · have := e1.symm.trans z1
          rw [show (0 : Int32) = nI 0 from rfl, nI_eq (by omega) (by omega)] at this
          omega
        · have := e1.symm.trans z1
          rw [nI_eq (by omega) (by omega)] at this
          omega
        · have := e1.symm.trans z1
          rw [nI_eq (by omega) (by omega)] at this
          omega
        · have hcp := (CT_p (WR_ct h) hp' ha).2.2.2.2.2
          have z2 := e3.symm.trans z.2.2
          rcases hcp with q | ⟨c', q1, q2, q3, q4, q5⟩
          · exact absurd (z2.symm.trans q) (nI_m1 (by omega))
          · obtain rfl : c' = c := (nI_eq (by omega) (by omega)).mp (q2.symm.trans z2)
            have hg2 := q4 e4
            rw [hg] at hg2
            injection hg2 with hg2
            injection hg2 with hg2 _
            exact hpp hg2.symm
        · have := e1.symm.trans z1
          rw [nI_eq (by omega) (by omega)] at this
          omega
  · have := h.2.1.2 q hq (fun p' j' h1 h2 e => hv ⟨p', j', h1, h2, e⟩)
    have z0 : p_r R q 0 = 2 := z.1
    rw [this] at z0
    exact absurd z0 (by decide)
theorem fw_eq {b : Nat} {L : c_L} {Z : z_C} {K : c_S} {R : r_S} {p : Nat} {s th code fifo : Int32} (h : WR b L Z K R) (hp : p < z_np Z) (hs : s ≠ 0) (hM : ∀ i : Nat, i < z_nq Z p → (c_I K 1418 (16 * p + i) = code ↔ r_mt R s th (16 * p + i) = true)) (hO : ∀ q : Nat, q < 256 → ¬ (16 * p ≤ q ∧ q < 16 * p + z_nq Z p) → r_mt R s th q = false) : b_fw (r_mt R s th) (r_ah R fifo) 256 = (k_fw K p (z_nq Z p) code fifo).map (fun i => 16 * p + i) := by
  have np16 := CQ_np (WR_cq h)
  have n16 := CQ_nq (WR_cq h) p hp
  refine b_fw_t (by omega) (fun q hq => hO q (by omega) (by omega)) (fun q h1 h2 => hO q h2 (by omega)) (fun i hi => ?_) (fun i m hi hm hne mi mm => ?_)
  · by_cases c : c_I K 1418 (16 * p + i) = code
    · rw [(hM i hi).mp c]; simp only [c, decide_true]
    · have : ¬ r_mt R s th (16 * p + i) = true := fun z => c ((hM i hi).mpr z)
      simp only [c, decide_false]
      exact Bool.eq_false_iff.mpr this
  · have wi := (hM i hi).mp (of_decide_eq_true mi)
    have wm := (hM m hm).mp (of_decide_eq_true mm)
    unfold r_mt at wi wm
    rw [decide_eq_true_eq] at wi wm
    have pi := (DP_w h hp hi).1.1
    have pm := (DP_w h hp hm).1.1
    have o := ((h.2.2.1.2 p hp).2 i hi).2.2 m hm (fun e => hne e.symm)
    have o2 := o.2 ⟨wi.1, fun e => hs (wi.2.1.symm.trans e)⟩ ⟨wm.1, fun e => hs (wm.2.1.symm.trans e)⟩
    have pi : c_I K 1403 (16 * p + i) = r_A R 2469 (16 * p + i) := pi
    have pm : c_I K 1403 (16 * p + m) = r_A R 2469 (16 * p + m) := pm
    have o3 : (c_I K 1417 (16 * p + i) < c_I K 1417 (16 * p + m)) ↔ (r_A R 2481 (16 * p + i) < r_A R 2481 (16 * p + m)) := by
      rw [i_lt, i_lt]; exact o2
    unfold r_ah k_ah
    rw [pi, pm]
    by_cases c : fifo = 0 ∧ ¬ r_A R 2469 (16 * p + i) = r_A R 2469 (16 * p + m)
    · rw [if_pos c, if_pos c]
    · rw [if_neg c, if_neg c]
      by_cases d : r_A R 2481 (16 * p + i) < r_A R 2481 (16 * p + m)
      · rw [decide_eq_true d, decide_eq_true (o3.mpr d)]
      · rw [decide_eq_false d, decide_eq_false (fun z => d (o3.mp z))]
