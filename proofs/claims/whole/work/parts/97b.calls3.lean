/-! The wait for the next period; and calls 0 .. 7 together. -/
def r_p1 (R : r_S) (q : Nat) (r : Int32) : r_S := rs_A (r_wu R q r) 2473 q r
def r_p2 (R : r_S) (q : Nat) (r d : Int32) : r_S := rs_A (rs_A (r_p1 R q r) 2470 q 1) 2471 q d
theorem r_p1_r {R : r_S} {q : Nat} {r : Int32} : p_r (r_p1 R q r) q = qs_1 (qs_1 (qs_1 (qs_1 (p_r R q) 0 2) 11 0) 5 r) 6 r := by
  unfold r_p1
  rw [pr_w6, r_wu_r]
theorem r_p2_r {R : r_S} {q : Nat} {r d : Int32} : p_r (r_p2 R q r d) q = qs_1 (qs_1 (qs_1 (qs_1 (qs_1 (qs_1 (p_r R q) 0 2) 11 0) 5 r) 6 r) 3 1) 4 d := by
  unfold r_p2
  rw [pr_w4, pr_w3, r_p1_r]
theorem r_p1_n {R : r_S} {q q' : Nat} {r : Int32} (h : q ≠ q') : p_r (r_p1 R q r) q' = p_r R q' ∧ p_y (r_p1 R q r) q' = p_y R q' := by
  unfold r_p1
  rw [pr_n h, r_wu_n h, py_f (by decide), r_wu_y]
  exact ⟨rfl, rfl⟩
theorem r_p2_n {R : r_S} {q q' : Nat} {r d : Int32} (h : q ≠ q') : p_r (r_p2 R q r d) q' = p_r R q' ∧ p_y (r_p2 R q r d) q' = p_y R q' := by
  unfold r_p2
  rw [pr_n h, pr_n h, py_f (by decide), py_f (by decide)]
  exact r_p1_n h
theorem r_p1_y {R : r_S} {q : Nat} {r : Int32} : p_y (r_p1 R q r) q = p_y R q := by
  unfold r_p1
  rw [py_f (by decide), r_wu_y]
theorem r_p2_y {R : r_S} {q : Nat} {r d : Int32} : p_y (r_p2 R q r d) q = p_y R q := by
  unfold r_p2
  rw [py_f (by decide), py_f (by decide), r_p1_y]
theorem r_p1_RS {L : c_L} {Z : z_C} {K : c_S} {R : r_S} {q : Nat} {r : Int32} : RS L Z K (r_p1 R q r) = RS L Z K R := by
  have e : RS L Z K (r_p1 R q r) = RS L Z K (r_wu R q r) := by
    unfold RS r_p1
    simp (disch := decide) only [CQ_I, CQ_A, CQ_G, CQ_P, CQ_J, CQ_i, CQ_a, CQ_z, CT_I, CT_A, CT_G, CT_P, CT_J, CT_i, CT_a, CT_z, CC_I, CC_A, CC_G, CC_P, CC_J, CC_i, CC_a, CC_z, CM_I, CM_A, CM_G, CM_P, CM_J, CM_i, CM_a, CM_z, NM_I, NM_A, NM_G, NM_P, NM_J, NM_i, NM_a, NM_z, TH_I, TH_A, TH_G, TH_P, TH_J, TH_i, TH_a, TH_z, CH_I, CH_A, CH_G, CH_P, CH_J, CH_i, CH_a, CH_z, IN_I, IN_A, IN_G, IN_P, IN_J, IN_i, IN_a, IN_z, ME_I, ME_A, ME_G, ME_P, ME_J, ME_i, ME_a, ME_z, JR_I, JR_A, JR_G, JR_P, JR_J, JR_i, JR_a, JR_z, GL_I, GL_A, GL_G, GL_P, GL_J, GL_i, GL_a, GL_z, TX_I, TX_A, TX_G, TX_P, TX_J, TX_i, TX_a, TX_z, PD_I, PD_A, PD_G, PD_P, PD_J, PD_i, PD_a, PD_z, JB_i, JB_a, JB_z]
  rw [e, r_wu_RS]
theorem r_p2_RS {L : c_L} {Z : z_C} {K : c_S} {R : r_S} {q : Nat} {r d : Int32} : RS L Z K (r_p2 R q r d) = RS L Z K R := by
  have e : RS L Z K (r_p2 R q r d) = RS L Z K (r_p1 R q r) := by
    unfold RS r_p2
    simp (disch := decide) only [CQ_I, CQ_A, CQ_G, CQ_P, CQ_J, CQ_i, CQ_a, CQ_z, CT_I, CT_A, CT_G, CT_P, CT_J, CT_i, CT_a, CT_z, CC_I, CC_A, CC_G, CC_P, CC_J, CC_i, CC_a, CC_z, CM_I, CM_A, CM_G, CM_P, CM_J, CM_i, CM_a, CM_z, NM_I, NM_A, NM_G, NM_P, NM_J, NM_i, NM_a, NM_z, TH_I, TH_A, TH_G, TH_P, TH_J, TH_i, TH_a, TH_z, CH_I, CH_A, CH_G, CH_P, CH_J, CH_i, CH_a, CH_z, IN_I, IN_A, IN_G, IN_P, IN_J, IN_i, IN_a, IN_z, ME_I, ME_A, ME_G, ME_P, ME_J, ME_i, ME_a, ME_z, JR_I, JR_A, JR_G, JR_P, JR_J, JR_i, JR_a, JR_z, GL_I, GL_A, GL_G, GL_P, GL_J, GL_i, GL_a, GL_z, TX_I, TX_A, TX_G, TX_P, TX_J, TX_i, TX_a, TX_z, PD_I, PD_A, PD_G, PD_P, PD_J, PD_i, PD_a, PD_z, JB_i, JB_a, JB_z]
  rw [e, r_p1_RS]
theorem r_p1_JB {b : Nat} {R : r_S} {q : Nat} {r : Int32} : JB b (r_p1 R q r) = JB b R := by
  have e : JB b (r_p1 R q r) = JB b (r_wu R q r) := by
    unfold r_p1
    simp (disch := decide) only [CQ_I, CQ_A, CQ_G, CQ_P, CQ_J, CQ_i, CQ_a, CQ_z, CT_I, CT_A, CT_G, CT_P, CT_J, CT_i, CT_a, CT_z, CC_I, CC_A, CC_G, CC_P, CC_J, CC_i, CC_a, CC_z, CM_I, CM_A, CM_G, CM_P, CM_J, CM_i, CM_a, CM_z, NM_I, NM_A, NM_G, NM_P, NM_J, NM_i, NM_a, NM_z, TH_I, TH_A, TH_G, TH_P, TH_J, TH_i, TH_a, TH_z, CH_I, CH_A, CH_G, CH_P, CH_J, CH_i, CH_a, CH_z, IN_I, IN_A, IN_G, IN_P, IN_J, IN_i, IN_a, IN_z, ME_I, ME_A, ME_G, ME_P, ME_J, ME_i, ME_a, ME_z, JR_I, JR_A, JR_G, JR_P, JR_J, JR_i, JR_a, JR_z, GL_I, GL_A, GL_G, GL_P, GL_J, GL_i, GL_a, GL_z, TX_I, TX_A, TX_G, TX_P, TX_J, TX_i, TX_a, TX_z, PD_I, PD_A, PD_G, PD_P, PD_J, PD_i, PD_a, PD_z, JB_i, JB_a, JB_z]
  rw [e, r_wu_JB]
theorem r_p2_JB {b : Nat} {R : r_S} {q : Nat} {r d : Int32} : JB b (r_p2 R q r d) = JB b R := by
  have e : JB b (r_p2 R q r d) = JB b (r_p1 R q r) := by
    unfold r_p2
    simp (disch := decide) only [CQ_I, CQ_A, CQ_G, CQ_P, CQ_J, CQ_i, CQ_a, CQ_z, CT_I, CT_A, CT_G, CT_P, CT_J, CT_i, CT_a, CT_z, CC_I, CC_A, CC_G, CC_P, CC_J, CC_i, CC_a, CC_z, CM_I, CM_A, CM_G, CM_P, CM_J, CM_i, CM_a, CM_z, NM_I, NM_A, NM_G, NM_P, NM_J, NM_i, NM_a, NM_z, TH_I, TH_A, TH_G, TH_P, TH_J, TH_i, TH_a, TH_z, CH_I, CH_A, CH_G, CH_P, CH_J, CH_i, CH_a, CH_z, IN_I, IN_A, IN_G, IN_P, IN_J, IN_i, IN_a, IN_z, ME_I, ME_A, ME_G, ME_P, ME_J, ME_i, ME_a, ME_z, JR_I, JR_A, JR_G, JR_P, JR_J, JR_i, JR_a, JR_z, GL_I, GL_A, GL_G, GL_P, GL_J, GL_i, GL_a, GL_z, TX_I, TX_A, TX_G, TX_P, TX_J, TX_i, TX_a, TX_z, PD_I, PD_A, PD_G, PD_P, PD_J, PD_i, PD_a, PD_z, JB_i, JB_a, JB_z]
  rw [e, r_p1_JB]
theorem r_p1_PD {R : r_S} {q : Nat} {r : Int32} : n_A [2483, 2484, 2485, 2486, 2487, 2488, 2489, 2490, 2491] (r_p1 R q r) = n_A [2483, 2484, 2485, 2486, 2487, 2488, 2489, 2490, 2491] R := by
  unfold r_p1
  rw [n_An (by decide), r_wu_PD]
theorem r_p2_PD {R : r_S} {q : Nat} {r d : Int32} : n_A [2483, 2484, 2485, 2486, 2487, 2488, 2489, 2490, 2491] (r_p2 R q r d) = n_A [2483, 2484, 2485, 2486, 2487, 2488, 2489, 2490, 2491] R := by
  unfold r_p2
  rw [n_An (by decide), n_An (by decide), r_p1_PD]
theorem WR_pd {b : Nat} {L : c_L} {Z : z_C} {K : c_S} {R : r_S} {p j : Nat} {r : Int32} (h : WR b L Z K R) (hb : b < 2000000000) (hp : p < z_np Z) (hj : j < z_nq Z p) (h1 : r_A R 2467 (16 * p + j) = 1) (hm : r_A R 2483 p = 0) (hl : c_I K 1013 p = 0) (hh : z_hd Z p ≠ some j) (hr : r = r_A R 2473 (16 * p + j) + r_A R 2438 (16 * p + j)) : WR (b + 1) L Z (k_wt (k_sr K (16 * p + j) r) p (16 * p + j) 128 r) (if r_A R 2439 (16 * p + j) ≤ 0 then r_p1 R (16 * p + j) r else r_p2 R (16 * p + j) r (r + r_A R 2439 (16 * p + j))) := by
  have hpr := h.2.1.1 p hp j hj
  have hti := h.2.2.2.1.2 p hp j hj
  have htm := h.2.2.2.1.1
  have hpd := h.2.2.2.2.1
  have hn := CQ_nq (WR_cq h)
  have hce := CQ_e (WR_cq h) hp hj
  have hcb := CQ_b (WR_cq h) hp hj
  have rel0 : 0 ≤ (r_A R 2473 (16 * p + j)).toInt := hti.2.2.1.1
  have rel1 : (r_A R 2473 (16 * p + j)).toInt ≤ (r_I R 2463).toInt := hti.1 (Or.inl h1)
  have er : r.toInt = (r_A R 2473 (16 * p + j)).toInt + (r_A R 2438 (16 * p + j)).toInt := by rw [hr]; exact i_add rel0 hcb.1.1 (by omega)
  have ed := i_add (x := r) (y := r_A R 2439 (16 * p + j)) (by omega) hcb.2.1.1 (by omega)
  have elo : c_I (k_wt (k_sr K (16 * p + j) r) p (16 * p + j) 128 r) 1015 p = c_I K 1015 p + 1 := by
    unfold k_wt
    exact (show _ = _ from c_Is)
  have ek := k_wt_k (K := k_sr K (16 * p + j) r) (p := p) (q := 16 * p + j) (a := 128) (c := r)
  rw [k_sr_k] at ek
  have exk : ∀ q' : Nat, q' ≠ 16 * p + j → p_k (k_wt (k_sr K (16 * p + j) r) p (16 * p + j) 128 r) q' = p_k K q' := fun q' hq => by rw [k_wt_n hq.symm, k_sr_n hq.symm]
  have main : ∀ R' : r_S, RS L Z K R' = RS L Z K R → JB b R' = JB b R → (∀ q' : Nat, q' ≠ 16 * p + j → p_r R' q' = p_r R q' ∧ p_y R' q' = p_y R q') → p_y R' (16 * p + j) = p_y R (16 * p + j) → r_I R' 2464 = r_I R 2464 → r_I R' 2463 = r_I R 2463 → (∀ q : Nat, r_A R' 2439 q = r_A R 2439 q ∧ r_A R' 2448 q = r_A R 2448 q ∧ r_A R' 2450 q = r_A R 2450 q) → n_A [2483, 2484, 2485, 2486, 2487, 2488, 2489, 2490, 2491] R' = n_A [2483, 2484, 2485, 2486, 2487, 2488, 2489, 2490, 2491] R → p_r R' (16 * p + j) 0 = 2 → p_r R' (16 * p + j) 11 = 0 → PRt p (p_k (k_wt (k_sr K (16 * p + j) r) p (16 * p + j) 128 r) (16 * p + j)) (p_x K (16 * p + j)) (p_r R' (16 * p + j)) (p_y R (16 * p + j)) → TIt Z p (r_I R 2463) (r_A R 2439 (16 * p + j)) (fun a => r_A R 2448 (16 * p + a)) (fun a => r_A R 2450 (16 * p + a)) (p_r R' (16 * p + j)) → WR (b + 1) L Z (k_wt (k_sr K (16 * p + j) r) p (16 * p + j) 128 r) R' := by
    intro R' c1 c2 c3 c4 c5 c6 c7 c8 c9 c10 c11 c12
    refine WR_step h hb hp hj (by rw [k_wt_RS, k_sr_RS, c1]) c2 (fun q' hq => ⟨exk q' hq, by rw [k_wt_x, k_sr_x], (c3 q' hq).1, (c3 q' hq).2⟩) (by rw [k_wt_x, k_sr_x, c4]; exact c11) (fun p' hp' => ?_) (Or.inr elo) (Or.inl c5) (fun z => absurd (c9.symm.trans z) (by decide)) (fun z => absurd c10 z.2) c6 c7 c12 ?_
    · unfold k_wt
      exact (show _ = _ from lo_b hp')
    · have e2 : r_A R' 2467 (16 * p + j) = 2 := c9
      refine PD_1 hpd hp hj hn (by rw [k_wt_PD, k_sr_PD]) c8 (fun q hq => congrFun (c3 q hq).1 0) (Or.inl hm) (by rw [h1]; decide) (by rw [e2]; decide) (fun _ => Or.inl hl) (fun z => absurd z hh)
  obtain ⟨⟨a1, a2, a3, a4, a5, a6, a7⟩, a8, ⟨a9, a9'⟩, a10, a11, a12, a13, a14, a15⟩ := hpr
  by_cases c : r_A R 2439 (16 * p + j) ≤ 0
  · rw [if_pos c]
    have w3 : p_r R (16 * p + j) 3 = 0 := hti.2.2.2.1 (i_le0.mp c)
    refine main _ r_p1_RS r_p1_JB (fun q' hq => r_p1_n hq.symm) r_p1_y rfl rfl (fun _ => ⟨rfl, rfl, rfl⟩) r_p1_PD (by rw [r_p1_r]; rfl) (by rw [r_p1_r]; rfl) ?_ ?_
    · rw [ek, r_p1_r]
      refine ⟨⟨a1, rfl, a3, rfl, a5, rfl, a7⟩, a8, ⟨?_, fun z => absurd w3 z⟩, ?_, fun _ z => absurd z (by decide : ¬ ((0 : Int32) = 4 ∨ (0 : Int32) = 7)), Or.inr (Or.inr (Or.inl rfl)), fun _ => rfl, a14, a15⟩
      · show (if c_I K 1405 (16 * p + j) ≤ 0 then -1 else r + c_I K 1405 (16 * p + j)) = (if p_r R (16 * p + j) 3 = 0 then -1 else p_r R (16 * p + j) 4)
        rw [hce.2.2.1, if_pos c, if_pos w3]
      · refine Eq.symm ((if_pos ?_).trans ?_)
        · rfl
        · exact if_pos rfl
    · rw [r_p1_r]
      refine ⟨fun z => absurd z (by decide : ¬ ((2 : Int32) = 1 ∨ (2 : Int32) = 3)), fun _ => Or.inr ⟨rfl, Int.le_refl _⟩, ⟨by show 0 ≤ r.toInt; omega, by show r.toInt ≤ _; omega⟩, fun _ => w3, fun z => absurd w3 z, fun _ => Or.inl rfl⟩
  · rw [if_neg c]
    refine main _ r_p2_RS r_p2_JB (fun q' hq => r_p2_n hq.symm) r_p2_y rfl rfl (fun _ => ⟨rfl, rfl, rfl⟩) r_p2_PD (by rw [r_p2_r]; rfl) (by rw [r_p2_r]; rfl) ?_ ?_
    · rw [ek, r_p2_r]
      refine ⟨⟨a1, rfl, a3, rfl, a5, rfl, a7⟩, a8, ⟨?_, fun _ => ?_⟩, ?_, fun _ z => absurd z (by decide : ¬ ((0 : Int32) = 4 ∨ (0 : Int32) = 7)), Or.inr (Or.inr (Or.inl rfl)), fun _ => rfl, a14, Or.inr rfl⟩
      · show (if c_I K 1405 (16 * p + j) ≤ 0 then -1 else r + c_I K 1405 (16 * p + j)) = (if (1 : Int32) = 0 then -1 else r + r_A R 2439 (16 * p + j))
        rw [hce.2.2.1, if_neg c, if_neg (by decide)]
      · show 0 ≤ (r + r_A R 2439 (16 * p + j)).toInt
        omega
      · refine Eq.symm ((if_pos ?_).trans ?_)
        · rfl
        · exact if_pos rfl
    · rw [r_p2_r]
      refine ⟨fun z => absurd z (by decide : ¬ ((2 : Int32) = 1 ∨ (2 : Int32) = 3)), fun _ => Or.inr ⟨rfl, Int.le_refl _⟩, ⟨by show 0 ≤ r.toInt; omega, by show r.toInt ≤ _; omega⟩, fun z => absurd (i_le0.mpr z) c, fun _ => ?_, fun _ => Or.inl rfl⟩
      show r.toInt ≤ (r + r_A R 2439 (16 * p + j)).toInt
      omega
theorem AN_period {b : Nat} {L : c_L} {Z : z_C} {K : c_S} {R : r_S} {p j : Nat} {a c : Int32} (x : CX b L Z K R p j) (hb : b < 1999999980) : AN (b + 1) L Z (16 * p + j) (km_X0_ofProcesses L K 0 1 a c) (rm_X12_ofProcesses R 1 (nI p) (nI (16 * p + j)) a c) := by
  have x' := x
  obtain ⟨w, ⟨hp, hj⟩, ⟨p0, p1, p2, p3⟩, hnow, h1, hm, m6⟩ := x
  have cq := WR_cq w
  have np16 := CQ_np cq
  have n16 := CQ_nq cq p hp
  have mq := (CQ_q cq hp hj).1
  have hce := CQ_e cq hp hj
  have hq := CQ_hq cq hp hj
  have q256 : 16 * p + j < 256 := by omega
  have cl256 := nI_clamp (n := 16 * p + j) (by omega)
  have er : c_I K 1415 (16 * p + j) = r_A R 2473 (16 * p + j) := (DP_w w hp hj).1.2.2.2.2.2.1
  have kp : ∀ Q : Int32 → c_S → Prop, km_X0_waitForPeriod L K 0 (fun x S => Q x S) → km_X0_ofProcesses L K 0 1 a c Q := fun Q h => ⟨fun z => absurd z (by decide), fun z => absurd z (by decide), fun _ => h, fun z => absurd z (by decide), fun z => absurd z (by decide), fun z => absurd z (by decide), fun z => absurd z (by decide), fun z => absurd z (by decide)⟩
  have rp : ∀ Q : Option Value → r_S → Prop, (vp_in (nI (16 * p + j)) (r_N 2438) ∧ ((¬ (r_A R 2438 (nI (16 * p + j)).toNatClampNeg) = 0 → (rm_X12_periodic R (nI (16 * p + j)) (fun r16_ S17_ => ∃ x18_ : Int32, r16_ = some (.int x18_) ∧ (Q (some (.int x18_)) S17_)))) ∧ ((r_A R 2438 (nI (16 * p + j)).toNatClampNeg) = 0 → (Q (some (.int (3 : Int32))) R)))) → rm_X12_ofProcesses R 1 (nI p) (nI (16 * p + j)) a c Q := fun Q h => ⟨fun z => absurd z (by decide), fun z => absurd z (by decide), fun _ => h, fun z => absurd z (by decide), fun z => absurd z (by decide), fun z => absurd z (by decide), fun z => absurd z (by decide), fun z => absurd z (by decide)⟩
  by_cases c0 : r_A R 2438 (16 * p + j) = 0
  · refine AN_i 3 K R (WR_w w (by omega)) p3 (fun Q hQ => kp Q ⟨_, p2, mq, fun _ => hQ, fun z => absurd (hce.2.1.trans c0) z⟩) (fun Q hQ => rp Q ⟨ri_v rfl q256 (by decide), ?_⟩)
    rw [cl256]
    exact ⟨fun z => absurd c0 z, fun _ => hQ⟩
  · by_cases cl : 0 < r_A R 2486 p ∨ r_A R 2442 p = nI (16 * p + j)
    · refine AN_i 3 K R (WR_w w (by omega)) p3 (fun Q hQ => kp Q ⟨_, p2, mq, fun z => absurd (hce.2.1.symm.trans z) c0, fun _ => ke_may x' ?_⟩) (fun Q hQ => rp Q ⟨ri_v rfl q256 (by decide), ?_⟩)
      · rw [if_pos cl]
        exact ⟨fun z => absurd z (by decide), fun _ => hQ⟩
      · rw [cl256]
        exact ⟨fun _ => ⟨ri_v rfl q256 (by decide), ri_v rfl q256 (by decide), re_waitsUL (by omega) (by omega) cl ⟨_, rfl, fun z => absurd z (by decide), fun _ => ⟨_, rfl, hQ⟩⟩⟩, fun z => absurd z c0⟩
    · have nl : ¬ 0 < r_A R 2486 p := fun z => cl (Or.inl z)
      have nh : r_A R 2442 p ≠ nI (16 * p + j) := fun z => cl (Or.inr z)
      have wr := WR_pd (r := r_A R 2473 (16 * p + j) + r_A R 2438 (16 * p + j)) w (by omega) hp hj h1 hm ((PD_lk w hp).1.trans ((i_0 (PD_lk w hp).2).mp nl)) (fun z => nh (hq.mpr z)) rfl
      refine AN_i 0 _ _ wr p3 (fun Q hQ => kp Q ⟨_, p2, mq, fun z => absurd (hce.2.1.symm.trans z) c0, fun _ => ke_may x' ?_⟩) (fun Q hQ => rp Q ⟨ri_v rfl q256 (by decide), ?_⟩)
      · rw [if_neg cl]
        refine ⟨fun _ => ⟨_, p2, mq, ?_⟩, fun z => absurd rfl z⟩
        rw [er, hce.2.1]
        refine ke_setRelease ⟨_, p2, mq, ?_⟩
        rw [show c_I (k_sr K (16 * p + j) (r_A R 2473 (16 * p + j) + r_A R 2438 (16 * p + j))) 1415 (16 * p + j) = r_A R 2473 (16 * p + j) + r_A R 2438 (16 * p + j) from (show _ = _ from c_Is)]
        refine ⟨p, p1, (CQ_p cq hp).1, fun z => ?_, fun z => ⟨_, p2, mq, fun z2 => ⟨nb_0, fun _ => ⟨p, p1, (CQ_p cq hp).1, ?_⟩, fun z3 => absurd rfl z3⟩, fun z2 => ?_⟩⟩
        · exact absurd (show 0 < r_A R 2486 p from (PD_lk w hp).1 ▸ z) nl
        · rw [show c_P (k_sr K (16 * p + j) (r_A R 2473 (16 * p + j) + r_A R 2438 (16 * p + j))) 2 0 = some (16 * p + j) from p2]
          exact ke_makeWait mq hQ
        · have hf := (CQ_q cq hp hj).2.2.2
          have z2 : ¬ c_I K 1407 (16 * p + j) = 0 := z2
          rw [hf, if_neg (fun z => nh (hq.mpr z))] at z2
          exact absurd rfl z2
      · rw [cl256]
        refine ⟨fun _ => ⟨ri_v rfl q256 (by decide), ri_v rfl q256 (by decide), ?_⟩, fun z => absurd z c0⟩
        rw [cl256]
        refine re_waitsU (by omega) (by omega) nl nh ⟨_, rfl, fun _ => ⟨ri_v rfl q256 (by decide), ri_v rfl q256 (by decide), ri_v rfl q256 (by decide), ri_v rfl q256 (by decide), ?_⟩, fun z => absurd rfl z⟩
        refine ⟨fun z => ?_, fun z => ⟨ri_v rfl q256 (by decide), ri_v rfl q256 (by decide), ri_v rfl q256 (by decide), ri_v rfl q256 (by decide), fun S e => ?_⟩⟩
        · have z : r_A R 2439 (16 * p + j) ≤ 0 := z
          rw [if_pos z] at hQ
          exact ⟨_, rfl, hQ⟩
        · have z : ¬ r_A R 2439 (16 * p + j) ≤ 0 := z
          rw [if_neg z] at hQ
          have e3 : r_A (rs_A (rs_A (r_wu R (16 * p + j) (r_A R 2473 (16 * p + j) + r_A R 2438 (16 * p + j))) 2473 (16 * p + j) (r_A R 2473 (16 * p + j) + r_A R 2438 (16 * p + j))) 2470 (16 * p + j) (vp_nar .boolean (1 : Int32))) 2473 (16 * p + j) = r_A R 2473 (16 * p + j) + r_A R 2438 (16 * p + j) := (show _ = _ from r_As)
          have e : S = r_p2 R (16 * p + j) (r_A R 2473 (16 * p + j) + r_A R 2438 (16 * p + j)) (r_A R 2473 (16 * p + j) + r_A R 2438 (16 * p + j) + r_A R 2439 (16 * p + j)) := by
            refine e.trans ?_
            show rs_A _ 2471 (16 * p + j) (r_A (rs_A (rs_A (r_wu R (16 * p + j) (r_A R 2473 (16 * p + j) + r_A R 2438 (16 * p + j))) 2473 (16 * p + j) (r_A R 2473 (16 * p + j) + r_A R 2438 (16 * p + j))) 2470 (16 * p + j) (vp_nar .boolean (1 : Int32))) 2473 (16 * p + j) + r_A R 2439 (16 * p + j)) = _
            rw [e3]
            rfl
          subst e
          exact ⟨_, rfl, hQ⟩
/-- calls 0 .. 7 -/
theorem AF_07 {b : Nat} {L : c_L} {Z : z_C} {K : c_S} {R : r_S} {p j n : Nat} {a c : Int32} (x : CX b L Z K R p j) (hb : b < 1999999980) (hn : n ≤ 7) : AF (b + 2) L Z (16 * p + j) (km_X0_ofProcesses L K 0 (nI n) a c) (rm_X12_ofProcesses R (nI n) (nI p) (nI (16 * p + j)) a c) := by
  have x' := x
  obtain ⟨w, ⟨hp, hj⟩, ⟨p0, p1, p2, p3⟩, hnow, h1, hm, m6⟩ := x
  have cq := WR_cq w
  have np16 := CQ_np cq
  have n16 := CQ_nq cq p hp
  have mq := (CQ_q cq hp hj).1
  have m5 := (CQ_p cq hp).1
  have ht := w.2.2.2.1.1
  have q256 : 16 * p + j < 256 := by omega
  have : n = 0 ∨ n = 1 ∨ n = 2 ∨ n = 3 ∨ n = 4 ∨ n = 5 ∨ n = 6 ∨ n = 7 := by omega
  rcases this with rfl | rfl | rfl | rfl | rfl | rfl | rfl | rfl
  · obtain ⟨K', R', g1, g2, g3, g4⟩ := P_rest w (by omega) hp hj
    refine AF_of hp hj (AN_i (-1) K' R' g3 ((g4 3 0).trans p3) (fun Q hQ => ⟨fun z => absurd z (by decide), fun _ => ⟨p, p1, m5, by rw [p2]; exact g1 _ hQ⟩, fun z => absurd z (by decide), fun z => absurd z (by decide), fun z => absurd z (by decide), fun z => absurd z (by decide), fun z => absurd z (by decide), fun z => absurd z (by decide)⟩) (fun Q hQ => ⟨fun z => absurd z (by decide), fun _ => g2 _ ⟨rfl, hQ⟩, fun z => absurd z (by decide), fun z => absurd z (by decide), fun z => absurd z (by decide), fun z => absurd z (by decide), fun z => absurd z (by decide), fun z => absurd z (by decide)⟩))
  · exact AF_of hp hj (AN_w (AN_period x' hb) (by omega))
  · refine AF_of hp hj ?_
    by_cases c1 : a < 1 ∨ 100000 < a
    · refine AN_i 1 K R (WR_w w (by omega)) p3 (fun Q hQ => ⟨fun z => absurd z (by decide), fun z => absurd z (by decide), fun z => absurd z (by decide), fun _ => ke_isNoDelay (by rw [if_pos c1]; exact ⟨fun z => absurd z (by decide), fun _ => hQ⟩), fun z => absurd z (by decide), fun z => absurd z (by decide), fun z => absurd z (by decide), fun z => absurd z (by decide)⟩) (fun Q hQ => ⟨fun z => absurd z (by decide), fun z => absurd z (by decide), fun z => absurd z (by decide), fun _ => ⟨fun _ => hQ, fun z => ⟨fun z2 => absurd (c1.resolve_left z) (i_nlt.mpr z2), fun _ => hQ⟩⟩, fun z => absurd z (by decide), fun z => absurd z (by decide), fun z => absurd z (by decide), fun z => absurd z (by decide)⟩)
    · exact AN_w (AN_m (AN_waitU (t := r_I R 2463 + a) x' (by omega)) (fun Q h => ⟨fun z => absurd z (by decide), fun z => absurd z (by decide), fun z => absurd z (by decide), fun _ => ke_isNoDelay (by rw [if_neg c1]; exact ⟨fun _ => by rw [hnow]; exact h, fun z => absurd rfl z⟩), fun z => absurd z (by decide), fun z => absurd z (by decide), fun z => absurd z (by decide), fun z => absurd z (by decide)⟩) (fun Q h => ⟨fun z => absurd z (by decide), fun z => absurd z (by decide), fun z => absurd z (by decide), fun _ => ⟨fun z => absurd (Or.inl z) c1, fun z => ⟨fun _ => h, fun z2 => absurd (Or.inr (i_nle.mp z2)) c1⟩⟩, fun z => absurd z (by decide), fun z => absurd z (by decide), fun z => absurd z (by decide), fun z => absurd z (by decide)⟩)) (by omega)
  · refine AF_of hp hj (AN_w (AN_m (AN_startO (a := a) (d := 0) x' (by omega) (by decide) (by decide)) (fun Q h => ⟨fun z => absurd z (by decide), fun z => absurd z (by decide), fun z => absurd z (by decide), fun z => absurd z (by decide), fun _ => h, fun z => absurd z (by decide), fun z => absurd z (by decide), fun z => absurd z (by decide)⟩) (fun Q h => ⟨fun z => absurd z (by decide), fun z => absurd z (by decide), fun z => absurd z (by decide), fun z => absurd z (by decide), fun _ => by rw [Int32.add_zero] at h; exact h, fun z => absurd z (by decide), fun z => absurd z (by decide), fun z => absurd z (by decide)⟩)) (by omega))
  · exact AF_of hp hj (AN_m (AN_stopO (a := a) x' (by omega)) (fun Q h => ⟨fun z => absurd z (by decide), fun z => absurd z (by decide), fun z => absurd z (by decide), fun z => absurd z (by decide), fun z => absurd z (by decide), fun _ => h, fun z => absurd z (by decide), fun z => absurd z (by decide)⟩) (fun Q h => ⟨fun z => absurd z (by decide), fun z => absurd z (by decide), fun z => absurd z (by decide), fun z => absurd z (by decide), fun z => absurd z (by decide), fun _ => h, fun z => absurd z (by decide), fun z => absurd z (by decide)⟩))
  · exact AF_of hp hj (AN_w (AN_prio x') (by omega))
  · have hne : r_I R 2463 ≠ -1 := fun z => by rw [z] at ht; exact absurd ht.1 (by decide)
    refine ⟨cs_A K 1411 (16 * p + j) 10 (r_I R 2463), rs_A R 2477 (32 * (16 * p + j) + 10) (r_I R 2463), fun Q hQ => ⟨fun z => absurd z (by decide), fun z => absurd z (by decide), fun z => absurd z (by decide), fun z => absurd z (by decide), fun z => absurd z (by decide), fun z => absurd z (by decide), fun z => absurd z (by decide), fun _ => ⟨fun z => absurd (hnow.symm.trans z) hne, fun _ => ⟨_, p3, mq, v32 (n := 10) (by decide), by rw [hnow]; exact hQ⟩⟩⟩, fun Q hQ => ⟨fun z => absurd z (by decide), fun z => absurd z (by decide), fun z => absurd z (by decide), fun z => absurd z (by decide), fun z => absurd z (by decide), fun z => absurd z (by decide), fun z => absurd z (by decide), fun _ => re_answer q256 ⟨rfl, _, rfl, fun _ => hQ, fun z => absurd rfl z⟩⟩, WR_w (WR_x w hp hj (by decide)) (by omega)⟩
  · refine AF_of hp hj (AN_w (AN_i 0 (k_bk K p (16 * p + j)) (r_bk R (16 * p + j)) (WR_bk w (by omega) hp hj h1) p3 (fun Q hQ => ⟨fun _ => ⟨p, p1, m5, by rw [p2]; exact ke_toTheBack mq hQ⟩, fun z => absurd z (by decide), fun z => absurd z (by decide), fun z => absurd z (by decide), fun z => absurd z (by decide), fun z => absurd z (by decide), fun z => absurd z (by decide), fun z => absurd z (by decide)⟩) (fun Q hQ => ⟨fun _ => ⟨ri_v rfl q256 (by decide), fun S e => ?_⟩, fun z => absurd z (by decide), fun z => absurd z (by decide), fun z => absurd z (by decide), fun z => absurd z (by decide), fun z => absurd z (by decide), fun z => absurd z (by decide), fun z => absurd z (by decide)⟩)) (by omega))
    rw [nI_clamp (by omega), r_Is] at e
    subst e
    exact hQ
