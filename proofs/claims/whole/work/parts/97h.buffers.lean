/-! Calls 13 and 14: buffers. -/
theorem c_qub {p k : Nat} (hk : k < 8) : c_qu (48 * p + (16 + k)) = some (48 * p + (16 + k)) := if_pos (by omega)
theorem c_An {K : c_S} {f i j f' i' j' : Nat} {v : Int32} (h : f' ≠ f ∨ i' ≠ i) : c_A (cs_A K f i j v) f' i' j' = c_A K f' i' j' := by
  rw [c_AA, if_neg (fun z => h.elim (fun n => n z.1) (fun n => n z.2.1))]
/-- a word or a port kept for a wait, out of a wait -/
theorem WR_wq {b : Nat} {L : c_L} {Z : z_C} {K : c_S} {R : r_S} {p j f : Nat} {v : Int32} (h : WR b L Z K R) (hp : p < z_np Z) (hj : j < z_nq Z p) (hf : f = 2480 ∨ f = 2482) (h2 : r_A R 2467 (16 * p + j) ≠ 2) : WR b L Z K (rs_A R f (16 * p + j) v) := by
  have hpr := h.2.1.1 p hp j hj
  have hti := h.2.2.2.1.2 p hp j hj
  have h0 : p_r R (16 * p + j) 0 ≠ 2 := h2
  have main : ∀ (m : Nat), m = 13 ∨ m = 15 → f = 2467 + m → WR b L Z K (rs_A R f (16 * p + j) v) := by
    intro m hm hf
    subst hf
    have er : p_r (rs_A R (2467 + m) (16 * p + j) v) (16 * p + j) = qs_1 (p_r R (16 * p + j)) m v := pr_w (by omega)
    have eo : ∀ n : Nat, n ≠ m → p_r (rs_A R (2467 + m) (16 * p + j) v) (16 * p + j) n = p_r R (16 * p + j) n := fun n hn => by rw [er]; exact if_neg hn
    refine WR_quiet h hp hj ?_ ?_ ?_ (fun q' hq => ⟨rfl, rfl, pr_n hq.symm, py_f (by omega)⟩) ?_ (fun _ => rfl) rfl ⟨rfl, eo 0 (by omega), eo 9 (by omega), eo 11 (by omega), eo 14 (by omega)⟩ rfl (fun q => ?_) ?_
    · rcases hm with rfl | rfl
      · unfold RS
        simp (disch := decide) only [CQ_I, CQ_A, CQ_G, CQ_P, CQ_J, CQ_i, CQ_a, CQ_z, CT_I, CT_A, CT_G, CT_P, CT_J, CT_i, CT_a, CT_z, CC_I, CC_A, CC_G, CC_P, CC_J, CC_i, CC_a, CC_z, CM_I, CM_A, CM_G, CM_P, CM_J, CM_i, CM_a, CM_z, NM_I, NM_A, NM_G, NM_P, NM_J, NM_i, NM_a, NM_z, TH_I, TH_A, TH_G, TH_P, TH_J, TH_i, TH_a, TH_z, CH_I, CH_A, CH_G, CH_P, CH_J, CH_i, CH_a, CH_z, IN_I, IN_A, IN_G, IN_P, IN_J, IN_i, IN_a, IN_z, ME_I, ME_A, ME_G, ME_P, ME_J, ME_i, ME_a, ME_z, JR_I, JR_A, JR_G, JR_P, JR_J, JR_i, JR_a, JR_z, GL_I, GL_A, GL_G, GL_P, GL_J, GL_i, GL_a, GL_z, TX_I, TX_A, TX_G, TX_P, TX_J, TX_i, TX_a, TX_z, PD_I, PD_A, PD_G, PD_P, PD_J, PD_i, PD_a, PD_z, JB_i, JB_a, JB_z]
      · unfold RS
        simp (disch := decide) only [CQ_I, CQ_A, CQ_G, CQ_P, CQ_J, CQ_i, CQ_a, CQ_z, CT_I, CT_A, CT_G, CT_P, CT_J, CT_i, CT_a, CT_z, CC_I, CC_A, CC_G, CC_P, CC_J, CC_i, CC_a, CC_z, CM_I, CM_A, CM_G, CM_P, CM_J, CM_i, CM_a, CM_z, NM_I, NM_A, NM_G, NM_P, NM_J, NM_i, NM_a, NM_z, TH_I, TH_A, TH_G, TH_P, TH_J, TH_i, TH_a, TH_z, CH_I, CH_A, CH_G, CH_P, CH_J, CH_i, CH_a, CH_z, IN_I, IN_A, IN_G, IN_P, IN_J, IN_i, IN_a, IN_z, ME_I, ME_A, ME_G, ME_P, ME_J, ME_i, ME_a, ME_z, JR_I, JR_A, JR_G, JR_P, JR_J, JR_i, JR_a, JR_z, GL_I, GL_A, GL_G, GL_P, GL_J, GL_i, GL_a, GL_z, TX_I, TX_A, TX_G, TX_P, TX_J, TX_i, TX_a, TX_z, PD_I, PD_A, PD_G, PD_P, PD_J, PD_i, PD_a, PD_z, JB_i, JB_a, JB_z]
    · rcases hm with rfl | rfl <;> simp (disch := decide) only [CQ_I, CQ_A, CQ_G, CQ_P, CQ_J, CQ_i, CQ_a, CQ_z, CT_I, CT_A, CT_G, CT_P, CT_J, CT_i, CT_a, CT_z, CC_I, CC_A, CC_G, CC_P, CC_J, CC_i, CC_a, CC_z, CM_I, CM_A, CM_G, CM_P, CM_J, CM_i, CM_a, CM_z, NM_I, NM_A, NM_G, NM_P, NM_J, NM_i, NM_a, NM_z, TH_I, TH_A, TH_G, TH_P, TH_J, TH_i, TH_a, TH_z, CH_I, CH_A, CH_G, CH_P, CH_J, CH_i, CH_a, CH_z, IN_I, IN_A, IN_G, IN_P, IN_J, IN_i, IN_a, IN_z, ME_I, ME_A, ME_G, ME_P, ME_J, ME_i, ME_a, ME_z, JR_I, JR_A, JR_G, JR_P, JR_J, JR_i, JR_a, JR_z, GL_I, GL_A, GL_G, GL_P, GL_J, GL_i, GL_a, GL_z, TX_I, TX_A, TX_G, TX_P, TX_J, TX_i, TX_a, TX_z, PD_I, PD_A, PD_G, PD_P, PD_J, PD_i, PD_a, PD_z, JB_i, JB_a, JB_z]
    · rcases hm with rfl | rfl <;> simp (disch := decide) only [CQ_I, CQ_A, CQ_G, CQ_P, CQ_J, CQ_i, CQ_a, CQ_z, CT_I, CT_A, CT_G, CT_P, CT_J, CT_i, CT_a, CT_z, CC_I, CC_A, CC_G, CC_P, CC_J, CC_i, CC_a, CC_z, CM_I, CM_A, CM_G, CM_P, CM_J, CM_i, CM_a, CM_z, NM_I, NM_A, NM_G, NM_P, NM_J, NM_i, NM_a, NM_z, TH_I, TH_A, TH_G, TH_P, TH_J, TH_i, TH_a, TH_z, CH_I, CH_A, CH_G, CH_P, CH_J, CH_i, CH_a, CH_z, IN_I, IN_A, IN_G, IN_P, IN_J, IN_i, IN_a, IN_z, ME_I, ME_A, ME_G, ME_P, ME_J, ME_i, ME_a, ME_z, JR_I, JR_A, JR_G, JR_P, JR_J, JR_i, JR_a, JR_z, GL_I, GL_A, GL_G, GL_P, GL_J, GL_i, GL_a, GL_z, TX_I, TX_A, TX_G, TX_P, TX_J, TX_i, TX_a, TX_z, PD_I, PD_A, PD_G, PD_P, PD_J, PD_i, PD_a, PD_z, JB_i, JB_a, JB_z]
    · rw [py_f (by omega)]
      obtain ⟨⟨a1, a2, a3, a4, a5, a6, a7⟩, a8, ⟨a9, a9'⟩, a10, a11, a12, a13, a14, a15⟩ := hpr
      rw [if_neg h0] at a10
      refine ⟨⟨by rw [eo 2 (by omega)]; exact a1, by rw [eo 0 (by omega)]; exact a2, by rw [eo 1 (by omega)]; exact a3, by rw [eo 5 (by omega)]; exact a4, by rw [eo 7 (by omega)]; exact a5, by rw [eo 6 (by omega)]; exact a6, by rw [eo 8 (by omega)]; exact a7⟩, a8, ⟨by rw [eo 3 (by omega), eo 4 (by omega)]; exact a9, by rw [eo 3 (by omega), eo 4 (by omega)]; exact a9'⟩, ?_, fun z => ?_, by rw [eo 0 (by omega)]; exact a12, by rw [eo 0 (by omega), eo 5 (by omega)]; exact a13, by rw [eo 8 (by omega)]; exact a14, by rw [eo 3 (by omega)]; exact a15⟩
      · rw [eo 0 (by omega), if_neg h0]; exact a10
      · rw [eo 0 (by omega)] at z; exact absurd z h0
    · exact ⟨r_An (Or.inl (by omega)), r_An (Or.inl (by omega)), r_An (Or.inl (by omega))⟩
    · obtain ⟨b1, b2, b3, b4, b5, b6⟩ := hti
      refine ⟨by rw [eo 0 (by omega), eo 6 (by omega)]; exact b1, by rw [eo 0 (by omega), eo 6 (by omega), eo 11 (by omega), eo 5 (by omega)]; exact b2, by rw [eo 6 (by omega)]; exact b3, by rw [eo 3 (by omega)]; exact b4, by rw [eo 3 (by omega), eo 6 (by omega), eo 4 (by omega)]; exact b5, fun z => ?_⟩
      rw [eo 0 (by omega)] at z
      exact absurd z h0
  rcases hf with hf | hf
  · exact main 13 (Or.inl rfl) hf
  · exact main 15 (Or.inr rfl) hf
/-- a wait with a word, for room in a buffer -/
theorem AN_waitW {b : Nat} {L : c_L} {Z : z_C} {K : c_S} {R : r_S} {p j k : Nat} {wd t : Int32} (x : CX b L Z K R p j) (hb : b < 1999999990) (hk : k < 8) : AN (b + 1) L Z (16 * p + j) (km_X0_waitWith L K 0 (nI (16 + k)) wd t) (fun Q => rm_X12_waits R (nI (16 * p + j)) 4 (nI (8 * p + k)) t (fun r31_ S32_ => ∃ x33_ : Int32, r31_ = some (.int x33_) ∧ (vp_in (nI (16 * p + j)) (r_N 2482) ∧ (Q (some (.int x33_)) (rs_A S32_ 2482 (nI (16 * p + j)).toNatClampNeg wd))))) := by
  have x' := x
  obtain ⟨w, ⟨hp, hj⟩, ⟨-, p1, p2, p3⟩, hnow, h1, hm, -⟩ := x
  have cq := WR_cq w
  have np16 := CQ_np cq
  have n16 := CQ_nq cq p hp
  have hq := CQ_hq cq hp hj
  have mq := (CQ_q cq hp hj).1
  have q256 : 16 * p + j < 256 := by omega
  have cl := nI_clamp (n := 16 * p + j) (by omega)
  have ww := WR_wq (v := wd) w hp hj (f := 2482) (Or.inr rfl) (by rw [h1]; decide)
  have ec : (64 : Int32) + nI (16 + k) = nI (b_co 4 + k) := by
    rw [show (64 : Int32) = nI 64 from rfl, nI_add, show 64 + (16 + k) = b_co 4 + k by show 64 + (16 + k) = 80 + k; omega]
  by_cases c0 : t = 0
  · subst c0
    exact AN_i 2 K _ (WR_w ww (by omega)) p3 (fun Q hQ => ⟨fun z => absurd rfl z, fun _ => ⟨fun _ => hQ, fun z => absurd z (by decide)⟩⟩) (fun Q hQ => re_waits0 ⟨_, rfl, ri_v rfl q256 (by decide), by rw [cl]; exact hQ⟩)
  · by_cases cl' : 0 < r_A R 2486 p ∨ r_A R 2442 p = nI (16 * p + j)
    · refine AN_i 3 K _ (WR_w ww (by omega)) p3 (fun Q hQ => ⟨fun _ => ke_may x' ?_, fun z => absurd z c0⟩) (fun Q hQ => re_waitsL (by omega) (by omega) c0 cl' ⟨_, rfl, ri_v rfl q256 (by decide), by rw [cl]; exact hQ⟩)
      rw [if_pos cl']
      exact ⟨fun z => absurd z (by decide), fun _ => ⟨fun _ => hQ, fun z => absurd z (by decide)⟩⟩
    · have nl : ¬ 0 < r_A R 2486 p := fun z => cl' (Or.inl z)
      have nh : r_A R 2442 p ≠ nI (16 * p + j) := fun z => cl' (Or.inr z)
      refine AN_i (-1) (k_wtw K p (16 * p + j) (nI (b_co 4 + k)) (if 0 ≤ t then r_I R 2463 + t else -1) wd) (r_wtw R (16 * p + j) 4 (nI (8 * p + k)) (if 0 ≤ t then r_I R 2463 + t else -1) wd) ?_ p3 (fun Q hQ => ⟨fun _ => ke_may x' ?_, fun z => absurd z c0⟩) (fun Q hQ => re_waits (by omega) (by omega) c0 nl nh ⟨_, rfl, ri_v rfl q256 (by decide), by rw [cl]; exact hQ⟩)
      · exact WR_wtw w (by omega) hp hj h1 hm ((PD_lk w hp).1.trans ((i_0 (PD_lk w hp).2).mp nl)) (fun z => nh (hq.mpr z)) (by rw [r_wtw_r]; exact (wc_thing (s := 4) (by decide) rfl rfl).symm) (by rw [r_wtw_r]; exact WG_thing (s := 4) (by decide) hk rfl rfl)
      · rw [if_neg cl', ec]
        refine ⟨fun _ => ⟨fun c => ⟨p, p1, (CQ_p cq hp).1, ?_⟩, fun c => ⟨p, p1, (CQ_p cq hp).1, ?_⟩⟩, fun z => absurd rfl z⟩
        · rw [p2, hnow]
          rw [if_pos c] at hQ
          exact ke_makeWait mq ⟨fun z => absurd rfl z, fun _ => ⟨_, p2, mq, hQ⟩⟩
        · rw [p2]
          rw [if_neg c] at hQ
          exact ke_makeWait mq ⟨fun z => absurd rfl z, fun _ => ⟨_, p2, mq, hQ⟩⟩
/-- a buffer's facts -/
theorem CT_b {L : c_L} {Z : z_C} {K : c_S} {R : r_S} (h : CT L Z K R) {p k : Nat} (hp : p < z_np Z) (hk : k < z_nt Z p 2) : c_I K 2004 (48 * p + (16 + k)) = r_A R 2447 (8 * p + k) ∧ c_I K 1601 (48 * p + (16 + k)) = nI (z_dc Z (48 * p + (16 + k))) ∧ r_A R 2446 (8 * p + k) = nI (z_dc Z (48 * p + (16 + k))) ∧ 1 ≤ z_dc Z (48 * p + (16 + k)) ∧ z_dc Z (48 * p + (16 + k)) ≤ 16 ∧ z_dc Z (48 * p + (16 + k)) ≤ c_ln L 1600 (48 * p + (16 + k)) ∧ c_ln L 1600 (48 * p + (16 + k)) < 2 ^ 31 := ((h p hp).2.2.2.1 k hk).2
theorem WR_badd {b : Nat} {L : c_L} {Z : z_C} {K : c_S} {R : r_S} {p k a n : Nat} {w : Int32} (h : WR b L Z K R) (hp : p < z_np Z) (hk : k < z_nt Z p 2) (ad : a < z_dc Z (48 * p + (16 + k))) (nd : n < z_dc Z (48 * p + (16 + k))) (ha : c_I K 1602 (48 * p + (16 + k)) = nI a) (hr : r_A R 2494 (8 * p + k) = nI n) (hq : ∀ i : Nat, i < n → c_A K 1600 (48 * p + (16 + k)) ((a + i) % z_dc Z (48 * p + (16 + k))) = r_A R 2495 (16 * (8 * p + k) + i)) : WR b L Z (cs_I (cs_A K 1600 (48 * p + (16 + k)) ((a + n) % z_dc Z (48 * p + (16 + k))) w) 1603 (48 * p + (16 + k)) (nI (n + 1))) (rs_A (rs_A R 2495 (16 * (8 * p + k) + n) w) 2494 (8 * p + k) (r_A R 2494 (8 * p + k) + 1)) := by
  have nb := NT_of (WR_ct h)
  have np16 := CQ_np (WR_cq h)
  obtain ⟨n0, n1, n2, n3, n4, n5⟩ := nb p hp
  have d16 := n5 k hk
  refine WR_e h (fun f i hf => c_In (Or.inl (fun e => hf (by rw [e]; decide)))) (fun f i m hf => c_An (Or.inl hf)) (fun _ _ => rfl) (fun _ => rfl) (fun f i hf => by rw [r_An (Or.inl (fun e => hf (by rw [e]; decide))), r_An (Or.inl (fun e => hf (by rw [e]; decide)))]) ?_ ?_
  · refine TH_buf h.1.2.1 nb np16 hp hk (fun f i hf => c_In (Or.inl (by revert hf; simp only [List.mem_cons, List.not_mem_nil, or_false]; omega))) (fun f i hf hi => c_In (Or.inr hi)) (fun i m hi => c_An (Or.inr hi)) (fun f i hf => ?_) (fun i hi => by rw [r_An (Or.inr hi), r_An (Or.inl (by decide))]) (fun i hi => by rw [r_An (Or.inl (by decide)), r_An (Or.inr (fun e => hi (by omega)))]) ?_
    · have : f ≠ 2494 ∧ f ≠ 2495 := by revert hf; simp only [List.mem_cons, List.not_mem_nil, or_false]; omega
      rw [r_An (Or.inl this.1), r_An (Or.inl this.2)]
    · rw [c_In (Or.inl (by decide)), c_Is, r_As, show c_I (cs_A K 1600 (48 * p + (16 + k)) ((a + n) % z_dc Z (48 * p + (16 + k))) w) 1602 (48 * p + (16 + k)) = nI a from ha]
      refine QU_add ad nd hq hr (w := w) (fun m => ?_) (fun i hi => ?_)
      · show c_A (cs_A K 1600 (48 * p + (16 + k)) ((a + n) % z_dc Z (48 * p + (16 + k))) w) 1600 (48 * p + (16 + k)) m = _
        rw [c_AA]
        by_cases c : m = (a + n) % z_dc Z (48 * p + (16 + k))
        · rw [if_pos ⟨rfl, rfl, c⟩, if_pos c]
        · rw [if_neg (fun z => c z.2.2), if_neg c]
      · rw [r_An (Or.inl (by decide)), r_AA]
        by_cases c : i = n
        · subst c; rw [if_pos ⟨rfl, rfl⟩, if_pos rfl]
        · rw [if_neg (fun z => c (by omega)), if_neg c]
  · refine CH_s h.1.2.2.1 (fun f i hf => c_In (Or.inl (by revert hf; simp only [List.mem_cons, List.not_mem_nil, or_false]; omega))) (fun f i hf hi => c_In (Or.inr (by omega))) (fun i m hi => c_An (Or.inr (by omega))) (fun f i hf => ?_)
    have : f ≠ 2494 ∧ f ≠ 2495 := by revert hf; simp only [List.mem_cons, List.not_mem_nil, or_false]; omega
    rw [r_An (Or.inl this.1), r_An (Or.inl this.2)]
theorem WR_btake {b : Nat} {L : c_L} {Z : z_C} {K : c_S} {R : r_S} {p k a n : Nat} (h : WR b L Z K R) (hp : p < z_np Z) (hk : k < z_nt Z p 2) (ad : a < z_dc Z (48 * p + (16 + k))) (nd : n + 1 ≤ z_dc Z (48 * p + (16 + k))) (hr : r_A R 2494 (8 * p + k) = nI (n + 1)) (hq : ∀ i : Nat, i < n + 1 → c_A K 1600 (48 * p + (16 + k)) ((a + i) % z_dc Z (48 * p + (16 + k))) = r_A R 2495 (16 * (8 * p + k) + i)) : WR b L Z (cs_I (cs_I K 1602 (48 * p + (16 + k)) (nI ((a + 1) % z_dc Z (48 * p + (16 + k))))) 1603 (48 * p + (16 + k)) (nI n)) (r_sf 2495 (rs_A R 2494 (8 * p + k) (r_A R 2494 (8 * p + k) - 1)) (16 * (8 * p + k)) n) := by
  have nb := NT_of (WR_ct h)
  have np16 := CQ_np (WR_cq h)
  obtain ⟨n0, n1, n2, n3, n4, n5⟩ := nb p hp
  have d16 := n5 k hk
  refine WR_e h (fun f i hf => by rw [c_In (Or.inl (fun e => hf (by rw [e]; decide))), c_In (Or.inl (fun e => hf (by rw [e]; decide)))]) (fun f i m hf => rfl) (fun _ _ => rfl) (fun _ => rfl) (fun f i hf => by rw [sf_n (Or.inl (fun e => hf (by rw [e]; decide))), r_An (Or.inl (fun e => hf (by rw [e]; decide)))]) ?_ ?_
  · refine TH_buf h.1.2.1 nb np16 hp hk (fun f i hf => ?_) (fun f i hf hi => by rw [c_In (Or.inr hi), c_In (Or.inr hi)]) (fun i m hi => rfl) (fun f i hf => ?_) (fun i hi => by rw [sf_n (Or.inl (by decide)), r_An (Or.inr hi)]) (fun i hi => by rw [sf_n (Or.inr (by omega)), r_An (Or.inl (by decide))]) ?_
    · have : f ≠ 1602 ∧ f ≠ 1603 := by revert hf; simp only [List.mem_cons, List.not_mem_nil, or_false]; omega
      rw [c_In (Or.inl this.2), c_In (Or.inl this.1)]
    · have : f ≠ 2494 ∧ f ≠ 2495 := by revert hf; simp only [List.mem_cons, List.not_mem_nil, or_false]; omega
      rw [sf_n (Or.inl this.2), r_An (Or.inl this.1)]
    · rw [c_In (Or.inl (by decide)), c_Is, c_Is, sf_n (Or.inl (by decide)), r_As]
      refine QU_take ad nd hq hr (fun i hi => ?_)
      rw [sf_w hi, r_An (Or.inl (by decide))]
      rfl
  · refine CH_s h.1.2.2.1 (fun f i hf => ?_) (fun f i hf hi => by rw [c_In (Or.inr (by omega)), c_In (Or.inr (by omega))]) (fun i m hi => rfl) (fun f i hf => ?_)
    · have : f ≠ 1602 ∧ f ≠ 1603 := by revert hf; simp only [List.mem_cons, List.not_mem_nil, or_false]; omega
      rw [c_In (Or.inl this.2), c_In (Or.inl this.1)]
    · have : f ≠ 2494 ∧ f ≠ 2495 := by revert hf; simp only [List.mem_cons, List.not_mem_nil, or_false]; omega
      rw [sf_n (Or.inl this.2), r_An (Or.inl this.1)]
/-- a waiter gets a word -/
theorem WR_getw {b : Nat} {L : c_L} {Z : z_C} {K : c_S} {R : r_S} {p j : Nat} {v : Int32} (h : WR b L Z K R) (hb : b < 2000000000) (hp : p < z_np Z) (hj : j < z_nq Z p) (h2 : r_A R 2467 (16 * p + j) = 2) (hw : r_A R 2478 (16 * p + j) ≠ 0) : WR (b + 1) L Z (cs_A (cs_A (k_rdy K p (16 * p + j)) 1411 (16 * p + j) 10 0) 1411 (16 * p + j) 11 v) (r_rdy (rs_A (rs_A R 2477 (32 * (16 * p + j) + 11) v) 2477 (32 * (16 * p + j) + 10) 0) (16 * p + j)) := by
  have w1 := WR_get (v := 0) (WR_x (v := v) h hp hj (i := 11) (by decide)) hb hp hj h2 hw
  have e : cs_A (cs_A (k_rdy K p (16 * p + j)) 1411 (16 * p + j) 10 0) 1411 (16 * p + j) 11 v = cs_A (k_rdy (cs_A K 1411 (16 * p + j) 11 v) p (16 * p + j)) 1411 (16 * p + j) 10 0 := by
    refine Prod.ext rfl (Prod.ext rfl (Prod.ext (funext fun f => funext fun i => funext fun n => ?_) rfl))
    show c_A (cs_A (cs_A (k_rdy K p (16 * p + j)) 1411 (16 * p + j) 10 0) 1411 (16 * p + j) 11 v) f i n = c_A (cs_A (k_rdy (cs_A K 1411 (16 * p + j) 11 v) p (16 * p + j)) 1411 (16 * p + j) 10 0) f i n
    rw [c_AA, c_AA, c_AA, show c_A (k_rdy (cs_A K 1411 (16 * p + j) 11 v) p (16 * p + j)) f i n = c_A (cs_A K 1411 (16 * p + j) 11 v) f i n from rfl, c_AA, show c_A (k_rdy K p (16 * p + j)) f i n = c_A K f i n from rfl]
    by_cases c1 : f = 1411 ∧ i = 16 * p + j ∧ n = 11
    · rw [if_pos c1, if_neg (fun z => by omega), if_pos c1]
    · rw [if_neg c1, if_neg c1]
  rw [e]
  exact w1
