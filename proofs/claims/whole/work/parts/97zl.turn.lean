/-! A partition's turn. -/
theorem WR_12 {b : Nat} {L : c_L} {Z : z_C} {K : c_S} {R : r_S} {p : Nat} {v : Int32} (h : WR b L Z K R) (hp : p < z_np Z) : WR b L Z (cs_I K 1012 p v) (rs_A R 2491 p v) := by
  refine WR_of (W0_pk (by decide) (W0_pr (by decide) (W0_of h))) (fun p' hp' => ?_)
  show PDv Z p' (pd_k (cs_I K 1012 p v) p') (pd_r (rs_A R 2491 p v) p') (pd_s R p')
  by_cases e : p' = p
  · subst e
    rw [pd_kw (by decide), pd_rw (by decide)]
    obtain ⟨g1, g2, g3, g4, g5, g6, g7⟩ := PD_v h.2.2.2.2.1 hp
    exact ⟨⟨g1.1, g1.2.1, g1.2.2.1, rfl, g1.2.2.2.2⟩, g2, g3, g4, g5, g6, g7⟩
  · rw [pd_kn e, pd_rn e]
    exact PD_v h.2.2.2.2.1 hp'
theorem WR_212 {b : Nat} {L : c_L} {Z : z_C} {K : c_S} {R : r_S} {v : Int32} (h : WR b L Z K R) : WR b L Z (cs_I K 1212 0 v) (rs_I R 2510 v) := by
  obtain ⟨⟨⟨cq, ct, cc, cm⟩, th, ch, inn, me, jr, gl, tx⟩, dp, op, ti, pd, jb⟩ := h
  refine ⟨⟨⟨?_, ?_, ?_, ?_⟩, ?_, ?_, ?_, ?_, ?_, ⟨gl.1, rfl, gl.2.2⟩, ?_⟩, ?_, ?_, ?_, ?_, ?_⟩
  all_goals (simp (disch := decide) only [CQ_I, CQ_A, CQ_G, CQ_P, CQ_J, CQ_i, CQ_a, CQ_z, CT_I, CT_A, CT_G, CT_P, CT_J, CT_i, CT_a, CT_z, CC_I, CC_A, CC_G, CC_P, CC_J, CC_i, CC_a, CC_z, CM_I, CM_A, CM_G, CM_P, CM_J, CM_i, CM_a, CM_z, NM_I, NM_A, NM_G, NM_P, NM_J, NM_i, NM_a, NM_z, TH_I, TH_A, TH_G, TH_P, TH_J, TH_i, TH_a, TH_z, CH_I, CH_A, CH_G, CH_P, CH_J, CH_i, CH_a, CH_z, IN_I, IN_A, IN_G, IN_P, IN_J, IN_i, IN_a, IN_z, ME_I, ME_A, ME_G, ME_P, ME_J, ME_i, ME_a, ME_z, JR_I, JR_A, JR_G, JR_P, JR_J, JR_i, JR_a, JR_z, GL_I, GL_A, GL_G, GL_P, GL_J, GL_i, GL_a, GL_z, TX_I, TX_A, TX_G, TX_P, TX_J, TX_i, TX_a, TX_z, PD_I, PD_A, PD_G, PD_P, PD_J, PD_i, PD_a, PD_z, JB_i, JB_a, JB_z, DP_I, DP_A, DP_G, DP_P, DP_i, DP_a, OP_I, OP_A, OP_G, OP_P, OP_i, OP_a, TI_i, TI_a]; assumption)
theorem P_turn {b : Nat} {L : c_L} {Z : z_C} {K : c_S} {R : r_S} {p : Nat} (w : WR b L Z K R) (gk : GK L) (hb : b < 1999990000) (hp : p < z_np Z) (tk : TK Z p) (c4 : ∀ i : Nat, c_mk L 5 i → c_mk L 4 i) (hbg : ¬ z_bg Z = 0) (h13 : r_I R 2513 = 0) : ∃ (K' : c_S) (R' : r_S), (∀ Q : c_S → Prop, Q K' → km_X11_turn L K 0 (some p) Q) ∧ (∀ Q : Option Value → r_S → Prop, Q none R' → (¬ r_A R 2483 p = 0 → Q none R) ∧ (r_A R 2483 p = 0 → rm_X12_works R (nI p) Q)) ∧ WR (b + 1200) L Z K' R' := by
  have cq := WR_cq w
  have np16 := CQ_np cq
  have n16 := CQ_nq cq p hp
  have m5 := (CQ_p cq hp).1
  have e9 : c_I K 1009 p = r_A R 2483 p := (PD_v w.2.2.2.2.1 hp).1.1
  by_cases hm : r_A R 2483 p = 0
  case neg =>
    exact ⟨K, R, fun Q hQ => bf_ (fun z => (by cases z)) ⟨_, rfl, m5, bf_ (by rw [e9]; exact hm) hQ⟩, fun Q hQ => nf_ hm hQ, WR_w w (by omega)⟩
  case pos =>
    have vpp : ∀ f : Nat, r_N f = 16 → vp_in (nI p) (r_N f) := fun f hf => ri_v hf (by omega) (by decide)
    have cp := nI_clamp (n := p) (by omega)
    have et : c_I K 1211 0 = nI (z_tm Z) := (GL_el w).1.trans (GL_el w).2.2.2.2.2.1
    have kgo : ∀ Q : c_S → Prop, km_X5_wakeUntil L K p (nI (z_tm Z)) _ → km_X11_turn L K 0 (some p) Q := fun Q hQ => by
      refine bf_ (fun z => (by cases z)) ⟨_, rfl, m5, bt_ (by rw [e9]; exact hm) ?_⟩
      rw [et]
      exact hQ
    have cle : b_ct (wkM R p (nI (z_tm Z))) (z_nq Z p) ≤ z_nq Z p := b_ctl
    obtain ⟨K1, R1, f1, f2, f3, f4, f5⟩ := P_wakes hp _ 0 (z_nq Z p) b K R w hm rfl (by omega) cle (by omega)
    have h13' : r_I R1 2513 = 0 := (f5 _ (by decide)).trans h13
    obtain ⟨o, K2, R2, g1, g2, g3, g4, g5⟩ := P_late gk hp (z_nq Z p) 0 _ K1 R1 f3 f4 h13' (by omega) (by omega)
    have rgo : ∀ Q : Option Value → r_S → Prop, rb_X12_works_214 R2 (nI p) Q → (¬ r_A R 2483 p = 0 → Q none R) ∧ (r_A R 2483 p = 0 → rm_X12_works R (nI p) Q) := fun Q hQ => nt_ hm ⟨_, f2 Q ⟨_, g2 Q hQ⟩⟩
    cases o with
    | false =>
      refine ⟨K2, R2, fun Q hQ => kgo Q ⟨_, f1 _ ⟨_, g1 _ (nt_ rfl hQ)⟩⟩, fun Q hQ => rgo Q (bf_ (by rw [g5 rfl]; decide) (nt_ rfl hQ)), WR_w g3 (by omega)⟩
    | true =>
      obtain ⟨i13, im⟩ := g4 rfl
      have bg2 : ¬ r_I R2 2414 = 0 := by rw [(GL_el g3).2.2.2.2.2.2.2]; exact hbg
      obtain ⟨x, x1, x2, x3⟩ := P_next g3 hp im bg2
      cases x with
      | none =>
        exact ⟨K2, R2, fun Q hQ => kgo Q ⟨_, f1 _ ⟨_, g1 _ (nf_ (by decide) (x2 _ (nt_ rfl hQ)))⟩⟩, fun Q hQ => rgo Q (bt_ i13 (x3 _ ⟨_, rfl, nt_ rfl hQ⟩)), WR_w g3 (by omega)⟩
      | some j =>
        obtain ⟨hj, sj⟩ := x1 j rfl
        have mj := (CQ_q (WR_cq g3) hp hj).1
        have cj := nI_clamp (n := 16 * p + j) (by omega)
        have vj : vp_in (nI (16 * p + j)) (r_N 2474) := ri_v (n := 256) rfl (by omega) (by decide)
        have q14 : c_I K2 1414 (16 * p + j) = r_A R2 2474 (16 * p + j) := (DP_w g3 hp hj).1.2.2.2.2.1
        have q12 : c_I K2 1012 p = r_A R2 2491 p := (PD_v g3.2.2.2.2.1 hp).1.2.2.2.1
        have q212 : c_I K2 1212 0 = r_I R2 2510 := (GL_el g3).2.1
        have w1 := WR_dn (v := r_A R2 2474 (16 * p + j) + 1) g3 hp hj
        have w2 := WR_12 (v := r_A R2 2491 p + 1) w1 hp
        have w3 := WR_212 (v := r_I R2 2510 + 1) w2
        have s1 : r_A (rs_A (rs_A R2 2474 (16 * p + j) (r_A R2 2474 (16 * p + j) + 1)) 2491 p (r_A R2 2491 p + 1)) 2467 (16 * p + j) = 1 := by
          rw [r_An (Or.inl (by decide)), r_An (Or.inl (by decide))]; exact sj
        have s2 : r_A (rs_A (rs_A R2 2474 (16 * p + j) (r_A R2 2474 (16 * p + j) + 1)) 2491 p (r_A R2 2491 p + 1)) 2483 p = 0 := by
          rw [r_An (Or.inl (by decide)), r_An (Or.inl (by decide))]; exact im
        have mx : MX _ L Z _ _ p j := ⟨w3, gk, ⟨hp, hj⟩, s1, s2, tk, by omega, c4⟩
        obtain ⟨K3, R3, y1, y2, y3⟩ := XE_step mx
        refine ⟨K3, R3, fun Q hQ => kgo Q ⟨_, f1 _ ⟨_, g1 _ (nf_ (by decide) (x2 _ (nf_ (fun z => (by cases z)) ⟨_, rfl, mj, fun S hS => ?_⟩)))⟩⟩, fun Q hQ => rgo Q (bt_ i13 (x3 _ ⟨_, rfl, nf_ (nI_m1 (show 16 * p + j < 2 ^ 31 by omega)) ⟨vj, vj, fun S hS => ⟨vpp _ rfl, vpp _ rfl, ?_⟩⟩⟩)), WR_w y3 (by omega)⟩
        · have e1 : S = cs_I (k_dn K2 p (16 * p + j) (r_A R2 2474 (16 * p + j) + 1)) 1012 p (r_A R2 2491 p + 1) := by
            rw [hS]
            show cs_I (cs_I K2 1414 (16 * p + j) (c_I K2 1414 (16 * p + j) + 1)) 1012 p (c_I K2 1012 p + 1) = _
            rw [q14, q12]
            rfl
          have e2 : c_I S 1212 0 = r_I R2 2510 := by
            rw [e1]
            exact q212
          rw [e2, e1]
          exact y1 Q hQ
        · have e0 : (o_i (Option.map (fun i => 16 * p + i) (some j))).toNatClampNeg = 16 * p + j := cj
          rw [e0] at hS
          have e1 : rs_A S 2491 (nI p).toNatClampNeg (r_A S 2491 (nI p).toNatClampNeg + 1) = rs_I (rs_A (r_dn R2 (16 * p + j) (r_A R2 2474 (16 * p + j) + 1)) 2491 p (r_A R2 2491 p + 1)) 2510 (r_I R2 2510 + 1) := by
            rw [hS, cp, r_An (Or.inl (by decide))]
            rfl
          rw [e1]
          exact y2 _ ⟨rfl, hQ⟩
