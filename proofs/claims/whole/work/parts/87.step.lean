/-! A step of one process, from what it does to its lines. -/
theorem W0_step {b : Nat} {L : c_L} {Z : z_C} {K K' : c_S} {R R' : r_S} {p j : Nat} (h : W0 b L Z K R) (hb : b < 2000000000) (hp : p < z_np Z) (hj : j < z_nq Z p) (ers : RS L Z K' R' = RS L Z K R) (ejb : JB b R' = JB b R) (ex : EX (16 * p + j) K K' R R')
    (npr : PRt p (p_k K' (16 * p + j)) (p_x K' (16 * p + j)) (p_r R' (16 * p + j)) (p_y R' (16 * p + j)))
    (hl : ∀ p' : Nat, p' ≠ p → c_I K' 1015 p' = c_I K 1015 p') (lo1 : c_I K' 1015 p = c_I K 1015 p ∨ c_I K' 1015 p = c_I K 1015 p + 1) (st1 : r_I R' 2464 = r_I R 2464 ∨ r_I R' 2464 = r_I R 2464 + 1)
    (o1 : p_r R' (16 * p + j) 0 = 1 → c_I K' 1015 p = c_I K 1015 p + 1 ∧ r_I R' 2464 = r_I R 2464 + 1 ∧ p_k K' (16 * p + j) 17 = c_I K 1015 p + 1 ∧ p_r R' (16 * p + j) 9 = r_I R 2464 + 1)
    (o2 : w_w (p_r R' (16 * p + j)) → c_I K' 1015 p = c_I K 1015 p + 1 ∧ r_I R' 2464 = r_I R 2464 + 1 ∧ p_k K' (16 * p + j) 17 = c_I K 1015 p + 1 ∧ p_r R' (16 * p + j) 14 = r_I R 2464 + 1)
    (ht : r_I R' 2463 = r_I R 2463) (hd : ∀ q : Nat, r_A R' 2439 q = r_A R 2439 q ∧ r_A R' 2448 q = r_A R 2448 q ∧ r_A R' 2450 q = r_A R 2450 q) (nti : TIt Z p (r_I R 2463) (r_A R 2439 (16 * p + j)) (fun a => r_A R 2448 (16 * p + a)) (fun a => r_A R 2450 (16 * p + a)) (p_r R' (16 * p + j))) : W0 (b + 1) L Z K' R' := by
  obtain ⟨rs, dp, op, ti, jb⟩ := h
  have hn := CQ_nq rs.1.1
  have hlo := (op.2 p hp).1
  have hst := op.1
  simp only at hlo hst
  have e1 := i_1 (x := c_I K 1015 p) hlo.1 (by omega)
  have e2 := i_1 (x := r_I R 2464) hst.1 (by omega)
  refine ⟨ers ▸ rs, DP_u dp hn hp hj ex npr, OP_u op hn hp hj ex hl ?_ ?_ (fun z => ?_) (fun z => ?_), TI_u ti hn hp hj ht hd (fun q' h => (ex q' h).2.2.1) nti, JB_w (ejb ▸ jb) (Nat.le_succ b)⟩
  · rcases lo1 with q | q
    · rw [q]; omega
    · rw [q, e1]; omega
  · rcases st1 with q | q
    · rw [q]; omega
    · rw [q, e2]; omega
  · obtain ⟨a1, a2, a3, a4⟩ := o1 z
    exact ⟨by rw [a1, e1], by rw [a2, e2], by rw [a3, a1], by rw [a4, a2]⟩
  · obtain ⟨a1, a2, a3, a4⟩ := o2 z
    exact ⟨by rw [a1, e1], by rw [a2, e2], by rw [a3, a1], by rw [a4, a2]⟩
theorem WR_step {b : Nat} {L : c_L} {Z : z_C} {K K' : c_S} {R R' : r_S} {p j : Nat} (h : WR b L Z K R) (hb : b < 2000000000) (hp : p < z_np Z) (hj : j < z_nq Z p) (ers : RS L Z K' R' = RS L Z K R) (ejb : JB b R' = JB b R) (ex : EX (16 * p + j) K K' R R')
    (npr : PRt p (p_k K' (16 * p + j)) (p_x K' (16 * p + j)) (p_r R' (16 * p + j)) (p_y R' (16 * p + j)))
    (hl : ∀ p' : Nat, p' ≠ p → c_I K' 1015 p' = c_I K 1015 p') (lo1 : c_I K' 1015 p = c_I K 1015 p ∨ c_I K' 1015 p = c_I K 1015 p + 1) (st1 : r_I R' 2464 = r_I R 2464 ∨ r_I R' 2464 = r_I R 2464 + 1)
    (o1 : p_r R' (16 * p + j) 0 = 1 → c_I K' 1015 p = c_I K 1015 p + 1 ∧ r_I R' 2464 = r_I R 2464 + 1 ∧ p_k K' (16 * p + j) 17 = c_I K 1015 p + 1 ∧ p_r R' (16 * p + j) 9 = r_I R 2464 + 1)
    (o2 : w_w (p_r R' (16 * p + j)) → c_I K' 1015 p = c_I K 1015 p + 1 ∧ r_I R' 2464 = r_I R 2464 + 1 ∧ p_k K' (16 * p + j) 17 = c_I K 1015 p + 1 ∧ p_r R' (16 * p + j) 14 = r_I R 2464 + 1)
    (ht : r_I R' 2463 = r_I R 2463) (hd : ∀ q : Nat, r_A R' 2439 q = r_A R 2439 q ∧ r_A R' 2448 q = r_A R 2448 q ∧ r_A R' 2450 q = r_A R 2450 q) (nti : TIt Z p (r_I R 2463) (r_A R 2439 (16 * p + j)) (fun a => r_A R 2448 (16 * p + a)) (fun a => r_A R 2450 (16 * p + a)) (p_r R' (16 * p + j))) (npd : PD Z K' R') : WR (b + 1) L Z K' R' := WR_of (W0_step (W0_of h) hb hp hj ers ejb ex npr hl lo1 st1 o1 o2 ht hd nti) npd
/-- a step that neither touches state nor order -/
theorem WR_quiet {b : Nat} {L : c_L} {Z : z_C} {K K' : c_S} {R R' : r_S} {p j : Nat} (h : WR b L Z K R) (hp : p < z_np Z) (hj : j < z_nq Z p) (ers : RS L Z K' R' = RS L Z K R) (ejb : JB b R' = JB b R) (epd : PD Z K' R' = PD Z K R) (ex : EX (16 * p + j) K K' R R')
    (npr : PRt p (p_k K' (16 * p + j)) (p_x K' (16 * p + j)) (p_r R' (16 * p + j)) (p_y R' (16 * p + j)))
    (hl : ∀ p' : Nat, c_I K' 1015 p' = c_I K 1015 p') (st1 : r_I R' 2464 = r_I R 2464)
    (o1 : p_k K' (16 * p + j) 17 = p_k K (16 * p + j) 17 ∧ p_r R' (16 * p + j) 0 = p_r R (16 * p + j) 0 ∧ p_r R' (16 * p + j) 9 = p_r R (16 * p + j) 9 ∧ p_r R' (16 * p + j) 11 = p_r R (16 * p + j) 11 ∧ p_r R' (16 * p + j) 14 = p_r R (16 * p + j) 14)
    (ht : r_I R' 2463 = r_I R 2463) (hd : ∀ q : Nat, r_A R' 2439 q = r_A R 2439 q ∧ r_A R' 2448 q = r_A R 2448 q ∧ r_A R' 2450 q = r_A R 2450 q) (nti : TIt Z p (r_I R 2463) (r_A R 2439 (16 * p + j)) (fun a => r_A R 2448 (16 * p + a)) (fun a => r_A R 2450 (16 * p + a)) (p_r R' (16 * p + j))) : WR b L Z K' R' := by
  obtain ⟨rs, dp, op, ti, pd, jb⟩ := h
  have hn := CQ_nq rs.1.1
  refine ⟨ers ▸ rs, DP_u dp hn hp hj ex npr, OP_s op hl st1 (fun q => ?_), TI_u ti hn hp hj ht hd (fun q' h => (ex q' h).2.2.1) nti, epd ▸ pd, ejb ▸ jb⟩
  by_cases e : q = 16 * p + j
  · subst e; exact o1
  · obtain ⟨a1, -, a3, -⟩ := ex q e
    rw [a1, a3]
    exact ⟨rfl, rfl, rfl, rfl, rfl⟩
/-! ready -/
theorem EX_rdy {p q : Nat} {K : c_S} {R : r_S} : EX q K (k_rdy K p q) R (r_rdy R q) := fun q' h => by
  have h := h.symm
  unfold k_rdy r_rdy
  refine ⟨?_, rfl, ?_, ?_⟩
  · rw [pk_n h, pk_f (by decide), pk_n h, pk_n h, pk_n h]
  · rw [pr_n h, pr_I, pr_n h, pr_n h, pr_n h]
  · rw [py_f (by decide), py_I, py_f (by decide), py_f (by decide), py_f (by decide)]
theorem k_rdy_k {p q : Nat} {K : c_S} : p_k (k_rdy K p q) q = qs_1 (qs_1 (qs_1 (qs_1 (p_k K q) 9 1) 18 (-1)) 13 (-1)) 17 (c_I K 1015 p + 1) := by
  unfold k_rdy
  rw [pk_w17, pk_f (by decide), pk_w13, pk_w18, pk_w9]
theorem r_rdy_r {q : Nat} {R : r_S} : p_r (r_rdy R q) q = qs_1 (qs_1 (qs_1 (qs_1 (p_r R q) 0 1) 5 (-1)) 11 0) 9 (r_I R 2464 + 1) := by
  unfold r_rdy
  rw [pr_w9, pr_I, pr_w11, pr_w5, pr_w0]
theorem r_rdy_y {q : Nat} {R : r_S} : p_y (r_rdy R q) q = p_y R q := by
  unfold r_rdy
  rw [py_f (by decide), py_I, py_f (by decide), py_f (by decide), py_f (by decide)]
theorem PRt_rdy {p : Nat} {u x w y : Nat → Int32} {o t : Int32} (h : PRt p u x w y) : PRt p (qs_1 (qs_1 (qs_1 (qs_1 u 9 1) 18 (-1)) 13 (-1)) 17 o) x (qs_1 (qs_1 (qs_1 (qs_1 w 0 1) 5 (-1)) 11 0) 9 t) y := by
  obtain ⟨⟨a1, a2, a3, a4, a5, a6, a7⟩, a8, a9, a10, a11, a12, a13, a14, a15⟩ := h
  exact ⟨⟨a1, rfl, a3, rfl, a5, a6, a7⟩, a8, a9, (if_neg (by decide : ¬ (1 : Int32) = 2)).symm, fun z => absurd z (by decide : ¬ (1 : Int32) = 2), Or.inr (Or.inl rfl), fun z => absurd rfl z, a14, a15⟩
theorem RS_rdy {L : c_L} {Z : z_C} {K : c_S} {R : r_S} {p q : Nat} : RS L Z (k_rdy K p q) (r_rdy R q) = RS L Z K R := by
  unfold RS k_rdy r_rdy
  simp (disch := decide) only [CQ_I, CQ_A, CQ_G, CQ_P, CQ_J, CQ_i, CQ_a, CQ_z, CT_I, CT_A, CT_G, CT_P, CT_J, CT_i, CT_a, CT_z, CC_I, CC_A, CC_G, CC_P, CC_J, CC_i, CC_a, CC_z, CM_I, CM_A, CM_G, CM_P, CM_J, CM_i, CM_a, CM_z, NM_I, NM_A, NM_G, NM_P, NM_J, NM_i, NM_a, NM_z, TH_I, TH_A, TH_G, TH_P, TH_J, TH_i, TH_a, TH_z, CH_I, CH_A, CH_G, CH_P, CH_J, CH_i, CH_a, CH_z, IN_I, IN_A, IN_G, IN_P, IN_J, IN_i, IN_a, IN_z, ME_I, ME_A, ME_G, ME_P, ME_J, ME_i, ME_a, ME_z, JR_I, JR_A, JR_G, JR_P, JR_J, JR_i, JR_a, JR_z, GL_I, GL_A, GL_G, GL_P, GL_J, GL_i, GL_a, GL_z, TX_I, TX_A, TX_G, TX_P, TX_J, TX_i, TX_a, TX_z, PD_I, PD_A, PD_G, PD_P, PD_J, PD_i, PD_a, PD_z, JB_i, JB_a, JB_z]
theorem JB_rdy {b : Nat} {R : r_S} {q : Nat} : JB b (r_rdy R q) = JB b R := by
  unfold r_rdy
  simp (disch := decide) only [CQ_I, CQ_A, CQ_G, CQ_P, CQ_J, CQ_i, CQ_a, CQ_z, CT_I, CT_A, CT_G, CT_P, CT_J, CT_i, CT_a, CT_z, CC_I, CC_A, CC_G, CC_P, CC_J, CC_i, CC_a, CC_z, CM_I, CM_A, CM_G, CM_P, CM_J, CM_i, CM_a, CM_z, NM_I, NM_A, NM_G, NM_P, NM_J, NM_i, NM_a, NM_z, TH_I, TH_A, TH_G, TH_P, TH_J, TH_i, TH_a, TH_z, CH_I, CH_A, CH_G, CH_P, CH_J, CH_i, CH_a, CH_z, IN_I, IN_A, IN_G, IN_P, IN_J, IN_i, IN_a, IN_z, ME_I, ME_A, ME_G, ME_P, ME_J, ME_i, ME_a, ME_z, JR_I, JR_A, JR_G, JR_P, JR_J, JR_i, JR_a, JR_z, GL_I, GL_A, GL_G, GL_P, GL_J, GL_i, GL_a, GL_z, TX_I, TX_A, TX_G, TX_P, TX_J, TX_i, TX_a, TX_z, PD_I, PD_A, PD_G, PD_P, PD_J, PD_i, PD_a, PD_z, JB_i, JB_a, JB_z]
theorem lo_b {K : c_S} {p p' : Nat} {v : Int32} (h : p' ≠ p) : c_I (cs_I K 1015 p v) 1015 p' = c_I K 1015 p' := if_neg (fun z => h z.2)
theorem WR_rdy {b : Nat} {L : c_L} {Z : z_C} {K : c_S} {R : r_S} {p j : Nat} (h : WR b L Z K R) (hb : b < 2000000000) (hp : p < z_np Z) (hj : j < z_nq Z p) (h3 : r_A R 2467 (16 * p + j) ≠ 3) (hm : r_A R 2483 p = 0) (ht : (r_A R 2473 (16 * p + j)).toInt ≤ (r_I R 2463).toInt) : WR (b + 1) L Z (k_rdy K p (16 * p + j)) (r_rdy R (16 * p + j)) := by
  have hpr := h.2.1.1 p hp j hj
  have hti := h.2.2.2.1.2 p hp j hj
  have hpd := h.2.2.2.2.1
  have hn := CQ_nq (WR_cq h)
  have elo : c_I (k_rdy K p (16 * p + j)) 1015 p = c_I K 1015 p + 1 := by
    show c_I (cs_I (cs_I (cs_I (cs_I K 1409 (16 * p + j) 1) 1418 (16 * p + j) (-1)) 1413 (16 * p + j) (-1)) 1015 p (c_I K 1015 p + 1)) 1015 p = _
    exact c_Is
  have est : r_I (r_rdy R (16 * p + j)) 2464 = r_I R 2464 + 1 := by unfold r_rdy; rw [r_IA, r_Is]
  refine WR_step h hb hp hj RS_rdy JB_rdy EX_rdy ?_ (fun p' hp' => lo_b hp') (Or.inr elo) (Or.inr est) (fun _ => ⟨elo, est, ?_, ?_⟩) (fun z => ?_) rfl (fun _ => ⟨rfl, rfl, rfl⟩) ?_ ?_
  · rw [k_rdy_k, r_rdy_r, r_rdy_y]
    exact PRt_rdy hpr
  · rw [k_rdy_k]; rfl
  · rw [r_rdy_r]; rfl
  · rw [r_rdy_r] at z
    exact absurd z.1 (by decide : ¬ (1 : Int32) = 2)
  · rw [r_rdy_r]
    exact ⟨fun _ => ht, fun z => absurd z (by decide : ¬ (1 : Int32) = 2), hti.2.2.1, hti.2.2.2.1, hti.2.2.2.2.1, fun z => absurd z (by decide : ¬ (1 : Int32) = 2)⟩
  · have e0 : r_A (r_rdy R (16 * p + j)) 2467 (16 * p + j) = 1 := by
      have := congrFun (r_rdy_r (R := R) (q := 16 * p + j)) 0
      exact this
    refine PD_1 hpd hp hj hn ?_ ?_ (fun q hq => ?_) (Or.inl hm) h3 (by rw [e0]; decide) (fun z => absurd e0 z) (fun _ => Or.inl e0)
    · unfold k_rdy
      rw [m_In (by decide), m_In (by decide), m_In (by decide), m_In (by decide), m_In (by decide)]
    · unfold r_rdy
      rw [n_An (by decide)]
      show n_A _ (rs_A (rs_A (rs_A R 2467 (16 * p + j) 1) 2472 (16 * p + j) (-1)) 2478 (16 * p + j) 0) = _
      rw [n_An (by decide), n_An (by decide), n_An (by decide)]
    · have := congrFun (EX_rdy (K := K) (R := R) (p := p) (q := 16 * p + j) q hq).2.2.1 0
      exact this
