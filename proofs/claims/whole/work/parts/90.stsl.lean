/-! To sleep, to fault, to start. -/
theorem i_add {x y : Int32} (hx : 0 ≤ x.toInt) (hy : 0 ≤ y.toInt) (h : x.toInt + y.toInt < 2147483648) : (x + y).toInt = x.toInt + y.toInt := by
  obtain ⟨n, hn, rfl⟩ := nI_of (x := x) (fun z => by have := Int32.lt_iff_toInt_lt.mp z; simp at this; omega)
  obtain ⟨m, hm, rfl⟩ := nI_of (x := y) (fun z => by have := Int32.lt_iff_toInt_lt.mp z; simp at this; omega)
  rw [nI_toInt hn, nI_toInt hm] at h
  rw [nI_add, nI_toInt (by omega), nI_toInt hn, nI_toInt hm]
  omega
theorem i_le {x y : Int32} : x ≤ y ↔ x.toInt ≤ y.toInt := Int32.le_iff_toInt_le
theorem i_lt {x y : Int32} : x < y ↔ x.toInt < y.toInt := Int32.lt_iff_toInt_lt
theorem i_le0 {x : Int32} : x ≤ 0 ↔ x.toInt ≤ 0 := Int32.le_iff_toInt_le
theorem i_lt0 {x : Int32} : x < 0 ↔ x.toInt < 0 := Int32.lt_iff_toInt_lt
theorem W0_lv0 {b : Nat} {L : c_L} {Z : z_C} {K : c_S} {R : r_S} {p j : Nat} (h : W0 b L Z K R) (hb : b < 2000000000) (hp : p < z_np Z) (hj : j < z_nq Z p) : W0 (b + 1) L Z (k_lv K (16 * p + j) 0) (r_sl R (16 * p + j)) := by
  have hpr := h.2.1.1 p hp j hj
  have hti := h.2.2.2.1.2 p hp j hj
  have e0 : p_r (r_sl R (16 * p + j)) (16 * p + j) 0 = 0 := by rw [r_sl_r]; rfl
  have ex : EX (16 * p + j) K (k_lv K (16 * p + j) 0) R (r_sl R (16 * p + j)) := fun q' hq => ⟨k_lv_n hq.symm, k_lv_x, r_sl_n hq.symm, r_sl_y⟩
  refine W0_step h hb hp hj (by rw [k_lv_RS, r_sl_RS]) r_sl_JB ex ?_ (fun _ _ => rfl) (Or.inl rfl) (Or.inl rfl) (fun z => ?_) (fun z => ?_) rfl (fun _ => ⟨rfl, rfl, rfl⟩) ?_
  · rw [k_lv_x, r_sl_y, k_lv_k, r_sl_r, if_pos rfl]
    obtain ⟨⟨a1, a2, a3, a4, a5, a6, a7⟩, a8, ⟨a9, a9'⟩, a10, a11, a12, a13, a14, a15⟩ := hpr
    exact ⟨⟨a1, rfl, a3, rfl, a5, a6, rfl⟩, a8, ⟨(if_pos (rfl : (0 : Int32) = 0)).symm, fun z => absurd rfl z⟩, (if_neg (by decide : ¬ (0 : Int32) = 2)).symm, fun z => absurd z (by decide : ¬ (0 : Int32) = 2), Or.inl rfl, fun z => absurd rfl z, Or.inl rfl, Or.inl rfl⟩
  · rw [e0] at z; exact absurd z (by decide)
  · exact absurd (e0.symm.trans z.1) (by decide)
  · rw [r_sl_r]
    exact ⟨fun z => absurd z (by decide : ¬ ((0 : Int32) = 1 ∨ (0 : Int32) = 3)), fun z => absurd z (by decide : ¬ (0 : Int32) = 2), hti.2.2.1, fun _ => rfl, fun z => absurd rfl z, fun z => absurd z (by decide : ¬ (0 : Int32) = 2)⟩
theorem W0_lv3 {b : Nat} {L : c_L} {Z : z_C} {K : c_S} {R : r_S} {p j : Nat} (h : W0 b L Z K R) (hb : b < 2000000000) (hp : p < z_np Z) (hj : j < z_nq Z p) (ht : (r_A R 2473 (16 * p + j)).toInt ≤ (r_I R 2463).toInt) : W0 (b + 1) L Z (k_lv K (16 * p + j) 3) (r_f3 R (16 * p + j)) := by
  have hpr := h.2.1.1 p hp j hj
  have hti := h.2.2.2.1.2 p hp j hj
  have e0 : p_r (r_f3 R (16 * p + j)) (16 * p + j) 0 = 3 := by rw [r_f3_r]; rfl
  have ex : EX (16 * p + j) K (k_lv K (16 * p + j) 3) R (r_f3 R (16 * p + j)) := fun q' hq => ⟨k_lv_n hq.symm, k_lv_x, r_f3_n hq.symm, r_f3_y⟩
  refine W0_step h hb hp hj (by rw [k_lv_RS, r_f3_RS]) r_f3_JB ex ?_ (fun _ _ => rfl) (Or.inl rfl) (Or.inl rfl) (fun z => ?_) (fun z => ?_) rfl (fun _ => ⟨rfl, rfl, rfl⟩) ?_
  · rw [k_lv_x, r_f3_y, k_lv_k, r_f3_r, if_neg (by decide : ¬ (3 : Int32) = 0)]
    obtain ⟨⟨a1, a2, a3, a4, a5, a6, a7⟩, a8, ⟨a9, a9'⟩, a10, a11, a12, a13, a14, a15⟩ := hpr
    exact ⟨⟨a1, rfl, a3, rfl, a5, a6, rfl⟩, a8, ⟨a9, a9'⟩, (if_neg (by decide : ¬ (3 : Int32) = 2)).symm, fun z => absurd z (by decide : ¬ (3 : Int32) = 2), Or.inr (Or.inr (Or.inr rfl)), fun z => absurd rfl z, Or.inl rfl, a15⟩
  · rw [e0] at z; exact absurd z (by decide)
  · exact absurd (e0.symm.trans z.1) (by decide)
  · rw [r_f3_r]
    exact ⟨fun _ => ht, fun z => absurd z (by decide : ¬ (3 : Int32) = 2), hti.2.2.1, hti.2.2.2.1, hti.2.2.2.2.1, fun z => absurd z (by decide : ¬ (3 : Int32) = 2)⟩
theorem k_sx_k {L : c_L} {K : c_S} {p q : Nat} {t : Int32} : p_k (k_sx L K p q t) q = qs_1 (qs_1 (qs_1 (qs_1 (p_k K q) 10 (c_I K 1402 q)) 16 0) 15 t) 12 (if c_I K 1405 q ≤ 0 then -1 else t + c_I K 1405 q) := by
  have e : p_k (k_sr (k_rs L K q) q t) q = qs_1 (qs_1 (qs_1 (qs_1 (p_k K q) 10 (c_I K 1402 q)) 16 0) 15 t) 12 (if c_I K 1405 q ≤ 0 then -1 else t + c_I K 1405 q) := by
    rw [k_sr_k]
    unfold k_rs
    rw [pk_w16, pk_w10]
    rfl
  unfold k_sx k_uf
  split
  · rw [pk_f (by decide)]; exact e
  · exact e
theorem k_sx_x {L : c_L} {K : c_S} {p q : Nat} {t : Int32} : p_x (k_sx L K p q t) q = fun j => if j < c_ln L 1411 q then 0 else c_A K 1411 q j := by
  have e : p_x (k_sr (k_rs L K q) q t) q = fun j => if j < c_ln L 1411 q then 0 else c_A K 1411 q j := by
    unfold k_sr k_rs c_fi
    rw [px_I, px_I, px_I, px_I, px_w]
  unfold k_sx k_uf
  split
  · rw [px_I]; exact e
  · exact e
theorem k_sx_n {L : c_L} {K : c_S} {p q q' : Nat} {t : Int32} (h : q ≠ q') : p_k (k_sx L K p q t) q' = p_k K q' ∧ p_x (k_sx L K p q t) q' = p_x K q' := by
  have e : p_k (k_sr (k_rs L K q) q t) q' = p_k K q' ∧ p_x (k_sr (k_rs L K q) q t) q' = p_x K q' := by
    unfold k_sr k_rs c_fi
    exact ⟨by rw [pk_n h, pk_n h, pk_n h, pk_n h]; rfl, by rw [px_I, px_I, px_I, px_I, px_n (Or.inr h)]⟩
  unfold k_sx k_uf
  split
  · rw [pk_f (by decide), px_I]; exact e
  · exact e
theorem k_sx_RS {L L' : c_L} {Z : z_C} {R : r_S} {K : c_S} {p q : Nat} {t : Int32} : RS L Z (k_sx L' K p q t) R = RS L Z K R := by
  have e : RS L Z (k_sr (k_rs L' K q) q t) R = RS L Z K R := by
    rw [k_sr_RS]
    unfold RS k_rs c_fi
    simp (disch := decide) only [CQ_I, CQ_A, CQ_G, CQ_P, CQ_J, CQ_i, CQ_a, CQ_z, CT_I, CT_A, CT_G, CT_P, CT_J, CT_i, CT_a, CT_z, CC_I, CC_A, CC_G, CC_P, CC_J, CC_i, CC_a, CC_z, CM_I, CM_A, CM_G, CM_P, CM_J, CM_i, CM_a, CM_z, NM_I, NM_A, NM_G, NM_P, NM_J, NM_i, NM_a, NM_z, TH_I, TH_A, TH_G, TH_P, TH_J, TH_i, TH_a, TH_z, CH_I, CH_A, CH_G, CH_P, CH_J, CH_i, CH_a, CH_z, IN_I, IN_A, IN_G, IN_P, IN_J, IN_i, IN_a, IN_z, ME_I, ME_A, ME_G, ME_P, ME_J, ME_i, ME_a, ME_z, JR_I, JR_A, JR_G, JR_P, JR_J, JR_i, JR_a, JR_z, GL_I, GL_A, GL_G, GL_P, GL_J, GL_i, GL_a, GL_z, TX_I, TX_A, TX_G, TX_P, TX_J, TX_i, TX_a, TX_z, PD_I, PD_A, PD_G, PD_P, PD_J, PD_i, PD_a, PD_z, JB_i, JB_a, JB_z]
  unfold k_sx k_uf
  split
  · rw [← e]
    unfold RS
    simp (disch := decide) only [CQ_I, CQ_A, CQ_G, CQ_P, CQ_J, CQ_i, CQ_a, CQ_z, CT_I, CT_A, CT_G, CT_P, CT_J, CT_i, CT_a, CT_z, CC_I, CC_A, CC_G, CC_P, CC_J, CC_i, CC_a, CC_z, CM_I, CM_A, CM_G, CM_P, CM_J, CM_i, CM_a, CM_z, NM_I, NM_A, NM_G, NM_P, NM_J, NM_i, NM_a, NM_z, TH_I, TH_A, TH_G, TH_P, TH_J, TH_i, TH_a, TH_z, CH_I, CH_A, CH_G, CH_P, CH_J, CH_i, CH_a, CH_z, IN_I, IN_A, IN_G, IN_P, IN_J, IN_i, IN_a, IN_z, ME_I, ME_A, ME_G, ME_P, ME_J, ME_i, ME_a, ME_z, JR_I, JR_A, JR_G, JR_P, JR_J, JR_i, JR_a, JR_z, GL_I, GL_A, GL_G, GL_P, GL_J, GL_i, GL_a, GL_z, TX_I, TX_A, TX_G, TX_P, TX_J, TX_i, TX_a, TX_z, PD_I, PD_A, PD_G, PD_P, PD_J, PD_i, PD_a, PD_z, JB_i, JB_a, JB_z]
  · exact e
theorem k_sx_lo {L : c_L} {K : c_S} {p q p' : Nat} {t : Int32} : c_I (k_sx L K p q t) 1015 p' = c_I K 1015 p' := by
  unfold k_sx k_uf
  split
  · rfl
  · rfl
theorem r_s2_r {R : r_S} {q : Nat} {t : Int32} : p_r (r_s2 R q t) q = qs_1 (qs_1 (qs_1 (qs_1 (qs_1 (p_r R q) 1 (r_A R 2436 q)) 8 0) 6 t) 3 (if r_A R 2439 q ≤ 0 then 0 else 1)) 4 (t + r_A R 2439 q) := by
  unfold r_s2 r_s1
  rw [pr_w4, pr_w3, pr_w6, pr_w8, pr_w1, pr_z]
theorem r_s2_y {R : r_S} {q : Nat} {t : Int32} : p_y (r_s2 R q t) q = fun _ => 0 := by
  unfold r_s2 r_s1
  rw [py_f (by decide), py_f (by decide), py_f (by decide), py_f (by decide), py_f (by decide), py_z]
theorem r_s2_n {R : r_S} {q q' : Nat} {t : Int32} (h : q ≠ q') : p_r (r_s2 R q t) q' = p_r R q' ∧ p_y (r_s2 R q t) q' = p_y R q' := by
  unfold r_s2 r_s1
  exact ⟨by rw [pr_n h, pr_n h, pr_n h, pr_n h, pr_n h, pr_z], by rw [py_f (by decide), py_f (by decide), py_f (by decide), py_f (by decide), py_f (by decide), py_zn h]⟩
theorem r_s2_RS {L : c_L} {Z : z_C} {K : c_S} {R : r_S} {q : Nat} {t : Int32} : RS L Z K (r_s2 R q t) = RS L Z K R := by
  unfold RS r_s2 r_s1
  simp (disch := decide) only [CQ_I, CQ_A, CQ_G, CQ_P, CQ_J, CQ_i, CQ_a, CQ_z, CT_I, CT_A, CT_G, CT_P, CT_J, CT_i, CT_a, CT_z, CC_I, CC_A, CC_G, CC_P, CC_J, CC_i, CC_a, CC_z, CM_I, CM_A, CM_G, CM_P, CM_J, CM_i, CM_a, CM_z, NM_I, NM_A, NM_G, NM_P, NM_J, NM_i, NM_a, NM_z, TH_I, TH_A, TH_G, TH_P, TH_J, TH_i, TH_a, TH_z, CH_I, CH_A, CH_G, CH_P, CH_J, CH_i, CH_a, CH_z, IN_I, IN_A, IN_G, IN_P, IN_J, IN_i, IN_a, IN_z, ME_I, ME_A, ME_G, ME_P, ME_J, ME_i, ME_a, ME_z, JR_I, JR_A, JR_G, JR_P, JR_J, JR_i, JR_a, JR_z, GL_I, GL_A, GL_G, GL_P, GL_J, GL_i, GL_a, GL_z, TX_I, TX_A, TX_G, TX_P, TX_J, TX_i, TX_a, TX_z, PD_I, PD_A, PD_G, PD_P, PD_J, PD_i, PD_a, PD_z, JB_i, JB_a, JB_z]
theorem r_s2_JB {b : Nat} {R : r_S} {q : Nat} {t : Int32} : JB b (r_s2 R q t) = JB b R := by
  unfold r_s2 r_s1
  simp (disch := decide) only [CQ_I, CQ_A, CQ_G, CQ_P, CQ_J, CQ_i, CQ_a, CQ_z, CT_I, CT_A, CT_G, CT_P, CT_J, CT_i, CT_a, CT_z, CC_I, CC_A, CC_G, CC_P, CC_J, CC_i, CC_a, CC_z, CM_I, CM_A, CM_G, CM_P, CM_J, CM_i, CM_a, CM_z, NM_I, NM_A, NM_G, NM_P, NM_J, NM_i, NM_a, NM_z, TH_I, TH_A, TH_G, TH_P, TH_J, TH_i, TH_a, TH_z, CH_I, CH_A, CH_G, CH_P, CH_J, CH_i, CH_a, CH_z, IN_I, IN_A, IN_G, IN_P, IN_J, IN_i, IN_a, IN_z, ME_I, ME_A, ME_G, ME_P, ME_J, ME_i, ME_a, ME_z, JR_I, JR_A, JR_G, JR_P, JR_J, JR_i, JR_a, JR_z, GL_I, GL_A, GL_G, GL_P, GL_J, GL_i, GL_a, GL_z, TX_I, TX_A, TX_G, TX_P, TX_J, TX_i, TX_a, TX_z, PD_I, PD_A, PD_G, PD_P, PD_J, PD_i, PD_a, PD_z, JB_i, JB_a, JB_z]
theorem r_rdy_RS {L : c_L} {Z : z_C} {K : c_S} {R : r_S} {q : Nat} : RS L Z K (r_rdy R q) = RS L Z K R := by
  unfold RS r_rdy
  simp (disch := decide) only [CQ_I, CQ_A, CQ_G, CQ_P, CQ_J, CQ_i, CQ_a, CQ_z, CT_I, CT_A, CT_G, CT_P, CT_J, CT_i, CT_a, CT_z, CC_I, CC_A, CC_G, CC_P, CC_J, CC_i, CC_a, CC_z, CM_I, CM_A, CM_G, CM_P, CM_J, CM_i, CM_a, CM_z, NM_I, NM_A, NM_G, NM_P, NM_J, NM_i, NM_a, NM_z, TH_I, TH_A, TH_G, TH_P, TH_J, TH_i, TH_a, TH_z, CH_I, CH_A, CH_G, CH_P, CH_J, CH_i, CH_a, CH_z, IN_I, IN_A, IN_G, IN_P, IN_J, IN_i, IN_a, IN_z, ME_I, ME_A, ME_G, ME_P, ME_J, ME_i, ME_a, ME_z, JR_I, JR_A, JR_G, JR_P, JR_J, JR_i, JR_a, JR_z, GL_I, GL_A, GL_G, GL_P, GL_J, GL_i, GL_a, GL_z, TX_I, TX_A, TX_G, TX_P, TX_J, TX_i, TX_a, TX_z, PD_I, PD_A, PD_G, PD_P, PD_J, PD_i, PD_a, PD_z, JB_i, JB_a, JB_z]
theorem k_rdy_RS {L : c_L} {Z : z_C} {K : c_S} {R : r_S} {p q : Nat} : RS L Z (k_rdy K p q) R = RS L Z K R := by
  unfold RS k_rdy
  simp (disch := decide) only [CQ_I, CQ_A, CQ_G, CQ_P, CQ_J, CQ_i, CQ_a, CQ_z, CT_I, CT_A, CT_G, CT_P, CT_J, CT_i, CT_a, CT_z, CC_I, CC_A, CC_G, CC_P, CC_J, CC_i, CC_a, CC_z, CM_I, CM_A, CM_G, CM_P, CM_J, CM_i, CM_a, CM_z, NM_I, NM_A, NM_G, NM_P, NM_J, NM_i, NM_a, NM_z, TH_I, TH_A, TH_G, TH_P, TH_J, TH_i, TH_a, TH_z, CH_I, CH_A, CH_G, CH_P, CH_J, CH_i, CH_a, CH_z, IN_I, IN_A, IN_G, IN_P, IN_J, IN_i, IN_a, IN_z, ME_I, ME_A, ME_G, ME_P, ME_J, ME_i, ME_a, ME_z, JR_I, JR_A, JR_G, JR_P, JR_J, JR_i, JR_a, JR_z, GL_I, GL_A, GL_G, GL_P, GL_J, GL_i, GL_a, GL_z, TX_I, TX_A, TX_G, TX_P, TX_J, TX_i, TX_a, TX_z, PD_I, PD_A, PD_G, PD_P, PD_J, PD_i, PD_a, PD_z, JB_i, JB_a, JB_z]
theorem r_s2_d {R : r_S} {q q' : Nat} {t : Int32} : r_A (r_s2 R q t) 2439 q' = r_A R 2439 q' ∧ r_A (r_s2 R q t) 2448 q' = r_A R 2448 q' ∧ r_A (r_s2 R q t) 2450 q' = r_A R 2450 q' := by
  unfold r_s2 r_s1
  exact ⟨(show r_A (r_z R q 32) 2439 q' = _ from rz_f (by decide)), (show r_A (r_z R q 32) 2448 q' = _ from rz_f (by decide)), (show r_A (r_z R q 32) 2450 q' = _ from rz_f (by decide))⟩
/-- the ready end of a start -/
theorem W0_st1 {b : Nat} {L : c_L} {Z : z_C} {K : c_S} {R : r_S} {p j : Nat} {t : Int32} (h : W0 b L Z K R) (hb : b < 2000000000) (hp : p < z_np Z) (hj : j < z_nq Z p) (h0 : 0 ≤ t.toInt) (ht : t.toInt ≤ (r_I R 2463).toInt) : W0 (b + 1) L Z (k_rdy (k_sx L K p (16 * p + j) t) p (16 * p + j)) (r_rdy (r_s2 R (16 * p + j) t) (16 * p + j)) := by
  have hpr := h.2.1.1 p hp j hj
  have hti := h.2.2.2.1.2 p hp j hj
  have htm := h.2.2.2.1.1
  have hcq := CQ_q h.1.1.1 hp hj
  have hce := CQ_e h.1.1.1 hp hj
  have hcb := CQ_b h.1.1.1 hp hj
  have ed := i_add (x := t) (y := r_A R 2439 (16 * p + j)) h0 hcb.2.1.1 (by omega)
  have elo : c_I (k_rdy (k_sx L K p (16 * p + j) t) p (16 * p + j)) 1015 p = c_I K 1015 p + 1 := by
    unfold k_rdy
    exact (show _ = _ from c_Is).trans (by rw [k_sx_lo])
  have est : r_I (r_rdy (r_s2 R (16 * p + j) t) (16 * p + j)) 2464 = r_I R 2464 + 1 := by unfold r_rdy; rw [r_IA, r_Is]; rfl
  have e0 : p_r (r_rdy (r_s2 R (16 * p + j) t) (16 * p + j)) (16 * p + j) 0 = 1 := by rw [r_rdy_r]; rfl
  have ex : EX (16 * p + j) K (k_rdy (k_sx L K p (16 * p + j) t) p (16 * p + j)) R (r_rdy (r_s2 R (16 * p + j) t) (16 * p + j)) := fun q' hq => by
    obtain ⟨a1, a2, a3, a4⟩ := EX_rdy (p := p) (K := k_sx L K p (16 * p + j) t) (R := r_s2 R (16 * p + j) t) q' hq
    obtain ⟨b1, b2⟩ := k_sx_n (L := L) (K := K) (p := p) (t := t) hq.symm
    obtain ⟨c1, c2⟩ := r_s2_n (R := R) (t := t) hq.symm
    exact ⟨a1.trans b1, a2.trans b2, a3.trans c1, a4.trans c2⟩
  refine W0_step h hb hp hj (by rw [k_rdy_RS, r_rdy_RS, k_sx_RS, r_s2_RS]) (by rw [JB_rdy, r_s2_JB]) ex ?_ (fun p' hp' => ?_) (Or.inr elo) (Or.inr est) (fun _ => ⟨elo, est, ?_, ?_⟩) (fun z => absurd (e0.symm.trans z.1) (by decide)) rfl (fun q => ?_) ?_
  · rw [k_rdy_k, r_rdy_r, r_rdy_y, show p_x (k_rdy (k_sx L K p (16 * p + j) t) p (16 * p + j)) (16 * p + j) = p_x (k_sx L K p (16 * p + j) t) (16 * p + j) from rfl, k_sx_k, k_sx_x, r_s2_r, r_s2_y]
    refine PRt_rdy ?_
    obtain ⟨⟨a1, a2, a3, a4, a5, a6, a7⟩, a8, ⟨a9, a9'⟩, a10, a11, a12, a13, a14, a15⟩ := hpr
    refine ⟨⟨a1, a2, hce.1, a4, a5, rfl, rfl⟩, fun i hi => ?_, ⟨?_, fun z => ?_⟩, a10, a11, a12, a13, Or.inl rfl, ?_⟩
    · simp only
      rw [if_pos (by omega)]
    · show (if c_I K 1405 (16 * p + j) ≤ 0 then -1 else t + c_I K 1405 (16 * p + j)) = (if (if r_A R 2439 (16 * p + j) ≤ 0 then (0 : Int32) else 1) = 0 then -1 else t + r_A R 2439 (16 * p + j))
      rw [hce.2.2.1]
      by_cases e : r_A R 2439 (16 * p + j) ≤ 0
      · rw [if_pos e, if_pos e, if_pos rfl]
      · rw [if_neg e, if_neg e, if_neg (by decide)]
    · show 0 ≤ (t + r_A R 2439 (16 * p + j)).toInt
      rw [ed]; omega
    · show (if r_A R 2439 (16 * p + j) ≤ 0 then (0 : Int32) else 1) = 0 ∨ (if r_A R 2439 (16 * p + j) ≤ 0 then (0 : Int32) else 1) = 1
      by_cases e : r_A R 2439 (16 * p + j) ≤ 0
      · rw [if_pos e]; exact Or.inl rfl
      · rw [if_neg e]; exact Or.inr rfl
  · unfold k_rdy
    exact (show _ = _ from lo_b hp').trans k_sx_lo
  · rw [k_rdy_k, k_sx_lo]; rfl
  · rw [r_rdy_r]; rfl
  · exact r_s2_d (R := R) (q := 16 * p + j) (t := t)
  · rw [r_rdy_r, r_s2_r]
    refine ⟨fun _ => ht, fun z => absurd z (by decide : ¬ (1 : Int32) = 2), ⟨h0, by show t.toInt ≤ _; omega⟩, fun z => ?_, fun _ => ?_, fun z => absurd z (by decide : ¬ (1 : Int32) = 2)⟩
    · show (if r_A R 2439 (16 * p + j) ≤ 0 then (0 : Int32) else 1) = 0
      rw [if_pos (i_le0.mpr z)]
    · show t.toInt ≤ (t + r_A R 2439 (16 * p + j)).toInt
      rw [ed]; omega
def r_sw (R : r_S) (q : Nat) (t : Int32) : r_S := rs_A (rs_A (r_rdy (r_s2 R q t) q) 2467 q 2) 2472 q t
theorem r_sw_r {R : r_S} {q : Nat} {t : Int32} : p_r (r_sw R q t) q = qs_1 (qs_1 (p_r (r_rdy (r_s2 R q t) q) q) 0 2) 5 t := by
  unfold r_sw
  rw [pr_w5, pr_w0]
theorem W0_st2 {b : Nat} {L : c_L} {Z : z_C} {K : c_S} {R : r_S} {p j : Nat} {t : Int32} (h : W0 b L Z K R) (hb : b < 2000000000) (hp : p < z_np Z) (hj : j < z_nq Z p) (h0 : 0 ≤ t.toInt) (ht : t.toInt ≤ (r_I R 2463).toInt + 100000) : W0 (b + 1) L Z (k_wt (k_sx L K p (16 * p + j) t) p (16 * p + j) 128 t) (r_sw R (16 * p + j) t) := by
  have hpr := h.2.1.1 p hp j hj
  have hti := h.2.2.2.1.2 p hp j hj
  have htm := h.2.2.2.1.1
  have hcq := CQ_q h.1.1.1 hp hj
  have hce := CQ_e h.1.1.1 hp hj
  have hcb := CQ_b h.1.1.1 hp hj
  have ed := i_add (x := t) (y := r_A R 2439 (16 * p + j)) h0 hcb.2.1.1 (by omega)
  have elo : c_I (k_wt (k_sx L K p (16 * p + j) t) p (16 * p + j) 128 t) 1015 p = c_I K 1015 p + 1 := by
    unfold k_wt
    exact (show _ = _ from c_Is).trans (by rw [k_sx_lo])
  have est : r_I (r_sw R (16 * p + j) t) 2464 = r_I R 2464 + 1 := by unfold r_sw r_rdy; rw [r_IA, r_IA, r_IA, r_Is]; rfl
  have e0 : p_r (r_sw R (16 * p + j) t) (16 * p + j) 0 = 2 := by rw [r_sw_r]; rfl
  have e11 : p_r (r_sw R (16 * p + j) t) (16 * p + j) 11 = 0 := by rw [r_sw_r, r_rdy_r]; rfl
  have ex : EX (16 * p + j) K (k_wt (k_sx L K p (16 * p + j) t) p (16 * p + j) 128 t) R (r_sw R (16 * p + j) t) := fun q' hq => by
    obtain ⟨a1, a2, a3, a4⟩ := EX_rdy (p := p) (K := k_sx L K p (16 * p + j) t) (R := r_s2 R (16 * p + j) t) q' hq
    obtain ⟨b1, b2⟩ := k_sx_n (L := L) (K := K) (p := p) (t := t) hq.symm
    obtain ⟨c1, c2⟩ := r_s2_n (R := R) (t := t) hq.symm
    refine ⟨(k_wt_n hq.symm).trans b1, k_wt_x.trans b2, ?_, ?_⟩
    · unfold r_sw
      rw [pr_n hq.symm, pr_n hq.symm, a3, c1]
    · unfold r_sw
      rw [py_f (by decide), py_f (by decide), a4, c2]
  have ers : RS L Z (k_wt (k_sx L K p (16 * p + j) t) p (16 * p + j) 128 t) (r_sw R (16 * p + j) t) = RS L Z K R := by
    rw [k_wt_RS, k_sx_RS]
    have e : RS L Z K (r_sw R (16 * p + j) t) = RS L Z K (r_rdy (r_s2 R (16 * p + j) t) (16 * p + j)) := by
      unfold RS r_sw
      simp (disch := decide) only [CQ_I, CQ_A, CQ_G, CQ_P, CQ_J, CQ_i, CQ_a, CQ_z, CT_I, CT_A, CT_G, CT_P, CT_J, CT_i, CT_a, CT_z, CC_I, CC_A, CC_G, CC_P, CC_J, CC_i, CC_a, CC_z, CM_I, CM_A, CM_G, CM_P, CM_J, CM_i, CM_a, CM_z, NM_I, NM_A, NM_G, NM_P, NM_J, NM_i, NM_a, NM_z, TH_I, TH_A, TH_G, TH_P, TH_J, TH_i, TH_a, TH_z, CH_I, CH_A, CH_G, CH_P, CH_J, CH_i, CH_a, CH_z, IN_I, IN_A, IN_G, IN_P, IN_J, IN_i, IN_a, IN_z, ME_I, ME_A, ME_G, ME_P, ME_J, ME_i, ME_a, ME_z, JR_I, JR_A, JR_G, JR_P, JR_J, JR_i, JR_a, JR_z, GL_I, GL_A, GL_G, GL_P, GL_J, GL_i, GL_a, GL_z, TX_I, TX_A, TX_G, TX_P, TX_J, TX_i, TX_a, TX_z, PD_I, PD_A, PD_G, PD_P, PD_J, PD_i, PD_a, PD_z, JB_i, JB_a, JB_z]
    rw [e, r_rdy_RS, r_s2_RS]
  have ejb : JB b (r_sw R (16 * p + j) t) = JB b R := by
    have e : JB b (r_sw R (16 * p + j) t) = JB b (r_rdy (r_s2 R (16 * p + j) t) (16 * p + j)) := by
      unfold r_sw
      simp (disch := decide) only [CQ_I, CQ_A, CQ_G, CQ_P, CQ_J, CQ_i, CQ_a, CQ_z, CT_I, CT_A, CT_G, CT_P, CT_J, CT_i, CT_a, CT_z, CC_I, CC_A, CC_G, CC_P, CC_J, CC_i, CC_a, CC_z, CM_I, CM_A, CM_G, CM_P, CM_J, CM_i, CM_a, CM_z, NM_I, NM_A, NM_G, NM_P, NM_J, NM_i, NM_a, NM_z, TH_I, TH_A, TH_G, TH_P, TH_J, TH_i, TH_a, TH_z, CH_I, CH_A, CH_G, CH_P, CH_J, CH_i, CH_a, CH_z, IN_I, IN_A, IN_G, IN_P, IN_J, IN_i, IN_a, IN_z, ME_I, ME_A, ME_G, ME_P, ME_J, ME_i, ME_a, ME_z, JR_I, JR_A, JR_G, JR_P, JR_J, JR_i, JR_a, JR_z, GL_I, GL_A, GL_G, GL_P, GL_J, GL_i, GL_a, GL_z, TX_I, TX_A, TX_G, TX_P, TX_J, TX_i, TX_a, TX_z, PD_I, PD_A, PD_G, PD_P, PD_J, PD_i, PD_a, PD_z, JB_i, JB_a, JB_z]
    rw [e, JB_rdy, r_s2_JB]
  have ey : p_y (r_sw R (16 * p + j) t) (16 * p + j) = fun _ => 0 := by
    unfold r_sw
    rw [py_f (by decide), py_f (by decide), r_rdy_y, r_s2_y]
  refine W0_step h hb hp hj ers ejb ex ?_ (fun p' hp' => ?_) (Or.inr elo) (Or.inr est) (fun z => ?_) (fun z => absurd e11 z.2) rfl (fun q => ?_) ?_
  · rw [k_wt_x, ey, k_wt_k, k_sx_x, k_sx_k, r_sw_r, r_rdy_r, r_s2_r]
    obtain ⟨⟨a1, a2, a3, a4, a5, a6, a7⟩, a8, ⟨a9, a9'⟩, a10, a11, a12, a13, a14, a15⟩ := hpr
    refine ⟨⟨a1, rfl, hce.1, rfl, a5, rfl, rfl⟩, fun i hi => ?_, ⟨?_, fun z => ?_⟩, ?_, fun _ z => ?_, Or.inr (Or.inr (Or.inl rfl)), fun _ => rfl, Or.inl rfl, ?_⟩
    · simp only
      rw [if_pos (by omega)]
    · show (if c_I K 1405 (16 * p + j) ≤ 0 then -1 else t + c_I K 1405 (16 * p + j)) = (if (if r_A R 2439 (16 * p + j) ≤ 0 then (0 : Int32) else 1) = 0 then -1 else t + r_A R 2439 (16 * p + j))
      rw [hce.2.2.1]
      by_cases e : r_A R 2439 (16 * p + j) ≤ 0
      · rw [if_pos e, if_pos e, if_pos rfl]
      · rw [if_neg e, if_neg e, if_neg (by decide)]
    · show 0 ≤ (t + r_A R 2439 (16 * p + j)).toInt
      rw [ed]; omega
    · refine Eq.symm ((if_pos ?_).trans ?_)
      · rfl
      · exact if_pos rfl
    · exact absurd z (by decide : ¬ ((0 : Int32) = 4 ∨ (0 : Int32) = 7))
    · show (if r_A R 2439 (16 * p + j) ≤ 0 then (0 : Int32) else 1) = 0 ∨ (if r_A R 2439 (16 * p + j) ≤ 0 then (0 : Int32) else 1) = 1
      by_cases e : r_A R 2439 (16 * p + j) ≤ 0
      · rw [if_pos e]; exact Or.inl rfl
      · rw [if_neg e]; exact Or.inr rfl
  · unfold k_wt
    exact (show _ = _ from lo_b hp').trans k_sx_lo
  · exact absurd (e0.symm.trans z) (by decide)
  · unfold r_sw r_rdy
    exact r_s2_d (R := R) (q := 16 * p + j) (t := t)
  · rw [r_sw_r, r_rdy_r, r_s2_r]
    refine ⟨fun z => absurd z (by decide : ¬ ((2 : Int32) = 1 ∨ (2 : Int32) = 3)), fun _ => Or.inr ⟨rfl, Int.le_refl _⟩, ⟨h0, ht⟩, fun z => ?_, fun _ => ?_, fun _ => Or.inl rfl⟩
    · show (if r_A R 2439 (16 * p + j) ≤ 0 then (0 : Int32) else 1) = 0
      rw [if_pos (i_le0.mpr z)]
    · show t.toInt ≤ (t + r_A R 2439 (16 * p + j)).toInt
      rw [ed]; omega
