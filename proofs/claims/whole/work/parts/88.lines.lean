/-! What the small steps do to the lines of the process, and what they leave alone. -/
theorem m_IA {l : List Nat} {K : c_S} {f i j : Nat} {v : Int32} : m_I l (cs_A K f i j v) = m_I l K := rfl
theorem n_AI {l : List Nat} {R : r_S} {f : Nat} {v : Int32} : n_A l (rs_I R f v) = n_A l R := rfl
theorem k_wt_n {K : c_S} {p q : Nat} {a c : Int32} {q' : Nat} (h : q ≠ q') : p_k (k_wt K p q a c) q' = p_k K q' := by
  unfold k_wt
  rw [pk_n h, pk_f (by decide), pk_n h, pk_n h, pk_n h]
theorem k_wt_k {K : c_S} {p q : Nat} {a c : Int32} : p_k (k_wt K p q a c) q = qs_1 (qs_1 (qs_1 (qs_1 (p_k K q) 9 (2)) 18 (a)) 13 (c)) 17 ((c_I K 1015 p + 1)) := by
  unfold k_wt
  rw [pk_w17, pk_f (by decide), pk_w13, pk_w18, pk_w9]
theorem k_wt_x {K : c_S} {p q : Nat} {a c : Int32} {q' : Nat} : p_x (k_wt K p q a c) q' = p_x K q' := by
  unfold k_wt
  rfl
theorem k_wt_RS {L : c_L} {Z : z_C} {R : r_S} {K : c_S} {p q : Nat} {a c : Int32} : RS L Z (k_wt K p q a c) R = RS L Z K R := by
  unfold RS k_wt
  simp (disch := decide) only [CQ_I, CQ_A, CQ_G, CQ_P, CQ_J, CQ_i, CQ_a, CQ_z, CT_I, CT_A, CT_G, CT_P, CT_J, CT_i, CT_a, CT_z, CC_I, CC_A, CC_G, CC_P, CC_J, CC_i, CC_a, CC_z, CM_I, CM_A, CM_G, CM_P, CM_J, CM_i, CM_a, CM_z, NM_I, NM_A, NM_G, NM_P, NM_J, NM_i, NM_a, NM_z, TH_I, TH_A, TH_G, TH_P, TH_J, TH_i, TH_a, TH_z, CH_I, CH_A, CH_G, CH_P, CH_J, CH_i, CH_a, CH_z, IN_I, IN_A, IN_G, IN_P, IN_J, IN_i, IN_a, IN_z, ME_I, ME_A, ME_G, ME_P, ME_J, ME_i, ME_a, ME_z, JR_I, JR_A, JR_G, JR_P, JR_J, JR_i, JR_a, JR_z, GL_I, GL_A, GL_G, GL_P, GL_J, GL_i, GL_a, GL_z, TX_I, TX_A, TX_G, TX_P, TX_J, TX_i, TX_a, TX_z, PD_I, PD_A, PD_G, PD_P, PD_J, PD_i, PD_a, PD_z, JB_i, JB_a, JB_z]
theorem k_wt_PD {K : c_S} {p q : Nat} {a c : Int32} : m_I [1009, 1010, 1011, 1012, 1013, 1014, 1016, 1017, 1018] (k_wt K p q a c) = m_I [1009, 1010, 1011, 1012, 1013, 1014, 1016, 1017, 1018] K := by
  unfold k_wt
  rw [m_In (by decide), m_In (by decide), m_In (by decide), m_In (by decide), m_In (by decide)]
theorem k_bk_n {K : c_S} {p q : Nat} {q' : Nat} (h : q ≠ q') : p_k (k_bk K p q) q' = p_k K q' := by
  unfold k_bk
  rw [pk_n h, pk_f (by decide)]
theorem k_bk_k {K : c_S} {p q : Nat} : p_k (k_bk K p q) q = qs_1 (p_k K q) 17 ((c_I K 1015 p + 1)) := by
  unfold k_bk
  rw [pk_w17, pk_f (by decide)]
theorem k_bk_x {K : c_S} {p q : Nat} {q' : Nat} : p_x (k_bk K p q) q' = p_x K q' := by
  unfold k_bk
  rfl
theorem k_bk_RS {L : c_L} {Z : z_C} {R : r_S} {K : c_S} {p q : Nat} : RS L Z (k_bk K p q) R = RS L Z K R := by
  unfold RS k_bk
  simp (disch := decide) only [CQ_I, CQ_A, CQ_G, CQ_P, CQ_J, CQ_i, CQ_a, CQ_z, CT_I, CT_A, CT_G, CT_P, CT_J, CT_i, CT_a, CT_z, CC_I, CC_A, CC_G, CC_P, CC_J, CC_i, CC_a, CC_z, CM_I, CM_A, CM_G, CM_P, CM_J, CM_i, CM_a, CM_z, NM_I, NM_A, NM_G, NM_P, NM_J, NM_i, NM_a, NM_z, TH_I, TH_A, TH_G, TH_P, TH_J, TH_i, TH_a, TH_z, CH_I, CH_A, CH_G, CH_P, CH_J, CH_i, CH_a, CH_z, IN_I, IN_A, IN_G, IN_P, IN_J, IN_i, IN_a, IN_z, ME_I, ME_A, ME_G, ME_P, ME_J, ME_i, ME_a, ME_z, JR_I, JR_A, JR_G, JR_P, JR_J, JR_i, JR_a, JR_z, GL_I, GL_A, GL_G, GL_P, GL_J, GL_i, GL_a, GL_z, TX_I, TX_A, TX_G, TX_P, TX_J, TX_i, TX_a, TX_z, PD_I, PD_A, PD_G, PD_P, PD_J, PD_i, PD_a, PD_z, JB_i, JB_a, JB_z]
theorem k_bk_PD {K : c_S} {p q : Nat} : m_I [1009, 1010, 1011, 1012, 1013, 1014, 1016, 1017, 1018] (k_bk K p q) = m_I [1009, 1010, 1011, 1012, 1013, 1014, 1016, 1017, 1018] K := by
  unfold k_bk
  rw [m_In (by decide), m_In (by decide)]
theorem k_lv_n {K : c_S} {q : Nat} {s : Int32} {q' : Nat} (h : q ≠ q') : p_k (k_lv K q s) q' = p_k K q' := by
  unfold k_lv
  rw [pk_n h, pk_n h, pk_n h, pk_n h, pk_n h]
theorem k_lv_k {K : c_S} {q : Nat} {s : Int32} : p_k (k_lv K q s) q = qs_1 (qs_1 (qs_1 (qs_1 (qs_1 (p_k K q) 9 (s)) 12 ((if s = 0 then -1 else c_I K 1412 q))) 13 ((-1))) 18 ((-1))) 16 (0) := by
  unfold k_lv
  rw [pk_w16, pk_w18, pk_w13, pk_w12, pk_w9]
theorem k_lv_x {K : c_S} {q : Nat} {s : Int32} {q' : Nat} : p_x (k_lv K q s) q' = p_x K q' := by
  unfold k_lv
  rfl
theorem k_lv_RS {L : c_L} {Z : z_C} {R : r_S} {K : c_S} {q : Nat} {s : Int32} : RS L Z (k_lv K q s) R = RS L Z K R := by
  unfold RS k_lv
  simp (disch := decide) only [CQ_I, CQ_A, CQ_G, CQ_P, CQ_J, CQ_i, CQ_a, CQ_z, CT_I, CT_A, CT_G, CT_P, CT_J, CT_i, CT_a, CT_z, CC_I, CC_A, CC_G, CC_P, CC_J, CC_i, CC_a, CC_z, CM_I, CM_A, CM_G, CM_P, CM_J, CM_i, CM_a, CM_z, NM_I, NM_A, NM_G, NM_P, NM_J, NM_i, NM_a, NM_z, TH_I, TH_A, TH_G, TH_P, TH_J, TH_i, TH_a, TH_z, CH_I, CH_A, CH_G, CH_P, CH_J, CH_i, CH_a, CH_z, IN_I, IN_A, IN_G, IN_P, IN_J, IN_i, IN_a, IN_z, ME_I, ME_A, ME_G, ME_P, ME_J, ME_i, ME_a, ME_z, JR_I, JR_A, JR_G, JR_P, JR_J, JR_i, JR_a, JR_z, GL_I, GL_A, GL_G, GL_P, GL_J, GL_i, GL_a, GL_z, TX_I, TX_A, TX_G, TX_P, TX_J, TX_i, TX_a, TX_z, PD_I, PD_A, PD_G, PD_P, PD_J, PD_i, PD_a, PD_z, JB_i, JB_a, JB_z]
theorem k_lv_PD {K : c_S} {q : Nat} {s : Int32} : m_I [1009, 1010, 1011, 1012, 1013, 1014, 1016, 1017, 1018] (k_lv K q s) = m_I [1009, 1010, 1011, 1012, 1013, 1014, 1016, 1017, 1018] K := by
  unfold k_lv
  rw [m_In (by decide), m_In (by decide), m_In (by decide), m_In (by decide), m_In (by decide)]
theorem k_sr_n {K : c_S} {q : Nat} {t : Int32} {q' : Nat} (h : q ≠ q') : p_k (k_sr K q t) q' = p_k K q' := by
  unfold k_sr
  rw [pk_n h, pk_n h]
theorem k_sr_k {K : c_S} {q : Nat} {t : Int32} : p_k (k_sr K q t) q = qs_1 (qs_1 (p_k K q) 15 (t)) 12 ((if c_I K 1405 q ≤ 0 then -1 else t + c_I K 1405 q)) := by
  unfold k_sr
  rw [pk_w12, pk_w15]
theorem k_sr_x {K : c_S} {q : Nat} {t : Int32} {q' : Nat} : p_x (k_sr K q t) q' = p_x K q' := by
  unfold k_sr
  rfl
theorem k_sr_RS {L : c_L} {Z : z_C} {R : r_S} {K : c_S} {q : Nat} {t : Int32} : RS L Z (k_sr K q t) R = RS L Z K R := by
  unfold RS k_sr
  simp (disch := decide) only [CQ_I, CQ_A, CQ_G, CQ_P, CQ_J, CQ_i, CQ_a, CQ_z, CT_I, CT_A, CT_G, CT_P, CT_J, CT_i, CT_a, CT_z, CC_I, CC_A, CC_G, CC_P, CC_J, CC_i, CC_a, CC_z, CM_I, CM_A, CM_G, CM_P, CM_J, CM_i, CM_a, CM_z, NM_I, NM_A, NM_G, NM_P, NM_J, NM_i, NM_a, NM_z, TH_I, TH_A, TH_G, TH_P, TH_J, TH_i, TH_a, TH_z, CH_I, CH_A, CH_G, CH_P, CH_J, CH_i, CH_a, CH_z, IN_I, IN_A, IN_G, IN_P, IN_J, IN_i, IN_a, IN_z, ME_I, ME_A, ME_G, ME_P, ME_J, ME_i, ME_a, ME_z, JR_I, JR_A, JR_G, JR_P, JR_J, JR_i, JR_a, JR_z, GL_I, GL_A, GL_G, GL_P, GL_J, GL_i, GL_a, GL_z, TX_I, TX_A, TX_G, TX_P, TX_J, TX_i, TX_a, TX_z, PD_I, PD_A, PD_G, PD_P, PD_J, PD_i, PD_a, PD_z, JB_i, JB_a, JB_z]
theorem k_sr_PD {K : c_S} {q : Nat} {t : Int32} : m_I [1009, 1010, 1011, 1012, 1013, 1014, 1016, 1017, 1018] (k_sr K q t) = m_I [1009, 1010, 1011, 1012, 1013, 1014, 1016, 1017, 1018] K := by
  unfold k_sr
  rw [m_In (by decide), m_In (by decide)]
theorem r_wt_n {R : r_S} {q : Nat} {s th a : Int32} {q' : Nat} (h : q ≠ q') : p_r (r_wt R q s th a) q' = p_r R q' := by
  unfold r_wt
  rw [pr_n h, pr_I, pr_n h, pr_n h, pr_n h, pr_n h]
theorem r_wt_r {R : r_S} {q : Nat} {s th a : Int32} : p_r (r_wt R q s th a) q = qs_1 (qs_1 (qs_1 (qs_1 (qs_1 (p_r R q) 0 (2)) 11 (s)) 12 (th)) 5 (a)) 14 ((r_I R 2464 + 1)) := by
  unfold r_wt
  rw [pr_w14, pr_I, pr_w5, pr_w12, pr_w11, pr_w0]
theorem r_wt_y {R : r_S} {q : Nat} {s th a : Int32} {q' : Nat} : p_y (r_wt R q s th a) q' = p_y R q' := by
  unfold r_wt
  rw [py_f (by decide), py_I, py_f (by decide), py_f (by decide), py_f (by decide), py_f (by decide)]
theorem r_wt_RS {L : c_L} {Z : z_C} {K : c_S} {R : r_S} {q : Nat} {s th a : Int32} : RS L Z K (r_wt R q s th a) = RS L Z K R := by
  unfold RS r_wt
  simp (disch := decide) only [CQ_I, CQ_A, CQ_G, CQ_P, CQ_J, CQ_i, CQ_a, CQ_z, CT_I, CT_A, CT_G, CT_P, CT_J, CT_i, CT_a, CT_z, CC_I, CC_A, CC_G, CC_P, CC_J, CC_i, CC_a, CC_z, CM_I, CM_A, CM_G, CM_P, CM_J, CM_i, CM_a, CM_z, NM_I, NM_A, NM_G, NM_P, NM_J, NM_i, NM_a, NM_z, TH_I, TH_A, TH_G, TH_P, TH_J, TH_i, TH_a, TH_z, CH_I, CH_A, CH_G, CH_P, CH_J, CH_i, CH_a, CH_z, IN_I, IN_A, IN_G, IN_P, IN_J, IN_i, IN_a, IN_z, ME_I, ME_A, ME_G, ME_P, ME_J, ME_i, ME_a, ME_z, JR_I, JR_A, JR_G, JR_P, JR_J, JR_i, JR_a, JR_z, GL_I, GL_A, GL_G, GL_P, GL_J, GL_i, GL_a, GL_z, TX_I, TX_A, TX_G, TX_P, TX_J, TX_i, TX_a, TX_z, PD_I, PD_A, PD_G, PD_P, PD_J, PD_i, PD_a, PD_z, JB_i, JB_a, JB_z]
theorem r_wt_JB {b : Nat} {R : r_S} {q : Nat} {s th a : Int32} : JB b (r_wt R q s th a) = JB b R := by
  unfold r_wt
  simp (disch := decide) only [CQ_I, CQ_A, CQ_G, CQ_P, CQ_J, CQ_i, CQ_a, CQ_z, CT_I, CT_A, CT_G, CT_P, CT_J, CT_i, CT_a, CT_z, CC_I, CC_A, CC_G, CC_P, CC_J, CC_i, CC_a, CC_z, CM_I, CM_A, CM_G, CM_P, CM_J, CM_i, CM_a, CM_z, NM_I, NM_A, NM_G, NM_P, NM_J, NM_i, NM_a, NM_z, TH_I, TH_A, TH_G, TH_P, TH_J, TH_i, TH_a, TH_z, CH_I, CH_A, CH_G, CH_P, CH_J, CH_i, CH_a, CH_z, IN_I, IN_A, IN_G, IN_P, IN_J, IN_i, IN_a, IN_z, ME_I, ME_A, ME_G, ME_P, ME_J, ME_i, ME_a, ME_z, JR_I, JR_A, JR_G, JR_P, JR_J, JR_i, JR_a, JR_z, GL_I, GL_A, GL_G, GL_P, GL_J, GL_i, GL_a, GL_z, TX_I, TX_A, TX_G, TX_P, TX_J, TX_i, TX_a, TX_z, PD_I, PD_A, PD_G, PD_P, PD_J, PD_i, PD_a, PD_z, JB_i, JB_a, JB_z]
theorem r_wt_PD {R : r_S} {q : Nat} {s th a : Int32} : n_A [2483, 2484, 2485, 2486, 2487, 2488, 2489, 2490, 2491] (r_wt R q s th a) = n_A [2483, 2484, 2485, 2486, 2487, 2488, 2489, 2490, 2491] R := by
  unfold r_wt
  simp (disch := decide) only [n_An, n_AI]
theorem r_wu_n {R : r_S} {q : Nat} {a : Int32} {q' : Nat} (h : q ≠ q') : p_r (r_wu R q a) q' = p_r R q' := by
  unfold r_wu
  rw [pr_n h, pr_n h, pr_n h]
theorem r_wu_r {R : r_S} {q : Nat} {a : Int32} : p_r (r_wu R q a) q = qs_1 (qs_1 (qs_1 (p_r R q) 0 (2)) 11 (0)) 5 (a) := by
  unfold r_wu
  rw [pr_w5, pr_w11, pr_w0]
theorem r_wu_y {R : r_S} {q : Nat} {a : Int32} {q' : Nat} : p_y (r_wu R q a) q' = p_y R q' := by
  unfold r_wu
  rw [py_f (by decide), py_f (by decide), py_f (by decide)]
theorem r_wu_RS {L : c_L} {Z : z_C} {K : c_S} {R : r_S} {q : Nat} {a : Int32} : RS L Z K (r_wu R q a) = RS L Z K R := by
  unfold RS r_wu
  simp (disch := decide) only [CQ_I, CQ_A, CQ_G, CQ_P, CQ_J, CQ_i, CQ_a, CQ_z, CT_I, CT_A, CT_G, CT_P, CT_J, CT_i, CT_a, CT_z, CC_I, CC_A, CC_G, CC_P, CC_J, CC_i, CC_a, CC_z, CM_I, CM_A, CM_G, CM_P, CM_J, CM_i, CM_a, CM_z, NM_I, NM_A, NM_G, NM_P, NM_J, NM_i, NM_a, NM_z, TH_I, TH_A, TH_G, TH_P, TH_J, TH_i, TH_a, TH_z, CH_I, CH_A, CH_G, CH_P, CH_J, CH_i, CH_a, CH_z, IN_I, IN_A, IN_G, IN_P, IN_J, IN_i, IN_a, IN_z, ME_I, ME_A, ME_G, ME_P, ME_J, ME_i, ME_a, ME_z, JR_I, JR_A, JR_G, JR_P, JR_J, JR_i, JR_a, JR_z, GL_I, GL_A, GL_G, GL_P, GL_J, GL_i, GL_a, GL_z, TX_I, TX_A, TX_G, TX_P, TX_J, TX_i, TX_a, TX_z, PD_I, PD_A, PD_G, PD_P, PD_J, PD_i, PD_a, PD_z, JB_i, JB_a, JB_z]
theorem r_wu_JB {b : Nat} {R : r_S} {q : Nat} {a : Int32} : JB b (r_wu R q a) = JB b R := by
  unfold r_wu
  simp (disch := decide) only [CQ_I, CQ_A, CQ_G, CQ_P, CQ_J, CQ_i, CQ_a, CQ_z, CT_I, CT_A, CT_G, CT_P, CT_J, CT_i, CT_a, CT_z, CC_I, CC_A, CC_G, CC_P, CC_J, CC_i, CC_a, CC_z, CM_I, CM_A, CM_G, CM_P, CM_J, CM_i, CM_a, CM_z, NM_I, NM_A, NM_G, NM_P, NM_J, NM_i, NM_a, NM_z, TH_I, TH_A, TH_G, TH_P, TH_J, TH_i, TH_a, TH_z, CH_I, CH_A, CH_G, CH_P, CH_J, CH_i, CH_a, CH_z, IN_I, IN_A, IN_G, IN_P, IN_J, IN_i, IN_a, IN_z, ME_I, ME_A, ME_G, ME_P, ME_J, ME_i, ME_a, ME_z, JR_I, JR_A, JR_G, JR_P, JR_J, JR_i, JR_a, JR_z, GL_I, GL_A, GL_G, GL_P, GL_J, GL_i, GL_a, GL_z, TX_I, TX_A, TX_G, TX_P, TX_J, TX_i, TX_a, TX_z, PD_I, PD_A, PD_G, PD_P, PD_J, PD_i, PD_a, PD_z, JB_i, JB_a, JB_z]
theorem r_wu_PD {R : r_S} {q : Nat} {a : Int32} : n_A [2483, 2484, 2485, 2486, 2487, 2488, 2489, 2490, 2491] (r_wu R q a) = n_A [2483, 2484, 2485, 2486, 2487, 2488, 2489, 2490, 2491] R := by
  unfold r_wu
  simp (disch := decide) only [n_An, n_AI]
theorem r_sl_n {R : r_S} {q : Nat} {q' : Nat} (h : q ≠ q') : p_r (r_sl R q) q' = p_r R q' := by
  unfold r_sl
  rw [pr_n h, pr_n h, pr_n h, pr_n h, pr_n h]
theorem r_sl_r {R : r_S} {q : Nat} : p_r (r_sl R q) q = qs_1 (qs_1 (qs_1 (qs_1 (qs_1 (p_r R q) 0 (0)) 5 ((-1))) 11 (0)) 8 (0)) 3 (0) := by
  unfold r_sl
  rw [pr_w3, pr_w8, pr_w11, pr_w5, pr_w0]
theorem r_sl_y {R : r_S} {q : Nat} {q' : Nat} : p_y (r_sl R q) q' = p_y R q' := by
  unfold r_sl
  rw [py_f (by decide), py_f (by decide), py_f (by decide), py_f (by decide), py_f (by decide)]
theorem r_sl_RS {L : c_L} {Z : z_C} {K : c_S} {R : r_S} {q : Nat} : RS L Z K (r_sl R q) = RS L Z K R := by
  unfold RS r_sl
  simp (disch := decide) only [CQ_I, CQ_A, CQ_G, CQ_P, CQ_J, CQ_i, CQ_a, CQ_z, CT_I, CT_A, CT_G, CT_P, CT_J, CT_i, CT_a, CT_z, CC_I, CC_A, CC_G, CC_P, CC_J, CC_i, CC_a, CC_z, CM_I, CM_A, CM_G, CM_P, CM_J, CM_i, CM_a, CM_z, NM_I, NM_A, NM_G, NM_P, NM_J, NM_i, NM_a, NM_z, TH_I, TH_A, TH_G, TH_P, TH_J, TH_i, TH_a, TH_z, CH_I, CH_A, CH_G, CH_P, CH_J, CH_i, CH_a, CH_z, IN_I, IN_A, IN_G, IN_P, IN_J, IN_i, IN_a, IN_z, ME_I, ME_A, ME_G, ME_P, ME_J, ME_i, ME_a, ME_z, JR_I, JR_A, JR_G, JR_P, JR_J, JR_i, JR_a, JR_z, GL_I, GL_A, GL_G, GL_P, GL_J, GL_i, GL_a, GL_z, TX_I, TX_A, TX_G, TX_P, TX_J, TX_i, TX_a, TX_z, PD_I, PD_A, PD_G, PD_P, PD_J, PD_i, PD_a, PD_z, JB_i, JB_a, JB_z]
theorem r_sl_JB {b : Nat} {R : r_S} {q : Nat} : JB b (r_sl R q) = JB b R := by
  unfold r_sl
  simp (disch := decide) only [CQ_I, CQ_A, CQ_G, CQ_P, CQ_J, CQ_i, CQ_a, CQ_z, CT_I, CT_A, CT_G, CT_P, CT_J, CT_i, CT_a, CT_z, CC_I, CC_A, CC_G, CC_P, CC_J, CC_i, CC_a, CC_z, CM_I, CM_A, CM_G, CM_P, CM_J, CM_i, CM_a, CM_z, NM_I, NM_A, NM_G, NM_P, NM_J, NM_i, NM_a, NM_z, TH_I, TH_A, TH_G, TH_P, TH_J, TH_i, TH_a, TH_z, CH_I, CH_A, CH_G, CH_P, CH_J, CH_i, CH_a, CH_z, IN_I, IN_A, IN_G, IN_P, IN_J, IN_i, IN_a, IN_z, ME_I, ME_A, ME_G, ME_P, ME_J, ME_i, ME_a, ME_z, JR_I, JR_A, JR_G, JR_P, JR_J, JR_i, JR_a, JR_z, GL_I, GL_A, GL_G, GL_P, GL_J, GL_i, GL_a, GL_z, TX_I, TX_A, TX_G, TX_P, TX_J, TX_i, TX_a, TX_z, PD_I, PD_A, PD_G, PD_P, PD_J, PD_i, PD_a, PD_z, JB_i, JB_a, JB_z]
theorem r_sl_PD {R : r_S} {q : Nat} : n_A [2483, 2484, 2485, 2486, 2487, 2488, 2489, 2490, 2491] (r_sl R q) = n_A [2483, 2484, 2485, 2486, 2487, 2488, 2489, 2490, 2491] R := by
  unfold r_sl
  simp (disch := decide) only [n_An, n_AI]
def r_f3 (R : r_S) (q : Nat) : r_S := rs_A (rs_A (rs_A (rs_A R 2467 q 3) 2472 q (-1)) 2478 q 0) 2475 q 0
theorem r_f3_n {R : r_S} {q : Nat} {q' : Nat} (h : q ≠ q') : p_r (r_f3 R q) q' = p_r R q' := by
  unfold r_f3
  rw [pr_n h, pr_n h, pr_n h, pr_n h]
theorem r_f3_r {R : r_S} {q : Nat} : p_r (r_f3 R q) q = qs_1 (qs_1 (qs_1 (qs_1 (p_r R q) 0 (3)) 5 ((-1))) 11 (0)) 8 (0) := by
  unfold r_f3
  rw [pr_w8, pr_w11, pr_w5, pr_w0]
theorem r_f3_y {R : r_S} {q : Nat} {q' : Nat} : p_y (r_f3 R q) q' = p_y R q' := by
  unfold r_f3
  rw [py_f (by decide), py_f (by decide), py_f (by decide), py_f (by decide)]
theorem r_f3_RS {L : c_L} {Z : z_C} {K : c_S} {R : r_S} {q : Nat} : RS L Z K (r_f3 R q) = RS L Z K R := by
  unfold RS r_f3
  simp (disch := decide) only [CQ_I, CQ_A, CQ_G, CQ_P, CQ_J, CQ_i, CQ_a, CQ_z, CT_I, CT_A, CT_G, CT_P, CT_J, CT_i, CT_a, CT_z, CC_I, CC_A, CC_G, CC_P, CC_J, CC_i, CC_a, CC_z, CM_I, CM_A, CM_G, CM_P, CM_J, CM_i, CM_a, CM_z, NM_I, NM_A, NM_G, NM_P, NM_J, NM_i, NM_a, NM_z, TH_I, TH_A, TH_G, TH_P, TH_J, TH_i, TH_a, TH_z, CH_I, CH_A, CH_G, CH_P, CH_J, CH_i, CH_a, CH_z, IN_I, IN_A, IN_G, IN_P, IN_J, IN_i, IN_a, IN_z, ME_I, ME_A, ME_G, ME_P, ME_J, ME_i, ME_a, ME_z, JR_I, JR_A, JR_G, JR_P, JR_J, JR_i, JR_a, JR_z, GL_I, GL_A, GL_G, GL_P, GL_J, GL_i, GL_a, GL_z, TX_I, TX_A, TX_G, TX_P, TX_J, TX_i, TX_a, TX_z, PD_I, PD_A, PD_G, PD_P, PD_J, PD_i, PD_a, PD_z, JB_i, JB_a, JB_z]
theorem r_f3_JB {b : Nat} {R : r_S} {q : Nat} : JB b (r_f3 R q) = JB b R := by
  unfold r_f3
  simp (disch := decide) only [CQ_I, CQ_A, CQ_G, CQ_P, CQ_J, CQ_i, CQ_a, CQ_z, CT_I, CT_A, CT_G, CT_P, CT_J, CT_i, CT_a, CT_z, CC_I, CC_A, CC_G, CC_P, CC_J, CC_i, CC_a, CC_z, CM_I, CM_A, CM_G, CM_P, CM_J, CM_i, CM_a, CM_z, NM_I, NM_A, NM_G, NM_P, NM_J, NM_i, NM_a, NM_z, TH_I, TH_A, TH_G, TH_P, TH_J, TH_i, TH_a, TH_z, CH_I, CH_A, CH_G, CH_P, CH_J, CH_i, CH_a, CH_z, IN_I, IN_A, IN_G, IN_P, IN_J, IN_i, IN_a, IN_z, ME_I, ME_A, ME_G, ME_P, ME_J, ME_i, ME_a, ME_z, JR_I, JR_A, JR_G, JR_P, JR_J, JR_i, JR_a, JR_z, GL_I, GL_A, GL_G, GL_P, GL_J, GL_i, GL_a, GL_z, TX_I, TX_A, TX_G, TX_P, TX_J, TX_i, TX_a, TX_z, PD_I, PD_A, PD_G, PD_P, PD_J, PD_i, PD_a, PD_z, JB_i, JB_a, JB_z]
theorem r_f3_PD {R : r_S} {q : Nat} : n_A [2483, 2484, 2485, 2486, 2487, 2488, 2489, 2490, 2491] (r_f3 R q) = n_A [2483, 2484, 2485, 2486, 2487, 2488, 2489, 2490, 2491] R := by
  unfold r_f3
  simp (disch := decide) only [n_An, n_AI]
def r_bk (R : r_S) (q : Nat) : r_S := rs_A (rs_I R 2464 (r_I R 2464 + 1)) 2476 q (r_I R 2464 + 1)
theorem r_bk_n {R : r_S} {q : Nat} {q' : Nat} (h : q ≠ q') : p_r (r_bk R q) q' = p_r R q' := by
  unfold r_bk
  rw [pr_n h, pr_I]
theorem r_bk_r {R : r_S} {q : Nat} : p_r (r_bk R q) q = qs_1 (p_r R q) 9 ((r_I R 2464 + 1)) := by
  unfold r_bk
  rw [pr_w9, pr_I]
theorem r_bk_y {R : r_S} {q : Nat} {q' : Nat} : p_y (r_bk R q) q' = p_y R q' := by
  unfold r_bk
  rw [py_f (by decide), py_I]
theorem r_bk_RS {L : c_L} {Z : z_C} {K : c_S} {R : r_S} {q : Nat} : RS L Z K (r_bk R q) = RS L Z K R := by
  unfold RS r_bk
  simp (disch := decide) only [CQ_I, CQ_A, CQ_G, CQ_P, CQ_J, CQ_i, CQ_a, CQ_z, CT_I, CT_A, CT_G, CT_P, CT_J, CT_i, CT_a, CT_z, CC_I, CC_A, CC_G, CC_P, CC_J, CC_i, CC_a, CC_z, CM_I, CM_A, CM_G, CM_P, CM_J, CM_i, CM_a, CM_z, NM_I, NM_A, NM_G, NM_P, NM_J, NM_i, NM_a, NM_z, TH_I, TH_A, TH_G, TH_P, TH_J, TH_i, TH_a, TH_z, CH_I, CH_A, CH_G, CH_P, CH_J, CH_i, CH_a, CH_z, IN_I, IN_A, IN_G, IN_P, IN_J, IN_i, IN_a, IN_z, ME_I, ME_A, ME_G, ME_P, ME_J, ME_i, ME_a, ME_z, JR_I, JR_A, JR_G, JR_P, JR_J, JR_i, JR_a, JR_z, GL_I, GL_A, GL_G, GL_P, GL_J, GL_i, GL_a, GL_z, TX_I, TX_A, TX_G, TX_P, TX_J, TX_i, TX_a, TX_z, PD_I, PD_A, PD_G, PD_P, PD_J, PD_i, PD_a, PD_z, JB_i, JB_a, JB_z]
theorem r_bk_JB {b : Nat} {R : r_S} {q : Nat} : JB b (r_bk R q) = JB b R := by
  unfold r_bk
  simp (disch := decide) only [CQ_I, CQ_A, CQ_G, CQ_P, CQ_J, CQ_i, CQ_a, CQ_z, CT_I, CT_A, CT_G, CT_P, CT_J, CT_i, CT_a, CT_z, CC_I, CC_A, CC_G, CC_P, CC_J, CC_i, CC_a, CC_z, CM_I, CM_A, CM_G, CM_P, CM_J, CM_i, CM_a, CM_z, NM_I, NM_A, NM_G, NM_P, NM_J, NM_i, NM_a, NM_z, TH_I, TH_A, TH_G, TH_P, TH_J, TH_i, TH_a, TH_z, CH_I, CH_A, CH_G, CH_P, CH_J, CH_i, CH_a, CH_z, IN_I, IN_A, IN_G, IN_P, IN_J, IN_i, IN_a, IN_z, ME_I, ME_A, ME_G, ME_P, ME_J, ME_i, ME_a, ME_z, JR_I, JR_A, JR_G, JR_P, JR_J, JR_i, JR_a, JR_z, GL_I, GL_A, GL_G, GL_P, GL_J, GL_i, GL_a, GL_z, TX_I, TX_A, TX_G, TX_P, TX_J, TX_i, TX_a, TX_z, PD_I, PD_A, PD_G, PD_P, PD_J, PD_i, PD_a, PD_z, JB_i, JB_a, JB_z]
theorem r_bk_PD {R : r_S} {q : Nat} : n_A [2483, 2484, 2485, 2486, 2487, 2488, 2489, 2490, 2491] (r_bk R q) = n_A [2483, 2484, 2485, 2486, 2487, 2488, 2489, 2490, 2491] R := by
  unfold r_bk
  simp (disch := decide) only [n_An, n_AI]
def k_wtw (K : c_S) (p q : Nat) (a c wd : Int32) : c_S := cs_I (cs_I (cs_I (cs_I (cs_I (cs_I K 1409 q 2) 1418 q a) 1413 q c) 1015 p (c_I K 1015 p + 1)) 1417 q (c_I K 1015 p + 1)) 1419 q wd
theorem k_wtw_n {K : c_S} {p q : Nat} {a c wd : Int32} {q' : Nat} (h : q ≠ q') : p_k (k_wtw K p q a c wd) q' = p_k K q' := by
  unfold k_wtw
  rw [pk_n h, pk_n h, pk_f (by decide), pk_n h, pk_n h, pk_n h]
theorem k_wtw_k {K : c_S} {p q : Nat} {a c wd : Int32} : p_k (k_wtw K p q a c wd) q = qs_1 (qs_1 (qs_1 (qs_1 (qs_1 (p_k K q) 9 (2)) 18 (a)) 13 (c)) 17 ((c_I K 1015 p + 1))) 19 (wd) := by
  unfold k_wtw
  rw [pk_w19, pk_w17, pk_f (by decide), pk_w13, pk_w18, pk_w9]
theorem k_wtw_x {K : c_S} {p q : Nat} {a c wd : Int32} {q' : Nat} : p_x (k_wtw K p q a c wd) q' = p_x K q' := by
  unfold k_wtw
  rfl
theorem k_wtw_RS {L : c_L} {Z : z_C} {R : r_S} {K : c_S} {p q : Nat} {a c wd : Int32} : RS L Z (k_wtw K p q a c wd) R = RS L Z K R := by
  unfold RS k_wtw
  simp (disch := decide) only [CQ_I, CQ_A, CQ_G, CQ_P, CQ_J, CQ_i, CQ_a, CQ_z, CT_I, CT_A, CT_G, CT_P, CT_J, CT_i, CT_a, CT_z, CC_I, CC_A, CC_G, CC_P, CC_J, CC_i, CC_a, CC_z, CM_I, CM_A, CM_G, CM_P, CM_J, CM_i, CM_a, CM_z, NM_I, NM_A, NM_G, NM_P, NM_J, NM_i, NM_a, NM_z, TH_I, TH_A, TH_G, TH_P, TH_J, TH_i, TH_a, TH_z, CH_I, CH_A, CH_G, CH_P, CH_J, CH_i, CH_a, CH_z, IN_I, IN_A, IN_G, IN_P, IN_J, IN_i, IN_a, IN_z, ME_I, ME_A, ME_G, ME_P, ME_J, ME_i, ME_a, ME_z, JR_I, JR_A, JR_G, JR_P, JR_J, JR_i, JR_a, JR_z, GL_I, GL_A, GL_G, GL_P, GL_J, GL_i, GL_a, GL_z, TX_I, TX_A, TX_G, TX_P, TX_J, TX_i, TX_a, TX_z, PD_I, PD_A, PD_G, PD_P, PD_J, PD_i, PD_a, PD_z, JB_i, JB_a, JB_z]
theorem k_wtw_PD {K : c_S} {p q : Nat} {a c wd : Int32} : m_I [1009, 1010, 1011, 1012, 1013, 1014, 1016, 1017, 1018] (k_wtw K p q a c wd) = m_I [1009, 1010, 1011, 1012, 1013, 1014, 1016, 1017, 1018] K := by
  unfold k_wtw
  rw [m_In (by decide), m_In (by decide), m_In (by decide), m_In (by decide), m_In (by decide), m_In (by decide)]
def r_wtw (R : r_S) (q : Nat) (s th a wd : Int32) : r_S := rs_A (rs_A (rs_I (rs_A (rs_A (rs_A (rs_A R 2467 q 2) 2478 q s) 2479 q th) 2472 q a) 2464 (r_I R 2464 + 1)) 2481 q (r_I R 2464 + 1)) 2482 q wd
theorem r_wtw_n {R : r_S} {q : Nat} {s th a wd : Int32} {q' : Nat} (h : q ≠ q') : p_r (r_wtw R q s th a wd) q' = p_r R q' := by
  unfold r_wtw
  rw [pr_n h, pr_n h, pr_I, pr_n h, pr_n h, pr_n h, pr_n h]
theorem r_wtw_r {R : r_S} {q : Nat} {s th a wd : Int32} : p_r (r_wtw R q s th a wd) q = qs_1 (qs_1 (qs_1 (qs_1 (qs_1 (qs_1 (p_r R q) 0 (2)) 11 (s)) 12 (th)) 5 (a)) 14 ((r_I R 2464 + 1))) 15 (wd) := by
  unfold r_wtw
  rw [pr_w15, pr_w14, pr_I, pr_w5, pr_w12, pr_w11, pr_w0]
theorem r_wtw_y {R : r_S} {q : Nat} {s th a wd : Int32} {q' : Nat} : p_y (r_wtw R q s th a wd) q' = p_y R q' := by
  unfold r_wtw
  rw [py_f (by decide), py_f (by decide), py_I, py_f (by decide), py_f (by decide), py_f (by decide), py_f (by decide)]
theorem r_wtw_RS {L : c_L} {Z : z_C} {K : c_S} {R : r_S} {q : Nat} {s th a wd : Int32} : RS L Z K (r_wtw R q s th a wd) = RS L Z K R := by
  unfold RS r_wtw
  simp (disch := decide) only [CQ_I, CQ_A, CQ_G, CQ_P, CQ_J, CQ_i, CQ_a, CQ_z, CT_I, CT_A, CT_G, CT_P, CT_J, CT_i, CT_a, CT_z, CC_I, CC_A, CC_G, CC_P, CC_J, CC_i, CC_a, CC_z, CM_I, CM_A, CM_G, CM_P, CM_J, CM_i, CM_a, CM_z, NM_I, NM_A, NM_G, NM_P, NM_J, NM_i, NM_a, NM_z, TH_I, TH_A, TH_G, TH_P, TH_J, TH_i, TH_a, TH_z, CH_I, CH_A, CH_G, CH_P, CH_J, CH_i, CH_a, CH_z, IN_I, IN_A, IN_G, IN_P, IN_J, IN_i, IN_a, IN_z, ME_I, ME_A, ME_G, ME_P, ME_J, ME_i, ME_a, ME_z, JR_I, JR_A, JR_G, JR_P, JR_J, JR_i, JR_a, JR_z, GL_I, GL_A, GL_G, GL_P, GL_J, GL_i, GL_a, GL_z, TX_I, TX_A, TX_G, TX_P, TX_J, TX_i, TX_a, TX_z, PD_I, PD_A, PD_G, PD_P, PD_J, PD_i, PD_a, PD_z, JB_i, JB_a, JB_z]
theorem r_wtw_JB {b : Nat} {R : r_S} {q : Nat} {s th a wd : Int32} : JB b (r_wtw R q s th a wd) = JB b R := by
  unfold r_wtw
  simp (disch := decide) only [CQ_I, CQ_A, CQ_G, CQ_P, CQ_J, CQ_i, CQ_a, CQ_z, CT_I, CT_A, CT_G, CT_P, CT_J, CT_i, CT_a, CT_z, CC_I, CC_A, CC_G, CC_P, CC_J, CC_i, CC_a, CC_z, CM_I, CM_A, CM_G, CM_P, CM_J, CM_i, CM_a, CM_z, NM_I, NM_A, NM_G, NM_P, NM_J, NM_i, NM_a, NM_z, TH_I, TH_A, TH_G, TH_P, TH_J, TH_i, TH_a, TH_z, CH_I, CH_A, CH_G, CH_P, CH_J, CH_i, CH_a, CH_z, IN_I, IN_A, IN_G, IN_P, IN_J, IN_i, IN_a, IN_z, ME_I, ME_A, ME_G, ME_P, ME_J, ME_i, ME_a, ME_z, JR_I, JR_A, JR_G, JR_P, JR_J, JR_i, JR_a, JR_z, GL_I, GL_A, GL_G, GL_P, GL_J, GL_i, GL_a, GL_z, TX_I, TX_A, TX_G, TX_P, TX_J, TX_i, TX_a, TX_z, PD_I, PD_A, PD_G, PD_P, PD_J, PD_i, PD_a, PD_z, JB_i, JB_a, JB_z]
theorem r_wtw_PD {R : r_S} {q : Nat} {s th a wd : Int32} : n_A [2483, 2484, 2485, 2486, 2487, 2488, 2489, 2490, 2491] (r_wtw R q s th a wd) = n_A [2483, 2484, 2485, 2486, 2487, 2488, 2489, 2490, 2491] R := by
  unfold r_wtw
  simp (disch := decide) only [n_An, n_AI]
def r_wtp (R : r_S) (q : Nat) (s th a pt : Int32) : r_S := rs_A (rs_I (rs_A (rs_A (rs_A (rs_A (rs_A R 2480 q pt) 2467 q 2) 2478 q s) 2479 q th) 2472 q a) 2464 (r_I R 2464 + 1)) 2481 q (r_I R 2464 + 1)
theorem r_wtp_n {R : r_S} {q : Nat} {s th a pt : Int32} {q' : Nat} (h : q ≠ q') : p_r (r_wtp R q s th a pt) q' = p_r R q' := by
  unfold r_wtp
  rw [pr_n h, pr_I, pr_n h, pr_n h, pr_n h, pr_n h, pr_n h]
theorem r_wtp_r {R : r_S} {q : Nat} {s th a pt : Int32} : p_r (r_wtp R q s th a pt) q = qs_1 (qs_1 (qs_1 (qs_1 (qs_1 (qs_1 (p_r R q) 13 (pt)) 0 (2)) 11 (s)) 12 (th)) 5 (a)) 14 ((r_I R 2464 + 1)) := by
  unfold r_wtp
  rw [pr_w14, pr_I, pr_w5, pr_w12, pr_w11, pr_w0, pr_w13]
theorem r_wtp_y {R : r_S} {q : Nat} {s th a pt : Int32} {q' : Nat} : p_y (r_wtp R q s th a pt) q' = p_y R q' := by
  unfold r_wtp
  rw [py_f (by decide), py_I, py_f (by decide), py_f (by decide), py_f (by decide), py_f (by decide), py_f (by decide)]
theorem r_wtp_RS {L : c_L} {Z : z_C} {K : c_S} {R : r_S} {q : Nat} {s th a pt : Int32} : RS L Z K (r_wtp R q s th a pt) = RS L Z K R := by
  unfold RS r_wtp
  simp (disch := decide) only [CQ_I, CQ_A, CQ_G, CQ_P, CQ_J, CQ_i, CQ_a, CQ_z, CT_I, CT_A, CT_G, CT_P, CT_J, CT_i, CT_a, CT_z, CC_I, CC_A, CC_G, CC_P, CC_J, CC_i, CC_a, CC_z, CM_I, CM_A, CM_G, CM_P, CM_J, CM_i, CM_a, CM_z, NM_I, NM_A, NM_G, NM_P, NM_J, NM_i, NM_a, NM_z, TH_I, TH_A, TH_G, TH_P, TH_J, TH_i, TH_a, TH_z, CH_I, CH_A, CH_G, CH_P, CH_J, CH_i, CH_a, CH_z, IN_I, IN_A, IN_G, IN_P, IN_J, IN_i, IN_a, IN_z, ME_I, ME_A, ME_G, ME_P, ME_J, ME_i, ME_a, ME_z, JR_I, JR_A, JR_G, JR_P, JR_J, JR_i, JR_a, JR_z, GL_I, GL_A, GL_G, GL_P, GL_J, GL_i, GL_a, GL_z, TX_I, TX_A, TX_G, TX_P, TX_J, TX_i, TX_a, TX_z, PD_I, PD_A, PD_G, PD_P, PD_J, PD_i, PD_a, PD_z, JB_i, JB_a, JB_z]
theorem r_wtp_JB {b : Nat} {R : r_S} {q : Nat} {s th a pt : Int32} : JB b (r_wtp R q s th a pt) = JB b R := by
  unfold r_wtp
  simp (disch := decide) only [CQ_I, CQ_A, CQ_G, CQ_P, CQ_J, CQ_i, CQ_a, CQ_z, CT_I, CT_A, CT_G, CT_P, CT_J, CT_i, CT_a, CT_z, CC_I, CC_A, CC_G, CC_P, CC_J, CC_i, CC_a, CC_z, CM_I, CM_A, CM_G, CM_P, CM_J, CM_i, CM_a, CM_z, NM_I, NM_A, NM_G, NM_P, NM_J, NM_i, NM_a, NM_z, TH_I, TH_A, TH_G, TH_P, TH_J, TH_i, TH_a, TH_z, CH_I, CH_A, CH_G, CH_P, CH_J, CH_i, CH_a, CH_z, IN_I, IN_A, IN_G, IN_P, IN_J, IN_i, IN_a, IN_z, ME_I, ME_A, ME_G, ME_P, ME_J, ME_i, ME_a, ME_z, JR_I, JR_A, JR_G, JR_P, JR_J, JR_i, JR_a, JR_z, GL_I, GL_A, GL_G, GL_P, GL_J, GL_i, GL_a, GL_z, TX_I, TX_A, TX_G, TX_P, TX_J, TX_i, TX_a, TX_z, PD_I, PD_A, PD_G, PD_P, PD_J, PD_i, PD_a, PD_z, JB_i, JB_a, JB_z]
theorem r_wtp_PD {R : r_S} {q : Nat} {s th a pt : Int32} : n_A [2483, 2484, 2485, 2486, 2487, 2488, 2489, 2490, 2491] (r_wtp R q s th a pt) = n_A [2483, 2484, 2485, 2486, 2487, 2488, 2489, 2490, 2491] R := by
  unfold r_wtp
  simp (disch := decide) only [n_An, n_AI]
def r_wts (R : r_S) (q : Nat) (s th a wd pt : Int32) : r_S := rs_A (rs_A (rs_A (rs_I (rs_A (rs_A (rs_A (rs_A R 2467 q 2) 2478 q s) 2479 q th) 2472 q a) 2464 (r_I R 2464 + 1)) 2481 q (r_I R 2464 + 1)) 2482 q wd) 2480 q pt
theorem r_wts_n {R : r_S} {q : Nat} {s th a wd pt : Int32} {q' : Nat} (h : q ≠ q') : p_r (r_wts R q s th a wd pt) q' = p_r R q' := by
  unfold r_wts
  rw [pr_n h, pr_n h, pr_n h, pr_I, pr_n h, pr_n h, pr_n h, pr_n h]
theorem r_wts_r {R : r_S} {q : Nat} {s th a wd pt : Int32} : p_r (r_wts R q s th a wd pt) q = qs_1 (qs_1 (qs_1 (qs_1 (qs_1 (qs_1 (qs_1 (p_r R q) 0 (2)) 11 (s)) 12 (th)) 5 (a)) 14 ((r_I R 2464 + 1))) 15 (wd)) 13 (pt) := by
  unfold r_wts
  rw [pr_w13, pr_w15, pr_w14, pr_I, pr_w5, pr_w12, pr_w11, pr_w0]
theorem r_wts_y {R : r_S} {q : Nat} {s th a wd pt : Int32} {q' : Nat} : p_y (r_wts R q s th a wd pt) q' = p_y R q' := by
  unfold r_wts
  rw [py_f (by decide), py_f (by decide), py_f (by decide), py_I, py_f (by decide), py_f (by decide), py_f (by decide), py_f (by decide)]
theorem r_wts_RS {L : c_L} {Z : z_C} {K : c_S} {R : r_S} {q : Nat} {s th a wd pt : Int32} : RS L Z K (r_wts R q s th a wd pt) = RS L Z K R := by
  unfold RS r_wts
  simp (disch := decide) only [CQ_I, CQ_A, CQ_G, CQ_P, CQ_J, CQ_i, CQ_a, CQ_z, CT_I, CT_A, CT_G, CT_P, CT_J, CT_i, CT_a, CT_z, CC_I, CC_A, CC_G, CC_P, CC_J, CC_i, CC_a, CC_z, CM_I, CM_A, CM_G, CM_P, CM_J, CM_i, CM_a, CM_z, NM_I, NM_A, NM_G, NM_P, NM_J, NM_i, NM_a, NM_z, TH_I, TH_A, TH_G, TH_P, TH_J, TH_i, TH_a, TH_z, CH_I, CH_A, CH_G, CH_P, CH_J, CH_i, CH_a, CH_z, IN_I, IN_A, IN_G, IN_P, IN_J, IN_i, IN_a, IN_z, ME_I, ME_A, ME_G, ME_P, ME_J, ME_i, ME_a, ME_z, JR_I, JR_A, JR_G, JR_P, JR_J, JR_i, JR_a, JR_z, GL_I, GL_A, GL_G, GL_P, GL_J, GL_i, GL_a, GL_z, TX_I, TX_A, TX_G, TX_P, TX_J, TX_i, TX_a, TX_z, PD_I, PD_A, PD_G, PD_P, PD_J, PD_i, PD_a, PD_z, JB_i, JB_a, JB_z]
theorem r_wts_JB {b : Nat} {R : r_S} {q : Nat} {s th a wd pt : Int32} : JB b (r_wts R q s th a wd pt) = JB b R := by
  unfold r_wts
  simp (disch := decide) only [CQ_I, CQ_A, CQ_G, CQ_P, CQ_J, CQ_i, CQ_a, CQ_z, CT_I, CT_A, CT_G, CT_P, CT_J, CT_i, CT_a, CT_z, CC_I, CC_A, CC_G, CC_P, CC_J, CC_i, CC_a, CC_z, CM_I, CM_A, CM_G, CM_P, CM_J, CM_i, CM_a, CM_z, NM_I, NM_A, NM_G, NM_P, NM_J, NM_i, NM_a, NM_z, TH_I, TH_A, TH_G, TH_P, TH_J, TH_i, TH_a, TH_z, CH_I, CH_A, CH_G, CH_P, CH_J, CH_i, CH_a, CH_z, IN_I, IN_A, IN_G, IN_P, IN_J, IN_i, IN_a, IN_z, ME_I, ME_A, ME_G, ME_P, ME_J, ME_i, ME_a, ME_z, JR_I, JR_A, JR_G, JR_P, JR_J, JR_i, JR_a, JR_z, GL_I, GL_A, GL_G, GL_P, GL_J, GL_i, GL_a, GL_z, TX_I, TX_A, TX_G, TX_P, TX_J, TX_i, TX_a, TX_z, PD_I, PD_A, PD_G, PD_P, PD_J, PD_i, PD_a, PD_z, JB_i, JB_a, JB_z]
theorem r_wts_PD {R : r_S} {q : Nat} {s th a wd pt : Int32} : n_A [2483, 2484, 2485, 2486, 2487, 2488, 2489, 2490, 2491] (r_wts R q s th a wd pt) = n_A [2483, 2484, 2485, 2486, 2487, 2488, 2489, 2490, 2491] R := by
  unfold r_wts
  simp (disch := decide) only [n_An, n_AI]
def k_pc (K : c_S) (p q : Nat) (v : Int32) : c_S := cs_I K 1410 q v
theorem k_pc_n {K : c_S} {p q : Nat} {v : Int32} {q' : Nat} (h : q ≠ q') : p_k (k_pc K p q v) q' = p_k K q' := by
  unfold k_pc
  rw [pk_n h]
theorem k_pc_k {K : c_S} {p q : Nat} {v : Int32} : p_k (k_pc K p q v) q = qs_1 (p_k K q) 10 (v) := by
  unfold k_pc
  rw [pk_w10]
theorem k_pc_x {K : c_S} {p q : Nat} {v : Int32} {q' : Nat} : p_x (k_pc K p q v) q' = p_x K q' := by
  unfold k_pc
  rfl
theorem k_pc_RS {L : c_L} {Z : z_C} {R : r_S} {K : c_S} {p q : Nat} {v : Int32} : RS L Z (k_pc K p q v) R = RS L Z K R := by
  unfold RS k_pc
  simp (disch := decide) only [CQ_I, CQ_A, CQ_G, CQ_P, CQ_J, CQ_i, CQ_a, CQ_z, CT_I, CT_A, CT_G, CT_P, CT_J, CT_i, CT_a, CT_z, CC_I, CC_A, CC_G, CC_P, CC_J, CC_i, CC_a, CC_z, CM_I, CM_A, CM_G, CM_P, CM_J, CM_i, CM_a, CM_z, NM_I, NM_A, NM_G, NM_P, NM_J, NM_i, NM_a, NM_z, TH_I, TH_A, TH_G, TH_P, TH_J, TH_i, TH_a, TH_z, CH_I, CH_A, CH_G, CH_P, CH_J, CH_i, CH_a, CH_z, IN_I, IN_A, IN_G, IN_P, IN_J, IN_i, IN_a, IN_z, ME_I, ME_A, ME_G, ME_P, ME_J, ME_i, ME_a, ME_z, JR_I, JR_A, JR_G, JR_P, JR_J, JR_i, JR_a, JR_z, GL_I, GL_A, GL_G, GL_P, GL_J, GL_i, GL_a, GL_z, TX_I, TX_A, TX_G, TX_P, TX_J, TX_i, TX_a, TX_z, PD_I, PD_A, PD_G, PD_P, PD_J, PD_i, PD_a, PD_z, JB_i, JB_a, JB_z]
theorem k_pc_PD {K : c_S} {p q : Nat} {v : Int32} : m_I [1009, 1010, 1011, 1012, 1013, 1014, 1016, 1017, 1018] (k_pc K p q v) = m_I [1009, 1010, 1011, 1012, 1013, 1014, 1016, 1017, 1018] K := by
  unfold k_pc
  rw [m_In (by decide)]
def r_pc (R : r_S) (q : Nat) (v : Int32) : r_S := rs_A R 2468 q v
theorem r_pc_n {R : r_S} {q : Nat} {v : Int32} {q' : Nat} (h : q ≠ q') : p_r (r_pc R q v) q' = p_r R q' := by
  unfold r_pc
  rw [pr_n h]
theorem r_pc_r {R : r_S} {q : Nat} {v : Int32} : p_r (r_pc R q v) q = qs_1 (p_r R q) 1 (v) := by
  unfold r_pc
  rw [pr_w1]
theorem r_pc_y {R : r_S} {q : Nat} {v : Int32} {q' : Nat} : p_y (r_pc R q v) q' = p_y R q' := by
  unfold r_pc
  rw [py_f (by decide)]
theorem r_pc_RS {L : c_L} {Z : z_C} {K : c_S} {R : r_S} {q : Nat} {v : Int32} : RS L Z K (r_pc R q v) = RS L Z K R := by
  unfold RS r_pc
  simp (disch := decide) only [CQ_I, CQ_A, CQ_G, CQ_P, CQ_J, CQ_i, CQ_a, CQ_z, CT_I, CT_A, CT_G, CT_P, CT_J, CT_i, CT_a, CT_z, CC_I, CC_A, CC_G, CC_P, CC_J, CC_i, CC_a, CC_z, CM_I, CM_A, CM_G, CM_P, CM_J, CM_i, CM_a, CM_z, NM_I, NM_A, NM_G, NM_P, NM_J, NM_i, NM_a, NM_z, TH_I, TH_A, TH_G, TH_P, TH_J, TH_i, TH_a, TH_z, CH_I, CH_A, CH_G, CH_P, CH_J, CH_i, CH_a, CH_z, IN_I, IN_A, IN_G, IN_P, IN_J, IN_i, IN_a, IN_z, ME_I, ME_A, ME_G, ME_P, ME_J, ME_i, ME_a, ME_z, JR_I, JR_A, JR_G, JR_P, JR_J, JR_i, JR_a, JR_z, GL_I, GL_A, GL_G, GL_P, GL_J, GL_i, GL_a, GL_z, TX_I, TX_A, TX_G, TX_P, TX_J, TX_i, TX_a, TX_z, PD_I, PD_A, PD_G, PD_P, PD_J, PD_i, PD_a, PD_z, JB_i, JB_a, JB_z]
theorem r_pc_JB {b : Nat} {R : r_S} {q : Nat} {v : Int32} : JB b (r_pc R q v) = JB b R := by
  unfold r_pc
  simp (disch := decide) only [CQ_I, CQ_A, CQ_G, CQ_P, CQ_J, CQ_i, CQ_a, CQ_z, CT_I, CT_A, CT_G, CT_P, CT_J, CT_i, CT_a, CT_z, CC_I, CC_A, CC_G, CC_P, CC_J, CC_i, CC_a, CC_z, CM_I, CM_A, CM_G, CM_P, CM_J, CM_i, CM_a, CM_z, NM_I, NM_A, NM_G, NM_P, NM_J, NM_i, NM_a, NM_z, TH_I, TH_A, TH_G, TH_P, TH_J, TH_i, TH_a, TH_z, CH_I, CH_A, CH_G, CH_P, CH_J, CH_i, CH_a, CH_z, IN_I, IN_A, IN_G, IN_P, IN_J, IN_i, IN_a, IN_z, ME_I, ME_A, ME_G, ME_P, ME_J, ME_i, ME_a, ME_z, JR_I, JR_A, JR_G, JR_P, JR_J, JR_i, JR_a, JR_z, GL_I, GL_A, GL_G, GL_P, GL_J, GL_i, GL_a, GL_z, TX_I, TX_A, TX_G, TX_P, TX_J, TX_i, TX_a, TX_z, PD_I, PD_A, PD_G, PD_P, PD_J, PD_i, PD_a, PD_z, JB_i, JB_a, JB_z]
theorem r_pc_PD {R : r_S} {q : Nat} {v : Int32} : n_A [2483, 2484, 2485, 2486, 2487, 2488, 2489, 2490, 2491] (r_pc R q v) = n_A [2483, 2484, 2485, 2486, 2487, 2488, 2489, 2490, 2491] R := by
  unfold r_pc
  simp (disch := decide) only [n_An, n_AI]
def k_pr (K : c_S) (p q : Nat) (v : Int32) : c_S := cs_I K 1403 q v
theorem k_pr_n {K : c_S} {p q : Nat} {v : Int32} {q' : Nat} (h : q ≠ q') : p_k (k_pr K p q v) q' = p_k K q' := by
  unfold k_pr
  rw [pk_n h]
theorem k_pr_k {K : c_S} {p q : Nat} {v : Int32} : p_k (k_pr K p q v) q = qs_1 (p_k K q) 3 (v) := by
  unfold k_pr
  rw [pk_w3]
theorem k_pr_x {K : c_S} {p q : Nat} {v : Int32} {q' : Nat} : p_x (k_pr K p q v) q' = p_x K q' := by
  unfold k_pr
  rfl
theorem k_pr_RS {L : c_L} {Z : z_C} {R : r_S} {K : c_S} {p q : Nat} {v : Int32} : RS L Z (k_pr K p q v) R = RS L Z K R := by
  unfold RS k_pr
  simp (disch := decide) only [CQ_I, CQ_A, CQ_G, CQ_P, CQ_J, CQ_i, CQ_a, CQ_z, CT_I, CT_A, CT_G, CT_P, CT_J, CT_i, CT_a, CT_z, CC_I, CC_A, CC_G, CC_P, CC_J, CC_i, CC_a, CC_z, CM_I, CM_A, CM_G, CM_P, CM_J, CM_i, CM_a, CM_z, NM_I, NM_A, NM_G, NM_P, NM_J, NM_i, NM_a, NM_z, TH_I, TH_A, TH_G, TH_P, TH_J, TH_i, TH_a, TH_z, CH_I, CH_A, CH_G, CH_P, CH_J, CH_i, CH_a, CH_z, IN_I, IN_A, IN_G, IN_P, IN_J, IN_i, IN_a, IN_z, ME_I, ME_A, ME_G, ME_P, ME_J, ME_i, ME_a, ME_z, JR_I, JR_A, JR_G, JR_P, JR_J, JR_i, JR_a, JR_z, GL_I, GL_A, GL_G, GL_P, GL_J, GL_i, GL_a, GL_z, TX_I, TX_A, TX_G, TX_P, TX_J, TX_i, TX_a, TX_z, PD_I, PD_A, PD_G, PD_P, PD_J, PD_i, PD_a, PD_z, JB_i, JB_a, JB_z]
theorem k_pr_PD {K : c_S} {p q : Nat} {v : Int32} : m_I [1009, 1010, 1011, 1012, 1013, 1014, 1016, 1017, 1018] (k_pr K p q v) = m_I [1009, 1010, 1011, 1012, 1013, 1014, 1016, 1017, 1018] K := by
  unfold k_pr
  rw [m_In (by decide)]
def r_pr (R : r_S) (q : Nat) (v : Int32) : r_S := rs_A R 2469 q v
theorem r_pr_n {R : r_S} {q : Nat} {v : Int32} {q' : Nat} (h : q ≠ q') : p_r (r_pr R q v) q' = p_r R q' := by
  unfold r_pr
  rw [pr_n h]
theorem r_pr_r {R : r_S} {q : Nat} {v : Int32} : p_r (r_pr R q v) q = qs_1 (p_r R q) 2 (v) := by
  unfold r_pr
  rw [pr_w2]
theorem r_pr_y {R : r_S} {q : Nat} {v : Int32} {q' : Nat} : p_y (r_pr R q v) q' = p_y R q' := by
  unfold r_pr
  rw [py_f (by decide)]
theorem r_pr_RS {L : c_L} {Z : z_C} {K : c_S} {R : r_S} {q : Nat} {v : Int32} : RS L Z K (r_pr R q v) = RS L Z K R := by
  unfold RS r_pr
  simp (disch := decide) only [CQ_I, CQ_A, CQ_G, CQ_P, CQ_J, CQ_i, CQ_a, CQ_z, CT_I, CT_A, CT_G, CT_P, CT_J, CT_i, CT_a, CT_z, CC_I, CC_A, CC_G, CC_P, CC_J, CC_i, CC_a, CC_z, CM_I, CM_A, CM_G, CM_P, CM_J, CM_i, CM_a, CM_z, NM_I, NM_A, NM_G, NM_P, NM_J, NM_i, NM_a, NM_z, TH_I, TH_A, TH_G, TH_P, TH_J, TH_i, TH_a, TH_z, CH_I, CH_A, CH_G, CH_P, CH_J, CH_i, CH_a, CH_z, IN_I, IN_A, IN_G, IN_P, IN_J, IN_i, IN_a, IN_z, ME_I, ME_A, ME_G, ME_P, ME_J, ME_i, ME_a, ME_z, JR_I, JR_A, JR_G, JR_P, JR_J, JR_i, JR_a, JR_z, GL_I, GL_A, GL_G, GL_P, GL_J, GL_i, GL_a, GL_z, TX_I, TX_A, TX_G, TX_P, TX_J, TX_i, TX_a, TX_z, PD_I, PD_A, PD_G, PD_P, PD_J, PD_i, PD_a, PD_z, JB_i, JB_a, JB_z]
theorem r_pr_JB {b : Nat} {R : r_S} {q : Nat} {v : Int32} : JB b (r_pr R q v) = JB b R := by
  unfold r_pr
  simp (disch := decide) only [CQ_I, CQ_A, CQ_G, CQ_P, CQ_J, CQ_i, CQ_a, CQ_z, CT_I, CT_A, CT_G, CT_P, CT_J, CT_i, CT_a, CT_z, CC_I, CC_A, CC_G, CC_P, CC_J, CC_i, CC_a, CC_z, CM_I, CM_A, CM_G, CM_P, CM_J, CM_i, CM_a, CM_z, NM_I, NM_A, NM_G, NM_P, NM_J, NM_i, NM_a, NM_z, TH_I, TH_A, TH_G, TH_P, TH_J, TH_i, TH_a, TH_z, CH_I, CH_A, CH_G, CH_P, CH_J, CH_i, CH_a, CH_z, IN_I, IN_A, IN_G, IN_P, IN_J, IN_i, IN_a, IN_z, ME_I, ME_A, ME_G, ME_P, ME_J, ME_i, ME_a, ME_z, JR_I, JR_A, JR_G, JR_P, JR_J, JR_i, JR_a, JR_z, GL_I, GL_A, GL_G, GL_P, GL_J, GL_i, GL_a, GL_z, TX_I, TX_A, TX_G, TX_P, TX_J, TX_i, TX_a, TX_z, PD_I, PD_A, PD_G, PD_P, PD_J, PD_i, PD_a, PD_z, JB_i, JB_a, JB_z]
theorem r_pr_PD {R : r_S} {q : Nat} {v : Int32} : n_A [2483, 2484, 2485, 2486, 2487, 2488, 2489, 2490, 2491] (r_pr R q v) = n_A [2483, 2484, 2485, 2486, 2487, 2488, 2489, 2490, 2491] R := by
  unfold r_pr
  simp (disch := decide) only [n_An, n_AI]
def k_he (K : c_S) (p q : Nat) (v : Int32) : c_S := cs_I K 1416 q v
theorem k_he_n {K : c_S} {p q : Nat} {v : Int32} {q' : Nat} (h : q ≠ q') : p_k (k_he K p q v) q' = p_k K q' := by
  unfold k_he
  rw [pk_n h]
theorem k_he_k {K : c_S} {p q : Nat} {v : Int32} : p_k (k_he K p q v) q = qs_1 (p_k K q) 16 (v) := by
  unfold k_he
  rw [pk_w16]
theorem k_he_x {K : c_S} {p q : Nat} {v : Int32} {q' : Nat} : p_x (k_he K p q v) q' = p_x K q' := by
  unfold k_he
  rfl
theorem k_he_RS {L : c_L} {Z : z_C} {R : r_S} {K : c_S} {p q : Nat} {v : Int32} : RS L Z (k_he K p q v) R = RS L Z K R := by
  unfold RS k_he
  simp (disch := decide) only [CQ_I, CQ_A, CQ_G, CQ_P, CQ_J, CQ_i, CQ_a, CQ_z, CT_I, CT_A, CT_G, CT_P, CT_J, CT_i, CT_a, CT_z, CC_I, CC_A, CC_G, CC_P, CC_J, CC_i, CC_a, CC_z, CM_I, CM_A, CM_G, CM_P, CM_J, CM_i, CM_a, CM_z, NM_I, NM_A, NM_G, NM_P, NM_J, NM_i, NM_a, NM_z, TH_I, TH_A, TH_G, TH_P, TH_J, TH_i, TH_a, TH_z, CH_I, CH_A, CH_G, CH_P, CH_J, CH_i, CH_a, CH_z, IN_I, IN_A, IN_G, IN_P, IN_J, IN_i, IN_a, IN_z, ME_I, ME_A, ME_G, ME_P, ME_J, ME_i, ME_a, ME_z, JR_I, JR_A, JR_G, JR_P, JR_J, JR_i, JR_a, JR_z, GL_I, GL_A, GL_G, GL_P, GL_J, GL_i, GL_a, GL_z, TX_I, TX_A, TX_G, TX_P, TX_J, TX_i, TX_a, TX_z, PD_I, PD_A, PD_G, PD_P, PD_J, PD_i, PD_a, PD_z, JB_i, JB_a, JB_z]
theorem k_he_PD {K : c_S} {p q : Nat} {v : Int32} : m_I [1009, 1010, 1011, 1012, 1013, 1014, 1016, 1017, 1018] (k_he K p q v) = m_I [1009, 1010, 1011, 1012, 1013, 1014, 1016, 1017, 1018] K := by
  unfold k_he
  rw [m_In (by decide)]
def r_he (R : r_S) (q : Nat) (v : Int32) : r_S := rs_A R 2475 q v
theorem r_he_n {R : r_S} {q : Nat} {v : Int32} {q' : Nat} (h : q ≠ q') : p_r (r_he R q v) q' = p_r R q' := by
  unfold r_he
  rw [pr_n h]
theorem r_he_r {R : r_S} {q : Nat} {v : Int32} : p_r (r_he R q v) q = qs_1 (p_r R q) 8 (v) := by
  unfold r_he
  rw [pr_w8]
theorem r_he_y {R : r_S} {q : Nat} {v : Int32} {q' : Nat} : p_y (r_he R q v) q' = p_y R q' := by
  unfold r_he
  rw [py_f (by decide)]
theorem r_he_RS {L : c_L} {Z : z_C} {K : c_S} {R : r_S} {q : Nat} {v : Int32} : RS L Z K (r_he R q v) = RS L Z K R := by
  unfold RS r_he
  simp (disch := decide) only [CQ_I, CQ_A, CQ_G, CQ_P, CQ_J, CQ_i, CQ_a, CQ_z, CT_I, CT_A, CT_G, CT_P, CT_J, CT_i, CT_a, CT_z, CC_I, CC_A, CC_G, CC_P, CC_J, CC_i, CC_a, CC_z, CM_I, CM_A, CM_G, CM_P, CM_J, CM_i, CM_a, CM_z, NM_I, NM_A, NM_G, NM_P, NM_J, NM_i, NM_a, NM_z, TH_I, TH_A, TH_G, TH_P, TH_J, TH_i, TH_a, TH_z, CH_I, CH_A, CH_G, CH_P, CH_J, CH_i, CH_a, CH_z, IN_I, IN_A, IN_G, IN_P, IN_J, IN_i, IN_a, IN_z, ME_I, ME_A, ME_G, ME_P, ME_J, ME_i, ME_a, ME_z, JR_I, JR_A, JR_G, JR_P, JR_J, JR_i, JR_a, JR_z, GL_I, GL_A, GL_G, GL_P, GL_J, GL_i, GL_a, GL_z, TX_I, TX_A, TX_G, TX_P, TX_J, TX_i, TX_a, TX_z, PD_I, PD_A, PD_G, PD_P, PD_J, PD_i, PD_a, PD_z, JB_i, JB_a, JB_z]
theorem r_he_JB {b : Nat} {R : r_S} {q : Nat} {v : Int32} : JB b (r_he R q v) = JB b R := by
  unfold r_he
  simp (disch := decide) only [CQ_I, CQ_A, CQ_G, CQ_P, CQ_J, CQ_i, CQ_a, CQ_z, CT_I, CT_A, CT_G, CT_P, CT_J, CT_i, CT_a, CT_z, CC_I, CC_A, CC_G, CC_P, CC_J, CC_i, CC_a, CC_z, CM_I, CM_A, CM_G, CM_P, CM_J, CM_i, CM_a, CM_z, NM_I, NM_A, NM_G, NM_P, NM_J, NM_i, NM_a, NM_z, TH_I, TH_A, TH_G, TH_P, TH_J, TH_i, TH_a, TH_z, CH_I, CH_A, CH_G, CH_P, CH_J, CH_i, CH_a, CH_z, IN_I, IN_A, IN_G, IN_P, IN_J, IN_i, IN_a, IN_z, ME_I, ME_A, ME_G, ME_P, ME_J, ME_i, ME_a, ME_z, JR_I, JR_A, JR_G, JR_P, JR_J, JR_i, JR_a, JR_z, GL_I, GL_A, GL_G, GL_P, GL_J, GL_i, GL_a, GL_z, TX_I, TX_A, TX_G, TX_P, TX_J, TX_i, TX_a, TX_z, PD_I, PD_A, PD_G, PD_P, PD_J, PD_i, PD_a, PD_z, JB_i, JB_a, JB_z]
theorem r_he_PD {R : r_S} {q : Nat} {v : Int32} : n_A [2483, 2484, 2485, 2486, 2487, 2488, 2489, 2490, 2491] (r_he R q v) = n_A [2483, 2484, 2485, 2486, 2487, 2488, 2489, 2490, 2491] R := by
  unfold r_he
  simp (disch := decide) only [n_An, n_AI]
def k_du (K : c_S) (p q : Nat) (v : Int32) : c_S := cs_I K 1412 q v
theorem k_du_n {K : c_S} {p q : Nat} {v : Int32} {q' : Nat} (h : q ≠ q') : p_k (k_du K p q v) q' = p_k K q' := by
  unfold k_du
  rw [pk_n h]
theorem k_du_k {K : c_S} {p q : Nat} {v : Int32} : p_k (k_du K p q v) q = qs_1 (p_k K q) 12 (v) := by
  unfold k_du
  rw [pk_w12]
theorem k_du_x {K : c_S} {p q : Nat} {v : Int32} {q' : Nat} : p_x (k_du K p q v) q' = p_x K q' := by
  unfold k_du
  rfl
theorem k_du_RS {L : c_L} {Z : z_C} {R : r_S} {K : c_S} {p q : Nat} {v : Int32} : RS L Z (k_du K p q v) R = RS L Z K R := by
  unfold RS k_du
  simp (disch := decide) only [CQ_I, CQ_A, CQ_G, CQ_P, CQ_J, CQ_i, CQ_a, CQ_z, CT_I, CT_A, CT_G, CT_P, CT_J, CT_i, CT_a, CT_z, CC_I, CC_A, CC_G, CC_P, CC_J, CC_i, CC_a, CC_z, CM_I, CM_A, CM_G, CM_P, CM_J, CM_i, CM_a, CM_z, NM_I, NM_A, NM_G, NM_P, NM_J, NM_i, NM_a, NM_z, TH_I, TH_A, TH_G, TH_P, TH_J, TH_i, TH_a, TH_z, CH_I, CH_A, CH_G, CH_P, CH_J, CH_i, CH_a, CH_z, IN_I, IN_A, IN_G, IN_P, IN_J, IN_i, IN_a, IN_z, ME_I, ME_A, ME_G, ME_P, ME_J, ME_i, ME_a, ME_z, JR_I, JR_A, JR_G, JR_P, JR_J, JR_i, JR_a, JR_z, GL_I, GL_A, GL_G, GL_P, GL_J, GL_i, GL_a, GL_z, TX_I, TX_A, TX_G, TX_P, TX_J, TX_i, TX_a, TX_z, PD_I, PD_A, PD_G, PD_P, PD_J, PD_i, PD_a, PD_z, JB_i, JB_a, JB_z]
theorem k_du_PD {K : c_S} {p q : Nat} {v : Int32} : m_I [1009, 1010, 1011, 1012, 1013, 1014, 1016, 1017, 1018] (k_du K p q v) = m_I [1009, 1010, 1011, 1012, 1013, 1014, 1016, 1017, 1018] K := by
  unfold k_du
  rw [m_In (by decide)]
def r_du (R : r_S) (q : Nat) (v : Int32) : r_S := rs_A (rs_A R 2470 q 1) 2471 q v
theorem r_du_n {R : r_S} {q : Nat} {v : Int32} {q' : Nat} (h : q ≠ q') : p_r (r_du R q v) q' = p_r R q' := by
  unfold r_du
  rw [pr_n h, pr_n h]
theorem r_du_r {R : r_S} {q : Nat} {v : Int32} : p_r (r_du R q v) q = qs_1 (qs_1 (p_r R q) 3 (1)) 4 (v) := by
  unfold r_du
  rw [pr_w4, pr_w3]
theorem r_du_y {R : r_S} {q : Nat} {v : Int32} {q' : Nat} : p_y (r_du R q v) q' = p_y R q' := by
  unfold r_du
  rw [py_f (by decide), py_f (by decide)]
theorem r_du_RS {L : c_L} {Z : z_C} {K : c_S} {R : r_S} {q : Nat} {v : Int32} : RS L Z K (r_du R q v) = RS L Z K R := by
  unfold RS r_du
  simp (disch := decide) only [CQ_I, CQ_A, CQ_G, CQ_P, CQ_J, CQ_i, CQ_a, CQ_z, CT_I, CT_A, CT_G, CT_P, CT_J, CT_i, CT_a, CT_z, CC_I, CC_A, CC_G, CC_P, CC_J, CC_i, CC_a, CC_z, CM_I, CM_A, CM_G, CM_P, CM_J, CM_i, CM_a, CM_z, NM_I, NM_A, NM_G, NM_P, NM_J, NM_i, NM_a, NM_z, TH_I, TH_A, TH_G, TH_P, TH_J, TH_i, TH_a, TH_z, CH_I, CH_A, CH_G, CH_P, CH_J, CH_i, CH_a, CH_z, IN_I, IN_A, IN_G, IN_P, IN_J, IN_i, IN_a, IN_z, ME_I, ME_A, ME_G, ME_P, ME_J, ME_i, ME_a, ME_z, JR_I, JR_A, JR_G, JR_P, JR_J, JR_i, JR_a, JR_z, GL_I, GL_A, GL_G, GL_P, GL_J, GL_i, GL_a, GL_z, TX_I, TX_A, TX_G, TX_P, TX_J, TX_i, TX_a, TX_z, PD_I, PD_A, PD_G, PD_P, PD_J, PD_i, PD_a, PD_z, JB_i, JB_a, JB_z]
theorem r_du_JB {b : Nat} {R : r_S} {q : Nat} {v : Int32} : JB b (r_du R q v) = JB b R := by
  unfold r_du
  simp (disch := decide) only [CQ_I, CQ_A, CQ_G, CQ_P, CQ_J, CQ_i, CQ_a, CQ_z, CT_I, CT_A, CT_G, CT_P, CT_J, CT_i, CT_a, CT_z, CC_I, CC_A, CC_G, CC_P, CC_J, CC_i, CC_a, CC_z, CM_I, CM_A, CM_G, CM_P, CM_J, CM_i, CM_a, CM_z, NM_I, NM_A, NM_G, NM_P, NM_J, NM_i, NM_a, NM_z, TH_I, TH_A, TH_G, TH_P, TH_J, TH_i, TH_a, TH_z, CH_I, CH_A, CH_G, CH_P, CH_J, CH_i, CH_a, CH_z, IN_I, IN_A, IN_G, IN_P, IN_J, IN_i, IN_a, IN_z, ME_I, ME_A, ME_G, ME_P, ME_J, ME_i, ME_a, ME_z, JR_I, JR_A, JR_G, JR_P, JR_J, JR_i, JR_a, JR_z, GL_I, GL_A, GL_G, GL_P, GL_J, GL_i, GL_a, GL_z, TX_I, TX_A, TX_G, TX_P, TX_J, TX_i, TX_a, TX_z, PD_I, PD_A, PD_G, PD_P, PD_J, PD_i, PD_a, PD_z, JB_i, JB_a, JB_z]
theorem r_du_PD {R : r_S} {q : Nat} {v : Int32} : n_A [2483, 2484, 2485, 2486, 2487, 2488, 2489, 2490, 2491] (r_du R q v) = n_A [2483, 2484, 2485, 2486, 2487, 2488, 2489, 2490, 2491] R := by
  unfold r_du
  simp (disch := decide) only [n_An, n_AI]
def k_nd (K : c_S) (p q : Nat) : c_S := cs_I K 1412 q (-1)
theorem k_nd_n {K : c_S} {p q : Nat} {q' : Nat} (h : q ≠ q') : p_k (k_nd K p q) q' = p_k K q' := by
  unfold k_nd
  rw [pk_n h]
theorem k_nd_k {K : c_S} {p q : Nat} : p_k (k_nd K p q) q = qs_1 (p_k K q) 12 ((-1)) := by
  unfold k_nd
  rw [pk_w12]
theorem k_nd_x {K : c_S} {p q : Nat} {q' : Nat} : p_x (k_nd K p q) q' = p_x K q' := by
  unfold k_nd
  rfl
theorem k_nd_RS {L : c_L} {Z : z_C} {R : r_S} {K : c_S} {p q : Nat} : RS L Z (k_nd K p q) R = RS L Z K R := by
  unfold RS k_nd
  simp (disch := decide) only [CQ_I, CQ_A, CQ_G, CQ_P, CQ_J, CQ_i, CQ_a, CQ_z, CT_I, CT_A, CT_G, CT_P, CT_J, CT_i, CT_a, CT_z, CC_I, CC_A, CC_G, CC_P, CC_J, CC_i, CC_a, CC_z, CM_I, CM_A, CM_G, CM_P, CM_J, CM_i, CM_a, CM_z, NM_I, NM_A, NM_G, NM_P, NM_J, NM_i, NM_a, NM_z, TH_I, TH_A, TH_G, TH_P, TH_J, TH_i, TH_a, TH_z, CH_I, CH_A, CH_G, CH_P, CH_J, CH_i, CH_a, CH_z, IN_I, IN_A, IN_G, IN_P, IN_J, IN_i, IN_a, IN_z, ME_I, ME_A, ME_G, ME_P, ME_J, ME_i, ME_a, ME_z, JR_I, JR_A, JR_G, JR_P, JR_J, JR_i, JR_a, JR_z, GL_I, GL_A, GL_G, GL_P, GL_J, GL_i, GL_a, GL_z, TX_I, TX_A, TX_G, TX_P, TX_J, TX_i, TX_a, TX_z, PD_I, PD_A, PD_G, PD_P, PD_J, PD_i, PD_a, PD_z, JB_i, JB_a, JB_z]
theorem k_nd_PD {K : c_S} {p q : Nat} : m_I [1009, 1010, 1011, 1012, 1013, 1014, 1016, 1017, 1018] (k_nd K p q) = m_I [1009, 1010, 1011, 1012, 1013, 1014, 1016, 1017, 1018] K := by
  unfold k_nd
  rw [m_In (by decide)]
def r_nd (R : r_S) (q : Nat) : r_S := rs_A R 2470 q 0
theorem r_nd_n {R : r_S} {q : Nat} {q' : Nat} (h : q ≠ q') : p_r (r_nd R q) q' = p_r R q' := by
  unfold r_nd
  rw [pr_n h]
theorem r_nd_r {R : r_S} {q : Nat} : p_r (r_nd R q) q = qs_1 (p_r R q) 3 (0) := by
  unfold r_nd
  rw [pr_w3]
theorem r_nd_y {R : r_S} {q : Nat} {q' : Nat} : p_y (r_nd R q) q' = p_y R q' := by
  unfold r_nd
  rw [py_f (by decide)]
theorem r_nd_RS {L : c_L} {Z : z_C} {K : c_S} {R : r_S} {q : Nat} : RS L Z K (r_nd R q) = RS L Z K R := by
  unfold RS r_nd
  simp (disch := decide) only [CQ_I, CQ_A, CQ_G, CQ_P, CQ_J, CQ_i, CQ_a, CQ_z, CT_I, CT_A, CT_G, CT_P, CT_J, CT_i, CT_a, CT_z, CC_I, CC_A, CC_G, CC_P, CC_J, CC_i, CC_a, CC_z, CM_I, CM_A, CM_G, CM_P, CM_J, CM_i, CM_a, CM_z, NM_I, NM_A, NM_G, NM_P, NM_J, NM_i, NM_a, NM_z, TH_I, TH_A, TH_G, TH_P, TH_J, TH_i, TH_a, TH_z, CH_I, CH_A, CH_G, CH_P, CH_J, CH_i, CH_a, CH_z, IN_I, IN_A, IN_G, IN_P, IN_J, IN_i, IN_a, IN_z, ME_I, ME_A, ME_G, ME_P, ME_J, ME_i, ME_a, ME_z, JR_I, JR_A, JR_G, JR_P, JR_J, JR_i, JR_a, JR_z, GL_I, GL_A, GL_G, GL_P, GL_J, GL_i, GL_a, GL_z, TX_I, TX_A, TX_G, TX_P, TX_J, TX_i, TX_a, TX_z, PD_I, PD_A, PD_G, PD_P, PD_J, PD_i, PD_a, PD_z, JB_i, JB_a, JB_z]
theorem r_nd_JB {b : Nat} {R : r_S} {q : Nat} : JB b (r_nd R q) = JB b R := by
  unfold r_nd
  simp (disch := decide) only [CQ_I, CQ_A, CQ_G, CQ_P, CQ_J, CQ_i, CQ_a, CQ_z, CT_I, CT_A, CT_G, CT_P, CT_J, CT_i, CT_a, CT_z, CC_I, CC_A, CC_G, CC_P, CC_J, CC_i, CC_a, CC_z, CM_I, CM_A, CM_G, CM_P, CM_J, CM_i, CM_a, CM_z, NM_I, NM_A, NM_G, NM_P, NM_J, NM_i, NM_a, NM_z, TH_I, TH_A, TH_G, TH_P, TH_J, TH_i, TH_a, TH_z, CH_I, CH_A, CH_G, CH_P, CH_J, CH_i, CH_a, CH_z, IN_I, IN_A, IN_G, IN_P, IN_J, IN_i, IN_a, IN_z, ME_I, ME_A, ME_G, ME_P, ME_J, ME_i, ME_a, ME_z, JR_I, JR_A, JR_G, JR_P, JR_J, JR_i, JR_a, JR_z, GL_I, GL_A, GL_G, GL_P, GL_J, GL_i, GL_a, GL_z, TX_I, TX_A, TX_G, TX_P, TX_J, TX_i, TX_a, TX_z, PD_I, PD_A, PD_G, PD_P, PD_J, PD_i, PD_a, PD_z, JB_i, JB_a, JB_z]
theorem r_nd_PD {R : r_S} {q : Nat} : n_A [2483, 2484, 2485, 2486, 2487, 2488, 2489, 2490, 2491] (r_nd R q) = n_A [2483, 2484, 2485, 2486, 2487, 2488, 2489, 2490, 2491] R := by
  unfold r_nd
  simp (disch := decide) only [n_An, n_AI]
def k_dn (K : c_S) (p q : Nat) (v : Int32) : c_S := cs_I K 1414 q v
theorem k_dn_n {K : c_S} {p q : Nat} {v : Int32} {q' : Nat} (h : q ≠ q') : p_k (k_dn K p q v) q' = p_k K q' := by
  unfold k_dn
  rw [pk_n h]
theorem k_dn_k {K : c_S} {p q : Nat} {v : Int32} : p_k (k_dn K p q v) q = qs_1 (p_k K q) 14 (v) := by
  unfold k_dn
  rw [pk_w14]
theorem k_dn_x {K : c_S} {p q : Nat} {v : Int32} {q' : Nat} : p_x (k_dn K p q v) q' = p_x K q' := by
  unfold k_dn
  rfl
theorem k_dn_RS {L : c_L} {Z : z_C} {R : r_S} {K : c_S} {p q : Nat} {v : Int32} : RS L Z (k_dn K p q v) R = RS L Z K R := by
  unfold RS k_dn
  simp (disch := decide) only [CQ_I, CQ_A, CQ_G, CQ_P, CQ_J, CQ_i, CQ_a, CQ_z, CT_I, CT_A, CT_G, CT_P, CT_J, CT_i, CT_a, CT_z, CC_I, CC_A, CC_G, CC_P, CC_J, CC_i, CC_a, CC_z, CM_I, CM_A, CM_G, CM_P, CM_J, CM_i, CM_a, CM_z, NM_I, NM_A, NM_G, NM_P, NM_J, NM_i, NM_a, NM_z, TH_I, TH_A, TH_G, TH_P, TH_J, TH_i, TH_a, TH_z, CH_I, CH_A, CH_G, CH_P, CH_J, CH_i, CH_a, CH_z, IN_I, IN_A, IN_G, IN_P, IN_J, IN_i, IN_a, IN_z, ME_I, ME_A, ME_G, ME_P, ME_J, ME_i, ME_a, ME_z, JR_I, JR_A, JR_G, JR_P, JR_J, JR_i, JR_a, JR_z, GL_I, GL_A, GL_G, GL_P, GL_J, GL_i, GL_a, GL_z, TX_I, TX_A, TX_G, TX_P, TX_J, TX_i, TX_a, TX_z, PD_I, PD_A, PD_G, PD_P, PD_J, PD_i, PD_a, PD_z, JB_i, JB_a, JB_z]
theorem k_dn_PD {K : c_S} {p q : Nat} {v : Int32} : m_I [1009, 1010, 1011, 1012, 1013, 1014, 1016, 1017, 1018] (k_dn K p q v) = m_I [1009, 1010, 1011, 1012, 1013, 1014, 1016, 1017, 1018] K := by
  unfold k_dn
  rw [m_In (by decide)]
def r_dn (R : r_S) (q : Nat) (v : Int32) : r_S := rs_A R 2474 q v
theorem r_dn_n {R : r_S} {q : Nat} {v : Int32} {q' : Nat} (h : q ≠ q') : p_r (r_dn R q v) q' = p_r R q' := by
  unfold r_dn
  rw [pr_n h]
theorem r_dn_r {R : r_S} {q : Nat} {v : Int32} : p_r (r_dn R q v) q = qs_1 (p_r R q) 7 (v) := by
  unfold r_dn
  rw [pr_w7]
theorem r_dn_y {R : r_S} {q : Nat} {v : Int32} {q' : Nat} : p_y (r_dn R q v) q' = p_y R q' := by
  unfold r_dn
  rw [py_f (by decide)]
theorem r_dn_RS {L : c_L} {Z : z_C} {K : c_S} {R : r_S} {q : Nat} {v : Int32} : RS L Z K (r_dn R q v) = RS L Z K R := by
  unfold RS r_dn
  simp (disch := decide) only [CQ_I, CQ_A, CQ_G, CQ_P, CQ_J, CQ_i, CQ_a, CQ_z, CT_I, CT_A, CT_G, CT_P, CT_J, CT_i, CT_a, CT_z, CC_I, CC_A, CC_G, CC_P, CC_J, CC_i, CC_a, CC_z, CM_I, CM_A, CM_G, CM_P, CM_J, CM_i, CM_a, CM_z, NM_I, NM_A, NM_G, NM_P, NM_J, NM_i, NM_a, NM_z, TH_I, TH_A, TH_G, TH_P, TH_J, TH_i, TH_a, TH_z, CH_I, CH_A, CH_G, CH_P, CH_J, CH_i, CH_a, CH_z, IN_I, IN_A, IN_G, IN_P, IN_J, IN_i, IN_a, IN_z, ME_I, ME_A, ME_G, ME_P, ME_J, ME_i, ME_a, ME_z, JR_I, JR_A, JR_G, JR_P, JR_J, JR_i, JR_a, JR_z, GL_I, GL_A, GL_G, GL_P, GL_J, GL_i, GL_a, GL_z, TX_I, TX_A, TX_G, TX_P, TX_J, TX_i, TX_a, TX_z, PD_I, PD_A, PD_G, PD_P, PD_J, PD_i, PD_a, PD_z, JB_i, JB_a, JB_z]
theorem r_dn_JB {b : Nat} {R : r_S} {q : Nat} {v : Int32} : JB b (r_dn R q v) = JB b R := by
  unfold r_dn
  simp (disch := decide) only [CQ_I, CQ_A, CQ_G, CQ_P, CQ_J, CQ_i, CQ_a, CQ_z, CT_I, CT_A, CT_G, CT_P, CT_J, CT_i, CT_a, CT_z, CC_I, CC_A, CC_G, CC_P, CC_J, CC_i, CC_a, CC_z, CM_I, CM_A, CM_G, CM_P, CM_J, CM_i, CM_a, CM_z, NM_I, NM_A, NM_G, NM_P, NM_J, NM_i, NM_a, NM_z, TH_I, TH_A, TH_G, TH_P, TH_J, TH_i, TH_a, TH_z, CH_I, CH_A, CH_G, CH_P, CH_J, CH_i, CH_a, CH_z, IN_I, IN_A, IN_G, IN_P, IN_J, IN_i, IN_a, IN_z, ME_I, ME_A, ME_G, ME_P, ME_J, ME_i, ME_a, ME_z, JR_I, JR_A, JR_G, JR_P, JR_J, JR_i, JR_a, JR_z, GL_I, GL_A, GL_G, GL_P, GL_J, GL_i, GL_a, GL_z, TX_I, TX_A, TX_G, TX_P, TX_J, TX_i, TX_a, TX_z, PD_I, PD_A, PD_G, PD_P, PD_J, PD_i, PD_a, PD_z, JB_i, JB_a, JB_z]
theorem r_dn_PD {R : r_S} {q : Nat} {v : Int32} : n_A [2483, 2484, 2485, 2486, 2487, 2488, 2489, 2490, 2491] (r_dn R q v) = n_A [2483, 2484, 2485, 2486, 2487, 2488, 2489, 2490, 2491] R := by
  unfold r_dn
  simp (disch := decide) only [n_An, n_AI]
