/-! A partition's own fields do not touch what processes show. -/
theorem W0_pk {b : Nat} {L : c_L} {Z : z_C} {K : c_S} {R : r_S} {f i : Nat} {v : Int32} (hf : f ∈ [1009, 1010, 1011, 1012, 1013, 1014, 1016, 1017, 1018]) (h : W0 b L Z K R) : W0 b L Z (cs_I K f i v) R := by
  have ers : RS L Z (cs_I K f i v) R = RS L Z K R := by
    simp only [List.mem_cons, List.not_mem_nil, or_false] at hf
    unfold RS
    rcases hf with rfl | rfl | rfl | rfl | rfl | rfl | rfl | rfl | rfl
    all_goals simp (disch := decide) only [CQ_I, CQ_A, CQ_G, CQ_P, CQ_J, CQ_i, CQ_a, CQ_z, CT_I, CT_A, CT_G, CT_P, CT_J, CT_i, CT_a, CT_z, CC_I, CC_A, CC_G, CC_P, CC_J, CC_i, CC_a, CC_z, CM_I, CM_A, CM_G, CM_P, CM_J, CM_i, CM_a, CM_z, NM_I, NM_A, NM_G, NM_P, NM_J, NM_i, NM_a, NM_z, TH_I, TH_A, TH_G, TH_P, TH_J, TH_i, TH_a, TH_z, CH_I, CH_A, CH_G, CH_P, CH_J, CH_i, CH_a, CH_z, IN_I, IN_A, IN_G, IN_P, IN_J, IN_i, IN_a, IN_z, ME_I, ME_A, ME_G, ME_P, ME_J, ME_i, ME_a, ME_z, JR_I, JR_A, JR_G, JR_P, JR_J, JR_i, JR_a, JR_z, GL_I, GL_A, GL_G, GL_P, GL_J, GL_i, GL_a, GL_z, TX_I, TX_A, TX_G, TX_P, TX_J, TX_i, TX_a, TX_z, PD_I, PD_A, PD_G, PD_P, PD_J, PD_i, PD_a, PD_z, JB_i, JB_a, JB_z]
  have hf2 : f < 1400 ∨ 1420 ≤ f := by
    simp only [List.mem_cons, List.not_mem_nil, or_false] at hf
    omega
  have e : ∀ q : Nat, p_k (cs_I K f i v) q = p_k K q := fun q => pk_f hf2
  obtain ⟨rs, dp, op, ti, jb⟩ := h
  refine ⟨ers ▸ rs, ⟨fun p hp j hj => ?_, dp.2⟩, OP_s op (fun p => ?_) rfl (fun q => ⟨by rw [e], rfl, rfl, rfl, rfl⟩), ti, jb⟩
  · rw [e]; exact dp.1 p hp j hj
  · refine if_neg (fun z => ?_)
    simp only [List.mem_cons, List.not_mem_nil, or_false] at hf
    omega
theorem W0_pr {b : Nat} {L : c_L} {Z : z_C} {K : c_S} {R : r_S} {f i : Nat} {v : Int32} (hf : f ∈ [2483, 2484, 2485, 2486, 2487, 2488, 2489, 2490, 2491]) (h : W0 b L Z K R) : W0 b L Z K (rs_A R f i v) := by
  have hf3 := hf
  simp only [List.mem_cons, List.not_mem_nil, or_false] at hf3
  have ers : RS L Z K (rs_A R f i v) = RS L Z K R := by
    unfold RS
    rcases hf3 with rfl | rfl | rfl | rfl | rfl | rfl | rfl | rfl | rfl
    all_goals simp (disch := decide) only [CQ_I, CQ_A, CQ_G, CQ_P, CQ_J, CQ_i, CQ_a, CQ_z, CT_I, CT_A, CT_G, CT_P, CT_J, CT_i, CT_a, CT_z, CC_I, CC_A, CC_G, CC_P, CC_J, CC_i, CC_a, CC_z, CM_I, CM_A, CM_G, CM_P, CM_J, CM_i, CM_a, CM_z, NM_I, NM_A, NM_G, NM_P, NM_J, NM_i, NM_a, NM_z, TH_I, TH_A, TH_G, TH_P, TH_J, TH_i, TH_a, TH_z, CH_I, CH_A, CH_G, CH_P, CH_J, CH_i, CH_a, CH_z, IN_I, IN_A, IN_G, IN_P, IN_J, IN_i, IN_a, IN_z, ME_I, ME_A, ME_G, ME_P, ME_J, ME_i, ME_a, ME_z, JR_I, JR_A, JR_G, JR_P, JR_J, JR_i, JR_a, JR_z, GL_I, GL_A, GL_G, GL_P, GL_J, GL_i, GL_a, GL_z, TX_I, TX_A, TX_G, TX_P, TX_J, TX_i, TX_a, TX_z, PD_I, PD_A, PD_G, PD_P, PD_J, PD_i, PD_a, PD_z, JB_i, JB_a, JB_z]
  have ejb : JB b (rs_A R f i v) = JB b R := JB_a
  have hf2 : f < 2467 ∨ 2483 ≤ f ∨ f = 2477 := by omega
  have e : ∀ q : Nat, p_r (rs_A R f i v) q = p_r R q := fun q => pr_f hf2
  have ey : ∀ q : Nat, p_y (rs_A R f i v) q = p_y R q := fun q => py_f (by omega)
  obtain ⟨rs, dp, op, ti, jb⟩ := h
  refine ⟨ers ▸ rs, ⟨fun p hp j hj => ?_, fun q hq hx => ?_⟩, OP_s op (fun _ => rfl) rfl (fun q => by rw [e]; exact ⟨rfl, rfl, rfl, rfl, rfl⟩), ⟨ti.1, fun p hp j hj => ?_⟩, ejb ▸ jb⟩
  · rw [e, ey]; exact dp.1 p hp j hj
  · rw [e]; exact dp.2 q hq hx
  · have e2 : ∀ g x : Nat, g < 2483 → r_A (rs_A R f i v) g x = r_A R g x := fun g x hg => if_neg (fun z => by omega)
    rw [e, e2 _ _ (by decide), show (fun a => r_A (rs_A R f i v) 2448 (16 * p + a)) = (fun a => r_A R 2448 (16 * p + a)) from funext fun a => e2 _ _ (by decide), show (fun a => r_A (rs_A R f i v) 2450 (16 * p + a)) = (fun a => r_A R 2450 (16 * p + a)) from funext fun a => e2 _ _ (by decide)]
    exact ti.2 p hp j hj
theorem pd_kw {K : c_S} {f p : Nat} {v : Int32} (hf : f ∈ [1009, 1010, 1011, 1012, 1013, 1014, 1016, 1017, 1018]) : pd_k (cs_I K f p v) p = qs_1 (pd_k K p) f v := by
  refine funext fun g => ?_
  show (if g ∈ [1009, 1010, 1011, 1012, 1013, 1014, 1016, 1017, 1018] then (if g = f ∧ p = p then v else c_I K g p) else 0) = (if g = f then v else if g ∈ [1009, 1010, 1011, 1012, 1013, 1014, 1016, 1017, 1018] then c_I K g p else 0)
  by_cases e : g = f
  · rw [if_pos e, if_pos (by rw [e]; exact hf), if_pos ⟨e, rfl⟩]
  · rw [if_neg e, if_neg (fun z : g = f ∧ p = p => e z.1)]
theorem pd_kn {K : c_S} {f p p' : Nat} {v : Int32} (h : p' ≠ p) : pd_k (cs_I K f p v) p' = pd_k K p' := by
  refine funext fun g => ?_
  show (if g ∈ [1009, 1010, 1011, 1012, 1013, 1014, 1016, 1017, 1018] then (if g = f ∧ p' = p then v else c_I K g p') else 0) = _
  rw [if_neg (fun z : g = f ∧ p' = p => h z.2)]
  rfl
theorem pd_rw {R : r_S} {f p : Nat} {v : Int32} (hf : f ∈ [2483, 2484, 2485, 2486, 2487, 2488, 2489, 2490, 2491]) : pd_r (rs_A R f p v) p = qs_1 (pd_r R p) f v := by
  refine funext fun g => ?_
  show (if g ∈ [2483, 2484, 2485, 2486, 2487, 2488, 2489, 2490, 2491] then (if g = f ∧ p = p then v else r_A R g p) else 0) = (if g = f then v else if g ∈ [2483, 2484, 2485, 2486, 2487, 2488, 2489, 2490, 2491] then r_A R g p else 0)
  by_cases e : g = f
  · rw [if_pos e, if_pos (by rw [e]; exact hf), if_pos ⟨e, rfl⟩]
  · rw [if_neg e, if_neg (fun z : g = f ∧ p = p => e z.1)]
theorem pd_rn {R : r_S} {f p p' : Nat} {v : Int32} (h : p' ≠ p) : pd_r (rs_A R f p v) p' = pd_r R p' := by
  refine funext fun g => ?_
  show (if g ∈ [2483, 2484, 2485, 2486, 2487, 2488, 2489, 2490, 2491] then (if g = f ∧ p' = p then v else r_A R g p') else 0) = _
  rw [if_neg (fun z : g = f ∧ p' = p => h z.2)]
  rfl
theorem pd_ko {K K' : c_S} (h : m_I [1009, 1010, 1011, 1012, 1013, 1014, 1016, 1017, 1018] K' = m_I [1009, 1010, 1011, 1012, 1013, 1014, 1016, 1017, 1018] K) (p : Nat) : pd_k K' p = pd_k K p := funext fun f => by unfold pd_k; rw [h]
theorem pd_ro {R R' : r_S} (h : n_A [2483, 2484, 2485, 2486, 2487, 2488, 2489, 2490, 2491] R' = n_A [2483, 2484, 2485, 2486, 2487, 2488, 2489, 2490, 2491] R) (p : Nat) : pd_r R' p = pd_r R p := funext fun f => by unfold pd_r; rw [h]
theorem nI_m1 {n : Nat} (h : n < 2 ^ 31) : nI n ≠ -1 := fun z => by
  have := congrArg Int32.toInt z
  rw [nI_toInt h] at this
  have t : (-1 : Int32).toInt = -1 := by decide
  omega
/-- the locker rests -/
theorem PDv_L {Z : z_C} {p j : Nat} {k r s s' : Nat → Int32} (h : PDv Z p k r s) (n16 : z_nq Z p ≤ 16) (hj : j < z_nq Z p) (hl : k 1013 ≠ 0) (hlj : k 1014 = nI j) (ej : ∀ i : Nat, i ≠ j → s' i = s i) (e0 : s' j = 0) : PDv Z p (qs_1 (qs_1 k 1013 0) 1014 (-1)) (qs_1 r 2486 0) s' := by
  obtain ⟨g1, g2, g3, g4, g5, g6, g7, g8, g9⟩ := h
  obtain ⟨i, a1, a2, a3, a4, a5⟩ := g5 hl
  obtain rfl : i = j := by
    have := (nI_eq (a := i) (b := j) (by omega) (by omega)).mp (a3.symm.trans hlj)
    exact this
  refine ⟨⟨g1.1, g1.2.1, g1.2.2.1, g1.2.2.2.1, rfl⟩, g2, ⟨(by decide : (0 : Int) ≤ (0 : Int32).toInt), (by decide : (0 : Int32).toInt ≤ 8)⟩, fun _ => rfl, fun z => absurd rfl z, ?_, g7, fun i' hi => ?_, fun z i' hi => ?_⟩
  · rcases g6 with ⟨b1, b2⟩ | ⟨i', h', b1, b2, b3, b4, b5, b6, b7, b8, b9, b10⟩
    · refine Or.inl ⟨b1, fun i' hi => ?_⟩
      by_cases e : i' = i
      · rw [e, e0]; decide
      · rw [ej i' e]; exact b2 i' hi
    · have e : i' ≠ i := fun e => by rw [e, a5] at b8; exact absurd b8 (by decide)
      have e2 : h' ≠ i := fun e => a2 (by rw [← e]; exact b2)
      refine Or.inr ⟨i', h', b1, b2, b3, b4, b5, b6, b7, by rw [ej i' e]; exact b8, by rw [ej h' e2]; exact b9, fun x hx z => ?_⟩
      by_cases e3 : x = i
      · rw [e3, e0] at z; exact absurd z (by decide)
      · rw [ej x e3] at z; exact b10 x hx z
  · have e : i' ≠ i := fun e => a2 (by rw [← e]; exact hi)
    rw [ej i' e]; exact g8 i' hi
  · by_cases e : i' = i
    · rw [e]; exact e0
    · rw [ej i' e]; exact g9 z i' hi
/-- the faulted one leaves that state -/
theorem PDv_F {Z : z_C} {p j : Nat} {k r s s' : Nat → Int32} (h : PDv Z p k r s) (n16 : z_nq Z p ≤ 16) (hj : j < z_nq Z p) (hf : k 1016 = nI j) (ej : ∀ i : Nat, i ≠ j → s' i = s i) (e3 : s' j ≠ 3) (hm : r 2483 = 0 ∨ s' j = 0) : PDv Z p (qs_1 k 1016 (-1)) r s' := by
  obtain ⟨g1, g2, g3, g4, g5, g6, g7, g8, g9⟩ := h
  rcases g6 with ⟨b1, b2⟩ | ⟨i, h', b1, b2, b3, b4, b5, b6, b7, b8, b9, b10⟩
  · exact absurd (hf.symm.trans b1) (nI_m1 (by omega))
  · obtain rfl : i = j := by
      have := (nI_eq (a := i) (b := j) (by omega) (by omega)).mp (b4.symm.trans hf)
      exact this
    refine ⟨g1, g2, g3, g4, fun z => ?_, Or.inl ⟨rfl, fun i' hi => ?_⟩, g7, fun i' hi => ?_, fun z i' hi => ?_⟩
    · obtain ⟨x, a1, a2, a3, a4, a5⟩ := g5 z
      have e : x ≠ i := fun e => by rw [e, b8] at a5; exact absurd a5 (by decide)
      exact ⟨x, a1, a2, a3, a4, by rw [ej x e]; exact a5⟩
    · by_cases e : i' = i
      · rw [e]; exact e3
      · rw [ej i' e]; exact fun z => e (b10 i' hi z)
    · have e : i' ≠ i := fun e => by
        have : some i' = some h' := hi.symm.trans b2
        injection this with this
        exact b3 (by rw [← e, this])
      rw [ej i' e]; exact g8 i' hi
    · by_cases e : i' = i
      · rcases hm with q | q
        · exact absurd (show r 2483 = 1 from z) (by rw [q]; decide)
        · rw [e]; exact q
      · rw [ej i' e]; exact g9 z i' hi
/-- the handler rests, and with it the faulted one -/
theorem PDv_H {Z : z_C} {p j i : Nat} {k r s s' : Nat → Int32} (h : PDv Z p k r s) (n16 : z_nq Z p ≤ 16) (hj : j < z_nq Z p) (hi : i < z_nq Z p) (hh : z_hd Z p = some j) (hf : k 1016 = nI i) (ej : ∀ x : Nat, x ≠ j → x ≠ i → s' x = s x) (e0 : s' j = 0) (e1 : s' i = 0) : PDv Z p (qs_1 k 1016 (-1)) r s' := by
  obtain ⟨g1, g2, g3, g4, g5, g6, g7, g8, g9⟩ := h
  rcases g6 with ⟨b1, b2⟩ | ⟨i0, h', b1, b2, b3, b4, b5, b6, b7, b8, b9, b10⟩
  · exact absurd (hf.symm.trans b1) (nI_m1 (by omega))
  · obtain rfl : i0 = i := (nI_eq (a := i0) (b := i) (by omega) (by omega)).mp (b4.symm.trans hf)
    refine ⟨g1, g2, g3, g4, fun z => ?_, Or.inl ⟨rfl, fun x hx => ?_⟩, g7, fun x hx => ?_, fun z x hx => ?_⟩
    · obtain ⟨x, a1, a2, a3, a4, a5⟩ := g5 z
      have e : x ≠ i0 := fun e => by rw [e, b8] at a5; exact absurd a5 (by decide)
      have e2 : x ≠ j := fun e => a2 (by rw [e]; exact hh)
      exact ⟨x, a1, a2, a3, a4, by rw [ej x e2 e]; exact a5⟩
    · by_cases e : x = i0
      · rw [e, e1]; decide
      · by_cases e2 : x = j
        · rw [e2, e0]; decide
        · rw [ej x e2 e]; exact fun z => e (b10 x hx z)
    · have : some x = some j := hx.symm.trans hh
      injection this with this
      rw [this, e0]
      exact ⟨hj, Or.inl rfl⟩
    · by_cases e : x = i0
      · rw [e]; exact e1
      · by_cases e2 : x = j
        · rw [e2]; exact e0
        · rw [ej x e2 e]; exact g9 z x hx
theorem kr26a {L : c_L} {S : c_S} {p q n : Nat} {Q : c_S → Prop} (hn : c_I S 1004 p = nI n) (m : c_mk L 7 q) (e : c_I S 1016 p = -1) (h : Q S) : kb_X5_rest_26 L S p (some q) Q := ke_processAt0 hn (Or.inl (by rw [e]; decide)) ⟨q, rfl, m, fun _ => h, fun _ => ⟨fun _ => h, fun z => absurd rfl z⟩⟩
theorem kr26b {L : c_L} {S : c_S} {p q n i : Nat} {Q : c_S → Prop} (hn : c_I S 1004 p = nI n) (m : c_mk L 7 q) (hi : i < n) (n16 : n ≤ 16) (mi : c_mk L 7 (16 * p + i)) (e : c_I S 1016 p = nI i) (e7 : c_I S 1407 q = 0) (h : Q S) : kb_X5_rest_26 L S p (some q) Q := by
  show km_X5_processAt L S p (c_I S 1016 p) _
  rw [e]
  exact ke_processAt hn hi n16 mi ⟨q, rfl, m, fun _ => h, fun z => absurd e7 z⟩
theorem kr26c {L : c_L} {S : c_S} {p q n i : Nat} {Q : c_S → Prop} (hn : c_I S 1004 p = nI n) (m : c_mk L 7 q) (hi : i < n) (n16 : n ≤ 16) (mi : c_mk L 7 (16 * p + i)) (e : c_I S 1016 p = nI i) (e7 : c_I S 1407 q = 1) (h : Q (cs_I (k_lv S (16 * p + i) 0) 1016 p (-1))) : kb_X5_rest_26 L S p (some q) Q := by
  show km_X5_processAt L S p (c_I S 1016 p) _
  rw [e]
  exact ke_processAt hn hi n16 mi ⟨q, rfl, m, fun z => absurd (e7.symm.trans z) (by decide), fun _ => ⟨fun z => (by cases z), fun _ => ⟨_, rfl, mi, ke_leave h⟩⟩⟩
theorem re_isFaulted0 {R : r_S} {p : Nat} {Q : Option Value → r_S → Prop} (hp : p < 16) (hv : r_A R 2488 p = -1 ∨ vp_in (r_A R 2488 p) 256 ∧ r_A R 2467 (r_A R 2488 p).toNatClampNeg ≠ 3) (h : Q (some (.int 0)) R) : rm_X12_isFaulted R (nI p) Q := by
  unfold rm_X12_isFaulted
  rw [nI_clamp (by omega)]
  refine ⟨ri_v rfl hp (by decide), fun _ => ⟨rfl, h⟩, fun z => ?_⟩
  rcases hv with hv | hv
  · exact absurd hv z
  · exact ⟨ri_v rfl hp (by decide), hv.1, fun _ => ⟨rfl, h⟩, fun z => absurd z hv.2⟩
theorem re_isFaulted1 {R : r_S} {p i : Nat} {Q : Option Value → r_S → Prop} (hp : p < 16) (hi : i < 16) (e : r_A R 2488 p = nI (16 * p + i)) (e3 : r_A R 2467 (16 * p + i) = 3) (h : Q (some (.int 1)) R) : rm_X12_isFaulted R (nI p) Q := by
  unfold rm_X12_isFaulted
  rw [nI_clamp (by omega), e, nI_clamp (by omega)]
  exact ⟨ri_v rfl hp (by decide), fun z => absurd z (nI_m1 (by omega)), fun z => ⟨ri_v rfl hp (by decide), ri_v (n := 256) rfl (by omega) (by decide), fun z => absurd e3 z, fun _ => ⟨rfl, h⟩⟩⟩
/-- rest and dormant -/
theorem P_restX {b : Nat} {L : c_L} {Z : z_C} {K : c_S} {R : r_S} {p j : Nat} (h : WR b L Z K R) (hb : b < 1999999990) (hp : p < z_np Z) (hj : j < z_nq Z p) : ∃ (K' : c_S) (R' : r_S), (∀ Q : c_S → Prop, Q K' → km_X5_rest L K p (some (16 * p + j)) Q) ∧ (∀ Q : Option Value → r_S → Prop, Q none R' → rm_X12_dormant R (nI (16 * p + j)) Q) ∧ WR (b + 2) L Z K' R' ∧ (∀ f i : Nat, c_P K' f i = c_P K f i) ∧ (c_I K' 1016 p = -1 ∨ c_I K' 1016 p = c_I K 1016 p) ∧ r_A R' 2467 (16 * p + j) = 0 ∧ (∀ f : Nat, r_I R' f = r_I R f) ∧ r_A R' 2483 p = r_A R 2483 p ∧ r_A R' 2488 p = r_A R 2488 p := by
  have cq := WR_cq h
  have np16 := CQ_np cq
  have n16 := CQ_nq cq p hp
  have hn := CQ_nq cq
  obtain ⟨m5, -, hcn, -⟩ := CQ_p cq hp
  obtain ⟨mq, hlq, hnum, hflag⟩ := CQ_q cq hp hj
  have hp16 : p < 16 := by omega
  have hj16 : j < 16 := by omega
  have hpd := h.2.2.2.2.1
  have pv := PD_v hpd hp
  obtain ⟨g1, g2, g3, g4, g5, g6, g7, g8, g9⟩ := pv
  have w1 := W0_lv0 (W0_of h) (by omega) hp hj
  have sl_s : ∀ (X : r_S) (q q' : Nat), q' ≠ q → r_A (r_sl X q) 2467 q' = r_A X 2467 q' := fun X q q' hq => congrFun (r_sl_n (R := X) (q := q) (q' := q') hq.symm) 0
  have sl_0 : ∀ (X : r_S) (q : Nat), r_A (r_sl X q) 2467 q = 0 := fun X q => congrFun (r_sl_r (R := X) (q := q)) 0
  have hlv : ¬ r_A (r_sl R (16 * p + j)) 2486 p ≤ 0 → vp_in (r_A (r_sl R (16 * p + j)) 2487 p) 256 := fun z => by
    have z : ¬ r_A R 2486 p ≤ 0 := z
    have z2 : c_I K 1013 p ≠ 0 := fun e => z (by rw [← show c_I K 1013 p = r_A R 2486 p from g1.2.2.2.2, e]; decide)
    obtain ⟨i, a1, -, -, a4, -⟩ := g5 z2
    show vp_in (r_A R 2487 p) 256
    rw [show r_A R 2487 p = nI (16 * p + i) from a4]
    exact vp_in_nI (by omega) (by decide)
  have hfv : r_A R 2488 p = -1 ∨ vp_in (r_A R 2488 p) 256 := by
    rcases g7 with e | ⟨i, a1, a2⟩
    · exact Or.inl e
    · right
      rw [show r_A R 2488 p = nI (16 * p + i) from a2]
      exact vp_in_nI (by omega) (by decide)
  -- the lock's owner
  by_cases cL : c_I K 1013 p ≠ 0 ∧ c_I K 1014 p = nI j
  · -- it owns the lock
    obtain ⟨i, a1, a2, a3, a4, a5⟩ := g5 cL.1
    obtain rfl : i = j := (nI_eq (a := i) (b := j) (by omega) (by omega)).mp ((show c_I K 1014 p = nI i from a3).symm.trans cL.2)
    have nh : z_hd Z p ≠ some i := a2
    have a4' : r_A R 2487 p = nI (16 * p + i) := a4
    have nf : c_I K 1016 p ≠ nI i := fun z => by
      rcases g6 with ⟨b1, b2⟩ | ⟨i', h', b1, b2, b3, b4, b5, b6, b7, b8, b9, b10⟩
      · exact nI_m1 (by omega) (z.symm.trans b1)
      · have : i' = i := (nI_eq (a := i') (b := i) (by omega) (by omega)).mp ((show c_I K 1016 p = nI i' from b4).symm.trans z)
        rw [this, a5] at b8
        exact absurd b8 (by decide)
    refine ⟨cs_I (cs_I (k_lv K (16 * p + i) 0) 1013 p 0) 1014 p (-1), rs_A (r_sl R (16 * p + i)) 2486 p 0, fun Q hQ => ?_, fun Q hQ => ?_, ?_, fun _ _ => rfl, Or.inr rfl, sl_0 R _, fun _ => rfl, rfl, rfl⟩
    · refine ⟨_, rfl, mq, ke_leave (ke_unlockOf mq ?_)⟩
      rw [show k_ul (k_lv K (16 * p + i) 0) p (16 * p + i) = cs_I (cs_I (k_lv K (16 * p + i) 0) 1013 p 0) 1014 p (-1) from if_pos (show c_I K 1014 p = c_I K 1400 (16 * p + i) by rw [cL.2, hnum])]
      have nf' : ¬ c_I (cs_I (cs_I (k_lv K (16 * p + i) 0) 1013 p 0) 1014 p (-1)) 1400 (16 * p + i) = c_I (cs_I (cs_I (k_lv K (16 * p + i) 0) 1013 p 0) 1014 p (-1)) 1016 p := fun z => nf (by
        have z : c_I K 1400 (16 * p + i) = c_I K 1016 p := z
        rw [← z, hnum])
      refine ⟨fun _ => ?_, fun z => absurd z nf'⟩
      rcases g6 with ⟨b1, b2⟩ | ⟨i', h', b1, b2, b3, b4, b5, b6, b7, b8, b9, b10⟩
      · exact kr26a hcn mq b1 hQ
      · exact kr26b hcn mq b1 n16 (CQ_q cq hp b1).1 b4 (by
          show c_I K 1407 (16 * p + i) = 0
          rw [hflag, if_neg nh]) hQ
    · have hne : r_A (rs_A (r_sl R (16 * p + i)) 2486 p 0) 2442 p ≠ nI (16 * p + i) := fun z => nh ((CQ_hq cq hp hj).mp z)
      refine re_partitionOf hp16 hj16 ⟨_, rfl, re_sleeps hp16 hj16 hlv ⟨rfl, ?_⟩⟩
      rw [show r_ul (r_sl R (16 * p + i)) p = rs_A (r_sl R (16 * p + i)) 2486 p 0 from if_pos ⟨fun z => cL.1 ?_, fun z => ?_⟩]
      · exact re_isHandler0 hp16 hj16 hne ⟨_, rfl, fun _ => hQ, fun z => absurd rfl z⟩
      · have z : r_A R 2486 p ≤ 0 := z
        have := g3.1
        have z1 := i_le0.mp z
        have e : (r_A R 2486 p).toInt = 0 := Int.le_antisymm z1 this
        exact g1.2.2.2.2.trans (Int32.toInt_inj.mp e)
      · have z : r_A (r_sl R (16 * p + i)) 2467 (r_A R 2487 p).toNatClampNeg = 1 := z
        rw [a4', nI_clamp (by omega), sl_0] at z
        exact absurd z (by decide)
    · refine WR_w (b := b + 1) (WR_of (W0_pk (by decide) (W0_pk (by decide) (W0_pr (by decide) w1))) ?_) (by omega)
      refine PD_p (p := p) hpd hn (fun p' hp' => by rw [pd_kn hp', pd_kn hp', pd_ko k_lv_PD]) (fun p' hp' => by rw [pd_rn hp', pd_ro r_sl_PD]) (fun q hq => sl_s R _ q (by omega)) (fun _ => ?_)
      rw [pd_kw (by decide), pd_kw (by decide), pd_ko k_lv_PD, pd_rw (by decide), pd_ro r_sl_PD]
      exact PDv_L (PD_v hpd hp) n16 hj cL.1 cL.2 (fun i' hi => sl_s R _ _ (by omega)) (sl_0 R _)
  · -- it owns none
    have ncl : c_I K 1013 p = 0 ∨ c_I K 1014 p ≠ nI j := by
      by_cases e : c_I K 1013 p = 0
      · exact Or.inl e
      · exact Or.inr (fun z => cL ⟨e, z⟩)
    have ncl2 : ¬ c_I K 1014 p = nI j := fun z => by
      rcases ncl with e | e
      · exact nI_m1 (by omega) (z.symm.trans (g4 e))
      · exact e z
    have ekul : k_ul (k_lv K (16 * p + j) 0) p (16 * p + j) = k_lv K (16 * p + j) 0 := if_neg (show ¬ c_I K 1014 p = c_I K 1400 (16 * p + j) by rw [hnum]; exact ncl2)
    have erul : r_ul (r_sl R (16 * p + j)) p = r_sl R (16 * p + j) := if_neg (fun z => by
      obtain ⟨z1, z2⟩ := z
      have z1 : ¬ r_A R 2486 p ≤ 0 := z1
      have z3 : c_I K 1013 p ≠ 0 := fun e => z1 (by rw [← show c_I K 1013 p = r_A R 2486 p from g1.2.2.2.2, e]; decide)
      obtain ⟨i, a1, a2, a3, a4, a5⟩ := g5 z3
      have hij : i ≠ j := fun e => ncl2 (by rw [← e]; exact a3)
      refine z2 ?_
      show r_A (r_sl R (16 * p + j)) 2467 (r_A R 2487 p).toNatClampNeg = 1
      rw [show r_A R 2487 p = nI (16 * p + i) from a4, nI_clamp (by omega), sl_s R _ _ (by omega)]
      exact a5)
    rcases g6 with ⟨b1, b2⟩ | ⟨i, h', b1, b2, b3, b4, b5, b6, b7, b8, b9, b10⟩
    · -- nobody is faulted
      have b1 : c_I K 1016 p = -1 := b1
      refine ⟨k_lv K (16 * p + j) 0, r_sl R (16 * p + j), fun Q hQ => ?_, fun Q hQ => ?_, ?_, fun _ _ => rfl, Or.inr rfl, sl_0 R _, fun _ => rfl, rfl, rfl⟩
      · refine ⟨_, rfl, mq, ke_leave (ke_unlockOf mq ?_)⟩
        rw [ekul]
        refine ⟨fun _ => kr26a hcn mq b1 hQ, fun z => ?_⟩
        have z : c_I K 1400 (16 * p + j) = c_I K 1016 p := z
        rw [hnum, b1] at z
        exact absurd z (nI_m1 (by omega))
      · refine re_partitionOf hp16 hj16 ⟨_, rfl, re_sleeps hp16 hj16 hlv ⟨rfl, ?_⟩⟩
        rw [erul]
        by_cases eh : z_hd Z p = some j
        · refine re_isHandler1 hp16 hj16 ((CQ_hq cq hp hj).mpr eh) ⟨_, rfl, fun z => absurd z (by decide), fun _ => re_isFaulted0 hp16 ?_ ⟨_, rfl, fun _ => hQ, fun z => absurd rfl z⟩⟩
          rcases g7 with e | ⟨i, a1, a2⟩
          · exact Or.inl e
          · refine Or.inr ?_
            rw [show r_A (r_sl R (16 * p + j)) 2488 p = nI (16 * p + i) from a2, nI_clamp (by omega)]
            refine ⟨vp_in_nI (by omega) (by decide), ?_⟩
            by_cases e : i = j
            · rw [e, sl_0]; decide
            · rw [sl_s R _ _ (by omega)]; exact b2 i a1
        · exact re_isHandler0 hp16 hj16 (fun z => eh ((CQ_hq cq hp hj).mp z)) ⟨_, rfl, fun _ => hQ, fun z => absurd rfl z⟩
      · refine WR_w (b := b + 1) (WR_of w1 ?_) (by omega)
        exact PD_1 hpd hp hj hn k_lv_PD r_sl_PD (fun q hq => sl_s R _ q hq) (Or.inr (sl_0 R _)) (b2 j hj) (by rw [sl_0]; decide) (fun _ => ncl) (fun _ => Or.inr ⟨sl_0 R _, b1⟩)
    · have b4 : c_I K 1016 p = nI i := b4
      have b5 : r_A R 2488 p = nI (16 * p + i) := b5
      have b8 : r_A R 2467 (16 * p + i) = 3 := b8
      have mi := (CQ_q cq hp b1).1
      have hi16 : i < 16 := by omega
      by_cases eij : j = i
      · -- it is the faulted one
        subst eij
        have nh : z_hd Z p ≠ some j := fun z => b3 (by
          have := z.symm.trans b2
          injection this)
        refine ⟨cs_I (k_lv K (16 * p + j) 0) 1016 p (-1), r_sl R (16 * p + j), fun Q hQ => ?_, fun Q hQ => ?_, ?_, fun _ _ => rfl, Or.inl c_Is, sl_0 R _, fun _ => rfl, rfl, rfl⟩
        · refine ⟨_, rfl, mq, ke_leave (ke_unlockOf mq ?_)⟩
          rw [ekul]
          refine ⟨fun z => absurd (show c_I K 1400 (16 * p + j) = c_I K 1016 p by rw [hnum, b4]) z, fun _ => kr26a hcn mq c_Is hQ⟩
        · refine re_partitionOf hp16 hj16 ⟨_, rfl, re_sleeps hp16 hj16 hlv ⟨rfl, ?_⟩⟩
          rw [erul]
          exact re_isHandler0 hp16 hj16 (fun z => nh ((CQ_hq cq hp hj).mp z)) ⟨_, rfl, fun _ => hQ, fun z => absurd rfl z⟩
        · refine WR_w (b := b + 1) (WR_of (W0_pk (by decide) w1) ?_) (by omega)
          refine PD_p (p := p) hpd hn (fun p' hp' => by rw [pd_kn hp', pd_ko k_lv_PD]) (fun p' hp' => by rw [pd_ro r_sl_PD]) (fun q hq => sl_s R _ q (by omega)) (fun _ => ?_)
          rw [pd_kw (by decide), pd_ko k_lv_PD, pd_ro r_sl_PD]
          exact PDv_F (PD_v hpd hp) n16 hj b4 (fun i' hi => sl_s R _ _ (by omega)) (by show r_A (r_sl R (16 * p + j)) 2467 (16 * p + j) ≠ 3; rw [sl_0]; decide) (Or.inr (sl_0 R _))
      · by_cases eh : z_hd Z p = some j
        · -- the handler, with a faulted one
          have w2 := W0_lv0 w1 (by omega) hp b1
          refine ⟨cs_I (k_lv (k_lv K (16 * p + j) 0) (16 * p + i) 0) 1016 p (-1), r_sl (r_sl R (16 * p + j)) (16 * p + i), fun Q hQ => ?_, fun Q hQ => ?_, ?_, fun _ _ => rfl, Or.inl c_Is, (sl_s (r_sl R (16 * p + j)) _ _ (by omega)).trans (sl_0 R _), fun _ => rfl, rfl, rfl⟩
          · refine ⟨_, rfl, mq, ke_leave (ke_unlockOf mq ?_)⟩
            rw [ekul]
            refine ⟨fun _ => kr26c hcn mq b1 n16 mi b4 (by
              show c_I K 1407 (16 * p + j) = 1
              rw [hflag, if_pos eh]) hQ, fun z => ?_⟩
            have z : c_I K 1400 (16 * p + j) = c_I K 1016 p := z
            rw [hnum, b4] at z
            exact absurd ((nI_eq (by omega) (by omega)).mp z) eij
          · refine re_partitionOf hp16 hj16 ⟨_, rfl, re_sleeps hp16 hj16 hlv ⟨rfl, ?_⟩⟩
            rw [erul]
            refine re_isHandler1 hp16 hj16 ((CQ_hq cq hp hj).mpr eh) ⟨_, rfl, fun z => absurd z (by decide), fun _ => re_isFaulted1 hp16 hi16 b5 (by rw [sl_s R _ _ (by omega)]; exact b8) ⟨_, rfl, fun z => absurd z (by decide), fun _ => ⟨ri_v rfl hp16 (by decide), ?_⟩⟩⟩
            rw [nI_clamp (by omega), show r_A (r_sl R (16 * p + j)) 2488 p = nI (16 * p + i) from b5]
            refine re_sleeps hp16 hi16 ?_ ⟨rfl, ?_⟩
            · intro z; exact hlv z
            · rw [show r_ul (r_sl (r_sl R (16 * p + j)) (16 * p + i)) p = r_sl (r_sl R (16 * p + j)) (16 * p + i) from if_neg (fun z => ?_)]
              · exact hQ
              · obtain ⟨z1, z2⟩ := z
                have z1 : ¬ r_A R 2486 p ≤ 0 := z1
                have z3 : c_I K 1013 p ≠ 0 := fun e => z1 (by rw [← show c_I K 1013 p = r_A R 2486 p from g1.2.2.2.2, e]; decide)
                obtain ⟨x, a1, a2, a3, a4, a5⟩ := g5 z3
                have a5 : r_A R 2467 (16 * p + x) = 1 := a5
                have hxj : x ≠ j := fun e => ncl2 (by rw [← e]; exact a3)
                have hxi : x ≠ i := fun e => by rw [e, b8] at a5; exact absurd a5 (by decide)
                refine z2 ?_
                show r_A (r_sl (r_sl R (16 * p + j)) (16 * p + i)) 2467 (r_A R 2487 p).toNatClampNeg = 1
                rw [show r_A R 2487 p = nI (16 * p + x) from a4, nI_clamp (by omega), sl_s _ _ _ (by omega), sl_s R _ _ (by omega)]
                exact a5
          · refine WR_of (W0_pk (by decide) w2) ?_
            refine PD_p (p := p) hpd hn (fun p' hp' => by rw [pd_kn hp', pd_ko k_lv_PD, pd_ko k_lv_PD]) (fun p' hp' => by rw [pd_ro r_sl_PD, pd_ro r_sl_PD]) (fun q hq => by rw [sl_s _ _ q (by omega), sl_s R _ q (by omega)]) (fun _ => ?_)
            rw [pd_kw (by decide), pd_ko k_lv_PD, pd_ko k_lv_PD, pd_ro r_sl_PD, pd_ro r_sl_PD]
            refine PDv_H (PD_v hpd hp) n16 hj b1 eh b4 (fun x h1 h2 => ?_) ?_ (sl_0 _ _)
            · show r_A (r_sl (r_sl R (16 * p + j)) (16 * p + i)) 2467 (16 * p + x) = r_A R 2467 (16 * p + x)
              rw [sl_s _ _ _ (by omega), sl_s R _ _ (by omega)]
            · show r_A (r_sl (r_sl R (16 * p + j)) (16 * p + i)) 2467 (16 * p + j) = 0
              rw [sl_s _ _ _ (by omega), sl_0]
        · -- another one
          refine ⟨k_lv K (16 * p + j) 0, r_sl R (16 * p + j), fun Q hQ => ?_, fun Q hQ => ?_, ?_, fun _ _ => rfl, Or.inr rfl, sl_0 R _, fun _ => rfl, rfl, rfl⟩
          · refine ⟨_, rfl, mq, ke_leave (ke_unlockOf mq ?_)⟩
            rw [ekul]
            refine ⟨fun _ => kr26b hcn mq b1 n16 mi b4 (by
              show c_I K 1407 (16 * p + j) = 0
              rw [hflag, if_neg eh]) hQ, fun z => ?_⟩
            have z : c_I K 1400 (16 * p + j) = c_I K 1016 p := z
            rw [hnum, b4] at z
            exact absurd ((nI_eq (by omega) (by omega)).mp z) eij
          · refine re_partitionOf hp16 hj16 ⟨_, rfl, re_sleeps hp16 hj16 hlv ⟨rfl, ?_⟩⟩
            rw [erul]
            exact re_isHandler0 hp16 hj16 (fun z => eh ((CQ_hq cq hp hj).mp z)) ⟨_, rfl, fun _ => hQ, fun z => absurd rfl z⟩
          · refine WR_w (b := b + 1) (WR_of w1 ?_) (by omega)
            refine PD_1 hpd hp hj hn k_lv_PD r_sl_PD (fun q hq => sl_s R _ q hq) (Or.inr (sl_0 R _)) (fun z => eij (b10 j hj z)) (by rw [sl_0]; decide) (fun _ => ncl) (fun z => absurd z eh)
theorem P_rest {b : Nat} {L : c_L} {Z : z_C} {K : c_S} {R : r_S} {p j : Nat} (h : WR b L Z K R) (hb : b < 1999999990) (hp : p < z_np Z) (hj : j < z_nq Z p) : ∃ (K' : c_S) (R' : r_S), (∀ Q : c_S → Prop, Q K' → km_X5_rest L K p (some (16 * p + j)) Q) ∧ (∀ Q : Option Value → r_S → Prop, Q none R' → rm_X12_dormant R (nI (16 * p + j)) Q) ∧ WR (b + 2) L Z K' R' ∧ ∀ f i : Nat, c_P K' f i = c_P K f i := by
  obtain ⟨K', R', h1, h2, h3, h4, -⟩ := P_restX h hb hp hj
  exact ⟨K', R', h1, h2, h3, h4⟩
