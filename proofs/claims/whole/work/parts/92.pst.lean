/-! start and startsAt -/
theorem k_s0_PD {L : c_L} {K : c_S} {q : Nat} {t : Int32} : m_I [1009, 1010, 1011, 1012, 1013, 1014, 1016, 1017, 1018] (k_sr (k_rs L K q) q t) = m_I [1009, 1010, 1011, 1012, 1013, 1014, 1016, 1017, 1018] K := by
  rw [k_sr_PD]
  unfold k_rs c_fi
  rw [m_In (by decide), m_In (by decide)]
  rfl
theorem r_s2_PD {R : r_S} {q : Nat} {t : Int32} : n_A [2483, 2484, 2485, 2486, 2487, 2488, 2489, 2490, 2491] (r_s2 R q t) = n_A [2483, 2484, 2485, 2486, 2487, 2488, 2489, 2490, 2491] R := by
  unfold r_s2 r_s1
  rw [n_An (by decide), n_An (by decide), n_An (by decide), n_An (by decide), n_An (by decide), n_Az (by decide)]
theorem r_rdy_PD {R : r_S} {q : Nat} : n_A [2483, 2484, 2485, 2486, 2487, 2488, 2489, 2490, 2491] (r_rdy R q) = n_A [2483, 2484, 2485, 2486, 2487, 2488, 2489, 2490, 2491] R := by
  unfold r_rdy
  simp (disch := decide) only [n_An, n_AI]
theorem k_rdy_PD {K : c_S} {p q : Nat} : m_I [1009, 1010, 1011, 1012, 1013, 1014, 1016, 1017, 1018] (k_rdy K p q) = m_I [1009, 1010, 1011, 1012, 1013, 1014, 1016, 1017, 1018] K := by
  unfold k_rdy
  rw [m_In (by decide), m_In (by decide), m_In (by decide), m_In (by decide), m_In (by decide)]
theorem r_sw_PD {R : r_S} {q : Nat} {t : Int32} : n_A [2483, 2484, 2485, 2486, 2487, 2488, 2489, 2490, 2491] (r_sw R q t) = n_A [2483, 2484, 2485, 2486, 2487, 2488, 2489, 2490, 2491] R := by
  unfold r_sw
  rw [n_An (by decide), n_An (by decide), r_rdy_PD, r_s2_PD]
/-- the partition's own fields behind a start -/
theorem pd_sx {L : c_L} {K : c_S} {p q : Nat} {t : Int32} : pd_k (k_sx L K p q t) p = (if c_I K 1400 q = c_I K 1016 p then qs_1 (pd_k K p) 1016 (-1) else pd_k K p) ∧ ∀ p' : Nat, p' ≠ p → pd_k (k_sx L K p q t) p' = pd_k K p' := by
  unfold k_sx k_uf
  have e : (c_I (k_sr (k_rs L K q) q t) 1400 q = c_I (k_sr (k_rs L K q) q t) 1016 p) = (c_I K 1400 q = c_I K 1016 p) := rfl
  by_cases c : c_I K 1400 q = c_I K 1016 p
  · rw [if_pos (e ▸ c), if_pos c]
    exact ⟨by rw [pd_kw (by decide), pd_ko k_s0_PD], fun p' hp' => by rw [pd_kn hp', pd_ko k_s0_PD]⟩
  · rw [if_neg (fun z => c (e ▸ z)), if_neg c]
    exact ⟨by rw [pd_ko k_s0_PD], fun p' _ => by rw [pd_ko k_s0_PD]⟩
theorem k_sx_P {L : c_L} {K : c_S} {p q f i : Nat} {t : Int32} : c_P (k_sx L K p q t) f i = c_P K f i := by
  unfold k_sx k_uf
  split <;> rfl
theorem PDv_st {Z : z_C} {p j : Nat} {k r s s' : Nat → Int32} {o : Int32} (h : PDv Z p k r s) (n16 : z_nq Z p ≤ 16) (hj : j < z_nq Z p) (ho : o = nI j) (ej : ∀ i : Nat, i ≠ j → s' i = s i) (hm : r 2483 = 0) (n3 : s' j = 1 ∨ s' j = 2 ∧ (k 1013 = 0 ∨ k 1014 ≠ nI j) ∧ z_hd Z p ≠ some j) : PDv Z p (if o = k 1016 then qs_1 k 1016 (-1) else k) r s' := by
  have e3 : s' j ≠ 3 := by
    rcases n3 with e | e
    · rw [e]; decide
    · rw [e.1]; decide
  by_cases c : o = k 1016
  · rw [if_pos c]
    exact PDv_F h n16 hj (c.symm.trans ho) ej e3 (Or.inl hm)
  · rw [if_neg c]
    refine PDv_1 h n16 hj ej (Or.inl hm) (fun z => c ?_) e3 (fun z => ?_) (fun z => ?_)
    · rcases h.2.2.2.2.2.1 with ⟨b1, b2⟩ | ⟨i, h', b1, b2, b3, b4, b5, b6, b7, b8, b9, b10⟩
      · exact absurd z (b2 j hj)
      · rw [ho, b4, b10 j hj z]
    · rcases n3 with e | e
      · exact absurd e z
      · exact e.2.1
    · rcases n3 with e | e
      · exact Or.inl e
      · exact absurd z e.2.2
theorem P_startX {b : Nat} {L : c_L} {Z : z_C} {K : c_S} {R : r_S} {p j : Nat} {t : Int32} (h : WR b L Z K R) (hb : b < 1999999990) (hp : p < z_np Z) (hj : j < z_nq Z p) (hm : r_A R 2483 p = 0) (t0 : (r_I R 2463).toInt ≤ t.toInt) (t1 : t.toInt ≤ (r_I R 2463).toInt + 100000) (hc : t.toInt ≤ (r_I R 2463).toInt ∨ (c_I K 1013 p = 0 ∨ c_I K 1014 p ≠ nI j) ∧ z_hd Z p ≠ some j) : ∃ (K' : c_S) (R' : r_S), (∀ Q : c_S → Prop, Q K' → km_X5_start L K p (some (16 * p + j)) t (r_I R 2463) Q) ∧ (∀ Q : Option Value → r_S → Prop, Q none R' → rm_X12_startsAt R (nI (16 * p + j)) t Q) ∧ WR (b + 1) L Z K' R' ∧ r_I R' 2463 = r_I R 2463 ∧ r_A R' 2483 p = r_A R 2483 p ∧ c_I K' 1013 p = c_I K 1013 p ∧ c_I K' 1014 p = c_I K 1014 p ∧ (∀ f i : Nat, c_P K' f i = c_P K f i) ∧ c_I K' 1016 p = (if nI j = c_I K 1016 p then -1 else c_I K 1016 p) ∧ r_A R' 2467 (16 * p + j) = (if t ≤ r_I R 2463 then 1 else 2) ∧ (∀ f : Nat, f ≠ 2464 → r_I R' f = r_I R f) ∧ (∀ q : Nat, q ≠ 16 * p + j → r_A R' 2467 q = r_A R 2467 q) ∧ r_A R' 2488 p = r_A R 2488 p ∧ ∀ p' : Nat, r_A R' 2483 p' = r_A R 2483 p' := by
  have cq := WR_cq h
  have np16 := CQ_np cq
  have n16 := CQ_nq cq p hp
  have hn := CQ_nq cq
  obtain ⟨mq, hlq, hnum, hflag⟩ := CQ_q cq hp hj
  have hp16 : p < 16 := by omega
  have hj16 : j < 16 := by omega
  have hpd := h.2.2.2.2.1
  have pv := PD_v hpd hp
  have ht := h.2.2.2.1.1
  obtain ⟨g1, g2, g3, g4, g5, g6, g7, g8, g9⟩ := pv
  have hlk : ∀ X : r_S, r_A X 2486 p = r_A R 2486 p → r_A X 2487 p = r_A R 2487 p → ¬ r_A X 2486 p ≤ 0 → ∃ i : Nat, i < z_nq Z p ∧ c_I K 1013 p ≠ 0 ∧ c_I K 1014 p = nI i ∧ r_A X 2487 p = nI (16 * p + i) ∧ r_A R 2467 (16 * p + i) = 1 := fun X e1 e2 z => by
    rw [e1] at z
    have z2 : c_I K 1013 p ≠ 0 := fun e => z (by rw [← show c_I K 1013 p = r_A R 2486 p from g1.2.2.2.2, e]; decide)
    obtain ⟨i, a1, -, a3, a4, a5⟩ := g5 z2
    exact ⟨i, a1, z2, a3, e2.trans a4, a5⟩
  have esx := pd_sx (L := L) (K := K) (p := p) (q := 16 * p + j) (t := t)
  have lk13 : c_I (k_sx L K p (16 * p + j) t) 1013 p = c_I K 1013 p := by
    unfold k_sx k_uf
    split <;> rfl
  have lk14 : c_I (k_sx L K p (16 * p + j) t) 1014 p = c_I K 1014 p := by
    unfold k_sx k_uf
    split <;> rfl
  have lk16 : c_I (k_sx L K p (16 * p + j) t) 1016 p = (if nI j = c_I K 1016 p then -1 else c_I K 1016 p) := by
    have := congrFun esx.1 1016
    rw [hnum] at this
    refine Eq.trans (show c_I (k_sx L K p (16 * p + j) t) 1016 p = pd_k (k_sx L K p (16 * p + j) t) p 1016 from rfl) (this.trans ?_)
    by_cases e : nI j = c_I K 1016 p
    · rw [if_pos e, if_pos e]; rfl
    · rw [if_neg e, if_neg e]; rfl
  by_cases c : t ≤ r_I R 2463
  · have ct := i_le.mp c
    have e4 : r_s4 R (16 * p + j) t = r_rdy (r_s2 R (16 * p + j) t) (16 * p + j) := if_pos c
    have es : ∀ q : Nat, q ≠ 16 * p + j → r_A (r_rdy (r_s2 R (16 * p + j) t) (16 * p + j)) 2467 q = r_A R 2467 q := fun q hq => by
      have a := congrFun (EX_rdy (K := K) (R := r_s2 R (16 * p + j) t) (p := p) (q := 16 * p + j) q hq).2.2.1 0
      have b := congrFun (r_s2_n (R := R) (t := t) (q := 16 * p + j) (q' := q) hq.symm).1 0
      exact a.trans b
    have e1 : r_A (r_rdy (r_s2 R (16 * p + j) t) (16 * p + j)) 2467 (16 * p + j) = 1 := congrFun (r_rdy_r (R := r_s2 R (16 * p + j) t) (q := 16 * p + j)) 0
    have epr := pd_ro (R := R) (R' := r_rdy (r_s2 R (16 * p + j) t) (16 * p + j)) (by rw [r_rdy_PD, r_s2_PD]) p
    have e86 : r_A (r_rdy (r_s2 R (16 * p + j) t) (16 * p + j)) 2486 p = r_A R 2486 p := congrFun epr 2486
    have e87 : r_A (r_rdy (r_s2 R (16 * p + j) t) (16 * p + j)) 2487 p = r_A R 2487 p := congrFun epr 2487
    have eul : r_ul (r_rdy (r_s2 R (16 * p + j) t) (16 * p + j)) p = r_rdy (r_s2 R (16 * p + j) t) (16 * p + j) := if_neg (fun z => by
      obtain ⟨i, a1, a2, a3, a4, a5⟩ := hlk _ e86 e87 z.1
      refine z.2 ?_
      rw [a4, nI_clamp (by omega)]
      by_cases e : i = j
      · rw [e]; exact e1
      · rw [es _ (by omega)]; exact a5)
    refine ⟨k_rdy (k_sx L K p (16 * p + j) t) p (16 * p + j), r_rdy (r_s2 R (16 * p + j) t) (16 * p + j), fun Q hQ => ?_, fun Q hQ => ?_, ?_, rfl, congrFun epr 2483, lk13, lk14, fun f i => k_sx_P, lk16, e1.trans (if_pos c).symm, fun f hf => if_neg hf, es, congrFun epr 2488, fun p' => congrFun (pd_ro (R := R) (R' := r_rdy (r_s2 R (16 * p + j) t) (16 * p + j)) (by rw [r_rdy_PD, r_s2_PD]) p') 2483⟩
    · refine ke_start mq hlq ?_
      rw [show k_st L K p (16 * p + j) t (r_I R 2463) = k_rdy (k_sx L K p (16 * p + j) t) p (16 * p + j) from if_pos c]
      exact hQ
    · refine re_startsAt hp16 hj16 (fun z => ?_) ?_
      · rw [e4] at z ⊢
        obtain ⟨i, a1, a2, a3, a4, a5⟩ := hlk _ e86 e87 z
        rw [a4]
        exact vp_in_nI (by omega) (by decide)
      · rw [show r_st R p (16 * p + j) t = r_rdy (r_s2 R (16 * p + j) t) (16 * p + j) by unfold r_st; rw [e4, eul]]
        exact hQ
    · refine WR_of (W0_st1 (W0_of h) (by omega) hp hj (by omega) ct) ?_
      refine PD_p (p := p) hpd hn (fun p' hp' => by rw [pd_ko k_rdy_PD, esx.2 p' hp']) (fun p' hp' => pd_ro (by rw [r_rdy_PD, r_s2_PD]) p') (fun q hq => es q (by omega)) (fun _ => ?_)
      rw [pd_ko k_rdy_PD, esx.1, epr]
      exact PDv_st (PD_v hpd hp) n16 hj hnum (fun i hi => es _ (by omega)) hm (Or.inl e1)
  · have ct : ¬ t.toInt ≤ (r_I R 2463).toInt := fun z => c (i_le.mpr z)
    have hc2 := hc.resolve_left ct
    have e4 : r_s4 R (16 * p + j) t = r_sw R (16 * p + j) t := if_neg c
    have es : ∀ q : Nat, q ≠ 16 * p + j → r_A (r_sw R (16 * p + j) t) 2467 q = r_A R 2467 q := fun q hq => by
      have a := congrFun (EX_rdy (K := K) (R := r_s2 R (16 * p + j) t) (p := p) (q := 16 * p + j) q hq).2.2.1 0
      have b := congrFun (r_s2_n (R := R) (t := t) (q := 16 * p + j) (q' := q) hq.symm).1 0
      have c : p_r (r_sw R (16 * p + j) t) q 0 = p_r (r_rdy (r_s2 R (16 * p + j) t) (16 * p + j)) q 0 := by
        unfold r_sw
        rw [pr_n hq.symm, pr_n hq.symm]
      exact c.trans (a.trans b)
    have e1 : r_A (r_sw R (16 * p + j) t) 2467 (16 * p + j) = 2 := congrFun (r_sw_r (R := R) (q := 16 * p + j) (t := t)) 0
    have epr := pd_ro (R := R) (R' := r_sw R (16 * p + j) t) r_sw_PD p
    have e86 : r_A (r_sw R (16 * p + j) t) 2486 p = r_A R 2486 p := congrFun epr 2486
    have e87 : r_A (r_sw R (16 * p + j) t) 2487 p = r_A R 2487 p := congrFun epr 2487
    have eul : r_ul (r_sw R (16 * p + j) t) p = r_sw R (16 * p + j) t := if_neg (fun z => by
      obtain ⟨i, a1, a2, a3, a4, a5⟩ := hlk _ e86 e87 z.1
      refine z.2 ?_
      rw [a4, nI_clamp (by omega)]
      by_cases e : i = j
      · rcases hc2.1 with q | q
        · exact absurd q a2
        · exact absurd (e ▸ a3) q
      · rw [es _ (by omega)]; exact a5)
    refine ⟨k_wt (k_sx L K p (16 * p + j) t) p (16 * p + j) 128 t, r_sw R (16 * p + j) t, fun Q hQ => ?_, fun Q hQ => ?_, ?_, rfl, congrFun epr 2483, lk13, lk14, fun f i => k_sx_P, lk16, e1.trans (if_neg c).symm, fun f hf => if_neg hf, es, congrFun epr 2488, fun p' => congrFun (pd_ro (R := R) (R' := r_sw R (16 * p + j) t) r_sw_PD p') 2483⟩
    · refine ke_start mq hlq ?_
      rw [show k_st L K p (16 * p + j) t (r_I R 2463) = k_wt (k_sx L K p (16 * p + j) t) p (16 * p + j) 128 t from if_neg c]
      exact hQ
    · refine re_startsAt hp16 hj16 (fun z => ?_) ?_
      · rw [e4] at z ⊢
        obtain ⟨i, a1, a2, a3, a4, a5⟩ := hlk _ e86 e87 z
        rw [a4]
        exact vp_in_nI (by omega) (by decide)
      · rw [show r_st R p (16 * p + j) t = r_sw R (16 * p + j) t by unfold r_st; rw [e4, eul]]
        exact hQ
    · refine WR_of (W0_st2 (W0_of h) (by omega) hp hj (by omega) t1) ?_
      refine PD_p (p := p) hpd hn (fun p' hp' => by rw [pd_ko k_wt_PD, esx.2 p' hp']) (fun p' hp' => pd_ro r_sw_PD p') (fun q hq => es q (by omega)) (fun _ => ?_)
      rw [pd_ko k_wt_PD, esx.1, epr]
      exact PDv_st (PD_v hpd hp) n16 hj hnum (fun i hi => es _ (by omega)) hm (Or.inr ⟨e1, hc2⟩)
theorem P_start {b : Nat} {L : c_L} {Z : z_C} {K : c_S} {R : r_S} {p j : Nat} {t : Int32} (h : WR b L Z K R) (hb : b < 1999999990) (hp : p < z_np Z) (hj : j < z_nq Z p) (hm : r_A R 2483 p = 0) (t0 : (r_I R 2463).toInt ≤ t.toInt) (t1 : t.toInt ≤ (r_I R 2463).toInt + 100000) (hc : t.toInt ≤ (r_I R 2463).toInt ∨ (c_I K 1013 p = 0 ∨ c_I K 1014 p ≠ nI j) ∧ z_hd Z p ≠ some j) : ∃ (K' : c_S) (R' : r_S), (∀ Q : c_S → Prop, Q K' → km_X5_start L K p (some (16 * p + j)) t (r_I R 2463) Q) ∧ (∀ Q : Option Value → r_S → Prop, Q none R' → rm_X12_startsAt R (nI (16 * p + j)) t Q) ∧ WR (b + 1) L Z K' R' ∧ r_I R' 2463 = r_I R 2463 ∧ r_A R' 2483 p = r_A R 2483 p ∧ c_I K' 1013 p = c_I K 1013 p ∧ c_I K' 1014 p = c_I K 1014 p ∧ ∀ f i : Nat, c_P K' f i = c_P K f i := by
  obtain ⟨K', R', h1, h2, h3, h4, h5, h6, h7, h8, -⟩ := P_startX h hb hp hj hm t0 t1 hc
  exact ⟨K', R', h1, h2, h3, h4, h5, h6, h7, h8⟩
