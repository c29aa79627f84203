/-! Errors: noted, and dealt with. -/
def k_no (K : c_S) (e : Nat) (a1 a2 a3 a4 a5 a6 : Int32) : c_S := cs_I (cs_A (cs_A (cs_A (cs_A (cs_A (cs_A K 401 0 (6 * e) a1) 401 0 (6 * e + 1) a2) 401 0 (6 * e + 2) a3) 401 0 (6 * e + 3) a4) 401 0 (6 * e + 4) a5) 401 0 (6 * e + 5) a6) 403 0 (c_I K 403 0 + 1)
def r_no (R : r_S) (e : Nat) (a1 a2 a3 a4 a5 a6 : Int32) : r_S := rs_I (rs_A (rs_A (rs_A (rs_A (rs_A (rs_A R 2512 (6 * e) a1) 2512 (6 * e + 1) a2) 2512 (6 * e + 2) a3) 2512 (6 * e + 3) a4) 2512 (6 * e + 4) a5) 2512 (6 * e + 5) a6) 2509 (r_I R 2509 + 1)
theorem WR_no {b e : Nat} {L : c_L} {Z : z_C} {K : c_S} {R : r_S} {a1 a2 a3 a4 a5 a6 : Int32} (h : WR b L Z K R) (hb : b < 2000000000) : WR (b + 1) L Z (k_no K e a1 a2 a3 a4 a5 a6) (r_no R e a1 a2 a3 a4 a5 a6) := by
  obtain ⟨⟨⟨cq, ct, cc, cm⟩, th, ch, inn, me, jr, gl, tx⟩, dp, op, ti, pd, jb⟩ := h
  obtain ⟨j1, j2, j3, j4⟩ := JR_el jr
  obtain ⟨⟨t0, t1⟩, e0, e1⟩ := JB_el jb
  have ei := i_1 e0 (by omega)
  have op' := OP_w op (Nat.le_succ b)
  unfold k_no r_no
  have jrn : JR (cs_I (cs_A (cs_A (cs_A (cs_A (cs_A (cs_A K 401 0 (6 * e) a1) 401 0 (6 * e + 1) a2) 401 0 (6 * e + 2) a3) 401 0 (6 * e + 3) a4) 401 0 (6 * e + 4) a5) 401 0 (6 * e + 5) a6) 403 0 (c_I K 403 0 + 1)) (rs_I (rs_A (rs_A (rs_A (rs_A (rs_A (rs_A R 2512 (6 * e) a1) 2512 (6 * e + 1) a2) 2512 (6 * e + 2) a3) 2512 (6 * e + 3) a4) 2512 (6 * e + 4) a5) 2512 (6 * e + 5) a6) 2509 (r_I R 2509 + 1)) := by
    refine JR_mk (by rw [c_In (Or.inl (by decide)), r_In (by decide)]; exact j1) (by rw [c_Is, r_Is, j2]) (fun i => ?_) (fun i => ?_)
    · rw [c_AI, c_An (Or.inl (by decide)), c_An (Or.inl (by decide)), c_An (Or.inl (by decide)), c_An (Or.inl (by decide)), c_An (Or.inl (by decide)), c_An (Or.inl (by decide)), r_AI, r_An (Or.inl (by decide)), r_An (Or.inl (by decide)), r_An (Or.inl (by decide)), r_An (Or.inl (by decide)), r_An (Or.inl (by decide)), r_An (Or.inl (by decide))]
      exact j3 i
    · rw [c_AI, c_AA, c_AA, c_AA, c_AA, c_AA, c_AA, r_AI, r_AA, r_AA, r_AA, r_AA, r_AA, r_AA, j4]
      simp only [true_and]
  have jbn : JB (b + 1) (rs_I (rs_A (rs_A (rs_A (rs_A (rs_A (rs_A R 2512 (6 * e) a1) 2512 (6 * e + 1) a2) 2512 (6 * e + 2) a3) 2512 (6 * e + 3) a4) 2512 (6 * e + 4) a5) 2512 (6 * e + 5) a6) 2509 (r_I R 2509 + 1)) := JB_mk (by rw [r_In (by decide)]; exact t0) (by rw [r_In (by decide)]; show (r_I R 2508).toInt ≤ _; omega) (by rw [r_Is]; omega) (by rw [r_Is]; omega)
  refine ⟨⟨⟨?_, ?_, ?_, ?_⟩, ?_, ?_, ?_, ?_, jrn, ?_, ?_⟩, ?_, ?_, ?_, ?_, jbn⟩
  all_goals (simp (disch := decide) only [CQ_I, CQ_A, CQ_G, CQ_P, CQ_J, CQ_i, CQ_a, CQ_z, CT_I, CT_A, CT_G, CT_P, CT_J, CT_i, CT_a, CT_z, CC_I, CC_A, CC_G, CC_P, CC_J, CC_i, CC_a, CC_z, CM_I, CM_A, CM_G, CM_P, CM_J, CM_i, CM_a, CM_z, NM_I, NM_A, NM_G, NM_P, NM_J, NM_i, NM_a, NM_z, TH_I, TH_A, TH_G, TH_P, TH_J, TH_i, TH_a, TH_z, CH_I, CH_A, CH_G, CH_P, CH_J, CH_i, CH_a, CH_z, IN_I, IN_A, IN_G, IN_P, IN_J, IN_i, IN_a, IN_z, ME_I, ME_A, ME_G, ME_P, ME_J, ME_i, ME_a, ME_z, JR_I, JR_A, JR_G, JR_P, JR_J, JR_i, JR_a, JR_z, GL_I, GL_A, GL_G, GL_P, GL_J, GL_i, GL_a, GL_z, TX_I, TX_A, TX_G, TX_P, TX_J, TX_i, TX_a, TX_z, PD_I, PD_A, PD_G, PD_P, PD_J, PD_i, PD_a, PD_z, JB_i, JB_a, JB_z, DP_I, DP_A, DP_G, DP_P, DP_i, DP_a, OP_I, OP_A, OP_G, OP_P, OP_i, OP_a, TI_i, TI_a]; assumption)
theorem no_6 {t x : Nat} (ht : t < 2 ^ 31) : (nI t - nI t / (64 : Int32) * (64 : Int32)) * (6 : Int32) + nI x = nI (6 * (t % 64) + x) := by
  rw [show (64 : Int32) = nI 64 from rfl, pk_rem ht (by decide) (by decide), show (6 : Int32) = nI 6 from rfl, pk_mul, nI_add, Nat.mul_comm]
theorem no_60 {t : Nat} (ht : t < 2 ^ 31) : (nI t - nI t / (64 : Int32) * (64 : Int32)) * (6 : Int32) = nI (6 * (t % 64)) := by
  rw [show (64 : Int32) = nI 64 from rfl, pk_rem ht (by decide) (by decide), show (6 : Int32) = nI 6 from rfl, pk_mul, Nat.mul_comm]
theorem ke_note {L : c_L} {K : c_S} {t : Nat} {a1 a2 a3 a4 a5 a6 : Int32} {Q : c_S → Prop} (ht : t < 2 ^ 31) (e : c_I K 403 0 = nI t) (h : Q (k_no K (t % 64) a1 a2 a3 a4 a5 a6)) : km_X2_note L K 0 a1 a2 a3 a4 a5 a6 Q := by
  have m := Nat.mod_lt t (show 64 > 0 by decide)
  have v : ∀ x : Nat, x < 6 → vp_in (nI (6 * (t % 64) + x)) 384 := fun x hx => vp_in_nI (by omega) (by decide)
  have c : ∀ x : Nat, x < 6 → (nI (6 * (t % 64) + x)).toNatClampNeg = 6 * (t % 64) + x := fun x hx => nI_clamp (by omega)
  have c0 : (nI (6 * (t % 64))).toNatClampNeg = 6 * (t % 64) := nI_clamp (by omega)
  unfold km_X2_note
  rw [e, show (1 : Int32) = nI 1 from rfl, show (2 : Int32) = nI 2 from rfl, show (3 : Int32) = nI 3 from rfl, show (4 : Int32) = nI 4 from rfl, show (5 : Int32) = nI 5 from rfl, no_6 ht, no_6 ht, no_6 ht, no_6 ht, no_6 ht, no_60 ht, c0, c 1 (by decide), c 2 (by decide), c 3 (by decide), c 4 (by decide), c 5 (by decide)]
  refine ⟨v 0 (by decide), v 1 (by decide), v 2 (by decide), fun S e1 => ⟨v 3 (by decide), v 4 (by decide), v 5 (by decide), fun S2 e2 => ?_⟩⟩
  subst e1
  subst e2
  exact h
theorem k_no_f {K : c_S} {e : Nat} {a1 a2 a3 a4 a5 a6 : Int32} : (∀ f i : Nat, f ≠ 403 → c_I (k_no K e a1 a2 a3 a4 a5 a6) f i = c_I K f i) ∧ ∀ f i : Nat, c_P (k_no K e a1 a2 a3 a4 a5 a6) f i = c_P K f i := ⟨fun f i hf => c_In (Or.inl hf), fun _ _ => rfl⟩
theorem r_no_f {R : r_S} {e : Nat} {a1 a2 a3 a4 a5 a6 : Int32} : (∀ f : Nat, f ≠ 2509 → r_I (r_no R e a1 a2 a3 a4 a5 a6) f = r_I R f) ∧ ∀ f i : Nat, f ≠ 2512 → r_A (r_no R e a1 a2 a3 a4 a5 a6) f i = r_A R f i := ⟨fun f hf => if_neg hf, fun f i hf => by
  show r_A (rs_A (rs_A (rs_A (rs_A (rs_A (rs_A R 2512 (6 * e) a1) 2512 (6 * e + 1) a2) 2512 (6 * e + 2) a3) 2512 (6 * e + 3) a4) 2512 (6 * e + 4) a5) 2512 (6 * e + 5) a6) f i = _
  rw [r_An (Or.inl hf), r_An (Or.inl hf), r_An (Or.inl hf), r_An (Or.inl hf), r_An (Or.inl hf), r_An (Or.inl hf)]⟩
/-! handed over -/
theorem P_hand {b : Nat} {L : c_L} {Z : z_C} {K : c_S} {R : r_S} {p j h : Nat} {kind code : Int32} (w : WR b L Z K R) (hb : b < 1999999900) (hp : p < z_np Z) (hj : j < z_nq Z p) (hm : r_A R 2483 p = 0) (hk : 0 ≤ kind.toInt) (ht : (r_A R 2473 (16 * p + j)).toInt ≤ (r_I R 2463).toInt) (hh : z_hd Z p = some h) (hjh : j ≠ h) (h0 : r_A R 2467 (16 * p + h) = 0) : ∃ (K' : c_S) (R' : r_S), (∀ Q : c_S → Prop, Q K' → km_X5_handOver L K p (some (16 * p + j)) kind code (r_I R 2463) Q) ∧ (∀ Q : Option Value → r_S → Prop, Q none R' → rm_X12_unlock (rs_A (rs_A (rs_A (r_f3 R (16 * p + j)) 2488 p (nI (16 * p + j))) 2489 p kind) 2490 p code) (nI p) (fun r62_ S63_ => r62_ = none ∧ (vp_in (nI p) (r_N 2442) ∧ (rm_X12_startsAt S63_ (r_A S63_ 2442 (nI p).toNatClampNeg) (r_I S63_ 2463) (fun r69_ S70_ => r69_ = none ∧ (Q none S70_)))))) ∧ WR (b + 2) L Z K' R' ∧ (∀ f i : Nat, c_P K' f i = c_P K f i) ∧ (∀ f : Nat, f ≠ 2464 → r_I R' f = r_I R f) ∧ r_A R' 2483 p = 0 := by
  have cq := WR_cq w
  have np16 := CQ_np cq
  have n16 := CQ_nq cq p hp
  obtain ⟨mq, hlq, hnum, hfl⟩ := CQ_q cq hp hj
  obtain ⟨m5, -, hn, hn2⟩ := CQ_p cq hp
  obtain ⟨hhq, hk8, hr42⟩ := CQ_h1 cq hp hh
  obtain ⟨mh, hlh, hnh, hfh⟩ := CQ_q cq hp hhq
  have pv := PD_v w.2.2.2.2.1 hp
  obtain ⟨g1, g2, g3, g4, g5, g6, g7, g8, g9⟩ := pv
  have t0 := w.2.2.2.1.1
  have cp := nI_clamp (n := p) (by omega)
  have cj := nI_clamp (n := 16 * p + j) (by omega)
  -- nobody was at fault
  have nf : c_I K 1016 p = -1 ∧ ∀ i : Nat, i < z_nq Z p → r_A R 2467 (16 * p + i) ≠ 3 := by
    rcases g6 with g6 | ⟨i, h', a1, a2, a3, a4, a5, a6, a7, a8, a9, a10⟩
    · exact g6
    · rw [hh] at a2
      injection a2 with a2
      subst a2
      exact absurd (show r_A R 2467 (16 * p + h) = 1 from a9) (by rw [h0]; decide)
  obtain ⟨X, hX⟩ : ∃ X : r_S, X = rs_A (rs_A (rs_A (r_f3 R (16 * p + j)) 2488 p (nI (16 * p + j))) 2489 p kind) 2490 p code := ⟨_, rfl⟩
  have x67 : ∀ q : Nat, r_A X 2467 q = if q = 16 * p + j then 3 else r_A R 2467 q := fun q => by
    rw [hX, r_An (Or.inl (by decide)), r_An (Or.inl (by decide)), r_An (Or.inl (by decide))]
    unfold r_f3
    rw [r_An (Or.inl (by decide)), r_An (Or.inl (by decide)), r_An (Or.inl (by decide))]
    by_cases c : q = 16 * p + j
    · rw [if_pos c, c, r_As]
    · rw [if_neg c, r_An (Or.inr c)]
  have xo : ∀ f i : Nat, f ∉ [2467, 2472, 2478, 2475, 2488, 2489, 2490] → r_A X f i = r_A R f i := fun f i hf => by
    simp only [List.mem_cons, List.not_mem_nil, or_false, not_or] at hf
    rw [hX, r_An (Or.inl (by omega)), r_An (Or.inl (by omega)), r_An (Or.inl (by omega))]
    unfold r_f3
    rw [r_An (Or.inl (by omega)), r_An (Or.inl (by omega)), r_An (Or.inl (by omega)), r_An (Or.inl (by omega))]
  have xI : ∀ f : Nat, r_I X f = r_I R f := fun f => by rw [hX]; rfl
  -- the lock
  obtain ⟨Kl, Rl, lk, lr, lw, l1, l2, l3, l4, l5, l6⟩ : ∃ (Kl : c_S) (Rl : r_S), (k_ul (k_lv K (16 * p + j) 3) p (16 * p + j) = Kl) ∧ (r_ul X p = Rl) ∧ W0 (b + 1) L Z Kl Rl ∧ (∀ p' : Nat, p' ≠ p → pd_k Kl p' = pd_k K p' ∧ pd_r Rl p' = pd_r R p') ∧ (∀ q : Nat, r_A Rl 2467 q = r_A X 2467 q) ∧ (∀ f : Nat, r_I Rl f = r_I R f) ∧ (∀ f i : Nat, c_P Kl f i = c_P K f i) ∧ (∀ f i : Nat, f ∉ [1409, 1412, 1413, 1418, 1416, 1013, 1014] → c_I Kl f i = c_I K f i) ∧ ((pd_k Kl p = pd_k K p ∧ pd_r Rl p = qs_1 (qs_1 (qs_1 (pd_r R p) 2488 (nI (16 * p + j))) 2489 kind) 2490 code ∧ (c_I K 1013 p ≠ 0 → c_I K 1014 p ≠ nI j)) ∨ (pd_k Kl p = qs_1 (qs_1 (pd_k K p) 1013 0) 1014 (-1) ∧ pd_r Rl p = qs_1 (qs_1 (qs_1 (qs_1 (pd_r R p) 2488 (nI (16 * p + j))) 2489 kind) 2490 code) 2486 0)) := by
    have wx : W0 (b + 1) L Z (k_lv K (16 * p + j) 3) X := by rw [hX]; exact W0_pr (by decide) (W0_pr (by decide) (W0_pr (by decide) (W0_lv3 (W0_of w) (by omega) hp hj ht)))
    have ekl : ∀ p' : Nat, pd_k (k_lv K (16 * p + j) 3) p' = pd_k K p' := pd_ko k_lv_PD
    have erx : ∀ p' : Nat, p' ≠ p → pd_r X p' = pd_r R p' := fun p' hp' => by rw [hX, pd_rn hp', pd_rn hp', pd_rn hp']; exact pd_ro r_f3_PD p'
    have erp : pd_r X p = qs_1 (qs_1 (qs_1 (pd_r R p) 2488 (nI (16 * p + j))) 2489 kind) 2490 code := by rw [hX, pd_rw (by decide), pd_rw (by decide), pd_rw (by decide), pd_ro r_f3_PD]
    have kI : ∀ f i : Nat, f ∉ [1409, 1412, 1413, 1418, 1416, 1013, 1014] → c_I (k_lv K (16 * p + j) 3) f i = c_I K f i := fun f i hf => by
      simp only [List.mem_cons, List.not_mem_nil, or_false, not_or] at hf
      unfold k_lv
      rw [c_In (Or.inl (by omega)), c_In (Or.inl (by omega)), c_In (Or.inl (by omega)), c_In (Or.inl (by omega)), c_In (Or.inl (by omega))]
    have e14 : c_I (k_lv K (16 * p + j) 3) 1014 p = c_I K 1014 p := congrFun (ekl p) 1014
    have e00 : c_I (k_lv K (16 * p + j) 3) 1400 (16 * p + j) = nI j := (kI _ _ (by decide)).trans hnum
    by_cases c : c_I K 1014 p = nI j
    · have n0 : c_I K 1013 p ≠ 0 := fun z => by
        have : c_I K 1014 p = -1 := g4 z
        exact nI_m1 (show j < 2 ^ 31 by omega) (c.symm.trans this)
      obtain ⟨i, a1, a2, a3, a4, a5⟩ := g5 n0
      have ei : i = j := (nI_eq (by omega) (by omega)).mp ((show c_I K 1014 p = nI i from a3).symm.trans c)
      subst ei
      have ku : k_ul (k_lv K (16 * p + i) 3) p (16 * p + i) = cs_I (cs_I (k_lv K (16 * p + i) 3) 1013 p 0) 1014 p (-1) := if_pos (by rw [e14, e00]; exact c)
      have l0 : ¬ r_A R 2486 p ≤ 0 := fun z => n0 (by
        have g : c_I K 1013 p = r_A R 2486 p := g1.2.2.2.2
        have := g3.1
        rw [g]
        have this : 0 ≤ (r_A R 2486 p).toInt := this
        exact Int32.toInt_inj.mp (by have := i_le0.mp z; rw [show (0 : Int32).toInt = 0 from by decide]; omega))
      have ru : r_ul X p = rs_A X 2486 p 0 := if_pos ⟨by rw [xo _ _ (by decide)]; exact l0, by
        rw [xo 2487 p (by decide), show r_A R 2487 p = nI (16 * p + i) from a4, nI_clamp (by omega), x67, if_pos rfl]
        decide⟩
      refine ⟨_, _, ku, ru, W0_pr (by decide) (W0_pk (by decide) (W0_pk (by decide) wx)), fun p' hp' => ⟨by rw [pd_kn hp', pd_kn hp', ekl], by rw [pd_rn hp', erx p' hp']⟩, fun q => r_An (Or.inl (by decide)), xI, fun f i => rfl, fun f i hf => ?_, Or.inr ⟨by rw [pd_kw (by decide), pd_kw (by decide), ekl], by rw [pd_rw (by decide), erp]⟩⟩
      have hf' := hf
      simp only [List.mem_cons, List.not_mem_nil, or_false, not_or] at hf'
      rw [c_In (Or.inl (by omega)), c_In (Or.inl (by omega)), kI f i hf]
    · have ku : k_ul (k_lv K (16 * p + j) 3) p (16 * p + j) = k_lv K (16 * p + j) 3 := if_neg (by rw [e14, e00]; exact c)
      have ru : r_ul X p = X := if_neg (fun z => by
        rw [xo _ _ (by decide)] at z
        have n0 : c_I K 1013 p ≠ 0 := fun e => z.1 (by rw [← show c_I K 1013 p = r_A R 2486 p from g1.2.2.2.2, e]; decide)
        obtain ⟨i, a1, a2, a3, a4, a5⟩ := g5 n0
        refine z.2 ?_
        have ne : i ≠ j := fun e => c (by rw [← e]; exact a3)
        rw [xo 2487 p (by decide), show r_A R 2487 p = nI (16 * p + i) from a4, nI_clamp (by omega), x67, if_neg (by omega)]
        exact a5)
      exact ⟨_, _, ku, ru, wx, fun p' hp' => ⟨ekl p', erx p' hp'⟩, fun q => rfl, xI, fun f i => rfl, kI, Or.inl ⟨ekl p, erp, fun _ => c⟩⟩
  obtain ⟨K3, hK3⟩ : ∃ K3 : c_S, K3 = cs_I (cs_I (cs_I Kl 1016 p (nI j)) 1017 p kind) 1018 p code := ⟨_, rfl⟩
  have w3 : W0 (b + 1) L Z K3 Rl := by rw [hK3]; exact W0_pk (by decide) (W0_pk (by decide) (W0_pk (by decide) lw))
  have k3I : ∀ f i : Nat, f ∉ [1409, 1412, 1413, 1418, 1416, 1013, 1014, 1016, 1017, 1018] → c_I K3 f i = c_I K f i := fun f i hf => by
    have hf' := hf
    simp only [List.mem_cons, List.not_mem_nil, or_false, not_or] at hf'
    rw [hK3, c_In (Or.inl (by omega)), c_In (Or.inl (by omega)), c_In (Or.inl (by omega))]
    refine l5 f i ?_
    simp only [List.mem_cons, List.not_mem_nil, or_false, not_or]
    omega
  have wf : W0 (b + 1 + 1) L Z (k_rdy (k_sx L K3 p (16 * p + h) (r_I R 2463)) p (16 * p + h)) (r_rdy (r_s2 Rl (16 * p + h) (r_I R 2463)) (16 * p + h)) := W0_st1 w3 (by omega) hp hhq t0.1 (by rw [l3]; exact Int.le_refl _)
  have es : ∀ q : Nat, q ≠ 16 * p + h → r_A (r_rdy (r_s2 Rl (16 * p + h) (r_I R 2463)) (16 * p + h)) 2467 q = r_A Rl 2467 q := fun q hq => by
    have a := congrFun (EX_rdy (K := K) (R := r_s2 Rl (16 * p + h) (r_I R 2463)) (p := p) (q := 16 * p + h) q hq).2.2.1 0
    have b := congrFun (r_s2_n (R := Rl) (t := r_I R 2463) (q := 16 * p + h) (q' := q) hq.symm).1 0
    exact a.trans b
  have e1 : r_A (r_rdy (r_s2 Rl (16 * p + h) (r_I R 2463)) (16 * p + h)) 2467 (16 * p + h) = 1 := congrFun (r_rdy_r (R := r_s2 Rl (16 * p + h) (r_I R 2463)) (q := 16 * p + h)) 0
  have epr : ∀ p' : Nat, pd_r (r_rdy (r_s2 Rl (16 * p + h) (r_I R 2463)) (16 * p + h)) p' = pd_r Rl p' := pd_ro (by rw [r_rdy_PD, r_s2_PD])
  have esx := pd_sx (L := L) (K := K3) (p := p) (q := 16 * p + h) (t := r_I R 2463)
  have e16 : c_I K3 1016 p = nI j := by rw [hK3, c_In (Or.inl (by decide)), c_In (Or.inl (by decide)), c_Is]
  have ene : ¬ c_I K3 1400 (16 * p + h) = c_I K3 1016 p := by
    rw [k3I _ _ (by decide), hnh, e16, nI_eq (by omega) (by omega)]
    exact fun z => hjh z.symm
  have epk : pd_k (k_rdy (k_sx L K3 p (16 * p + h) (r_I R 2463)) p (16 * p + h)) p = qs_1 (qs_1 (qs_1 (pd_k Kl p) 1016 (nI j)) 1017 kind) 1018 code := by
    rw [pd_ko k_rdy_PD, esx.1, if_neg ene, hK3, pd_kw (by decide), pd_kw (by decide), pd_kw (by decide)]
  have st : ∀ i : Nat, i < z_nq Z p → pd_s (r_rdy (r_s2 Rl (16 * p + h) (r_I R 2463)) (16 * p + h)) p i = (if i = h then 1 else if i = j then 3 else r_A R 2467 (16 * p + i)) := fun i hi => by
    show r_A (r_rdy (r_s2 Rl (16 * p + h) (r_I R 2463)) (16 * p + h)) 2467 (16 * p + i) = _
    by_cases c : i = h
    · subst c; rw [if_pos rfl]; exact e1
    · rw [if_neg c, es _ (by omega), l2, x67]
      by_cases c2 : i = j
      · subst c2; rw [if_pos rfl, if_pos rfl]
      · rw [if_neg (by omega), if_neg c2]
  have m83 : pd_r Rl p 2483 = 0 := by
    rcases l6 with ⟨-, e, -⟩ | ⟨-, e⟩ <;> rw [e] <;> exact hm
  refine ⟨_, _, fun Q hQ => ?_, fun Q hQ => ?_, WR_w (WR_of wf (PD_p (p := p) w.2.2.2.2.1 (CQ_nq cq) (fun p' hp' => ?_) (fun p' hp' => by rw [epr, (l1 p' hp').2]) (fun q hq => ?_) (fun _ => ?_))) (show b + 1 + 1 ≤ b + 2 by omega), fun f i => ?_, fun f hf => ?_, ?_⟩
  · refine ⟨_, rfl, mq, ke_leave (ke_unlockOf mq (fun S e => ?_))⟩
    rw [lk, l5 _ _ (by decide), hnum, ← hK3] at e
    subst e
    rw [k3I _ _ (by decide), hk8]
    refine ke_processAt ((k3I _ _ (by decide)).trans hn) hhq n16 mh (bf_ (fun z => (by cases z)) (ke_start mh hlh ?_))
    rw [show k_st L S p (16 * p + h) (r_I R 2463) (r_I R 2463) = k_rdy (k_sx L S p (16 * p + h) (r_I R 2463)) p (16 * p + h) from if_pos (Int32.le_refl _)]
    exact hQ
  · rw [← hX]
    refine re_unlock (by omega) (fun z => ?_) ⟨rfl, ri_v rfl (show p < 16 by omega) (by decide), ?_⟩
    · rw [xo _ _ (by decide)] at z ⊢
      have n0 : c_I K 1013 p ≠ 0 := fun e => z (by rw [← show c_I K 1013 p = r_A R 2486 p from g1.2.2.2.2, e]; decide)
      obtain ⟨i, a1, a2, a3, a4, a5⟩ := g5 n0
      rw [show r_A R 2487 p = nI (16 * p + i) from a4]
      exact vp_in_nI (by omega) (by decide)
    · rw [lr, cp]
      have r42 : r_A Rl 2442 p = nI (16 * p + h) := by
        rw [← lr]
        unfold r_ul
        split
        · rw [r_An (Or.inl (by decide)), xo _ _ (by decide)]; exact hr42
        · rw [xo _ _ (by decide)]; exact hr42
      rw [r42, l3]
      have e4 : r_s4 Rl (16 * p + h) (r_I R 2463) = r_rdy (r_s2 Rl (16 * p + h) (r_I R 2463)) (16 * p + h) := if_pos (by rw [l3]; exact Int32.le_refl _)
      have q86 := congrFun (epr p) 2486
      have q87 := congrFun (epr p) 2487
      have q86 : r_A (r_rdy (r_s2 Rl (16 * p + h) (r_I R 2463)) (16 * p + h)) 2486 p = pd_r Rl p 2486 := q86
      have q87 : r_A (r_rdy (r_s2 Rl (16 * p + h) (r_I R 2463)) (16 * p + h)) 2487 p = pd_r Rl p 2487 := q87
      have own : ¬ pd_r Rl p 2486 ≤ 0 → ∃ i : Nat, i < z_nq Z p ∧ i ≠ j ∧ i ≠ h ∧ pd_r Rl p 2487 = nI (16 * p + i) ∧ r_A R 2467 (16 * p + i) = 1 := fun z => by
        rcases l6 with ⟨a, e, n⟩ | ⟨a, e⟩
        · rw [e] at z ⊢
          have z : ¬ r_A R 2486 p ≤ 0 := z
          have n0 : c_I K 1013 p ≠ 0 := fun e => z (by rw [← show c_I K 1013 p = r_A R 2486 p from g1.2.2.2.2, e]; decide)
          obtain ⟨i, a1, a2, a3, a4, a5⟩ := g5 n0
          exact ⟨i, a1, fun e => n n0 (by rw [← e]; exact a3), fun e => a2 (by rw [e]; exact hh), a4, a5⟩
        · rw [e] at z
          exact absurd (show (0 : Int32) ≤ 0 from by decide) z
      refine re_startsAt (by omega) (by omega) (fun z => ?_) ?_
      · rw [e4] at z ⊢
        rw [q86] at z
        obtain ⟨i, a1, a2, a3, a4, a5⟩ := own z
        rw [q87, a4]
        exact vp_in_nI (by omega) (by decide)
      · rw [show r_st Rl p (16 * p + h) (r_I R 2463) = r_rdy (r_s2 Rl (16 * p + h) (r_I R 2463)) (16 * p + h) by
          unfold r_st
          rw [e4]
          refine if_neg (fun z => ?_)
          rw [q86] at z
          obtain ⟨i, a1, a2, a3, a4, a5⟩ := own z.1
          refine z.2 ?_
          rw [q87, a4, nI_clamp (by omega), es _ (by omega), l2, x67, if_neg (by omega)]
          exact a5]
        exact ⟨rfl, hQ⟩
  · rw [pd_ko k_rdy_PD, esx.2 p' hp', hK3, pd_kn hp', pd_kn hp', pd_kn hp', (l1 p' hp').1]
  · rw [es q (by omega), l2, x67, if_neg (by omega)]
  · rw [epk, epr]
    have s3 : ∀ i : Nat, i < z_nq Z p → pd_s (r_rdy (r_s2 Rl (16 * p + h) (r_I R 2463)) (16 * p + h)) p i = 3 → i = j := fun i hi z => by
      rw [st i hi] at z
      by_cases c : i = h
      · rw [if_pos c] at z; exact absurd z (by decide)
      · rw [if_neg c] at z
        by_cases c2 : i = j
        · exact c2
        · rw [if_neg c2] at z; exact absurd z (nf.2 i hi)
    have sj : pd_s (r_rdy (r_s2 Rl (16 * p + h) (r_I R 2463)) (16 * p + h)) p j = 3 := by rw [st j hj, if_neg hjh, if_pos rfl]
    have sh : pd_s (r_rdy (r_s2 Rl (16 * p + h) (r_I R 2463)) (16 * p + h)) p h = 1 := by rw [st h hhq, if_pos rfl]
    rcases l6 with ⟨a, e, n⟩ | ⟨a, e⟩
    · rw [a, e]
      refine ⟨g1, g2, g3, g4, fun z => ?_, Or.inr ⟨j, h, hj, hh, hjh, rfl, rfl, ⟨rfl, hk⟩, rfl, sj, sh, s3⟩, Or.inr ⟨j, hj, rfl⟩, fun i hi => ?_, fun z => absurd (hm.symm.trans z) (by decide)⟩
      · obtain ⟨i, a1, a2, a3, a4, a5⟩ := g5 z
        refine ⟨i, a1, a2, a3, a4, ?_⟩
        rw [st i a1, if_neg (fun e => a2 (by rw [e]; exact hh)), if_neg (fun e => n z (by rw [← e]; exact a3))]
        exact a5
      · rw [hh] at hi
        injection hi with hi
        subst hi
        exact ⟨hhq, Or.inr sh⟩
    · rw [a, e]
      refine ⟨⟨g1.1, g1.2.1, g1.2.2.1, g1.2.2.2.1, rfl⟩, g2, (show 0 ≤ (0 : Int32).toInt ∧ (0 : Int32).toInt ≤ 8 by decide), fun _ => rfl, fun z => absurd rfl z, Or.inr ⟨j, h, hj, hh, hjh, rfl, rfl, ⟨rfl, hk⟩, rfl, sj, sh, s3⟩, Or.inr ⟨j, hj, rfl⟩, fun i hi => ?_, fun z => absurd (hm.symm.trans z) (by decide)⟩
      rw [hh] at hi
      injection hi with hi
      subst hi
      exact ⟨hhq, Or.inr sh⟩
  · refine (show c_P (k_rdy (k_sx L K3 p (16 * p + h) (r_I R 2463)) p (16 * p + h)) f i = c_P (k_sx L K3 p (16 * p + h) (r_I R 2463)) f i from rfl).trans (k_sx_P.trans ?_)
    rw [hK3]
    exact l4 f i
  · exact (if_neg hf).trans (l3 f)
  · exact (congrFun (epr p) 2483).trans m83
