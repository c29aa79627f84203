/-! The trace. -/
def k_tr (K : c_S) (t c w : Int32) : c_S := if 300 ≤ c_I K 402 0 then cs_I K 402 0 (c_I K 402 0 + 1) else cs_I (cs_A (cs_A (cs_A K 400 0 (c_I K 402 0 * 3).toNatClampNeg t) 400 0 (c_I K 402 0 * 3 + 1).toNatClampNeg c) 400 0 (c_I K 402 0 * 3 + 2).toNatClampNeg w) 402 0 (c_I K 402 0 + 1)
def r_tr (R : r_S) (c w : Int32) : r_S := if 300 ≤ r_I R 2508 then rs_I R 2508 (r_I R 2508 + 1) else rs_I (rs_A (rs_A (rs_A R 2511 (r_I R 2508 * 3).toNatClampNeg (r_I R 2463)) 2511 (r_I R 2508 * 3 + 1).toNatClampNeg c) 2511 (r_I R 2508 * 3 + 2).toNatClampNeg w) 2508 (r_I R 2508 + 1)
theorem tc_v {x : Int32} (h0 : 0 ≤ x.toInt) (h : ¬ 300 ≤ x) : ∃ t : Nat, t < 300 ∧ x = nI t := by
  obtain ⟨n, hn, rfl⟩ := nI_of (x := x) (fun z => by have := i_lt0.mp z; omega)
  refine ⟨n, ?_, rfl⟩
  refine Nat.lt_of_not_le fun z => h (nI_le (a := 300) z hn)
theorem tc_3 {t n : Nat} : nI t * (3 : Int32) + nI n = nI (t * 3 + n) := by rw [show (3 : Int32) = nI 3 from rfl, pk_mul, nI_add]
theorem tc_30 {t : Nat} : nI t * (3 : Int32) = nI (t * 3) := by rw [show (3 : Int32) = nI 3 from rfl, pk_mul]
theorem JB_mk {b : Nat} {R : r_S} (h1 : 0 ≤ (r_I R 2508).toInt) (h2 : (r_I R 2508).toInt ≤ b) (h3 : 0 ≤ (r_I R 2509).toInt) (h4 : (r_I R 2509).toInt ≤ b) : JB b R := ⟨⟨h1, h2⟩, h3, h4⟩
theorem JR_mk {K : c_S} {R : r_S} (h1 : c_I K 402 0 = r_I R 2508) (h2 : c_I K 403 0 = r_I R 2509) (h3 : ∀ i : Nat, c_A K 400 0 i = r_A R 2511 i) (h4 : ∀ i : Nat, c_A K 401 0 i = r_A R 2512 i) : JR K R := ⟨h1, h2, h3, h4⟩
theorem JR_el {K : c_S} {R : r_S} (h : JR K R) : c_I K 402 0 = r_I R 2508 ∧ c_I K 403 0 = r_I R 2509 ∧ (∀ i : Nat, c_A K 400 0 i = r_A R 2511 i) ∧ ∀ i : Nat, c_A K 401 0 i = r_A R 2512 i := h
theorem JB_el {b : Nat} {R : r_S} (h : JB b R) : (0 ≤ (r_I R 2508).toInt ∧ (r_I R 2508).toInt ≤ b) ∧ 0 ≤ (r_I R 2509).toInt ∧ (r_I R 2509).toInt ≤ b := h
theorem r_In {R : r_S} {f f' : Nat} {v : Int32} (h : f' ≠ f) : r_I (rs_I R f v) f' = r_I R f' := if_neg h
theorem WR_tr {b : Nat} {L : c_L} {Z : z_C} {K : c_S} {R : r_S} {c w : Int32} (h : WR b L Z K R) (hb : b < 2000000000) : WR (b + 1) L Z (k_tr K (r_I R 2463) c w) (r_tr R c w) := by
  obtain ⟨⟨⟨cq, ct, cc, cm⟩, th, ch, inn, me, jr, gl, tx⟩, dp, op, ti, pd, jb⟩ := h
  obtain ⟨j1, j2, j3, j4⟩ := JR_el jr
  obtain ⟨⟨t0, t1⟩, e0, e1⟩ := JB_el jb
  have ei := i_1 t0 (by omega)
  have op' := OP_w op (Nat.le_succ b)
  unfold k_tr r_tr
  rw [j1]
  by_cases cc' : 300 ≤ r_I R 2508
  · rw [if_pos cc', if_pos cc']
    have jrn : JR (cs_I K 402 0 (r_I R 2508 + 1)) (rs_I R 2508 (r_I R 2508 + 1)) := JR_mk (by rw [c_Is, r_Is]) (by rw [c_In (Or.inl (by decide)), r_In (by decide)]; exact j2) (fun i => by rw [c_AI]; exact j3 i) (fun i => by rw [c_AI]; exact j4 i)
    have jbn : JB (b + 1) (rs_I R 2508 (r_I R 2508 + 1)) := JB_mk (by rw [r_Is]; omega) (by rw [r_Is]; omega) (by rw [r_In (by decide)]; exact e0) (by rw [r_In (by decide)]; omega)
    refine ⟨⟨⟨?_, ?_, ?_, ?_⟩, ?_, ?_, ?_, ?_, jrn, ?_, ?_⟩, ?_, ?_, ?_, ?_, jbn⟩
    all_goals (simp (disch := decide) only [CQ_I, CQ_A, CQ_G, CQ_P, CQ_J, CQ_i, CQ_a, CQ_z, CT_I, CT_A, CT_G, CT_P, CT_J, CT_i, CT_a, CT_z, CC_I, CC_A, CC_G, CC_P, CC_J, CC_i, CC_a, CC_z, CM_I, CM_A, CM_G, CM_P, CM_J, CM_i, CM_a, CM_z, NM_I, NM_A, NM_G, NM_P, NM_J, NM_i, NM_a, NM_z, TH_I, TH_A, TH_G, TH_P, TH_J, TH_i, TH_a, TH_z, CH_I, CH_A, CH_G, CH_P, CH_J, CH_i, CH_a, CH_z, IN_I, IN_A, IN_G, IN_P, IN_J, IN_i, IN_a, IN_z, ME_I, ME_A, ME_G, ME_P, ME_J, ME_i, ME_a, ME_z, JR_I, JR_A, JR_G, JR_P, JR_J, JR_i, JR_a, JR_z, GL_I, GL_A, GL_G, GL_P, GL_J, GL_i, GL_a, GL_z, TX_I, TX_A, TX_G, TX_P, TX_J, TX_i, TX_a, TX_z, PD_I, PD_A, PD_G, PD_P, PD_J, PD_i, PD_a, PD_z, JB_i, JB_a, JB_z, DP_I, DP_A, DP_G, DP_P, DP_i, DP_a, OP_I, OP_A, OP_G, OP_P, OP_i, OP_a, TI_i, TI_a]; assumption)
  · rw [if_neg cc', if_neg cc']
    have jrn : JR (cs_I (cs_A (cs_A (cs_A K 400 0 (r_I R 2508 * 3).toNatClampNeg (r_I R 2463)) 400 0 (r_I R 2508 * 3 + 1).toNatClampNeg c) 400 0 (r_I R 2508 * 3 + 2).toNatClampNeg w) 402 0 (r_I R 2508 + 1)) (rs_I (rs_A (rs_A (rs_A R 2511 (r_I R 2508 * 3).toNatClampNeg (r_I R 2463)) 2511 (r_I R 2508 * 3 + 1).toNatClampNeg c) 2511 (r_I R 2508 * 3 + 2).toNatClampNeg w) 2508 (r_I R 2508 + 1)) := by
      refine JR_mk (by rw [c_Is, r_Is]) (by rw [c_In (Or.inl (by decide)), c_IA, c_IA, c_IA, r_In (by decide), r_IA, r_IA, r_IA]; exact j2) (fun i => ?_) (fun i => ?_)
      · rw [c_AI, c_AA, c_AA, c_AA, r_AI, r_AA, r_AA, r_AA, j3]
        simp only [true_and]
      · rw [c_AI, c_An (Or.inl (by decide)), c_An (Or.inl (by decide)), c_An (Or.inl (by decide)), r_AI, r_An (Or.inl (by decide)), r_An (Or.inl (by decide)), r_An (Or.inl (by decide))]
        exact j4 i
    have jbn : JB (b + 1) (rs_I (rs_A (rs_A (rs_A R 2511 (r_I R 2508 * 3).toNatClampNeg (r_I R 2463)) 2511 (r_I R 2508 * 3 + 1).toNatClampNeg c) 2511 (r_I R 2508 * 3 + 2).toNatClampNeg w) 2508 (r_I R 2508 + 1)) := JB_mk (by rw [r_Is]; omega) (by rw [r_Is]; omega) (by rw [r_In (by decide), r_IA, r_IA, r_IA]; exact e0) (by rw [r_In (by decide), r_IA, r_IA, r_IA]; omega)
    refine ⟨⟨⟨?_, ?_, ?_, ?_⟩, ?_, ?_, ?_, ?_, jrn, ?_, ?_⟩, ?_, ?_, ?_, ?_, jbn⟩
    all_goals (simp (disch := decide) only [CQ_I, CQ_A, CQ_G, CQ_P, CQ_J, CQ_i, CQ_a, CQ_z, CT_I, CT_A, CT_G, CT_P, CT_J, CT_i, CT_a, CT_z, CC_I, CC_A, CC_G, CC_P, CC_J, CC_i, CC_a, CC_z, CM_I, CM_A, CM_G, CM_P, CM_J, CM_i, CM_a, CM_z, NM_I, NM_A, NM_G, NM_P, NM_J, NM_i, NM_a, NM_z, TH_I, TH_A, TH_G, TH_P, TH_J, TH_i, TH_a, TH_z, CH_I, CH_A, CH_G, CH_P, CH_J, CH_i, CH_a, CH_z, IN_I, IN_A, IN_G, IN_P, IN_J, IN_i, IN_a, IN_z, ME_I, ME_A, ME_G, ME_P, ME_J, ME_i, ME_a, ME_z, JR_I, JR_A, JR_G, JR_P, JR_J, JR_i, JR_a, JR_z, GL_I, GL_A, GL_G, GL_P, GL_J, GL_i, GL_a, GL_z, TX_I, TX_A, TX_G, TX_P, TX_J, TX_i, TX_a, TX_z, PD_I, PD_A, PD_G, PD_P, PD_J, PD_i, PD_a, PD_z, JB_i, JB_a, JB_z, DP_I, DP_A, DP_G, DP_P, DP_i, DP_a, OP_I, OP_A, OP_G, OP_P, OP_i, OP_a, TI_i, TI_a]; assumption)
theorem ke_show {L : c_L} {K : c_S} {t c w : Int32} {Q : c_S → Prop} (h0 : 0 ≤ (c_I K 402 0).toInt) (h : Q (k_tr K t c w)) : km_X2_show L K 0 t c w Q := by
  unfold k_tr at h
  by_cases cc : 300 ≤ c_I K 402 0
  · rw [if_pos cc] at h
    exact ⟨fun _ => h, fun z => absurd cc z⟩
  · rw [if_neg cc] at h
    obtain ⟨t', ht, e⟩ := tc_v h0 cc
    refine ⟨fun z => absurd z cc, fun _ => ⟨?_, ?_, ?_, fun S e => ?_⟩⟩
    · rw [e, tc_30]; exact vp_in_nI (by omega) (by decide)
    · rw [e, show (1 : Int32) = nI 1 from rfl, tc_3]; exact vp_in_nI (by omega) (by decide)
    · rw [e, show (2 : Int32) = nI 2 from rfl, tc_3]; exact vp_in_nI (by omega) (by decide)
    · subst e
      exact h
/-- what a trace leaves alone -/
theorem k_tr_f {K : c_S} {t c w : Int32} : (∀ f i : Nat, f ≠ 402 → c_I (k_tr K t c w) f i = c_I K f i) ∧ (∀ f i n : Nat, f ≠ 400 → c_A (k_tr K t c w) f i n = c_A K f i n) ∧ ∀ f i : Nat, c_P (k_tr K t c w) f i = c_P K f i := by
  unfold k_tr
  split
  · exact ⟨fun f i hf => c_In (Or.inl hf), fun _ _ _ _ => rfl, fun _ _ => rfl⟩
  · exact ⟨fun f i hf => c_In (Or.inl hf), fun f i n hf => by
      show c_A (cs_A (cs_A (cs_A K 400 0 _ t) 400 0 _ c) 400 0 _ w) f i n = _
      rw [c_An (Or.inl hf), c_An (Or.inl hf), c_An (Or.inl hf)], fun _ _ => rfl⟩
theorem r_tr_f {R : r_S} {c w : Int32} : (∀ f : Nat, f ≠ 2508 → r_I (r_tr R c w) f = r_I R f) ∧ ∀ f i : Nat, f ≠ 2511 → r_A (r_tr R c w) f i = r_A R f i := by
  unfold r_tr
  split
  · exact ⟨fun f hf => if_neg hf, fun _ _ _ => rfl⟩
  · exact ⟨fun f hf => if_neg hf, fun f i hf => by
      show r_A (rs_A (rs_A (rs_A R 2511 _ _) 2511 _ c) 2511 _ w) f i = _
      rw [r_An (Or.inl hf), r_An (Or.inl hf), r_An (Or.inl hf)]⟩
def k_trn (K : c_S) (t c w : Int32) : Nat → c_S
  | 0 => K
  | n + 1 => k_tr (k_trn K t c w n) t c w
def r_trn (R : r_S) (c w : Int32) : Nat → r_S
  | 0 => R
  | n + 1 => r_tr (r_trn R c w n) c w
theorem k_trn_f {K : c_S} {t c w : Int32} (n : Nat) : (∀ f i : Nat, f ≠ 402 → c_I (k_trn K t c w n) f i = c_I K f i) ∧ (∀ f i m : Nat, f ≠ 400 → c_A (k_trn K t c w n) f i m = c_A K f i m) ∧ ∀ f i : Nat, c_P (k_trn K t c w n) f i = c_P K f i := by
  induction n with
  | zero => exact ⟨fun _ _ _ => rfl, fun _ _ _ _ => rfl, fun _ _ => rfl⟩
  | succ n ih =>
    obtain ⟨a1, a2, a3⟩ := k_tr_f (K := k_trn K t c w n) (t := t) (c := c) (w := w)
    exact ⟨fun f i hf => (a1 f i hf).trans (ih.1 f i hf), fun f i m hf => (a2 f i m hf).trans (ih.2.1 f i m hf), fun f i => (a3 f i).trans (ih.2.2 f i)⟩
theorem r_trn_f {R : r_S} {c w : Int32} (n : Nat) : (∀ f : Nat, f ≠ 2508 → r_I (r_trn R c w n) f = r_I R f) ∧ ∀ f i : Nat, f ≠ 2511 → r_A (r_trn R c w n) f i = r_A R f i := by
  induction n with
  | zero => exact ⟨fun _ _ => rfl, fun _ _ _ => rfl⟩
  | succ n ih =>
    obtain ⟨a1, a2⟩ := r_tr_f (R := r_trn R c w n) (c := c) (w := w)
    exact ⟨fun f hf => (a1 f hf).trans (ih.1 f hf), fun f i hf => (a2 f i hf).trans (ih.2 f i hf)⟩
theorem WR_trn {L : c_L} {Z : z_C} {c w : Int32} : ∀ (n b : Nat) (K : c_S) (R : r_S), WR b L Z K R → b + n < 2000000000 → WR (b + n) L Z (k_trn K (r_I R 2463) c w n) (r_trn R c w n) := by
  intro n
  induction n with
  | zero => intro b K R h _; exact h
  | succ n ih =>
    intro b K R h hb
    have w1 := ih b K R h (by omega)
    have e : r_I (r_trn R c w n) 2463 = r_I R 2463 := (r_trn_f n).1 2463 (by decide)
    have w2 := WR_tr (c := c) (w := w) w1 (by omega)
    rw [e] at w2
    exact w2
/-- the outside ones among the first n goals -/
def g_o (Z : z_C) (c n : Nat) : Nat := ((List.range n).filter (fun g => (z_gp Z c g).isNone)).length
theorem g_os {Z : z_C} {c n : Nat} : g_o Z c (n + 1) = g_o Z c n + (if (z_gp Z c n).isNone = true then 1 else 0) := by
  unfold g_o
  rw [List.range_succ, List.filter_append, List.length_append]
  congr 1
  by_cases h : (z_gp Z c n).isNone = true
  · rw [if_pos h]; simp [List.filter, h]
  · rw [if_neg h]; simp [List.filter, h]
theorem g_ol {Z : z_C} {c n : Nat} : g_o Z c n ≤ n := by
  have := List.length_filter_le (fun g => (z_gp Z c g).isNone) (List.range n)
  rw [List.length_range] at this
  exact this
theorem P_traced {b : Nat} {L : c_L} {Z : z_C} {K : c_S} {R : r_S} {c : Nat} {w : Int32} {Q : Option Value → r_S → Prop} (h : WR b L Z K R) (hb : b < 1999999900) (hc : c < z_nc Z) (hQ : Q none (r_trn R (nI c) w (g_o Z c (z_ng Z c)))) : rm_X12_traced R (nI c) w Q := by
  have cc := WR_cc h
  have nc24 : z_nc Z ≤ 24 := cc.1.1
  obtain ⟨⟨-, -, -, -, -, -, h58, n1, n4⟩, -⟩ := CC_c cc hc
  have ck := nI_clamp (n := c) (by omega)
  have lp : ∀ d g : Nat, g + d = z_ng Z c → rl_X12_traced_2 (d + 1) (r_trn R (nI c) w (g_o Z c g)) (nI c) w (nI g) Q := by
    intro d
    induction d with
    | zero =>
      intro g hg
      obtain rfl : g = z_ng Z c := by omega
      show rb_X12_traced_2 _ _ _ _ _ Q
      unfold rb_X12_traced_2
      rw [ck, (r_trn_f _).2 2458 _ (by decide), h58]
      exact ⟨ri_v (n := 24) rfl (by omega) (by decide), fun _ => hQ, fun z => absurd (nI_le (Nat.le_refl _) (by omega)) z⟩
    | succ d ih =>
      intro g hg
      have nx := ih (g + 1) (by omega)
      have e4 : (4 : Int32) * nI c + nI g = nI (4 * c + g) := by rw [show (4 : Int32) = nI 4 from rfl, pk_mul, nI_add]
      show rb_X12_traced_2 _ _ _ _ _ Q
      unfold rb_X12_traced_2
      rw [ck, (r_trn_f _).2 2458 _ (by decide), h58, e4, nI_clamp (by omega), (r_trn_f _).2 2459 _ (by decide)]
      refine ⟨ri_v (n := 24) rfl (by omega) (by decide), fun z => absurd z (nI_ge (by omega) (by omega)), fun _ => ⟨ri_v (n := 96) rfl (by omega) (by decide), fun z => ?_, fun z => ?_⟩⟩
      · have hn : (z_gp Z c g).isNone = true := by
          cases e : z_gp Z c g with
          | none => rfl
          | some q =>
            obtain ⟨p', a'⟩ := q
            obtain ⟨g1, g2, g3, -⟩ := CC_g1 cc hc (by omega) e
            have np16 := CQ_np (WR_cq h)
            have := (CT_n (WR_ct h) g1 (s := 4) (by decide)).1
            rw [if_pos rfl] at this
            have z2 := congrArg Int32.toInt (g3.symm.trans z)
            rw [nI_toInt (by omega)] at z2
            have t : (-2 : Int32).toInt = -2 := by decide
            omega
        rw [g_os, if_pos hn] at nx
        have wr := WR_trn (c := nI c) (w := w) (g_o Z c g) b K R h (by have := g_ol (Z := Z) (c := c) (n := g); omega)
        have t0 : 0 ≤ (r_I (r_trn R (nI c) w (g_o Z c g)) 2508).toInt := wr.2.2.2.2.2.1.1
        have et : r_I (r_trn R (nI c) w (g_o Z c g)) 2463 = r_I R 2463 := (r_trn_f _).1 2463 (by decide)
        have nx : rl_X12_traced_2 (d + 1) (r_tr (r_trn R (nI c) w (g_o Z c g)) (nI c) w) (nI c) w (nI g + 1) Q := by rw [nI_1]; exact nx
        unfold r_tr at nx
        refine ⟨fun z3 => ?_, fun z3 => ?_⟩
        · rw [if_pos z3] at nx
          exact nx
        · rw [if_neg z3] at nx
          obtain ⟨t', ht, e⟩ := tc_v t0 z3
          have e0 : (3 : Int32) * r_I (r_trn R (nI c) w (g_o Z c g)) 2508 = r_I (r_trn R (nI c) w (g_o Z c g)) 2508 * 3 := Int32.mul_comm _ _
          refine ⟨by rw [e0, e, tc_30]; exact ri_v (n := 900) rfl (by omega) (by decide), by
            show vp_in ((3 : Int32) * r_I (r_trn R (nI c) w (g_o Z c g)) 2508 + 1) (r_N 2511)
            rw [e0, e, show (1 : Int32) = nI 1 from rfl, tc_3]; exact ri_v (n := 900) rfl (by omega) (by decide), fun S eS => ?_⟩
          subst eS
          refine ⟨by
            show vp_in ((3 : Int32) * r_I (r_trn R (nI c) w (g_o Z c g)) 2508 + 2) (r_N 2511)
            rw [e0, e, show (2 : Int32) = nI 2 from rfl, tc_3]; exact ri_v (n := 900) rfl (by omega) (by decide), ?_⟩
          show rl_X12_traced_2 (d + 1) (rs_I (rs_A (rs_A (rs_A (r_trn R (nI c) w (g_o Z c g)) 2511 ((3 : Int32) * r_I (r_trn R (nI c) w (g_o Z c g)) 2508).toNatClampNeg (r_I (r_trn R (nI c) w (g_o Z c g)) 2463)) 2511 ((3 : Int32) * r_I (r_trn R (nI c) w (g_o Z c g)) 2508 + 1).toNatClampNeg (nI c)) 2511 ((3 : Int32) * r_I (r_trn R (nI c) w (g_o Z c g)) 2508 + 2).toNatClampNeg w) 2508 (r_I (r_trn R (nI c) w (g_o Z c g)) 2508 + 1)) (nI c) w (nI g + 1) Q
          rw [e0]
          exact nx
      · have hn : ¬ (z_gp Z c g).isNone = true := by
          cases e : z_gp Z c g with
          | none => exact absurd (CC_g0 cc hc (by omega) e) z
          | some q => simp
        rw [g_os, if_neg hn, Nat.add_zero] at nx
        show rl_X12_traced_2 (d + 1) (r_trn R (nI c) w (g_o Z c g)) (nI c) w (nI g + 1) Q
        rw [nI_1]
        exact nx
  exact ⟨z_ng Z c + 1, lp (z_ng Z c) 0 (by omega)⟩
/-- the class's loop of shows; then the rest of carry -/
theorem ke_carry {b : Nat} {L : c_L} {Z : z_C} {K : c_S} {R : r_S} {c : Nat} {w : Int32} {Q : Int32 → c_S → Prop} (h : WR b L Z K R) (hb : b < 1999999900) (hc : c < z_nc Z) (hQ : ∀ S : c_S, S = k_trn K (r_I R 2463) (nI c) w (g_o Z c (z_ng Z c)) → ((¬ (c_I S 201 c) = 0 → ((0 < (c_I S 208 c) → (kb_X6_carry_83 L S Q)) ∧ (¬ 0 < (c_I S 208 c) → (((c_P S 211 c) = none → (kb_X6_carry_85 L S (some c) w Q)) ∧ (¬ (c_P S 211 c) = none → (∃ a17_ : Nat, (c_P S 211 c) = some a17_ ∧ (c_mk L 5 a17_ ∧ (km_X5_giveTaker L S a17_ (c_I S 212 c) (c_I S 202 c) w (fun x22_ S21_ => ((x22_ = 0 → (kb_X6_carry_85 L S21_ (some c) w Q)) ∧ (¬ x22_ = 0 → (kb_X6_carry_83 L S21_ Q)))))))))))) ∧ ((c_I S 201 c) = 0 → (km_X1_sample L S c w (c_I S 1211 0) (fun S26_ => (Q (1 : Int32) S26_)))))) : km_X6_carry L K 0 (some c) w Q := by
  have cc := WR_cc h
  have nc24 : z_nc Z ≤ 24 := cc.1.1
  obtain ⟨⟨m1, h200, -, -, -, -, -, n1, n4⟩, -⟩ := CC_c cc hc
  have h208 : c_I K 208 c = nI (g_o Z c (z_ng Z c)) := CC_o cc hc
  have gl : c_I K 1211 0 = r_I R 2463 := h.1.2.2.2.2.2.2.1.1
  have go := g_ol (Z := Z) (c := c) (n := z_ng Z c)
  have lp : ∀ d x : Nat, x + d = g_o Z c (z_ng Z c) → kl_X6_carry_2 L (d + 1) (k_trn K (r_I R 2463) (nI c) w x) 0 (some c) w (nI x) Q := by
    intro d
    induction d with
    | zero =>
      intro x hx
      refine ⟨c, rfl, m1, fun _ => hQ _ (by rw [show x = g_o Z c (z_ng Z c) by omega]), fun z => absurd ?_ z⟩
      rw [(k_trn_f _).1 208 _ (by decide), h208]
      exact nI_le (by omega) (by omega)
    | succ d ih =>
      intro x hx
      have nx := ih (x + 1) (by omega)
      have wr := WR_trn (c := nI c) (w := w) x b K R h (by omega)
      have j1 : c_I (k_trn K (r_I R 2463) (nI c) w x) 402 0 = r_I (r_trn R (nI c) w x) 2508 := wr.1.2.2.2.2.2.1.1
      have t0 : 0 ≤ (r_I (r_trn R (nI c) w x) 2508).toInt := wr.2.2.2.2.2.1.1
      refine ⟨c, rfl, m1, fun z => absurd z ?_, fun _ => ke_show (by rw [j1]; exact t0) ?_⟩
      · rw [(k_trn_f _).1 208 _ (by decide), h208]
        exact nI_ge (by omega) (by omega)
      · rw [(k_trn_f _).1 1211 _ (by decide), gl, (k_trn_f _).1 200 _ (by decide), h200]
        show kl_X6_carry_2 L (d + 1) _ 0 (some c) w (nI x + 1) Q
        rw [nI_1]
        exact nx
  exact ⟨_, lp (g_o Z c (z_ng Z c)) 0 (by omega)⟩
