/-! What comes from outside. -/
theorem WR_lost {b : Nat} {L : c_L} {Z : z_C} {K : c_S} {R : r_S} {c : Nat} {v : Int32} (h : WR b L Z K R) : WR b L Z (cs_I K 206 c v) (rs_A R 2503 c v) := by
  obtain ⟨⟨⟨cq, ct, cc, cm⟩, th, ch, inn, me, jr, gl, tx⟩, dp, op, ti, pd, jb⟩ := h
  refine ⟨⟨⟨?_, ?_, ?_, ?_⟩, ?_, ?ch, ?_, ?_, ?_, ?_, ?_⟩, ?_, ?_, ?_, ?_, ?_⟩
  case ch =>
    intro c' hc'
    obtain ⟨h1, h2⟩ := ch c' hc'
    refine ⟨?_, h2⟩
    show (if 206 = 206 ∧ c' = c then v else c_I K 206 c') = (if 2503 = 2503 ∧ c' = c then v else r_A R 2503 c')
    by_cases e : c' = c
    · rw [if_pos ⟨rfl, e⟩, if_pos ⟨rfl, e⟩]
    · rw [if_neg (fun z => e z.2), if_neg (fun z => e z.2)]
      exact h1
  all_goals (simp (disch := decide) only [CQ_I, CQ_A, CQ_G, CQ_P, CQ_J, CQ_i, CQ_a, CQ_z, CT_I, CT_A, CT_G, CT_P, CT_J, CT_i, CT_a, CT_z, CC_I, CC_A, CC_G, CC_P, CC_J, CC_i, CC_a, CC_z, CM_I, CM_A, CM_G, CM_P, CM_J, CM_i, CM_a, CM_z, NM_I, NM_A, NM_G, NM_P, NM_J, NM_i, NM_a, NM_z, TH_I, TH_A, TH_G, TH_P, TH_J, TH_i, TH_a, TH_z, CH_I, CH_A, CH_G, CH_P, CH_J, CH_i, CH_a, CH_z, IN_I, IN_A, IN_G, IN_P, IN_J, IN_i, IN_a, IN_z, ME_I, ME_A, ME_G, ME_P, ME_J, ME_i, ME_a, ME_z, JR_I, JR_A, JR_G, JR_P, JR_J, JR_i, JR_a, JR_z, GL_I, GL_A, GL_G, GL_P, GL_J, GL_i, GL_a, GL_z, TX_I, TX_A, TX_G, TX_P, TX_J, TX_i, TX_a, TX_z, PD_I, PD_A, PD_G, PD_P, PD_J, PD_i, PD_a, PD_z, JB_i, JB_a, JB_z, DP_I, DP_A, DP_G, DP_P, DP_i, DP_a, OP_I, OP_A, OP_G, OP_P, OP_i, OP_a, TI_i, TI_a]; assumption)
theorem WR_in {b : Nat} {L : c_L} {Z : z_C} {K : c_S} {R : r_S} {i n m : Nat} (h : WR b L Z K R) (hi : i < z_ni Z) (h5 : c_I K 215 (z_ic Z i) = nI n) (h6 : c_I K 216 (z_ic Z i) = nI m) (n60 : n ≤ 60) (hm : m < n) : WR b L Z (cs_I K 216 (z_ic Z i) (nI (m + 1))) (rs_A R 2505 i (nI (m + 1))) := by
  obtain ⟨⟨⟨cq, ct, cc, cm⟩, th, ch, inn, me, jr, gl, tx⟩, dp, op, ti, pd, jb⟩ := h
  have inj : ∀ i j : Nat, i < z_ni Z → j < z_ni Z → z_ic Z i = z_ic Z j → i = j := cc.2.2.2.2.2.2.2.2.1
  refine ⟨⟨⟨?_, ?_, ?_, ?_⟩, ?_, ?_, ?inn, ?_, ?_, ?_, ?_⟩, ?_, ?_, ?_, ?_, ?_⟩
  case inn =>
    intro i' hi'
    obtain ⟨n', m', a1, a2, a3, a4, a5, a6, a7, a8⟩ := inn i' hi'
    by_cases e : i' = i
    · subst e
      have a3 : c_I K 215 (z_ic Z i') = nI n' := a3
      have en : n' = n := (nI_eq (by omega) (by omega)).mp (a3.symm.trans h5)
      subst en
      refine ⟨n', m + 1, a1, by omega, a3, a4, ?_, ?_, a7, a8⟩
      · show (if 216 = 216 ∧ z_ic Z i' = z_ic Z i' then nI (m + 1) else c_I K 216 (z_ic Z i')) = nI (m + 1)
        exact if_pos ⟨rfl, rfl⟩
      · show (if 2505 = 2505 ∧ i' = i' then nI (m + 1) else r_A R 2505 i') = nI (m + 1)
        exact if_pos ⟨rfl, rfl⟩
    · have ne : ¬ z_ic Z i' = z_ic Z i := fun z => e (inj i' i hi' hi z)
      refine ⟨n', m', a1, a2, a3, a4, ?_, ?_, a7, a8⟩
      · show (if 216 = 216 ∧ z_ic Z i' = z_ic Z i then nI (m + 1) else c_I K 216 (z_ic Z i')) = nI m'
        rw [if_neg (fun z => ne z.2)]
        exact a5
      · show (if 2505 = 2505 ∧ i' = i then nI (m + 1) else r_A R 2505 i') = nI m'
        rw [if_neg (fun z => e z.2)]
        exact a6
  all_goals (simp (disch := decide) only [CQ_I, CQ_A, CQ_G, CQ_P, CQ_J, CQ_i, CQ_a, CQ_z, CT_I, CT_A, CT_G, CT_P, CT_J, CT_i, CT_a, CT_z, CC_I, CC_A, CC_G, CC_P, CC_J, CC_i, CC_a, CC_z, CM_I, CM_A, CM_G, CM_P, CM_J, CM_i, CM_a, CM_z, NM_I, NM_A, NM_G, NM_P, NM_J, NM_i, NM_a, NM_z, TH_I, TH_A, TH_G, TH_P, TH_J, TH_i, TH_a, TH_z, CH_I, CH_A, CH_G, CH_P, CH_J, CH_i, CH_a, CH_z, IN_I, IN_A, IN_G, IN_P, IN_J, IN_i, IN_a, IN_z, ME_I, ME_A, ME_G, ME_P, ME_J, ME_i, ME_a, ME_z, JR_I, JR_A, JR_G, JR_P, JR_J, JR_i, JR_a, JR_z, GL_I, GL_A, GL_G, GL_P, GL_J, GL_i, GL_a, GL_z, TX_I, TX_A, TX_G, TX_P, TX_J, TX_i, TX_a, TX_z, PD_I, PD_A, PD_G, PD_P, PD_J, PD_i, PD_a, PD_z, JB_i, JB_a, JB_z, DP_I, DP_A, DP_G, DP_P, DP_i, DP_a, OP_I, OP_A, OP_G, OP_P, OP_i, OP_a, TI_i, TI_a]; assumption)
theorem r_carc {R : r_S} {c : Nat} {w : Int32} {Q : Option Value → r_S → Prop} (hc : c < 24) (h : r_car R c w (fun v S => (¬ v = 0 → Q none S) ∧ (v = 0 → Q none (rs_A S 2503 c (r_A S 2503 c + 1))))) : rm_X12_comes R (nI c) w Q := by
  have ck := nI_clamp (n := c) (by omega)
  have vc : ∀ f : Nat, r_N f = 24 → vp_in (nI c) (r_N f) := fun f hf => ri_v hf (by omega) (by decide)
  have e4 : ((4 : Int32) * nI c) = nI (4 * c) := by rw [show (4 : Int32) = nI 4 from rfl, pk_mul]
  refine dmo (drm_X12_traced R (nI c) w) h (fun r S z => ⟨z.1, vc _ rfl, ?_⟩)
  rw [ck, e4, nI_clamp (by omega)]
  refine ⟨fun z1 => ⟨ri_v (n := 96) rfl (by omega) (by decide), fun z2 => ?_, fun z2 => ((z.2.1 z1).1 z2).1 (by decide)⟩, fun z1 => ?_⟩
  · refine dmo (drm_X12_passes S (nI c) w) ((z.2.1 z1).2 z2) (fun r' S' z3 => ?_)
    obtain ⟨x, e, h1, h2⟩ := z3
    refine ⟨x, e, h1, fun z4 => ⟨vc _ rfl, vc _ rfl, ?_⟩⟩
    exact h2 z4
  · exact dmo (drm_X12_sample S (nI c) w) (z.2.2 z1) (fun r' S' z3 => ⟨z3.1, z3.2.1 (by decide)⟩)
/-- the rest of a tick -/
def r_te (R : r_S) (Q : Option Value → r_S → Prop) : Prop := rm_X12_window R (fun r4_ S5_ => ∃ x6_ : Int32, r4_ = some (.int x6_) ∧ (vp_in x6_ (r_N 2461) ∧ (vp_in (r_A S5_ 2461 x6_.toNatClampNeg) (r_N 2483) ∧ ((¬ (r_A S5_ 2483 (r_A S5_ 2461 x6_.toNatClampNeg).toNatClampNeg) = 0 → (rb_X12_tick_114 S5_ Q)) ∧ ((r_A S5_ 2483 (r_A S5_ 2461 x6_.toNatClampNeg).toNatClampNeg) = 0 → (rm_X12_works S5_ (r_A S5_ 2461 x6_.toNatClampNeg) (fun r17_ S18_ => r17_ = none ∧ (rb_X12_tick_114 S18_ Q))))))))
theorem P_inputs {L : c_L} {Z : z_C} (gk : GK L) : ∀ (d k b : Nat) (K : c_S) (R : r_S), WR b L Z K R → k + d = z_ni Z → b + 8 * d < 1999999900 → ∃ (K' : c_S) (R' : r_S), (∀ Q : c_S → Prop, Q K' → kl_X6_takeInputs_2 L (d + 1) K 0 (nI k) Q) ∧ (∀ Q : Option Value → r_S → Prop, r_te R' Q → rl_X12_tick_7 (d + 1) R (nI k) Q) ∧ WR (b + 8 * d) L Z K' R' ∧ r_I R' 2513 = r_I R 2513 := by
  intro d
  induction d with
  | zero =>
    intro k b K R w hk hb
    have cc := WR_cc w
    have ni24 : z_ni Z ≤ 24 := cc.1.2.1
    have e5 : c_I K 1205 0 = nI (z_ni Z) := cc.2.2.2.1.1
    have e18 : r_I R 2418 = nI (z_ni Z) := cc.2.2.2.1.2
    obtain rfl : k = z_ni Z := by omega
    refine ⟨K, R, fun Q hQ => bt_ (by rw [e5]; exact nI_le (Nat.le_refl _) (by omega)) hQ, fun Q hQ => bt_ (by rw [e18]; exact nI_le (Nat.le_refl _) (by omega)) hQ, w, rfl⟩
  | succ d ih =>
    intro k b K R w hk hb
    have cc := WR_cc w
    have ni24 : z_ni Z ≤ 24 := cc.1.2.1
    have nc24 : z_nc Z ≤ 24 := cc.1.1
    have e5 : c_I K 1205 0 = nI (z_ni Z) := cc.2.2.2.1.1
    have e18 : r_I R 2418 = nI (z_ni Z) := cc.2.2.2.1.2
    have hkn : k < z_ni Z := by omega
    obtain ⟨hc, e4, e60, -⟩ := cc.2.2.2.2.2.2.2.1 k hkn
    have e4 : c_A K 1204 0 k = nI (z_ic Z k) := e4
    have e60 : r_A R 2460 k = nI (z_ic Z k) := e60
    obtain ⟨n, m, n60, mn, a3, a4, a5, a6, a7, a8⟩ := w.1.2.2.2.1 k hkn
    have a3 : c_I K 215 (z_ic Z k) = nI n := a3
    have a4 : r_A R 2504 k = nI n := a4
    have a5 : c_I K 216 (z_ic Z k) = nI m := a5
    have a6 : r_A R 2505 k = nI m := a6
    have et : c_I K 1211 0 = r_I R 2463 := (GL_el w).1
    have mc := (CC_c cc hc).1.1
    have ck := nI_clamp (n := k) (by omega)
    have vk : ∀ f : Nat, r_N f = 24 → vp_in (nI k) (r_N f) := fun f hf => ri_v hf (by omega) (by decide)
    have e6k : (60 : Int32) * nI k + nI m = nI (60 * k + m) := by rw [show (60 : Int32) = nI 60 from rfl, pk_mul, nI_add]
    have c6k := nI_clamp (n := 60 * k + m) (by omega)
    have kgo : ∀ Q : c_S → Prop, km_X1_hasInputAt L K (z_ic Z k) (r_I R 2463) (fun x17_ S16_ => ((x17_ = 0 → (kl_X6_takeInputs_2 L (d + 1) S16_ 0 (nI (k + 1)) Q)) ∧ (¬ x17_ = 0 → (km_X1_nextInput L S16_ (z_ic Z k) (fun x22_ S21_ => (km_X6_carry L S21_ 0 (some (z_ic Z k)) x22_ (fun x26_ S25_ => ((¬ x26_ = 0 → (kl_X6_takeInputs_2 L (d + 1) S25_ 0 (nI (k + 1)) Q)) ∧ (x26_ = 0 → (kl_X6_takeInputs_2 L (d + 1) (cs_I S25_ 206 (z_ic Z k) ((c_I S25_ 206 (z_ic Z k)) + (1 : Int32))) 0 (nI (k + 1)) Q)))))))))) → kl_X6_takeInputs_2 L (d + 1 + 1) K 0 (nI k) Q := fun Q hQ => by
      rw [← nI_1] at hQ
      refine bf_ (by rw [e5]; exact nI_ge hkn (by omega)) ⟨vp_in_nI (by omega) (by decide), ?_⟩
      rw [ck, e4]
      refine ke_channelAt cc hc (bf_ (fun z => (by cases z)) ⟨_, rfl, mc, ?_⟩)
      rw [et]
      exact hQ
    have rgo : ∀ Q : Option Value → r_S → Prop, (((nI m) = (nI n) → (rl_X12_tick_7 (d + 1) R (nI (k + 1)) Q)) ∧ (¬ (nI m) = (nI n) → (vp_in (nI (60 * k + m)) (r_N 2506) ∧ (((r_A R 2506 (60 * k + m)) = (r_I R 2463) → (vp_in (nI (60 * k + m)) (r_N 2507) ∧ (rm_X12_comes (rs_A R 2505 k (nI (m + 1))) (nI (z_ic Z k)) (r_A R 2507 (60 * k + m)) (fun r44_ S45_ => r44_ = none ∧ (rl_X12_tick_7 (d + 1) S45_ (nI (k + 1)) Q))))) ∧ (¬ (r_A R 2506 (60 * k + m)) = (r_I R 2463) → (rl_X12_tick_7 (d + 1) R (nI (k + 1)) Q)))))) → rl_X12_tick_7 (d + 1 + 1) R (nI k) Q := fun Q hQ => by
      rw [← nI_1 (a := k)] at hQ
      refine bf_ (by rw [e18]; exact nI_ge hkn (by omega)) ⟨vk _ rfl, vk _ rfl, vk _ rfl, ?_⟩
      rw [ck, a6, a4, e6k, c6k]
      refine ⟨fun z => hQ.1 z, fun z => ⟨(hQ.2 z).1, fun z2 => ⟨vk _ rfl, vk _ rfl, vk _ rfl, ((hQ.2 z).2.1 z2).1, ?_⟩, fun z2 => (hQ.2 z).2.2 z2⟩⟩
      rw [r_An (Or.inl (by decide)), r_An (Or.inl (by decide)), e60, nI_1]
      exact ((hQ.2 z).2.1 z2).2
    have pass : (∀ Q : Int32 → c_S → Prop, Q 0 K → km_X1_hasInputAt L K (z_ic Z k) (r_I R 2463) Q) → ((nI m) = (nI n) ∨ (¬ (nI m) = (nI n) ∧ vp_in (nI (60 * k + m)) (r_N 2506) ∧ ¬ (r_A R 2506 (60 * k + m)) = (r_I R 2463))) → ∃ (K' : c_S) (R' : r_S), (∀ Q : c_S → Prop, Q K' → kl_X6_takeInputs_2 L (d + 1 + 1) K 0 (nI k) Q) ∧ (∀ Q : Option Value → r_S → Prop, r_te R' Q → rl_X12_tick_7 (d + 1 + 1) R (nI k) Q) ∧ WR (b + 8 * (d + 1)) L Z K' R' ∧ r_I R' 2513 = r_I R 2513 := fun hk0 hr0 => by
      obtain ⟨K', R', g1, g2, g3, g4⟩ := ih (k + 1) b K R w (by omega) (by omega)
      refine ⟨K', R', fun Q hQ => kgo Q (hk0 _ (bt_ rfl (g1 Q hQ))), fun Q hQ => rgo Q ?_, WR_w g3 (by omega), g4⟩
      rcases hr0 with z | ⟨z, z2, z3⟩
      · exact bt_ z (g2 Q hQ)
      · exact bf_ z ⟨z2, bf_ z3 (g2 Q hQ)⟩
    by_cases cm : m = n
    · exact pass (fun Q hQ => bt_ (by rw [a3, a5, cm]; exact nI_le (Nat.le_refl _) (by omega)) ⟨nb_0, hQ⟩) (Or.inl (by rw [cm]))
    · have hmn : m < n := by omega
      obtain ⟨b1, b2, -⟩ := a8 m hmn
      have b1 : c_A K 213 (z_ic Z k) m = r_A R 2506 (60 * k + m) := b1
      have b2 : c_A K 214 (z_ic Z k) m = r_A R 2507 (60 * k + m) := b2
      have l60 : c_ln L 213 (z_ic Z k) = 60 ∧ c_ln L 214 (z_ic Z k) = 60 := a7.elim id (fun z => by omega)
      have ne : ¬ nI m = nI n := fun z => cm ((nI_eq (by omega) (by omega)).mp z)
      have v6 : vp_in (nI (60 * k + m)) (r_N 2506) := ri_v (n := 1440) rfl (by omega) (by decide)
      have v7 : vp_in (nI (60 * k + m)) (r_N 2507) := ri_v (n := 1440) rfl (by omega) (by decide)
      have cmm := nI_clamp (n := m) (by omega)
      have khas : ∀ Q : Int32 → c_S → Prop, ((¬ r_A R 2506 (60 * k + m) = r_I R 2463 → Q 0 K) ∧ (r_A R 2506 (60 * k + m) = r_I R 2463 → Q 1 K)) → km_X1_hasInputAt L K (z_ic Z k) (r_I R 2463) Q := fun Q hQ => by
        refine bf_ (by rw [a3, a5]; exact nI_ge hmn (by omega)) ⟨by rw [a5, l60.1]; exact vp_in_nI (by omega) (by decide), ?_⟩
        rw [a5, cmm, b1]
        exact ⟨fun z => ⟨nb_0, hQ.1 z⟩, fun z => ⟨nb_1, hQ.2 z⟩⟩
      by_cases c2 : r_A R 2506 (60 * k + m) = r_I R 2463
      case neg => exact pass (fun Q hQ => khas Q (nf_ c2 hQ)) (Or.inr ⟨ne, v6, c2⟩)
      case pos =>
        have w1 := WR_in w hkn a3 a5 n60 hmn
        obtain ⟨v, K1, R1, hv, f1, f2, f3, -, f5⟩ := P_carry (w := r_A R 2507 (60 * k + m)) w1 gk (by omega) hc
        have f5 : r_I R1 2513 = r_I R 2513 := f5
        have kin : ∀ Q : c_S → Prop, ((¬ v = 0 → (kl_X6_takeInputs_2 L (d + 1) K1 0 (nI (k + 1)) Q)) ∧ (v = 0 → (kl_X6_takeInputs_2 L (d + 1) (cs_I K1 206 (z_ic Z k) ((c_I K1 206 (z_ic Z k)) + (1 : Int32))) 0 (nI (k + 1)) Q))) → kl_X6_takeInputs_2 L (d + 1 + 1) K 0 (nI k) Q := fun Q hQ => by
          refine kgo Q (khas _ (nt_ c2 (bf_ (by decide) ?_)))
          have em : c_I (cs_I K 216 (z_ic Z k) (c_I K 216 (z_ic Z k) + 1)) 216 (z_ic Z k) - 1 = nI m := by
            rw [show c_I (cs_I K 216 (z_ic Z k) (c_I K 216 (z_ic Z k) + 1)) 216 (z_ic Z k) = c_I K 216 (z_ic Z k) + 1 from if_pos ⟨rfl, rfl⟩, a5]
            exact Int32.add_sub_cancel _ _
          refine bt_ (by rw [a5, a3]; exact nI_lt hmn (by omega)) ⟨by rw [em, l60.2]; exact vp_in_nI (by omega) (by decide), ?_⟩
          rw [em, cmm, a5, nI_1]
          show km_X6_carry L (cs_I K 216 (z_ic Z k) (nI (m + 1))) 0 (some (z_ic Z k)) (c_A K 214 (z_ic Z k) m) _
          rw [b2]
          exact f1 _ hQ
        have rin : ∀ Q : Option Value → r_S → Prop, ((¬ v = 0 → (rl_X12_tick_7 (d + 1) R1 (nI (k + 1)) Q)) ∧ (v = 0 → (rl_X12_tick_7 (d + 1) (rs_A R1 2503 (z_ic Z k) (r_A R1 2503 (z_ic Z k) + 1)) (nI (k + 1)) Q))) → rl_X12_tick_7 (d + 1 + 1) R (nI k) Q := fun Q hQ => rgo Q (bf_ ne ⟨v6, bt_ c2 ⟨v7, r_carc (by omega) (f2 _ ⟨fun z => ⟨rfl, hQ.1 z⟩, fun z => ⟨rfl, hQ.2 z⟩⟩)⟩⟩)
        by_cases cv : v = 0
        · have e6 : c_I K1 206 (z_ic Z k) = r_A R1 2503 (z_ic Z k) := (f3.1.2.2.1 (z_ic Z k) hc).1
          have w2 := WR_lost (c := z_ic Z k) (v := r_A R1 2503 (z_ic Z k) + 1) f3
          obtain ⟨K', R', g1, g2, g3, g4⟩ := ih (k + 1) (b + 8) _ _ w2 (by omega) (by omega)
          exact ⟨K', R', fun Q hQ => kin Q (nt_ cv (by rw [e6]; exact g1 Q hQ)), fun Q hQ => rin Q (nt_ cv (g2 Q hQ)), WR_w g3 (by omega), g4.trans f5⟩
        · obtain ⟨K', R', g1, g2, g3, g4⟩ := ih (k + 1) (b + 8) _ _ f3 (by omega) (by omega)
          exact ⟨K', R', fun Q hQ => kin Q (nf_ cv (g1 Q hQ)), fun Q hQ => rin Q (nf_ cv (g2 Q hQ)), WR_w g3 (by omega), g4.trans f5⟩
