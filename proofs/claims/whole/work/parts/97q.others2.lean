/-! Calls 28 .. 31. -/
theorem go_w {b : Nat} {L : c_L} {Z : z_C} {K : c_S} {R : r_S} {p i : Nat} (w : WR b L Z K R) (hp : p < z_np Z) (hi : i < z_nq Z p) : c_I K 1418 (16 * p + i) = 129 ↔ r_A R 2467 (16 * p + i) = 2 ∧ r_A R 2478 (16 * p + i) = 8 := by
  have nt := (CT_n (WR_ct w) hp (s := 4) (by decide)).1
  rw [if_pos rfl] at nt
  rw [show (129 : Int32) = nI 129 from rfl, show (8 : Int32) = nI 8 from rfl]
  rcases wc_cases w hp hi with ⟨h1, h2⟩ | ⟨h1, ⟨h2, h3⟩ | ⟨s, k, hs, hk, h2, -, h3⟩ | ⟨a, ha, h2, -, -, -, h3⟩ | ⟨a, ha, h2, -, -, -, h3⟩ | ⟨h2, h3⟩⟩
  · rw [h2]
    exact ⟨fun z => absurd z.symm (nI_m1 (by decide)), fun z => absurd z.1 h1⟩
  · rw [h3, h2]
    exact ⟨fun z => absurd z (by decide), fun z => absurd z.2 (by decide)⟩
  · have := b_co80 (s := s)
    rw [h3, h2, nI_eq (by omega) (by decide), nI_eq (by omega) (by decide)]
    exact ⟨fun z => by omega, fun z => by omega⟩
  · rw [h3, h2, nI_eq (by omega) (by decide)]
    exact ⟨fun z => by omega, fun z => absurd z.2 (by decide)⟩
  · rw [h3, h2, nI_eq (by omega) (by decide)]
    exact ⟨fun z => by omega, fun z => absurd z.2 (by decide)⟩
  · exact ⟨fun _ => ⟨h1, h2⟩, fun _ => h3⟩
theorem AN_28 {b : Nat} {L : c_L} {Z : z_C} {K : c_S} {R : r_S} {p j : Nat} {a : Int32} (x : CX b L Z K R p j) (hb : b < 1999999900) : AN (b + 16) L Z (16 * p + j) (km_X0_letGoOn L K 0 a) (rm_X12_letsGo R (nI p) a) := by
  obtain ⟨w, ⟨hp, hj⟩, ⟨-, p1, p2, p3⟩, hnow, h1, hm, -⟩ := x
  have cq := WR_cq w
  have np16 := CQ_np cq
  have n16 := CQ_nq cq p hp
  have mq := (CQ_q cq hp hj).1
  obtain ⟨m5, -, hn, hn2⟩ := CQ_p cq hp
  have cp := nI_clamp (n := p) (by omega)
  rcases pk_ix a (n := z_nq Z p) (by omega) with ha | ha | ⟨i, hi, rfl⟩
  · exact AN_i 1 K R (WR_w w (by omega)) p3 (fun Q hQ => ⟨p, p1, m5, ke_processAt0 hn (Or.inl ha) (nt_ rfl hQ)⟩) (fun Q hQ => re_isProcess0 (by omega) hn2 (Or.inl ha) ⟨_, rfl, nt_ rfl hQ⟩)
  · exact AN_i 1 K R (WR_w w (by omega)) p3 (fun Q hQ => ⟨p, p1, m5, ke_processAt0 hn (p_no (Or.inr ha)) (nt_ rfl hQ)⟩) (fun Q hQ => re_isProcess0 (by omega) hn2 (Or.inr ha) ⟨_, rfl, nt_ rfl hQ⟩)
  · obtain ⟨mi, -, hni, hfl⟩ := CQ_q cq hp hi
    have e9 : c_I K 1409 (16 * p + i) = r_A R 2467 (16 * p + i) := (DP_w w hp hi).1.2.1
    have e16 : c_I K 1416 (16 * p + i) = r_A R 2475 (16 * p + i) := (DP_w w hp hi).1.2.2.2.2.2.2
    have ci := nI_clamp (n := 16 * p + i) (by omega)
    have vi : ∀ f : Nat, r_N f = 256 → vp_in (nI (16 * p + i)) (r_N f) := fun f hf => ri_v hf (by omega) (by decide)
    have wh := WR_he (v := 0) w hp hi (Or.inl rfl)
    have e67 : r_A (r_he R (16 * p + i) 0) 2467 (16 * p + i) = r_A R 2467 (16 * p + i) := r_An (Or.inl (by decide))
    have e78 : r_A (r_he R (16 * p + i) 0) 2478 (16 * p + i) = r_A R 2478 (16 * p + i) := r_An (Or.inl (by decide))
    refine AN_c ?_ (fun Q hQ => ⟨p, p1, m5, ke_processAt hn hi n16 mi (nf_ (fun z => (by cases z)) ⟨_, rfl, mi, hQ⟩)⟩) (fun Q hQ => re_isProcess1 (by omega) hn2 n16 hi ⟨_, rfl, nf_ (by decide) hQ⟩)
    simp only [q_16, ci]
    have no : ¬ c_I K 1418 (16 * p + i) = 129 → AN (b + 16) L Z (16 * p + j) (fun Q => (¬ c_I K 1418 (16 * p + i) = 129 → kb_X0_letGoOn_30 L K 0 (some (16 * p + i)) 0 Q) ∧ (c_I K 1418 (16 * p + i) = 129 → kb_X0_letGoOn_30 L K 0 (some (16 * p + i)) 1 Q)) (rb_X12_letsGo_43 R (nI (16 * p + i))) := fun n18 => by
      refine AN_c ?_ (fun Q hQ => nf_ n18 (nt_ rfl ⟨_, rfl, mi, hQ⟩)) (fun Q hQ => ⟨vi _ rfl, nt_ rfl hQ⟩)
      rw [ci, e16]
      by_cases ch : r_A R 2475 (16 * p + i) = 0
      · exact AN_i 2 K R (WR_w w (by omega)) p3 (fun Q hQ => nt_ ch hQ) (fun Q hQ => nt_ ch hQ)
      · refine AN_c ?_ (fun Q hQ => nf_ ch ⟨_, rfl, mi, bt_ rfl hQ⟩) (fun Q hQ => nf_ ch ⟨vi _ rfl, bt_ rfl ⟨vi _ rfl, hQ⟩⟩)
        rw [ci, vn_0, c_In (Or.inl (by decide)), e9, r_An (Or.inl (by decide))]
        by_cases c1 : r_A R 2467 (16 * p + i) = 1
        · refine AN_i 0 _ _ (WR_w (WR_bk wh (by omega) hp hi (e67.trans c1)) (show b + 1 ≤ b + 16 by omega)) p3 (fun Q hQ => nt_ c1 ⟨p, p1, m5, ke_toTheBack mi hQ⟩) (fun Q hQ => nt_ c1 (fun S e => ⟨vi _ rfl, ?_⟩))
          subst e
          rw [r_Is]
          exact hQ
        · exact AN_i 0 _ _ (WR_w wh (by omega)) p3 (fun Q hQ => nf_ c1 hQ) (fun Q hQ => nf_ c1 hQ)
    by_cases c2 : r_A R 2467 (16 * p + i) = 2
    · by_cases c8 : r_A R 2478 (16 * p + i) = 8
      · have e18 := (go_w w hp hi).mpr ⟨c2, c8⟩
        refine AN_i 0 _ _ (WR_w (WR_get (v := 0) wh (by omega) hp hi (e67.trans c2) (by rw [e78, c8]; decide)) (show b + 1 ≤ b + 16 by omega)) p3 (fun Q hQ => nt_ e18 (nf_ (by decide) ⟨_, rfl, mi, bf_ (by decide) ⟨p, p1, m5, ke_answerWaiter mi hQ⟩⟩)) (fun Q hQ => ⟨vi _ rfl, nt_ c2 ⟨vi _ rfl, nt_ c8 ⟨vi _ rfl, nf_ (by decide) ⟨vi _ rfl, bf_ (by decide) ?_⟩⟩⟩⟩)
        rw [ci, vn_0]
        exact re_gets (by omega) ⟨rfl, hQ⟩
      · exact AN_c (no (fun z => c8 ((go_w w hp hi).mp z).2)) (fun Q hQ => hQ) (fun Q hQ => ⟨vi _ rfl, nt_ c2 ⟨vi _ rfl, nf_ c8 hQ⟩⟩)
    · exact AN_c (no (fun z => c2 ((go_w w hp hi).mp z).1)) (fun Q hQ => hQ) (fun Q hQ => ⟨vi _ rfl, nf_ c2 hQ⟩)
theorem AN_29 {b : Nat} {L : c_L} {Z : z_C} {K : c_S} {R : r_S} {p j : Nat} {a : Int32} (x : CX b L Z K R p j) : AN b L Z (16 * p + j) (km_X0_setDue L K 0 a) (rb_X12_ofOthers_86 R (nI (16 * p + j)) a) := by
  obtain ⟨w, ⟨hp, hj⟩, ⟨-, p1, p2, p3⟩, hnow, h1, hm, -⟩ := x
  have cq := WR_cq w
  have np16 := CQ_np cq
  have n16 := CQ_nq cq p hp
  have mq := (CQ_q cq hp hj).1
  have c := nI_clamp (n := 16 * p + j) (by omega)
  have vj : ∀ f : Nat, r_N f = 256 → vp_in (nI (16 * p + j)) (r_N f) := fun f hf => ri_v hf (by omega) (by decide)
  have e4 : c_I K 1404 (16 * p + j) = r_A R 2438 (16 * p + j) := (CQ_e cq hp hj).2.1
  have e5 : c_I K 1405 (16 * p + j) = r_A R 2439 (16 * p + j) := (CQ_e cq hp hj).2.2.1
  have e15 : c_I K 1415 (16 * p + j) = r_A R 2473 (16 * p + j) := (DP_w w hp hj).1.2.2.2.2.2.1
  have b9 := (CQ_b cq hp hj).2.1.1
  have t0 := w.2.2.2.1.1
  have hti := w.2.2.2.1.2 p hp j hj
  by_cases ct : a < 1 ∨ 100000 < a
  · refine AN_i 1 K R w p3 (fun Q hQ => ke_isNoDelay (by rw [if_pos ct]; exact bf_ (by decide) hQ)) (fun Q hQ => ⟨fun _ => hQ, fun z => bf_ (fun z2 => ct.elim z (i_nlt.mpr z2)) hQ⟩)
  · have ca : ¬ a < 1 := fun z => ct (Or.inl z)
    have cb : a ≤ 100000 := i_nlt.mp (fun z => ct (Or.inr z))
    refine AN_c ?_ (fun Q hQ => ke_isNoDelay (by rw [if_neg ct]; exact bt_ rfl ⟨_, p2, mq, hQ⟩)) (fun Q hQ => bf_ ca (bt_ cb ⟨vj _ rfl, hQ⟩))
    rw [c, e5, e4, e15, hnow]
    by_cases c5 : r_A R 2439 (16 * p + j) = 0
    · exact AN_i 3 K R w p3 (fun Q hQ => bt_ c5 hQ) (fun Q hQ => bt_ c5 hQ)
    · refine AN_c ?_ (fun Q hQ => bf_ c5 hQ) (fun Q hQ => bf_ c5 ⟨vj _ rfl, hQ⟩)
      have a0 : 0 ≤ a.toInt ∧ a.toInt ≤ 100000 := by
        have l1 := i_le.mp cb
        have l2 := i_le.mp (i_nlt.mp ca)
        rw [show (100000 : Int32).toInt = 100000 from by decide] at l1
        rw [show (1 : Int32).toInt = 1 from by decide] at l2
        omega
      have ea := i_add (x := r_I R 2463) (y := a) t0.1 a0.1 (by omega)
      have fin : AN b L Z (16 * p + j) (kb_X0_setDue_56 L K 0 a) (rb_X12_ofOthers_145 R (nI (16 * p + j)) a) := by
        refine AN_i 0 _ _ (WR_du (v := r_I R 2463 + a) w hp hj (by omega) ?_ ?_) p3 (fun Q hQ => ⟨_, p2, mq, by rw [hnow]; exact hQ⟩) (fun Q hQ => ⟨vj _ rfl, vj _ rfl, fun S e => ?_⟩)
        · intro z
          refine c5 (Int32.toInt_inj.mp ?_)
          rw [show (0 : Int32).toInt = 0 from by decide]
          omega
        · have := hti.1 (Or.inl h1)
          have this : (r_A R 2473 (16 * p + j)).toInt ≤ (r_I R 2463).toInt := this
          omega
        · subst e
          rw [c, vn_1]
          exact hQ
      by_cases c4 : r_A R 2438 (16 * p + j) ≤ 0
      · exact AN_c fin (fun Q hQ => bt_ c4 hQ) (fun Q hQ => bt_ c4 hQ)
      · by_cases cr : r_I R 2463 + a ≤ r_A R 2473 (16 * p + j) + r_A R 2438 (16 * p + j)
        · exact AN_c fin (fun Q hQ => bf_ c4 (bt_ cr hQ)) (fun Q hQ => bf_ c4 ⟨vj _ rfl, vj _ rfl, bt_ cr hQ⟩)
        · exact AN_i 3 K R w p3 (fun Q hQ => bf_ c4 (bf_ cr hQ)) (fun Q hQ => bf_ c4 ⟨vj _ rfl, vj _ rfl, bf_ cr hQ⟩)
theorem AN_30 {b : Nat} {L : c_L} {Z : z_C} {K : c_S} {R : r_S} {p j : Nat} {a : Int32} (x : CX b L Z K R p j) : AN b L Z (16 * p + j) (km_X0_tellProcess L K 0 a) (rb_X12_ofOthers_167 R (nI p) (nI (16 * p + j)) a) := by
  obtain ⟨w, ⟨hp, hj⟩, ⟨-, p1, p2, p3⟩, hnow, h1, hm, -⟩ := x
  have cq := WR_cq w
  have np16 := CQ_np cq
  have n16 := CQ_nq cq p hp
  have mq := (CQ_q cq hp hj).1
  obtain ⟨m5, -, hn, hn2⟩ := CQ_p cq hp
  rcases pk_ix a (n := z_nq Z p) (by omega) with ha | ha | ⟨i, hi, rfl⟩
  · exact AN_i 1 K R w p3 (fun Q hQ => ⟨p, p1, m5, ke_processAt0 hn (Or.inl ha) (nt_ rfl hQ)⟩) (fun Q hQ => re_isProcess0 (by omega) hn2 (Or.inl ha) ⟨_, rfl, nt_ rfl hQ⟩)
  · exact AN_i 1 K R w p3 (fun Q hQ => ⟨p, p1, m5, ke_processAt0 hn (p_no (Or.inr ha)) (nt_ rfl hQ)⟩) (fun Q hQ => re_isProcess0 (by omega) hn2 (Or.inr ha) ⟨_, rfl, nt_ rfl hQ⟩)
  · obtain ⟨mi, -, hni, hfl⟩ := CQ_q cq hp hi
    have ci := nI_clamp (n := 16 * p + i) (by omega)
    have vi : ∀ f : Nat, r_N f = 256 → vp_in (nI (16 * p + i)) (r_N f) := fun f hf => ri_v hf (by omega) (by decide)
    have ev : ∀ n : Nat, n < 32 → vp_in (nI (32 * (16 * p + j) + n)) (r_N 2477) := fun n hn => ri_v (n := 8192) rfl (by omega) (by decide)
    have ec : ∀ n : Nat, n < 32 → (nI (32 * (16 * p + j) + n)).toNatClampNeg = 32 * (16 * p + j) + n := fun n hn => nI_clamp (by omega)
    have e9 : c_I K 1409 (16 * p + i) = r_A R 2467 (16 * p + i) := (DP_w w hp hi).1.2.1
    have e3 : c_I K 1403 (16 * p + i) = r_A R 2469 (16 * p + i) := (DP_w w hp hi).1.1
    have e12 : c_I K 1412 (16 * p + i) = (if r_A R 2470 (16 * p + i) = 0 then -1 else r_A R 2471 (16 * p + i)) := (DP_w w hp hi).2.2.1.1
    have wx := fun u : Int32 => WR_x (v := u) (WR_x (v := r_A R 2469 (16 * p + i)) (WR_x (v := r_A R 2467 (16 * p + i)) w hp hj (i := 11) (by decide)) hp hj (i := 12) (by decide)) hp hj (i := 13) (by decide)
    refine AN_i 0 _ _ (wx (c_I K 1412 (16 * p + i))) p3 (fun Q hQ => ⟨p, p1, m5, ke_processAt hn hi n16 mi (nf_ (fun z => (by cases z)) ⟨_, rfl, mi, _, p3, mq, v32 (n := 11) (by decide), _, p3, mq, v32 (n := 12) (by decide), fun S e => ?_⟩)⟩) (fun Q hQ => re_isProcess1 (by omega) hn2 n16 hi ⟨_, rfl, nf_ (by decide) ?_⟩)
    · subst e
      refine ⟨_, p3, mq, v32 (n := 13) (by decide), ?_⟩
      rw [← e9, ← e3] at hQ
      exact hQ
    · rw [q_16, ci, show (11 : Int32) = nI 11 from rfl, show (12 : Int32) = nI 12 from rfl, show (13 : Int32) = nI 13 from rfl, q_32, q_32, q_32, ec 11 (by decide), ec 12 (by decide)]
      refine ⟨vi _ rfl, ev 11 (by decide), vi _ rfl, ev 12 (by decide), fun S e => ⟨vi _ rfl, ?_⟩⟩
      rw [r_An (f := 2477) (Or.inl (by decide))] at e
      subst e
      rw [r_An (f := 2477) (f' := 2470) (Or.inl (by decide)), r_An (f := 2477) (f' := 2470) (Or.inl (by decide)), r_An (f := 2477) (f' := 2471) (Or.inl (by decide)), r_An (f := 2477) (f' := 2471) (Or.inl (by decide))]
      rw [e12] at hQ
      by_cases c0 : r_A R 2470 (16 * p + i) = 0
      · rw [if_pos c0] at hQ
        exact bt_ c0 ⟨ev 13 (by decide), by rw [ec 13 (by decide)]; exact hQ⟩
      · rw [if_neg c0] at hQ
        exact bf_ c0 ⟨vi _ rfl, ev 13 (by decide), by rw [ec 13 (by decide)]; exact hQ⟩
theorem AN_31 {b : Nat} {L : c_L} {Z : z_C} {K : c_S} {R : r_S} {p j : Nat} (x : CX b L Z K R p j) : AN b L Z (16 * p + j) (fun Q => ∃ a2_ : Nat, (c_P K 2 0) = some a2_ ∧ (c_mk L 7 a2_ ∧ (Q (c_I K 1400 a2_) K))) (rb_X12_ofOthers_261 R (nI (16 * p + j))) := by
  obtain ⟨w, ⟨hp, hj⟩, ⟨-, p1, p2, p3⟩, hnow, h1, hm, -⟩ := x
  have cq := WR_cq w
  have np16 := CQ_np cq
  have n16 := CQ_nq cq p hp
  obtain ⟨mq, -, hnj, -⟩ := CQ_q cq hp hj
  refine AN_i (nI j) K R w p3 (fun Q hQ => ⟨_, p2, mq, by rw [hnj]; exact hQ⟩) (fun Q hQ => ?_)
  unfold rb_X12_ofOthers_261
  rw [nI_rem (by omega) (by omega)]
  exact hQ
/-- 26 .. 31 together -/
theorem AN_26_31 {b : Nat} {L : c_L} {Z : z_C} {K : c_S} {R : r_S} {p j n : Nat} {a bb : Int32} (x : CX b L Z K R p j) (hb : b < 1999999900) (h1 : 26 ≤ n) (h2 : n ≤ 31) : AN (b + 16) L Z (16 * p + j) (km_X0_ofOthers L K 0 (nI n) a) (rm_X12_ofOthers R (nI n) (nI p) (nI (16 * p + j)) a bb) := by
  have hw : b ≤ b + 16 := by omega
  have : n = 26 ∨ n = 27 ∨ n = 28 ∨ n = 29 ∨ n = 30 ∨ n = 31 := by omega
  rcases this with rfl | rfl | rfl | rfl | rfl | rfl
  · exact AN_c (AN_26 x hb) (fun Q hQ => ⟨fun z => absurd z (by decide), fun _ => hQ, fun z => absurd z (by decide), fun z => absurd z (by decide), fun z => absurd z (by decide), fun z => absurd z (by decide)⟩) (fun Q hQ => ⟨fun z => absurd z (by decide), fun _ => hQ, fun z => absurd z (by decide), fun z => absurd z (by decide), fun z => absurd z (by decide), fun z => absurd z (by decide)⟩)
  · exact AN_m (AN_w (AN_27 x) hw) (fun Q hQ => ⟨fun z => absurd z (by decide), fun z => absurd z (by decide), fun _ => hQ, fun z => absurd z (by decide), fun z => absurd z (by decide), fun z => absurd z (by decide)⟩) (fun Q hQ => ⟨fun z => absurd z (by decide), fun z => absurd z (by decide), fun _ => hQ, fun z => absurd z (by decide), fun z => absurd z (by decide), fun z => absurd z (by decide)⟩)
  · exact AN_m (AN_28 x hb) (fun Q hQ => ⟨fun z => absurd z (by decide), fun z => absurd z (by decide), fun z => absurd z (by decide), fun _ => hQ, fun z => absurd z (by decide), fun z => absurd z (by decide)⟩) (fun Q hQ => ⟨fun z => absurd z (by decide), fun z => absurd z (by decide), fun z => absurd z (by decide), fun _ => hQ, fun z => absurd z (by decide), fun z => absurd z (by decide)⟩)
  · exact AN_c (AN_w (AN_29 x) hw) (fun Q hQ => ⟨fun z => absurd z (by decide), fun z => absurd z (by decide), fun z => absurd z (by decide), fun z => absurd z (by decide), fun _ => hQ, fun z => absurd z (by decide)⟩) (fun Q hQ => ⟨fun z => absurd z (by decide), fun z => absurd z (by decide), fun z => absurd z (by decide), fun z => absurd z (by decide), fun _ => hQ, fun z => absurd z (by decide)⟩)
  · exact AN_c (AN_w (AN_30 x) hw) (fun Q hQ => ⟨fun z => absurd z (by decide), fun z => absurd z (by decide), fun z => absurd z (by decide), fun z => absurd z (by decide), fun z => absurd z (by decide), fun _ => hQ⟩) (fun Q hQ => ⟨fun z => absurd z (by decide), fun z => absurd z (by decide), fun z => absurd z (by decide), fun z => absurd z (by decide), fun z => absurd z (by decide), fun _ => hQ⟩)
  · exact AN_c (AN_w (AN_31 x) hw) (fun Q hQ => ⟨fun _ => hQ, fun z => absurd z (by decide), fun z => absurd z (by decide), fun z => absurd z (by decide), fun z => absurd z (by decide), fun z => absurd z (by decide)⟩) (fun Q hQ => ⟨fun _ => hQ, fun z => absurd z (by decide), fun z => absurd z (by decide), fun z => absurd z (by decide), fun z => absurd z (by decide), fun z => absurd z (by decide)⟩)
