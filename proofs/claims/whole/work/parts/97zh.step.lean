/-! One instruction: alike. -/
theorem XE_call {b : Nat} {L : c_L} {Z : z_C} {K : c_S} {R : r_S} {p j : Nat} (x : MX b L Z K R p j) : XE (b + 64) L Z p (16 * p + j) (fun Q => Q 5 K) (fun Q => rm_X12_calls R (nI p) (nI (16 * p + j)) (r_A R 2468 (16 * p + j)) (fun r S => r = none ∧ Q none S)) := by
  obtain ⟨w, gk, ⟨hp, hj⟩, s1, hm, tk, hb, -⟩ := x
  obtain ⟨K', R', h1, h2, h3⟩ := P_call w gk hb hp hj s1 hm tk
  exact ⟨K', R', fun Q hQ => nt_ rfl (h1 Q hQ), fun Q hQ => h2 _ ⟨rfl, hQ⟩, h3⟩
theorem XE_step {b : Nat} {L : c_L} {Z : z_C} {K : c_S} {R : r_S} {p j : Nat} (x : MX b L Z K R p j) : XE (b + 64) L Z p (16 * p + j) (km_X3_step L K 0 (some (16 * p + j)) (some p)) (rm_X12_execute R (nI p) (nI (16 * p + j))) := by
  obtain ⟨hp16, hj16, mq, m4⟩ := MX_b x
  have hp := x.2.2.1.1
  have hj := x.2.2.1.2
  have np16 := CQ_np (WR_cq x.1)
  have cm := WR_cm x.1
  have hmv : p < z_mv Z := x.2.2.2.2.2.1.2.2.1
  have ej := nI_clamp (n := 16 * p + j) (by omega)
  have cp := nI_clamp (n := p) (by omega)
  have vj : vp_in (nI (16 * p + j)) (r_N 2468) := ri_v (n := 256) rfl (by omega) (by decide)
  have vp : vp_in (nI p) (r_N 2425) := ri_v (n := 16) rfl (by omega) (by decide)
  obtain ⟨b1, b2, b3, b4, b5, -⟩ := CM_p cm hp
  have x1 := MX_600 (v := r_A R 2468 (16 * p + j)) x
  have cm1 := WR_cm x1.1
  refine XE_c ?_ (fun Q hQ => ⟨_, rfl, mq, hQ⟩) (fun Q hQ => ⟨vj, hQ⟩)
  rw [c_In (f' := 1410) (f := 600) (Or.inl (by decide)), MX_pc x, ej]
  rcases P_place (v := r_A R 2468 (16 * p + j)) (N := 4) (k := 2) (m := 3) x (by decide) (by decide) (by decide) (by decide) with ⟨p1, p2⟩ | ⟨p1, p2, p3, p4⟩ | ⟨p1, p2, n, en, p4, p5, p6, p7, p8⟩
  · exact XE_bad (k := 4) x1 (by decide) c_Is (fun Q hQ => bf_ p1 hQ) (fun Q hQ => bf_ p2 hQ)
  · refine XE_bad (k := 1) x1 (by decide) c_Is (fun Q hQ => bt_ p1 ⟨_, rfl, m4, ke_sortAt0 cm1 hp p3 (bf_ (by decide) (nf_ (by decide) ⟨nb_0, nt_ rfl hQ⟩))⟩) (fun Q hQ => bt_ p2 ?_)
    rcases p4 with p4 | p4
    · exact bt_ p4 ⟨nb_0, _, rfl, bt_ rfl hQ⟩
    · refine bf_ p4.1 ⟨vp, ?_⟩
      rw [cp]
      exact bt_ p4.2 ⟨nb_0, _, rfl, bt_ rfl hQ⟩
  · obtain ⟨i, g1, g2, g3⟩ := re_ex cm hp p4
    have within : ∀ Q : Option Value → r_S → Prop, Q (some (.int 1)) R → rm_X12_isWithin R (nI p) (r_A R 2468 (16 * p + j)) 4 Q := fun Q hQ => bf_ p6 ⟨vp, by rw [cp]; exact bf_ p7 ⟨nb_1, hQ⟩⟩
    by_cases ss : r_A R 2429 (6 * p + i) = 0 ∨ r_A R 2429 (6 * p + i) = 3
    case neg =>
      refine XE_bad (k := 1) x1 (by decide) c_Is (fun Q hQ => bt_ p1 ⟨_, rfl, m4, ?_⟩) (fun Q hQ => bt_ p2 (within _ ⟨_, rfl, bf_ (by decide) ?_⟩))
      · rw [en] at hQ ⊢
        exact ke_sortAt cm1 hp g1 g2 g3 (bf_ (fun z => ss (Or.inl z)) (nf_ (fun z => ss (Or.inr z)) ⟨nb_0, nt_ rfl hQ⟩))
      · rw [en] at hQ ⊢
        exact re_isIn cm np16 hp g1 g2 g3 ⟨_, rfl, nt_ (by rw [if_neg ss]) hQ⟩
    case pos =>
      have n8 : n + 4 ≤ 8192 := by omega
      have mr : ∀ Q : Int32 → c_S → Prop, Q 1 (cs_I K 600 0 (r_A R 2468 (16 * p + j))) → km_X4_mayRun L (cs_I K 600 0 (r_A R 2468 (16 * p + j))) p (r_A R 2468 (16 * p + j)) Q := fun Q hQ => by
        rw [en] at hQ ⊢
        refine ke_sortAt cm1 hp g1 g2 g3 ?_
        by_cases s0 : r_A R 2429 (6 * p + i) = 0
        · exact bt_ s0 ⟨nb_1, hQ⟩
        · exact bf_ s0 (nt_ (ss.resolve_left s0) ⟨nb_1, hQ⟩)
      refine XE_c ?_ (fun Q hQ => bt_ p1 ⟨_, rfl, m4, mr _ (nf_ (by decide) (by
        rw [c_In (f' := 1410) (f := 600) (Or.inl (by decide)), MX_pc x, en]
        exact ke_partAt (n := 4) x1.1 hp hmv p4 (Or.inr (Or.inr rfl)) p5 (by rw [← en]; exact hQ)))⟩) (fun Q hQ => bt_ p2 (within _ ⟨_, rfl, bf_ (by decide) (by
        rw [en]
        refine re_isIn cm np16 hp g1 g2 g3 ⟨_, rfl, nf_ (by rw [if_pos ss]; decide) (re_read (n := 4) hp16 (Or.inr (Or.inr rfl)) n8 ⟨_, rfl, ?_⟩)⟩
        rw [← en]
        exact hQ)⟩))
      generalize r_by R p n 4 = w
      obtain ⟨i1, h1, e1⟩ := rg_31 w ((15 : Int32) &&& 31)
      obtain ⟨i2, h2, e2⟩ := rg_31 w ((20 : Int32) &&& 31)
      have vr1 : vp_in (((32 : Int32) * nI (16 * p + j)) + ((w >>> ((15 : Int32) &&& 31)) &&& (31 : Int32))) (r_N 2477) := by rw [e1, q_32]; exact ri_v (n := 8192) rfl (by omega) (by decide)
      have vr2 : vp_in (((32 : Int32) * nI (16 * p + j)) + ((w >>> ((20 : Int32) &&& 31)) &&& (31 : Int32))) (r_N 2477) := by rw [e2, q_32]; exact ri_v (n := 8192) rfl (by omega) (by decide)
      refine XE_c ?_ (fun Q hQ => hQ) (fun Q hQ => ⟨vr1, vr2, hQ⟩)
      have x2 := MX_600 (v := w) x1
      have e6 : c_I (cs_I (cs_I K 600 0 (r_A R 2468 (16 * p + j))) 600 0 w) 600 0 = w := c_Is
      have pc2 := MX_pc x2
      rw [pc2]
      by_cases e : w &&& (127 : Int32) = (3 : Int32)
      · exact XE_c (XE_3 x2 e6) (fun Q hQ => ⟨fun _ => hQ, fun z => absurd (e.symm.trans z) (by decide), fun z => absurd (e.symm.trans z) (by decide), fun z => absurd (e.symm.trans z) (by decide), fun z => absurd (e.symm.trans z) (by decide), fun z => absurd (e.symm.trans z) (by decide), fun z => absurd (e.symm.trans z) (by decide), fun z => absurd (e.symm.trans z) (by decide), fun z => absurd (e.symm.trans z) (by decide), fun z => absurd e z.1⟩) (fun Q hQ => ⟨fun _ => hQ, fun z => absurd (e.symm.trans z) (by decide), fun z => absurd (e.symm.trans z) (by decide), fun z => absurd (e.symm.trans z) (by decide), fun z => absurd (e.symm.trans z) (by decide), fun z => absurd (e.symm.trans z) (by decide), fun z => absurd (e.symm.trans z) (by decide), fun z => absurd (e.symm.trans z) (by decide), fun z => absurd (e.symm.trans z) (by decide), fun z => absurd e z.1⟩)
      have n3 := e
      clear e
      by_cases e : w &&& (127 : Int32) = (19 : Int32)
      · exact XE_c (XE_19 x2 e6) (fun Q hQ => ⟨fun z => absurd (e.symm.trans z) (by decide), fun _ => hQ, fun z => absurd (e.symm.trans z) (by decide), fun z => absurd (e.symm.trans z) (by decide), fun z => absurd (e.symm.trans z) (by decide), fun z => absurd (e.symm.trans z) (by decide), fun z => absurd (e.symm.trans z) (by decide), fun z => absurd (e.symm.trans z) (by decide), fun z => absurd (e.symm.trans z) (by decide), fun z => absurd e z.2.1⟩) (fun Q hQ => ⟨fun z => absurd (e.symm.trans z) (by decide), fun _ => hQ, fun z => absurd (e.symm.trans z) (by decide), fun z => absurd (e.symm.trans z) (by decide), fun z => absurd (e.symm.trans z) (by decide), fun z => absurd (e.symm.trans z) (by decide), fun z => absurd (e.symm.trans z) (by decide), fun z => absurd (e.symm.trans z) (by decide), fun z => absurd (e.symm.trans z) (by decide), fun z => absurd e z.2.1⟩)
      have n19 := e
      clear e
      by_cases e : w &&& (127 : Int32) = (23 : Int32)
      · refine XE_c (XE_fin (w := w) (result := r_A R 2468 (16 * p + j) + (w &&& (-4096 : Int32))) (next := r_A R 2468 (16 * p + j) + 4) x2) (fun Q hQ => ⟨fun z => absurd (e.symm.trans z) (by decide), fun z => absurd (e.symm.trans z) (by decide), fun _ => hQ, fun z => absurd (e.symm.trans z) (by decide), fun z => absurd (e.symm.trans z) (by decide), fun z => absurd (e.symm.trans z) (by decide), fun z => absurd (e.symm.trans z) (by decide), fun z => absurd (e.symm.trans z) (by decide), fun z => absurd (e.symm.trans z) (by decide), fun z => absurd e z.2.2.1⟩) (fun Q hQ => ⟨fun z => absurd (e.symm.trans z) (by decide), fun z => absurd (e.symm.trans z) (by decide), fun _ => ?_, fun z => absurd (e.symm.trans z) (by decide), fun z => absurd (e.symm.trans z) (by decide), fun z => absurd (e.symm.trans z) (by decide), fun z => absurd (e.symm.trans z) (by decide), fun z => absurd (e.symm.trans z) (by decide), fun z => absurd (e.symm.trans z) (by decide), fun z => absurd e z.2.2.1⟩)
        unfold rb_X12_execute_236 rb_X12_execute_837
        rw [ej]
        exact hQ
      have n23 := e
      clear e
      by_cases e : w &&& (127 : Int32) = (35 : Int32)
      · exact XE_c (XE_35 x2 e6) (fun Q hQ => ⟨fun z => absurd (e.symm.trans z) (by decide), fun z => absurd (e.symm.trans z) (by decide), fun z => absurd (e.symm.trans z) (by decide), fun _ => hQ, fun z => absurd (e.symm.trans z) (by decide), fun z => absurd (e.symm.trans z) (by decide), fun z => absurd (e.symm.trans z) (by decide), fun z => absurd (e.symm.trans z) (by decide), fun z => absurd (e.symm.trans z) (by decide), fun z => absurd e z.2.2.2.1⟩) (fun Q hQ => ⟨fun z => absurd (e.symm.trans z) (by decide), fun z => absurd (e.symm.trans z) (by decide), fun z => absurd (e.symm.trans z) (by decide), fun _ => hQ, fun z => absurd (e.symm.trans z) (by decide), fun z => absurd (e.symm.trans z) (by decide), fun z => absurd (e.symm.trans z) (by decide), fun z => absurd (e.symm.trans z) (by decide), fun z => absurd (e.symm.trans z) (by decide), fun z => absurd e z.2.2.2.1⟩)
      have n35 := e
      clear e
      by_cases e : w &&& (127 : Int32) = (51 : Int32)
      · exact XE_c (XE_51 x2 e6) (fun Q hQ => ⟨fun z => absurd (e.symm.trans z) (by decide), fun z => absurd (e.symm.trans z) (by decide), fun z => absurd (e.symm.trans z) (by decide), fun z => absurd (e.symm.trans z) (by decide), fun _ => hQ, fun z => absurd (e.symm.trans z) (by decide), fun z => absurd (e.symm.trans z) (by decide), fun z => absurd (e.symm.trans z) (by decide), fun z => absurd (e.symm.trans z) (by decide), fun z => absurd e z.2.2.2.2.1⟩) (fun Q hQ => ⟨fun z => absurd (e.symm.trans z) (by decide), fun z => absurd (e.symm.trans z) (by decide), fun z => absurd (e.symm.trans z) (by decide), fun z => absurd (e.symm.trans z) (by decide), fun _ => hQ, fun z => absurd (e.symm.trans z) (by decide), fun z => absurd (e.symm.trans z) (by decide), fun z => absurd (e.symm.trans z) (by decide), fun z => absurd (e.symm.trans z) (by decide), fun z => absurd e z.2.2.2.2.1⟩)
      have n51 := e
      clear e
      by_cases e : w &&& (127 : Int32) = (55 : Int32)
      · refine XE_c (XE_fin (w := w) (result := w &&& (-4096 : Int32)) (next := r_A R 2468 (16 * p + j) + 4) x2) (fun Q hQ => ⟨fun z => absurd (e.symm.trans z) (by decide), fun z => absurd (e.symm.trans z) (by decide), fun z => absurd (e.symm.trans z) (by decide), fun z => absurd (e.symm.trans z) (by decide), fun z => absurd (e.symm.trans z) (by decide), fun _ => hQ, fun z => absurd (e.symm.trans z) (by decide), fun z => absurd (e.symm.trans z) (by decide), fun z => absurd (e.symm.trans z) (by decide), fun z => absurd e z.2.2.2.2.2.1⟩) (fun Q hQ => ⟨fun z => absurd (e.symm.trans z) (by decide), fun z => absurd (e.symm.trans z) (by decide), fun z => absurd (e.symm.trans z) (by decide), fun z => absurd (e.symm.trans z) (by decide), fun z => absurd (e.symm.trans z) (by decide), fun _ => ?_, fun z => absurd (e.symm.trans z) (by decide), fun z => absurd (e.symm.trans z) (by decide), fun z => absurd (e.symm.trans z) (by decide), fun z => absurd e z.2.2.2.2.2.1⟩)
        unfold rb_X12_execute_220 rb_X12_execute_837
        rw [ej]
        exact hQ
      have n55 := e
      clear e
      by_cases e : w &&& (127 : Int32) = (99 : Int32)
      · exact XE_c (XE_99 x2 e6) (fun Q hQ => ⟨fun z => absurd (e.symm.trans z) (by decide), fun z => absurd (e.symm.trans z) (by decide), fun z => absurd (e.symm.trans z) (by decide), fun z => absurd (e.symm.trans z) (by decide), fun z => absurd (e.symm.trans z) (by decide), fun z => absurd (e.symm.trans z) (by decide), fun _ => hQ, fun z => absurd (e.symm.trans z) (by decide), fun z => absurd (e.symm.trans z) (by decide), fun z => absurd e z.2.2.2.2.2.2.1⟩) (fun Q hQ => ⟨fun z => absurd (e.symm.trans z) (by decide), fun z => absurd (e.symm.trans z) (by decide), fun z => absurd (e.symm.trans z) (by decide), fun z => absurd (e.symm.trans z) (by decide), fun z => absurd (e.symm.trans z) (by decide), fun z => absurd (e.symm.trans z) (by decide), fun _ => hQ, fun z => absurd (e.symm.trans z) (by decide), fun z => absurd (e.symm.trans z) (by decide), fun z => absurd e z.2.2.2.2.2.2.1⟩)
      have n99 := e
      clear e
      by_cases e : w &&& (127 : Int32) = (103 : Int32)
      · have y1 : c_A (cs_I (cs_I K 600 0 (r_A R 2468 (16 * p + j))) 600 0 w) 1411 (16 * p + j) ((w >>> ((15 : Int32) &&& 31)) &&& (31 : Int32)).toNatClampNeg = r_A R 2477 (32 * (16 * p + j) + i1) := by rw [e1, nI_clamp (by omega)]; exact MX_reg x2 h1
        have y2 : r_A R 2477 (((32 : Int32) * nI (16 * p + j)) + ((w >>> ((15 : Int32) &&& 31)) &&& (31 : Int32))).toNatClampNeg = r_A R 2477 (32 * (16 * p + j) + i1) := by rw [e1, q_32, nI_clamp (by omega)]
        have v1 : vp_in ((w >>> ((15 : Int32) &&& 31)) &&& (31 : Int32)) 32 := by rw [e1]; exact v32 h1
        rw [y1, y2]
        by_cases c0 : (w >>> ((12 : Int32) &&& 31)) &&& (7 : Int32) = 0
        · refine XE_c (XE_fin (w := w) (result := r_A R 2468 (16 * p + j) + 4) (next := (r_A R 2477 (32 * (16 * p + j) + i1) + (w >>> ((20 : Int32) &&& 31))) &&& (-2 : Int32)) x2) (fun Q hQ => ⟨fun z => absurd (e.symm.trans z) (by decide), fun z => absurd (e.symm.trans z) (by decide), fun z => absurd (e.symm.trans z) (by decide), fun z => absurd (e.symm.trans z) (by decide), fun z => absurd (e.symm.trans z) (by decide), fun z => absurd (e.symm.trans z) (by decide), fun z => absurd (e.symm.trans z) (by decide), fun _ => bt_ c0 ⟨v1, hQ⟩, fun z => absurd (e.symm.trans z) (by decide), fun z => absurd e z.2.2.2.2.2.2.2.1⟩) (fun Q hQ => ⟨fun z => absurd (e.symm.trans z) (by decide), fun z => absurd (e.symm.trans z) (by decide), fun z => absurd (e.symm.trans z) (by decide), fun z => absurd (e.symm.trans z) (by decide), fun z => absurd (e.symm.trans z) (by decide), fun z => absurd (e.symm.trans z) (by decide), fun z => absurd (e.symm.trans z) (by decide), fun _ => bt_ c0 ?_, fun z => absurd (e.symm.trans z) (by decide), fun z => absurd e z.2.2.2.2.2.2.2.1⟩)
          rw [ej]
          exact hQ
        · exact XE_bad (k := 0) x2 (by decide) e6 (fun Q hQ => ⟨fun z => absurd (e.symm.trans z) (by decide), fun z => absurd (e.symm.trans z) (by decide), fun z => absurd (e.symm.trans z) (by decide), fun z => absurd (e.symm.trans z) (by decide), fun z => absurd (e.symm.trans z) (by decide), fun z => absurd (e.symm.trans z) (by decide), fun z => absurd (e.symm.trans z) (by decide), fun _ => bf_ c0 hQ, fun z => absurd (e.symm.trans z) (by decide), fun z => absurd e z.2.2.2.2.2.2.2.1⟩) (fun Q hQ => ⟨fun z => absurd (e.symm.trans z) (by decide), fun z => absurd (e.symm.trans z) (by decide), fun z => absurd (e.symm.trans z) (by decide), fun z => absurd (e.symm.trans z) (by decide), fun z => absurd (e.symm.trans z) (by decide), fun z => absurd (e.symm.trans z) (by decide), fun z => absurd (e.symm.trans z) (by decide), fun _ => bf_ c0 hQ, fun z => absurd (e.symm.trans z) (by decide), fun z => absurd e z.2.2.2.2.2.2.2.1⟩)
      have n103 := e
      clear e
      by_cases e : w &&& (127 : Int32) = (111 : Int32)
      · refine XE_c (XE_fin (w := w) (result := r_A R 2468 (16 * p + j) + 4) (next := r_A R 2468 (16 * p + j) + (((((w >>> ((31 : Int32) &&& 31)) <<< ((20 : Int32) &&& 31)) ||| (((w >>> ((12 : Int32) &&& 31)) &&& (255 : Int32)) <<< ((12 : Int32) &&& 31))) ||| (((w >>> ((20 : Int32) &&& 31)) &&& (1 : Int32)) <<< ((11 : Int32) &&& 31))) ||| (((w >>> ((21 : Int32) &&& 31)) &&& (1023 : Int32)) <<< ((1 : Int32) &&& 31)))) x2) (fun Q hQ => ⟨fun z => absurd (e.symm.trans z) (by decide), fun z => absurd (e.symm.trans z) (by decide), fun z => absurd (e.symm.trans z) (by decide), fun z => absurd (e.symm.trans z) (by decide), fun z => absurd (e.symm.trans z) (by decide), fun z => absurd (e.symm.trans z) (by decide), fun z => absurd (e.symm.trans z) (by decide), fun z => absurd (e.symm.trans z) (by decide), fun _ => hQ, fun z => absurd e z.2.2.2.2.2.2.2.2⟩) (fun Q hQ => ⟨fun z => absurd (e.symm.trans z) (by decide), fun z => absurd (e.symm.trans z) (by decide), fun z => absurd (e.symm.trans z) (by decide), fun z => absurd (e.symm.trans z) (by decide), fun z => absurd (e.symm.trans z) (by decide), fun z => absurd (e.symm.trans z) (by decide), fun z => absurd (e.symm.trans z) (by decide), fun z => absurd (e.symm.trans z) (by decide), fun _ => ?_, fun z => absurd e z.2.2.2.2.2.2.2.2⟩)
        unfold rb_X12_execute_254
        rw [ej]
        exact hQ
      have n111 := e
      clear e
      by_cases c : w = 115
      · exact XE_c (XE_call x2) (fun Q hQ => ⟨fun z => absurd z n3, fun z => absurd z n19, fun z => absurd z n23, fun z => absurd z n35, fun z => absurd z n51, fun z => absurd z n55, fun z => absurd z n99, fun z => absurd z n103, fun z => absurd z n111, fun _ => nt_ c hQ⟩) (fun Q hQ => ⟨fun z => absurd z n3, fun z => absurd z n19, fun z => absurd z n23, fun z => absurd z n35, fun z => absurd z n51, fun z => absurd z n55, fun z => absurd z n99, fun z => absurd z n103, fun z => absurd z n111, fun _ => nt_ c hQ⟩)
      · exact XE_bad (k := 0) x2 (by decide) e6 (fun Q hQ => ⟨fun z => absurd z n3, fun z => absurd z n19, fun z => absurd z n23, fun z => absurd z n35, fun z => absurd z n51, fun z => absurd z n55, fun z => absurd z n99, fun z => absurd z n103, fun z => absurd z n111, fun _ => nf_ c hQ⟩) (fun Q hQ => ⟨fun z => absurd z n3, fun z => absurd z n19, fun z => absurd z n23, fun z => absurd z n35, fun z => absurd z n51, fun z => absurd z n55, fun z => absurd z n99, fun z => absurd z n103, fun z => absurd z n111, fun _ => nf_ c hQ⟩)
