/-! The calls together. -/
theorem AN_23 {b : Nat} {L : c_L} {Z : z_C} {K : c_S} {R : r_S} {p j : Nat} {a : Int32} (x : CX b L Z K R p j) (hb : b < 1999999700) : AN (b + 64) L Z (16 * p + j) (km_X0_beginPartition L K 0 a) (rb_X12_ofPorts_143 R (nI p) a) := by
  obtain ⟨w, ⟨hp, hj⟩, ⟨p0, p1, p2, p3⟩, hnow, h1, hm, gk⟩ := x
  have m5 := (CQ_p (WR_cq w) hp).1
  by_cases a0 : a < 0
  · exact AN_i 1 K R (WR_w w (by omega)) p3 (fun Q hQ => bt_ a0 hQ) (fun Q hQ => bt_ a0 hQ)
  by_cases a2 : a ≤ 2
  case neg => exact AN_i 1 K R (WR_w w (by omega)) p3 (fun Q hQ => bf_ a0 (bf_ a2 hQ)) (fun Q hQ => bf_ a0 (bf_ a2 hQ))
  case pos =>
    obtain ⟨n, hn, rfl⟩ := nI_of2 (n := 2) (M := 2) (by decide) a0 a2
    have : n = 0 ∨ n = 1 ∨ n = 2 := by omega
    rcases this with rfl | rfl | rfl
    · obtain ⟨K', R', a1, a2, a3, a4, a5, a6⟩ := P_begin (cold := 0) (how := 1) w gk (by omega) hp hm (Or.inl rfl) (Or.inl rfl)
      exact AN_i (-1) K' (rs_I R' 2513 1) (WR_13 (WR_w a3 (by omega))) ((a4 3 0).trans p3) (fun Q hQ => bf_ (by decide) (bt_ (by decide) (nf_ (by decide) (nf_ (by decide) (nf_ (by decide) ⟨p, p1, m5, by rw [hnow]; exact a1 _ hQ⟩))))) (fun Q hQ => bf_ (by decide) (bt_ (by decide) (nf_ (by decide) (nf_ (by decide) (a2 _ ⟨rfl, hQ⟩)))))
    · obtain ⟨K', R', a1, a2, a3, a4, a5, a6⟩ := P_begin (cold := 1) (how := 2) w gk (by omega) hp hm (Or.inr rfl) (Or.inl rfl)
      exact AN_i (-1) K' (rs_I R' 2513 1) (WR_13 (WR_w a3 (by omega))) ((a4 3 0).trans p3) (fun Q hQ => bf_ (by decide) (bt_ (by decide) (nf_ (by decide) (nt_ (by decide) (nt_ (by decide) ⟨p, p1, m5, by rw [hnow]; exact a1 _ hQ⟩))))) (fun Q hQ => bf_ (by decide) (bt_ (by decide) (nf_ (by decide) (nt_ (by decide) (a2 _ ⟨rfl, hQ⟩)))))
    · obtain ⟨K', R', a1, a2, a3, a4, a5⟩ := P_idle w (by omega) hp
      exact AN_i (-1) K' (rs_I R' 2513 1) (WR_13 (WR_w a3 (by omega))) ((a4 3 0).trans p3) (fun Q hQ => bf_ (by decide) (bt_ (by decide) (nt_ (by decide) ⟨p, p1, m5, a1 _ hQ⟩))) (fun Q hQ => bf_ (by decide) (bt_ (by decide) (nt_ (by decide) (a2 _ ⟨rfl, hQ⟩))))
theorem AF_c {b : Nat} {L : c_L} {Z : z_C} {q : Nat} {KM KM' : (Int32 → c_S → Prop) → Prop} {RM RM' : (Option Value → r_S → Prop) → Prop} (h : AF b L Z q KM RM) (hk : ∀ Q : Int32 → c_S → Prop, KM Q → KM' Q) (hr : ∀ Q : Option Value → r_S → Prop, RM Q → RM' Q) : AF b L Z q KM' RM' := by
  obtain ⟨K', R', h1, h2, h3⟩ := h
  exact ⟨K', R', fun Q z => hk _ (h1 Q z), fun Q z => hr _ (h2 Q z), h3⟩
theorem AN_8_12 {b : Nat} {L : c_L} {Z : z_C} {K : c_S} {R : r_S} {p j n : Nat} {a bb c : Int32} (x : CX b L Z K R p j) (hb : b < 1999999900) (h1 : 8 ≤ n) (h2 : n ≤ 12) : AN (b + 16) L Z (16 * p + j) (km_X0_ofSignals L K 0 (nI n) a bb) (rm_X12_ofThings R (nI n) (nI p) (nI (16 * p + j)) a bb c) := by
  have : n = 8 ∨ n = 9 ∨ n = 10 ∨ n = 11 ∨ n = 12 := by omega
  rcases this with rfl | rfl | rfl | rfl | rfl
  · exact AN_8 x hb
  · exact AN_9 x hb
  · exact AN_10 x hb
  · exact AN_11 x hb
  · exact AN_12 x hb
theorem AN_13_17 {b : Nat} {L : c_L} {Z : z_C} {K : c_S} {R : r_S} {p j n : Nat} {a bb c : Int32} (x : CX b L Z K R p j) (hb : b < 1999999900) (h1 : 13 ≤ n) (h2 : n ≤ 17) : AN (b + 16) L Z (16 * p + j) (km_X0_ofWords L K 0 (nI n) a bb c) (rm_X12_ofThings R (nI n) (nI p) (nI (16 * p + j)) a bb c) := by
  have : n = 13 ∨ n = 14 ∨ n = 15 ∨ n = 16 ∨ n = 17 := by omega
  rcases this with rfl | rfl | rfl | rfl | rfl
  · exact AN_13 x hb
  · exact AN_14 x hb
  · exact AN_15 x hb
  · exact AN_16 x hb
  · exact AN_17 x hb
theorem AF_21_25 {b : Nat} {L : c_L} {Z : z_C} {K : c_S} {R : r_S} {p j n : Nat} {a bb c : Int32} (x : CX b L Z K R p j) (hb : b < 1999999700) (h1 : 21 ≤ n) (h2 : n ≤ 25) : AF (b + 64) L Z (16 * p + j) (km_X0_ofPartition L K 0 (nI n) a) (rm_X12_ofPorts R (nI n) (nI p) (nI (16 * p + j)) a bb c) := by
  have hp := x.2.1.1
  have hj := x.2.1.2
  have hw : b ≤ b + 64 := by omega
  have : n = 21 ∨ n = 22 ∨ n = 23 ∨ n = 24 ∨ n = 25 := by omega
  rcases this with rfl | rfl | rfl | rfl | rfl
  · exact AF_c (AF_of hp hj (AN_w (AN_21 x) hw)) (fun Q hQ => ⟨fun z => absurd z (by decide), fun _ => hQ, fun z => absurd z (by decide), fun z => absurd z (by decide), fun z => absurd z (by decide)⟩) (fun Q hQ => ⟨fun z => absurd z (by decide), fun z => absurd z (by decide), fun z => absurd z (by decide), fun z => absurd z (by decide), fun _ => hQ, fun z => absurd z (by decide), fun z => absurd z (by decide), fun z => absurd z (by decide)⟩)
  · exact AF_c (AF_of hp hj (AN_w (AN_22 x) hw)) (fun Q hQ => ⟨fun z => absurd z (by decide), fun z => absurd z (by decide), fun _ => hQ, fun z => absurd z (by decide), fun z => absurd z (by decide)⟩) (fun Q hQ => ⟨fun z => absurd z (by decide), fun z => absurd z (by decide), fun z => absurd z (by decide), fun z => absurd z (by decide), fun z => absurd z (by decide), fun _ => hQ, fun z => absurd z (by decide), fun z => absurd z (by decide)⟩)
  · exact AF_c (AF_of hp hj (AN_23 x hb)) (fun Q hQ => ⟨fun z => absurd z (by decide), fun z => absurd z (by decide), fun z => absurd z (by decide), fun _ => hQ, fun z => absurd z (by decide)⟩) (fun Q hQ => ⟨fun z => absurd z (by decide), fun z => absurd z (by decide), fun z => absurd z (by decide), fun z => absurd z (by decide), fun z => absurd z (by decide), fun z => absurd z (by decide), fun _ => hQ, fun z => absurd z (by decide)⟩)
  · exact AF_c (AF_w (AF_24 x) hw) (fun Q hQ => ⟨fun z => absurd z (by decide), fun z => absurd z (by decide), fun z => absurd z (by decide), fun z => absurd z (by decide), fun _ => hQ⟩) (fun Q hQ => ⟨fun z => absurd z (by decide), fun z => absurd z (by decide), fun z => absurd z (by decide), fun z => absurd z (by decide), fun z => absurd z (by decide), fun z => absurd z (by decide), fun z => absurd z (by decide), fun _ => hQ⟩)
  · exact AF_of hp hj (AN_w (AN_m (AN_25 x (by omega)) (fun Q hQ => ⟨fun _ => hQ, fun z => absurd z (by decide), fun z => absurd z (by decide), fun z => absurd z (by decide), fun z => absurd z (by decide)⟩) (fun Q hQ => ⟨fun _ => hQ, fun z => absurd z (by decide), fun z => absurd z (by decide), fun z => absurd z (by decide), fun z => absurd z (by decide), fun z => absurd z (by decide), fun z => absurd z (by decide), fun z => absurd z (by decide)⟩)) (show b + 16 ≤ b + 64 by omega))
/-- what a tick knows of its window -/
def TK (Z : z_C) (p : Nat) : Prop := ZW Z ∧ z_tm Z < 2 ^ 31 ∧ p < z_mv Z ∧ ∃ i : Nat, WN Z (z_tm Z) i ∧ z_wo Z i = p
theorem WR_kw {b : Nat} {L : c_L} {Z : z_C} {K : c_S} {R : r_S} (w : WR b L Z K R) (zw : ZW Z) : KW Z K (z_tm Z) ∧ RW Z R (z_tm Z) := by
  have cc := WR_cc w
  have gl := GL_el w
  have ti := gl.2.2.2.2.2.1
  refine ⟨⟨cc.2.2.2.2.1.1, gl.1.trans ti, fun i hi => ?_⟩, ⟨cc.2.2.2.2.1.2, ti, cc.2.2.2.2.2.2.2.2.2.2.1 zw.1.1, fun i hi => ?_⟩⟩
  · have h := cc.2.2.2.2.2.2.2.2.2.2.2 i hi
    exact ⟨h.2.1, h.2.2.2.1⟩
  · have h := cc.2.2.2.2.2.2.2.2.2.2.2 i hi
    exact ⟨h.2.2.1, h.2.2.2.2.2.2⟩
theorem AN_32_36 {b : Nat} {L : c_L} {Z : z_C} {K : c_S} {R : r_S} {p j n : Nat} {a bb c : Int32} (x : CX b L Z K R p j) (hb : b < 1999999900) (tk : TK Z p) (h1 : 32 ≤ n) (h2 : n ≤ 36) : AN (b + 16) L Z (16 * p + j) (km_X0_ofLooks L K 0 (nI n) a bb c) (rm_X12_asks R (nI n) (nI p) (nI (16 * p + j)) a bb c) := by
  obtain ⟨zw, tm, mv, i, wn, ho⟩ := tk
  have kw := WR_kw x.1 zw
  have hw : b ≤ b + 16 := by omega
  have : n = 32 ∨ n = 33 ∨ n = 34 ∨ n = 35 ∨ n = 36 := by omega
  rcases this with rfl | rfl | rfl | rfl | rfl
  · exact AN_w (AN_32 x) hw
  · exact AN_w (AN_33 x) hw
  · exact AN_34 x hb
  · exact AN_w (AN_35 x zw kw.1 kw.2 tm wn ho) hw
  · exact AN_w (AN_36 x mv) hw
theorem WR_P {b : Nat} {L : c_L} {Z : z_C} {K : c_S} {R : r_S} {p q : Nat} {t : Int32} (h : WR b L Z K R) : WR b L Z (cs_I (cs_P (cs_P (cs_P (cs_P K 0 0 (some 0)) 1 0 (some p)) 2 0 (some q)) 3 0 (some q)) 4 0 t) R := by
  obtain ⟨⟨⟨cq, ct, cc, cm⟩, th, ch, inn, me, jr, gl, tx⟩, dp, op, ti, pd, jb⟩ := h
  refine ⟨⟨⟨?_, ?_, ?_, ?_⟩, ?_, ?_, ?_, ?_, ?_, ?_, ?_⟩, ?_, ?_, ti, ?_, jb⟩
  all_goals (simp (disch := decide) only [CQ_I, CQ_A, CQ_G, CQ_P, CQ_J, CQ_i, CQ_a, CQ_z, CT_I, CT_A, CT_G, CT_P, CT_J, CT_i, CT_a, CT_z, CC_I, CC_A, CC_G, CC_P, CC_J, CC_i, CC_a, CC_z, CM_I, CM_A, CM_G, CM_P, CM_J, CM_i, CM_a, CM_z, NM_I, NM_A, NM_G, NM_P, NM_J, NM_i, NM_a, NM_z, TH_I, TH_A, TH_G, TH_P, TH_J, TH_i, TH_a, TH_z, CH_I, CH_A, CH_G, CH_P, CH_J, CH_i, CH_a, CH_z, IN_I, IN_A, IN_G, IN_P, IN_J, IN_i, IN_a, IN_z, ME_I, ME_A, ME_G, ME_P, ME_J, ME_i, ME_a, ME_z, JR_I, JR_A, JR_G, JR_P, JR_J, JR_i, JR_a, JR_z, GL_I, GL_A, GL_G, GL_P, GL_J, GL_i, GL_a, GL_z, TX_I, TX_A, TX_G, TX_P, TX_J, TX_i, TX_a, TX_z, PD_I, PD_A, PD_G, PD_P, PD_J, PD_i, PD_a, PD_z, JB_i, JB_a, JB_z, DP_I, DP_A, DP_G, DP_P, DP_i, DP_a, OP_I, OP_A, OP_G, OP_P, OP_i, OP_a, TI_i, TI_a]; assumption)
theorem P_call {b : Nat} {L : c_L} {Z : z_C} {K : c_S} {R : r_S} {p j : Nat} (w : WR b L Z K R) (gk : GK L) (hb : b < 1999999600) (hp : p < z_np Z) (hj : j < z_nq Z p) (h1 : r_A R 2467 (16 * p + j) = 1) (hm : r_A R 2483 p = 0) (tk : TK Z p) : ∃ (K' : c_S) (R' : r_S), (∀ Q : c_S → Prop, Q K' → km_X0_answer L K 0 (some 0) (some p) (some (16 * p + j)) (fun x52_ S51_ => ((¬ x52_ = (3 : Int32) → (kb_X11_turn_133 L S51_ 0 (some p) (some (16 * p + j)) x52_ (115 : Int32) Q)) ∧ (x52_ = (3 : Int32) → (vp_in (10 : Int32) 32 ∧ (kb_X11_turn_133 L S51_ 0 (some p) (some (16 * p + j)) x52_ (c_A S51_ 1411 (16 * p + j) (10 : Int32).toNatClampNeg) Q)))))) ∧ (∀ Q : Option Value → r_S → Prop, Q none R' → rm_X12_calls R (nI p) (nI (16 * p + j)) (r_A R 2468 (16 * p + j)) Q) ∧ WR (b + 64) L Z K' R' := by
  have cq := WR_cq w
  have np16 := CQ_np cq
  have n16 := CQ_nq cq p hp
  have mq := (CQ_q cq hp hj).1
  have gl := GL_el w
  have cj := nI_clamp (n := 16 * p + j) (by omega)
  have ev : ∀ n : Nat, n < 32 → vp_in (nI (32 * (16 * p + j) + n)) (r_N 2477) := fun n hn => ri_v (n := 8192) rfl (by omega) (by decide)
  have ec : ∀ n : Nat, n < 32 → (nI (32 * (16 * p + j) + n)).toNatClampNeg = 32 * (16 * p + j) + n := fun n hn => nI_clamp (by omega)
  obtain ⟨K0, hK0⟩ : ∃ K0 : c_S, K0 = cs_I (cs_P (cs_P (cs_P (cs_P K 0 0 (some 0)) 1 0 (some p)) 2 0 (some (16 * p + j))) 3 0 (some (16 * p + j))) 4 0 (r_I R 2463) := ⟨_, rfl⟩
  have w0 : WR b L Z K0 R := by rw [hK0]; exact WR_P w
  have q0 : c_P K0 0 0 = some 0 := by rw [hK0]; rfl
  have q1 : c_P K0 1 0 = some p := by rw [hK0]; rfl
  have q2 : c_P K0 2 0 = some (16 * p + j) := by rw [hK0]; rfl
  have q3 : c_P K0 3 0 = some (16 * p + j) := by rw [hK0]; rfl
  have q4 : c_I K0 4 0 = r_I R 2463 := by rw [hK0, c_Is]
  have reg : ∀ n : Nat, n < 32 → c_A K0 1411 (16 * p + j) n = r_A R 2477 (32 * (16 * p + j) + n) := fun n hn => by
    have e := (DP_w w0 hp hj).2.1 n hn
    have e : c_A K0 1411 (16 * p + j) n = (if n < 32 then r_A R 2477 (32 * (16 * p + j) + n) else 0) := e
    rw [if_pos hn] at e
    exact e
  have e10 : c_I K0 1410 (16 * p + j) = r_A R 2468 (16 * p + j) := (DP_w w0 hp hj).1.2.2.1
  have ht := (w.2.2.2.1.2 p hp j hj).1 (Or.inl h1)
  have ht : (r_A R 2473 (16 * p + j)).toInt ≤ (r_I R 2463).toInt := ht
  have c17 : c_A K0 1411 (16 * p + j) (17 : Int32).toNatClampNeg = r_A R 2477 (32 * (16 * p + j) + 17) := reg 17 (by decide)
  -- the way into the class's answer, and into the reference's
  have kin : ∀ Q : Int32 → c_S → Prop, _ → km_X0_answer L K 0 (some 0) (some p) (some (16 * p + j)) Q := fun Q hQ => fun S8 e8 => ⟨_, rfl, mq, 0, rfl, gk.1, fun S15 e15 => by
    have : S15 = K0 := by rw [e15, e8, hK0, ← gl.1]; rfl
    subst this
    refine ⟨_, q3, mq, v32 (n := 17) (by decide), ?_⟩
    rw [c17, e10]
    exact hQ⟩
  have rin : ∀ Q : Option Value → r_S → Prop, _ → rm_X12_calls R (nI p) (nI (16 * p + j)) (r_A R 2468 (16 * p + j)) Q := fun Q hQ => by
    unfold rm_X12_calls
    rw [show (17 : Int32) = nI 17 from rfl, show (10 : Int32) = nI 10 from rfl, show (11 : Int32) = nI 11 from rfl, show (12 : Int32) = nI 12 from rfl, q_32, q_32, q_32, q_32, ec 17 (by decide), ec 10 (by decide), ec 11 (by decide), ec 12 (by decide), cj]
    exact ⟨ev 17 (by decide), ev 10 (by decide), ev 11 (by decide), ev 12 (by decide), hQ⟩
  obtain ⟨v, hv⟩ : ∃ v : Int32, v = r_A R 2477 (32 * (16 * p + j) + 17) := ⟨_, rfl⟩
  rw [← hv] at kin rin
  have wrong : ∀ (k : Nat) (code : Int32), k < 5 → k ≠ 3 → (∀ Q : Int32 → c_S → Prop, Q (nI k) K0 → km_X0_answer L K 0 (some 0) (some p) (some (16 * p + j)) Q) → (∀ Q : Option Value → r_S → Prop, rm_X12_fails R (nI (16 * p + j)) (nI k) 115 (fun r2_ S3_ => r2_ = none ∧ (Q none S3_)) → rm_X12_calls R (nI p) (nI (16 * p + j)) (r_A R 2468 (16 * p + j)) Q) → ∃ (K' : c_S) (R' : r_S), (∀ Q : c_S → Prop, Q K' → km_X0_answer L K 0 (some 0) (some p) (some (16 * p + j)) (fun x52_ S51_ => ((¬ x52_ = (3 : Int32) → (kb_X11_turn_133 L S51_ 0 (some p) (some (16 * p + j)) x52_ (115 : Int32) Q)) ∧ (x52_ = (3 : Int32) → (vp_in (10 : Int32) 32 ∧ (kb_X11_turn_133 L S51_ 0 (some p) (some (16 * p + j)) x52_ (c_A S51_ 1411 (16 * p + j) (10 : Int32).toNatClampNeg) Q)))))) ∧ (∀ Q : Option Value → r_S → Prop, Q none R' → rm_X12_calls R (nI p) (nI (16 * p + j)) (r_A R 2468 (16 * p + j)) Q) ∧ WR (b + 64) L Z K' R' := fun k code hk k3 a1 a2 => by
    obtain ⟨n, K', R', -, b1, b2, b3, -⟩ := P_fails (k := k) (code := 115) w0 gk (by omega) hp hj hm hk ht
    have n3 : ¬ nI k = (3 : Int32) := fun z => k3 ((nI_eq (by omega) (by decide)).mp (z.trans (show (3 : Int32) = nI 3 from rfl)))
    exact ⟨K', R', fun Q hQ => a1 _ (nf_ n3 (bf_ (nI_m1 (by omega)) (b1 _ hQ))), fun Q hQ => a2 Q (b2 _ ⟨rfl, hQ⟩), b3⟩
  by_cases v0 : v < 0
  · have v20 : ¬ v = 20 := fun z => by rw [z] at v0; exact absurd v0 (by decide)
    exact wrong 0 115 (by decide) (by decide) (fun Q hQ => kin Q (bt_ v0 hQ)) (fun Q hQ => rin Q (bt_ v0 (nf_ v20 (nf_ v20 hQ))))
  by_cases v36 : v ≤ 36
  case neg =>
    have v20 : ¬ v = 20 := fun z => by rw [z] at v36; exact absurd (by decide) v36
    exact wrong 0 115 (by decide) (by decide) (fun Q hQ => kin Q (bf_ v0 (bf_ v36 hQ))) (fun Q hQ => rin Q (bf_ v0 (bt_ (i_nle.mp v36) (nf_ v20 (nf_ v20 hQ)))))
  case pos =>
    have l36 : ¬ (36 : Int32) < v := i_nlt.mpr v36
    by_cases v20 : v = 20
    · obtain ⟨n, K', R', -, b1, b2, b3, -⟩ := P_fails (k := 3) (code := r_A R 2477 (32 * (16 * p + j) + 10)) w0 gk (by omega) hp hj hm (by decide) ht
      refine ⟨K', R', fun Q hQ => kin _ (bf_ v0 (bt_ v36 (nt_ v20 (nt_ rfl ⟨v32 (n := 10) (by decide), bf_ (by decide) ?_⟩)))), fun Q hQ => rin Q (bf_ v0 (bf_ l36 (nt_ v20 (nt_ v20 (nt_ v20 (b2 _ ⟨rfl, hQ⟩)))))), b3⟩
      rw [show c_A K0 1411 (16 * p + j) (10 : Int32).toNatClampNeg = r_A R 2477 (32 * (16 * p + j) + 10) from reg 10 (by decide)]
      exact b1 _ hQ
    · obtain ⟨n, hn, e⟩ := nI_of2 (n := 36) (M := 36) (by decide) v0 v36
      have w1 := WR_pc (v := r_A R 2468 (16 * p + j) + 4) w0 hp hj
      obtain ⟨K1, hK1⟩ : ∃ K1 : c_S, K1 = cs_I K0 1410 (16 * p + j) (r_A R 2468 (16 * p + j) + 4) := ⟨_, rfl⟩
      obtain ⟨R1, hR1⟩ : ∃ R1 : r_S, R1 = rs_A R 2468 (16 * p + j) (r_A R 2468 (16 * p + j) + 4) := ⟨_, rfl⟩
      have w1 : WR b L Z K1 R1 := by rw [hK1, hR1]; exact w1
      have cx : CX b L Z K1 R1 p j := ⟨w1, ⟨hp, hj⟩, ⟨by rw [hK1]; exact q0, by rw [hK1]; exact q1, by rw [hK1]; exact q2, by rw [hK1]; exact q3⟩, by rw [hK1, hR1, c_In (Or.inl (by decide))]; exact q4, by rw [hR1, r_An (Or.inl (by decide))]; exact h1, by rw [hR1, r_An (Or.inl (by decide))]; exact hm, gk⟩
      have p3 : c_P K1 3 0 = some (16 * p + j) := cx.2.2.1.2.2.2
      rw [← hK1] at kin
      rw [← hR1] at rin
      have kr : ∀ n : Nat, n < 32 → c_A K1 1411 (16 * p + j) n = r_A R 2477 (32 * (16 * p + j) + n) := fun n hn => by rw [hK1]; exact reg n hn
      have k10 : c_A K1 1411 (16 * p + j) (10 : Int32).toNatClampNeg = r_A R 2477 (32 * (16 * p + j) + 10) := kr 10 (by decide)
      have k11 : c_A K1 1411 (16 * p + j) (11 : Int32).toNatClampNeg = r_A R 2477 (32 * (16 * p + j) + 11) := kr 11 (by decide)
      have k12 : c_A K1 1411 (16 * p + j) (12 : Int32).toNatClampNeg = r_A R 2477 (32 * (16 * p + j) + 12) := kr 12 (by decide)
      have v10 := v32 (n := 10) (by decide)
      have v11 := v32 (n := 11) (by decide)
      have v12 := v32 (n := 12) (by decide)
      have vj : vp_in (nI (16 * p + j)) (r_N 2468) := ri_v (n := 256) rfl (by omega) (by decide)
      have n20 : n ≠ 20 := fun z => v20 (by rw [e, z]; rfl)
      have fin : ∀ (KM : (Int32 → c_S → Prop) → Prop) (RM : (Option Value → r_S → Prop) → Prop), AF (b + 64) L Z (16 * p + j) KM RM → (∀ Q : Int32 → c_S → Prop, KM (fun x S => kb_X0_answer_320 L S 0 x Q) → km_X0_answer L K 0 (some 0) (some p) (some (16 * p + j)) Q) → (∀ Q : Option Value → r_S → Prop, RM (fun r S => ∃ x : Int32, r = some (.int x) ∧ rb_X12_calls_220 S (nI (16 * p + j)) x Q) → rm_X12_calls R (nI p) (nI (16 * p + j)) (r_A R 2468 (16 * p + j)) Q) → ∃ (K' : c_S) (R' : r_S), (∀ Q : c_S → Prop, Q K' → km_X0_answer L K 0 (some 0) (some p) (some (16 * p + j)) (fun x52_ S51_ => ((¬ x52_ = (3 : Int32) → (kb_X11_turn_133 L S51_ 0 (some p) (some (16 * p + j)) x52_ (115 : Int32) Q)) ∧ (x52_ = (3 : Int32) → (vp_in (10 : Int32) 32 ∧ (kb_X11_turn_133 L S51_ 0 (some p) (some (16 * p + j)) x52_ (c_A S51_ 1411 (16 * p + j) (10 : Int32).toNatClampNeg) Q)))))) ∧ (∀ Q : Option Value → r_S → Prop, Q none R' → rm_X12_calls R (nI p) (nI (16 * p + j)) (r_A R 2468 (16 * p + j)) Q) ∧ WR (b + 64) L Z K' R' := fun KM RM h a1 a2 => by
        obtain ⟨K', R', g1, g2, g3⟩ := h
        exact ⟨K', R', fun Q hQ => a1 _ (g1 _ (nf_ (by decide) (bt_ rfl hQ))), fun Q hQ => a2 Q (g2 Q hQ), g3⟩
      have lt : ∀ c : Nat, c < 100 → (nI c < v ↔ c < n) := fun c hc => by rw [e]; exact nI_ltI (by omega) (by omega)
      have le : ∀ c : Nat, c < 100 → (nI c ≤ v ↔ c ≤ n) := fun c hc => by rw [e]; exact nI_leI (by omega) (by omega)
      have ne20 : ¬ v = 20 := v20
      have l7 := lt 7 (by decide)
      have l12 := lt 12 (by decide)
      have l17 := lt 17 (by decide)
      have l19 := lt 19 (by decide)
      have l25 := lt 25 (by decide)
      have l31 := lt 31 (by decide)
      have g8 := le 8 (by decide)
      have g18 := le 18 (by decide)
      have g26 := le 26 (by decide)
      have g32 := le 32 (by decide)
      by_cases c7 : n ≤ 7
      · refine fin _ _ (AF_w (AF_07 (n := n) (a := r_A R 2477 (32 * (16 * p + j) + 10)) (c := r_A R 2477 (32 * (16 * p + j) + 11)) cx (by omega) c7) (show b + 2 ≤ b + 64 by omega)) (fun Q hQ => kin Q (bf_ v0 (bt_ v36 (nf_ ne20 (bf_ (fun z => absurd (l7.mp z) (by omega)) ⟨_, p3, mq, v10, v11, ?_⟩))))) (fun Q hQ => rin Q (bf_ v0 (bf_ l36 (nf_ ne20 ⟨vj, bf_ (fun z => absurd (g8.mp z) (by omega)) ?_⟩))))
        · rw [k10, k11, e]; exact hQ
        · rw [e]; exact hQ
      by_cases c12 : n ≤ 12
      · refine fin _ _ (AF_of hp hj (AN_w (AN_8_12 (n := n) (a := r_A R 2477 (32 * (16 * p + j) + 10)) (bb := r_A R 2477 (32 * (16 * p + j) + 11)) (c := r_A R 2477 (32 * (16 * p + j) + 12)) cx (by omega) (by omega) c12) (show b + 16 ≤ b + 64 by omega))) (fun Q hQ => kin Q (bf_ v0 (bt_ v36 (nf_ ne20 (bt_ (l7.mpr (by omega)) (bf_ (fun z => absurd (l12.mp z) (by omega)) ⟨_, p3, mq, v10, v11, ?_⟩)))))) (fun Q hQ => rin Q (bf_ v0 (bf_ l36 (nf_ ne20 ⟨vj, bt_ (g8.mpr (by omega)) (bf_ (fun z => absurd (g18.mp z) (by omega)) ?_)⟩))))
        · rw [k10, k11, e]; exact hQ
        · rw [e]; exact hQ
      by_cases c17 : n ≤ 17
      · refine fin _ _ (AF_of hp hj (AN_w (AN_13_17 (n := n) (a := r_A R 2477 (32 * (16 * p + j) + 10)) (bb := r_A R 2477 (32 * (16 * p + j) + 11)) (c := r_A R 2477 (32 * (16 * p + j) + 12)) cx (by omega) (by omega) c17) (show b + 16 ≤ b + 64 by omega))) (fun Q hQ => kin Q (bf_ v0 (bt_ v36 (nf_ ne20 (bt_ (l7.mpr (by omega)) (bt_ (l12.mpr (by omega)) (bf_ (fun z => absurd (l17.mp z) (by omega)) ⟨_, p3, mq, v10, v11, v12, ?_⟩))))))) (fun Q hQ => rin Q (bf_ v0 (bf_ l36 (nf_ ne20 ⟨vj, bt_ (g8.mpr (by omega)) (bf_ (fun z => absurd (g18.mp z) (by omega)) ?_)⟩))))
        · rw [k10, k11, k12, e]; exact hQ
        · rw [e]; exact hQ
      by_cases c18 : n = 18
      · have e18 : v = 18 := by rw [e, c18]; rfl
        refine fin _ _ (AF_of hp hj (AN_w (AN_18 (aa := r_A R 2477 (32 * (16 * p + j) + 10)) (wd := r_A R 2477 (32 * (16 * p + j) + 11)) (t := r_A R 2477 (32 * (16 * p + j) + 12)) cx (by omega)) (show b + 16 ≤ b + 64 by omega))) (fun Q hQ => kin Q (bf_ v0 (bt_ v36 (nf_ ne20 (bt_ (l7.mpr (by omega)) (bt_ (l12.mpr (by omega)) (bt_ (l17.mpr (by omega)) (bf_ (fun z => absurd (l19.mp z) (by omega)) (nt_ e18 ⟨_, p3, mq, v10, v11, v12, ?_⟩))))))))) (fun Q hQ => rin Q (bf_ v0 (bf_ l36 (nf_ ne20 ⟨vj, bt_ (g8.mpr (by omega)) (bt_ (g18.mpr (by omega)) (bf_ (fun z => absurd (g26.mp z) (by omega)) ?_))⟩))))
        · rw [k10, k11, k12]; exact hQ
        · rw [e18]
          refine ⟨fun z => absurd z (by decide), fun _ => ?_, fun z => absurd z (by decide), fun z => absurd z (by decide), fun z => absurd z (by decide), fun z => absurd z (by decide), fun z => absurd z (by decide), fun z => absurd z (by decide)⟩
          exact dmo (drm_X12_sends _ _ _ _ _ _) hQ (fun r s hh => by
            obtain ⟨x, e1, e2⟩ := hh
            exact ⟨x, e1, x, rfl, e2⟩)
      by_cases c19 : n = 19
      · have e19 : v = 19 := by rw [e, c19]; rfl
        refine fin _ _ (AF_of hp hj (AN_w (AN_19 (aa := r_A R 2477 (32 * (16 * p + j) + 10)) (t := r_A R 2477 (32 * (16 * p + j) + 11)) cx (by omega)) (show b + 16 ≤ b + 64 by omega))) (fun Q hQ => kin Q (bf_ v0 (bt_ v36 (nf_ ne20 (bt_ (l7.mpr (by omega)) (bt_ (l12.mpr (by omega)) (bt_ (l17.mpr (by omega)) (bf_ (fun z => absurd (l19.mp z) (by omega)) (nf_ (fun z => by rw [e19] at z; exact absurd z (by decide)) ⟨_, p3, mq, v10, v11, ?_⟩))))))))) (fun Q hQ => rin Q (bf_ v0 (bf_ l36 (nf_ ne20 ⟨vj, bt_ (g8.mpr (by omega)) (bt_ (g18.mpr (by omega)) (bf_ (fun z => absurd (g26.mp z) (by omega)) ?_))⟩))))
        · rw [k10, k11]; exact hQ
        · rw [e19]
          refine ⟨fun z => absurd z (by decide), fun z => absurd z (by decide), fun _ => ?_, fun z => absurd z (by decide), fun z => absurd z (by decide), fun z => absurd z (by decide), fun z => absurd z (by decide), fun z => absurd z (by decide)⟩
          exact dmo (drm_X12_receives _ _ _ _ _) hQ (fun r s hh => by
            obtain ⟨x, e1, e2⟩ := hh
            exact ⟨x, e1, x, rfl, e2⟩)
      by_cases c25 : n ≤ 25
      · refine fin _ _ (AF_21_25 (n := n) (a := r_A R 2477 (32 * (16 * p + j) + 10)) (bb := r_A R 2477 (32 * (16 * p + j) + 11)) (c := r_A R 2477 (32 * (16 * p + j) + 12)) cx (by omega) (by omega) c25) (fun Q hQ => kin Q (bf_ v0 (bt_ v36 (nf_ ne20 (bt_ (l7.mpr (by omega)) (bt_ (l12.mpr (by omega)) (bt_ (l17.mpr (by omega)) (bt_ (l19.mpr (by omega)) (bf_ (fun z => absurd (l25.mp z) (by omega)) ⟨_, p3, mq, v10, ?_⟩))))))))) (fun Q hQ => rin Q (bf_ v0 (bf_ l36 (nf_ ne20 ⟨vj, bt_ (g8.mpr (by omega)) (bt_ (g18.mpr (by omega)) (bf_ (fun z => absurd (g26.mp z) (by omega)) ?_))⟩))))
        · rw [k10, e]; exact hQ
        · rw [e]; exact hQ
      by_cases c31 : n ≤ 31
      · refine fin _ _ (AF_of hp hj (AN_w (AN_26_31 (n := n) (a := r_A R 2477 (32 * (16 * p + j) + 10)) (bb := r_A R 2477 (32 * (16 * p + j) + 11)) cx (by omega) (by omega) c31) (show b + 16 ≤ b + 64 by omega))) (fun Q hQ => kin Q (bf_ v0 (bt_ v36 (nf_ ne20 (bt_ (l7.mpr (by omega)) (bt_ (l12.mpr (by omega)) (bt_ (l17.mpr (by omega)) (bt_ (l19.mpr (by omega)) (bt_ (l25.mpr (by omega)) (bf_ (fun z => absurd (l31.mp z) (by omega)) ⟨_, p3, mq, v10, ?_⟩)))))))))) (fun Q hQ => rin Q (bf_ v0 (bf_ l36 (nf_ ne20 ⟨vj, bt_ (g8.mpr (by omega)) (bt_ (g18.mpr (by omega)) (bt_ (g26.mpr (by omega)) (bf_ (fun z => absurd (g32.mp z) (by omega)) ?_)))⟩))))
        · rw [k10, e]; exact hQ
        · rw [e]; exact hQ
      · refine fin _ _ (AF_of hp hj (AN_w (AN_32_36 (n := n) (a := r_A R 2477 (32 * (16 * p + j) + 10)) (bb := r_A R 2477 (32 * (16 * p + j) + 11)) (c := r_A R 2477 (32 * (16 * p + j) + 12)) cx (by omega) tk (by omega) hn) (show b + 16 ≤ b + 64 by omega))) (fun Q hQ => kin Q (bf_ v0 (bt_ v36 (nf_ ne20 (bt_ (l7.mpr (by omega)) (bt_ (l12.mpr (by omega)) (bt_ (l17.mpr (by omega)) (bt_ (l19.mpr (by omega)) (bt_ (l25.mpr (by omega)) (bt_ (l31.mpr (by omega)) ⟨_, p3, mq, v10, v11, v12, ?_⟩)))))))))) (fun Q hQ => rin Q (bf_ v0 (bf_ l36 (nf_ ne20 ⟨vj, bt_ (g8.mpr (by omega)) (bt_ (g18.mpr (by omega)) (bt_ (g26.mpr (by omega)) (bt_ (g32.mpr (by omega)) ?_)))⟩))))
        · rw [k10, k11, k12, e]; exact hQ
        · rw [e]; exact hQ
