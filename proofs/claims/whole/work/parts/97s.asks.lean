/-! Calls 32 .. 34. -/
theorem AN_32 {b : Nat} {L : c_L} {Z : z_C} {K : c_S} {R : r_S} {p j : Nat} {a bb cc : Int32} (x : CX b L Z K R p j) : AN b L Z (16 * p + j) (km_X0_ofLooks L K 0 32 a bb cc) (rm_X12_asks R 32 (nI p) (nI (16 * p + j)) a bb cc) := by
  obtain ⟨w, ⟨hp, hj⟩, ⟨-, p1, p2, p3⟩, hnow, h1, hm, -⟩ := x
  have cq := WR_cq w
  have np16 := CQ_np cq
  have n16 := CQ_nq cq p hp
  have mq := (CQ_q cq hp hj).1
  obtain ⟨m5, hnp, -, -⟩ := CQ_p cq hp
  have cp := nI_clamp (n := p) (by omega)
  have pd := (PD_v w.2.2.2.2.1 hp).1
  have e10 : c_I K 1010 p = r_A R 2484 p := pd.2.1
  have e13 : c_I K 1013 p = r_A R 2486 p := pd.2.2.2.2
  have ev : ∀ n : Nat, n < 32 → vp_in (nI (32 * (16 * p + j) + n)) (r_N 2477) := fun n hn => ri_v (n := 8192) rfl (by omega) (by decide)
  have ec : ∀ n : Nat, n < 32 → (nI (32 * (16 * p + j) + n)).toNatClampNeg = 32 * (16 * p + j) + n := fun n hn => nI_clamp (by omega)
  have wx := WR_x (v := r_A R 2486 p) (WR_x (v := r_A R 2484 p) (WR_x (v := nI p) w hp hj (i := 11) (by decide)) hp hj (i := 12) (by decide)) hp hj (i := 13) (by decide)
  refine AN_i 0 _ _ wx p3 (fun Q hQ => ⟨fun z => absurd z (by decide), fun _ => ⟨p, p1, m5, _, p3, mq, v32 (n := 11) (by decide), p, p1, m5, _, p3, mq, v32 (n := 12) (by decide), fun S e => ?_⟩, fun z => absurd z (by decide), fun z => absurd z (by decide), fun z => absurd z (by decide)⟩) (fun Q hQ => ⟨fun z => absurd z (by decide), fun _ => ?_, fun z => absurd z (by decide), fun z => absurd z (by decide), fun z => absurd z (by decide)⟩)
  · subst e
    refine ⟨p, p1, m5, _, p3, mq, v32 (n := 13) (by decide), ?_⟩
    rw [← hnp, ← e10, ← e13] at hQ
    exact hQ
  · unfold rb_X12_asks_36
    rw [show (11 : Int32) = nI 11 from rfl, show (12 : Int32) = nI 12 from rfl, show (13 : Int32) = nI 13 from rfl, q_32, q_32, q_32, ec 11 (by decide), ec 12 (by decide), ec 13 (by decide), cp]
    refine ⟨ev 11 (by decide), ri_v (n := 16) rfl (by omega) (by decide), ev 12 (by decide), fun S e => ⟨ri_v (n := 16) rfl (by omega) (by decide), ev 13 (by decide), ?_⟩⟩
    rw [r_An (f := 2477) (Or.inl (by decide))] at e
    subst e
    rw [r_An (f := 2477) (f' := 2486) (Or.inl (by decide)), r_An (f := 2477) (f' := 2486) (Or.inl (by decide))]
    exact hQ
theorem AN_34 {b : Nat} {L : c_L} {Z : z_C} {K : c_S} {R : r_S} {p j : Nat} {a bb cc : Int32} (x : CX b L Z K R p j) (hb : b < 1999999900) : AN (b + 16) L Z (16 * p + j) (km_X0_ofLooks L K 0 34 a bb cc) (rm_X12_asks R 34 (nI p) (nI (16 * p + j)) a bb cc) := by
  have x' := x
  obtain ⟨w, ⟨hp, hj⟩, ⟨-, p1, p2, p3⟩, hnow, h1, hm, -⟩ := x
  by_cases ct : bb < 1 ∨ 100000 < bb
  · exact AN_i 1 K R (WR_w w (by omega)) p3 (fun Q hQ => ⟨fun z => absurd z (by decide), fun z => absurd z (by decide), fun z => absurd z (by decide), fun _ => ke_isNoDelay (by rw [if_pos ct]; exact bf_ (by decide) hQ), fun z => absurd z (by decide)⟩) (fun Q hQ => ⟨fun z => absurd z (by decide), fun z => absurd z (by decide), fun z => absurd z (by decide), fun _ => ⟨fun _ => hQ, fun z => bf_ (fun z2 => ct.elim z (i_nlt.mpr z2)) hQ⟩, fun z => absurd z (by decide)⟩)
  · have ca : ¬ bb < 1 := fun z => ct (Or.inl z)
    have cb : bb ≤ 100000 := i_nlt.mp (fun z => ct (Or.inr z))
    have l1 := i_le.mp cb
    have l2 := i_le.mp (i_nlt.mp ca)
    rw [show (100000 : Int32).toInt = 100000 from by decide] at l1
    rw [show (1 : Int32).toInt = 1 from by decide] at l2
    exact AN_w (AN_m (AN_startO (a := a) (d := bb) x' (by omega) (by omega) (by omega)) (fun Q hQ => ⟨fun z => absurd z (by decide), fun z => absurd z (by decide), fun z => absurd z (by decide), fun _ => ke_isNoDelay (by rw [if_neg ct]; exact bt_ rfl hQ), fun z => absurd z (by decide)⟩) (fun Q hQ => ⟨fun z => absurd z (by decide), fun z => absurd z (by decide), fun z => absurd z (by decide), fun _ => bf_ ca (bt_ cb hQ), fun z => absurd z (by decide)⟩)) (show b + 1 ≤ b + 16 by omega)
theorem TH_w {b : Nat} {L : c_L} {Z : z_C} {K : c_S} {R : r_S} (w : WR b L Z K R) {p : Nat} (hp : p < z_np Z) : THp Z p K R := TH_v w.1.2.1 hp
/-- what a thing shows; of a port not its channel's words, but 0 -/
theorem k_val {b : Nat} {L : c_L} {Z : z_C} {K : c_S} {R : r_S} {p s k : Nat} (w : WR b L Z K R) (gk : GK L) (hp : p < z_np Z) (hs : s < 4) (hk : k < z_nt Z p s) : ∃ v : Int32, (∀ Q : Int32 → c_S → Prop, Q v K → km_X10_value L K (48 * p + (8 * s + k)) Q) ∧ ∀ Q : Option Value → r_S → Prop, Q (some (.int v)) R → rm_X12_tells R (nI p) (nI s) (nI k) Q := by
  have np16 := CQ_np (WR_cq w)
  obtain ⟨t0, t1, t2, t3, t4⟩ := TH_w w hp
  have nts := (CT_n (WR_ct w) hp (s := s) (by omega)).1
  rw [if_neg (by omega)] at nts
  have mk := (CT_n (WR_ct w) hp (s := s) (by omega)).2.2.2 k hk
  have cn := nI_clamp (n := 8 * p + k) (by omega)
  have vn : ∀ f : Nat, r_N f = 128 → vp_in (nI (8 * p + k)) (r_N f) := fun f hf => ri_v hf (by omega) (by decide)
  have : s = 0 ∨ s = 1 ∨ s = 2 ∨ s = 3 := by omega
  rcases this with rfl | rfl | rfl | rfl
  · have q0 : c_qu (48 * p + (8 * 0 + k)) = none := if_neg (by omega)
    refine ⟨r_A R 2492 (8 * p + k), fun Q hQ => nt_ q0 ?_, fun Q hQ => ⟨fun z => absurd z (by decide), fun _ => ?_, fun z => absurd z (by decide), fun z => absurd z (by decide), fun z => absurd z (by decide)⟩⟩
    · show Q (c_I K 2001 (48 * p + (8 * 0 + k))) K
      rw [show 8 * 0 + k = k by omega, (t0 k hk).1]; exact hQ
    · rw [q_8, cn]; exact ⟨vn _ rfl, hQ⟩
  · have q0 : c_qu (48 * p + (8 * 1 + k)) = none := if_neg (by omega)
    refine ⟨r_A R 2493 (8 * p + k), fun Q hQ => nt_ q0 ?_, fun Q hQ => ⟨fun z => absurd z (by decide), fun z => absurd z (by decide), fun _ => ?_, fun z => absurd z (by decide), fun z => absurd z (by decide)⟩⟩
    · show Q (c_I K 2001 (48 * p + (8 * 1 + k))) K
      rw [show 8 * 1 + k = 8 + k by omega, (t1 k hk).1]; exact hQ
    · rw [q_8, cn]
      refine ⟨vn _ rfl, ?_⟩
      rcases (t1 k hk).2 with e | e
      · rw [e] at hQ ⊢; exact bt_ rfl hQ
      · rw [e] at hQ ⊢; exact bf_ (by decide) hQ
  · have q0 : c_qu (48 * p + (8 * 2 + k)) = some (48 * p + (16 + k)) := c_qub (by omega)
    obtain ⟨a, n, -, -, -, ec, er, -⟩ := t2 k hk
    refine ⟨r_A R 2494 (8 * p + k), fun Q hQ => nf_ (by rw [q0]; intro z; cases z) ⟨_, q0, gk.2.1 _ _ mk q0, ?_⟩, fun Q hQ => ⟨fun z => absurd z (by decide), fun z => absurd z (by decide), fun z => absurd z (by decide), fun _ => ?_, fun z => absurd z (by decide)⟩⟩
    · show Q (c_I K 1603 (48 * p + (16 + k))) K
      rw [show c_I K 1603 (48 * p + (16 + k)) = nI n from ec, ← show r_A R 2494 (8 * p + k) = nI n from er]; exact hQ
    · rw [q_8, cn]; exact ⟨vn _ rfl, hQ⟩
  · have q0 : c_qu (48 * p + (8 * 3 + k)) = none := if_neg (by omega)
    refine ⟨r_A R 2496 (8 * p + k), fun Q hQ => nt_ q0 ?_, fun Q hQ => ⟨fun z => absurd z (by decide), fun z => absurd z (by decide), fun z => absurd z (by decide), fun z => absurd z (by decide), fun _ => ?_⟩⟩
    · show Q (c_I K 2001 (48 * p + (8 * 3 + k))) K
      rw [show 8 * 3 + k = 24 + k by omega, (t3 k hk).1]; exact hQ
    · rw [q_8, cn]
      refine ⟨vn _ rfl, ?_⟩
      rcases (t3 k hk).2.1 with e | e
      · rw [e] at hQ ⊢; exact bt_ rfl hQ
      · rw [e] at hQ ⊢; exact bf_ (by decide) hQ
/-- the words of a channel -/
theorem r_wof {b : Nat} {L : c_L} {Z : z_C} {K : c_S} {R : r_S} {c : Nat} {Q : Option Value → r_S → Prop} (w : WR b L Z K R) (hc : c < z_nc Z) (h : Q (some (.int (c_I K 1603 (1000 + c)))) R) : rm_X12_wordsOf R (nI c) Q := by
  have cc := WR_cc w
  have nc := cc.1.1
  have ci := nI_clamp (n := c) (by omega)
  have vc : ∀ f : Nat, r_N f = 24 → vp_in (nI c) (r_N f) := fun f hf => ri_v hf (by omega) (by decide)
  refine nf_ (nI_m1 (by omega)) ⟨vc _ rfl, ?_⟩
  rw [ci]
  have ch := w.1.2.2.1 c hc
  rcases (CC_c cc hc).2.1 with e | e
  · refine bt_ e ⟨vc _ rfl, ?_⟩
    rcases ch.2.2 e with ⟨a1, a2, a3, a4⟩ | ⟨a1, a2, a3, a4, a5, a6⟩
    · have a1 : r_A R 2498 c = 0 := a1
      have a3 : c_I K 1603 (1000 + c) = 0 := a3
      rw [a3] at h
      exact bt_ a1 h
    · have a1 : r_A R 2498 c = 1 := a1
      have a4 : c_I K 1603 (1000 + c) = 1 := a4
      rw [a4] at h
      rw [a1]
      exact bf_ (by decide) h
  · have n0 : ¬ r_A R 2454 c = 0 := by rw [e]; decide
    obtain ⟨a, n, -, -, -, ec, er, -⟩ := (CH_u w hc e).2
    rw [ec, ← er] at h
    exact bf_ n0 ⟨vc _ rfl, h⟩
theorem AN_33 {b : Nat} {L : c_L} {Z : z_C} {K : c_S} {R : r_S} {p j : Nat} {a bb cc : Int32} (x : CX b L Z K R p j) : AN b L Z (16 * p + j) (km_X0_ofLooks L K 0 33 a bb cc) (rm_X12_asks R 33 (nI p) (nI (16 * p + j)) a bb cc) := by
  obtain ⟨w, ⟨hp, hj⟩, ⟨p0, p1, p2, p3⟩, hnow, h1, hm, gk⟩ := x
  have cq := WR_cq w
  have ct := WR_ct w
  have np16 := CQ_np cq
  have n16 := CQ_nq cq p hp
  have mq := (CQ_q cq hp hj).1
  obtain ⟨m5, hnp, hn, hn2⟩ := CQ_p cq hp
  refine AN_c ?_ (fun Q hQ => ⟨fun z => absurd z (by decide), fun z => absurd z (by decide), fun _ => ⟨p, p1, m5, hQ⟩, fun z => absurd z (by decide), fun z => absurd z (by decide)⟩) (fun Q hQ => ⟨fun z => absurd z (by decide), fun z => absurd z (by decide), fun _ => hQ, fun z => absurd z (by decide), fun z => absurd z (by decide)⟩)
  have ev : ∀ n : Nat, n < 32 → vp_in (nI (32 * (16 * p + j) + n)) (r_N 2477) := fun n hn => ri_v (n := 8192) rfl (by omega) (by decide)
  have ec : ∀ n : Nat, n < 32 → (nI (32 * (16 * p + j) + n)).toNatClampNeg = 32 * (16 * p + j) + n := fun n hn => nI_clamp (by omega)
  rcases pk_ix a (n := 5) (by decide) with ha | ha | ⟨s, hs, rfl⟩
  · exact AN_i 1 K R w p3 (fun Q hQ => bt_ ha (nt_ rfl hQ)) (fun Q hQ => bt_ ha hQ)
  · have n0 : ¬ a < 0 := fun z => by
      have := i_lt0.mp z
      have := i_le.mp ha
      rw [nI_toInt (by decide)] at this
      omega
    have g5 : (4 : Int32) < a := i_lt.mpr (by
      have := i_le.mp ha
      rw [nI_toInt (by decide)] at this
      rw [show (4 : Int32).toInt = 4 from by decide]
      omega)
    have l5 : ¬ a < 5 := i_nlt.mpr ha
    exact AN_i 1 K R w p3 (fun Q hQ => bf_ n0 (bt_ ha (nt_ rfl hQ))) (fun Q hQ => bf_ n0 (bt_ g5 hQ))
  · have n0 : ¬ nI s < 0 := nI_pos (by omega)
    have g4 : ¬ (4 : Int32) < nI s := nI_nlt (a := 4) (by omega) (by decide)
    refine AN_c ?_ (fun Q hQ => hQ) (fun Q hQ => bf_ n0 (bf_ g4 hQ))
    rcases pk_ix bb (n := z_nt Z p s) (by have := (CT_n ct hp hs).1; split at this <;> omega) with hk | hk | ⟨k, hk, rfl⟩
    · exact AN_i 1 K R w p3 (fun Q hQ => ke_thingAt0 ct hp hs (Or.inl hk) (nt_ rfl hQ)) (fun Q hQ => re_isThing0 ct np16 hp hs (Or.inl hk) ⟨_, rfl, nt_ rfl hQ⟩)
    · exact AN_i 1 K R w p3 (fun Q hQ => ke_thingAt0 ct hp hs (Or.inr hk) (nt_ rfl hQ)) (fun Q hQ => re_isThing0 ct np16 hp hs (Or.inr hk) ⟨_, rfl, nt_ rfl hQ⟩)
    · have mk := (CT_n ct hp hs).2.2.2 k hk
      refine AN_c ?_ (fun Q hQ => ke_thingAt ct hp hs hk (nf_ (fun z => (by cases z)) hQ)) (fun Q hQ => re_isThing ct np16 hp hs hk ⟨_, rfl, nf_ (by decide) hQ⟩)
      have e8 : nI s * (8 : Int32) + nI k = nI (8 * s + k) := by rw [show (8 : Int32) = nI 8 from rfl, pk_mul, nI_add, Nat.mul_comm]
      have fin : ∀ v : Int32, AN b L Z (16 * p + j) (kb_X0_tellThing_64 L K 0 (nI s) (nI k) (c_P K 3 0) 11 v) (rb_X12_asks_140 R (nI p) (nI s) (nI k) (32 * nI (16 * p + j)) v) := fun v => by
        have w1 := WR_x (v := v) w hp hj (i := 11) (by decide)
        refine AN_i 0 _ _ (WR_x (v := nI (b_ct (k_wm (cs_A K 1411 (16 * p + j) 11 v) p (nI (8 * s + k))) (z_nq Z p))) w1 hp hj (i := 12) (by decide)) p3 (fun Q hQ => ⟨_, p3, mq, v32 (n := 11) (by decide), p, p1, m5, ?_⟩) (fun Q hQ => ?_)
        · rw [e8]
          exact ke_count hn n16 (fun i hi => (CQ_q cq hp hi).1) ⟨_, p3, mq, v32 (n := 12) (by decide), hQ⟩
        · unfold rb_X12_asks_140
          rw [show (11 : Int32) = nI 11 from rfl, show (12 : Int32) = nI 12 from rfl, q_32, q_32, ec 11 (by decide), ec 12 (by decide)]
          exact ⟨ev 11 (by decide), re_wait w1 hp hs hk ⟨_, rfl, ev 12 (by decide), hQ⟩⟩
      by_cases e4 : s = 4
      · subst e4
        have k16 : k < 16 := by have := (CT_n ct hp hs).1; rw [if_pos rfl] at this; omega
        obtain ⟨-, -, e8c, -, -, ch⟩ := CT_p ct hp hk
        refine AN_c ?_ (fun Q hQ => nt_ rfl ⟨_, rfl, mk, 0, p0, gk.1, hQ⟩) (fun Q hQ => nt_ rfl ⟨?_, hQ⟩)
        rotate_left
        · rw [q_16]; exact ri_v (n := 256) rfl (by omega) (by decide)
        simp only [q_16, nI_clamp (n := 16 * p + k) (by omega)]
        have e8c : c_I K 2008 (48 * p + (8 * 4 + k)) = r_A R 2450 (16 * p + k) := e8c
        rw [e8c]
        rcases ch with e | ⟨c, hc, e, -⟩
        · rw [e]
          have q0 : c_qu (48 * p + (8 * 4 + k)) = none := if_neg (by omega)
          have v0 : c_I K 2001 (48 * p + (8 * 4 + k)) = 0 := (TH_w w hp).2.2.2.2 k hk
          refine AN_c (fin 0) (fun Q hQ => ke_channelAt0 (nt_ rfl ⟨_, rfl, mk, nt_ q0 ?_⟩)) (fun Q hQ => nt_ rfl ⟨_, rfl, hQ⟩)
          show kb_X0_tellThing_64 L K 0 (nI 4) (nI k) (c_P K 3 0) 11 (c_I K 2001 (48 * p + (8 * 4 + k))) Q
          rw [v0]
          exact hQ
        · rw [e]
          exact AN_c (fin _) (fun Q hQ => ke_channelAt (WR_cc w) hc (nf_ (fun z => (by cases z)) ⟨_, rfl, (CC_c (WR_cc w) hc).1.1, hQ⟩)) (fun Q hQ => r_wof w hc ⟨_, rfl, hQ⟩)
      · have n4 : ¬ nI s = 4 := fun z => e4 ((nI_eq (by omega) (by decide)).mp (z.trans (show (4 : Int32) = nI 4 from rfl)))
        obtain ⟨v, hv1, hv2⟩ := k_val w gk hp (s := s) (by omega) hk
        exact AN_c (fin v) (fun Q hQ => nf_ n4 (nt_ rfl ⟨_, rfl, mk, hv1 _ hQ⟩)) (fun Q hQ => nf_ n4 (hv2 _ ⟨_, rfl, hQ⟩))
