/-! Calls 18 and 19: ports. -/
theorem c_e1s {L : c_L} {c : Nat} (h24 : c < 24) (m : c_mk L 1 c) : c_e1 L c = some c := if_pos ⟨h24, m⟩
theorem ke_channelAt {L : c_L} {Z : z_C} {K : c_S} {R : r_S} {c : Nat} {Q : Option Nat → c_S → Prop} (cc : CC L Z K R) (hc : c < z_nc Z) (hQ : Q (some c) K) : km_X6_channelAt L K 0 (nI c) Q := by
  have nc24 : z_nc Z ≤ 24 := cc.1.1
  have h1203 : c_I K 1203 0 = nI (z_nc Z) := cc.2.2.1.1
  have m1 := (CC_c cc hc).1.1
  refine ⟨fun z => absurd z (by rw [show (0 : Int32) = nI 0 from rfl, nI_ltI (by omega) (by omega)]; omega), fun _ => ⟨fun _ => ⟨vp_in_nI (by omega) (by decide), ?_⟩, fun z => absurd ?_ z⟩⟩
  · rw [nI_clamp (by omega)]
    show Q (c_e1 L c) K
    rw [c_e1s (by omega) m1]
    exact hQ
  · rw [h1203, nI_ltI (by omega) (by omega)]
    exact hc
theorem ke_channelAt0 {L : c_L} {K : c_S} {Q : Option Nat → c_S → Prop} (hQ : Q none K) : km_X6_channelAt L K 0 (-1) Q := ⟨fun _ => hQ, fun z => absurd (by decide) z⟩
theorem CX_wq {b : Nat} {L : c_L} {Z : z_C} {K : c_S} {R : r_S} {p j f : Nat} {v : Int32} (x : CX b L Z K R p j) (hf : f = 2480 ∨ f = 2482) : CX b L Z K (rs_A R f (16 * p + j) v) p j := by
  obtain ⟨w, ⟨hp, hj⟩, hP, hnow, h1, hm, gk⟩ := x
  exact ⟨WR_wq w hp hj hf (by rw [h1]; decide), ⟨hp, hj⟩, hP, hnow, by rw [r_An (Or.inl (by omega))]; exact h1, by rw [r_An (Or.inl (by omega))]; exact hm, gk⟩
theorem WG_6 {Z : z_C} {p a : Nat} {c48 c50 w : Nat → Int32} (e11 : w 11 = 6) (ha : a < z_nt Z p 4) (e13 : w 13 = nI a) (e12 : w 12 = c50 a) (e48 : c48 a = 0) : WGt Z p c48 c50 w := Or.inr (Or.inr (Or.inl ⟨e11, a, ha, e13, e12, e48⟩))
theorem WG_7 {Z : z_C} {p a : Nat} {c48 c50 w : Nat → Int32} (e11 : w 11 = 7) (ha : a < z_nt Z p 4) (e13 : w 13 = nI a) (e12 : w 12 = c50 a) (e48 : c48 a = 1) : WGt Z p c48 c50 w := Or.inr (Or.inr (Or.inr (Or.inl ⟨e11, a, ha, e13, e12, e48⟩)))
theorem wc_6 {p a : Nat} {w : Nat → Int32} (e11 : w 11 = 6) (e13 : w 13 = nI a) : p_wc p w = nI (32 + a) := by
  unfold p_wc
  rw [e11, e13, if_neg (by decide), if_neg (by decide), if_neg (by decide), if_neg (by decide), if_neg (by decide), if_neg (by decide), if_pos rfl, show (32 : Int32) = nI 32 from rfl, nI_add]
theorem wc_7 {p a : Nat} {w : Nat → Int32} (e11 : w 11 = 7) (e13 : w 13 = nI a) : p_wc p w = nI (96 + a) := by
  unfold p_wc
  rw [e11, e13, if_neg (by decide), if_neg (by decide), if_neg (by decide), if_neg (by decide), if_neg (by decide), if_neg (by decide), if_neg (by decide), if_pos rfl, show (96 : Int32) = nI 96 from rfl, nI_add]
/-- a wait for a word of a channel -/
theorem AN_waitR {b : Nat} {L : c_L} {Z : z_C} {K : c_S} {R : r_S} {p j a : Nat} {th t : Int32} (x : CX b L Z K R p j) (hb : b < 1999999990) (ha : a < z_nt Z p 4) (h50 : th = r_A R 2450 (16 * p + a)) (h48 : r_A R 2448 (16 * p + a) = 0) : AN (b + 1) L Z (16 * p + j) (km_X0_waitFor L K 0 (nI (32 + a)) t) (rm_X12_waits (rs_A R 2480 (16 * p + j) (nI a)) (nI (16 * p + j)) 6 th t) :=
  AN_wait (CX_wq x (Or.inl rfl)) hb (by decide) (fun til => by rw [r_wt_r]; exact (wc_6 rfl (by show p_r (rs_A R 2480 (16 * p + j) (nI a)) (16 * p + j) 13 = nI a; rw [show (2480 : Nat) = 2467 + 13 from rfl, pr_w (by decide)]; rfl)).symm) (fun til => by rw [r_wt_r]; exact WG_6 rfl ha (by show p_r (rs_A R 2480 (16 * p + j) (nI a)) (16 * p + j) 13 = nI a; rw [show (2480 : Nat) = 2467 + 13 from rfl, pr_w (by decide)]; rfl) (by show th = r_A (rs_A R 2480 (16 * p + j) (nI a)) 2450 (16 * p + a); rw [r_An (Or.inl (by decide))]; exact h50) (by show r_A (rs_A R 2480 (16 * p + j) (nI a)) 2448 (16 * p + a) = 0; rw [r_An (Or.inl (by decide))]; exact h48))
/-- a wait with a word, for room in a channel -/
theorem AN_waitS {b : Nat} {L : c_L} {Z : z_C} {K : c_S} {R : r_S} {p j a : Nat} {th wd t : Int32} (x : CX b L Z K R p j) (hb : b < 1999999990) (ha : a < z_nt Z p 4) (h50 : th = r_A R 2450 (16 * p + a)) (h48 : r_A R 2448 (16 * p + a) = 1) : AN (b + 1) L Z (16 * p + j) (km_X0_waitWith L K 0 (nI (32 + a)) wd t) (fun Q => rm_X12_waits R (nI (16 * p + j)) 7 th t (fun r31_ S32_ => ∃ x33_ : Int32, r31_ = some (.int x33_) ∧ Q (some (.int x33_)) (rs_A (rs_A S32_ 2482 (16 * p + j) wd) 2480 (16 * p + j) (nI a)))) := by
  have x' := x
  obtain ⟨w, ⟨hp, hj⟩, ⟨-, p1, p2, p3⟩, hnow, h1, hm, -⟩ := x
  have cq := WR_cq w
  have np16 := CQ_np cq
  have n16 := CQ_nq cq p hp
  have hq := CQ_hq cq hp hj
  have mq := (CQ_q cq hp hj).1
  have ww := WR_wq (v := nI a) (WR_wq (v := wd) w hp hj (f := 2482) (Or.inr rfl) (by rw [h1]; decide)) hp hj (f := 2480) (Or.inl rfl) (by rw [r_An (Or.inl (by decide)), h1]; decide)
  have ec : (64 : Int32) + nI (32 + a) = nI (96 + a) := by
    rw [show (64 : Int32) = nI 64 from rfl, nI_add, show 64 + (32 + a) = 96 + a by omega]
  by_cases c0 : t = 0
  · subst c0
    exact AN_i 2 K _ (WR_w ww (by omega)) p3 (fun Q hQ => ⟨fun z => absurd rfl z, fun _ => ⟨fun _ => hQ, fun z => absurd z (by decide)⟩⟩) (fun Q hQ => re_waits0 ⟨_, rfl, hQ⟩)
  · by_cases cl' : 0 < r_A R 2486 p ∨ r_A R 2442 p = nI (16 * p + j)
    · refine AN_i 3 K _ (WR_w ww (by omega)) p3 (fun Q hQ => ⟨fun _ => ke_may x' ?_, fun z => absurd z c0⟩) (fun Q hQ => re_waitsL (by omega) (by omega) c0 cl' ⟨_, rfl, hQ⟩)
      rw [if_pos cl']
      exact ⟨fun z => absurd z (by decide), fun _ => ⟨fun _ => hQ, fun z => absurd z (by decide)⟩⟩
    · have nl : ¬ 0 < r_A R 2486 p := fun z => cl' (Or.inl z)
      have nh : r_A R 2442 p ≠ nI (16 * p + j) := fun z => cl' (Or.inr z)
      refine AN_i (-1) (k_wtw K p (16 * p + j) (nI (96 + a)) (if 0 ≤ t then r_I R 2463 + t else -1) wd) (r_wts R (16 * p + j) 7 th (if 0 ≤ t then r_I R 2463 + t else -1) wd (nI a)) ?_ p3 (fun Q hQ => ⟨fun _ => ke_may x' ?_, fun z => absurd z c0⟩) (fun Q hQ => re_waits (by omega) (by omega) c0 nl nh ⟨_, rfl, hQ⟩)
      · exact WR_wts w (by omega) hp hj h1 hm ((PD_lk w hp).1.trans ((i_0 (PD_lk w hp).2).mp nl)) (fun z => nh (hq.mpr z)) (by rw [r_wts_r]; refine Eq.symm (wc_7 ?_ ?_) <;> rfl) (by rw [r_wts_r]; exact WG_7 rfl ha rfl h50 h48)
      · rw [if_neg cl', ec]
        refine ⟨fun _ => ⟨fun c => ⟨p, p1, (CQ_p cq hp).1, ?_⟩, fun c => ⟨p, p1, (CQ_p cq hp).1, ?_⟩⟩, fun z => absurd rfl z⟩
        · rw [p2, hnow]
          rw [if_pos c] at hQ
          exact ke_makeWait mq ⟨fun z => absurd rfl z, fun _ => ⟨_, p2, mq, hQ⟩⟩
        · rw [p2]
          rw [if_neg c] at hQ
          exact ke_makeWait mq ⟨fun z => absurd rfl z, fun _ => ⟨_, p2, mq, hQ⟩⟩
theorem AN_18 {b : Nat} {L : c_L} {Z : z_C} {K : c_S} {R : r_S} {p j : Nat} {aa wd t : Int32} (x : CX b L Z K R p j) (hb : b < 1999999900) : AN (b + 16) L Z (16 * p + j) (km_X0_send L K 0 aa wd t) (rm_X12_sends R (nI p) (nI (16 * p + j)) aa wd t) := by
  have x' := x
  obtain ⟨w, ⟨hp, hj⟩, ⟨p0, p1, p2, p3⟩, hnow, h1, hm, gk⟩ := x
  have cq := WR_cq w
  have ct := WR_ct w
  have cc := WR_cc w
  have nc24 : z_nc Z ≤ 24 := cc.1.1
  have np16 := CQ_np cq
  have n16 := CQ_nq cq p hp
  have m5 := (CQ_p cq hp).1
  have nb := (CT_n ct hp (s := 4) (by decide)).1
  rw [if_pos rfl] at nb
  have q256 : 16 * p + j < 256 := by omega
  have cq' := nI_clamp (n := 16 * p + j) (by omega)
  rcases pk_ix aa (n := z_nt Z p 4) (by omega) with ha | ha | ⟨a, ha, rfl⟩
  · exact AN_i 1 K R (WR_w w (by omega)) p3 (fun Q hQ => ⟨p, p1, m5, ke_thingAt0 (s := 4) ct hp (by decide) (Or.inl ha) ⟨fun _ => hQ, fun z => absurd rfl z⟩⟩) (fun Q hQ => re_isThing0 (s := 4) ct np16 hp (by decide) (Or.inl ha) ⟨_, rfl, fun _ => hQ, fun z => absurd rfl z⟩)
  · exact AN_i 1 K R (WR_w w (by omega)) p3 (fun Q hQ => ⟨p, p1, m5, ke_thingAt0 (s := 4) ct hp (by decide) (Or.inr ha) ⟨fun _ => hQ, fun z => absurd rfl z⟩⟩) (fun Q hQ => re_isThing0 (s := 4) ct np16 hp (by decide) (Or.inr ha) ⟨_, rfl, fun _ => hQ, fun z => absurd rfl z⟩)
  · have mt : c_mk L 10 (48 * p + (32 + a)) := (CT_n ct hp (s := 4) (by decide)).2.2.2 a ha
    obtain ⟨c06, c07, c08, o1, o2, o3⟩ := CT_p ct hp ha
    have cpa := nI_clamp (n := 16 * p + a) (by omega)
    have vpa : ∀ f : Nat, r_N f = 256 → vp_in (nI (16 * p + a)) (r_N f) := fun f hf => ri_v hf (by omega) (by decide)
    have kpre : ∀ Q : Int32 → c_S → Prop, (c_I K 2006 (48 * p + (32 + a)) = 0 → Q 1 K) → (¬ c_I K 2006 (48 * p + (32 + a)) = 0 → ((c_I K 2007 (48 * p + (32 + a))) = 0 → (kb_X0_send_42 L K 0 (nI a) wd t (some (48 * p + (32 + a))) Q)) ∧ (¬ (c_I K 2007 (48 * p + (32 + a))) = 0 → (km_X0_isNoTime L K 0 t (fun x40_ S39_ => ((x40_ = 0 → (kb_X0_send_42 L S39_ 0 (nI a) wd t (some (48 * p + (32 + a))) Q)) ∧ (¬ x40_ = 0 → (kb_X0_send_40 L S39_ Q))))))) → km_X0_send L K 0 (nI a) wd t Q := fun Q h1 h2 => ⟨p, p1, m5, ke_thingAt (s := 4) ct hp (by decide) ha ⟨fun z => (by cases z), fun _ => ⟨_, rfl, mt, h1, h2⟩⟩⟩
    have rpre : ∀ Q : Option Value → r_S → Prop, ((¬ (r_A R 2448 (16 * p + a)) = 0 → ((((r_A R 2449 (16 * p + a)) = 0 → (rb_X12_sends_55 R (nI (16 * p + j)) (nI a) wd t (nI (16 * p + a)) Q)) ∧ (¬ (r_A R 2449 (16 * p + a)) = 0 → (rm_X12_isTime R t (fun r55_ S56_ => ∃ x57_ : Int32, r55_ = some (.int x57_) ∧ ((¬ x57_ = 0 → (rb_X12_sends_55 S56_ (nI (16 * p + j)) (nI a) wd t (nI (16 * p + a)) Q)) ∧ (x57_ = 0 → (Q (some (.int (1 : Int32))) S56_)))))))))) → ((r_A R 2448 (16 * p + a)) = 0 → (rb_X12_sends_24 R Q)) → rm_X12_sends R (nI p) (nI (16 * p + j)) (nI a) wd t Q := fun Q h1 h2 => re_isThing (s := 4) ct np16 hp (by decide) ha ⟨_, rfl, fun z => absurd z (by decide), fun _ => by rw [q_16, cpa]; exact ⟨vpa _ rfl, fun z => ⟨vpa _ rfl, h1 z⟩, h2⟩⟩
    rcases o1 with o1 | o1
    · exact AN_i 1 K R (WR_w w (by omega)) p3 (fun Q hQ => kpre Q (fun _ => hQ) (fun z => absurd (c06.trans o1) z)) (fun Q hQ => rpre Q (fun z => absurd o1 z) (fun _ => hQ))
    · have o1' : ¬ r_A R 2448 (16 * p + a) = 0 := by rw [o1]; decide
      by_cases ht : ¬ r_A R 2449 (16 * p + a) = 0 ∧ (t < -1 ∨ 100000 < t)
      · refine AN_i 1 K R (WR_w w (by omega)) p3 (fun Q hQ => kpre Q (fun z => absurd (c06.symm.trans z) o1') (fun _ => ⟨fun z => absurd (c07.symm.trans z) ht.1, fun _ => ke_isNoTime ?_⟩)) (fun Q hQ => rpre Q (fun _ => ⟨fun z => absurd z ht.1, fun _ => re_isTime ?_⟩) (fun z => absurd z o1'))
        · rw [if_pos ht.2]
          exact ⟨fun z => absurd z (by decide), fun _ => hQ⟩
        · rw [if_pos ht.2]
          exact ⟨_, rfl, fun z => absurd rfl z, fun _ => hQ⟩
      · have kpre2 : ∀ Q : Int32 → c_S → Prop, km_X6_channelAt L K 0 (r_A R 2450 (16 * p + a)) (fun r10_ S9_ => ((¬ r10_ = none → (∃ a13_ : Nat, (c_P S9_ 0 0) = some a13_ ∧ (c_mk L 6 a13_ ∧ (km_X6_carry L S9_ a13_ r10_ wd (fun x18_ S17_ => ((x18_ = 0 → (km_X0_waitWith L S17_ 0 ((32 : Int32) + nI a) wd t (fun x23_ S22_ => (kb_X0_send_90 L S22_ x23_ Q)))) ∧ (¬ x18_ = 0 → (kb_X0_send_90 L S17_ (0 : Int32) Q)))))))) ∧ (r10_ = none → (Q (3 : Int32) S9_)))) → km_X0_send L K 0 (nI a) wd t Q := fun Q hQ => by
          have h42 : kb_X0_send_42 L K 0 (nI a) wd t (some (48 * p + (32 + a))) Q := ⟨_, rfl, mt, 0, p0, gk.1, by rw [c08]; exact hQ⟩
          refine kpre Q (fun z => absurd (c06.symm.trans z) o1') (fun _ => ⟨fun _ => h42, fun z => ke_isNoTime ?_⟩)
          rw [if_neg (fun z2 => ht ⟨fun e => z (c07.trans e), z2⟩)]
          exact ⟨fun _ => h42, fun z => absurd rfl z⟩
        have rpre2 : ∀ Q : Option Value → r_S → Prop, rb_X12_sends_55 R (nI (16 * p + j)) (nI a) wd t (nI (16 * p + a)) Q → rm_X12_sends R (nI p) (nI (16 * p + j)) (nI a) wd t Q := fun Q hQ => by
          refine rpre Q (fun _ => ⟨fun _ => hQ, fun z => re_isTime ?_⟩) (fun z => absurd z o1')
          rw [if_neg (fun z2 => ht ⟨z, z2⟩)]
          exact ⟨_, rfl, fun _ => hQ, fun z => absurd z (by decide)⟩
        rcases o3 with o3 | ⟨c, hc, o4, o5, o6, o7⟩
        · refine AN_i 3 K R (WR_w w (by omega)) p3 (fun Q hQ => kpre2 Q ?_) (fun Q hQ => rpre2 Q ⟨vpa _ rfl, ?_⟩)
          · rw [o3]
            exact ke_channelAt0 ⟨fun z => absurd rfl z, fun _ => hQ⟩
          · rw [cpa]
            exact ⟨fun z => absurd o3 z, fun _ => hQ⟩
        · have ck := nI_clamp (n := c) (by omega)
          have vc : ∀ f : Nat, r_N f = 24 → vp_in (nI c) (r_N f) := fun f hf => ri_v hf (by omega) (by decide)
          have e4 : ((4 : Int32) * nI c) = nI (4 * c) := by rw [show (4 : Int32) = nI 4 from rfl, pk_mul]
          obtain ⟨v, K', R', hv, g1, g2, g3, g4, -⟩ := P_carry (w := wd) w gk hb hc
          have kpre3 : ∀ Q : Int32 → c_S → Prop, ((v = 0 → (km_X0_waitWith L K' 0 (nI (32 + a)) wd t (fun x23_ S22_ => (kb_X0_send_90 L S22_ x23_ Q)))) ∧ (¬ v = 0 → (kb_X0_send_90 L K' (0 : Int32) Q))) → km_X0_send L K 0 (nI a) wd t Q := fun Q hQ => kpre2 Q (by
            rw [o4]
            refine ke_channelAt cc hc ⟨fun _ => ⟨0, p0, gk.1, g1 _ ?_⟩, fun z => (by cases z)⟩
            rw [show (32 : Int32) = nI 32 from rfl, nI_add]
            exact hQ)
          have rpre3 : ∀ Q : Option Value → r_S → Prop, ((v = 0 → (rm_X12_waits R' (nI (16 * p + j)) (7 : Int32) (nI c) t (fun r25_ S26_ => ∃ x27_ : Int32, r25_ = some (.int x27_) ∧ Q (some (.int x27_)) (rs_A (rs_A S26_ 2482 (16 * p + j) wd) 2480 (16 * p + j) (nI a))))) ∧ (¬ v = 0 → (rb_X12_sends_125 R' Q))) → rm_X12_sends R (nI p) (nI (16 * p + j)) (nI a) wd t Q := fun Q hQ => rpre2 Q ⟨vpa _ rfl, by
            rw [cpa, o4]
            refine ⟨fun _ => ?_, fun z => absurd z (nI_m1 (by omega))⟩
            have g := g2 (fun x22_ S21_ => ((x22_ = 0 → (rm_X12_waits S21_ (nI (16 * p + j)) (7 : Int32) (nI c) t (fun r25_ S26_ => ∃ x27_ : Int32, r25_ = some (.int x27_) ∧ (vp_in (nI (16 * p + j)) (r_N 2482) ∧ (vp_in (nI (16 * p + j)) (r_N 2480) ∧ (Q (some (.int x27_)) (rs_A (rs_A S26_ 2482 (nI (16 * p + j)).toNatClampNeg wd) 2480 (nI (16 * p + j)).toNatClampNeg (nI a)))))))) ∧ (¬ x22_ = 0 → (rb_X12_sends_125 S21_ Q)))) ⟨fun z => dmo (drm_X12_waits R' (nI (16 * p + j)) 7 (nI c) t) (hQ.1 z) (fun v s hv => by
              obtain ⟨x27, e1, e2⟩ := hv
              rw [cq']
              exact ⟨x27, e1, ri_v (n := 256) rfl q256 (by decide), ri_v (n := 256) rfl q256 (by decide), e2⟩), hQ.2⟩
            refine dmo (drm_X12_traced R (nI c) wd) g (fun v s hv => ⟨hv.1, vc _ rfl, ?_⟩)
            rw [ck, e4, nI_clamp (n := 4 * c) (by omega)]
            refine ⟨fun z => ⟨ri_v (n := 96) rfl (by omega) (by decide), fun z2 => ?_, (hv.2.1 z).2⟩, fun z => ?_⟩
            · exact ((hv.2.1 z).1 z2).2 (by decide)
            · refine dmo (drm_X12_sample s (nI c) wd) (hv.2.2 z) (fun v s hv => ⟨hv.1, hv.2.2 (by decide)⟩)⟩
          rcases hv with hv | ⟨hv, hq, eK, eR⟩
          · subst hv
            exact AN_i 0 K' R' (WR_w g3 (by omega)) ((g4 3 0).trans p3) (fun Q hQ => kpre3 Q ⟨fun z => absurd z (by decide), fun _ => hQ⟩) (fun Q hQ => rpre3 Q ⟨fun z => absurd z (by decide), fun _ => hQ⟩)
          · subst hv
            rw [eK] at kpre3
            rw [eR] at rpre3
            exact AN_w (AN_m (AN_waitS (a := a) (th := nI c) (wd := wd) (t := t) x' (by omega) ha o4.symm o1) (fun Q h => kpre3 Q ⟨fun _ => h, fun z => absurd rfl z⟩) (fun Q h => rpre3 Q ⟨fun _ => dmo (drm_X12_waits R (nI (16 * p + j)) 7 (nI c) t) h (fun v s hv => by
              obtain ⟨x1, e1, x2, e2, e3⟩ := hv
              injection e2 with e2
              injection e2 with e2
              exact ⟨x1, e1, by rw [e2]; exact e3⟩), fun z => absurd rfl z⟩)) (by omega)
