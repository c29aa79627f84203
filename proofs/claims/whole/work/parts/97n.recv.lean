/-! Call 19; what comes from outside. -/
theorem sf_x {f g i c base n : Nat} {R : r_S} {v u : Int32} (hf : f ≠ 2477) (hg : g ≠ 2477) : r_sf f (rs_A (rs_A R 2477 i v) g c u) base n = rs_A (r_sf f (rs_A R g c u) base n) 2477 i v := by
  refine Prod.ext rfl (funext fun a => funext fun m => ?_)
  show (if a = f ∧ base ≤ m ∧ m < base + n then r_A (rs_A (rs_A R 2477 i v) g c u) f (m + 1) else r_A (rs_A (rs_A R 2477 i v) g c u) a m) = (if a = 2477 ∧ m = i then v else r_A (r_sf f (rs_A R g c u) base n) a m)
  by_cases c1 : a = 2477
  · subst c1
    rw [if_neg (fun z => hf z.1.symm), r_An (Or.inl (Ne.symm hg)), r_AA, sf_n (Or.inl (Ne.symm hf)), r_An (Or.inl (Ne.symm hg))]
  · rw [if_neg (c := a = 2477 ∧ m = i) (fun z => c1 z.1)]
    show _ = (if a = f ∧ base ≤ m ∧ m < base + n then r_A (rs_A R g c u) f (m + 1) else r_A (rs_A R g c u) a m)
    simp only [r_AA]
    rw [if_neg (c := f = 2477 ∧ m + 1 = i) (fun z => hf z.1), if_neg (c := a = 2477 ∧ m = i) (fun z => c1 z.1)]
/-- the shift of a channel's words, and what follows it -/
theorem re_recv {R : r_S} {k n : Nat} {Q : Option Value → r_S → Prop} (hk : k < 24) (n15 : n ≤ 31) (h : ∀ R' : r_S, R' = r_sf 2502 R (32 * k) n → rm_X12_waiter R' (7 : Int32) (nI k) (r_A R' 2456 k) (fun r11_ S12_ => ∃ x13_ : Int32, r11_ = some (.int x13_) ∧ ((¬ x13_ = (-1 : Int32) → (vp_in (nI k) (r_N 2501) ∧ (vp_in x13_ (r_N 2482) ∧ (vp_in (((32 : Int32) * nI k) + (r_A S12_ 2501 k)) (r_N 2502) ∧ (vp_in (nI k) (r_N 2501) ∧ (vp_in (nI k) (r_N 2501) ∧ (∀ S33_ : r_S, S33_ = (rs_A (rs_A S12_ 2502 (((32 : Int32) * nI k) + (r_A S12_ 2501 k)).toNatClampNeg (r_A S12_ 2482 x13_.toNatClampNeg)) 2501 k ((r_A (rs_A S12_ 2502 (((32 : Int32) * nI k) + (r_A S12_ 2501 k)).toNatClampNeg (r_A S12_ 2482 x13_.toNatClampNeg)) 2501 k) + (1 : Int32))) → (rm_X12_gets S33_ x13_ (fun r34_ S35_ => r34_ = none ∧ (Q (some (.int (0 : Int32))) S35_)))))))))) ∧ (x13_ = (-1 : Int32) → (Q (some (.int (0 : Int32))) S12_)))) ) (hn : r_A R 2501 k = nI n) : ∃ m : Nat, rl_X12_receives_206 m R (nI k) 0 Q := by
  have ck := nI_clamp (n := k) (by omega)
  have vk : ∀ f : Nat, r_N f = 24 → vp_in (nI k) (r_N f) := fun f hf => ri_v hf hk (by decide)
  have hn2 : ∀ m : Nat, r_A (r_sf 2502 R (32 * k) m) 2501 k = nI n := fun m => (sf_n (Or.inl (by decide))).trans hn
  have lp : ∀ d x : Nat, x + d = n → rl_X12_receives_206 (d + 1) (r_sf 2502 R (32 * k) x) (nI k) (nI x) Q := by
    intro d
    induction d with
    | zero =>
      intro x hx
      obtain rfl : x = n := by omega
      show rb_X12_receives_206 _ _ _ _ Q
      unfold rb_X12_receives_206
      rw [ck, hn2]
      exact ⟨vk _ rfl, fun _ => ⟨vk _ rfl, h _ rfl⟩, fun z => absurd (nI_le (Nat.le_refl _) (by omega)) z⟩
    | succ d ih =>
      intro x hx
      show rb_X12_receives_206 _ _ _ _ Q
      unfold rb_X12_receives_206
      rw [ck, hn2, q_32, show nI (32 * k + x) + (1 : Int32) = nI (32 * k + x + 1) from nI_1 _, nI_clamp (by omega), nI_clamp (by omega), sf_s, show nI x + (1 : Int32) = nI (x + 1) from nI_1 x]
      exact ⟨vk _ rfl, fun z => absurd z (nI_ge (by omega) (by omega)), fun _ => ⟨ri_v (n := 768) rfl (by omega) (by decide), ri_v (n := 768) rfl (by omega) (by decide), ih (x + 1) (by omega)⟩⟩
  have z := lp n 0 (by omega)
  rw [sf_0] at z
  exact ⟨n + 1, z⟩
/-- where a channel comes from outside nobody waits to send -/
theorem mt_nosend {b : Nat} {L : c_L} {Z : z_C} {K : c_S} {R : r_S} {c q : Nat} (h : WR b L Z K R) (hc : c < z_nc Z) (hg : z_sp Z c = none) (hq : q < 256) : r_mt R 7 (nI c) q = false := by
  have cc := WR_cc h
  have nc24 : z_nc Z ≤ 24 := cc.1.1
  unfold r_mt
  rw [decide_eq_false_iff_not]
  intro z
  by_cases hv : ∃ p' j' : Nat, p' < z_np Z ∧ j' < z_nq Z p' ∧ q = 16 * p' + j'
  · obtain ⟨p', j', hp', hj', rfl⟩ := hv
    have z1 : r_A R 2478 (16 * p' + j') = nI 7 := z.2.1
    rcases wc_cases h hp' hj' with ⟨c2, e⟩ | ⟨c2, hh⟩
    · exact c2 z.1
    · rcases hh with ⟨e1, e2⟩ | ⟨s', k', hs, hk', e1, e2, e3⟩ | ⟨a', ha, e1, e2, e3, e4, e5⟩ | ⟨a', ha, e1, e2, e3, e4, e5⟩ | ⟨e1, e2⟩
      · have := e1.symm.trans z1
        rw [show (0 : Int32) = nI 0 from rfl, nI_eq (by omega) (by omega)] at this
        omega
      · have := e1.symm.trans z1
        rw [nI_eq (by omega) (by omega)] at this
        omega
      · have := e1.symm.trans z1
        rw [nI_eq (by omega) (by omega)] at this
        omega
      · have hcp := (CT_p (WR_ct h) hp' ha).2.2.2.2.2
        have z2 := e3.symm.trans z.2.2
        rcases hcp with q | ⟨c', q1, q2, q3, q4, q5⟩
        · exact absurd (z2.symm.trans q) (nI_m1 (by omega))
        · obtain rfl : c' = c := (nI_eq (by omega) (by omega)).mp (q2.symm.trans z2)
          have hg2 := q4 e4
          rw [hg] at hg2
          exact absurd hg2 (by simp)
      · have := e1.symm.trans z1
        rw [nI_eq (by omega) (by omega)] at this
        omega
  · have := h.2.1.2 q hq (fun p' j' h1 h2 e => hv ⟨p', j', h1, h2, e⟩)
    have z0 : p_r R q 0 = 2 := z.1
    rw [this] at z0
    exact absurd z0 (by decide)
theorem b_fw_n {M : Nat → Bool} {A : Nat → Nat → Bool} {n : Nat} (h : ∀ i : Nat, i < n → M i = false) : b_fw M A n = none := by
  cases e : b_fw M A n with
  | none => rfl
  | some m =>
    have := b_fw_lt e
    rw [h m this.1] at this
    exact absurd this.2 (by decide)
theorem AN_19 {b : Nat} {L : c_L} {Z : z_C} {K : c_S} {R : r_S} {p j : Nat} {aa t : Int32} (x : CX b L Z K R p j) (hb : b < 1999999900) : AN (b + 16) L Z (16 * p + j) (km_X0_receive L K 0 aa t) (rm_X12_receives R (nI p) (nI (16 * p + j)) aa t) := by
  have x' := x
  obtain ⟨w, ⟨hp, hj⟩, ⟨p0, p1, p2, p3⟩, hnow, h1, hm, gk⟩ := x
  have cq := WR_cq w
  have ct := WR_ct w
  have cc := WR_cc w
  have nc24 : z_nc Z ≤ 24 := cc.1.1
  have np16 := CQ_np cq
  have n16 := CQ_nq cq p hp
  have m5 := (CQ_p cq hp).1
  have mq := (CQ_q cq hp hj).1
  have nb := (CT_n ct hp (s := 4) (by decide)).1
  rw [if_pos rfl] at nb
  have q256 : 16 * p + j < 256 := by omega
  have cq' := nI_clamp (n := 16 * p + j) (by omega)
  rcases pk_ix aa (n := z_nt Z p 4) (by omega) with ha | ha | ⟨a, ha, rfl⟩
  · exact AN_i 1 K R (WR_w w (by omega)) p3 (fun Q hQ => ⟨p, p1, m5, ke_thingAt0 (s := 4) ct hp (by decide) (Or.inl ha) ⟨fun _ => hQ, fun z => absurd rfl z⟩⟩) (fun Q hQ => re_isThing0 (s := 4) ct np16 hp (by decide) (Or.inl ha) ⟨_, rfl, fun _ => hQ, fun z => absurd rfl z⟩)
  · exact AN_i 1 K R (WR_w w (by omega)) p3 (fun Q hQ => ⟨p, p1, m5, ke_thingAt0 (s := 4) ct hp (by decide) (Or.inr ha) ⟨fun _ => hQ, fun z => absurd rfl z⟩⟩) (fun Q hQ => re_isThing0 (s := 4) ct np16 hp (by decide) (Or.inr ha) ⟨_, rfl, fun _ => hQ, fun z => absurd rfl z⟩)
  · have mt : c_mk L 10 (48 * p + (32 + a)) := (CT_n ct hp (s := 4) (by decide)).2.2.2 a ha
    obtain ⟨c06, c07, c08, o1, o2, o3⟩ := CT_p ct hp ha
    have cpa := nI_clamp (n := 16 * p + a) (by omega)
    have vpa : ∀ f : Nat, r_N f = 256 → vp_in (nI (16 * p + a)) (r_N f) := fun f hf => ri_v hf (by omega) (by decide)
    have kpre : ∀ Q : Int32 → c_S → Prop, (¬ c_I K 2006 (48 * p + (32 + a)) = 0 → Q 1 K) → (c_I K 2006 (48 * p + (32 + a)) = 0 → ((c_I K 2007 (48 * p + (32 + a))) = 0 → (kb_X0_receive_38 L K 0 (nI a) t (some (48 * p + (32 + a))) Q)) ∧ (¬ (c_I K 2007 (48 * p + (32 + a))) = 0 → (km_X0_isNoTime L K 0 t (fun x40_ S39_ => ((x40_ = 0 → (kb_X0_receive_38 L S39_ 0 (nI a) t (some (48 * p + (32 + a))) Q)) ∧ (¬ x40_ = 0 → (kb_X0_receive_36 L S39_ Q))))))) → km_X0_receive L K 0 (nI a) t Q := fun Q h1 h2 => ⟨p, p1, m5, ke_thingAt (s := 4) ct hp (by decide) ha ⟨fun z => (by cases z), fun _ => ⟨_, rfl, mt, h1, h2⟩⟩⟩
    have rpre : ∀ Q : Option Value → r_S → Prop, (((r_A R 2448 (16 * p + a)) = 0 → ((((r_A R 2449 (16 * p + a)) = 0 → (rb_X12_receives_55 R (nI (16 * p + j)) (nI a) t (nI (16 * p + a)) Q)) ∧ (¬ (r_A R 2449 (16 * p + a)) = 0 → (rm_X12_isTime R t (fun r55_ S56_ => ∃ x57_ : Int32, r55_ = some (.int x57_) ∧ ((¬ x57_ = 0 → (rb_X12_receives_55 S56_ (nI (16 * p + j)) (nI a) t (nI (16 * p + a)) Q)) ∧ (x57_ = 0 → (Q (some (.int (1 : Int32))) S56_)))))))))) → (¬ (r_A R 2448 (16 * p + a)) = 0 → (rb_X12_receives_24 R Q)) → rm_X12_receives R (nI p) (nI (16 * p + j)) (nI a) t Q := fun Q h1 h2 => re_isThing (s := 4) ct np16 hp (by decide) ha ⟨_, rfl, fun z => absurd z (by decide), fun _ => by rw [q_16, cpa]; exact ⟨vpa _ rfl, fun z => ⟨vpa _ rfl, h1 z⟩, h2⟩⟩
    rcases o1 with o1 | o1
    case inr =>
      have o1' : ¬ r_A R 2448 (16 * p + a) = 0 := by rw [o1]; decide
      exact AN_i 1 K R (WR_w w (by omega)) p3 (fun Q hQ => kpre Q (fun _ => hQ) (fun z => absurd (c06.symm.trans z) o1')) (fun Q hQ => rpre Q (fun z => absurd z o1') (fun _ => hQ))
    case inl =>
      by_cases ht : ¬ r_A R 2449 (16 * p + a) = 0 ∧ (t < -1 ∨ 100000 < t)
      · refine AN_i 1 K R (WR_w w (by omega)) p3 (fun Q hQ => kpre Q (fun z => absurd (c06.trans o1) z) (fun _ => ⟨fun z => absurd (c07.symm.trans z) ht.1, fun _ => ke_isNoTime ?_⟩)) (fun Q hQ => rpre Q (fun _ => ⟨fun z => absurd z ht.1, fun _ => re_isTime ?_⟩) (fun z => absurd o1 z))
        · rw [if_pos ht.2]
          exact ⟨fun z => absurd z (by decide), fun _ => hQ⟩
        · rw [if_pos ht.2]
          exact ⟨_, rfl, fun z => absurd rfl z, fun _ => hQ⟩
      · have kpre2 : ∀ Q : Int32 → c_S → Prop, kb_X0_receive_38 L K 0 (nI a) t (some (48 * p + (32 + a))) Q → km_X0_receive L K 0 (nI a) t Q := fun Q h42 => by
          refine kpre Q (fun z => absurd (c06.trans o1) z) (fun _ => ⟨fun _ => h42, fun z => ke_isNoTime ?_⟩)
          rw [if_neg (fun z2 => ht ⟨fun e => z (c07.trans e), z2⟩)]
          exact ⟨fun _ => h42, fun z => absurd rfl z⟩
        have rpre2 : ∀ Q : Option Value → r_S → Prop, rb_X12_receives_55 R (nI (16 * p + j)) (nI a) t (nI (16 * p + a)) Q → rm_X12_receives R (nI p) (nI (16 * p + j)) (nI a) t Q := fun Q hQ => by
          refine rpre Q (fun _ => ⟨fun _ => hQ, fun z => re_isTime ?_⟩) (fun z => absurd o1 z)
          rw [if_neg (fun z2 => ht ⟨z, z2⟩)]
          exact ⟨_, rfl, fun _ => hQ, fun z => absurd z (by decide)⟩
        rcases o3 with o3 | ⟨c, hc, o4, o5, o6, o7⟩
        · refine AN_i 3 K R (WR_w w (by omega)) p3 (fun Q hQ => kpre2 Q ⟨_, rfl, mt, 0, p0, gk.1, ?_⟩) (fun Q hQ => rpre2 Q ⟨vpa _ rfl, ?_⟩)
          · rw [c08, o3]
            exact ke_channelAt0 ⟨fun z => absurd rfl z, fun _ => hQ⟩
          · rw [cpa]
            exact ⟨fun z => absurd o3 z, fun _ => hQ⟩
        · have ck := nI_clamp (n := c) (by omega)
          have vc : ∀ f : Nat, r_N f = 24 → vp_in (nI c) (r_N f) := fun f hf => ri_v hf (by omega) (by decide)
          have e32 : ((32 : Int32) * nI c) = nI (32 * c) := by rw [show (32 : Int32) = nI 32 from rfl, pk_mul]
          have ex : (32 : Int32) * nI (16 * p + j) + 11 = nI (32 * (16 * p + j) + 11) := q_32 (i := 11)
          have c11 : (nI (32 * (16 * p + j) + 11)).toNatClampNeg = 32 * (16 * p + j) + 11 := nI_clamp (by omega)
          have v11 : vp_in (nI (32 * (16 * p + j) + 11)) (r_N 2477) := ri_v (n := 8192) rfl (by omega) (by decide)
          obtain ⟨⟨m1, h200, h201, h202, h203, h207, h58, n1, n4⟩, hq01, -⟩ := CC_c cc hc
          obtain ⟨c2, c4, c5, c6, c7, c8, c9⟩ := CC_d cc hc
          have kpre3 : ∀ Q : Int32 → c_S → Prop, (((c_I K 201 c) = 0 → ((¬ (c_I K 205 c) = (-1 : Int32) → (km_X8_at L K (1000 + c) (0 : Int32) (fun x23_ S22_ => (∃ a24_ : Nat, (c_P K 3 0) = some a24_ ∧ (c_mk L 7 a24_ ∧ (vp_in (11 : Int32) 32 ∧ (((c_I (cs_A S22_ 1411 a24_ (11 : Int32).toNatClampNeg x23_) 203 c) < ((c_I (cs_A S22_ 1411 a24_ (11 : Int32).toNatClampNeg x23_) 4 0) - (c_I (cs_A S22_ 1411 a24_ (11 : Int32).toNatClampNeg x23_) 205 c)) → (kb_X0_receive_146 L (cs_A S22_ 1411 a24_ (11 : Int32).toNatClampNeg x23_) (5 : Int32) Q)) ∧ (¬ (c_I (cs_A S22_ 1411 a24_ (11 : Int32).toNatClampNeg x23_) 203 c) < ((c_I (cs_A S22_ 1411 a24_ (11 : Int32).toNatClampNeg x23_) 4 0) - (c_I (cs_A S22_ 1411 a24_ (11 : Int32).toNatClampNeg x23_) 205 c)) → (kb_X0_receive_146 L (cs_A S22_ 1411 a24_ (11 : Int32).toNatClampNeg x23_) (0 : Int32) Q))))))))) ∧ ((c_I K 205 c) = (-1 : Int32) → (Q (2 : Int32) K)))) ∧ (¬ (c_I K 201 c) = 0 → (km_X0_takeFrom L K 0 (some (1000 + c)) (nI (32 + a)) t (c_P K 209 c) (c_I K 210 c) (r_A R 2456 c) (fun x34_ S33_ => (Q x34_ S33_))))) → km_X0_receive L K 0 (nI a) t Q := fun Q hQ => kpre2 Q ⟨_, rfl, mt, 0, p0, gk.1, by
            rw [c08, o4]
            refine ke_channelAt cc hc ⟨fun _ => ⟨c, rfl, m1, ?_⟩, fun z => (by cases z)⟩
            rw [show (32 : Int32) = nI 32 from rfl, nI_add, h202]
            exact hQ⟩
          rcases hq01 with hq | hq
          · have hk0 : c_I K 201 c = 0 := h201.trans hq
            have rpre3 : ∀ Q : Option Value → r_S → Prop, (vp_in (nI c) (r_N 2498) → (¬ (r_A R 2498 c) = 0 → ((r_A R 2455 c < r_I R 2463 - r_A R 2500 c → Q (some (.int 5)) (rs_A R 2477 (32 * (16 * p + j) + 11) (r_A R 2499 c))) ∧ (¬ r_A R 2455 c < r_I R 2463 - r_A R 2500 c → Q (some (.int 0)) (rs_A R 2477 (32 * (16 * p + j) + 11) (r_A R 2499 c))))) ∧ ((r_A R 2498 c) = 0 → (Q (some (.int (2 : Int32))) R))) → rm_X12_receives R (nI p) (nI (16 * p + j)) (nI a) t Q := fun Q hQ => rpre2 Q ⟨vpa _ rfl, by
              rw [cpa, o4, ck]
              refine ⟨fun _ => ⟨vc _ rfl, fun z => absurd hq z, fun _ => ⟨vc _ rfl, fun z => ⟨vc _ rfl, ?_⟩, (hQ (vc _ rfl)).2⟩⟩, fun z => absurd z (nI_m1 (by omega))⟩
              rw [ex, c11, r_An (f := 2477) (Or.inl (by decide)), r_An (f := 2477) (Or.inl (by decide))]
              exact ⟨v11, vc _ rfl, vc _ rfl, (hQ (vc _ rfl)).1 z⟩⟩
            have ch : (r_A R 2498 c = 0 ∧ c_I K 205 c = -1 ∧ c_I K 1603 (1000 + c) = 0 ∧ c_I K 1602 (1000 + c) = 0) ∨ (r_A R 2498 c = 1 ∧ c_I K 205 c = r_A R 2500 c ∧ 0 ≤ (r_A R 2500 c).toInt ∧ c_I K 1603 (1000 + c) = 1 ∧ c_I K 1602 (1000 + c) = 0 ∧ c_A K 1600 (1000 + c) 0 = r_A R 2499 c) := (w.1.2.2.1 c hc).2.2 hq
            rcases ch with ⟨d1, d2, d3, d4⟩ | ⟨d1, d2, d3, d4, d5, d6⟩
            · exact AN_i 2 K R (WR_w w (by omega)) p3 (fun Q hQ => kpre3 Q ⟨fun _ => ⟨fun z => absurd d2 z, fun _ => hQ⟩, fun z => absurd hk0 z⟩) (fun Q hQ => rpre3 Q (fun _ => ⟨fun z => absurd d1 z, fun _ => hQ⟩))
            · have wx := WR_x (v := r_A R 2499 c) w hp hj (i := 11) (by decide)
              have d205 : ¬ c_I K 205 c = -1 := fun z => by
                have := congrArg Int32.toInt (d2.symm.trans z)
                rw [show (-1 : Int32).toInt = -1 from by decide] at this
                omega
              have kq : ∀ (v : Int32) (Q : Int32 → c_S → Prop), ((r_A R 2455 c < r_I R 2463 - r_A R 2500 c → Q 5 (cs_A K 1411 (16 * p + j) 11 (r_A R 2499 c))) ∧ (¬ r_A R 2455 c < r_I R 2463 - r_A R 2500 c → Q 0 (cs_A K 1411 (16 * p + j) 11 (r_A R 2499 c)))) → km_X0_receive L K 0 (nI a) t Q := fun v Q hQ => kpre3 Q ⟨fun _ => ⟨fun _ => ke_at1 (x := 0) (a := 0) (d := z_dc Z (1000 + c)) (n := 1) c2 d5 d4 (by omega) (by omega) (by omega) c6 c7 (by omega) ⟨_, p3, mq, v32 (n := 11) (by decide), by
                rw [show (0 + 0) % z_dc Z (1000 + c) = 0 from Nat.zero_mod _, d6, show c_I (cs_A K 1411 (16 * p + j) (11 : Int32).toNatClampNeg (r_A R 2499 c)) 203 c = c_I K 203 c from rfl, show c_I (cs_A K 1411 (16 * p + j) (11 : Int32).toNatClampNeg (r_A R 2499 c)) 4 0 = c_I K 4 0 from rfl, show c_I (cs_A K 1411 (16 * p + j) (11 : Int32).toNatClampNeg (r_A R 2499 c)) 205 c = c_I K 205 c from rfl, h203, hnow, d2]
                exact hQ⟩, fun z => absurd z d205⟩, fun z => absurd hk0 z⟩
              by_cases cl : r_A R 2455 c < r_I R 2463 - r_A R 2500 c
              · exact AN_i 5 _ _ (WR_w wx (by omega)) p3 (fun Q hQ => kq 0 Q ⟨fun _ => hQ, fun z => absurd cl z⟩) (fun Q hQ => rpre3 Q (fun _ => ⟨fun _ => ⟨fun _ => hQ, fun z => absurd cl z⟩, fun z => absurd (d1.symm.trans z) (by decide)⟩))
              · exact AN_i 0 _ _ (WR_w wx (by omega)) p3 (fun Q hQ => kq 0 Q ⟨fun z => absurd z cl, fun _ => hQ⟩) (fun Q hQ => rpre3 Q (fun _ => ⟨fun _ => ⟨fun z => absurd z cl, fun _ => hQ⟩, fun z => absurd (d1.symm.trans z) (by decide)⟩))
          · have hk0 : ¬ c_I K 201 c = 0 := by rw [h201, hq]; decide
            have hq0 : ¬ r_A R 2454 c = 0 := by rw [hq]; decide
            have m8 : c_mk L 8 (1000 + c) := gk.2.2 c m1
            have kpre4 : ∀ Q : Int32 → c_S → Prop, km_X0_takeFrom L K 0 (some (1000 + c)) (nI (32 + a)) t (c_P K 209 c) (c_I K 210 c) (r_A R 2456 c) (fun x34_ S33_ => (Q x34_ S33_)) → km_X0_receive L K 0 (nI a) t Q := fun Q hQ => kpre3 Q ⟨fun z => absurd z hk0, fun _ => hQ⟩
            obtain ⟨-, qa, n, q1, q2, q3, q4, q5, q6⟩ := CH_u w hc hq
            cases n with
            | zero =>
              refine AN_w (AN_m (AN_waitR (a := a) (th := nI c) (t := t) x' (by omega) ha o4.symm o1) (fun Q h => kpre4 Q ⟨fun z => (by cases z), fun _ => ⟨_, rfl, m8, fun z => absurd q4 z, fun _ => h⟩⟩) (fun Q h => rpre2 Q ⟨vpa _ rfl, ?_⟩)) (by omega)
              rw [cpa, o4, ck]
              refine ⟨fun _ => ⟨vc _ rfl, fun _ => ⟨vc _ rfl, fun z => absurd q5 z, fun _ => ⟨ri_v (n := 256) rfl q256 (by decide), ?_⟩⟩, fun z => absurd z hq0⟩, fun z => absurd z (nI_m1 (by omega))⟩
              rw [cq']
              exact h
            | succ n =>
              have nz : ¬ nI (n + 1) = 0 := nI_ne0 (by omega) (by omega)
              obtain ⟨K1, g1, g2, g3, g4⟩ := WR_ctake w hc hq (by omega) q5
              have w1 := WR_x (v := r_A R 2502 (32 * c)) g2 hp hj (i := 11) (by decide)
              have eR : rs_A (r_sf 2502 (rs_A R 2501 c (r_A R 2501 c - 1)) (32 * c) n) 2477 (32 * (16 * p + j) + 11) (r_A R 2502 (32 * c)) = r_sf 2502 (rs_A (rs_A R 2477 (32 * (16 * p + j) + 11) (r_A R 2502 (32 * c))) 2501 c (r_A R 2501 c - 1)) (32 * c) n := (sf_x (by decide) (by decide)).symm
              have hn1 : r_A (rs_A (rs_A R 2477 (32 * (16 * p + j) + 11) (r_A R 2502 (32 * c))) 2501 c (r_A R 2501 c - 1)) 2501 c = nI n := by
                rw [r_As, q5, nI_pred]
              have rpre4 : ∀ Q : Option Value → r_S → Prop, (∃ m : Nat, rl_X12_receives_206 m (rs_A (rs_A R 2477 (32 * (16 * p + j) + 11) (r_A R 2502 (32 * c))) 2501 c (r_A R 2501 c - 1)) (nI c) 0 Q) → rm_X12_receives R (nI p) (nI (16 * p + j)) (nI a) t Q := fun Q hQ => rpre2 Q ⟨vpa _ rfl, by
                rw [cpa, o4, ck]
                refine ⟨fun _ => ⟨vc _ rfl, fun _ => ⟨vc _ rfl, fun _ => ?_, fun z => absurd (q5.symm.trans z) nz⟩, fun z => absurd z hq0⟩, fun z => absurd z (nI_m1 (by omega))⟩
                rw [e32, nI_clamp (n := 32 * c) (by omega), ex, c11]
                refine ⟨ri_v (n := 768) rfl (by omega) (by decide), v11, vc _ rfl, vc _ rfl, fun S eS => ?_⟩
                rw [r_An (f := 2477) (Or.inl (by decide))] at eS
                subst eS
                exact hQ⟩
              have kpre5 : ∀ Q : Int32 → c_S → Prop, ((c_P K 209 c = none → Q 0 (cs_A K1 1411 (16 * p + j) 11 (r_A R 2502 (32 * c)))) ∧ (¬ c_P K 209 c = none → (∃ a19_ : Nat, c_P K 209 c = some a19_ ∧ (c_mk L 5 a19_ ∧ (km_X5_refill L (cs_A K1 1411 (16 * p + j) 11 (r_A R 2502 (32 * c))) a19_ (some (1000 + c)) (c_I K 210 c) (r_A R 2456 c) (fun S23_ => Q 0 S23_)))))) → km_X0_receive L K 0 (nI a) t Q := fun Q hQ => kpre4 Q ⟨fun z => (by cases z), fun _ => ⟨_, rfl, m8, fun _ => g1 _ ⟨_, p3, mq, v32 (n := 11) (by decide), hQ.1, hQ.2⟩, fun z => absurd (q4.symm.trans z) nz⟩⟩
              have en : r_A (r_sf 2502 (rs_A (rs_A R 2477 (32 * (16 * p + j) + 11) (r_A R 2502 (32 * c))) 2501 c (r_A R 2501 c - 1)) (32 * c) n) 2501 c = nI n := (sf_n (Or.inl (by decide))).trans hn1
              have e56 : r_A (r_sf 2502 (rs_A (rs_A R 2477 (32 * (16 * p + j) + 11) (r_A R 2502 (32 * c))) 2501 c (r_A R 2501 c - 1)) (32 * c) n) 2456 c = r_A R 2456 c := by rw [sf_n (Or.inl (by decide)), r_An (Or.inl (by decide)), r_An (Or.inl (by decide))]
              have e54 : r_A (r_sf 2502 (rs_A (rs_A R 2477 (32 * (16 * p + j) + 11) (r_A R 2502 (32 * c))) 2501 c (r_A R 2501 c - 1)) (32 * c) n) 2454 c = 1 := by rw [sf_n (Or.inl (by decide)), r_An (Or.inl (by decide)), r_An (Or.inl (by decide))]; exact hq
              rw [eR] at w1
              cases es : z_sp Z c with
              | none =>
                have s1 := (CC_s0 cc hc es).1
                refine AN_i 0 _ _ (WR_w w1 (by omega)) ((g3 3 0).trans p3) (fun Q hQ => kpre5 Q ⟨fun _ => hQ, fun z => absurd s1 z⟩) (fun Q hQ => rpre4 Q (re_recv (by omega) (by omega) (fun R' eR' => ?_) hn1))
                subst eR'
                refine re_fw ?_
                rw [b_fw_n (fun i hi => mt_nosend w1 hc es hi)]
                exact ⟨_, rfl, fun z => absurd rfl z, fun _ => hQ⟩
              | some q =>
                obtain ⟨p', a'⟩ := q
                obtain ⟨s1, s2, s3, s4, s5, s6, s7⟩ := CC_s1 cc hc es
                have cq1 := WR_cq w1
                have n16' := CQ_nq cq1 p' s1
                have m5' := (CQ_p cq1 s1).1
                have nb' := (CT_n ct s1 (s := 4) (by decide)).1
                rw [if_pos rfl] at nb'
                obtain ⟨f1, f2, f3⟩ := fw_send (fifo := r_A R 2456 c) w1 s1 hc es
                have e96 : (64 : Int32) + nI (32 + a') = nI (96 + a') := by
                  rw [show (64 : Int32) = nI 64 from rfl, nI_add, show 64 + (32 + a') = 96 + a' by omega]
                have kpre6 : ∀ Q : Int32 → c_S → Prop, km_X5_firstWaiting L (cs_A K1 1411 (16 * p + j) 11 (r_A R 2502 (32 * c))) p' (nI (96 + a')) (r_A R 2456 c) (fun r4_ S3_ => ((r4_ = none → (Q 0 S3_)) ∧ (¬ r4_ = none → (∃ a6_ : Nat, r4_ = some a6_ ∧ (c_mk L 7 a6_ ∧ (∃ a9_ : Nat, (some (1000 + c)) = some a9_ ∧ (c_mk L 8 a9_ ∧ (km_X8_add L S3_ a9_ (c_I S3_ 1419 a6_) (fun x14_ S13_ => ((x14_ = 0 → (kb_X5_refill_35 L S13_ (fun S => Q 0 S))) ∧ (¬ x14_ = 0 → (km_X5_answerWaiter L S13_ p' r4_ (0 : Int32) (fun S18_ => (kb_X5_refill_35 L S18_ (fun S => Q 0 S))))))))))))))) → km_X0_receive L K 0 (nI a) t Q := fun Q hQ => kpre5 Q ⟨fun z => absurd (s3.symm.trans z) (by simp), fun _ => ⟨p', s3, m5', by
                  rw [s4]
                  unfold km_X5_refill
                  rw [e96]
                  exact hQ⟩⟩
                cases e : k_fw (cs_A K1 1411 (16 * p + j) 11 (r_A R 2502 (32 * c))) p' (z_nq Z p') (nI (96 + a')) (r_A R 2456 c) with
                | none =>
                  refine AN_i 0 _ _ (WR_w w1 (by omega)) ((g3 3 0).trans p3) (fun Q hQ => kpre6 Q (f1 _ ?_)) (fun Q hQ => rpre4 Q (re_recv (by omega) (by omega) (fun R' eR' => ?_) hn1))
                  · rw [e]
                    exact ⟨fun _ => hQ, fun z => absurd rfl z⟩
                  · subst eR'
                    rw [e56]
                    refine f2 _ ⟨_, rfl, fun z => ?_, fun _ => hQ⟩
                    rw [e] at z
                    exact absurd rfl z
                | some i =>
                  obtain ⟨i1, i2, i3, i4⟩ := f3 i e
                  have mi := (CQ_q cq1 s1 i1).1
                  have ew : c_I (cs_A K1 1411 (16 * p + j) 11 (r_A R 2502 (32 * c))) 1419 (16 * p' + i) = _ := (DP_w w1 s1 i1).2.2.2.2.1 i2 (Or.inr i3)
                  obtain ⟨K2, g5, g6, g7⟩ := WR_cadd (w := p_r (r_sf 2502 (rs_A (rs_A R 2477 (32 * (16 * p + j) + 11) (r_A R 2502 (32 * c))) 2501 c (r_A R 2501 c - 1)) (32 * c) n) (16 * p' + i) 15) w1 hc e54 en (by omega)
                  have w3 := WR_get (v := 0) g6 (by omega) s1 i1 (by rw [r_An (Or.inl (by decide)), r_An (Or.inl (by decide))]; exact i2) (by rw [r_An (Or.inl (by decide)), r_An (Or.inl (by decide))]; exact i4)
                  refine AN_i 0 _ _ (WR_w w3 (by omega)) ((g7 3 0).trans ((g3 3 0).trans p3)) (fun Q hQ => kpre6 Q (f1 _ ?_)) (fun Q hQ => rpre4 Q (re_recv (by omega) (by omega) (fun R' eR' => ?_) hn1))
                  · rw [e]
                    refine ⟨fun z => (by cases z), fun _ => ⟨_, rfl, mi, _, rfl, m8, ?_⟩⟩
                    rw [ew]
                    exact g5 _ ⟨fun z => absurd z (by decide), fun _ => ke_answerWaiter mi hQ⟩
                  · subst eR'
                    rw [e56]
                    refine f2 _ ⟨_, rfl, fun _ => ?_, fun z => ?_⟩
                    · rw [e, show (o_i (Option.map (fun i => 16 * p' + i) (some i))) = nI (16 * p' + i) from rfl, nI_clamp (n := 16 * p' + i) (by omega)]
                      refine ⟨vc _ rfl, ri_v (n := 256) rfl (by omega) (by decide), ?_, vc _ rfl, vc _ rfl, fun S eS => re_gets (by omega) ⟨rfl, ?_⟩⟩
                      · rw [en, q_32]; exact ri_v (n := 768) rfl (by omega) (by decide)
                      · rw [en, q_32, nI_clamp (by omega), r_An (f := 2502) (Or.inl (by decide))] at eS
                        subst eS
                        exact hQ
                    · rw [e] at z
                      exact absurd z (nI_m1 (by show 16 * p' + i < 2 ^ 31; omega))
