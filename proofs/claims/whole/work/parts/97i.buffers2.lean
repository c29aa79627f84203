theorem WR_badd' {b : Nat} {L : c_L} {Z : z_C} {K : c_S} {R : r_S} {p k n : Nat} {w : Int32} {Q : Int32 → c_S → Prop} (h : WR b L Z K R) (m8 : c_mk L 8 (48 * p + (16 + k))) (hp : p < z_np Z) (hk : k < z_nt Z p 2) (hr : r_A R 2494 (8 * p + k) = nI n) (nd : n < z_dc Z (48 * p + (16 + k))) : ∃ K' : c_S, (∀ Q : Int32 → c_S → Prop, Q 1 K' → km_X8_add L K (48 * p + (16 + k)) w Q) ∧ WR b L Z K' (rs_A (rs_A R 2495 (16 * (8 * p + k) + n) w) 2494 (8 * p + k) (r_A R 2494 (8 * p + k) + 1)) ∧ (∀ f i : Nat, c_P K' f i = c_P K f i) := by
  obtain ⟨c1, c2, c3, c4, c5, c6, c7⟩ := CT_b (WR_ct h) hp hk
  obtain ⟨a, m, q1, q2, q3, q4, q5, q6⟩ := (TH_v h.1.2.1 hp).2.2.1 k hk
  have n31 : n < 2 ^ 31 := by omega
  obtain rfl : m = n := (nI_eq (by omega) n31).mp (q5.symm.trans hr)
  exact ⟨_, fun Q hQ => ke_add1 c2 q3 q4 q1 nd (by omega) c6 c7 hQ, WR_badd h hp hk q1 nd q3 hr q6, fun _ _ => rfl⟩
theorem AN_13 {b : Nat} {L : c_L} {Z : z_C} {K : c_S} {R : r_S} {p j : Nat} {a bb c : Int32} (x : CX b L Z K R p j) (hb : b < 1999999900) : AN (b + 16) L Z (16 * p + j) (km_X0_ofWords L K 0 13 a bb c) (rm_X12_ofThings R 13 (nI p) (nI (16 * p + j)) a bb c) := by
  have x' := x
  obtain ⟨w, ⟨hp, hj⟩, ⟨p0, p1, p2, p3⟩, hnow, h1, hm, gk⟩ := x
  have cq := WR_cq w
  have ct := WR_ct w
  have np16 := CQ_np cq
  have n16 := CQ_nq cq p hp
  have m5 := (CQ_p cq hp).1
  have nb := NT_of ct p hp
  have q256 : 16 * p + j < 256 := by omega
  rcases pk_ix a (n := z_nt Z p 2) (by omega) with ha | ha | ⟨k, hk, rfl⟩
  · exact AN_i 1 K R (WR_w w (by omega)) p3 (fun Q hQ => ⟨fun z => absurd z (by decide), fun _ => ⟨p, p1, m5, ke_thingAt0 (s := 2) ct hp (by decide) (Or.inl ha) ⟨fun z => absurd rfl z, fun _ => hQ⟩⟩⟩) (fun Q hQ => re_th13n ct np16 hp (Or.inl ha) hQ)
  · exact AN_i 1 K R (WR_w w (by omega)) p3 (fun Q hQ => ⟨fun z => absurd z (by decide), fun _ => ⟨p, p1, m5, ke_thingAt0 (s := 2) ct hp (by decide) (Or.inr ha) ⟨fun z => absurd rfl z, fun _ => hQ⟩⟩⟩) (fun Q hQ => re_th13n ct np16 hp (Or.inr ha) hQ)
  · have hk8 : k < 8 := by omega
    have mt : c_mk L 10 (48 * p + (16 + k)) := (CT_n ct hp (s := 2) (by decide)).2.2.2 k hk
    have eq := c_qub (p := p) hk8
    have m8 : c_mk L 8 (48 * p + (16 + k)) := gk.2.1 _ _ mt eq
    have c128 := nI_clamp (n := 8 * p + k) (by omega)
    have v128 : ∀ f : Nat, r_N f = 128 → vp_in (nI (8 * p + k)) (r_N f) := fun f hf => ri_v hf (by omega) (by decide)
    obtain ⟨c1, c2, c3, c4, c5, c6, c7⟩ := CT_b ct hp hk
    obtain ⟨qa, n, q1, q2, q3, q4, q5, q6⟩ := (TH_v w.1.2.1 hp).2.2.1 k hk
    have es : (2 : Int32) * (8 : Int32) + nI k = nI (b_co 3 + k) := nI_add 16 k
    have kpre : ∀ Q : Int32 → c_S → Prop, km_X0_putIntoBuffer L K 0 (some (48 * p + (16 + k))) (nI (b_co 3 + k)) bb c (fun x S => Q x S) → km_X0_ofWords L K 0 13 (nI k) bb c Q := fun Q h => ⟨fun z => absurd z (by decide), fun _ => ⟨p, p1, m5, ke_thingAt (s := 2) ct hp (by decide) hk ⟨fun _ => ⟨fun z => absurd z (by decide), fun _ => by rw [es]; exact h, fun z => absurd z (by decide), fun z => absurd z (by decide), fun z => absurd z (by decide)⟩, fun z => (by cases z)⟩⟩⟩
    by_cases ht : c < -1 ∨ 100000 < c
    · exact AN_i 1 K R (WR_w w (by omega)) p3 (fun Q hQ => kpre Q (ke_isNoTime (by rw [if_pos ht]; exact ⟨fun z => absurd z (by decide), fun _ => hQ⟩))) (fun Q hQ => re_th13x ct np16 hp hk ht hQ)
    · obtain ⟨f1, f2, f3⟩ := fw_thing (s := 3) (k := k) (fifo := r_A R 2447 (8 * p + k)) w hp (by decide) hk8
      have kpre2 : ∀ Q : Int32 → c_S → Prop, km_X5_giveTaker L K p (nI (b_co 3 + k)) (r_A R 2447 (8 * p + k)) bb (fun x19_ S18_ => ((¬ x19_ = 0 → Q 0 S18_) ∧ (x19_ = 0 → km_X8_add L S18_ (48 * p + (16 + k)) bb (fun x28_ S27_ => ((x28_ = 0 → km_X0_waitWith L S27_ 0 (nI (b_co 3 + k)) bb c (fun x4_ S3_ => Q x4_ S3_)) ∧ (¬ x28_ = 0 → Q 0 S27_)))))) → km_X0_ofWords L K 0 13 (nI k) bb c Q := fun Q h => kpre Q (ke_isNoTime (by
        rw [if_neg ht]
        refine ⟨fun _ => ⟨_, rfl, mt, p, p1, m5, ?_⟩, fun z => absurd rfl z⟩
        rw [c1]
        obtain ⟨v, s, hv, hr⟩ := dm_X5_giveTaker K p (nI (b_co 3 + k)) (r_A R 2447 (8 * p + k)) bb _ h
        refine hr _ ⟨hv.1, fun z => ⟨fun z2 => ?_, fun _ => ⟨_, eq, m8, hv.2 z⟩⟩⟩
        rw [eq] at z2
        cases z2))
      have rpre : ∀ Q : Option Value → r_S → Prop, rm_X12_puts R (nI (16 * p + j)) (nI (8 * p + k)) bb c (fun r75_ S76_ => ∃ x77_ : Int32, r75_ = some (.int x77_) ∧ (Q (some (.int x77_)) S76_)) → rm_X12_ofThings R 13 (nI p) (nI (16 * p + j)) (nI k) bb c Q := fun Q h => re_th13 ct np16 hp hk ht ⟨fun z => absurd z (by decide), fun z => absurd z (by decide), fun z => absurd z (by decide), fun z => absurd z (by decide), fun z => absurd z (by decide), fun z => absurd z (by decide), fun _ => h, fun z => absurd z (by decide), fun z => absurd z (by decide), fun z => absurd z (by decide)⟩
      cases e : k_fw K p (z_nq Z p) (nI (b_co 3 + k)) (r_A R 2447 (8 * p + k)) with
      | some i =>
        obtain ⟨i1, i2, i3, i4⟩ := f3 i e
        have mi := (CQ_q cq hp i1).1
        refine AN_i 0 _ _ (WR_w (WR_getw (v := bb) w (by omega) hp i1 i2 i4) (by omega)) p3 (fun Q hQ => kpre2 Q (f1 _ ?_)) (fun Q hQ => rpre Q ⟨v128 _ rfl, ?_⟩)
        · rw [e]
          refine ⟨fun _ => ke_answerWaiter mi ⟨_, rfl, mi, v32 (n := 11) (by decide), ⟨fun _ => hQ, fun z => absurd z (by decide)⟩⟩, fun z => (by cases z)⟩
        · rw [c128]
          refine f2 _ ⟨_, rfl, fun z => ?_, fun _ => ?_⟩
          · rw [e] at z
            exact absurd z (nI_m1 (by show 16 * p + i < 2 ^ 31; omega))
          · rw [e]
            show vp_in ((32 : Int32) * nI (16 * p + i) + 11) (r_N 2477) ∧ rm_X12_gets (rs_A R 2477 ((32 : Int32) * nI (16 * p + i) + 11).toNatClampNeg bb) (nI (16 * p + i)) _
            rw [show (11 : Int32) = nI 11 from rfl, q_32, nI_clamp (by omega)]
            exact ⟨ri_v (n := 8192) rfl (by omega) (by decide), re_gets (by omega) ⟨rfl, _, rfl, hQ⟩⟩
      | none =>
        have kpre3 : ∀ Q : Int32 → c_S → Prop, km_X8_add L K (48 * p + (16 + k)) bb (fun x28_ S27_ => ((x28_ = 0 → km_X0_waitWith L S27_ 0 (nI (b_co 3 + k)) bb c (fun x4_ S3_ => Q x4_ S3_)) ∧ (¬ x28_ = 0 → Q 0 S27_))) → km_X0_ofWords L K 0 13 (nI k) bb c Q := fun Q h => kpre2 Q (f1 _ (by
          rw [e]
          exact ⟨fun z => absurd rfl z, fun _ => ⟨fun z => absurd rfl z, fun _ => h⟩⟩))
        have rpre3 : ∀ Q : Option Value → r_S → Prop, ((¬ r_A R 2494 (8 * p + k) = r_A R 2446 (8 * p + k) → (vp_in (((16 : Int32) * nI (8 * p + k)) + (r_A R 2494 (8 * p + k))) (r_N 2495) ∧ Q (some (.int 0)) (rs_A (rs_A R 2495 (((16 : Int32) * nI (8 * p + k)) + (r_A R 2494 (8 * p + k))).toNatClampNeg bb) 2494 (8 * p + k) (r_A R 2494 (8 * p + k) + 1)))) ∧ (r_A R 2494 (8 * p + k) = r_A R 2446 (8 * p + k) → rm_X12_waits R (nI (16 * p + j)) 4 (nI (8 * p + k)) c (fun r31_ S32_ => ∃ x33_ : Int32, r31_ = some (.int x33_) ∧ (vp_in (nI (16 * p + j)) (r_N 2482) ∧ (Q (some (.int x33_)) (rs_A S32_ 2482 (nI (16 * p + j)).toNatClampNeg bb)))))) → rm_X12_ofThings R 13 (nI p) (nI (16 * p + j)) (nI k) bb c Q := fun Q h => rpre Q ⟨v128 _ rfl, by
          rw [c128]
          refine f2 _ ⟨_, rfl, fun _ => ⟨v128 _ rfl, v128 _ rfl, fun z => ⟨v128 _ rfl, (h.1 z).1, v128 _ rfl, v128 _ rfl, fun S eS => ?_⟩, fun z => ?_⟩, fun z => ?_⟩
          · subst eS
            exact ⟨_, rfl, (h.1 z).2⟩
          · obtain ⟨v, s, hv, hr⟩ := drm_X12_waits R (nI (16 * p + j)) 4 (nI (8 * p + k)) c _ (h.2 z)
            obtain ⟨x33, e1, e2, e3⟩ := hv
            exact hr _ ⟨x33, e1, e2, _, rfl, e3⟩
          · rw [e] at z
            exact absurd rfl z⟩
        by_cases cf : n < z_dc Z (48 * p + (16 + k))
        · have er : ((16 : Int32) * nI (8 * p + k)) + (r_A R 2494 (8 * p + k)) = nI (16 * (8 * p + k) + n) := by rw [q5, q_16]
          obtain ⟨K', g1, g2, g3⟩ := WR_badd' (w := bb) (Q := fun _ _ => True) w m8 hp hk q5 cf
          refine AN_i 0 K' _ (WR_w g2 (by omega)) ((g3 3 0).trans p3) (fun Q hQ => kpre3 Q (g1 _ ⟨fun z => absurd z (by decide), fun _ => hQ⟩)) (fun Q hQ => rpre3 Q ⟨fun _ => ?_, fun z => ?_⟩)
          · rw [er, nI_clamp (by omega)]
            exact ⟨ri_v (n := 2048) rfl (by omega) (by decide), hQ⟩
          · rw [q5, c3, nI_eq (by omega) (by omega)] at z
            omega
        · have en : n = z_dc Z (48 * p + (16 + k)) := by omega
          refine AN_w (AN_m (AN_waitW (k := k) (wd := bb) (t := c) x' (by omega) hk8) (fun Q h => kpre3 Q (ke_add0 c2 q4 (by omega) (by omega) ⟨fun _ => h, fun z => absurd rfl z⟩)) (fun Q h => rpre3 Q ⟨fun z => ?_, fun _ => ?_⟩)) (by omega)
          · exact absurd (by rw [q5, c3, en]) z
          · obtain ⟨v, s, hv, hr⟩ := drm_X12_waits R (nI (16 * p + j)) 4 (nI (8 * p + k)) c _ h
            obtain ⟨x33, e1, e2, x2, e3, e4⟩ := hv
            injection e3 with e3
            injection e3 with e3
            exact hr _ ⟨x33, e1, e2, by rw [e3]; exact e4⟩
/-- the shift of the words, and what follows it -/
theorem re_takes {R : r_S} {k n : Nat} {Q : Option Value → r_S → Prop} (hk : k < 128) (n15 : n ≤ 15) (h : ∀ R' : r_S, R' = r_sf 2495 R (16 * k) n → rm_X12_waiter R' (4 : Int32) (nI k) (r_A R' 2447 k) (fun r11_ S12_ => ∃ x13_ : Int32, r11_ = some (.int x13_) ∧ ((¬ x13_ = (-1 : Int32) → (vp_in (nI k) (r_N 2494) ∧ (vp_in x13_ (r_N 2482) ∧ (vp_in (((16 : Int32) * nI k) + (r_A S12_ 2494 k)) (r_N 2495) ∧ (vp_in (nI k) (r_N 2494) ∧ (vp_in (nI k) (r_N 2494) ∧ (∀ S33_ : r_S, S33_ = (rs_A (rs_A S12_ 2495 (((16 : Int32) * nI k) + (r_A S12_ 2494 k)).toNatClampNeg (r_A S12_ 2482 x13_.toNatClampNeg)) 2494 k ((r_A (rs_A S12_ 2495 (((16 : Int32) * nI k) + (r_A S12_ 2494 k)).toNatClampNeg (r_A S12_ 2482 x13_.toNatClampNeg)) 2494 k) + (1 : Int32))) → (rm_X12_gets S33_ x13_ (fun r34_ S35_ => r34_ = none ∧ (Q (some (.int (0 : Int32))) S35_)))))))))) ∧ (x13_ = (-1 : Int32) → (Q (some (.int (0 : Int32))) S12_)))) ) (hn : r_A R 2494 k = nI n) : ∃ m : Nat, rl_X12_takes_52 m R (nI k) 0 Q := by
  have ck := nI_clamp (n := k) (by omega)
  have vk : ∀ f : Nat, r_N f = 128 → vp_in (nI k) (r_N f) := fun f hf => ri_v hf hk (by decide)
  have hn2 : ∀ m : Nat, r_A (r_sf 2495 R (16 * k) m) 2494 k = nI n := fun m => (sf_n (Or.inl (by decide))).trans hn
  have lp : ∀ d x : Nat, x + d = n → rl_X12_takes_52 (d + 1) (r_sf 2495 R (16 * k) x) (nI k) (nI x) Q := by
    intro d
    induction d with
    | zero =>
      intro x hx
      obtain rfl : x = n := by omega
      show rb_X12_takes_52 _ _ _ _ Q
      unfold rb_X12_takes_52
      rw [ck, hn2]
      exact ⟨vk _ rfl, fun _ => ⟨vk _ rfl, h _ rfl⟩, fun z => absurd (nI_le (Nat.le_refl _) (by omega)) z⟩
    | succ d ih =>
      intro x hx
      show rb_X12_takes_52 _ _ _ _ Q
      unfold rb_X12_takes_52
      rw [ck, hn2, q_16, show nI (16 * k + x) + (1 : Int32) = nI (16 * k + x + 1) from nI_1 _, nI_clamp (by omega), nI_clamp (by omega), sf_s, show nI x + (1 : Int32) = nI (x + 1) from nI_1 x]
      exact ⟨vk _ rfl, fun z => absurd z (nI_ge (by omega) (by omega)), fun _ => ⟨ri_v (n := 2048) rfl (by omega) (by decide), ri_v (n := 2048) rfl (by omega) (by decide), ih (x + 1) (by omega)⟩⟩
  have z := lp n 0 (by omega)
  rw [sf_0] at z
  exact ⟨n + 1, z⟩
theorem AN_14 {b : Nat} {L : c_L} {Z : z_C} {K : c_S} {R : r_S} {p j : Nat} {a bb c : Int32} (x : CX b L Z K R p j) (hb : b < 1999999900) : AN (b + 16) L Z (16 * p + j) (km_X0_ofWords L K 0 14 a bb c) (rm_X12_ofThings R 14 (nI p) (nI (16 * p + j)) a bb c) := by
  have x' := x
  obtain ⟨w, ⟨hp, hj⟩, ⟨p0, p1, p2, p3⟩, hnow, h1, hm, gk⟩ := x
  have cq := WR_cq w
  have ct := WR_ct w
  have np16 := CQ_np cq
  have n16 := CQ_nq cq p hp
  have m5 := (CQ_p cq hp).1
  have mq := (CQ_q cq hp hj).1
  have nb := NT_of ct p hp
  have q256 : 16 * p + j < 256 := by omega
  rcases pk_ix a (n := z_nt Z p 2) (by omega) with ha | ha | ⟨k, hk, rfl⟩
  · exact AN_i 1 K R (WR_w w (by omega)) p3 (fun Q hQ => ⟨fun z => absurd z (by decide), fun _ => ⟨p, p1, m5, ke_thingAt0 (s := 2) ct hp (by decide) (Or.inl ha) ⟨fun z => absurd rfl z, fun _ => hQ⟩⟩⟩) (fun Q hQ => re_th14n ct np16 hp (Or.inl ha) hQ)
  · exact AN_i 1 K R (WR_w w (by omega)) p3 (fun Q hQ => ⟨fun z => absurd z (by decide), fun _ => ⟨p, p1, m5, ke_thingAt0 (s := 2) ct hp (by decide) (Or.inr ha) ⟨fun z => absurd rfl z, fun _ => hQ⟩⟩⟩) (fun Q hQ => re_th14n ct np16 hp (Or.inr ha) hQ)
  · have hk8 : k < 8 := by omega
    have mt : c_mk L 10 (48 * p + (16 + k)) := (CT_n ct hp (s := 2) (by decide)).2.2.2 k hk
    have eq := c_qub (p := p) hk8
    have m8 : c_mk L 8 (48 * p + (16 + k)) := gk.2.1 _ _ mt eq
    have c128 := nI_clamp (n := 8 * p + k) (by omega)
    have v128 : ∀ f : Nat, r_N f = 128 → vp_in (nI (8 * p + k)) (r_N f) := fun f hf => ri_v hf (by omega) (by decide)
    obtain ⟨c1, c2, c3, c4, c5, c6, c7⟩ := CT_b ct hp hk
    obtain ⟨qa, n, q1, q2, q3, q4, q5, q6⟩ := (TH_v w.1.2.1 hp).2.2.1 k hk
    have es : (2 : Int32) * (8 : Int32) + nI k = nI (b_co 3 + k) := nI_add 16 k
    have kpre : ∀ Q : Int32 → c_S → Prop, km_X0_isNoTime L K 0 bb (fun x20_ S19_ => ((x20_ = 0 → km_X0_takeFrom L S19_ 0 (some (48 * p + (16 + k))) (nI (b_co 3 + k)) bb (c_P S19_ 1 0) (nI (b_co 3 + k)) (c_I S19_ 2004 (48 * p + (16 + k))) (fun x28_ S27_ => Q x28_ S27_)) ∧ (¬ x20_ = 0 → Q 1 S19_))) → km_X0_ofWords L K 0 14 (nI k) bb c Q := fun Q h => ⟨fun z => absurd z (by decide), fun _ => ⟨p, p1, m5, ke_thingAt (s := 2) ct hp (by decide) hk ⟨fun _ => ⟨fun z => absurd z (by decide), fun z => absurd z (by decide), fun _ => by
        rw [es]
        obtain ⟨v, s, hv, hr⟩ := dm_X0_isNoTime K 0 bb _ h
        refine hr _ ⟨fun z => ⟨_, rfl, mt, ?_⟩, hv.2⟩
        show km_X0_takeFrom L s 0 (c_qu (48 * p + (16 + k))) _ _ _ _ _ _
        rw [eq]
        exact hv.1 z, fun z => absurd z (by decide), fun z => absurd z (by decide)⟩, fun z => (by cases z)⟩⟩⟩
    by_cases ht : bb < -1 ∨ 100000 < bb
    · exact AN_i 1 K R (WR_w w (by omega)) p3 (fun Q hQ => kpre Q (ke_isNoTime (by rw [if_pos ht]; exact ⟨fun z => absurd z (by decide), fun _ => hQ⟩))) (fun Q hQ => re_th14x ct np16 hp hk ht hQ)
    · have kpre2 : ∀ Q : Int32 → c_S → Prop, km_X0_takeFrom L K 0 (some (48 * p + (16 + k))) (nI (b_co 3 + k)) bb (some p) (nI (b_co 3 + k)) (r_A R 2447 (8 * p + k)) (fun x28_ S27_ => Q x28_ S27_) → km_X0_ofWords L K 0 14 (nI k) bb c Q := fun Q h => kpre Q (ke_isNoTime (by
        rw [if_neg ht]
        refine ⟨fun _ => ?_, fun z => absurd rfl z⟩
        rw [p1, c1]
        exact h))
      have rpre : ∀ Q : Option Value → r_S → Prop, rm_X12_takes R (nI (16 * p + j)) (nI (8 * p + k)) bb (fun r75_ S76_ => ∃ x77_ : Int32, r75_ = some (.int x77_) ∧ (Q (some (.int x77_)) S76_)) → rm_X12_ofThings R 14 (nI p) (nI (16 * p + j)) (nI k) bb c Q := fun Q h => re_th14 ct np16 hp hk ht ⟨fun z => absurd z (by decide), fun z => absurd z (by decide), fun z => absurd z (by decide), fun z => absurd z (by decide), fun z => absurd z (by decide), fun z => absurd z (by decide), fun z => absurd z (by decide), fun _ => h, fun z => absurd z (by decide), fun z => absurd z (by decide)⟩
      have q4' : c_I K 1603 (48 * p + (16 + k)) = nI n := q4
      have q5' : r_A R 2494 (8 * p + k) = nI n := q5
      cases n with
      | zero =>
        refine AN_w (AN_m (AN_waitT (s := 3) (k := k) (t := bb) x' (by omega) (by decide) (by decide) hk8) (fun Q h => kpre2 Q ⟨fun z => (by cases z), fun _ => ⟨_, rfl, m8, fun z => absurd q4' z, fun _ => h⟩⟩) (fun Q h => rpre Q ⟨v128 _ rfl, ?_⟩)) (by omega)
        rw [c128]
        refine ⟨fun z => absurd q5' z, fun _ => ?_⟩
        obtain ⟨v, s, hv, hr⟩ := drm_X12_waits R (nI (16 * p + j)) (nI 3) (nI (8 * p + k)) bb _ h
        obtain ⟨x33, e1, e2⟩ := hv
        exact hr _ ⟨x33, e1, _, rfl, e2⟩
      | succ n =>
        have nz : ¬ nI (n + 1) = 0 := nI_ne0 (by omega) (by omega)
        have hv0 : c_A K 1600 (48 * p + (16 + k)) qa = r_A R 2495 (16 * (8 * p + k)) := by
          have := q6 0 (by omega)
          rw [Nat.add_zero, Nat.mod_eq_of_lt q1] at this
          exact this
        have w1 := WR_btake (WR_x (v := r_A R 2495 (16 * (8 * p + k))) w hp hj (i := 11) (by decide)) hp hk q1 q2 (show r_A R 2494 (8 * p + k) = nI (n + 1) from q5') (fun i hi => by
          rw [c_An (Or.inl (by decide)), r_An (Or.inl (by decide))]
          exact q6 i hi)
        have cq1 := WR_cq w1
        obtain ⟨f1, f2, f3⟩ := fw_thing (s := 4) (k := k) (fifo := r_A R 2447 (8 * p + k)) w1 hp (by decide) hk8
        have e4 : (64 : Int32) + nI (b_co 3 + k) = nI (b_co 4 + k) := by
          rw [show (64 : Int32) = nI 64 from rfl, nI_add, show 64 + (b_co 3 + k) = b_co 4 + k by show 64 + (16 + k) = 80 + k; omega]
        have kpre3 : ∀ Q : Int32 → c_S → Prop, km_X5_refill L (cs_I (cs_I (cs_A K 1411 (16 * p + j) 11 (r_A R 2495 (16 * (8 * p + k)))) 1602 (48 * p + (16 + k)) (nI ((qa + 1) % z_dc Z (48 * p + (16 + k))))) 1603 (48 * p + (16 + k)) (nI n)) p (some (48 * p + (16 + k))) (nI (b_co 3 + k)) (r_A R 2447 (8 * p + k)) (fun S => Q 0 S) → km_X0_ofWords L K 0 14 (nI k) bb c Q := fun Q h => kpre2 Q ⟨fun z => (by cases z), fun _ => ⟨_, rfl, m8, fun _ => ke_take c2 q3 q4' q1 q2 (by omega) c6 c7 ⟨_, p3, mq, v32 (n := 11) (by decide), fun z => (by cases z), fun _ => ⟨_, rfl, m5, by
          rw [hv0]
          exact h⟩⟩, fun z => absurd (q4'.symm.trans z) nz⟩⟩
        have rb : (16 : Int32) * nI (8 * p + k) = nI (16 * (8 * p + k)) := by rw [show (16 : Int32) = nI 16 from rfl, pk_mul]
        have rpre3 : ∀ Q : Option Value → r_S → Prop, (∃ m : Nat, rl_X12_takes_52 m (rs_A (rs_A R 2477 (32 * (16 * p + j) + 11) (r_A R 2495 (16 * (8 * p + k)))) 2494 (8 * p + k) (r_A (rs_A R 2477 (32 * (16 * p + j) + 11) (r_A R 2495 (16 * (8 * p + k)))) 2494 (8 * p + k) - 1)) (nI (8 * p + k)) 0 (fun r75_ S76_ => ∃ x77_ : Int32, r75_ = some (.int x77_) ∧ (Q (some (.int x77_)) S76_))) → rm_X12_ofThings R 14 (nI p) (nI (16 * p + j)) (nI k) bb c Q := fun Q h => rpre Q ⟨v128 _ rfl, by
          rw [c128, rb, nI_clamp (by omega), show (11 : Int32) = nI 11 from rfl, q_32, nI_clamp (by omega)]
          exact ⟨fun _ => ⟨ri_v (n := 2048) rfl (by omega) (by decide), ri_v (n := 8192) rfl (by omega) (by decide), v128 _ rfl, v128 _ rfl, fun S e => by subst e; exact h⟩, fun z => absurd (q5'.symm.trans z) nz⟩⟩
        have hn1 : r_A (rs_A (rs_A R 2477 (32 * (16 * p + j) + 11) (r_A R 2495 (16 * (8 * p + k)))) 2494 (8 * p + k) (r_A (rs_A R 2477 (32 * (16 * p + j) + 11) (r_A R 2495 (16 * (8 * p + k)))) 2494 (8 * p + k) - 1)) 2494 (8 * p + k) = nI n := by
          rw [r_As, show r_A (rs_A R 2477 (32 * (16 * p + j) + 11) (r_A R 2495 (16 * (8 * p + k)))) 2494 (8 * p + k) = nI (n + 1) from q5', nI_pred]
        cases e : k_fw (cs_I (cs_I (cs_A K 1411 (16 * p + j) 11 (r_A R 2495 (16 * (8 * p + k)))) 1602 (48 * p + (16 + k)) (nI ((qa + 1) % z_dc Z (48 * p + (16 + k))))) 1603 (48 * p + (16 + k)) (nI n)) p (z_nq Z p) (nI (b_co 4 + k)) (r_A R 2447 (8 * p + k)) with
        | none =>
          refine AN_i 0 _ _ (WR_w w1 (by omega)) p3 (fun Q hQ => kpre3 Q ?_) (fun Q hQ => rpre3 Q (re_takes (by omega) (by omega) (fun R' eR => ?_) hn1))
          · show km_X5_firstWaiting L _ p ((64 : Int32) + nI (b_co 3 + k)) _ _
            rw [e4]
            refine f1 _ ?_
            rw [e]
            exact ⟨fun _ => hQ, fun z => absurd rfl z⟩
          · subst eR
            refine f2 _ ⟨_, rfl, fun z => ?_, fun _ => ⟨_, rfl, hQ⟩⟩
            rw [e] at z
            exact absurd rfl z
        | some i =>
          obtain ⟨i1, i2, i3, i4⟩ := f3 i e
          have mi := (CQ_q cq1 hp i1).1
          have ew : c_I (cs_I (cs_I (cs_A K 1411 (16 * p + j) 11 (r_A R 2495 (16 * (8 * p + k)))) 1602 (48 * p + (16 + k)) (nI ((qa + 1) % z_dc Z (48 * p + (16 + k))))) 1603 (48 * p + (16 + k)) (nI n)) 1419 (16 * p + i) = _ := (DP_w w1 hp i1).2.2.2.2.1 i2 (Or.inl i3)
          obtain ⟨K2, g1, g2, g3⟩ := WR_badd' (n := n) (w := p_r (r_sf 2495 (rs_A (rs_A R 2477 (32 * (16 * p + j) + 11) (r_A R 2495 (16 * (8 * p + k)))) 2494 (8 * p + k) (r_A (rs_A R 2477 (32 * (16 * p + j) + 11) (r_A R 2495 (16 * (8 * p + k)))) 2494 (8 * p + k) - 1)) (16 * (8 * p + k)) n) (16 * p + i) 15) (Q := fun _ _ => True) w1 m8 hp hk ((sf_n (Or.inl (by decide))).trans hn1) (by omega)
          have w3 := WR_get (v := 0) g2 (by omega) hp i1 (by rw [r_An (Or.inl (by decide)), r_An (Or.inl (by decide))]; exact i2) (by rw [r_An (Or.inl (by decide)), r_An (Or.inl (by decide))]; exact i4)
          refine AN_i 0 _ _ (WR_w w3 (by omega)) ((g3 3 0).trans p3) (fun Q hQ => kpre3 Q ?_) (fun Q hQ => rpre3 Q (re_takes (by omega) (by omega) (fun R' eR => ?_) hn1))
          · show km_X5_firstWaiting L _ p ((64 : Int32) + nI (b_co 3 + k)) _ _
            rw [e4]
            refine f1 _ ?_
            rw [e]
            refine ⟨fun z => (by cases z), fun _ => ⟨_, rfl, mi, _, rfl, m8, ?_⟩⟩
            show km_X8_add L _ (48 * p + (16 + k)) (c_I (cs_I (cs_I (cs_A K 1411 (16 * p + j) 11 (r_A R 2495 (16 * (8 * p + k)))) 1602 (48 * p + (16 + k)) (nI ((qa + 1) % z_dc Z (48 * p + (16 + k))))) 1603 (48 * p + (16 + k)) (nI n)) 1419 (16 * p + i)) _
            rw [ew]
            exact g1 _ ⟨fun z => absurd z (by decide), fun _ => ke_answerWaiter mi hQ⟩
          · subst eR
            refine f2 _ ⟨_, rfl, fun _ => ?_, fun z => ?_⟩
            · rw [e]
              have en : r_A (r_sf 2495 (rs_A (rs_A R 2477 (32 * (16 * p + j) + 11) (r_A R 2495 (16 * (8 * p + k)))) 2494 (8 * p + k) (r_A (rs_A R 2477 (32 * (16 * p + j) + 11) (r_A R 2495 (16 * (8 * p + k)))) 2494 (8 * p + k) - 1)) (16 * (8 * p + k)) n) 2494 (8 * p + k) = nI n := (sf_n (Or.inl (by decide))).trans hn1
              show vp_in (nI (8 * p + k)) (r_N 2494) ∧ vp_in (nI (16 * p + i)) (r_N 2482) ∧ _
              rw [show (o_i (Option.map (fun i => 16 * p + i) (some i))) = nI (16 * p + i) from rfl, nI_clamp (n := 16 * p + i) (by omega)]
              refine ⟨v128 _ rfl, ri_v (n := 256) rfl (by omega) (by decide), ?_, v128 _ rfl, v128 _ rfl, fun S eS => re_gets (by omega) ⟨rfl, _, rfl, ?_⟩⟩
              · rw [en, q_16]; exact ri_v (n := 2048) rfl (by omega) (by decide)
              · rw [en, q_16, nI_clamp (by omega)] at eS
                subst eS
                exact hQ
            · rw [e] at z
              exact absurd z (nI_m1 (by show 16 * p + i < 2 ^ 31; omega))
