/-! Calls 26 .. 31: of others. -/
theorem bt_ {c A B : Prop} (h : c) (a : A) : (c → A) ∧ (¬ c → B) := ⟨fun _ => a, fun z => absurd h z⟩
theorem bf_ {c A B : Prop} (h : ¬ c) (b : B) : (c → A) ∧ (¬ c → B) := ⟨fun z => absurd z h, fun _ => b⟩
theorem nt_ {c A B : Prop} (h : c) (b : B) : (¬ c → A) ∧ (c → B) := ⟨fun z => absurd h z, fun _ => b⟩
theorem nf_ {c A B : Prop} (h : ¬ c) (a : A) : (¬ c → A) ∧ (c → B) := ⟨fun _ => a, fun z => absurd z h⟩
theorem AN_c {b : Nat} {L : c_L} {Z : z_C} {q : Nat} {KM KM' : (Int32 → c_S → Prop) → Prop} {RM RM' : (Option Value → r_S → Prop) → Prop} (h : AN b L Z q KM RM) (hk : ∀ Q : Int32 → c_S → Prop, KM Q → KM' Q) (hr : ∀ Q : Option Value → r_S → Prop, RM Q → RM' Q) : AN b L Z q KM' RM' := by
  obtain ⟨v, K', R', h1, h2, h3, h4⟩ := h
  exact ⟨v, K', R', fun Q z => hk Q (h1 Q z), fun Q z => hr Q (h2 Q z), h3, h4⟩
theorem wc_8 {p : Nat} {w : Nat → Int32} (e : w 11 = 8) : (129 : Int32) = p_wc p w := by
  unfold p_wc
  rw [e, if_neg (by decide), if_neg (by decide), if_neg (by decide), if_neg (by decide), if_neg (by decide), if_neg (by decide), if_neg (by decide), if_neg (by decide)]
theorem AN_26 {b : Nat} {L : c_L} {Z : z_C} {K : c_S} {R : r_S} {p j : Nat} {a : Int32} (x : CX b L Z K R p j) (hb : b < 1999999900) : AN (b + 16) L Z (16 * p + j) (km_X0_waitToGoOn L K 0 a) (rb_X12_ofOthers_36 R (nI (16 * p + j)) a) := by
  have x' := x
  obtain ⟨w, ⟨hp, hj⟩, ⟨-, p1, p2, p3⟩, hnow, h1, hm, -⟩ := x
  have cq := WR_cq w
  have np16 := CQ_np cq
  have n16 := CQ_nq cq p hp
  have mq := (CQ_q cq hp hj).1
  have e4 : c_I K 1404 (16 * p + j) = r_A R 2438 (16 * p + j) := (CQ_e cq hp hj).2.1
  have c := nI_clamp (n := 16 * p + j) (by omega)
  by_cases ct : a < -1 ∨ 100000 < a
  · exact AN_i 1 K R (WR_w w (by omega)) p3 (fun Q hQ => ke_isNoTime (by rw [if_pos ct]; exact bf_ (by decide) hQ)) (fun Q hQ => re_isTime (by rw [if_pos ct]; exact ⟨_, rfl, nt_ rfl hQ⟩))
  · by_cases cp : r_A R 2438 (16 * p + j) ≤ 0
    · refine AN_w (AN_m (AN_wait (code := 129) (s := 8) (th := nI (16 * p + j)) (t := a) x' (by omega) ⟨by decide, by decide⟩ (fun til => ?_) (fun til => ?_)) (fun Q hQ => ?_) (fun Q hQ => ?_)) (show b + 1 ≤ b + 16 by omega)
      · rw [r_wt_r]; exact wc_8 rfl
      · rw [r_wt_r]; exact Or.inr (Or.inr (Or.inr (Or.inr rfl)))
      · exact ke_isNoTime (by rw [if_neg ct]; exact bt_ rfl ⟨_, p2, mq, bt_ (by rw [e4]; exact cp) hQ⟩)
      · exact re_isTime (by rw [if_neg ct]; exact ⟨_, rfl, nf_ (by decide) ⟨ri_v (n := 256) rfl (by omega) (by decide), by rw [c]; exact bt_ cp hQ⟩⟩)
    · exact AN_i 3 K R (WR_w w (by omega)) p3 (fun Q hQ => ke_isNoTime (by rw [if_neg ct]; exact bt_ rfl ⟨_, p2, mq, bf_ (by rw [e4]; exact cp) hQ⟩)) (fun Q hQ => re_isTime (by rw [if_neg ct]; exact ⟨_, rfl, nf_ (by decide) ⟨ri_v (n := 256) rfl (by omega) (by decide), by rw [c]; exact bf_ cp hQ⟩⟩))
theorem AN_27 {b : Nat} {L : c_L} {Z : z_C} {K : c_S} {R : r_S} {p j : Nat} {a : Int32} (x : CX b L Z K R p j) : AN b L Z (16 * p + j) (km_X0_hold L K 0 a) (rm_X12_holds R (nI p) (nI (16 * p + j)) a) := by
  obtain ⟨w, ⟨hp, hj⟩, ⟨-, p1, p2, p3⟩, hnow, h1, hm, -⟩ := x
  have cq := WR_cq w
  have np16 := CQ_np cq
  have n16 := CQ_nq cq p hp
  have mq := (CQ_q cq hp hj).1
  obtain ⟨m5, -, hn, hn2⟩ := CQ_p cq hp
  have cp := nI_clamp (n := p) (by omega)
  rcases pk_ix a (n := z_nq Z p) (by omega) with ha | ha | ⟨i, hi, rfl⟩
  · exact AN_i 1 K R w p3 (fun Q hQ => ⟨p, p1, m5, ke_processAt0 hn (Or.inl ha) (bt_ rfl hQ)⟩) (fun Q hQ => re_isProcess0 (by omega) hn2 (Or.inl ha) ⟨_, rfl, bt_ rfl hQ⟩)
  · exact AN_i 1 K R w p3 (fun Q hQ => ⟨p, p1, m5, ke_processAt0 hn (p_no (Or.inr ha)) (bt_ rfl hQ)⟩) (fun Q hQ => re_isProcess0 (by omega) hn2 (Or.inr ha) ⟨_, rfl, bt_ rfl hQ⟩)
  · obtain ⟨mi, -, hni, hfl⟩ := CQ_q cq hp hi
    have e4 : c_I K 1404 (16 * p + i) = r_A R 2438 (16 * p + i) := (CQ_e cq hp hi).2.1
    have e9 : c_I K 1409 (16 * p + i) = r_A R 2467 (16 * p + i) := (DP_w w hp hi).1.2.1
    have e16 : c_I K 1416 (16 * p + i) = r_A R 2475 (16 * p + i) := (DP_w w hp hi).1.2.2.2.2.2.2
    have lk := (PD_lk w hp).1
    have ci := nI_clamp (n := 16 * p + i) (by omega)
    have vi : ∀ f : Nat, r_N f = 256 → vp_in (nI (16 * p + i)) (r_N f) := fun f hf => ri_v hf (by omega) (by decide)
    have vp : ∀ f : Nat, r_N f = 16 → vp_in (nI p) (r_N f) := fun f hf => ri_v hf (by omega) (by decide)
    refine AN_c ?_ (fun Q hQ => ⟨p, p1, m5, ke_processAt hn hi n16 mi (bf_ (fun z => (by cases z)) ⟨fun i' e => (by injection e with e; exact e ▸ mi), fun i' e => (by rw [p2] at e; injection e with e; exact e ▸ mq), hQ⟩)⟩) (fun Q hQ => re_isProcess1 (by omega) hn2 n16 hi ⟨_, rfl, bf_ (by decide) hQ⟩)
    simp only [q_16, p2]
    by_cases ij : i = j
    · subst ij
      exact AN_i 1 K R w p3 (fun Q hQ => bt_ rfl hQ) (fun Q hQ => bt_ rfl hQ)
    · refine AN_c ?_ (fun Q hQ => bf_ (fun z => ij (by injection z with z; omega)) ⟨_, rfl, mi, hQ⟩) (fun Q hQ => bf_ (fun z => ij (by rw [nI_eq (by omega) (by omega)] at z; omega)) (re_isH cq hp hi ⟨_, rfl, hQ⟩))
      rw [hfl]
      by_cases hh : z_hd Z p = some i
      · rw [if_pos hh]
        exact AN_i 1 K R w p3 (fun Q hQ => bf_ (by decide) hQ) (fun Q hQ => bf_ (by decide) hQ)
      · rw [if_neg hh]
        refine AN_c ?_ (fun Q hQ => bt_ rfl hQ) (fun Q hQ => bt_ rfl ⟨vi _ rfl, hQ⟩)
        rw [ci, e4]
        by_cases c4 : 0 < r_A R 2438 (16 * p + i)
        · exact AN_i 3 K R w p3 (fun Q hQ => bt_ c4 hQ) (fun Q hQ => bt_ c4 hQ)
        · refine AN_c ?_ (fun Q hQ => bf_ c4 ⟨p, p1, m5, hQ⟩) (fun Q hQ => bf_ c4 ⟨vp _ rfl, hQ⟩)
          rw [cp, lk]
          have fin : AN b L Z (16 * p + j) (kb_X0_hold_60 L K (some (16 * p + i))) (rb_X12_holds_66 R (nI (16 * p + i))) := by
            refine AN_c ?_ (fun Q hQ => ⟨_, rfl, mi, hQ⟩) (fun Q hQ => ⟨vi _ rfl, hQ⟩)
            rw [ci, e9]
            by_cases c0 : r_A R 2467 (16 * p + i) = 0
            · exact AN_i 2 K R w p3 (fun Q hQ => bt_ c0 hQ) (fun Q hQ => bt_ c0 hQ)
            · by_cases c3 : r_A R 2467 (16 * p + i) = 3
              · exact AN_i 2 K R w p3 (fun Q hQ => bf_ c0 (bt_ c3 hQ)) (fun Q hQ => bf_ c0 ⟨vi _ rfl, bt_ c3 hQ⟩)
              · refine AN_c ?_ (fun Q hQ => bf_ c0 (bf_ c3 hQ)) (fun Q hQ => bf_ c0 ⟨vi _ rfl, bf_ c3 ⟨vi _ rfl, hQ⟩⟩)
                rw [e16]
                by_cases ch : r_A R 2475 (16 * p + i) = 0
                · exact AN_i 0 _ _ (WR_he (v := 1) w hp hi (Or.inr rfl)) p3 (fun Q hQ => bt_ ch hQ) (fun Q hQ => bt_ ch ⟨vi _ rfl, hQ⟩)
                · exact AN_i 2 K R w p3 (fun Q hQ => bf_ ch hQ) (fun Q hQ => bf_ ch hQ)
          by_cases cl : r_A R 2486 p ≤ 0
          · exact AN_c fin (fun Q hQ => bt_ cl hQ) (fun Q hQ => bt_ cl hQ)
          · refine AN_c ?_ (fun Q hQ => bf_ cl hQ) (fun Q hQ => bf_ cl ⟨vp _ rfl, hQ⟩)
            have k0 : c_I K 1013 p ≠ 0 := fun z => cl (by rw [← lk, z]; decide)
            obtain ⟨i', a1, a2, a3, a4, a5⟩ := (PD_v w.2.2.2.2.1 hp).2.2.2.2.1 k0
            have a3 : c_I K 1014 p = nI i' := a3
            have a4 : r_A R 2487 p = nI (16 * p + i') := a4
            rw [a3, a4]
            by_cases ii : i' = i
            · subst ii
              exact AN_i 3 K R w p3 (fun Q hQ => nt_ rfl hQ) (fun Q hQ => nt_ rfl hQ)
            · exact AN_c fin (fun Q hQ => nf_ (fun z => ii ((nI_eq (by omega) (by omega)).mp z)) hQ) (fun Q hQ => nf_ (fun z => ii (by rw [nI_eq (by omega) (by omega)] at z; omega)) hQ)
