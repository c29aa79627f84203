/-! Errors, dealt with. -/
theorem WR_13 {b : Nat} {L : c_L} {Z : z_C} {K : c_S} {R : r_S} {v : Int32} (h : WR b L Z K R) : WR b L Z K (rs_I R 2513 v) := by
  obtain ⟨⟨⟨cq, ct, cc, cm⟩, th, ch, inn, me, jr, gl, tx⟩, dp, op, ti, pd, jb⟩ := h
  refine ⟨⟨⟨?_, ?_, ?_, ?_⟩, ?_, ?_, ?_, ?_, ?_, ?_, ?_⟩, ?_, ?_, ?_, ?_, ?_⟩
  all_goals (simp (disch := decide) only [CQ_I, CQ_A, CQ_G, CQ_P, CQ_J, CQ_i, CQ_a, CQ_z, CT_I, CT_A, CT_G, CT_P, CT_J, CT_i, CT_a, CT_z, CC_I, CC_A, CC_G, CC_P, CC_J, CC_i, CC_a, CC_z, CM_I, CM_A, CM_G, CM_P, CM_J, CM_i, CM_a, CM_z, NM_I, NM_A, NM_G, NM_P, NM_J, NM_i, NM_a, NM_z, TH_I, TH_A, TH_G, TH_P, TH_J, TH_i, TH_a, TH_z, CH_I, CH_A, CH_G, CH_P, CH_J, CH_i, CH_a, CH_z, IN_I, IN_A, IN_G, IN_P, IN_J, IN_i, IN_a, IN_z, ME_I, ME_A, ME_G, ME_P, ME_J, ME_i, ME_a, ME_z, JR_I, JR_A, JR_G, JR_P, JR_J, JR_i, JR_a, JR_z, GL_I, GL_A, GL_G, GL_P, GL_J, GL_i, GL_a, GL_z, TX_I, TX_A, TX_G, TX_P, TX_J, TX_i, TX_a, TX_z, PD_I, PD_A, PD_G, PD_P, PD_J, PD_i, PD_a, PD_z, JB_i, JB_a, JB_z, DP_I, DP_A, DP_G, DP_P, DP_i, DP_a, OP_I, OP_A, OP_G, OP_P, OP_i, OP_a, TI_i, TI_a]; assumption)
theorem GL_el {b : Nat} {L : c_L} {Z : z_C} {K : c_S} {R : r_S} (w : WR b L Z K R) : c_I K 1211 0 = r_I R 2463 ∧ c_I K 1212 0 = r_I R 2510 ∧ (c_I K 1213 0 = r_I R 2413 ∧ (r_I R 2413 = 0 ∨ r_I R 2413 = 1) ∧ r_I R 2400 = z_th Z) ∧ (c_I K 1214 0 = r_I R 2414 ∧ (r_I R 2414 = 0 ∨ r_I R 2414 = 1)) ∧ (r_I R 2414 = 1 → r_I R 2413 = 1) ∧ r_I R 2463 = nI (z_tm Z) ∧ r_I R 2413 = z_ld Z ∧ r_I R 2414 = z_bg Z := w.1.2.2.2.2.2.2.1
/-- what is to be done -/
theorem P_act {b : Nat} {L : c_L} {Z : z_C} {K : c_S} {R : r_S} {p j k : Nat} {code : Int32} (w : WR b L Z K R) (hp : p < z_np Z) (hj : j < z_nq Z p) (hk : k < 5) : ∃ n : Nat, n ≤ 6 ∧ (∀ Q : Int32 → c_S → Prop, Q (nI n) K → km_X5_actionFor L K p (some (16 * p + j)) (nI k) Q) ∧ (∀ Q : Option Value → r_S → Prop, rb_X12_fails_57 R (nI (16 * p + j)) (nI k) code (nI p) (nI n) Q → rm_X12_fails R (nI (16 * p + j)) (nI k) code Q) ∧ (n = 6 → ∃ h : Nat, z_hd Z p = some h ∧ j ≠ h ∧ r_A R 2467 (16 * p + h) = 0) := by
  have cq := WR_cq w
  have np16 := CQ_np cq
  have n16 := CQ_nq cq p hp
  obtain ⟨mq, -, hnum, hfl⟩ := CQ_q cq hp hj
  obtain ⟨m5, -, hn, hn2⟩ := CQ_p cq hp
  have cp := nI_clamp (n := p) (by omega)
  by_cases hh : z_hd Z p = some j
  · refine ⟨3, by decide, fun Q hQ => ⟨_, rfl, mq, bf_ (by rw [hfl, if_pos hh]; decide) hQ⟩, fun Q hQ => re_partitionOf (by omega) (by omega) ⟨_, rfl, re_isH cq hp hj ⟨_, rfl, bf_ (by rw [if_pos hh]; decide) (nf_ (by decide) hQ)⟩⟩, fun z => absurd z (by decide)⟩
  · have f0 : c_I K 1407 (16 * p + j) = 0 := by rw [hfl, if_neg hh]
    obtain ⟨t1, t2, t3, t4⟩ := CQ_t cq hp (i := k) hk
    obtain ⟨a, ha, ea⟩ : ∃ a : Nat, a ≤ 6 ∧ r_A R 2452 (5 * p + k) = nI a := by
      obtain ⟨a, ha, e⟩ := nI_of (x := r_A R 2452 (5 * p + k)) (fun z => by have := i_lt0.mp z; omega)
      rw [e, nI_toInt ha] at t3
      exact ⟨a, by omega, e⟩
    have e5 : (5 : Int32) * nI p + nI k = nI (5 * p + k) := by rw [show (5 : Int32) = nI 5 from rfl, pk_mul, nI_add]
    have kp : ∀ Q : Int32 → c_S → Prop, kb_X5_actionFor_28 L K p (nI a) Q → km_X5_actionFor L K p (some (16 * p + j)) (nI k) Q := fun Q hQ => ⟨_, rfl, mq, bt_ f0 (bf_ (nI_pos (by omega)) (bt_ (nI_lt (b := 5) hk (by decide)) ⟨vp_in_nI hk (by decide), by rw [nI_clamp (by omega), t1, ea]; exact hQ⟩))⟩
    have rp : ∀ Q : Option Value → r_S → Prop, rb_X12_fails_30 R (nI (16 * p + j)) (nI k) code (nI p) (nI a) Q → rm_X12_fails R (nI (16 * p + j)) (nI k) code Q := fun Q hQ => re_partitionOf (by omega) (by omega) ⟨_, rfl, re_isH cq hp hj ⟨_, rfl, bt_ (by rw [if_neg hh]) ⟨by rw [e5]; exact ri_v (n := 80) rfl (by omega) (by decide), by rw [e5, nI_clamp (by omega), ea]; exact hQ⟩⟩⟩
    cases hd : z_hd Z p with
    | none =>
      have a6 : a ≠ 6 := fun z => t4 (by rw [ea, z]; rfl) hd
      have n6 : ¬ nI a = 6 := fun z => a6 ((nI_eq (by omega) (by decide)).mp (z.trans (show (6 : Int32) = nI 6 from rfl)))
      refine ⟨a, ha, fun Q hQ => kp Q ?_, fun Q hQ => rp Q (nf_ n6 hQ), fun z => absurd z a6⟩
      unfold kb_X5_actionFor_28
      rw [(CQ_h0 cq hp hd).1]
      exact ke_processAt0 hn (Or.inl (by decide)) (nf_ n6 hQ)
    | some h =>
      obtain ⟨h1, h2, h3⟩ := CQ_h1 cq hp hd
      have mh := (CQ_q cq hp h1).1
      have e9 : c_I K 1409 (16 * p + h) = r_A R 2467 (16 * p + h) := (DP_w w hp h1).1.2.1
      have vp : vp_in (nI p) (r_N 2442) := ri_v (n := 16) rfl (by omega) (by decide)
      by_cases a6 : a = 6
      · have e6 : nI a = 6 := by rw [a6]; rfl
        have rq : ∀ Q : Option Value → r_S → Prop, ((r_A R 2467 (16 * p + h) = 0 → rb_X12_fails_57 R (nI (16 * p + j)) (nI k) code (nI p) (nI a) Q) ∧ (¬ r_A R 2467 (16 * p + h) = 0 → rb_X12_fails_57 R (nI (16 * p + j)) (nI k) code (nI p) 0 Q)) → rb_X12_fails_30 R (nI (16 * p + j)) (nI k) code (nI p) (nI a) Q := fun Q hQ => nt_ e6 (by
          rw [cp, h3, nI_clamp (n := 16 * p + h) (by omega)]
          exact ⟨vp, ri_v (n := 256) rfl (by omega) (by decide), hQ⟩)
        have kq : ∀ Q : Int32 → c_S → Prop, ((r_A R 2467 (16 * p + h) = 0 → Q (nI a) K) ∧ (¬ r_A R 2467 (16 * p + h) = 0 → Q 0 K)) → kb_X5_actionFor_28 L K p (nI a) Q := fun Q hQ => by
          unfold kb_X5_actionFor_28
          rw [h2]
          refine ke_processAt hn h1 n16 mh (nt_ e6 (bf_ (fun z => (by cases z)) ⟨_, rfl, mh, ?_⟩))
          rw [e9]
          exact hQ
        by_cases c0 : r_A R 2467 (16 * p + h) = 0
        · exact ⟨a, ha, fun Q hQ => kp Q (kq Q (bt_ c0 hQ)), fun Q hQ => rp Q (rq Q (bt_ c0 hQ)), fun _ => ⟨h, rfl, fun e => hh (by rw [hd, e]), c0⟩⟩
        · exact ⟨0, by decide, fun Q hQ => kp Q (kq Q (bf_ c0 hQ)), fun Q hQ => rp Q (rq Q (bf_ c0 hQ)), fun z => absurd z (by decide)⟩
      · have n6 : ¬ nI a = 6 := fun z => a6 ((nI_eq (by omega) (by decide)).mp (z.trans (show (6 : Int32) = nI 6 from rfl)))
        refine ⟨a, ha, fun Q hQ => kp Q ?_, fun Q hQ => rp Q (nf_ n6 hQ), fun z => absurd z a6⟩
        unfold kb_X5_actionFor_28
        rw [h2]
        exact ke_processAt hn h1 n16 mh (nf_ n6 hQ)
theorem no_6r {t x : Nat} (ht : t < 2 ^ 31) : (6 : Int32) * (nI t - nI t / (64 : Int32) * (64 : Int32)) + nI x = nI (6 * (t % 64) + x) := by
  rw [show (64 : Int32) = nI 64 from rfl, pk_rem ht (by decide) (by decide), show (6 : Int32) = nI 6 from rfl, pk_mul, nI_add]
theorem no_60r {t : Nat} (ht : t < 2 ^ 31) : (6 : Int32) * (nI t - nI t / (64 : Int32) * (64 : Int32)) = nI (6 * (t % 64)) := by
  rw [show (64 : Int32) = nI 64 from rfl, pk_rem ht (by decide) (by decide), show (6 : Int32) = nI 6 from rfl, pk_mul]
/-- what comes behind the reference's note -/
def r_ac (S : r_S) (p j : Nat) (kind code act : Int32) (Q : Option Value → r_S → Prop) : Prop := (((act.toInt < 0 ∨ 5 < act.toInt) → rm_X12_unlock (rs_A (rs_A (rs_A (r_f3 S (16 * p + j)) 2488 p (nI (16 * p + j))) 2489 p kind) 2490 p code) (nI p) (fun r62_ S63_ => r62_ = none ∧ (vp_in (nI p) (r_N 2442) ∧ (rm_X12_startsAt S63_ (r_A S63_ 2442 (nI p).toNatClampNeg) (r_I S63_ 2463) (fun r69_ S70_ => r69_ = none ∧ (Q none S70_)))))) ∧ ((act = (0 : Int32)) → ((kind = (2 : Int32) → Q none S) ∧ (¬ kind = (2 : Int32) → Q none (rs_A S 2468 (16 * p + j) (r_A S 2468 (16 * p + j) + 4))))) ∧ ((act = (1 : Int32)) → (rm_X12_dormant S (nI (16 * p + j)) (fun r78_ S79_ => r78_ = none ∧ (Q none S79_)))) ∧ ((act = (2 : Int32)) → (rm_X12_startsAt S (nI (16 * p + j)) (r_I S 2463) (fun r80_ S81_ => r80_ = none ∧ (Q none S81_)))) ∧ ((act = (3 : Int32) ∨ act = (4 : Int32)) → ((¬ act = (4 : Int32) → (rb_X12_fails_231 S (nI p) (3 : Int32) (0 : Int32) Q)) ∧ (act = (4 : Int32) → (rb_X12_fails_231 S (nI p) (3 : Int32) (1 : Int32) Q)))) ∧ ((act = (5 : Int32)) → (rm_X12_idle S (nI p) (fun r83_ S84_ => r83_ = none ∧ (Q none (rs_I S84_ 2513 (1 : Int32)))))))
/-- the reference's note, and what comes behind it -/
theorem re_note {R : r_S} {t p j : Nat} {kind code act : Int32} {Q : Option Value → r_S → Prop} (ht : t < 2 ^ 31) (e : r_I R 2509 = nI t) (hp : p < 16) (hj : j < 16) (h : r_ac (r_no R (t % 64) (r_I R 2463) (nI p) (nI j) kind act code) p j kind code act Q) : rb_X12_fails_57 R (nI (16 * p + j)) kind code (nI p) act Q := by
  have m := Nat.mod_lt t (show 64 > 0 by decide)
  have v : ∀ x : Nat, x < 6 → vp_in (nI (6 * (t % 64) + x)) (r_N 2512) := fun x hx => ri_v (n := 384) rfl (by omega) (by decide)
  have c : ∀ x : Nat, x < 6 → (nI (6 * (t % 64) + x)).toNatClampNeg = 6 * (t % 64) + x := fun x hx => nI_clamp (by omega)
  have c0 : (nI (6 * (t % 64))).toNatClampNeg = 6 * (t % 64) := nI_clamp (by omega)
  have cp := nI_clamp (n := p) (by omega)
  have cj := nI_clamp (n := 16 * p + j) (by omega)
  have vj : ∀ f : Nat, r_N f = 256 → vp_in (nI (16 * p + j)) (r_N f) := fun f hf => ri_v hf (by omega) (by decide)
  have vp : ∀ f : Nat, r_N f = 16 → vp_in (nI p) (r_N f) := fun f hf => ri_v hf (by omega) (by decide)
  unfold rb_X12_fails_57
  rw [e, cp, cj, show (1 : Int32) = nI 1 from rfl, show (2 : Int32) = nI 2 from rfl, show (3 : Int32) = nI 3 from rfl, show (4 : Int32) = nI 4 from rfl, show (5 : Int32) = nI 5 from rfl, no_6r ht, no_6r ht, no_6r ht, no_6r ht, no_6r ht, no_60r ht, c0, c 1 (by decide), c 2 (by decide), c 3 (by decide), c 4 (by decide), c 5 (by decide), nI_rem hp hj]
  refine ⟨v 0 (by decide), v 1 (by decide), v 2 (by decide), fun S1 e1 => ⟨v 3 (by decide), v 4 (by decide), v 5 (by decide), fun S2 e2 => ?_⟩⟩
  subst e1
  have es : rs_I S2 2509 (r_I S2 2509 + nI 1) = r_no R (t % 64) (r_I R 2463) (nI p) (nI j) kind act code := by rw [e2]; rfl
  rw [es]
  obtain ⟨h1, h2, h3, h4, h5, h6⟩ := h
  refine ⟨fun z => ⟨vj _ rfl, vj _ rfl, fun S3 e3 => ⟨vj _ rfl, vj _ rfl, vp _ rfl, fun S4 e4 => ⟨vp _ rfl, vp _ rfl, ?_⟩⟩⟩, fun z => ⟨(h2 z).1, fun z2 => ⟨vj _ rfl, vj _ rfl, fun S3 e3 => ?_⟩⟩, h3, h4, h5, h6⟩
  · subst e3
    subst e4
    have := h1 z
    rw [cp] at this
    exact this
  · subst e3
    exact (h2 z).2 z2
theorem P_fails {b : Nat} {L : c_L} {Z : z_C} {K : c_S} {R : r_S} {p j k : Nat} {code : Int32} (w : WR b L Z K R) (gk : GK L) (hb : b < 1999999700) (hp : p < z_np Z) (hj : j < z_nq Z p) (hm : r_A R 2483 p = 0) (hk : k < 5) (ht : (r_A R 2473 (16 * p + j)).toInt ≤ (r_I R 2463).toInt) : ∃ (n : Nat) (K' : c_S) (R' : r_S), n ≤ 6 ∧ (∀ Q : Int32 → c_S → Prop, Q (nI n) K' → km_X11_goWrong L K 0 (some p) (some (16 * p + j)) (nI k) code Q) ∧ (∀ Q : Option Value → r_S → Prop, Q none R' → rm_X12_fails R (nI (16 * p + j)) (nI k) code Q) ∧ WR (b + 64) L Z K' R' ∧ (∀ f i : Nat, c_P K' f i = c_P K f i) ∧ r_I R' 2513 = (if 3 ≤ n ∧ n ≤ 5 then 1 else r_I R 2513) ∧ (¬ (3 ≤ n ∧ n ≤ 5) → r_A R' 2483 p = 0) := by
  have cq := WR_cq w
  have np16 := CQ_np cq
  have n16 := CQ_nq cq p hp
  obtain ⟨mq, -, hnum, hfl⟩ := CQ_q cq hp hj
  obtain ⟨m5, hnp, hn, hn2⟩ := CQ_p cq hp
  obtain ⟨n, hn6, ka, ra, hh⟩ := P_act (code := code) w hp hj hk
  have gl := GL_el w
  have jr := JR_el w.1.2.2.2.2.2.1
  have jb := JB_el w.2.2.2.2.2
  obtain ⟨t, ht31, et⟩ := nI_of (x := r_I R 2509) (fun z => by have := i_lt0.mp z; omega)
  have w1 := WR_no (e := t % 64) (a1 := r_I R 2463) (a2 := nI p) (a3 := nI j) (a4 := nI k) (a5 := nI n) (a6 := code) w (by omega)
  obtain ⟨K1, hK1⟩ : ∃ K1 : c_S, K1 = k_no K (t % 64) (r_I R 2463) (nI p) (nI j) (nI k) (nI n) code := ⟨_, rfl⟩
  obtain ⟨R1, hR1⟩ : ∃ R1 : r_S, R1 = r_no R (t % 64) (r_I R 2463) (nI p) (nI j) (nI k) (nI n) code := ⟨_, rfl⟩
  rw [← hK1, ← hR1] at w1
  have kf := k_no_f (K := K) (e := t % 64) (a1 := r_I R 2463) (a2 := nI p) (a3 := nI j) (a4 := nI k) (a5 := nI n) (a6 := code)
  have rf := r_no_f (R := R) (e := t % 64) (a1 := r_I R 2463) (a2 := nI p) (a3 := nI j) (a4 := nI k) (a5 := nI n) (a6 := code)
  rw [← hK1] at kf
  rw [← hR1] at rf
  have t1 : c_I K1 1211 0 = r_I R1 2463 := (GL_el w1).1
  have hm1 : r_A R1 2483 p = 0 := (rf.2 _ _ (by decide)).trans hm
  have tick : r_I R1 2513 = r_I R 2513 := rf.1 _ (by decide)
  have kpre : ∀ Q : Int32 → c_S → Prop, ((nI n).toInt < 1 ∨ 6 < (nI n).toInt → ((nI k = (2 : Int32) → Q (nI n) K1) ∧ (¬ nI k = (2 : Int32) → Q (nI n) (cs_I K1 1410 (16 * p + j) (c_I K1 1410 (16 * p + j) + 4))))) ∧ (nI n = (1 : Int32) → (km_X5_rest L K1 p (some (16 * p + j)) (fun S33_ => Q (nI n) S33_))) ∧ (nI n = (2 : Int32) → (km_X5_start L K1 p (some (16 * p + j)) (c_I K1 1211 0) (c_I K1 1211 0) (fun S40_ => Q (nI n) S40_))) ∧ (nI n = (3 : Int32) ∨ nI n = (4 : Int32) → ((¬ nI n = (4 : Int32) → (kb_X11_goWrong_122 L K1 0 (nI n) (some p) (0 : Int32) Q)) ∧ (nI n = (4 : Int32) → (kb_X11_goWrong_122 L K1 0 (nI n) (some p) (1 : Int32) Q)))) ∧ (nI n = (5 : Int32) → (km_X5_goIdle L K1 p (fun S44_ => Q (nI n) S44_))) ∧ (nI n = (6 : Int32) → (km_X5_handOver L K1 p (some (16 * p + j)) (nI k) code (c_I K1 1211 0) (fun S51_ => Q (nI n) S51_))) → km_X11_goWrong L K 0 (some p) (some (16 * p + j)) (nI k) code Q := fun Q hQ => by
    refine ⟨p, rfl, m5, ka _ ⟨_, rfl, mq, ke_note ht31 (jr.2.1.trans et) ?_⟩⟩
    rw [gl.1, hnp, hnum, ← hK1]
    exact hQ
  have rpre : ∀ Q : Option Value → r_S → Prop, r_ac R1 p j (nI k) code (nI n) Q → rm_X12_fails R (nI (16 * p + j)) (nI k) code Q := fun Q hQ => ra Q (re_note ht31 et (by omega) (by omega) (by rw [← hR1]; exact hQ))
  have lit : ∀ c : Nat, c < 100 → (nI n = nI c ↔ n = c) := fun c hc => nI_eq (by omega) (by omega)
  have tn : (nI n).toInt = n := nI_toInt (by omega)
  have hn : n = 0 ∨ n = 1 ∨ n = 2 ∨ n = 3 ∨ n = 4 ∨ n = 5 ∨ n = 6 := by omega
  have hb1 : b + 1 < 1999999800 := by omega
  rcases hn with e | e | e | e | e | e | e
  · subst e
    by_cases k2 : nI k = (2 : Int32)
    · exact ⟨0, K1, R1, by decide, fun Q hQ => kpre Q ⟨fun _ => bt_ k2 hQ, fun z => absurd z (by decide), fun z => absurd z (by decide), fun z => absurd z (by decide), fun z => absurd z (by decide), fun z => absurd z (by decide)⟩, fun Q hQ => rpre Q ⟨fun z => absurd z (by decide), fun _ => bt_ k2 hQ, fun z => absurd z (by decide), fun z => absurd z (by decide), fun z => absurd z (by decide), fun z => absurd z (by decide)⟩, WR_w w1 (by omega), kf.2, by rw [if_neg (by decide)]; exact tick, fun _ => hm1⟩
    · have e10 : c_I K1 1410 (16 * p + j) = r_A R1 2468 (16 * p + j) := (DP_w w1 hp hj).1.2.2.1
      refine ⟨0, _, _, by decide, fun Q hQ => kpre Q ⟨fun _ => bf_ k2 hQ, fun z => absurd z (by decide), fun z => absurd z (by decide), fun z => absurd z (by decide), fun z => absurd z (by decide), fun z => absurd z (by decide)⟩, fun Q hQ => rpre Q ⟨fun z => absurd z (by decide), fun _ => bf_ k2 hQ, fun z => absurd z (by decide), fun z => absurd z (by decide), fun z => absurd z (by decide), fun z => absurd z (by decide)⟩, ?_, kf.2, by rw [if_neg (by decide)]; exact tick, fun _ => (r_An (Or.inl (by decide))).trans hm1⟩
      rw [e10]
      exact WR_w (WR_pc (v := r_A R1 2468 (16 * p + j) + 4) w1 hp hj) (by omega)
  · subst e
    obtain ⟨K', R', a1, a2, a3, a4, a5, a6, a7, a8, a9⟩ := P_restX w1 (by omega) hp hj
    exact ⟨1, K', R', by decide, fun Q hQ => kpre Q ⟨fun z => absurd z (by decide), fun _ => a1 _ hQ, fun z => absurd z (by decide), fun z => absurd z (by decide), fun z => absurd z (by decide), fun z => absurd z (by decide)⟩, fun Q hQ => rpre Q ⟨fun z => absurd z (by decide), fun z => absurd z (by decide), fun _ => a2 _ ⟨rfl, hQ⟩, fun z => absurd z (by decide), fun z => absurd z (by decide), fun z => absurd z (by decide)⟩, WR_w a3 (by omega), fun f i => (a4 f i).trans (kf.2 f i), by rw [if_neg (by decide)]; exact (a7 _).trans tick, fun _ => a8.trans hm1⟩
  · subst e
    obtain ⟨K', R', a1, a2, a3, a4, a5, a6, a7, a8, a9, a10, a11, -⟩ := P_startX (t := r_I R1 2463) w1 (by omega) hp hj hm1 (Int.le_refl _) (by omega) (Or.inl (Int.le_refl _))
    exact ⟨2, K', R', by decide, fun Q hQ => kpre Q ⟨fun z => absurd z (by decide), fun z => absurd z (by decide), fun _ => by rw [t1]; exact a1 _ hQ, fun z => absurd z (by decide), fun z => absurd z (by decide), fun z => absurd z (by decide)⟩, fun Q hQ => rpre Q ⟨fun z => absurd z (by decide), fun z => absurd z (by decide), fun z => absurd z (by decide), fun _ => a2 _ ⟨rfl, hQ⟩, fun z => absurd z (by decide), fun z => absurd z (by decide)⟩, WR_w a3 (by omega), fun f i => (a8 f i).trans (kf.2 f i), by rw [if_neg (by decide)]; exact (a11 _ (by decide)).trans tick, fun _ => a5.trans hm1⟩
  · subst e
    obtain ⟨K', R', a1, a2, a3, a4, a5, a6⟩ := P_begin (cold := 0) (how := 3) w1 gk hb1 hp hm1 (Or.inl rfl) (Or.inl rfl)
    exact ⟨3, K', rs_I R' 2513 1, by decide, fun Q hQ => kpre Q ⟨fun z => absurd z (by decide), fun z => absurd z (by decide), fun z => absurd z (by decide), fun _ => nf_ (by decide) ⟨p, rfl, m5, by rw [t1]; exact a1 _ hQ⟩, fun z => absurd z (by decide), fun z => absurd z (by decide)⟩, fun Q hQ => rpre Q ⟨fun z => absurd z (by decide), fun z => absurd z (by decide), fun z => absurd z (by decide), fun z => absurd z (by decide), fun _ => nf_ (by decide) (a2 _ ⟨rfl, hQ⟩), fun z => absurd z (by decide)⟩, WR_13 (WR_w a3 (by omega)), fun f i => (a4 f i).trans (kf.2 f i), by rw [if_pos (by decide), r_Is], fun z => absurd (by decide) z⟩
  · subst e
    obtain ⟨K', R', a1, a2, a3, a4, a5, a6⟩ := P_begin (cold := 1) (how := 3) w1 gk hb1 hp hm1 (Or.inr rfl) (Or.inl rfl)
    exact ⟨4, K', rs_I R' 2513 1, by decide, fun Q hQ => kpre Q ⟨fun z => absurd z (by decide), fun z => absurd z (by decide), fun z => absurd z (by decide), fun _ => nt_ (by decide) ⟨p, rfl, m5, by rw [t1]; exact a1 _ hQ⟩, fun z => absurd z (by decide), fun z => absurd z (by decide)⟩, fun Q hQ => rpre Q ⟨fun z => absurd z (by decide), fun z => absurd z (by decide), fun z => absurd z (by decide), fun z => absurd z (by decide), fun _ => nt_ (by decide) (a2 _ ⟨rfl, hQ⟩), fun z => absurd z (by decide)⟩, WR_13 (WR_w a3 (by omega)), fun f i => (a4 f i).trans (kf.2 f i), by rw [if_pos (by decide), r_Is], fun z => absurd (by decide) z⟩
  · subst e
    obtain ⟨K', R', a1, a2, a3, a4, a5⟩ := P_idle w1 (by omega) hp
    exact ⟨5, K', rs_I R' 2513 1, by decide, fun Q hQ => kpre Q ⟨fun z => absurd z (by decide), fun z => absurd z (by decide), fun z => absurd z (by decide), fun z => absurd z (by decide), fun _ => a1 _ hQ, fun z => absurd z (by decide)⟩, fun Q hQ => rpre Q ⟨fun z => absurd z (by decide), fun z => absurd z (by decide), fun z => absurd z (by decide), fun z => absurd z (by decide), fun z => absurd z (by decide), fun _ => a2 _ ⟨rfl, hQ⟩⟩, WR_13 (WR_w a3 (by omega)), fun f i => (a4 f i).trans (kf.2 f i), by rw [if_pos (by decide), r_Is], fun z => absurd (by decide) z⟩
  · subst e
    obtain ⟨h, h1, h2, h3⟩ := hh rfl
    obtain ⟨K', R', a1, a2, a3, a4, a5, a6⟩ := P_hand (kind := nI k) (code := code) w1 (by omega) hp hj hm1 (by rw [nI_toInt (by omega)]; omega) (by rw [rf.2 _ _ (by decide), rf.1 _ (by decide)]; exact ht) h1 h2 ((rf.2 _ _ (by decide)).trans h3)
    exact ⟨6, K', R', by decide, fun Q hQ => kpre Q ⟨fun z => absurd z (by decide), fun z => absurd z (by decide), fun z => absurd z (by decide), fun z => absurd z (by decide), fun z => absurd z (by decide), fun _ => by rw [t1]; exact a1 _ hQ⟩, fun Q hQ => rpre Q ⟨fun _ => a2 _ hQ, fun z => absurd z (by decide), fun z => absurd z (by decide), fun z => absurd z (by decide), fun z => absurd z (by decide), fun z => absurd z (by decide)⟩, WR_w a3 (by omega), fun f i => (a4 f i).trans (kf.2 f i), by rw [if_neg (by decide)]; exact (a5 _ (by decide)).trans tick, fun _ => a6⟩
