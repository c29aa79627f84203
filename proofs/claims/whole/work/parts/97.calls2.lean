/-! Calls 0 .. 7: of processes. -/
theorem re_isProcess1 {R : r_S} {p i n : Nat} {Q : Option Value → r_S → Prop} (hp : p < 16) (hn : r_A R 2435 (6 * p + 5) = nI n) (h16 : n ≤ 16) (hi : i < n) (h : Q (some (.int 1)) R) : rm_X12_isProcess R (nI p) (nI i) Q := by
  have e : (6 : Int32) * nI p + (5 : Int32) = nI (6 * p + 5) := by rw [show (6 : Int32) = nI 6 from rfl, show (5 : Int32) = nI 5 from rfl, pk_mul, nI_add]
  unfold rm_X12_isProcess
  rw [e, nI_clamp (by omega), hn]
  exact ⟨fun z => absurd z (nI_pos (by omega)), fun _ => ⟨ri_v (n := 96) rfl (by omega) (by decide), fun z => absurd z (nI_ge hi (by omega)), fun _ => ⟨nb_1, h⟩⟩⟩
theorem re_isProcess0 {R : r_S} {p n : Nat} {a : Int32} {Q : Option Value → r_S → Prop} (hp : p < 16) (hn : r_A R 2435 (6 * p + 5) = nI n) (ha : a < 0 ∨ nI n ≤ a) (h : Q (some (.int 0)) R) : rm_X12_isProcess R (nI p) a Q := by
  have e : (6 : Int32) * nI p + (5 : Int32) = nI (6 * p + 5) := by rw [show (6 : Int32) = nI 6 from rfl, show (5 : Int32) = nI 5 from rfl, pk_mul, nI_add]
  unfold rm_X12_isProcess
  rw [e, nI_clamp (by omega), hn]
  refine ⟨fun _ => ⟨nb_0, h⟩, fun z => ⟨ri_v (n := 96) rfl (by omega) (by decide), fun _ => ⟨nb_0, h⟩, fun z2 => ?_⟩⟩
  rcases ha with ha | ha
  · exact absurd ha z
  · exact absurd ha z2
theorem q_16 {p i : Nat} : (16 : Int32) * nI p + nI i = nI (16 * p + i) := by rw [show (16 : Int32) = nI 16 from rfl, pk_mul, nI_add]
theorem q_8 {p i : Nat} : (8 : Int32) * nI p + nI i = nI (8 * p + i) := by rw [show (8 : Int32) = nI 8 from rfl, pk_mul, nI_add]
theorem q_32 {q i : Nat} : (32 : Int32) * nI q + nI i = nI (32 * q + i) := by rw [show (32 : Int32) = nI 32 from rfl, pk_mul, nI_add]
theorem p_no {a : Int32} {n : Nat} (ha : a < 0 ∨ nI n ≤ a) : a < 0 ∨ ¬ a < nI n := ha.imp id (fun z => i_nlt.mpr z)
/-- a wait for a time -/
theorem AN_waitU {b : Nat} {L : c_L} {Z : z_C} {K : c_S} {R : r_S} {p j : Nat} {t : Int32} (x : CX b L Z K R p j) (hb : b < 1999999990) : AN (b + 1) L Z (16 * p + j) (km_X0_waitUntil L K 0 t) (rm_X12_waitsUntil R (nI (16 * p + j)) t) := by
  have x' := x
  obtain ⟨w, ⟨hp, hj⟩, ⟨-, p1, p2, p3⟩, hnow, h1, hm, -⟩ := x
  have cq := WR_cq w
  have np16 := CQ_np cq
  have n16 := CQ_nq cq p hp
  have hq := CQ_hq cq hp hj
  by_cases cl : 0 < r_A R 2486 p ∨ r_A R 2442 p = nI (16 * p + j)
  · refine AN_i 3 K R (WR_w w (by omega)) p3 (fun Q hQ => ke_may x' ?_) (fun Q hQ => re_waitsUL (by omega) (by omega) cl hQ)
    rw [if_pos cl]
    exact ⟨fun z => absurd z (by decide), fun _ => hQ⟩
  · have nl : ¬ 0 < r_A R 2486 p := fun z => cl (Or.inl z)
    have nh : r_A R 2442 p ≠ nI (16 * p + j) := fun z => cl (Or.inr z)
    refine AN_i 0 (k_wt K p (16 * p + j) 128 t) (r_wu R (16 * p + j) t) ?_ p3 (fun Q hQ => ke_may x' ?_) (fun Q hQ => re_waitsU (by omega) (by omega) nl nh hQ)
    · exact WR_wu w (by omega) hp hj h1 hm ((PD_lk w hp).1.trans ((i_0 (PD_lk w hp).2).mp nl)) (fun z => nh (hq.mpr z))
    · rw [if_neg cl]
      refine ⟨fun _ => ⟨p, p1, (CQ_p cq hp).1, ?_⟩, fun z => absurd rfl z⟩
      rw [p2]
      exact ke_makeWait (CQ_q cq hp hj).1 hQ
/-- another is started -/
theorem AN_startO {b : Nat} {L : c_L} {Z : z_C} {K : c_S} {R : r_S} {p j : Nat} {a d : Int32} (x : CX b L Z K R p j) (hb : b < 1999999980) (d0 : 0 ≤ d.toInt) (d1 : d.toInt ≤ 100000) : AN (b + 1) L Z (16 * p + j) (km_X0_startOther L K 0 a d) (rm_X12_starts R (nI p) a (r_I R 2463 + d)) := by
  obtain ⟨w, ⟨hp, hj⟩, ⟨-, p1, p2, p3⟩, hnow, h1, hm, -⟩ := x
  have cq := WR_cq w
  have np16 := CQ_np cq
  have n16 := CQ_nq cq p hp
  obtain ⟨m5, -, hn, hn2⟩ := CQ_p cq hp
  have ht := w.2.2.2.1.1
  have ed := i_add (x := r_I R 2463) (y := d) ht.1 d0 (by omega)
  rcases pk_ix a (n := z_nq Z p) (by omega) with ha | ha | ⟨i, hi, rfl⟩
  · exact AN_i 1 K R (WR_w w (by omega)) p3 (fun Q hQ => ⟨p, p1, m5, ke_processAt0 hn (Or.inl ha) ⟨fun z => absurd rfl z, fun _ => hQ⟩⟩) (fun Q hQ => re_isProcess0 (by omega) hn2 (Or.inl ha) ⟨_, rfl, fun z => absurd rfl z, fun _ => hQ⟩)
  · exact AN_i 1 K R (WR_w w (by omega)) p3 (fun Q hQ => ⟨p, p1, m5, ke_processAt0 hn (p_no (Or.inr ha)) ⟨fun z => absurd rfl z, fun _ => hQ⟩⟩) (fun Q hQ => re_isProcess0 (by omega) hn2 (Or.inr ha) ⟨_, rfl, fun z => absurd rfl z, fun _ => hQ⟩)
  · obtain ⟨mi, -, hnum, hfl⟩ := CQ_q cq hp hi
    have es : c_I K 1409 (16 * p + i) = r_A R 2467 (16 * p + i) := (DP_w w hp hi).1.2.1
    have hq := CQ_hq cq hp hi
    have kpre : ∀ Q : Int32 → c_S → Prop, ((c_I K 1409 (16 * p + i) = 0 → ((c_I K 1407 (16 * p + i) = 0 → ∃ a15_ : Nat, c_P K 1 0 = some a15_ ∧ (c_mk L 5 a15_ ∧ km_X5_start L K a15_ (some (16 * p + i)) (c_I K 4 0 + d) (c_I K 4 0) (fun S19_ => Q 0 S19_))) ∧ (¬ c_I K 1407 (16 * p + i) = 0 → Q 1 K))) ∧ (¬ c_I K 1409 (16 * p + i) = 0 → Q 2 K)) → km_X0_startOther L K 0 (nI i) d Q := fun Q hh => ⟨p, p1, m5, ke_processAt hn hi n16 mi ⟨fun _ => ⟨_, rfl, mi, hh⟩, fun z => (by cases z)⟩⟩
    have rpre : ∀ Q : Option Value → r_S → Prop, ((r_A R 2467 (16 * p + i) = 0 → rm_X12_isHandler R (nI (16 * p + i)) (fun r12_ S13_ => ∃ x14_ : Int32, r12_ = some (.int x14_) ∧ ((x14_ = 0 → rm_X12_startsAt S13_ (nI (16 * p + i)) (r_I R 2463 + d) (fun r17_ S18_ => r17_ = none ∧ Q (some (.int 0)) S18_)) ∧ (¬ x14_ = 0 → Q (some (.int 1)) S13_)))) ∧ (¬ r_A R 2467 (16 * p + i) = 0 → Q (some (.int 2)) R)) → rm_X12_starts R (nI p) (nI i) (r_I R 2463 + d) Q := fun Q hh => re_isProcess1 (by omega) hn2 n16 hi ⟨_, rfl, fun _ => by
      rw [q_16]
      refine ⟨ri_v (n := 256) rfl (by omega) (by decide), ?_⟩
      rw [nI_clamp (by omega)]
      exact hh, fun z => absurd z (by decide)⟩
    by_cases c0 : r_A R 2467 (16 * p + i) = 0
    · by_cases ch : z_hd Z p = some i
      · refine AN_i 1 K R (WR_w w (by omega)) p3 (fun Q hQ => kpre Q ⟨fun _ => ⟨fun z => ?_, fun _ => hQ⟩, fun z => absurd (es.trans c0) z⟩) (fun Q hQ => rpre Q ⟨fun _ => re_isHandler1 (by omega) (by omega) (hq.mpr ch) ⟨_, rfl, fun z => absurd z (by decide), fun _ => hQ⟩, fun z => absurd c0 z⟩)
        rw [hfl, if_pos ch] at z
        exact absurd z (by decide)
      · have hlk : c_I K 1013 p = 0 ∨ c_I K 1014 p ≠ nI i := by
          by_cases e : c_I K 1013 p = 0
          · exact Or.inl e
          · obtain ⟨i', a1, a2, a3, a4, a5⟩ := (PD_v w.2.2.2.2.1 hp).2.2.2.2.1 e
            refine Or.inr (fun z => ?_)
            have : i' = i := (nI_eq (by omega) (by omega)).mp ((show c_I K 1014 p = nI i' from a3).symm.trans z)
            rw [this] at a5
            exact absurd (a5.symm.trans c0) (by decide)
        obtain ⟨K', R', g1, g2, g3, -, -, -, -, g8⟩ := P_start (t := r_I R 2463 + d) w (by omega) hp hi hm (by omega) (by omega) (Or.inr ⟨hlk, ch⟩)
        refine AN_i 0 K' R' g3 ((g8 3 0).trans p3) (fun Q hQ => kpre Q ⟨fun _ => ⟨fun _ => ⟨p, p1, m5, ?_⟩, fun z => ?_⟩, fun z => absurd (es.trans c0) z⟩) (fun Q hQ => rpre Q ⟨fun _ => re_isHandler0 (by omega) (by omega) (fun z => ch (hq.mp z)) ⟨_, rfl, fun _ => g2 _ ⟨rfl, hQ⟩, fun z => absurd rfl z⟩, fun z => absurd c0 z⟩)
        · rw [hnow]; exact g1 _ hQ
        · exact absurd (by rw [hfl, if_neg ch]) z
    · exact AN_i 2 K R (WR_w w (by omega)) p3 (fun Q hQ => kpre Q ⟨fun z => absurd (es.symm.trans z) c0, fun _ => hQ⟩) (fun Q hQ => rpre Q ⟨fun z => absurd z c0, fun _ => hQ⟩)
/-- another is stopped -/
theorem AN_stopO {b : Nat} {L : c_L} {Z : z_C} {K : c_S} {R : r_S} {p j : Nat} {a : Int32} (x : CX b L Z K R p j) (hb : b < 1999999980) : AN (b + 2) L Z (16 * p + j) (km_X0_stopOther L K 0 a) (rm_X12_stops R (nI p) (nI (16 * p + j)) a) := by
  obtain ⟨w, ⟨hp, hj⟩, ⟨-, p1, p2, p3⟩, hnow, h1, hm, -⟩ := x
  have cq := WR_cq w
  have np16 := CQ_np cq
  have n16 := CQ_nq cq p hp
  obtain ⟨m5, -, hn, hn2⟩ := CQ_p cq hp
  have mq := (CQ_q cq hp hj).1
  rcases pk_ix a (n := z_nq Z p) (by omega) with ha | ha | ⟨i, hi, rfl⟩
  · exact AN_i 1 K R (WR_w w (by omega)) p3 (fun Q hQ => ⟨p, p1, m5, ke_processAt0 hn (Or.inl ha) ⟨fun _ => hQ, fun z => absurd rfl z⟩⟩) (fun Q hQ => re_isProcess0 (by omega) hn2 (Or.inl ha) ⟨_, rfl, fun _ => hQ, fun z => absurd rfl z⟩)
  · exact AN_i 1 K R (WR_w w (by omega)) p3 (fun Q hQ => ⟨p, p1, m5, ke_processAt0 hn (p_no (Or.inr ha)) ⟨fun _ => hQ, fun z => absurd rfl z⟩⟩) (fun Q hQ => re_isProcess0 (by omega) hn2 (Or.inr ha) ⟨_, rfl, fun _ => hQ, fun z => absurd rfl z⟩)
  · obtain ⟨mi, -, hnum, hfl⟩ := CQ_q cq hp hi
    have es : c_I K 1409 (16 * p + i) = r_A R 2467 (16 * p + i) := (DP_w w hp hi).1.2.1
    have hq := CQ_hq cq hp hi
    by_cases ch : z_hd Z p = some i
    · refine AN_i 1 K R (WR_w w (by omega)) p3 (fun Q hQ => ⟨p, p1, m5, ke_processAt hn hi n16 mi ⟨fun _ => hQ, fun _ => ⟨_, rfl, mi, fun z => ?_, fun _ => hQ⟩⟩⟩) (fun Q hQ => re_isProcess1 (by omega) hn2 n16 hi ⟨_, rfl, fun z => absurd z (by decide), fun _ => ?_⟩)
      · rw [hfl, if_pos ch] at z
        exact absurd z (by decide)
      · rw [q_16]
        exact re_isHandler1 (by omega) (by omega) (hq.mpr ch) ⟨_, rfl, fun z => absurd z (by decide), fun _ => hQ⟩
    · by_cases c0 : r_A R 2467 (16 * p + i) = 0
      · refine AN_i 2 K R (WR_w w (by omega)) p3 (fun Q hQ => ⟨p, p1, m5, ke_processAt hn hi n16 mi ⟨fun z => (by cases z), fun _ => ⟨_, rfl, mi, fun _ => ⟨fun z => absurd (es.trans c0) z, fun _ => hQ⟩, fun z => ?_⟩⟩⟩) (fun Q hQ => re_isProcess1 (by omega) hn2 n16 hi ⟨_, rfl, fun z => absurd z (by decide), fun _ => ?_⟩)
        · exact absurd (by rw [hfl, if_neg ch]) z
        · rw [q_16]
          refine re_isHandler0 (by omega) (by omega) (fun z => ch (hq.mp z)) ⟨_, rfl, fun _ => ⟨ri_v (n := 256) rfl (by omega) (by decide), ?_⟩, fun z => absurd rfl z⟩
          rw [nI_clamp (by omega)]
          exact ⟨fun z => absurd c0 z, fun _ => hQ⟩
      · obtain ⟨K', R', g1, g2, g3, g4⟩ := P_rest w (by omega) hp hi
        have kpre : ∀ (v : Int32) (Q : Int32 → c_S → Prop), ((¬ some (16 * p + i) = c_P K' 2 0 → Q 0 K') ∧ (some (16 * p + i) = c_P K' 2 0 → Q (-1) K')) → km_X0_stopOther L K 0 (nI i) Q := fun v Q hh => ⟨p, p1, m5, ke_processAt hn hi n16 mi ⟨fun z => (by cases z), fun _ => ⟨_, rfl, mi, fun _ => ⟨fun _ => ⟨p, p1, m5, g1 _ ⟨fun i' hi' => (by injection hi' with hi'; rw [← hi']; exact mi), fun i' hi' => (by
            rw [g4, p2] at hi'
            injection hi' with hi'
            rw [← hi']; exact mq), hh⟩⟩, fun z => absurd (es.symm.trans z) c0⟩, fun z => absurd (by rw [hfl, if_neg ch]) z⟩⟩⟩
        have rpre : ∀ Q : Option Value → r_S → Prop, ((¬ nI (16 * p + i) = nI (16 * p + j) → Q (some (.int 0)) R') ∧ (nI (16 * p + i) = nI (16 * p + j) → Q (some (.int (-1))) R')) → rm_X12_stops R (nI p) (nI (16 * p + j)) (nI i) Q := fun Q hh => re_isProcess1 (by omega) hn2 n16 hi ⟨_, rfl, fun z => absurd z (by decide), fun _ => by
          rw [q_16]
          refine re_isHandler0 (by omega) (by omega) (fun z => ch (hq.mp z)) ⟨_, rfl, fun _ => ⟨ri_v (n := 256) rfl (by omega) (by decide), ?_⟩, fun z => absurd rfl z⟩
          rw [nI_clamp (by omega)]
          exact ⟨fun _ => g2 _ ⟨rfl, hh⟩, fun z => absurd z c0⟩⟩
        by_cases cij : i = j
        · subst cij
          refine AN_i (-1) K' R' g3 ((g4 3 0).trans p3) (fun Q hQ => kpre 0 Q ⟨fun z => absurd (by rw [g4, p2]) z, fun _ => hQ⟩) (fun Q hQ => rpre Q ⟨fun z => absurd rfl z, fun _ => hQ⟩)
        · refine AN_i 0 K' R' g3 ((g4 3 0).trans p3) (fun Q hQ => kpre 0 Q ⟨fun _ => hQ, fun z => ?_⟩) (fun Q hQ => rpre Q ⟨fun _ => hQ, fun z => ?_⟩)
          · rw [g4, p2] at z
            injection z with z
            exact absurd (by omega) cij
          · have := (nI_eq (by omega) (by omega)).mp z
            exact absurd (by omega) cij
/-- another priority -/
theorem AN_prio {b : Nat} {L : c_L} {Z : z_C} {K : c_S} {R : r_S} {p j : Nat} {a c : Int32} (x : CX b L Z K R p j) : AN b L Z (16 * p + j) (km_X0_ofProcesses L K 0 5 a c) (rm_X12_ofProcesses R 5 (nI p) (nI (16 * p + j)) a c) := by
  obtain ⟨w, ⟨hp, hj⟩, ⟨-, p1, p2, p3⟩, hnow, h1, hm, -⟩ := x
  have cq := WR_cq w
  have np16 := CQ_np cq
  have n16 := CQ_nq cq p hp
  obtain ⟨m5, -, hn, hn2⟩ := CQ_p cq hp
  have kp : ∀ Q : Int32 → c_S → Prop, km_X0_setPriority L K 0 a c (fun x S => Q x S) → km_X0_ofProcesses L K 0 5 a c Q := fun Q h => ⟨fun z => absurd z (by decide), fun z => absurd z (by decide), fun z => absurd z (by decide), fun z => absurd z (by decide), fun z => absurd z (by decide), fun z => absurd z (by decide), fun _ => h, fun z => absurd z (by decide)⟩
  have rp : ∀ Q : Option Value → r_S → Prop, rm_X12_isProcess R (nI p) a (fun r34_ S35_ => ∃ x36_ : Int32, r34_ = some (.int x36_) ∧ ((x36_ = 0 → rb_X12_ofProcesses_140 S35_ Q) ∧ (¬ x36_ = 0 → ((c < 0 → rb_X12_ofProcesses_140 S35_ Q) ∧ (¬ c < 0 → ((c ≤ (15 : Int32) → vp_in (((16 : Int32) * nI p) + a) (r_N 2469) ∧ Q (some (.int (0 : Int32))) (rs_A S35_ 2469 (((16 : Int32) * nI p) + a).toNatClampNeg c)) ∧ (¬ c ≤ (15 : Int32) → rb_X12_ofProcesses_140 S35_ Q))))))) → rm_X12_ofProcesses R 5 (nI p) (nI (16 * p + j)) a c Q := fun Q h => ⟨fun z => absurd z (by decide), fun z => absurd z (by decide), fun z => absurd z (by decide), fun z => absurd z (by decide), fun z => absurd z (by decide), fun z => absurd z (by decide), fun _ => h, fun z => absurd z (by decide)⟩
  rcases pk_ix a (n := z_nq Z p) (by omega) with ha | ha | ⟨i, hi, rfl⟩
  · exact AN_i 1 K R w p3 (fun Q hQ => kp Q ⟨p, p1, m5, ke_processAt0 hn (Or.inl ha) ⟨fun _ => hQ, fun z => absurd rfl z⟩⟩) (fun Q hQ => rp Q (re_isProcess0 (by omega) hn2 (Or.inl ha) ⟨_, rfl, fun _ => hQ, fun z => absurd rfl z⟩))
  · exact AN_i 1 K R w p3 (fun Q hQ => kp Q ⟨p, p1, m5, ke_processAt0 hn (p_no (Or.inr ha)) ⟨fun _ => hQ, fun z => absurd rfl z⟩⟩) (fun Q hQ => rp Q (re_isProcess0 (by omega) hn2 (Or.inr ha) ⟨_, rfl, fun _ => hQ, fun z => absurd rfl z⟩))
  · obtain ⟨mi, -, hnum, hfl⟩ := CQ_q cq hp hi
    by_cases c1 : c < 0
    · exact AN_i 1 K R w p3 (fun Q hQ => kp Q ⟨p, p1, m5, ke_processAt hn hi n16 mi ⟨fun z => (by cases z), fun _ => ⟨fun _ => hQ, fun z => absurd c1 z⟩⟩⟩) (fun Q hQ => rp Q (re_isProcess1 (by omega) hn2 n16 hi ⟨_, rfl, fun z => absurd z (by decide), fun _ => ⟨fun _ => hQ, fun z => absurd c1 z⟩⟩))
    · by_cases c2 : c ≤ 15
      · refine AN_i 0 (k_pr K p (16 * p + i) c) (r_pr R (16 * p + i) c) (WR_pr w hp hi) p3 (fun Q hQ => kp Q ⟨p, p1, m5, ke_processAt hn hi n16 mi ⟨fun z => (by cases z), fun _ => ⟨fun z => absurd z c1, fun _ => ⟨fun _ => ⟨_, rfl, mi, hQ⟩, fun z => absurd c2 z⟩⟩⟩⟩) (fun Q hQ => rp Q (re_isProcess1 (by omega) hn2 n16 hi ⟨_, rfl, fun z => absurd z (by decide), fun _ => ⟨fun z => absurd z c1, fun _ => ⟨fun _ => ?_, fun z => absurd c2 z⟩⟩⟩))
        rw [q_16, nI_clamp (by omega)]
        exact ⟨ri_v (n := 256) rfl (by omega) (by decide), hQ⟩
      · exact AN_i 1 K R w p3 (fun Q hQ => kp Q ⟨p, p1, m5, ke_processAt hn hi n16 mi ⟨fun z => (by cases z), fun _ => ⟨fun z => absurd z c1, fun _ => ⟨fun z => absurd z c2, fun _ => hQ⟩⟩⟩⟩) (fun Q hQ => rp Q (re_isProcess1 (by omega) hn2 n16 hi ⟨_, rfl, fun z => absurd z (by decide), fun _ => ⟨fun z => absurd z c1, fun _ => ⟨fun z => absurd z c2, fun _ => hQ⟩⟩⟩))
