/-! Calls 8 .. 12: semaphores and events; 15 .. 17: boards. -/
theorem i_sub1 {x : Int32} (h : 0 < x.toInt) : (x - 1).toInt = x.toInt - 1 := by
  obtain ⟨n, hn, rfl⟩ := nI_of (x := x) (fun z => by have := i_lt0.mp z; omega)
  rw [nI_toInt hn] at h ⊢
  rw [show (1 : Int32) = nI 1 from rfl, pk_sub (by omega), nI_toInt (by omega)]
  omega
/-- the first that waits for a thing, on both sides -/
theorem fw_thing {b : Nat} {L : c_L} {Z : z_C} {K : c_S} {R : r_S} {p s k : Nat} {fifo : Int32} (w : WR b L Z K R) (hp : p < z_np Z) (hs : 1 ≤ s ∧ s ≤ 5) (hk : k < 8) : (∀ Q : Option Nat → c_S → Prop, Q ((k_fw K p (z_nq Z p) (nI (b_co s + k)) fifo).map (fun i => 16 * p + i)) K → km_X5_firstWaiting L K p (nI (b_co s + k)) fifo Q) ∧ (∀ Q : Option Value → r_S → Prop, Q (some (.int (o_i ((k_fw K p (z_nq Z p) (nI (b_co s + k)) fifo).map (fun i => 16 * p + i))))) R → rm_X12_waiter R (nI s) (nI (8 * p + k)) fifo Q) ∧ ∀ i : Nat, k_fw K p (z_nq Z p) (nI (b_co s + k)) fifo = some i → i < z_nq Z p ∧ r_A R 2467 (16 * p + i) = 2 ∧ r_A R 2478 (16 * p + i) = nI s ∧ r_A R 2478 (16 * p + i) ≠ 0 := by
  have cq := WR_cq w
  have n16 := CQ_nq cq p hp
  obtain ⟨m5, -, hn, hn2⟩ := CQ_p cq hp
  have s0 : nI s ≠ 0 := fun z => by
    rw [show (0 : Int32) = nI 0 from rfl, nI_eq (by omega) (by omega)] at z
    omega
  have e := fw_eq (fifo := fifo) w hp s0 (fun i hi => mt_thing w hp hi hs hk) (fun q hq ho => mt_other w hp hq ho (Or.inl ⟨s, k, hs, hk, rfl, rfl⟩))
  refine ⟨fun Q hQ => ke_fw hn n16 (fun i hi => (CQ_q cq hp hi).1) hQ, fun Q hQ => re_fw (by rw [e]; exact hQ), fun i hi => ?_⟩
  obtain ⟨h1, h2⟩ := b_fw_lt hi
  have h3 := (mt_thing w hp h1 hs hk).mp (of_decide_eq_true h2)
  unfold r_mt at h3
  rw [decide_eq_true_eq] at h3
  exact ⟨h1, h3.1, h3.2.1, fun z => s0 (h3.2.1.symm.trans z)⟩
theorem AN_8 {b : Nat} {L : c_L} {Z : z_C} {K : c_S} {R : r_S} {p j : Nat} {a bb c : Int32} (x : CX b L Z K R p j) (hb : b < 1999999900) : AN (b + 16) L Z (16 * p + j) (km_X0_ofSignals L K 0 8 a bb) (rm_X12_ofThings R 8 (nI p) (nI (16 * p + j)) a bb c) := by
  have x' := x
  obtain ⟨w, ⟨hp, hj⟩, ⟨p0, p1, p2, p3⟩, hnow, h1, hm, m6⟩ := x
  have cq := WR_cq w
  have ct := WR_ct w
  have np16 := CQ_np cq
  have n16 := CQ_nq cq p hp
  have m5 := (CQ_p cq hp).1
  have nb := NT_of ct p hp
  have thp := TH_v w.1.2.1 hp
  have q256 : 16 * p + j < 256 := by omega
  have mq := (CQ_q cq hp hj).1
  rcases pk_ix a (n := z_nt Z p 0) (by omega) with ha | ha | ⟨k, hk, rfl⟩
  · exact AN_i 1 K R (WR_w w (by omega)) p3 (fun Q hQ => ⟨fun z => absurd z (by decide), fun _ => ⟨p, p1, m5, ke_thingAt0 (s := 0) ct hp (by decide) (Or.inl ha) ⟨fun z => absurd rfl z, fun _ => hQ⟩⟩⟩) (fun Q hQ => re_th8n ct np16 hp (Or.inl ha) hQ)
  · exact AN_i 1 K R (WR_w w (by omega)) p3 (fun Q hQ => ⟨fun z => absurd z (by decide), fun _ => ⟨p, p1, m5, ke_thingAt0 (s := 0) ct hp (by decide) (Or.inr ha) ⟨fun z => absurd rfl z, fun _ => hQ⟩⟩⟩) (fun Q hQ => re_th8n ct np16 hp (Or.inr ha) hQ)
  · have hk8 : k < 8 := by omega
    have e48 : 48 * p + (8 * 0 + k) = 48 * p + k := by omega
    have mt : c_mk L 10 (48 * p + k) := by have := (CT_n ct hp (s := 0) (by decide)).2.2.2 k hk; rw [e48] at this; exact this
    have c128 := nI_clamp (n := 8 * p + k) (by omega)
    obtain ⟨t1, t2, t3⟩ := thp.1 k hk
    by_cases ht : bb < -1 ∨ 100000 < bb
    · exact AN_i 1 K R (WR_w w (by omega)) p3 (fun Q hQ => ⟨fun z => absurd z (by decide), fun _ => ⟨p, p1, m5, ke_thingAt (s := 0) ct hp (by decide) hk (by rw [e48]; exact ⟨fun _ => ⟨fun z => absurd z (by decide), fun _ => ke_isNoTime (by rw [if_pos ht]; exact ⟨fun z => absurd z (by decide), fun _ => hQ⟩), fun z => absurd z (by decide), fun z => absurd z (by decide), fun z => absurd z (by decide)⟩, fun z => (by cases z)⟩)⟩⟩) (fun Q hQ => re_th8x ct np16 hp hk ht hQ)
    · by_cases c0 : r_A R 2492 (8 * p + k) = 0
      · have n0 : ¬ 0 < c_I K 2001 (48 * p + k) := by rw [t1, c0]; decide
        refine AN_w (AN_m (AN_waitT (s := 1) (k := k) (t := bb) x' (by omega) (by decide) (by decide) hk8) (fun Q h => ⟨fun z => absurd z (by decide), fun _ => ⟨p, p1, m5, ke_thingAt (s := 0) ct hp (by decide) hk (by rw [e48]; exact ⟨fun _ => ⟨fun z => absurd z (by decide), fun _ => ke_isNoTime (by rw [if_neg ht]; exact ⟨fun _ => ⟨_, rfl, mt, fun z => absurd z n0, fun _ => by rw [show (0 : Int32) + nI k = nI (b_co 1 + k) from nI_add 0 k]; exact h⟩, fun z => absurd rfl z⟩), fun z => absurd z (by decide), fun z => absurd z (by decide), fun z => absurd z (by decide)⟩, fun z => (by cases z)⟩)⟩⟩) (fun Q h => re_th8 ct np16 hp hk ht ⟨fun z => absurd z (by decide), fun _ => ⟨ri_v (n := 128) rfl (by omega) (by decide), by rw [c128]; exact ⟨fun z => absurd c0 z, fun _ => h⟩⟩, fun z => absurd z (by decide), fun z => absurd z (by decide), fun z => absurd z (by decide), fun z => absurd z (by decide), fun z => absurd z (by decide), fun z => absurd z (by decide), fun z => absurd z (by decide), fun z => absurd z (by decide)⟩)) (by omega)
      · have n0 : 0 < c_I K 2001 (48 * p + k) := Classical.byContradiction fun z => c0 ((i_0 t2).mp (t1 ▸ z))
        have pz : 0 < (r_A R 2492 (8 * p + k)).toInt := by rw [t1] at n0; exact i_lt.mp n0
        have e1 := i_sub1 pz
        refine AN_i 0 _ _ (WR_w (WR_sem (v := r_A R 2492 (8 * p + k) - 1) w hp hk ⟨by omega, by omega⟩) (by omega)) p3 (fun Q hQ => ⟨fun z => absurd z (by decide), fun _ => ⟨p, p1, m5, ke_thingAt (s := 0) ct hp (by decide) hk (by rw [e48]; exact ⟨fun _ => ⟨fun z => absurd z (by decide), fun _ => ke_isNoTime (by rw [if_neg ht]; exact ⟨fun _ => ⟨_, rfl, mt, fun _ => by rw [t1]; exact hQ, fun z => absurd n0 z⟩, fun z => absurd rfl z⟩), fun z => absurd z (by decide), fun z => absurd z (by decide), fun z => absurd z (by decide)⟩, fun z => (by cases z)⟩)⟩⟩) (fun Q hQ => re_th8 ct np16 hp hk ht ⟨fun z => absurd z (by decide), fun _ => ⟨ri_v (n := 128) rfl (by omega) (by decide), by rw [c128]; exact ⟨fun _ => ⟨ri_v (n := 128) rfl (by omega) (by decide), ri_v (n := 128) rfl (by omega) (by decide), hQ⟩, fun z => absurd z c0⟩⟩, fun z => absurd z (by decide), fun z => absurd z (by decide), fun z => absurd z (by decide), fun z => absurd z (by decide), fun z => absurd z (by decide), fun z => absurd z (by decide), fun z => absurd z (by decide), fun z => absurd z (by decide)⟩)
theorem AN_9 {b : Nat} {L : c_L} {Z : z_C} {K : c_S} {R : r_S} {p j : Nat} {a bb c : Int32} (x : CX b L Z K R p j) (hb : b < 1999999900) : AN (b + 16) L Z (16 * p + j) (km_X0_ofSignals L K 0 9 a bb) (rm_X12_ofThings R 9 (nI p) (nI (16 * p + j)) a bb c) := by
  have x' := x
  obtain ⟨w, ⟨hp, hj⟩, ⟨p0, p1, p2, p3⟩, hnow, h1, hm, m6⟩ := x
  have cq := WR_cq w
  have ct := WR_ct w
  have np16 := CQ_np cq
  have n16 := CQ_nq cq p hp
  have m5 := (CQ_p cq hp).1
  have nb := NT_of ct p hp
  have thp := TH_v w.1.2.1 hp
  have q256 : 16 * p + j < 256 := by omega
  have mq := (CQ_q cq hp hj).1
  rcases pk_ix a (n := z_nt Z p 0) (by omega) with ha | ha | ⟨k, hk, rfl⟩
  · exact AN_i 1 K R (WR_w w (by omega)) p3 (fun Q hQ => ⟨fun z => absurd z (by decide), fun _ => ⟨p, p1, m5, ke_thingAt0 (s := 0) ct hp (by decide) (Or.inl ha) ⟨fun z => absurd rfl z, fun _ => hQ⟩⟩⟩) (fun Q hQ => re_th9n ct np16 hp (Or.inl ha) hQ)
  · exact AN_i 1 K R (WR_w w (by omega)) p3 (fun Q hQ => ⟨fun z => absurd z (by decide), fun _ => ⟨p, p1, m5, ke_thingAt0 (s := 0) ct hp (by decide) (Or.inr ha) ⟨fun z => absurd rfl z, fun _ => hQ⟩⟩⟩) (fun Q hQ => re_th9n ct np16 hp (Or.inr ha) hQ)
  · have hk8 : k < 8 := by omega
    have e48 : 48 * p + (8 * 0 + k) = 48 * p + k := by omega
    have mt : c_mk L 10 (48 * p + k) := by have := (CT_n ct hp (s := 0) (by decide)).2.2.2 k hk; rw [e48] at this; exact this
    have c128 := nI_clamp (n := 8 * p + k) (by omega)
    have v128 : ∀ f : Nat, r_N f = 128 → vp_in (nI (8 * p + k)) (r_N f) := fun f hf => ri_v hf (by omega) (by decide)
    obtain ⟨t1, t2, t3⟩ := thp.1 k hk
    obtain ⟨q1, q2, q3, q4, q5, q6⟩ := ((ct p hp).2.1 k hk)
    have q2 : c_I K 2003 (48 * p + k) = r_A R 2444 (8 * p + k) := q2
    have q3 : c_I K 2004 (48 * p + k) = r_A R 2445 (8 * p + k) := q3
    have q6 : (r_A R 2444 (8 * p + k)).toInt ≤ 100 := q6
    obtain ⟨f1, f2, f3⟩ := fw_thing (s := 1) (k := k) (fifo := r_A R 2445 (8 * p + k)) w hp (by decide) hk8
    have kpre : ∀ Q : Int32 → c_S → Prop, (∀ o : Option Nat, o = (k_fw K p (z_nq Z p) (nI (b_co 1 + k)) (r_A R 2445 (8 * p + k))).map (fun i => 16 * p + i) → ((o = none → ((c_I K 2001 (48 * p + k) < c_I K 2003 (48 * p + k) → Q 0 (cs_I K 2001 (48 * p + k) (c_I K 2001 (48 * p + k) + 1))) ∧ (¬ c_I K 2001 (48 * p + k) < c_I K 2003 (48 * p + k) → Q 2 K))) ∧ (¬ o = none → km_X5_answerWaiter L K p o 0 (fun S19_ => Q 0 S19_)))) → km_X0_ofSignals L K 0 9 (nI k) bb Q := fun Q h => ⟨fun z => absurd z (by decide), fun _ => ⟨p, p1, m5, ke_thingAt (s := 0) ct hp (by decide) hk (by rw [e48]; exact ⟨fun _ => ⟨fun z => absurd z (by decide), fun z => absurd z (by decide), fun _ => ⟨_, rfl, mt, p, p1, m5, by rw [show (0 : Int32) + nI k = nI (b_co 1 + k) from nI_add 0 k, q3]; exact f1 _ ⟨(h _ rfl).1, fun z => ⟨p, p1, m5, (h _ rfl).2 z⟩⟩⟩, fun z => absurd z (by decide), fun z => absurd z (by decide)⟩, fun z => (by cases z)⟩)⟩⟩
    have rpre : ∀ Q : Option Value → r_S → Prop, (∀ o : Option Nat, o = (k_fw K p (z_nq Z p) (nI (b_co 1 + k)) (r_A R 2445 (8 * p + k))).map (fun i => 16 * p + i) → ((o_i o = -1 → ((¬ r_A R 2492 (8 * p + k) = r_A R 2444 (8 * p + k) → Q (some (.int 0)) (rs_A R 2492 (8 * p + k) (r_A R 2492 (8 * p + k) + 1))) ∧ (r_A R 2492 (8 * p + k) = r_A R 2444 (8 * p + k) → Q (some (.int 2)) R))) ∧ (¬ o_i o = -1 → rm_X12_gets R (o_i o) (fun r51_ S52_ => r51_ = none ∧ Q (some (.int 0)) S52_)))) → rm_X12_ofThings R 9 (nI p) (nI (16 * p + j)) (nI k) bb c Q := fun Q h => re_th9 ct np16 hp hk ⟨fun z => absurd z (by decide), fun z => absurd z (by decide), fun _ => ⟨v128 _ rfl, by rw [c128]; exact f2 _ ⟨_, rfl, fun z => ⟨v128 _ rfl, v128 _ rfl, ⟨fun z2 => ⟨v128 _ rfl, v128 _ rfl, ((h _ rfl).1 z).1 z2⟩, ((h _ rfl).1 z).2⟩⟩, fun z => (h _ rfl).2 z⟩⟩, fun z => absurd z (by decide), fun z => absurd z (by decide), fun z => absurd z (by decide), fun z => absurd z (by decide), fun z => absurd z (by decide), fun z => absurd z (by decide), fun z => absurd z (by decide)⟩
    cases e : k_fw K p (z_nq Z p) (nI (b_co 1 + k)) (r_A R 2445 (8 * p + k)) with
    | none =>
      by_cases cm : r_A R 2492 (8 * p + k) = r_A R 2444 (8 * p + k)
      · refine AN_i 2 K R (WR_w w (by omega)) p3 (fun Q hQ => kpre Q (fun o ho => ?_)) (fun Q hQ => rpre Q (fun o ho => ?_))
        · rw [e] at ho; subst ho
          exact ⟨fun _ => ⟨fun z => absurd z (by rw [t1, q2, cm, i_lt]; omega), fun _ => hQ⟩, fun z => absurd rfl z⟩
        · rw [e] at ho; subst ho
          exact ⟨fun _ => ⟨fun z => absurd cm z, fun _ => hQ⟩, fun z => absurd rfl z⟩
      · have lt : (r_A R 2492 (8 * p + k)).toInt < (r_A R 2444 (8 * p + k)).toInt := by
          have : (r_A R 2492 (8 * p + k)).toInt ≠ (r_A R 2444 (8 * p + k)).toInt := fun z => cm (Int32.toInt_inj.mp z)
          omega
        have e1 := i_1 (x := r_A R 2492 (8 * p + k)) t2 (by omega)
        refine AN_i 0 _ _ (WR_w (WR_sem (v := r_A R 2492 (8 * p + k) + 1) w hp hk ⟨by omega, by omega⟩) (by omega)) p3 (fun Q hQ => kpre Q (fun o ho => ?_)) (fun Q hQ => rpre Q (fun o ho => ?_))
        · rw [e] at ho; subst ho
          exact ⟨fun _ => ⟨fun _ => by rw [t1]; exact hQ, fun z => absurd (by rw [t1, q2, i_lt]; exact lt) z⟩, fun z => absurd rfl z⟩
        · rw [e] at ho; subst ho
          exact ⟨fun _ => ⟨fun _ => hQ, fun z => absurd z cm⟩, fun z => absurd rfl z⟩
    | some i =>
      obtain ⟨i1, i2, i3, i4⟩ := f3 i e
      refine AN_i 0 _ _ (WR_w (WR_get (v := 0) w (by omega) hp i1 i2 i4) (by omega)) p3 (fun Q hQ => kpre Q (fun o ho => ?_)) (fun Q hQ => rpre Q (fun o ho => ?_))
      · rw [e] at ho; have ho : o = some (16 * p + i) := ho; subst ho
        exact ⟨fun z => (by cases z), fun _ => ke_answerWaiter (CQ_q cq hp i1).1 hQ⟩
      · rw [e] at ho; have ho : o = some (16 * p + i) := ho; subst ho
        exact ⟨fun z => absurd z (nI_m1 (by omega)), fun _ => re_gets (by omega) ⟨rfl, hQ⟩⟩
theorem AN_10 {b : Nat} {L : c_L} {Z : z_C} {K : c_S} {R : r_S} {p j : Nat} {a bb c : Int32} (x : CX b L Z K R p j) (hb : b < 1999999900) : AN (b + 16) L Z (16 * p + j) (km_X0_ofSignals L K 0 10 a bb) (rm_X12_ofThings R 10 (nI p) (nI (16 * p + j)) a bb c) := by
  have x' := x
  obtain ⟨w, ⟨hp, hj⟩, ⟨p0, p1, p2, p3⟩, hnow, h1, hm, m6⟩ := x
  have cq := WR_cq w
  have ct := WR_ct w
  have np16 := CQ_np cq
  have n16 := CQ_nq cq p hp
  have m5 := (CQ_p cq hp).1
  have nb := NT_of ct p hp
  have thp := TH_v w.1.2.1 hp
  have q256 : 16 * p + j < 256 := by omega
  have mq := (CQ_q cq hp hj).1
  rcases pk_ix a (n := z_nt Z p 1) (by omega) with ha | ha | ⟨k, hk, rfl⟩
  · exact AN_i 1 K R (WR_w w (by omega)) p3 (fun Q hQ => ⟨fun _ => ⟨p, p1, m5, ke_thingAt0 (s := 1) ct hp (by decide) (Or.inl ha) ⟨fun z => absurd rfl z, fun _ => hQ⟩⟩, fun z => absurd (by decide) z⟩) (fun Q hQ => re_th10n ct np16 hp (Or.inl ha) hQ)
  · exact AN_i 1 K R (WR_w w (by omega)) p3 (fun Q hQ => ⟨fun _ => ⟨p, p1, m5, ke_thingAt0 (s := 1) ct hp (by decide) (Or.inr ha) ⟨fun z => absurd rfl z, fun _ => hQ⟩⟩, fun z => absurd (by decide) z⟩) (fun Q hQ => re_th10n ct np16 hp (Or.inr ha) hQ)
  · have hk8 : k < 8 := by omega
    have mt : c_mk L 10 (48 * p + (8 + k)) := (CT_n ct hp (s := 1) (by decide)).2.2.2 k hk
    have c128 := nI_clamp (n := 8 * p + k) (by omega)
    obtain ⟨K', R', g1, g2, g3, g4⟩ := P_wake (s := 2) (k := k) (WR_ev (v := 1) w hp hk (Or.inr rfl)) (by omega) hp (by decide) hk8
    exact AN_i 0 K' R' g3 ((g4 3 0).trans p3) (fun Q hQ => ⟨fun _ => ⟨p, p1, m5, ke_thingAt (s := 1) ct hp (by decide) hk ⟨fun _ => ⟨fun z => absurd z (by decide), fun z => absurd z (by decide), fun z => absurd z (by decide), fun _ => ⟨_, rfl, mt, p, p1, m5, by rw [show (8 : Int32) + nI k = nI (b_co 2 + k) from nI_add 8 k]; exact g1 _ hQ⟩, fun z => absurd z (by decide)⟩, fun z => (by cases z)⟩⟩, fun z => absurd (by decide) z⟩) (fun Q hQ => re_th10 ct np16 hp hk ⟨fun z => absurd z (by decide), fun z => absurd z (by decide), fun z => absurd z (by decide), fun _ => ⟨ri_v (n := 128) rfl (by omega) (by decide), by rw [c128]; exact g2 _ ⟨rfl, hQ⟩⟩, fun z => absurd z (by decide), fun z => absurd z (by decide), fun z => absurd z (by decide), fun z => absurd z (by decide), fun z => absurd z (by decide), fun z => absurd z (by decide)⟩)
theorem AN_11 {b : Nat} {L : c_L} {Z : z_C} {K : c_S} {R : r_S} {p j : Nat} {a bb c : Int32} (x : CX b L Z K R p j) (hb : b < 1999999900) : AN (b + 16) L Z (16 * p + j) (km_X0_ofSignals L K 0 11 a bb) (rm_X12_ofThings R 11 (nI p) (nI (16 * p + j)) a bb c) := by
  have x' := x
  obtain ⟨w, ⟨hp, hj⟩, ⟨p0, p1, p2, p3⟩, hnow, h1, hm, m6⟩ := x
  have cq := WR_cq w
  have ct := WR_ct w
  have np16 := CQ_np cq
  have n16 := CQ_nq cq p hp
  have m5 := (CQ_p cq hp).1
  have nb := NT_of ct p hp
  have thp := TH_v w.1.2.1 hp
  have q256 : 16 * p + j < 256 := by omega
  have mq := (CQ_q cq hp hj).1
  rcases pk_ix a (n := z_nt Z p 1) (by omega) with ha | ha | ⟨k, hk, rfl⟩
  · exact AN_i 1 K R (WR_w w (by omega)) p3 (fun Q hQ => ⟨fun _ => ⟨p, p1, m5, ke_thingAt0 (s := 1) ct hp (by decide) (Or.inl ha) ⟨fun z => absurd rfl z, fun _ => hQ⟩⟩, fun z => absurd (by decide) z⟩) (fun Q hQ => re_th11n ct np16 hp (Or.inl ha) hQ)
  · exact AN_i 1 K R (WR_w w (by omega)) p3 (fun Q hQ => ⟨fun _ => ⟨p, p1, m5, ke_thingAt0 (s := 1) ct hp (by decide) (Or.inr ha) ⟨fun z => absurd rfl z, fun _ => hQ⟩⟩, fun z => absurd (by decide) z⟩) (fun Q hQ => re_th11n ct np16 hp (Or.inr ha) hQ)
  · have mt : c_mk L 10 (48 * p + (8 + k)) := (CT_n ct hp (s := 1) (by decide)).2.2.2 k hk
    have c128 := nI_clamp (n := 8 * p + k) (by omega)
    exact AN_i 0 _ _ (WR_w (WR_ev (v := 0) w hp hk (Or.inl rfl)) (by omega)) p3 (fun Q hQ => ⟨fun _ => ⟨p, p1, m5, ke_thingAt (s := 1) ct hp (by decide) hk ⟨fun _ => ⟨fun z => absurd z (by decide), fun z => absurd z (by decide), fun z => absurd z (by decide), fun z => absurd z (by decide), fun _ => ⟨_, rfl, mt, hQ⟩⟩, fun z => (by cases z)⟩⟩, fun z => absurd (by decide) z⟩) (fun Q hQ => re_th11 ct np16 hp hk ⟨fun z => absurd z (by decide), fun z => absurd z (by decide), fun z => absurd z (by decide), fun z => absurd z (by decide), fun _ => ⟨ri_v (n := 128) rfl (by omega) (by decide), by rw [c128]; exact hQ⟩, fun z => absurd z (by decide), fun z => absurd z (by decide), fun z => absurd z (by decide), fun z => absurd z (by decide), fun z => absurd z (by decide)⟩)
theorem AN_12 {b : Nat} {L : c_L} {Z : z_C} {K : c_S} {R : r_S} {p j : Nat} {a bb c : Int32} (x : CX b L Z K R p j) (hb : b < 1999999900) : AN (b + 16) L Z (16 * p + j) (km_X0_ofSignals L K 0 12 a bb) (rm_X12_ofThings R 12 (nI p) (nI (16 * p + j)) a bb c) := by
  have x' := x
  obtain ⟨w, ⟨hp, hj⟩, ⟨p0, p1, p2, p3⟩, hnow, h1, hm, m6⟩ := x
  have cq := WR_cq w
  have ct := WR_ct w
  have np16 := CQ_np cq
  have n16 := CQ_nq cq p hp
  have m5 := (CQ_p cq hp).1
  have nb := NT_of ct p hp
  have thp := TH_v w.1.2.1 hp
  have q256 : 16 * p + j < 256 := by omega
  have mq := (CQ_q cq hp hj).1
  rcases pk_ix a (n := z_nt Z p 1) (by omega) with ha | ha | ⟨k, hk, rfl⟩
  · exact AN_i 1 K R (WR_w w (by omega)) p3 (fun Q hQ => ⟨fun _ => ⟨p, p1, m5, ke_thingAt0 (s := 1) ct hp (by decide) (Or.inl ha) ⟨fun z => absurd rfl z, fun _ => hQ⟩⟩, fun z => absurd (by decide) z⟩) (fun Q hQ => re_th12n ct np16 hp (Or.inl ha) hQ)
  · exact AN_i 1 K R (WR_w w (by omega)) p3 (fun Q hQ => ⟨fun _ => ⟨p, p1, m5, ke_thingAt0 (s := 1) ct hp (by decide) (Or.inr ha) ⟨fun z => absurd rfl z, fun _ => hQ⟩⟩, fun z => absurd (by decide) z⟩) (fun Q hQ => re_th12n ct np16 hp (Or.inr ha) hQ)
  · have hk8 : k < 8 := by omega
    have mt : c_mk L 10 (48 * p + (8 + k)) := (CT_n ct hp (s := 1) (by decide)).2.2.2 k hk
    have c128 := nI_clamp (n := 8 * p + k) (by omega)
    obtain ⟨t1, t2⟩ := thp.2.1 k hk
    by_cases ht : bb < -1 ∨ 100000 < bb
    · exact AN_i 1 K R (WR_w w (by omega)) p3 (fun Q hQ => ⟨fun _ => ⟨p, p1, m5, ke_thingAt (s := 1) ct hp (by decide) hk ⟨fun _ => ⟨fun _ => ke_isNoTime (by rw [if_pos ht]; exact ⟨fun z => absurd z (by decide), fun _ => hQ⟩), fun z => absurd z (by decide), fun z => absurd z (by decide), fun z => absurd z (by decide), fun z => absurd z (by decide)⟩, fun z => (by cases z)⟩⟩, fun z => absurd (by decide) z⟩) (fun Q hQ => re_th12x ct np16 hp hk ht hQ)
    · by_cases c0 : r_A R 2493 (8 * p + k) = 0
      · exact AN_w (AN_m (AN_waitT (s := 2) (k := k) (t := bb) x' (by omega) (by decide) (by decide) hk8) (fun Q h => ⟨fun _ => ⟨p, p1, m5, ke_thingAt (s := 1) ct hp (by decide) hk ⟨fun _ => ⟨fun _ => ke_isNoTime (by rw [if_neg ht]; exact ⟨fun _ => ⟨_, rfl, mt, fun _ => by rw [show (8 : Int32) + nI k = nI (b_co 2 + k) from nI_add 8 k]; exact h, fun z => absurd (t1.trans c0) z⟩, fun z => absurd rfl z⟩), fun z => absurd z (by decide), fun z => absurd z (by decide), fun z => absurd z (by decide), fun z => absurd z (by decide)⟩, fun z => (by cases z)⟩⟩, fun z => absurd (by decide) z⟩) (fun Q h => re_th12 ct np16 hp hk ht ⟨fun z => absurd z (by decide), fun z => absurd z (by decide), fun z => absurd z (by decide), fun z => absurd z (by decide), fun z => absurd z (by decide), fun _ => ⟨ri_v (n := 128) rfl (by omega) (by decide), by rw [c128]; exact ⟨fun _ => h, fun z => absurd c0 z⟩⟩, fun z => absurd z (by decide), fun z => absurd z (by decide), fun z => absurd z (by decide), fun z => absurd z (by decide)⟩)) (by omega)
      · exact AN_i 0 K R (WR_w w (by omega)) p3 (fun Q hQ => ⟨fun _ => ⟨p, p1, m5, ke_thingAt (s := 1) ct hp (by decide) hk ⟨fun _ => ⟨fun _ => ke_isNoTime (by rw [if_neg ht]; exact ⟨fun _ => ⟨_, rfl, mt, fun z => absurd (t1.symm.trans z) c0, fun _ => hQ⟩, fun z => absurd rfl z⟩), fun z => absurd z (by decide), fun z => absurd z (by decide), fun z => absurd z (by decide), fun z => absurd z (by decide)⟩, fun z => (by cases z)⟩⟩, fun z => absurd (by decide) z⟩) (fun Q hQ => re_th12 ct np16 hp hk ht ⟨fun z => absurd z (by decide), fun z => absurd z (by decide), fun z => absurd z (by decide), fun z => absurd z (by decide), fun z => absurd z (by decide), fun _ => ⟨ri_v (n := 128) rfl (by omega) (by decide), by rw [c128]; exact ⟨fun z => absurd z c0, fun _ => hQ⟩⟩, fun z => absurd z (by decide), fun z => absurd z (by decide), fun z => absurd z (by decide), fun z => absurd z (by decide)⟩)
theorem AN_15 {b : Nat} {L : c_L} {Z : z_C} {K : c_S} {R : r_S} {p j : Nat} {a bb c : Int32} (x : CX b L Z K R p j) (hb : b < 1999999900) : AN (b + 16) L Z (16 * p + j) (km_X0_ofWords L K 0 15 a bb c) (rm_X12_ofThings R 15 (nI p) (nI (16 * p + j)) a bb c) := by
  have x' := x
  obtain ⟨w, ⟨hp, hj⟩, ⟨p0, p1, p2, p3⟩, hnow, h1, hm, m6⟩ := x
  have cq := WR_cq w
  have ct := WR_ct w
  have np16 := CQ_np cq
  have n16 := CQ_nq cq p hp
  have m5 := (CQ_p cq hp).1
  have nb := NT_of ct p hp
  have thp := TH_v w.1.2.1 hp
  have q256 : 16 * p + j < 256 := by omega
  have mq := (CQ_q cq hp hj).1
  rcases pk_ix a (n := z_nt Z p 3) (by omega) with ha | ha | ⟨k, hk, rfl⟩
  · exact AN_i 1 K R (WR_w w (by omega)) p3 (fun Q hQ => ⟨fun _ => ⟨p, p1, m5, ke_thingAt0 (s := 3) ct hp (by decide) (Or.inl ha) ⟨fun z => absurd rfl z, fun _ => hQ⟩⟩, fun z => absurd (by decide) z⟩) (fun Q hQ => re_th15n ct np16 hp (Or.inl ha) hQ)
  · exact AN_i 1 K R (WR_w w (by omega)) p3 (fun Q hQ => ⟨fun _ => ⟨p, p1, m5, ke_thingAt0 (s := 3) ct hp (by decide) (Or.inr ha) ⟨fun z => absurd rfl z, fun _ => hQ⟩⟩, fun z => absurd (by decide) z⟩) (fun Q hQ => re_th15n ct np16 hp (Or.inr ha) hQ)
  · have hk8 : k < 8 := by omega
    have mt : c_mk L 10 (48 * p + (24 + k)) := (CT_n ct hp (s := 3) (by decide)).2.2.2 k hk
    have c128 := nI_clamp (n := 8 * p + k) (by omega)
    obtain ⟨K', R', g1, g2, g3, g4⟩ := P_show (s := 5) (k := k) (v := bb) (WR_b1 (w := bb) w hp hk) (by omega) hp (by decide) hk8
    exact AN_i 0 K' R' g3 ((g4 3 0).trans p3) (fun Q hQ => ⟨fun _ => ⟨p, p1, m5, ke_thingAt (s := 3) ct hp (by decide) hk ⟨fun _ => ⟨fun z => absurd z (by decide), fun z => absurd z (by decide), fun z => absurd z (by decide), fun _ => ⟨_, rfl, mt, p, p1, m5, by rw [show (3 : Int32) * (8 : Int32) + nI k = nI (b_co 5 + k) from nI_add 24 k]; exact g1 _ hQ⟩, fun z => absurd z (by decide)⟩, fun z => (by cases z)⟩⟩, fun z => absurd (by decide) z⟩) (fun Q hQ => re_th15 ct np16 hp hk ⟨fun z => absurd z (by decide), fun z => absurd z (by decide), fun z => absurd z (by decide), fun z => absurd z (by decide), fun z => absurd z (by decide), fun z => absurd z (by decide), fun z => absurd z (by decide), fun z => absurd z (by decide), fun _ => ⟨ri_v (n := 128) rfl (by omega) (by decide), ri_v (n := 128) rfl (by omega) (by decide), by rw [c128]; exact g2 _ ⟨rfl, hQ⟩⟩, fun z => absurd z (by decide)⟩)
theorem AN_16 {b : Nat} {L : c_L} {Z : z_C} {K : c_S} {R : r_S} {p j : Nat} {a bb c : Int32} (x : CX b L Z K R p j) (hb : b < 1999999900) : AN (b + 16) L Z (16 * p + j) (km_X0_ofWords L K 0 16 a bb c) (rm_X12_ofThings R 16 (nI p) (nI (16 * p + j)) a bb c) := by
  have x' := x
  obtain ⟨w, ⟨hp, hj⟩, ⟨p0, p1, p2, p3⟩, hnow, h1, hm, m6⟩ := x
  have cq := WR_cq w
  have ct := WR_ct w
  have np16 := CQ_np cq
  have n16 := CQ_nq cq p hp
  have m5 := (CQ_p cq hp).1
  have nb := NT_of ct p hp
  have thp := TH_v w.1.2.1 hp
  have q256 : 16 * p + j < 256 := by omega
  have mq := (CQ_q cq hp hj).1
  rcases pk_ix a (n := z_nt Z p 3) (by omega) with ha | ha | ⟨k, hk, rfl⟩
  · exact AN_i 1 K R (WR_w w (by omega)) p3 (fun Q hQ => ⟨fun _ => ⟨p, p1, m5, ke_thingAt0 (s := 3) ct hp (by decide) (Or.inl ha) ⟨fun z => absurd rfl z, fun _ => hQ⟩⟩, fun z => absurd (by decide) z⟩) (fun Q hQ => re_th16n ct np16 hp (Or.inl ha) hQ)
  · exact AN_i 1 K R (WR_w w (by omega)) p3 (fun Q hQ => ⟨fun _ => ⟨p, p1, m5, ke_thingAt0 (s := 3) ct hp (by decide) (Or.inr ha) ⟨fun z => absurd rfl z, fun _ => hQ⟩⟩, fun z => absurd (by decide) z⟩) (fun Q hQ => re_th16n ct np16 hp (Or.inr ha) hQ)
  · have mt : c_mk L 10 (48 * p + (24 + k)) := (CT_n ct hp (s := 3) (by decide)).2.2.2 k hk
    have c128 := nI_clamp (n := 8 * p + k) (by omega)
    exact AN_i 0 _ _ (WR_w (WR_b0 w hp hk) (by omega)) p3 (fun Q hQ => ⟨fun _ => ⟨p, p1, m5, ke_thingAt (s := 3) ct hp (by decide) hk ⟨fun _ => ⟨fun z => absurd z (by decide), fun z => absurd z (by decide), fun z => absurd z (by decide), fun z => absurd z (by decide), fun _ => ⟨_, rfl, mt, hQ⟩⟩, fun z => (by cases z)⟩⟩, fun z => absurd (by decide) z⟩) (fun Q hQ => re_th16 ct np16 hp hk ⟨fun z => absurd z (by decide), fun z => absurd z (by decide), fun z => absurd z (by decide), fun z => absurd z (by decide), fun z => absurd z (by decide), fun z => absurd z (by decide), fun z => absurd z (by decide), fun z => absurd z (by decide), fun z => absurd z (by decide), fun _ => ⟨ri_v (n := 128) rfl (by omega) (by decide), by rw [c128]; exact hQ⟩⟩)
theorem AN_17 {b : Nat} {L : c_L} {Z : z_C} {K : c_S} {R : r_S} {p j : Nat} {a bb c : Int32} (x : CX b L Z K R p j) (hb : b < 1999999900) : AN (b + 16) L Z (16 * p + j) (km_X0_ofWords L K 0 17 a bb c) (rm_X12_ofThings R 17 (nI p) (nI (16 * p + j)) a bb c) := by
  have x' := x
  obtain ⟨w, ⟨hp, hj⟩, ⟨p0, p1, p2, p3⟩, hnow, h1, hm, m6⟩ := x
  have cq := WR_cq w
  have ct := WR_ct w
  have np16 := CQ_np cq
  have n16 := CQ_nq cq p hp
  have m5 := (CQ_p cq hp).1
  have nb := NT_of ct p hp
  have thp := TH_v w.1.2.1 hp
  have q256 : 16 * p + j < 256 := by omega
  have mq := (CQ_q cq hp hj).1
  rcases pk_ix a (n := z_nt Z p 3) (by omega) with ha | ha | ⟨k, hk, rfl⟩
  · exact AN_i 1 K R (WR_w w (by omega)) p3 (fun Q hQ => ⟨fun _ => ⟨p, p1, m5, ke_thingAt0 (s := 3) ct hp (by decide) (Or.inl ha) ⟨fun z => absurd rfl z, fun _ => hQ⟩⟩, fun z => absurd (by decide) z⟩) (fun Q hQ => re_th17n ct np16 hp (Or.inl ha) hQ)
  · exact AN_i 1 K R (WR_w w (by omega)) p3 (fun Q hQ => ⟨fun _ => ⟨p, p1, m5, ke_thingAt0 (s := 3) ct hp (by decide) (Or.inr ha) ⟨fun z => absurd rfl z, fun _ => hQ⟩⟩, fun z => absurd (by decide) z⟩) (fun Q hQ => re_th17n ct np16 hp (Or.inr ha) hQ)
  · have hk8 : k < 8 := by omega
    have mt : c_mk L 10 (48 * p + (24 + k)) := (CT_n ct hp (s := 3) (by decide)).2.2.2 k hk
    have c128 := nI_clamp (n := 8 * p + k) (by omega)
    obtain ⟨t1, t2, t3⟩ := thp.2.2.2.1 k hk
    by_cases ht : bb < -1 ∨ 100000 < bb
    · exact AN_i 1 K R (WR_w w (by omega)) p3 (fun Q hQ => ⟨fun _ => ⟨p, p1, m5, ke_thingAt (s := 3) ct hp (by decide) hk ⟨fun _ => ⟨fun _ => ke_isNoTime (by rw [if_pos ht]; exact ⟨fun z => absurd z (by decide), fun _ => hQ⟩), fun z => absurd z (by decide), fun z => absurd z (by decide), fun z => absurd z (by decide), fun z => absurd z (by decide)⟩, fun z => (by cases z)⟩⟩, fun z => absurd (by decide) z⟩) (fun Q hQ => re_th17x ct np16 hp hk ht hQ)
    · by_cases c0 : r_A R 2496 (8 * p + k) = 0
      · exact AN_w (AN_m (AN_waitT (s := 5) (k := k) (t := bb) x' (by omega) (by decide) (by decide) hk8) (fun Q h => ⟨fun _ => ⟨p, p1, m5, ke_thingAt (s := 3) ct hp (by decide) hk ⟨fun _ => ⟨fun _ => ke_isNoTime (by rw [if_neg ht]; exact ⟨fun _ => ⟨_, rfl, mt, fun z => absurd (t1.trans c0) z, fun _ => by rw [show (3 : Int32) * (8 : Int32) + nI k = nI (b_co 5 + k) from nI_add 24 k]; exact h⟩, fun z => absurd rfl z⟩), fun z => absurd z (by decide), fun z => absurd z (by decide), fun z => absurd z (by decide), fun z => absurd z (by decide)⟩, fun z => (by cases z)⟩⟩, fun z => absurd (by decide) z⟩) (fun Q h => re_th17 ct np16 hp hk ht ⟨fun _ => ⟨ri_v (n := 128) rfl (by omega) (by decide), by rw [c128]; exact ⟨fun z => absurd c0 z, fun _ => h⟩⟩, fun z => absurd z (by decide), fun z => absurd z (by decide), fun z => absurd z (by decide), fun z => absurd z (by decide), fun z => absurd z (by decide), fun z => absurd z (by decide), fun z => absurd z (by decide), fun z => absurd z (by decide), fun z => absurd z (by decide)⟩)) (by omega)
      · have t4 := t3 (t2.resolve_left c0)
        refine AN_i 0 _ _ (WR_w (WR_x (v := r_A R 2497 (8 * p + k)) w hp hj (i := 11) (by decide)) (by omega)) p3 (fun Q hQ => ⟨fun _ => ⟨p, p1, m5, ke_thingAt (s := 3) ct hp (by decide) hk ⟨fun _ => ⟨fun _ => ke_isNoTime (by rw [if_neg ht]; exact ⟨fun _ => ⟨_, rfl, mt, fun _ => ⟨_, p3, mq, v32 (n := 11) (by decide), by rw [t4]; exact hQ⟩, fun z => absurd (t1.symm.trans z) c0⟩, fun z => absurd rfl z⟩), fun z => absurd z (by decide), fun z => absurd z (by decide), fun z => absurd z (by decide), fun z => absurd z (by decide)⟩, fun z => (by cases z)⟩⟩, fun z => absurd (by decide) z⟩) (fun Q hQ => re_th17 ct np16 hp hk ht ⟨fun _ => ⟨ri_v (n := 128) rfl (by omega) (by decide), by rw [c128]; exact ⟨fun _ => ⟨ri_v (n := 128) rfl (by omega) (by decide), by rw [show (11 : Int32) = nI 11 from rfl, q_32, nI_clamp (by omega)]; exact ⟨ri_v (n := 8192) rfl (by omega) (by decide), hQ⟩⟩, fun z => absurd z c0⟩⟩, fun z => absurd z (by decide), fun z => absurd z (by decide), fun z => absurd z (by decide), fun z => absurd z (by decide), fun z => absurd z (by decide), fun z => absurd z (by decide), fun z => absurd z (by decide), fun z => absurd z (by decide), fun z => absurd z (by decide)⟩)
