/-! Questions: the same answer, and nothing changes. -/
def QA (K : c_S) (R : r_S) (KM : (Int32 → c_S → Prop) → Prop) (RM : (Option Value → r_S → Prop) → Prop) : Prop := ∃ v : Int32, (∀ Q : Int32 → c_S → Prop, Q v K → KM Q) ∧ ∀ Q : Option Value → r_S → Prop, Q (some (.int v)) (rs_I R 2400 0) → RM Q
/-- a number in, or out -/
theorem io_ (x : Int32) {n : Nat} (hn : n < 2 ^ 31) : (∃ i : Nat, i < n ∧ x = nI i) ∨ (x < 0 ∨ nI n ≤ x) := by
  by_cases c : x < 0
  · exact Or.inr (Or.inl c)
  · obtain ⟨i, hi, rfl⟩ := nI_of c
    by_cases c2 : i < n
    · exact Or.inl ⟨i, c2, rfl⟩
    · exact Or.inr (Or.inr (nI_le (by omega) hi))
theorem nlt_of {x y : Int32} (h : y ≤ x) : ¬ x < y := i_nlt.mpr h
theorem ke_pAt0 {L : c_L} {Z : z_C} {K : c_S} {R : r_S} {x : Int32} {Q : Option Nat → c_S → Prop} (cc : CC L Z K R) (hx : x < 0 ∨ nI (z_np Z) ≤ x) (h : Q none K) : km_X6_partitionAt L K 0 x Q := by
  have e1 : c_I K 1201 0 = nI (z_np Z) := cc.2.1.1
  by_cases c : x < 0
  · exact bt_ c h
  · exact bf_ c (bf_ (by rw [e1]; exact nlt_of (hx.elim (fun z => absurd z c) id)) h)
theorem re_isPart0 {L : c_L} {Z : z_C} {K : c_S} {R : r_S} {x : Int32} {Q : Option Value → r_S → Prop} (cc : CC L Z K R) (hx : x < 0 ∨ nI (z_np Z) ≤ x) (h : Q (some (.int 0)) R) : rm_X12_isPartition R x Q := by
  have e1 : r_I R 2415 = nI (z_np Z) := cc.2.1.2
  by_cases c : x < 0
  · exact bt_ c ⟨nb_0, h⟩
  · exact bf_ c (bt_ (by rw [e1]; exact hx.elim (fun z => absurd z c) id) ⟨nb_0, h⟩)
theorem re_isPart1 {L : c_L} {Z : z_C} {K : c_S} {R : r_S} {p : Nat} {Q : Option Value → r_S → Prop} (cc : CC L Z K R) (np16 : z_np Z ≤ 16) (hp : p < z_np Z) (h : Q (some (.int 1)) R) : rm_X12_isPartition R (nI p) Q := by
  have e1 : r_I R 2415 = nI (z_np Z) := cc.2.1.2
  exact bf_ (nI_pos (by omega)) (bf_ (by rw [e1]; exact nI_ge hp (by omega)) ⟨nb_1, h⟩)
/-- a process, or none -/
theorem pj_cases {b : Nat} {L : c_L} {Z : z_C} {K : c_S} {R : r_S} (w : WR b L Z K R) (x1 x2 : Int32) : ((∀ Q : Option Nat → c_S → Prop, Q none K → km_X6_processAt L K 0 x1 x2 Q) ∧ ((∀ Q : Option Value → r_S → Prop, Q (some (.int 0)) R → rm_X12_isPartition R x1 Q) ∨ ((∀ Q : Option Value → r_S → Prop, Q (some (.int 1)) R → rm_X12_isPartition R x1 Q) ∧ (∀ Q : Option Value → r_S → Prop, Q (some (.int 0)) R → rm_X12_isProcess R x1 x2 Q)))) ∨ ∃ p j : Nat, p < z_np Z ∧ j < z_nq Z p ∧ x1 = nI p ∧ x2 = nI j ∧ (∀ Q : Option Nat → c_S → Prop, Q (some (16 * p + j)) K → km_X6_processAt L K 0 x1 x2 Q) ∧ (∀ Q : Option Value → r_S → Prop, Q (some (.int 1)) R → rm_X12_isPartition R x1 Q) ∧ (∀ Q : Option Value → r_S → Prop, Q (some (.int 1)) R → rm_X12_isProcess R x1 x2 Q) := by
  have cc := WR_cc w
  have cq := WR_cq w
  have np16 := CQ_np cq
  rcases io_ x1 (n := z_np Z) (by omega) with ⟨p, hp, rfl⟩ | ho
  · obtain ⟨m5, -, hn, hn2⟩ := CQ_p cq hp
    have n16 := CQ_nq cq p hp
    rcases io_ x2 (n := z_nq Z p) (by omega) with ⟨j, hj, rfl⟩ | ho
    · exact Or.inr ⟨p, j, hp, hj, rfl, rfl, fun Q hQ => ke_partitionAt cc cq hp (nf_ (fun z => (by cases z)) ⟨_, rfl, m5, ke_processAt hn hj n16 (CQ_q cq hp hj).1 hQ⟩), fun Q hQ => re_isPart1 cc np16 hp hQ, fun Q hQ => re_isProcess1 (by omega) hn2 n16 hj hQ⟩
    · exact Or.inl ⟨fun Q hQ => ke_partitionAt cc cq hp (nf_ (fun z => (by cases z)) ⟨_, rfl, m5, ke_processAt0 hn (ho.imp id nlt_of) hQ⟩), Or.inr ⟨fun Q hQ => re_isPart1 cc np16 hp hQ, fun Q hQ => re_isProcess0 (by omega) hn2 ho hQ⟩⟩
  · exact Or.inl ⟨fun Q hQ => ke_pAt0 cc ho (nt_ rfl hQ), Or.inl (fun Q hQ => re_isPart0 cc ho hQ)⟩
theorem Q_register {b : Nat} {L : c_L} {Z : z_C} {K : c_S} {R : r_S} {x1 x2 x3 : Int32} (w : WR b L Z K R) : QA K R (km_X11_register L K 0 x1 x2 x3) (rm_X12_register R x1 x2 x3) := by
  have w0 := WR_400 (v := 0) w
  have np16 : z_np Z ≤ 16 := CQ_np (WR_cq w)
  rcases pj_cases w0 x1 x2 with ⟨hk, hr⟩ | ⟨p, j, hp, hj, rfl, rfl, hk, hr1, hr2⟩
  · refine ⟨0, fun Q hQ => hk _ (bt_ rfl hQ), fun Q hQ => ?_⟩
    rcases hr with hr | ⟨hr1, hr2⟩
    · exact hr _ ⟨_, rfl, bt_ rfl hQ⟩
    · exact hr1 _ ⟨_, rfl, bf_ (by decide) (hr2 _ ⟨_, rfl, bt_ rfl hQ⟩)⟩
  · have hp : p < z_np Z := hp
    have n16 : z_nq Z p ≤ 16 := CQ_nq (WR_cq w) p hp
    have hj : j < z_nq Z p := hj
    have mq := (CQ_q (WR_cq w) hp hj).1
    by_cases c : x3 < 0
    · exact ⟨0, fun Q hQ => hk _ (bf_ (fun z => (by cases z)) (bt_ c hQ)), fun Q hQ => hr1 _ ⟨_, rfl, bf_ (by decide) (hr2 _ ⟨_, rfl, bf_ (by decide) (bt_ c hQ)⟩)⟩⟩
    · obtain ⟨i, hi, rfl⟩ := nI_of c
      by_cases c2 : i < 32
      · have ex : c_A K 1411 (16 * p + j) i = r_A R 2477 (32 * (16 * p + j) + i) := ((DP_w w hp hj).2.1 i c2).trans (if_pos c2)
        refine ⟨c_A K 1411 (16 * p + j) i, fun Q hQ => hk _ (bf_ (fun z => (by cases z)) (bf_ c (bt_ (nI_le (a := i) (b := 31) (by omega) (by decide)) ⟨_, rfl, mq, vp_in_nI c2 (by decide), ?_⟩))), fun Q hQ => hr1 _ ⟨_, rfl, bf_ (by decide) (hr2 _ ⟨_, rfl, bf_ (by decide) (bf_ c (bf_ (nI_ge (a := i) (b := 32) c2 (by decide)) ?_))⟩)⟩⟩
        · rw [nI_clamp (by omega)]; exact hQ
        · rw [show (16 : Int32) * nI p + nI j = nI (16 * p + j) by rw [show (16 : Int32) = nI 16 from rfl, pk_mul, nI_add], q_32, nI_clamp (by omega)]
          refine ⟨ri_v (n := 8192) rfl (by omega) (by decide), ?_⟩
          rw [ex] at hQ
          exact hQ
      · exact ⟨0, fun Q hQ => hk _ (bf_ (fun z => (by cases z)) (bf_ c (bf_ (nI_ge (a := 31) (b := i) (by omega) (by omega)) hQ))), fun Q hQ => hr1 _ ⟨_, rfl, bf_ (by decide) (hr2 _ ⟨_, rfl, bf_ (by decide) (bf_ c (bt_ (nI_le (a := 32) (b := i) (by omega) (by omega)) hQ))⟩)⟩⟩
theorem Q_state {b : Nat} {L : c_L} {Z : z_C} {K : c_S} {R : r_S} {x1 x2 x3 : Int32} (w : WR b L Z K R) : QA K R (km_X11_state L K 0 x1 x2 x3) (rm_X12_state R x1 x2 x3) := by
  have w0 := WR_400 (v := 0) w
  have np16 : z_np Z ≤ 16 := CQ_np (WR_cq w)
  rcases pj_cases w0 x1 x2 with ⟨hk, hr⟩ | ⟨p, j, hp, hj, rfl, rfl, hk, hr1, hr2⟩
  · refine ⟨-1, fun Q hQ => hk _ (nt_ rfl hQ), fun Q hQ => ?_⟩
    rcases hr with hr | ⟨hr1, hr2⟩
    · exact hr _ ⟨_, rfl, bt_ rfl hQ⟩
    · exact hr1 _ ⟨_, rfl, bf_ (by decide) (hr2 _ ⟨_, rfl, nt_ rfl hQ⟩)⟩
  · have hp : p < z_np Z := hp
    have cq := WR_cq w
    have cq0 := WR_cq w0
    have n16 : z_nq Z p ≤ 16 := CQ_nq cq p hp
    have hj : j < z_nq Z p := hj
    obtain ⟨mq, -, -, h7⟩ := CQ_q cq hp hj
    obtain ⟨⟨u3, u9, u10, u13, u14, u15, u16⟩, -, u12, -, -, -, -, w8, -⟩ := DP_w w hp hj
    have u3 : c_I K 1403 (16 * p + j) = r_A R 2469 (16 * p + j) := u3
    have u9 : c_I K 1409 (16 * p + j) = r_A R 2467 (16 * p + j) := u9
    have u10 : c_I K 1410 (16 * p + j) = r_A R 2468 (16 * p + j) := u10
    have u13 : c_I K 1413 (16 * p + j) = r_A R 2472 (16 * p + j) := u13
    have u14 : c_I K 1414 (16 * p + j) = r_A R 2474 (16 * p + j) := u14
    have u15 : c_I K 1415 (16 * p + j) = r_A R 2473 (16 * p + j) := u15
    have u16 : c_I K 1416 (16 * p + j) = r_A R 2475 (16 * p + j) := u16
    have u12 : c_I K 1412 (16 * p + j) = if r_A R 2470 (16 * p + j) = 0 then -1 else r_A R 2471 (16 * p + j) := u12.1
    have e16 : (16 : Int32) * nI p + nI j = nI (16 * p + j) := by rw [show (16 : Int32) = nI 16 from rfl, pk_mul, nI_add]
    have ej := nI_clamp (n := 16 * p + j) (by omega)
    have vj : ∀ f : Nat, r_N f = 256 → vp_in (nI (16 * p + j)) (r_N f) := fun f hf => ri_v hf (by omega) (by decide)
    rcases io_ x3 (n := 9) (by decide) with ⟨k, hk9, rfl⟩ | ho
    case inr =>
      have ho : x3.toInt < 0 ∨ 8 < x3.toInt := ho.imp i_lt0.mp (fun z => by have := i_le.mp z; have e : (nI 9).toInt = 9 := rfl; omega)
      have hx : ∀ i : Nat, i < 9 → ¬ x3 = nI i := fun i hi z => by
        rw [z, nI_toInt (by omega)] at ho
        omega
      exact ⟨-1, fun Q hQ => hk _ (nf_ (fun z => (by cases z)) ⟨fun _ => hQ, fun z => absurd z (hx 0 (by decide)), fun z => absurd z (hx 1 (by decide)), fun z => absurd z (hx 2 (by decide)), fun z => absurd z (hx 3 (by decide)), fun z => absurd z (hx 4 (by decide)), fun z => absurd z (hx 5 (by decide)), fun z => absurd z (hx 6 (by decide)), fun z => absurd z (hx 7 (by decide)), fun z => absurd z (hx 8 (by decide))⟩), fun Q hQ => hr1 _ ⟨_, rfl, bf_ (by decide) (hr2 _ ⟨_, rfl, nf_ (by decide) ⟨fun _ => hQ, fun z => absurd z (hx 0 (by decide)), fun z => absurd z (hx 1 (by decide)), fun z => absurd z (hx 2 (by decide)), fun z => absurd z (hx 3 (by decide)), fun z => absurd z (hx 4 (by decide)), fun z => absurd z (hx 5 (by decide)), fun z => absurd z (hx 6 (by decide)), fun z => absurd z (hx 7 (by decide)), fun z => absurd z (hx 8 (by decide))⟩⟩)⟩⟩
    case inl =>
      have hk' : k = 0 ∨ k = 1 ∨ k = 2 ∨ k = 3 ∨ k = 4 ∨ k = 5 ∨ k = 6 ∨ k = 7 ∨ k = 8 := by omega
      rcases hk' with rfl | rfl | rfl | rfl | rfl | rfl | rfl | rfl | rfl
      · refine ⟨r_A R 2467 (16 * p + j), fun Q hQ => hk _ (nf_ (fun z => (by cases z)) ⟨fun z => absurd z (by decide), fun _ => ⟨_, rfl, mq, ?_⟩, fun z => absurd z (by decide), fun z => absurd z (by decide), fun z => absurd z (by decide), fun z => absurd z (by decide), fun z => absurd z (by decide), fun z => absurd z (by decide), fun z => absurd z (by decide), fun z => absurd z (by decide)⟩), fun Q hQ => hr1 _ ⟨_, rfl, bf_ (by decide) (hr2 _ ⟨_, rfl, nf_ (by decide) ⟨fun z => absurd z (by decide), fun _ => ⟨?_, ?_⟩, fun z => absurd z (by decide), fun z => absurd z (by decide), fun z => absurd z (by decide), fun z => absurd z (by decide), fun z => absurd z (by decide), fun z => absurd z (by decide), fun z => absurd z (by decide), fun z => absurd z (by decide)⟩⟩)⟩⟩
        · rw [u9]; exact hQ
        · rw [e16]; exact vj _ rfl
        · rw [e16, ej]; exact hQ
      · refine ⟨r_A R 2468 (16 * p + j), fun Q hQ => hk _ (nf_ (fun z => (by cases z)) ⟨fun z => absurd z (by decide), fun z => absurd z (by decide), fun _ => ⟨_, rfl, mq, ?_⟩, fun z => absurd z (by decide), fun z => absurd z (by decide), fun z => absurd z (by decide), fun z => absurd z (by decide), fun z => absurd z (by decide), fun z => absurd z (by decide), fun z => absurd z (by decide)⟩), fun Q hQ => hr1 _ ⟨_, rfl, bf_ (by decide) (hr2 _ ⟨_, rfl, nf_ (by decide) ⟨fun z => absurd z (by decide), fun z => absurd z (by decide), fun _ => ⟨?_, ?_⟩, fun z => absurd z (by decide), fun z => absurd z (by decide), fun z => absurd z (by decide), fun z => absurd z (by decide), fun z => absurd z (by decide), fun z => absurd z (by decide), fun z => absurd z (by decide)⟩⟩)⟩⟩
        · rw [u10]; exact hQ
        · rw [e16]; exact vj _ rfl
        · rw [e16, ej]; exact hQ
      · refine ⟨r_A R 2469 (16 * p + j), fun Q hQ => hk _ (nf_ (fun z => (by cases z)) ⟨fun z => absurd z (by decide), fun z => absurd z (by decide), fun z => absurd z (by decide), fun _ => ⟨_, rfl, mq, ?_⟩, fun z => absurd z (by decide), fun z => absurd z (by decide), fun z => absurd z (by decide), fun z => absurd z (by decide), fun z => absurd z (by decide), fun z => absurd z (by decide)⟩), fun Q hQ => hr1 _ ⟨_, rfl, bf_ (by decide) (hr2 _ ⟨_, rfl, nf_ (by decide) ⟨fun z => absurd z (by decide), fun z => absurd z (by decide), fun z => absurd z (by decide), fun _ => ⟨?_, ?_⟩, fun z => absurd z (by decide), fun z => absurd z (by decide), fun z => absurd z (by decide), fun z => absurd z (by decide), fun z => absurd z (by decide), fun z => absurd z (by decide)⟩⟩)⟩⟩
        · rw [u3]; exact hQ
        · rw [e16]; exact vj _ rfl
        · rw [e16, ej]; exact hQ
      · refine ⟨c_I K 1412 (16 * p + j), fun Q hQ => hk _ (nf_ (fun z => (by cases z)) ⟨fun z => absurd z (by decide), fun z => absurd z (by decide), fun z => absurd z (by decide), fun z => absurd z (by decide), fun _ => ⟨_, rfl, mq, hQ⟩, fun z => absurd z (by decide), fun z => absurd z (by decide), fun z => absurd z (by decide), fun z => absurd z (by decide), fun z => absurd z (by decide)⟩), fun Q hQ => hr1 _ ⟨_, rfl, bf_ (by decide) (hr2 _ ⟨_, rfl, nf_ (by decide) ⟨fun z => absurd z (by decide), fun z => absurd z (by decide), fun z => absurd z (by decide), fun z => absurd z (by decide), fun _ => ⟨?_, ?_⟩, fun z => absurd z (by decide), fun z => absurd z (by decide), fun z => absurd z (by decide), fun z => absurd z (by decide), fun z => absurd z (by decide)⟩⟩)⟩⟩
        · rw [e16]; exact vj _ rfl
        · rw [e16, ej]
          rw [u12] at hQ
          refine ⟨fun z => ?_, fun z => ⟨vj _ rfl, ?_⟩⟩
          · rw [if_pos (show r_A R 2470 (16 * p + j) = 0 from z)] at hQ; exact hQ
          · rw [if_neg (show ¬ r_A R 2470 (16 * p + j) = 0 from z)] at hQ; exact hQ
      · refine ⟨r_A R 2472 (16 * p + j), fun Q hQ => hk _ (nf_ (fun z => (by cases z)) ⟨fun z => absurd z (by decide), fun z => absurd z (by decide), fun z => absurd z (by decide), fun z => absurd z (by decide), fun z => absurd z (by decide), fun _ => ⟨_, rfl, mq, ?_⟩, fun z => absurd z (by decide), fun z => absurd z (by decide), fun z => absurd z (by decide), fun z => absurd z (by decide)⟩), fun Q hQ => hr1 _ ⟨_, rfl, bf_ (by decide) (hr2 _ ⟨_, rfl, nf_ (by decide) ⟨fun z => absurd z (by decide), fun z => absurd z (by decide), fun z => absurd z (by decide), fun z => absurd z (by decide), fun z => absurd z (by decide), fun _ => ⟨?_, ?_⟩, fun z => absurd z (by decide), fun z => absurd z (by decide), fun z => absurd z (by decide), fun z => absurd z (by decide)⟩⟩)⟩⟩
        · rw [u13]; exact hQ
        · rw [e16]; exact vj _ rfl
        · rw [e16, ej]; exact hQ
      · refine ⟨r_A R 2474 (16 * p + j), fun Q hQ => hk _ (nf_ (fun z => (by cases z)) ⟨fun z => absurd z (by decide), fun z => absurd z (by decide), fun z => absurd z (by decide), fun z => absurd z (by decide), fun z => absurd z (by decide), fun z => absurd z (by decide), fun _ => ⟨_, rfl, mq, ?_⟩, fun z => absurd z (by decide), fun z => absurd z (by decide), fun z => absurd z (by decide)⟩), fun Q hQ => hr1 _ ⟨_, rfl, bf_ (by decide) (hr2 _ ⟨_, rfl, nf_ (by decide) ⟨fun z => absurd z (by decide), fun z => absurd z (by decide), fun z => absurd z (by decide), fun z => absurd z (by decide), fun z => absurd z (by decide), fun z => absurd z (by decide), fun _ => ⟨?_, ?_⟩, fun z => absurd z (by decide), fun z => absurd z (by decide), fun z => absurd z (by decide)⟩⟩)⟩⟩
        · rw [u14]; exact hQ
        · rw [e16]; exact vj _ rfl
        · rw [e16, ej]; exact hQ
      · refine ⟨r_A R 2473 (16 * p + j), fun Q hQ => hk _ (nf_ (fun z => (by cases z)) ⟨fun z => absurd z (by decide), fun z => absurd z (by decide), fun z => absurd z (by decide), fun z => absurd z (by decide), fun z => absurd z (by decide), fun z => absurd z (by decide), fun z => absurd z (by decide), fun _ => ⟨_, rfl, mq, ?_⟩, fun z => absurd z (by decide), fun z => absurd z (by decide)⟩), fun Q hQ => hr1 _ ⟨_, rfl, bf_ (by decide) (hr2 _ ⟨_, rfl, nf_ (by decide) ⟨fun z => absurd z (by decide), fun z => absurd z (by decide), fun z => absurd z (by decide), fun z => absurd z (by decide), fun z => absurd z (by decide), fun z => absurd z (by decide), fun z => absurd z (by decide), fun _ => ⟨?_, ?_⟩, fun z => absurd z (by decide), fun z => absurd z (by decide)⟩⟩)⟩⟩
        · rw [u15]; exact hQ
        · rw [e16]; exact vj _ rfl
        · rw [e16, ej]; exact hQ
      · refine ⟨c_I K 1407 (16 * p + j), fun Q hQ => hk _ (nf_ (fun z => (by cases z)) ⟨fun z => absurd z (by decide), fun z => absurd z (by decide), fun z => absurd z (by decide), fun z => absurd z (by decide), fun z => absurd z (by decide), fun z => absurd z (by decide), fun z => absurd z (by decide), fun z => absurd z (by decide), fun _ => ⟨_, rfl, mq, ?_⟩, fun z => absurd z (by decide)⟩), fun Q hQ => hr1 _ ⟨_, rfl, bf_ (by decide) (hr2 _ ⟨_, rfl, nf_ (by decide) ⟨fun z => absurd z (by decide), fun z => absurd z (by decide), fun z => absurd z (by decide), fun z => absurd z (by decide), fun z => absurd z (by decide), fun z => absurd z (by decide), fun z => absurd z (by decide), fun z => absurd z (by decide), fun _ => ?_, fun z => absurd z (by decide)⟩⟩)⟩⟩
        · rw [h7] at hQ ⊢
          refine ⟨fun z => ?_, fun z => ?_⟩
          · rw [z] at hQ; exact hQ
          · rw [if_pos (Classical.byContradiction fun y => z (if_neg y))] at hQ
            exact hQ
        · rw [e16]
          rw [h7] at hQ
          refine re_isH cq0 hp hj ⟨_, rfl, fun z => ?_, fun z => ?_⟩
          · have z : (if z_hd Z p = some j then (1 : Int32) else 0) = 0 := z
            rw [z] at hQ; exact hQ
          · have z : ¬ (if z_hd Z p = some j then (1 : Int32) else 0) = 0 := z
            rw [if_pos (Classical.byContradiction fun y => z (if_neg y))] at hQ
            exact hQ
      · have w8 : r_A R 2475 (16 * p + j) = 0 ∨ r_A R 2475 (16 * p + j) = 1 := w8
        refine ⟨r_A R 2475 (16 * p + j), fun Q hQ => hk _ (nf_ (fun z => (by cases z)) ⟨fun z => absurd z (by decide), fun z => absurd z (by decide), fun z => absurd z (by decide), fun z => absurd z (by decide), fun z => absurd z (by decide), fun z => absurd z (by decide), fun z => absurd z (by decide), fun z => absurd z (by decide), fun z => absurd z (by decide), fun _ => ⟨_, rfl, mq, ?_⟩⟩), fun Q hQ => hr1 _ ⟨_, rfl, bf_ (by decide) (hr2 _ ⟨_, rfl, nf_ (by decide) ⟨fun z => absurd z (by decide), fun z => absurd z (by decide), fun z => absurd z (by decide), fun z => absurd z (by decide), fun z => absurd z (by decide), fun z => absurd z (by decide), fun z => absurd z (by decide), fun z => absurd z (by decide), fun z => absurd z (by decide), fun _ => ⟨?_, ?_⟩⟩⟩)⟩⟩
        · rw [u16]
          refine ⟨fun z => ?_, fun z => ?_⟩
          · rw [z] at hQ; exact hQ
          · rw [w8.resolve_left z] at hQ; exact hQ
        · rw [e16]; exact vj _ rfl
        · rw [e16, ej]
          refine ⟨fun z => ?_, fun z => ?_⟩
          · have z : r_A R 2475 (16 * p + j) = 0 := z
            rw [z] at hQ; exact hQ
          · rw [w8.resolve_left z] at hQ; exact hQ
