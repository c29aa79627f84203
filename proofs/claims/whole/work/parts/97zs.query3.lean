/-! A partition's words; a word of its memory. -/
/-- nothing has begun: all rest -/
def NB (Z : z_C) (R : r_S) : Prop := z_bg Z = 0 → (z_mv Z = 0 ∧ z_tm Z = 0) ∧ ∀ p : Nat, p < z_np Z → r_A R 2483 p = 0 ∧ ∀ j : Nat, j < z_nq Z p → r_A R 2467 (16 * p + j) = 0
theorem ke_chosen0 {b : Nat} {L : c_L} {Z : z_C} {K : c_S} {R : r_S} {p : Nat} {Q : Option Nat → c_S → Prop} (w : WR b L Z K R) (hp : p < z_np Z) (h0 : ∀ j : Nat, j < z_nq Z p → r_A R 2467 (16 * p + j) = 0) (h : Q none K) : km_X5_chosen L K p Q := by
  have cq := WR_cq w
  have n16 := CQ_nq cq p hp
  have hn := (CQ_p cq hp).2.2.1
  have mk : ∀ i : Nat, i < z_nq Z p → c_mk L 7 (16 * p + i) := fun i hi => (CQ_q cq hp hi).1
  have e9 : ∀ i : Nat, i < z_nq Z p → c_I K 1409 (16 * p + i) = 0 := fun i hi => (show c_I K 1409 (16 * p + i) = r_A R 2467 (16 * p + i) from (DP_w w hp hi).1.2.1).trans (h0 i hi)
  have pv := PD_v w.2.2.2.2.1 hp
  have e13 : c_I K 1013 p = 0 := Classical.byContradiction fun z => by
    obtain ⟨j, hj, -, -, -, sj⟩ := pv.2.2.2.2.1 z
    have sj : r_A R 2467 (16 * p + j) = 1 := sj
    rw [h0 j hj] at sj
    exact absurd sj (by decide)
  have low : kb_X5_chosen_23 L K p Q := by
    refine bt_ (by rw [e13]; decide) (bt_ rfl (ke_choose w hp ?_))
    have M0 : ∀ i : Nat, i < z_nq Z p → chM R p i = false := fun i hi => decide_eq_false (fun z => by rw [h0 i hi] at z; exact absurd z.1 (by decide))
    rw [b_fw_n M0]
    exact h
  unfold km_X5_chosen
  cases eh : z_hd Z p with
  | none =>
    rw [(CQ_h0 cq hp eh).1]
    exact ke_processAt0 hn (Or.inl (by decide)) (bt_ rfl low)
  | some i =>
    obtain ⟨hi, h1, h2⟩ := CQ_h1 cq hp eh
    rw [h1]
    exact ke_processAt hn hi n16 (mk i hi) (bf_ (fun z => (by cases z)) ⟨_, rfl, mk i hi, nf_ (by rw [e9 i hi]; decide) low⟩)
/-- who is next: asked at any time -/
theorem P_nextQ {b : Nat} {L : c_L} {Z : z_C} {K : c_S} {R : r_S} {p : Nat} (w : WR b L Z K R) (nb : NB Z R) (hp : p < z_np Z) : ∃ o : Option Nat, (∀ j : Nat, o = some j → j < z_nq Z p) ∧ (∀ Q : Option Nat → c_S → Prop, Q (o.map (fun i => 16 * p + i)) K → km_X5_chosen L K p Q) ∧ (∀ Q : Option Value → r_S → Prop, Q (some (.int (o_i (o.map (fun i => 16 * p + i))))) R → rm_X12_nextOf R (nI p) Q) := by
  have np16 := CQ_np (WR_cq w)
  have cp := nI_clamp (n := p) (by omega)
  have vpp : vp_in (nI p) (r_N 2483) := ri_v (n := 16) rfl (by omega) (by decide)
  have eb := (GL_el w).2.2.2.2.2.2.2
  by_cases cb : r_I R 2414 = 0
  · exact ⟨none, fun j z => (by cases z), fun Q hQ => ke_chosen0 w hp ((nb (eb.symm.trans cb)).2 p hp).2 hQ, fun Q hQ => bt_ cb hQ⟩
  · by_cases cm : r_A R 2483 p = 0
    · obtain ⟨o, h1, h2, h3⟩ := P_next w hp cm cb
      exact ⟨o, fun j z => (h1 j z).1, h2, h3⟩
    · have pv := PD_v w.2.2.2.2.1 hp
      have c1 : r_A R 2483 p = 1 := (show r_A R 2483 p = 0 ∨ r_A R 2483 p = 1 from pv.2.1).resolve_left cm
      refine ⟨none, fun j z => (by cases z), fun Q hQ => ke_chosen0 w hp (pv.2.2.2.2.2.2.2.2 c1) hQ, fun Q hQ => bf_ cb ⟨vpp, ?_⟩⟩
      rw [cp]
      exact bf_ cm hQ
theorem Q_partition {b : Nat} {L : c_L} {Z : z_C} {K : c_S} {R : r_S} {x1 x2 : Int32} (w : WR b L Z K R) (nb : NB Z R) : QA K R (km_X11_partition L K 0 x1 x2) (rm_X12_partition R x1 x2) := by
  have w0 := WR_400 (v := 0) w
  have np16 : z_np Z ≤ 16 := CQ_np (WR_cq w)
  rcases pa_cases w0 x1 with ⟨hk, hr⟩ | ⟨p, hp, rfl, hk, hr⟩
  · exact ⟨-1, fun Q hQ => hk _ (nt_ rfl hQ), fun Q hQ => hr _ ⟨_, rfl, nt_ rfl hQ⟩⟩
  · have hp : p < z_np Z := hp
    obtain ⟨m5, -, hn, hn2⟩ := CQ_p (WR_cq w) hp
    have n16 := CQ_nq (WR_cq w) p hp
    have cp := nI_clamp (n := p) (by omega)
    have vpp : ∀ f : Nat, r_N f = 16 → vp_in (nI p) (r_N f) := fun f hf => ri_v hf (by omega) (by decide)
    have pv := PD_v w.2.2.2.2.1 hp
    have e9 : c_I K 1009 p = r_A R 2483 p := pv.1.1
    have e10 : c_I K 1010 p = r_A R 2484 p := pv.1.2.1
    have e11 : c_I K 1011 p = r_A R 2485 p := pv.1.2.2.1
    have e12 : c_I K 1012 p = r_A R 2491 p := pv.1.2.2.2.1
    have e13 : c_I K 1013 p = r_A R 2486 p := pv.1.2.2.2.2
    have e800 : c_I K 800 p = r_A R 2425 p := (CM_p (WR_cm w) hp).2.2.2.1.trans (CM_p (WR_cm w) hp).2.2.2.2.1.symm
    have e803 : c_I K 803 p = r_A R 2426 p := (CM_r (WR_cm w) hp).2.2.1.trans (CM_r (WR_cm w) hp).2.2.2.1.symm
    rcases io_ x2 (n := 14) (by decide) with ⟨k, hk14, rfl⟩ | ho
    case inr =>
      have ho2 : x2.toInt < 0 ∨ 13 < x2.toInt := ho.imp i_lt0.mp (fun z => by have := i_le.mp z; have e : (nI 14).toInt = 14 := rfl; omega)
      have hx : ∀ i : Nat, i < 14 → ¬ x2 = nI i := fun i hi z => by
        rw [z, nI_toInt (by omega)] at ho2
        omega
      have hm : ¬ (x2 = (3 : Int32) ∨ x2 = (4 : Int32) ∨ x2 = (5 : Int32) ∨ x2 = (6 : Int32) ∨ x2 = (7 : Int32)) := fun z => z.elim (hx 3 (by decide)) (fun z => z.elim (hx 4 (by decide)) (fun z => z.elim (hx 5 (by decide)) (fun z => z.elim (hx 6 (by decide)) (hx 7 (by decide)))))
      have k35 : ∀ Q : Int32 → c_S → Prop, Q (-1) K → kb_X11_partition_35 L K x2 (some p) Q := fun Q hQ => ⟨fun _ => hQ, fun z => absurd z (hx 0 (by decide)), fun z => absurd z (hx 1 (by decide)), fun z => absurd z (hx 2 (by decide)), fun z => absurd z hm, fun z => absurd z (hx 8 (by decide)), fun z => absurd z (hx 9 (by decide)), fun z => absurd z (hx 10 (by decide)), fun z => absurd z (hx 11 (by decide)), fun z => absurd z (hx 12 (by decide)), fun z => absurd z (hx 13 (by decide))⟩
      refine ⟨-1, fun Q hQ => hk _ (nf_ (fun z => (by cases z)) ⟨fun _ => k35 Q hQ, fun z => ⟨fun _ => k35 Q hQ, fun z2 => ?_⟩⟩), fun Q hQ => hr _ ⟨_, rfl, nf_ (by decide) ⟨fun _ => hQ, fun z => absurd z (hx 0 (by decide)), fun z => absurd z (hx 1 (by decide)), fun z => absurd z (hx 2 (by decide)), fun z => absurd z hm, fun z => absurd z (hx 8 (by decide)), fun z => absurd z (hx 9 (by decide)), fun z => absurd z (hx 10 (by decide)), fun z => absurd z (hx 11 (by decide)), fun z => absurd z (hx 12 (by decide)), fun z => absurd z (hx 13 (by decide))⟩⟩⟩
      have a1 := i_le.mp (i_nlt.mp z)
      have a2 := i_lt.mp (i_nle.mp z2)
      have e1 : (3 : Int32).toInt = 3 := rfl
      have e2 : (8 : Int32).toInt = 8 := rfl
      omega
    case inl =>
      have hk' : k = 0 ∨ k = 1 ∨ k = 2 ∨ (3 ≤ k ∧ k < 8) ∨ k = 8 ∨ k = 9 ∨ k = 10 ∨ k = 11 ∨ k = 12 ∨ k = 13 := by omega
      rcases hk' with rfl | rfl | rfl | ⟨k3, k8⟩ | rfl | rfl | rfl | rfl | rfl | rfl
      · refine ⟨r_A R 2483 p, fun Q hQ => hk _ (nf_ (fun z => (by cases z)) (bt_ (by decide) ⟨fun z => absurd z (by decide), fun _ => ⟨_, rfl, m5, ?_⟩, fun z => absurd z (by decide), fun z => absurd z (by decide), fun z => absurd z (by decide), fun z => absurd z (by decide), fun z => absurd z (by decide), fun z => absurd z (by decide), fun z => absurd z (by decide), fun z => absurd z (by decide), fun z => absurd z (by decide)⟩)), fun Q hQ => hr _ ⟨_, rfl, nf_ (by decide) ⟨fun z => absurd z (by decide), fun _ => ⟨vpp _ rfl, ?_⟩, fun z => absurd z (by decide), fun z => absurd z (by decide), fun z => absurd z (by decide), fun z => absurd z (by decide), fun z => absurd z (by decide), fun z => absurd z (by decide), fun z => absurd z (by decide), fun z => absurd z (by decide), fun z => absurd z (by decide)⟩⟩⟩
        · rw [e9]; exact hQ
        · rw [cp]; exact hQ
      · refine ⟨r_A R 2425 p, fun Q hQ => hk _ (nf_ (fun z => (by cases z)) (bt_ (by decide) ⟨fun z => absurd z (by decide), fun z => absurd z (by decide), fun _ => ⟨_, rfl, m5, ?_⟩, fun z => absurd z (by decide), fun z => absurd z (by decide), fun z => absurd z (by decide), fun z => absurd z (by decide), fun z => absurd z (by decide), fun z => absurd z (by decide), fun z => absurd z (by decide), fun z => absurd z (by decide)⟩)), fun Q hQ => hr _ ⟨_, rfl, nf_ (by decide) ⟨fun z => absurd z (by decide), fun z => absurd z (by decide), fun _ => ⟨vpp _ rfl, ?_⟩, fun z => absurd z (by decide), fun z => absurd z (by decide), fun z => absurd z (by decide), fun z => absurd z (by decide), fun z => absurd z (by decide), fun z => absurd z (by decide), fun z => absurd z (by decide), fun z => absurd z (by decide)⟩⟩⟩
        · rw [e800]; exact hQ
        · rw [cp]; exact hQ
      · refine ⟨nI (z_nq Z p), fun Q hQ => hk _ (nf_ (fun z => (by cases z)) (bt_ (by decide) ⟨fun z => absurd z (by decide), fun z => absurd z (by decide), fun z => absurd z (by decide), fun _ => ⟨_, rfl, m5, ?_⟩, fun z => absurd z (by decide), fun z => absurd z (by decide), fun z => absurd z (by decide), fun z => absurd z (by decide), fun z => absurd z (by decide), fun z => absurd z (by decide), fun z => absurd z (by decide)⟩)), fun Q hQ => hr _ ⟨_, rfl, nf_ (by decide) ⟨fun z => absurd z (by decide), fun z => absurd z (by decide), fun z => absurd z (by decide), fun _ => ?_, fun z => absurd z (by decide), fun z => absurd z (by decide), fun z => absurd z (by decide), fun z => absurd z (by decide), fun z => absurd z (by decide), fun z => absurd z (by decide), fun z => absurd z (by decide)⟩⟩⟩
        · rw [hn]; exact hQ
        · rw [show (6 : Int32) * nI p + 5 = nI (6 * p + 5) by rw [show (6 : Int32) = nI 6 from rfl, pk_mul, show (5 : Int32) = nI 5 from rfl, nI_add], nI_clamp (by omega), show r_A (rs_I R 2400 0) 2435 (6 * p + 5) = nI (z_nq Z p) from hn2]
          exact ⟨ri_v (n := 96) rfl (by omega) (by decide), hQ⟩
      · obtain ⟨i, rfl⟩ : ∃ i : Nat, k = i + 3 := ⟨k - 3, by omega⟩
        obtain ⟨-, a1, a2, -⟩ := CT_n (WR_ct w) hp (s := i) (by omega)
        have es : nI (i + 3) - 3 = nI i := by rw [← nI_add]; exact Int32.add_sub_cancel _ _
        have ne : ∀ j : Nat, j < 14 → j ≠ i + 3 → ¬ nI (i + 3) = nI j := fun j hj hji z => hji ((nI_eq (by omega) (by omega)).mp z).symm
        refine ⟨nI (z_nt Z p i), fun Q hQ => hk _ (nf_ (fun z => (by cases z)) (bf_ (nI_nlt (a := i + 3) (b := 3) (by omega) (by omega)) (bf_ (nI_ge (a := i + 3) (b := 8) (by omega) (by decide)) ⟨_, rfl, m5, ?_⟩))), fun Q hQ => hr _ ⟨_, rfl, nf_ (by decide) ⟨fun z => ?_, fun z => absurd z (ne 0 (by decide) (by omega)), fun z => absurd z (ne 1 (by decide) (by omega)), fun z => absurd z (ne 2 (by decide) (by omega)), fun _ => ?_, fun z => absurd z (ne 8 (by decide) (by omega)), fun z => absurd z (ne 9 (by decide) (by omega)), fun z => absurd z (ne 10 (by decide) (by omega)), fun z => absurd z (ne 11 (by decide) (by omega)), fun z => absurd z (ne 12 (by decide) (by omega)), fun z => absurd z (ne 13 (by decide) (by omega))⟩⟩⟩
        · rw [es, nI_clamp (by omega), a1]
          exact ⟨vp_in_nI (by omega) (by decide), hQ⟩
        · rw [nI_toInt (by omega)] at z
          omega
        · have e2 : (6 : Int32) * nI p + nI (i + 3) - 3 = nI (6 * p + i) := by
            rw [show (6 : Int32) = nI 6 from rfl, pk_mul, nI_add, show 6 * p + (i + 3) = 6 * p + i + 3 by omega, ← nI_add (a := 6 * p + i)]
            exact Int32.add_sub_cancel _ _
          rw [e2, nI_clamp (by omega), show r_A (rs_I R 2400 0) 2435 (6 * p + i) = nI (z_nt Z p i) from a2]
          exact ⟨ri_v (n := 96) rfl (by omega) (by decide), hQ⟩
      · refine ⟨r_A R 2485 p, fun Q hQ => hk _ (nf_ (fun z => (by cases z)) (bf_ (by decide) (bt_ (by decide) ⟨fun z => absurd z (by decide), fun z => absurd z (by decide), fun z => absurd z (by decide), fun z => absurd z (by decide), fun z => absurd z (by decide), fun _ => ⟨_, rfl, m5, ?_⟩, fun z => absurd z (by decide), fun z => absurd z (by decide), fun z => absurd z (by decide), fun z => absurd z (by decide), fun z => absurd z (by decide)⟩))), fun Q hQ => hr _ ⟨_, rfl, nf_ (by decide) ⟨fun z => absurd z (by decide), fun z => absurd z (by decide), fun z => absurd z (by decide), fun z => absurd z (by decide), fun z => absurd z (by decide), fun _ => ⟨vpp _ rfl, ?_⟩, fun z => absurd z (by decide), fun z => absurd z (by decide), fun z => absurd z (by decide), fun z => absurd z (by decide), fun z => absurd z (by decide)⟩⟩⟩
        · rw [e11]; exact hQ
        · rw [cp]; exact hQ
      · refine ⟨r_A R 2486 p, fun Q hQ => hk _ (nf_ (fun z => (by cases z)) (bf_ (by decide) (bt_ (by decide) ⟨fun z => absurd z (by decide), fun z => absurd z (by decide), fun z => absurd z (by decide), fun z => absurd z (by decide), fun z => absurd z (by decide), fun z => absurd z (by decide), fun _ => ⟨_, rfl, m5, ?_⟩, fun z => absurd z (by decide), fun z => absurd z (by decide), fun z => absurd z (by decide), fun z => absurd z (by decide)⟩))), fun Q hQ => hr _ ⟨_, rfl, nf_ (by decide) ⟨fun z => absurd z (by decide), fun z => absurd z (by decide), fun z => absurd z (by decide), fun z => absurd z (by decide), fun z => absurd z (by decide), fun z => absurd z (by decide), fun _ => ⟨vpp _ rfl, ?_⟩, fun z => absurd z (by decide), fun z => absurd z (by decide), fun z => absurd z (by decide), fun z => absurd z (by decide)⟩⟩⟩
        · rw [e13]; exact hQ
        · rw [cp]; exact hQ
      · obtain ⟨o, o1, o2, o3⟩ := P_nextQ w0 nb hp
        cases o with
        | none => exact ⟨-1, fun Q hQ => hk _ (nf_ (fun z => (by cases z)) (bf_ (by decide) (bt_ (by decide) ⟨fun z => absurd z (by decide), fun z => absurd z (by decide), fun z => absurd z (by decide), fun z => absurd z (by decide), fun z => absurd z (by decide), fun z => absurd z (by decide), fun z => absurd z (by decide), fun _ => ⟨_, rfl, m5, o2 _ (nt_ rfl hQ)⟩, fun z => absurd z (by decide), fun z => absurd z (by decide), fun z => absurd z (by decide)⟩))), fun Q hQ => hr _ ⟨_, rfl, nf_ (by decide) ⟨fun z => absurd z (by decide), fun z => absurd z (by decide), fun z => absurd z (by decide), fun z => absurd z (by decide), fun z => absurd z (by decide), fun z => absurd z (by decide), fun z => absurd z (by decide), fun _ => o3 _ ⟨_, rfl, nt_ rfl hQ⟩, fun z => absurd z (by decide), fun z => absurd z (by decide), fun z => absurd z (by decide)⟩⟩⟩
        | some j =>
          have hj : j < z_nq Z p := o1 j rfl
          obtain ⟨mq, -, h0, -⟩ := CQ_q (WR_cq w) hp hj
          refine ⟨nI j, fun Q hQ => hk _ (nf_ (fun z => (by cases z)) (bf_ (by decide) (bt_ (by decide) ⟨fun z => absurd z (by decide), fun z => absurd z (by decide), fun z => absurd z (by decide), fun z => absurd z (by decide), fun z => absurd z (by decide), fun z => absurd z (by decide), fun z => absurd z (by decide), fun _ => ⟨_, rfl, m5, o2 _ (nf_ (fun z => (by cases z)) ⟨_, rfl, mq, ?_⟩)⟩, fun z => absurd z (by decide), fun z => absurd z (by decide), fun z => absurd z (by decide)⟩))), fun Q hQ => hr _ ⟨_, rfl, nf_ (by decide) ⟨fun z => absurd z (by decide), fun z => absurd z (by decide), fun z => absurd z (by decide), fun z => absurd z (by decide), fun z => absurd z (by decide), fun z => absurd z (by decide), fun z => absurd z (by decide), fun _ => o3 _ ⟨_, rfl, nf_ (nI_m1 (show 16 * p + j < 2 ^ 31 by omega)) ?_⟩, fun z => absurd z (by decide), fun z => absurd z (by decide), fun z => absurd z (by decide)⟩⟩⟩
          · show Q (c_I K 1400 (16 * p + j)) K
            rw [h0]; exact hQ
          · show Q (some (.int (nI (16 * p + j) - nI (16 * p + j) / 16 * 16))) _
            rw [nI_rem (by omega) (by omega)]
            exact hQ
      · refine ⟨r_A R 2484 p, fun Q hQ => hk _ (nf_ (fun z => (by cases z)) (bf_ (by decide) (bt_ (by decide) ⟨fun z => absurd z (by decide), fun z => absurd z (by decide), fun z => absurd z (by decide), fun z => absurd z (by decide), fun z => absurd z (by decide), fun z => absurd z (by decide), fun z => absurd z (by decide), fun z => absurd z (by decide), fun _ => ⟨_, rfl, m5, ?_⟩, fun z => absurd z (by decide), fun z => absurd z (by decide)⟩))), fun Q hQ => hr _ ⟨_, rfl, nf_ (by decide) ⟨fun z => absurd z (by decide), fun z => absurd z (by decide), fun z => absurd z (by decide), fun z => absurd z (by decide), fun z => absurd z (by decide), fun z => absurd z (by decide), fun z => absurd z (by decide), fun z => absurd z (by decide), fun _ => ⟨vpp _ rfl, ?_⟩, fun z => absurd z (by decide), fun z => absurd z (by decide)⟩⟩⟩
        · rw [e10]; exact hQ
        · rw [cp]; exact hQ
      · refine ⟨r_A R 2426 p, fun Q hQ => hk _ (nf_ (fun z => (by cases z)) (bf_ (by decide) (bt_ (by decide) ⟨fun z => absurd z (by decide), fun z => absurd z (by decide), fun z => absurd z (by decide), fun z => absurd z (by decide), fun z => absurd z (by decide), fun z => absurd z (by decide), fun z => absurd z (by decide), fun z => absurd z (by decide), fun z => absurd z (by decide), fun _ => ⟨_, rfl, m5, ?_⟩, fun z => absurd z (by decide)⟩))), fun Q hQ => hr _ ⟨_, rfl, nf_ (by decide) ⟨fun z => absurd z (by decide), fun z => absurd z (by decide), fun z => absurd z (by decide), fun z => absurd z (by decide), fun z => absurd z (by decide), fun z => absurd z (by decide), fun z => absurd z (by decide), fun z => absurd z (by decide), fun z => absurd z (by decide), fun _ => ⟨vpp _ rfl, ?_⟩, fun z => absurd z (by decide)⟩⟩⟩
        · rw [e803]; exact hQ
        · rw [cp]; exact hQ
      · refine ⟨r_A R 2491 p, fun Q hQ => hk _ (nf_ (fun z => (by cases z)) (bf_ (by decide) (bt_ (by decide) ⟨fun z => absurd z (by decide), fun z => absurd z (by decide), fun z => absurd z (by decide), fun z => absurd z (by decide), fun z => absurd z (by decide), fun z => absurd z (by decide), fun z => absurd z (by decide), fun z => absurd z (by decide), fun z => absurd z (by decide), fun z => absurd z (by decide), fun _ => ⟨_, rfl, m5, ?_⟩⟩))), fun Q hQ => hr _ ⟨_, rfl, nf_ (by decide) ⟨fun z => absurd z (by decide), fun z => absurd z (by decide), fun z => absurd z (by decide), fun z => absurd z (by decide), fun z => absurd z (by decide), fun z => absurd z (by decide), fun z => absurd z (by decide), fun z => absurd z (by decide), fun z => absurd z (by decide), fun z => absurd z (by decide), fun _ => ⟨vpp _ rfl, ?_⟩⟩⟩⟩
        · rw [e12]; exact hQ
        · rw [cp]; exact hQ
/-- a word out of bytes, read -/
theorem re_peek {R : r_S} {p v F : Nat} {Q : Option Value → r_S → Prop} (hp : p < 16) (hv : v + 3 < 8192) (hF : (r_I R 2414 = 0 ∧ F = 2465) ∨ (¬ r_I R 2414 = 0 ∧ F = 2466)) (h : Q (some (.int (b_w (fun n => r_A R F (8192 * p + (v + n)))))) R) : rl_X12_peek_21 5 R (nI p) (nI v) 0 3 Q := by
  have e : ∀ n : Nat, n < 4 → (8192 : Int32) * nI p + nI v + nI n = nI (8192 * p + (v + n)) := fun n hn => by
    rw [show (8192 : Int32) = nI 8192 from rfl, pk_mul, nI_add, nI_add, Nat.add_assoc]
  have st : ∀ (x3 : Int32) (n m : Nat), n < 4 → rl_X12_peek_21 m R (nI p) (nI v) (x3 <<< ((8 : Int32) &&& 31) ||| (r_A R F (8192 * p + (v + n)) &&& 255)) (nI n + (-1)) Q → rl_X12_peek_21 (m + 1) R (nI p) (nI v) x3 (nI n) Q := fun x3 n m hn hQ => by
    refine bf_ (nI_pos (by omega)) ?_
    rw [e n hn, nI_clamp (by omega)]
    rcases hF with ⟨h1, rfl⟩ | ⟨h1, rfl⟩
    · exact bt_ h1 ⟨ri_v (n := 131072) rfl (by omega) (by decide), hQ⟩
    · exact bf_ h1 ⟨ri_v (n := 131072) rfl (by omega) (by decide), hQ⟩
  refine st 0 3 4 (by decide) (st _ 2 3 (by decide) (st _ 1 2 (by decide) (st _ 0 1 (by decide) (bt_ (by decide) ?_))))
  rw [show (0 : Int32) <<< ((8 : Int32) &&& 31) = 0 from rfl, Int32.zero_or]
  exact h
theorem Q_peek {b : Nat} {L : c_L} {Z : z_C} {K : c_S} {R : r_S} {x1 x2 : Int32} (w : WR b L Z K R) (hz : ¬ z_bg Z = 0 → z_mv Z = z_np Z) : QA K R (km_X11_peek L K 0 x1 x2) (rm_X12_peek R x1 x2) := by
  have w0 := WR_400 (v := 0) w
  have np16 : z_np Z ≤ 16 := CQ_np (WR_cq w)
  have eb : c_I K 1214 0 = r_I R 2414 := (GL_el w).2.2.2.1.1
  have eb2 := (GL_el w).2.2.2.2.2.2.2
  rcases pa_cases w0 x1 with ⟨hk, hr⟩ | ⟨p, hp, rfl, hk, hr⟩
  · exact ⟨0, fun Q hQ => hk _ (bt_ rfl hQ), fun Q hQ => hr _ ⟨_, rfl, bt_ rfl ⟨nb_0, _, rfl, nt_ rfl hQ⟩⟩⟩
  · have hp : p < z_np Z := hp
    have m5 := (CQ_p (WR_cq w) hp).1
    obtain ⟨b1, b2, b3, b4, b5, b6, b7, b8, b9⟩ := CM_p (WR_cm w) hp
    have cp := nI_clamp (n := p) (by omega)
    have vpp : ∀ f : Nat, r_N f = 16 → vp_in (nI p) (r_N f) := fun f hf => ri_v hf (by omega) (by decide)
    have b5' : r_A (rs_I R 2400 0) 2425 p = nI (z_by Z p) := b5
    have al := al_4 x2 (N := 4) (k := 2) rfl (by decide) (n := 4) rfl (m := 3) rfl
    have no : (x2 < 0 ∨ nI (z_by Z p) ≤ x2 ∨ ¬ x2 &&& 3 = 0) → QA K R (km_X11_peek L K 0 (nI p) x2) (rm_X12_peek R (nI p) x2) := fun ho => by
      refine ⟨0, fun Q hQ => hk _ (bf_ (fun z => (by cases z)) ⟨_, rfl, m5, ?_⟩), fun Q hQ => hr _ ⟨_, rfl, bf_ (by decide) ?_⟩⟩
      · have q : narrow .boolean (.int 0) = .int 0 ∧ ((¬ (0 : Int32) = 0 → (((c_I K 1214 0) = 0 → (vp_in (x2 >>> ((2 : Int32) &&& 31)) (c_ln L 802 p) ∧ (kb_X11_peek_61 L K (c_A K 802 p (x2 >>> ((2 : Int32) &&& 31)).toNatClampNeg) Q))) ∧ (¬ (c_I K 1214 0) = 0 → (vp_in (x2 >>> ((2 : Int32) &&& 31)) (c_ln L 801 p) ∧ (kb_X11_peek_61 L K (c_A K 801 p (x2 >>> ((2 : Int32) &&& 31)).toNatClampNeg) Q))))) ∧ ((0 : Int32) = 0 → (kb_X11_peek_24 L K Q))) := ⟨nb_0, nt_ rfl hQ⟩
        by_cases c : x2 < 0
        · exact bt_ c q
        · by_cases c2 : nI (z_by Z p) ≤ x2
          · exact bf_ c (bt_ (by rw [b4]; exact c2) q)
          · exact bf_ c (bf_ (by rw [b4]; exact c2) (nf_ (ho.elim (fun z => absurd z c) (fun z => z.elim (fun z => absurd z c2) id)) q))
      · have q : narrow .boolean (.int 0) = .int 0 ∧ ∃ x15_ : Int32, (some (Value.int 0)) = some (.int x15_) ∧ ((¬ x15_ = 0 → (∃ n17_ : Nat, rl_X12_peek_21 n17_ (rs_I R 2400 0) (nI p) x2 (0 : Int32) (3 : Int32) Q)) ∧ (x15_ = 0 → (Q (some (.int (0 : Int32))) (rs_I R 2400 0)))) := ⟨nb_0, _, rfl, nt_ rfl hQ⟩
        by_cases c : x2 < 0
        · exact bt_ c q
        · refine bf_ c ⟨vpp _ rfl, ?_⟩
          rw [cp, b5']
          by_cases c2 : nI (z_by Z p) ≤ x2
          · exact bt_ c2 q
          · exact bf_ c2 (nf_ (fun z => (ho.elim (fun z => absurd z c) (fun z => z.elim (fun z => absurd z c2) id)) (al.mpr z)) q)
    by_cases c : x2 < 0
    · exact no (Or.inl c)
    by_cases c2 : nI (z_by Z p) ≤ x2
    · exact no (Or.inr (Or.inl c2))
    by_cases c3 : x2 &&& 3 = 0
    · obtain ⟨v, hv, rfl⟩ := nI_of c
      have hvb : v < z_by Z p := Classical.byContradiction fun z => c2 (nI_le (by omega) hv)
      have hm : v % 4 = 0 := by
        rw [pl_a hv] at c3
        exact (nI_eq (a := v % 4) (b := 0) (by omega) (by decide)).mp c3
      obtain ⟨i, rfl⟩ : ∃ i : Nat, v = 4 * i := ⟨v / 4, by omega⟩
      have hi : i < z_by Z p / 4 := by omega
      have es : nI (4 * i) >>> ((2 : Int32) &&& 31) = nI i := by rw [pl_s hv, Nat.mul_div_cancel_left _ (by decide)]
      have ci := nI_clamp (n := i) (by omega)
      have kgo : ∀ Q : Int32 → c_S → Prop, (((c_I K 1214 0) = 0 → Q (c_A K 802 p i) K) ∧ (¬ (c_I K 1214 0) = 0 → Q (c_A K 801 p i) K)) → km_X11_peek L K 0 (nI p) (nI (4 * i)) Q := fun Q hQ => by
        refine hk _ (bf_ (fun z => (by cases z)) ⟨_, rfl, m5, bf_ c (bf_ (by rw [b4]; exact c2) (nt_ c3 ⟨nb_1, nf_ (by decide) ?_⟩))⟩)
        rw [es, ci]
        exact ⟨fun z => ⟨vp_in_nI (by omega) (by omega), hQ.1 z⟩, fun z => ⟨vp_in_nI (by omega) (by omega), hQ.2 z⟩⟩
      have rgo : ∀ Q : Option Value → r_S → Prop, rl_X12_peek_21 5 (rs_I R 2400 0) (nI p) (nI (4 * i)) 0 3 Q → rm_X12_peek R (nI p) (nI (4 * i)) Q := fun Q hQ => by
        refine hr _ ⟨_, rfl, bf_ (by decide) (bf_ c ⟨vpp _ rfl, ?_⟩)⟩
        rw [cp, b5']
        exact bf_ c2 (nt_ (al.mp c3) ⟨nb_1, _, rfl, nf_ (by decide) ⟨_, hQ⟩⟩)
      have me := w.1.2.2.2.2.1.1 p hp i hi
      by_cases cb : r_I R 2414 = 0
      · have e2 : c_A K 802 p i = b_w (fun n => r_A R 2465 (8192 * p + (4 * i + n))) := me.2
        refine ⟨c_A K 802 p i, fun Q hQ => kgo Q (bt_ (eb.trans cb) hQ), fun Q hQ => rgo Q (re_peek (F := 2465) (by omega) (by omega) (Or.inl ⟨cb, rfl⟩) ?_)⟩
        rw [e2] at hQ
        exact hQ
      · have e2 : c_A K 801 p i = b_w (fun n => r_A R 2466 (8192 * p + (4 * i + n))) := me.1 (by
          have := hz (fun z => cb (eb2.trans z))
          omega)
        refine ⟨c_A K 801 p i, fun Q hQ => kgo Q (bf_ (fun z => cb (eb.symm.trans z)) hQ), fun Q hQ => rgo Q (re_peek (F := 2466) (by omega) (by omega) (Or.inr ⟨cb, rfl⟩) ?_)⟩
        rw [e2] at hQ
        exact hQ
    · exact no (Or.inr (Or.inr c3))
