/-! More questions. -/
/-- a partition, or none -/
theorem pa_cases {b : Nat} {L : c_L} {Z : z_C} {K : c_S} {R : r_S} (w : WR b L Z K R) (x1 : Int32) : ((∀ Q : Option Nat → c_S → Prop, Q none K → km_X6_partitionAt L K 0 x1 Q) ∧ (∀ Q : Option Value → r_S → Prop, Q (some (.int 0)) R → rm_X12_isPartition R x1 Q)) ∨ ∃ p : Nat, p < z_np Z ∧ x1 = nI p ∧ (∀ Q : Option Nat → c_S → Prop, Q (some p) K → km_X6_partitionAt L K 0 x1 Q) ∧ (∀ Q : Option Value → r_S → Prop, Q (some (.int 1)) R → rm_X12_isPartition R x1 Q) := by
  have cc := WR_cc w
  have cq := WR_cq w
  have np16 := CQ_np cq
  rcases io_ x1 (n := z_np Z) (by omega) with ⟨p, hp, rfl⟩ | ho
  · exact Or.inr ⟨p, hp, rfl, fun Q hQ => ke_partitionAt cc cq hp hQ, fun Q hQ => re_isPart1 cc np16 hp hQ⟩
  · exact Or.inl ⟨fun Q hQ => ke_pAt0 cc ho hQ, fun Q hQ => re_isPart0 cc ho hQ⟩
theorem ke_thingAtK {L : c_L} {K : c_S} {p : Nat} {x a : Int32} {Q : Option Nat → c_S → Prop} (hx : x < 0 ∨ nI 5 ≤ x) (h : Q none K) : km_X5_thingAt L K p x a Q := by
  by_cases c : x < 0
  · exact bt_ c h
  · exact bf_ c (bt_ (hx.elim (fun z => absurd z c) id) h)
/-- a partition's thing, or none -/
theorem th_cases {b : Nat} {L : c_L} {Z : z_C} {K : c_S} {R : r_S} {p : Nat} (w : WR b L Z K R) (hp : p < z_np Z) (x2 x3 : Int32) : ((∀ Q : Option Nat → c_S → Prop, Q none K → km_X5_thingAt L K p x2 x3 Q) ∧ (∀ (N : Prop) (Q : Option Value → r_S → Prop), N → Q (some (.int 0)) R → ((x2 < 0 → N) ∧ (¬ x2 < 0 → (((5 : Int32) ≤ x2 → N) ∧ (¬ (5 : Int32) ≤ x2 → rm_X12_isThing R (nI p) x2 x3 Q)))))) ∨ ∃ s i : Nat, s < 5 ∧ i < z_nt Z p s ∧ x2 = nI s ∧ x3 = nI i ∧ (∀ Q : Option Nat → c_S → Prop, Q (some (48 * p + (8 * s + i))) K → km_X5_thingAt L K p x2 x3 Q) ∧ (∀ (N : Prop) (Q : Option Value → r_S → Prop), Q (some (.int 1)) R → ((x2 < 0 → N) ∧ (¬ x2 < 0 → (((5 : Int32) ≤ x2 → N) ∧ (¬ (5 : Int32) ≤ x2 → rm_X12_isThing R (nI p) x2 x3 Q))))) := by
  have ct := WR_ct w
  have np16 := CQ_np (WR_cq w)
  rcases io_ x2 (n := 5) (by decide) with ⟨s, hs, rfl⟩ | ho
  · have n1 : ¬ nI s < 0 := nI_pos (by omega)
    have n2 : ¬ (5 : Int32) ≤ nI s := nI_ge (a := s) (b := 5) hs (by decide)
    have t16 := (CT_n ct hp hs).1
    have t16 : z_nt Z p s ≤ 16 := Nat.le_trans t16 (by split <;> omega)
    rcases io_ x3 (n := z_nt Z p s) (by omega) with ⟨i, hi, rfl⟩ | ho
    · exact Or.inr ⟨s, i, hs, hi, rfl, rfl, fun Q hQ => ke_thingAt ct hp hs hi hQ, fun N Q hQ => bf_ n1 (bf_ n2 (re_isThing ct np16 hp hs hi hQ))⟩
    · exact Or.inl ⟨fun Q hQ => ke_thingAt0 ct hp hs ho hQ, fun N Q _ hQ => bf_ n1 (bf_ n2 (re_isThing0 ct np16 hp hs ho hQ))⟩
  · refine Or.inl ⟨fun Q hQ => ke_thingAtK ho hQ, fun N Q hN _ => ?_⟩
    by_cases c : x2 < 0
    · exact bt_ c hN
    · exact bf_ c (bt_ (ho.elim (fun z => absurd z c) id) hN)
theorem Q_thing {b : Nat} {L : c_L} {Z : z_C} {K : c_S} {R : r_S} {x1 x2 x3 : Int32} (w : WR b L Z K R) (gk : GK L) : QA K R (km_X11_thing L K 0 x1 x2 x3) (rm_X12_thing R x1 x2 x3) := by
  have w0 := WR_400 (v := 0) w
  have np16 : z_np Z ≤ 16 := CQ_np (WR_cq w)
  rcases pa_cases w0 x1 with ⟨hk, hr⟩ | ⟨p, hp, rfl, hk, hr⟩
  · exact ⟨-1, fun Q hQ => hk _ (nt_ rfl (nt_ rfl hQ)), fun Q hQ => hr _ ⟨_, rfl, bt_ rfl hQ⟩⟩
  · have m5 := (CQ_p (WR_cq w0) hp).1
    rcases th_cases w0 hp x2 x3 with ⟨tk, tr⟩ | ⟨s, i, hs, hi, rfl, rfl, tk, tr⟩
    · exact ⟨-1, fun Q hQ => hk _ (nf_ (fun z => (by cases z)) ⟨_, rfl, m5, tk _ (nt_ rfl hQ)⟩), fun Q hQ => hr _ ⟨_, rfl, bf_ (by decide) (tr _ _ hQ ⟨_, rfl, bt_ rfl hQ⟩)⟩⟩
    · have mt := (CT_n (WR_ct w0) hp hs).2.2.2 i hi
      have hp : p < z_np Z := hp
      have hi : i < z_nt Z p s := hi
      by_cases c : s = 4
      · subst c
        have t16 := (CT_n (WR_ct w) hp (s := 4) (by decide)).1
        rw [if_pos rfl] at t16
        have e8 : c_I K 2008 (48 * p + (8 * 4 + i)) = r_A R 2450 (16 * p + i) := (CT_p (WR_ct w) hp hi).2.2.1
        refine ⟨r_A R 2450 (16 * p + i), fun Q hQ => hk _ (nf_ (fun z => (by cases z)) ⟨_, rfl, m5, tk _ (nf_ (fun z => (by cases z)) (nt_ rfl ⟨_, rfl, mt, ?_⟩))⟩), fun Q hQ => hr _ ⟨_, rfl, bf_ (by decide) (tr _ _ ⟨_, rfl, bf_ (by decide) ⟨fun _ => ?_, fun z => absurd z (by decide), fun z => absurd z (by decide), fun z => absurd z (by decide), fun z => absurd z (by decide)⟩⟩)⟩⟩
        · rw [e8]; exact hQ
        · rw [show (16 : Int32) * nI p + nI i = nI (16 * p + i) by rw [show (16 : Int32) = nI 16 from rfl, pk_mul, nI_add], nI_clamp (by omega)]
          exact ⟨ri_v (n := 256) rfl (by omega) (by decide), _, rfl, hQ⟩
      · obtain ⟨v, kv, rv⟩ := k_val w0 gk hp (s := s) (by omega) hi
        have n4 : ¬ nI s = (4 : Int32) := fun z => c ((nI_eq (a := s) (b := 4) (by omega) (by decide)).mp z)
        exact ⟨v, fun Q hQ => hk _ (nf_ (fun z => (by cases z)) ⟨_, rfl, m5, tk _ (nf_ (fun z => (by cases z)) (nf_ n4 ⟨_, rfl, mt, kv _ hQ⟩))⟩), fun Q hQ => hr _ ⟨_, rfl, bf_ (by decide) (tr _ _ ⟨_, rfl, bf_ (by decide) (rv _ ⟨_, rfl, hQ⟩)⟩)⟩⟩
theorem Q_waiting {b : Nat} {L : c_L} {Z : z_C} {K : c_S} {R : r_S} {x1 x2 x3 : Int32} (w : WR b L Z K R) : QA K R (km_X11_waiting L K 0 x1 x2 x3) (rm_X12_waiting R x1 x2 x3) := by
  have w0 := WR_400 (v := 0) w
  rcases pa_cases w0 x1 with ⟨hk, hr⟩ | ⟨p, hp, rfl, hk, hr⟩
  · exact ⟨-1, fun Q hQ => hk _ (bt_ rfl hQ), fun Q hQ => hr _ ⟨_, rfl, bt_ rfl hQ⟩⟩
  · have cq := WR_cq w0
    obtain ⟨m5, -, hn, -⟩ := CQ_p cq hp
    rcases th_cases w0 hp x2 x3 with ⟨tk, tr⟩ | ⟨s, i, hs, hi, rfl, rfl, tk, tr⟩
    · exact ⟨-1, fun Q hQ => hk _ (bf_ (fun z => (by cases z)) ⟨_, rfl, m5, tk _ (nt_ rfl hQ)⟩), fun Q hQ => hr _ ⟨_, rfl, bf_ (by decide) (tr _ _ hQ ⟨_, rfl, bt_ rfl hQ⟩)⟩⟩
    · have es : nI s * (8 : Int32) + nI i = nI (8 * s + i) := by
        rw [show (8 : Int32) = nI 8 from rfl, pk_mul, nI_add, Nat.mul_comm]
      refine ⟨nI (b_ct (k_wm K p (nI (8 * s + i))) (z_nq Z p)), fun Q hQ => hk _ (bf_ (fun z => (by cases z)) ⟨_, rfl, m5, tk _ (nf_ (fun z => (by cases z)) ?_)⟩), fun Q hQ => hr _ ⟨_, rfl, bf_ (by decide) (tr _ _ ⟨_, rfl, bf_ (by decide) (re_wait w0 hp hs hi ⟨_, rfl, hQ⟩)⟩)⟩⟩
      rw [es]
      exact ke_count hn (CQ_nq cq p hp) (fun i hi => (CQ_q cq hp hi).1) hQ
theorem Q_region {b : Nat} {L : c_L} {Z : z_C} {K : c_S} {R : r_S} {x1 x2 x3 : Int32} (w : WR b L Z K R) : QA K R (km_X11_region L K 0 x1 x2 x3) (rm_X12_region R x1 x2 x3) := by
  have w0 := WR_400 (v := 0) w
  have np16 : z_np Z ≤ 16 := CQ_np (WR_cq w)
  rcases pa_cases w0 x1 with ⟨hk, hr⟩ | ⟨p, hp, rfl, hk, hr⟩
  · exact ⟨-1, fun Q hQ => hk _ (bt_ rfl hQ), fun Q hQ => hr _ ⟨_, rfl, bt_ rfl hQ⟩⟩
  · have hp : p < z_np Z := hp
    have m5 := (CQ_p (WR_cq w) hp).1
    obtain ⟨r6, r1, e3, e26, z0, zb⟩ := CM_r (WR_cm w) hp
    have cp := nI_clamp (n := p) (by omega)
    have e26' : r_A (rs_I R 2400 0) 2426 p = nI (z_nr Z p) := e26
    have vpp : ∀ f : Nat, r_N f = 16 → vp_in (nI p) (r_N f) := fun f hf => ri_v hf (by omega) (by decide)
    rcases io_ x2 (n := z_nr Z p) (by omega) with ⟨i, hi, rfl⟩ | ho
    case inr =>
      refine ⟨-1, fun Q hQ => hk _ (bf_ (fun z => (by cases z)) ?_), fun Q hQ => hr _ ⟨_, rfl, bf_ (by decide) ?_⟩⟩
      · by_cases c : x2 < 0
        · exact bt_ c hQ
        · exact bf_ c ⟨_, rfl, m5, bf_ (by rw [e3]; exact nlt_of (ho.elim (fun z => absurd z c) id)) hQ⟩
      · by_cases c : x2 < 0
        · exact bt_ c hQ
        · refine bf_ c ⟨vpp _ rfl, bt_ ?_ hQ⟩
          rw [cp, e26']
          exact ho.elim (fun z => absurd z c) id
    case inl =>
      have ci := nI_clamp (n := i) (by omega)
      obtain ⟨g1, -, g3, g4, g5, g6, -⟩ := CM_ri (WR_cm w) hp hi
      have lt8 : z_re Z p (i + 1) ≤ 8192 := by
        have a := re_l (WR_cm w) hp (i := i + 1) (j := z_nr Z p) (by omega) (by omega)
        have b := (CM_p (WR_cm w) hp).1
        omega
      have e6 : (6 : Int32) * nI p + nI i = nI (6 * p + i) := by rw [show (6 : Int32) = nI 6 from rfl, pk_mul, nI_add]
      have c6 := nI_clamp (n := 6 * p + i) (by omega)
      have v6 : ∀ f : Nat, r_N f = 96 → vp_in (nI (6 * p + i)) (r_N f) := fun f hf => ri_v hf (by omega) (by decide)
      have kin : ∀ Q : Int32 → c_S → Prop, ((x3.toInt < 0 ∨ 2 < x3.toInt → (Q (-1 : Int32) K)) ∧ (x3 = (0 : Int32) → Q (nI (z_re Z p i)) K) ∧ (x3 = (1 : Int32) → Q (nI (z_re Z p (i + 1) - z_re Z p i)) K) ∧ (x3 = (2 : Int32) → Q (r_A R 2429 (6 * p + i)) K)) → km_X11_region L K 0 (nI p) (nI i) x3 Q := fun Q hQ => by
        have fo : ∀ Q : Int32 → c_S → Prop, Q (nI (z_re Z p i)) K → km_X4_firstOf L K p (nI i) Q := fun Q hQ => by
          by_cases c0 : i = 0
          · subst c0
            rw [z0] at hQ
            exact bt_ (by decide) hQ
          · obtain ⟨i', rfl⟩ : ∃ i' : Nat, i = i' + 1 := ⟨i - 1, by omega⟩
            have es : nI (i' + 1) - 1 = nI i' := by rw [← nI_1]; exact Int32.add_sub_cancel _ _
            refine bf_ (nI_nle (by omega) (by omega)) (bt_ (by rw [e3]; exact nI_le (by omega) (by omega)) ?_)
            rw [es]
            refine ⟨vp_in_nI (by omega) (by decide), ?_⟩
            rw [nI_clamp (by omega), (CM_ri (WR_cm w) hp (i := i') (by omega)).2.2.1]
            exact hQ
        refine hk _ (bf_ (fun z => (by cases z)) (bf_ (nI_pos (by omega)) ⟨_, rfl, m5, bt_ (by rw [e3]; exact nI_lt hi (by omega)) ⟨hQ.1, fun z => fo _ (hQ.2.1 z), fun z => ⟨vp_in_nI (by omega) (by decide), fo _ ?_⟩, fun z => ⟨vp_in_nI (by omega) (by decide), ?_⟩⟩⟩))
        · rw [ci, g3, pk_sub (by omega)]
          exact hQ.2.2.1 z
        · rw [ci, g6]
          exact hQ.2.2.2 z
      have rin : ∀ Q : Option Value → r_S → Prop, ((x3 < 0 → Q (some (.int (-1))) (rs_I R 2400 0)) ∧ (¬ x3 < 0 → ((x3 ≤ (2 : Int32) → ((¬ x3 = 0 → ((¬ x3 = (1 : Int32) → Q (some (.int (r_A R 2429 (6 * p + i)))) (rs_I R 2400 0)) ∧ (x3 = (1 : Int32) → Q (some (.int (nI (z_re Z p (i + 1) - z_re Z p i)))) (rs_I R 2400 0)))) ∧ (x3 = 0 → Q (some (.int (nI (z_re Z p i)))) (rs_I R 2400 0)))) ∧ (¬ x3 ≤ (2 : Int32) → Q (some (.int (-1))) (rs_I R 2400 0))))) → rm_X12_region R (nI p) (nI i) x3 Q := fun Q hQ => by
        refine hr _ ⟨_, rfl, bf_ (by decide) (bf_ (nI_pos (by omega)) ⟨vpp _ rfl, bf_ ?_ ?_⟩)⟩
        · rw [cp, e26']
          exact nI_ge hi (by omega)
        · rw [e6, c6, show r_A (rs_I R 2400 0) 2428 (6 * p + i) = nI (z_re Z p (i + 1) - z_re Z p i) from g5, show r_A (rs_I R 2400 0) 2427 (6 * p + i) = nI (z_re Z p i) from g4]
          exact ⟨fun z => hQ.1 z, fun z => ⟨fun z2 => ⟨fun z3 => ⟨fun z4 => ⟨v6 _ rfl, (((hQ.2 z).1 z2).1 z3).1 z4⟩, fun z4 => ⟨v6 _ rfl, (((hQ.2 z).1 z2).1 z3).2 z4⟩⟩, fun z3 => ⟨v6 _ rfl, ((hQ.2 z).1 z2).2 z3⟩⟩, fun z2 => (hQ.2 z).2 z2⟩⟩
      rcases io_ x3 (n := 3) (by decide) with ⟨k, hk3, rfl⟩ | ho
      case inr =>
        have ho2 : x3.toInt < 0 ∨ 2 < x3.toInt := ho.imp i_lt0.mp (fun z => by have := i_le.mp z; have e : (nI 3).toInt = 3 := rfl; omega)
        have hx : ∀ i : Nat, i < 3 → ¬ x3 = nI i := fun i hi z => by
          rw [z, nI_toInt (by omega)] at ho2
          omega
        refine ⟨-1, fun Q hQ => kin Q ⟨fun _ => hQ, fun z => absurd z (hx 0 (by decide)), fun z => absurd z (hx 1 (by decide)), fun z => absurd z (hx 2 (by decide))⟩, fun Q hQ => rin Q ?_⟩
        refine ⟨fun _ => hQ, fun z => bf_ (fun z2 => ?_) hQ⟩
        have := i_le.mp (ho.elim (fun y => absurd y z) id)
        have e : (nI 3).toInt = 3 := rfl
        have := i_le.mp z2
        have e2 : (2 : Int32).toInt = 2 := rfl
        omega
      case inl =>
        have hk' : k = 0 ∨ k = 1 ∨ k = 2 := by omega
        rcases hk' with rfl | rfl | rfl
        · exact ⟨nI (z_re Z p i), fun Q hQ => kin Q ⟨fun z => absurd z (by decide), fun _ => hQ, fun z => absurd z (by decide), fun z => absurd z (by decide)⟩, fun Q hQ => rin Q (bf_ (by decide) (bt_ (by decide) (nt_ rfl hQ)))⟩
        · exact ⟨nI (z_re Z p (i + 1) - z_re Z p i), fun Q hQ => kin Q ⟨fun z => absurd z (by decide), fun z => absurd z (by decide), fun _ => hQ, fun z => absurd z (by decide)⟩, fun Q hQ => rin Q (bf_ (by decide) (bt_ (by decide) (nf_ (by decide) (nt_ rfl hQ))))⟩
        · exact ⟨r_A R 2429 (6 * p + i), fun Q hQ => kin Q ⟨fun z => absurd z (by decide), fun z => absurd z (by decide), fun z => absurd z (by decide), fun _ => hQ⟩, fun Q hQ => rin Q (bf_ (by decide) (bt_ (by decide) (nf_ (by decide) (nf_ (by decide) hQ))))⟩
