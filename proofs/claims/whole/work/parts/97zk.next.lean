/-! Who goes next. -/
def chM (R : r_S) (p i : Nat) : Bool := decide (r_A R 2467 (16 * p + i) = 1 ∧ r_A R 2475 (16 * p + i) = 0)
def chA (R : r_S) (p i m : Nat) : Bool := decide (r_A R 2469 (16 * p + m) < r_A R 2469 (16 * p + i) ∨ (r_A R 2469 (16 * p + i) = r_A R 2469 (16 * p + m) ∧ ¬ r_A R 2476 (16 * p + m) ≤ r_A R 2476 (16 * p + i)))
theorem ch_eq {b : Nat} {L : c_L} {Z : z_C} {K : c_S} {R : r_S} {p : Nat} (w : WR b L Z K R) (hp : p < z_np Z) : b_fw (chM R p) (chA R p) (z_nq Z p) = b_fw (chM R p) (fun i m => k_ah K 0 (16 * p + i) (16 * p + m)) (z_nq Z p) := by
  refine b_fw_c (fun _ _ => rfl) (fun i m hi hm hne Mi Mm => ?_)
  have pi : c_I K 1403 (16 * p + i) = r_A R 2469 (16 * p + i) := (DP_w w hp hi).1.1
  have pm : c_I K 1403 (16 * p + m) = r_A R 2469 (16 * p + m) := (DP_w w hp hm).1.1
  have si := (of_decide_eq_true Mi).1
  have sm := (of_decide_eq_true Mm).1
  have op : (c_I K 1417 (16 * p + i)).toInt < (c_I K 1417 (16 * p + m)).toInt ↔ (r_A R 2476 (16 * p + i)).toInt < (r_A R 2476 (16 * p + m)).toInt := (((w.2.2.1.2 p hp).2 i hi).2.2 m hm (Ne.symm hne)).1 si sm
  unfold k_ah chA
  by_cases c : c_I K 1403 (16 * p + i) = c_I K 1403 (16 * p + m)
  · rw [if_neg (fun z => z.2 c)]
    rw [pi, pm] at c
    refine decide_eq_decide.mpr ⟨fun z => ?_, fun z => Or.inr ⟨c, i_nle.mpr (i_lt.mpr (op.mp (i_lt.mp z)))⟩⟩
    rcases z with z | z
    · rw [c] at z; exact absurd z (i_nlt.mpr (i_le.mpr (Int.le_refl _)))
    · exact i_lt.mpr (op.mpr (i_lt.mp (i_nle.mp z.2)))
  · rw [if_pos ⟨rfl, c⟩]
    rw [pi, pm] at c ⊢
    exact decide_eq_decide.mpr ⟨fun z => z.elim id (fun z => absurd z.1 c), fun z => Or.inl z⟩
theorem ke_choose {b : Nat} {L : c_L} {Z : z_C} {K : c_S} {R : r_S} {p : Nat} {Q : Option Nat → c_S → Prop} (w : WR b L Z K R) (hp : p < z_np Z) (h : Q ((b_fw (chM R p) (fun i m => k_ah K 0 (16 * p + i) (16 * p + m)) (z_nq Z p)).map (fun i => 16 * p + i)) K) : kb_X5_chosen_57 L K p Q := by
  have cq := WR_cq w
  have n16 := CQ_nq cq p hp
  have hn := (CQ_p cq hp).2.2.1
  have mk : ∀ i : Nat, i < z_nq Z p → c_mk L 7 (16 * p + i) := fun i hi => (CQ_q cq hp hi).1
  have e9 : ∀ i : Nat, i < z_nq Z p → c_I K 1409 (16 * p + i) = r_A R 2467 (16 * p + i) := fun i hi => (DP_w w hp hi).1.2.1
  have e16 : ∀ i : Nat, i < z_nq Z p → c_I K 1416 (16 * p + i) = r_A R 2475 (16 * p + i) := fun i hi => (DP_w w hp hi).1.2.2.2.2.2.2
  have lp : ∀ d k : Nat, k + d = z_nq Z p → kl_X5_chosen_62 L (d + 1) K p ((b_fw (chM R p) (fun i m => k_ah K 0 (16 * p + i) (16 * p + m)) k).map (fun i => 16 * p + i)) (nI k) Q := by
    intro d
    induction d with
    | zero =>
      intro k hk
      obtain rfl : k = z_nq Z p := by omega
      exact bt_ (by rw [hn]; exact nI_le (Nat.le_refl _) (by omega)) h
    | succ d ih =>
      intro k hk
      have hkn : k < z_nq Z p := by omega
      have ec : c_e7 L p (nI k).toNatClampNeg = some (16 * p + k) := by rw [nI_clamp (by omega)]; exact c_m7 (by omega) (mk k hkn)
      have nx := ih (k + 1) (by omega)
      rw [← nI_1, b_fw_s] at nx
      refine bf_ (by rw [hn]; exact nI_ge hkn (by omega)) ⟨vp_in_nI (by omega) (by decide), _, ec, mk k hkn, ?_⟩
      rw [e9 k hkn, e16 k hkn, ec]
      by_cases c1 : r_A R 2467 (16 * p + k) = 1
      case neg =>
        rw [if_neg (fun z => c1 (of_decide_eq_true z).1)] at nx
        exact nf_ c1 nx
      case pos =>
        refine nt_ c1 ?_
        by_cases c2 : r_A R 2475 (16 * p + k) = 0
        case neg =>
          rw [if_neg (fun z => c2 (of_decide_eq_true z).2)] at nx
          exact nf_ c2 nx
        case pos =>
          rw [if_pos (show chM R p k = true from decide_eq_true ⟨c1, c2⟩)] at nx
          refine nt_ c2 ?_
          cases e : b_fw (chM R p) (fun i m => k_ah K 0 (16 * p + i) (16 * p + m)) k with
          | none =>
            rw [e] at nx
            exact bt_ rfl nx
          | some y =>
            rw [e] at nx
            simp only at nx
            have hy := (b_fw_lt e).1
            refine bf_ (fun z => (by cases z)) (ke_isAheadOf (mk y (by omega)) ?_)
            by_cases c3 : k_ah K 0 (16 * p + k) (16 * p + y) = true
            · rw [if_pos c3] at nx ⊢
              exact bf_ (by decide) nx
            · rw [if_neg c3] at nx ⊢
              exact bt_ rfl nx
  exact ⟨z_nq Z p + 1, lp (z_nq Z p) 0 (by omega)⟩
theorem re_choose {b : Nat} {L : c_L} {Z : z_C} {K : c_S} {R : r_S} {p : Nat} {Q : Option Value → r_S → Prop} (w : WR b L Z K R) (hp : p < z_np Z) (h : Q (some (.int (o_i ((b_fw (chM R p) (chA R p) (z_nq Z p)).map (fun i => 16 * p + i))))) R) : ∃ n : Nat, rl_X12_nextOf_73 n R (nI p) (-1) (nI (16 * p + 0)) Q := by
  have cq := WR_cq w
  have np16 := CQ_np cq
  have n16 := CQ_nq cq p hp
  have hn2 := (CQ_p cq hp).2.2.2
  have lp : ∀ d k : Nat, k + d = z_nq Z p → rl_X12_nextOf_73 (d + 1) R (nI p) (o_i ((b_fw (chM R p) (chA R p) k).map (fun i => 16 * p + i))) (nI (16 * p + k)) Q := by
    intro d
    induction d with
    | zero =>
      intro k hk
      obtain rfl : k = z_nq Z p := by omega
      rw [rl_X12_nextOf_73, rb_X12_nextOf_73]
      exact re_lastOf (by omega) hn2 ⟨_, rfl, bt_ (nI_le (Nat.le_refl _) (by omega)) h⟩
    | succ d ih =>
      intro k hk
      have hkn : k < z_nq Z p := by omega
      have ck := nI_clamp (n := 16 * p + k) (by omega)
      have vk : ∀ f : Nat, r_N f = 256 → vp_in (nI (16 * p + k)) (r_N f) := fun f hf => ri_v hf (by omega) (by decide)
      have nx := ih (k + 1) (by omega)
      rw [show 16 * p + (k + 1) = 16 * p + k + 1 by omega, ← nI_1, b_fw_s] at nx
      rw [rl_X12_nextOf_73, rb_X12_nextOf_73]
      refine re_lastOf (by omega) hn2 ⟨_, rfl, bf_ (nI_ge (by omega) (by omega)) ⟨vk _ rfl, ?_⟩⟩
      rw [ck]
      by_cases c1 : r_A R 2467 (16 * p + k) = 1
      case neg =>
        rw [if_neg (fun z => c1 (of_decide_eq_true z).1)] at nx
        exact nf_ c1 nx
      case pos =>
        refine nt_ c1 ⟨vk _ rfl, ?_⟩
        by_cases c2 : r_A R 2475 (16 * p + k) = 0
        case neg =>
          rw [if_neg (fun z => c2 (of_decide_eq_true z).2)] at nx
          exact bf_ c2 nx
        case pos =>
          rw [if_pos (show chM R p k = true from decide_eq_true ⟨c1, c2⟩)] at nx
          refine bt_ c2 ?_
          cases e : b_fw (chM R p) (chA R p) k with
          | none =>
            rw [e] at nx
            exact bt_ rfl nx
          | some y =>
            rw [e] at nx
            simp only at nx
            have hy := (b_fw_lt e).1
            have cy := nI_clamp (n := 16 * p + y) (by omega)
            have vy : ∀ f : Nat, r_N f = 256 → vp_in (nI (16 * p + y)) (r_N f) := fun f hf => ri_v hf (by omega) (by decide)
            refine bf_ (nI_m1 (show 16 * p + y < 2 ^ 31 by omega)) ⟨vk _ rfl, vy _ rfl, ?_⟩
            rw [show (o_i (Option.map (fun i => 16 * p + i) (some y))).toNatClampNeg = 16 * p + y from cy]
            by_cases c3 : r_A R 2469 (16 * p + y) < r_A R 2469 (16 * p + k)
            · rw [if_pos (show chA R p k y = true from decide_eq_true (Or.inl c3))] at nx
              exact bt_ c3 nx
            · refine bf_ c3 ⟨vk _ rfl, vy _ rfl, ?_⟩
              by_cases c4 : r_A R 2469 (16 * p + k) = r_A R 2469 (16 * p + y)
              case neg =>
                rw [if_neg (show ¬ chA R p k y = true from fun z => (of_decide_eq_true z).elim c3 (fun z => c4 z.1))] at nx
                exact nf_ c4 nx
              case pos =>
                refine nt_ c4 ⟨vk _ rfl, vy _ rfl, ?_⟩
                by_cases c5 : r_A R 2476 (16 * p + y) ≤ r_A R 2476 (16 * p + k)
                · rw [if_neg (show ¬ chA R p k y = true from fun z => (of_decide_eq_true z).elim c3 (fun z => z.2 c5))] at nx
                  exact bt_ c5 nx
                · rw [if_pos (show chA R p k y = true from decide_eq_true (Or.inr ⟨c4, c5⟩))] at nx
                  exact bf_ c5 nx
  exact ⟨z_nq Z p + 1, lp (z_nq Z p) 0 (by omega)⟩
theorem P_next {b : Nat} {L : c_L} {Z : z_C} {K : c_S} {R : r_S} {p : Nat} (w : WR b L Z K R) (hp : p < z_np Z) (hm : r_A R 2483 p = 0) (hbg : ¬ r_I R 2414 = 0) : ∃ o : Option Nat, (∀ j : Nat, o = some j → j < z_nq Z p ∧ r_A R 2467 (16 * p + j) = 1) ∧ (∀ Q : Option Nat → c_S → Prop, Q (o.map (fun i => 16 * p + i)) K → km_X5_chosen L K p Q) ∧ (∀ Q : Option Value → r_S → Prop, Q (some (.int (o_i (o.map (fun i => 16 * p + i))))) R → rm_X12_nextOf R (nI p) Q) := by
  have cq := WR_cq w
  have np16 := CQ_np cq
  have n16 := CQ_nq cq p hp
  have hn := (CQ_p cq hp).2.2.1
  have cp := nI_clamp (n := p) (by omega)
  have e16 : (16 : Int32) * nI p = nI (16 * p + 0) := by rw [show (16 : Int32) = nI 16 from rfl, pk_mul]; rfl
  have vpp : ∀ f : Nat, r_N f = 16 → vp_in (nI p) (r_N f) := fun f hf => ri_v hf (by omega) (by decide)
  have mk : ∀ i : Nat, i < z_nq Z p → c_mk L 7 (16 * p + i) := fun i hi => (CQ_q cq hp hi).1
  have e9 : ∀ i : Nat, i < z_nq Z p → c_I K 1409 (16 * p + i) = r_A R 2467 (16 * p + i) := fun i hi => (DP_w w hp hi).1.2.1
  have pv := PD_v w.2.2.2.2.1 hp
  have e13 : c_I K 1013 p = r_A R 2486 p := pv.1.2.2.2.2
  have e0 : 0 ≤ (r_A R 2486 p).toInt := pv.2.2.1.1
  -- below the handler
  have low : ∃ o : Option Nat, (∀ j : Nat, o = some j → j < z_nq Z p ∧ r_A R 2467 (16 * p + j) = 1) ∧ (∀ Q : Option Nat → c_S → Prop, Q (o.map (fun i => 16 * p + i)) K → kb_X5_chosen_23 L K p Q) ∧ (∀ Q : Option Value → r_S → Prop, Q (some (.int (o_i (o.map (fun i => 16 * p + i))))) R → rb_X12_nextOf_50 R (nI p) Q) := by
    by_cases c : r_A R 2486 p ≤ 0
    · refine ⟨b_fw (chM R p) (chA R p) (z_nq Z p), fun j e => ?_, fun Q hQ => bt_ (by rw [e13]; exact c) (bt_ rfl (ke_choose w hp ?_)), fun Q hQ => ⟨vpp _ rfl, ?_⟩⟩
      · have := b_fw_lt e
        exact ⟨this.1, (of_decide_eq_true this.2).1⟩
      · rw [← ch_eq w hp]; exact hQ
      · rw [cp, e16]
        exact bt_ c (re_choose w hp hQ)
    · obtain ⟨j, hj, -, e14, e87, sj⟩ := pv.2.2.2.2.1 (show c_I K 1013 p ≠ 0 from fun z => c (by rw [← e13, z]; decide))
      have e14 : c_I K 1014 p = nI j := e14
      have e87 : r_A R 2487 p = nI (16 * p + j) := e87
      have sj : r_A R 2467 (16 * p + j) = 1 := sj
      refine ⟨some j, fun i e => by injection e with e; subst e; exact ⟨hj, sj⟩, fun Q hQ => bf_ (by rw [e13]; exact c) ?_, fun Q hQ => ⟨vpp _ rfl, ?_⟩⟩
      · rw [e14]
        exact ke_processAt hn hj n16 (mk j hj) (bf_ (fun z => (by cases z)) ⟨_, rfl, mk j hj, nt_ ((e9 j hj).trans sj) hQ⟩)
      · rw [cp]
        refine bf_ c ⟨vpp _ rfl, ?_⟩
        rw [e87]
        exact hQ
  have up : ∀ Q : Option Value → r_S → Prop, (((r_A R 2442 p) = (-1 : Int32) → (rb_X12_nextOf_50 R (nI p) Q)) ∧ (¬ (r_A R 2442 p) = (-1 : Int32) → (vp_in (nI p) (r_N 2442) ∧ (vp_in (r_A R 2442 p) (r_N 2467) ∧ ((¬ (r_A R 2467 (r_A R 2442 p).toNatClampNeg) = (1 : Int32) → (rb_X12_nextOf_50 R (nI p) Q)) ∧ ((r_A R 2467 (r_A R 2442 p).toNatClampNeg) = (1 : Int32) → (vp_in (nI p) (r_N 2442) ∧ (Q (some (.int (r_A R 2442 p))) R)))))))) → rm_X12_nextOf R (nI p) Q := fun Q hQ => by
    refine bf_ hbg ⟨vpp _ rfl, ?_⟩
    rw [cp]
    exact bt_ hm ⟨vpp _ rfl, hQ⟩
  cases eh : z_hd Z p with
  | none =>
    obtain ⟨h1, h2⟩ := CQ_h0 cq hp eh
    obtain ⟨o, a1, a2, a3⟩ := low
    refine ⟨o, a1, fun Q hQ => ?_, fun Q hQ => up Q (bt_ h2 (a3 Q hQ))⟩
    unfold km_X5_chosen
    rw [h1]
    exact ke_processAt0 hn (Or.inl (by decide)) (bt_ rfl (a2 Q hQ))
  | some i =>
    obtain ⟨hi, h1, h2⟩ := CQ_h1 cq hp eh
    have vi : vp_in (nI (16 * p + i)) (r_N 2467) := ri_v (n := 256) rfl (by omega) (by decide)
    have ci := nI_clamp (n := 16 * p + i) (by omega)
    have n1 : ¬ nI (16 * p + i) = -1 := nI_m1 (by omega)
    by_cases c : r_A R 2467 (16 * p + i) = 1
    · refine ⟨some i, fun j e => by injection e with e; subst e; exact ⟨hi, c⟩, fun Q hQ => ?_, fun Q hQ => up Q ?_⟩
      · unfold km_X5_chosen
        rw [h1]
        exact ke_processAt hn hi n16 (mk i hi) (bf_ (fun z => (by cases z)) ⟨_, rfl, mk i hi, nt_ ((e9 i hi).trans c) hQ⟩)
      · rw [h2, ci]
        exact bf_ n1 ⟨vpp _ rfl, vi, nt_ c ⟨vpp _ rfl, hQ⟩⟩
    · obtain ⟨o, a1, a2, a3⟩ := low
      refine ⟨o, a1, fun Q hQ => ?_, fun Q hQ => up Q ?_⟩
      · unfold km_X5_chosen
        rw [h1]
        exact ke_processAt hn hi n16 (mk i hi) (bf_ (fun z => (by cases z)) ⟨_, rfl, mk i hi, nf_ (fun z => c ((e9 i hi).symm.trans z)) (a2 Q hQ)⟩)
      · rw [h2, ci]
        exact bf_ n1 ⟨vpp _ rfl, vi, nf_ c (a3 Q hQ)⟩
