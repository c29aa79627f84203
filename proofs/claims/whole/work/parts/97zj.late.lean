/-! Those that are late. -/
theorem P_late {L : c_L} {Z : z_C} {p : Nat} (gk : GK L) (hp : p < z_np Z) : ∀ (d k b : Nat) (K : c_S) (R : r_S), WR b L Z K R → r_A R 2483 p = 0 → r_I R 2513 = 0 → k + d = z_nq Z p → b + 64 * d < 1999999700 → ∃ (o : Bool) (K' : c_S) (R' : r_S), (∀ Q : Int32 → c_S → Prop, Q (if o = true then 1 else 0) K' → kl_X11_lateOnesDealtWith_2 L (d + 1) K 0 (some p) (nI k) Q) ∧ (∀ Q : Option Value → r_S → Prop, rb_X12_works_214 R' (nI p) Q → rl_X12_works_148 (d + 1) R (nI p) (nI (16 * p + k)) Q) ∧ WR (b + 64 * d) L Z K' R' ∧ (o = true → r_I R' 2513 = 0 ∧ r_A R' 2483 p = 0) ∧ (o = false → r_I R' 2513 = 1) := by
  intro d
  induction d with
  | zero =>
    intro k b K R w hm h13 hk hb
    have cq := WR_cq w
    have np16 := CQ_np cq
    have n16 := CQ_nq cq p hp
    obtain ⟨m5, -, hn, hn2⟩ := CQ_p cq hp
    obtain rfl : k = z_nq Z p := by omega
    refine ⟨true, K, R, fun Q hQ => ⟨_, rfl, m5, bt_ (by rw [hn]; exact nI_le (Nat.le_refl _) (by omega)) hQ⟩, fun Q hQ => ?_, w, fun _ => ⟨h13, hm⟩, fun z => (by cases z)⟩
    rw [rl_X12_works_148, rb_X12_works_148]
    exact re_lastOf (by omega) hn2 ⟨_, rfl, bt_ (nI_le (Nat.le_refl _) (by omega)) hQ⟩
  | succ d ih =>
    intro k b K R w hm h13 hk hb
    have cq := WR_cq w
    have np16 := CQ_np cq
    have n16 := CQ_nq cq p hp
    obtain ⟨m5, -, hn, hn2⟩ := CQ_p cq hp
    have hkn : k < z_nq Z p := by omega
    have mk := (CQ_q cq hp hkn).1
    have ck := nI_clamp (n := 16 * p + k) (by omega)
    have vk : ∀ f : Nat, r_N f = 256 → vp_in (nI (16 * p + k)) (r_N f) := fun f hf => ri_v hf (by omega) (by decide)
    have ec : c_e7 L p (nI k).toNatClampNeg = some (16 * p + k) := by rw [nI_clamp (by omega)]; exact c_m7 (by omega) mk
    have et : c_I K 1211 0 = r_I R 2463 := (GL_el w).1
    have e12 : c_I K 1412 (16 * p + k) = if r_A R 2470 (16 * p + k) = 0 then -1 else r_A R 2471 (16 * p + k) := (DP_w w hp hkn).2.2.1.1
    have p4 : r_A R 2470 (16 * p + k) ≠ 0 → 0 ≤ (r_A R 2471 (16 * p + k)).toInt := (DP_w w hp hkn).2.2.1.2
    have kgo : ∀ Q : Int32 → c_S → Prop, (((c_I K 1412 (16 * p + k)) = (-1 : Int32) → (kl_X11_lateOnesDealtWith_2 L (d + 1) K 0 (some p) (nI (k + 1)) Q)) ∧ (¬ (c_I K 1412 (16 * p + k)) = (-1 : Int32) → (((c_I K 1211 0) ≤ (c_I K 1412 (16 * p + k)) → (kl_X11_lateOnesDealtWith_2 L (d + 1) K 0 (some p) (nI (k + 1)) Q)) ∧ (¬ (c_I K 1211 0) ≤ (c_I K 1412 (16 * p + k)) → (km_X11_goWrong L (cs_I K 1412 (16 * p + k) (-1 : Int32)) 0 (some p) (some (16 * p + k)) (2 : Int32) (c_I K 1412 (16 * p + k)) (fun x20_ S19_ => ((x20_ < (3 : Int32) → (kl_X11_lateOnesDealtWith_2 L (d + 1) S19_ 0 (some p) (nI (k + 1)) Q)) ∧ (¬ x20_ < (3 : Int32) → (((5 : Int32) < x20_ → (kl_X11_lateOnesDealtWith_2 L (d + 1) S19_ 0 (some p) (nI (k + 1)) Q)) ∧ (¬ (5 : Int32) < x20_ → (Q (0 : Int32) S19_))))))))))) → kl_X11_lateOnesDealtWith_2 L (d + 1 + 1) K 0 (some p) (nI k) Q := fun Q hQ => by
      rw [← nI_1] at hQ
      refine ⟨_, rfl, m5, bf_ (by rw [hn]; exact nI_ge hkn (by omega)) ⟨vp_in_nI (by omega) (by decide), _, ec, mk, ?_⟩⟩
      rw [ec]
      exact hQ
    have rgo : ∀ Q : Option Value → r_S → Prop, (((r_A R 2470 (16 * p + k)) = 0 → (rl_X12_works_148 (d + 1) R (nI p) (nI (16 * p + (k + 1))) Q)) ∧ (¬ (r_A R 2470 (16 * p + k)) = 0 → (((r_A R 2471 (16 * p + k)) < (r_I R 2463) → (rm_X12_fails (rs_A R 2470 (16 * p + k) (0 : Int32)) (nI (16 * p + k)) (2 : Int32) (r_A R 2471 (16 * p + k)) (fun r83_ S84_ => r83_ = none ∧ (rl_X12_works_148 (d + 1) S84_ (nI p) (nI (16 * p + (k + 1))) Q)))) ∧ (¬ (r_A R 2471 (16 * p + k)) < (r_I R 2463) → (rl_X12_works_148 (d + 1) R (nI p) (nI (16 * p + (k + 1))) Q))))) → rl_X12_works_148 (d + 1 + 1) R (nI p) (nI (16 * p + k)) Q := fun Q hQ => by
      rw [show 16 * p + (k + 1) = 16 * p + k + 1 by omega, ← nI_1] at hQ
      rw [rl_X12_works_148, rb_X12_works_148]
      refine re_lastOf (by omega) hn2 ⟨_, rfl, bf_ (nI_ge (by omega) (by omega)) (nt_ h13 ⟨vk _ rfl, ?_⟩)⟩
      rw [ck]
      refine ⟨fun c => hQ.1 c, fun c => ⟨vk _ rfl, fun c2 => ⟨vk _ rfl, vk _ rfl, ?_⟩, fun c2 => (hQ.2 c).2 c2⟩⟩
      rw [r_An (Or.inl (by decide))]
      exact (hQ.2 c).1 c2
    have pass : (((c_I K 1412 (16 * p + k)) = (-1 : Int32)) ∧ r_A R 2470 (16 * p + k) = 0) ∨ ((¬ (c_I K 1412 (16 * p + k)) = (-1 : Int32)) ∧ ((c_I K 1211 0) ≤ (c_I K 1412 (16 * p + k))) ∧ (¬ r_A R 2470 (16 * p + k) = 0) ∧ ¬ (r_A R 2471 (16 * p + k)) < (r_I R 2463)) → ∃ (o : Bool) (K' : c_S) (R' : r_S), (∀ Q : Int32 → c_S → Prop, Q (if o = true then 1 else 0) K' → kl_X11_lateOnesDealtWith_2 L (d + 1 + 1) K 0 (some p) (nI k) Q) ∧ (∀ Q : Option Value → r_S → Prop, rb_X12_works_214 R' (nI p) Q → rl_X12_works_148 (d + 1 + 1) R (nI p) (nI (16 * p + k)) Q) ∧ WR (b + 64 * (d + 1)) L Z K' R' ∧ (o = true → r_I R' 2513 = 0 ∧ r_A R' 2483 p = 0) ∧ (o = false → r_I R' 2513 = 1) := fun hh => by
      obtain ⟨o, K', R', g1, g2, g3, g4, g5⟩ := ih (k + 1) b K R w hm h13 (by omega) (by omega)
      refine ⟨o, K', R', fun Q hQ => kgo Q ?_, fun Q hQ => rgo Q ?_, WR_w g3 (by omega), g4, g5⟩
      · rcases hh with ⟨h1, -⟩ | ⟨h1, h2, -⟩
        · exact bt_ h1 (g1 Q hQ)
        · exact bf_ h1 (bt_ h2 (g1 Q hQ))
      · rcases hh with ⟨-, h1⟩ | ⟨-, -, h1, h2⟩
        · exact bt_ h1 (g2 Q hQ)
        · exact bf_ h1 (bf_ h2 (g2 Q hQ))
    by_cases c0 : r_A R 2470 (16 * p + k) = 0
    · rw [if_pos c0] at e12
      exact pass (Or.inl ⟨e12, c0⟩)
    · rw [if_neg c0] at e12
      have n1 : ¬ c_I K 1412 (16 * p + k) = -1 := fun z => by
        have := p4 c0
        rw [← e12, z] at this
        exact absurd this (by decide)
      by_cases c1 : r_A R 2471 (16 * p + k) < r_I R 2463
      case neg => exact pass (Or.inr ⟨n1, by rw [et, e12]; exact i_nlt.mp c1, c0, c1⟩)
      case pos =>
        have ti := w.2.2.2.1.2 p hp k hkn
        have q1 : (r_A R 2473 (16 * p + k)).toInt ≤ (r_A R 2471 (16 * p + k)).toInt := ti.2.2.2.2.1 c0
        have q2 := i_lt.mp c1
        obtain ⟨n, K1, R1, hn6, f1, f2, f3, -, f5, f6⟩ := P_fails (code := r_A R 2471 (16 * p + k)) (WR_nd w hp hkn) gk (by omega) hp hkn (k := 2) (by rw [r_nd, r_An (Or.inl (by decide))]; exact hm) (by decide) (by
          rw [r_nd, r_An (Or.inl (by decide))]
          show _ ≤ (r_I R 2463).toInt
          omega)
        have h13' : r_I (r_nd R (16 * p + k)) 2513 = 0 := h13
        rw [h13'] at f5
        have kf : ∀ Q : Int32 → c_S → Prop, (((nI n) < (3 : Int32) → (kl_X11_lateOnesDealtWith_2 L (d + 1) K1 0 (some p) (nI (k + 1)) Q)) ∧ (¬ (nI n) < (3 : Int32) → (((5 : Int32) < (nI n) → (kl_X11_lateOnesDealtWith_2 L (d + 1) K1 0 (some p) (nI (k + 1)) Q)) ∧ (¬ (5 : Int32) < (nI n) → (Q (0 : Int32) K1))))) → kl_X11_lateOnesDealtWith_2 L (d + 1 + 1) K 0 (some p) (nI k) Q := fun Q hQ => kgo Q (bf_ n1 (bf_ (by rw [et, e12]; exact i_nle.mpr c1) (by rw [e12]; exact f1 _ hQ)))
        have rf : ∀ Q : Option Value → r_S → Prop, rl_X12_works_148 (d + 1) R1 (nI p) (nI (16 * p + (k + 1))) Q → rl_X12_works_148 (d + 1 + 1) R (nI p) (nI (16 * p + k)) Q := fun Q hQ => rgo Q (bf_ c0 (bt_ c1 (f2 _ ⟨rfl, hQ⟩)))
        by_cases cn : 3 ≤ n ∧ n ≤ 5
        · rw [if_pos cn] at f5
          refine ⟨false, K1, R1, fun Q hQ => kf Q (bf_ (nI_nlt (a := n) (b := 3) (by omega) (by omega)) ?_), fun Q hQ => rf Q ?_, WR_w f3 (by omega), fun z => (by cases z), fun _ => f5⟩
          · exact bf_ (nI_nlt (a := 5) (b := n) (by omega) (by omega)) hQ
          · have hn2' := (CQ_p (WR_cq f3) hp).2.2.2
            rw [rl_X12_works_148, rb_X12_works_148]
            refine re_lastOf (by omega) hn2' ⟨_, rfl, ?_⟩
            by_cases cd : (nI (16 * p + z_nq Z p)) ≤ nI (16 * p + (k + 1))
            · exact bt_ cd hQ
            · exact bf_ cd (nf_ (show ¬ r_I R1 2513 = 0 by rw [f5]; decide) hQ)
        · rw [if_neg cn] at f5
          obtain ⟨o, K', R', g1, g2, g3, g4, g5⟩ := ih (k + 1) (b + 64) K1 R1 f3 (f6 cn) f5 (by omega) (by omega)
          refine ⟨o, K', R', fun Q hQ => kf Q ?_, fun Q hQ => rf Q (g2 Q hQ), WR_w g3 (by omega), g4, g5⟩
          refine ⟨fun _ => g1 Q hQ, fun z => ⟨fun _ => g1 Q hQ, fun z2 => absurd ?_ cn⟩⟩
          constructor
          · exact Classical.byContradiction fun z3 => z (nI_lt (a := n) (b := 3) (by omega) (by decide))
          · exact Classical.byContradiction fun z3 => z2 (nI_lt (a := 5) (b := n) (by omega) (by omega))
