/-! Reading: over the blanks to the next word. -/
def kt_bl (L : c_L) : Nat → c_S → (c_S → Prop) → Prop
  | 0, _, _ => False
  | n + 1, K, Q => (c_I K 1806 0 ≤ c_I K 1807 0 → kt_tok L K Q) ∧ (¬ c_I K 1806 0 ≤ c_I K 1807 0 → vp_in (c_I K 1807 0) 4000 ∧ ((c_A K 1802 0 (c_I K 1807 0).toNatClampNeg = 32 → kt_bl L n (cs_I K 1807 0 (c_I K 1807 0 + 1)) Q) ∧ (¬ c_A K 1802 0 (c_I K 1807 0).toNatClampNeg = 32 → vp_in (c_I K 1807 0) 4000 ∧ ((¬ c_A K 1802 0 (c_I K 1807 0).toNatClampNeg = 10 → kt_tok L K Q) ∧ (c_A K 1802 0 (c_I K 1807 0).toNatClampNeg = 10 → kt_bl L n (cs_I K 1807 0 (c_I K 1807 0 + 1)) Q)))))
theorem P_adv {L : c_L} {B : Nat} : ∀ (d a : Nat) (K : c_S) (R : r_S), TXr B K R → a + d = B → c_I K 1807 0 = nI a → r_I R 2405 = nI a → ∃ (K' : c_S) (R' : r_S), (∀ Q : c_S → Prop, Q K' → kt_bl L (d + 1) K Q) ∧ (∀ Q : Option Value → r_S → Prop, Q none R' → rl_X12_next_0 (d + 1) R Q) ∧ TOK B K' R' ∧ TOKf K K' R R' := by
  intro d
  induction d with
  | zero =>
    intro a K R t hd k7 r5
    have b4 := t.1
    obtain ⟨K', R', h1, h2, h3, h4⟩ := P_tok (L := L) t (show a ≤ B by omega) k7 r5
    exact ⟨K', R', fun Q hQ => bt_ (by rw [t.2.1, k7]; exact nI_le (by omega) (by omega)) (h1 Q hQ), fun Q hQ => bt_ (by rw [t.2.2.1, r5]; exact nI_le (by omega) (by omega)) (h2 Q hQ), h3, h4⟩
  | succ d ih =>
    intro a K R t hd k7 r5
    have b4 := t.1
    have ca := nI_clamp (n := a) (by omega)
    have va : vp_in (nI a) 4000 := vp_in_nI (by omega) (by decide)
    have vr : vp_in (nI a) (r_N 2402) := ri_v (n := 4000) rfl (by omega) (by decide)
    have kgo : ∀ Q : c_S → Prop, ((r_A R 2402 a = 32 → kt_bl L (d + 1) (cs_I K 1807 0 (nI (a + 1))) Q) ∧ (¬ r_A R 2402 a = 32 → ((¬ r_A R 2402 a = 10 → kt_tok L K Q) ∧ (r_A R 2402 a = 10 → kt_bl L (d + 1) (cs_I K 1807 0 (nI (a + 1))) Q)))) → kt_bl L (d + 1 + 1) K Q := fun Q hQ => by
      refine bf_ (by rw [t.2.1, k7]; exact nI_ge (by omega) (by omega)) ?_
      rw [k7, ca, t.2.2.2 a, nI_1]
      exact ⟨va, hQ.1, fun z => ⟨va, hQ.2 z⟩⟩
    have rgo : ∀ Q : Option Value → r_S → Prop, ((r_A R 2402 a = 32 → rl_X12_next_0 (d + 1) (rs_I R 2405 (nI (a + 1))) Q) ∧ (¬ r_A R 2402 a = 32 → ((¬ r_A R 2402 a = 10 → rb_X12_next_52 R Q) ∧ (r_A R 2402 a = 10 → rl_X12_next_0 (d + 1) (rs_I R 2405 (nI (a + 1))) Q)))) → rl_X12_next_0 (d + 1 + 1) R Q := fun Q hQ => by
      refine bf_ (by rw [t.2.2.1, r5]; exact nI_ge (by omega) (by omega)) ?_
      have e39 : ∀ z : rl_X12_next_0 (d + 1) (rs_I R 2405 (nI (a + 1))) Q, rb_X12_next_39 (fun S => rl_X12_next_0 (d + 1) S Q) R Q := fun z => by
        unfold rb_X12_next_39
        rw [r5, nI_1]
        exact z
      rw [r5, ca]
      exact ⟨vr, fun z => e39 (hQ.1 z), fun z => ⟨vr, fun z2 => (hQ.2 z).1 z2, fun z2 => e39 ((hQ.2 z).2 z2)⟩⟩
    by_cases cb : r_A R 2402 a = 32 ∨ r_A R 2402 a = 10
    · obtain ⟨K', R', h1, h2, h3, h4⟩ := ih (a + 1) (cs_I K 1807 0 (nI (a + 1))) (rs_I R 2405 (nI (a + 1))) t (by omega) rfl rfl
      refine ⟨K', R', fun Q hQ => kgo Q ⟨fun _ => h1 Q hQ, fun z => ⟨fun z2 => absurd (cb.resolve_left z) z2, fun _ => h1 Q hQ⟩⟩, fun Q hQ => rgo Q ⟨fun _ => h2 Q hQ, fun z => ⟨fun z2 => absurd (cb.resolve_left z) z2, fun _ => h2 Q hQ⟩⟩, h3, ?_⟩
      obtain ⟨f1, f2, f3, f4, f5⟩ := h4
      exact ⟨fun f i hf => (f1 f i hf).trans (cs_In (nt4 hf).1), f2, f3, fun f hf => (f4 f hf).trans (rs_In (nt6 hf).1), f5⟩
    · obtain ⟨K', R', h1, h2, h3, h4⟩ := P_tok (L := L) t (show a ≤ B by omega) k7 r5
      exact ⟨K', R', fun Q hQ => kgo Q (bf_ (fun z => cb (Or.inl z)) (nf_ (fun z => cb (Or.inr z)) (h1 Q hQ))), fun Q hQ => rgo Q (bf_ (fun z => cb (Or.inl z)) (nf_ (fun z => cb (Or.inr z)) (h2 Q hQ))), h3, h4⟩
