/-! Reading: the next word, alike. -/
theorem nt4 {f : Nat} (h : f ∉ [1807, 1808, 1809, 1811]) : f ≠ 1807 ∧ f ≠ 1808 ∧ f ≠ 1809 ∧ f ≠ 1811 := by
  simp only [List.mem_cons, List.not_mem_nil, or_false] at h
  omega
theorem nt6 {f : Nat} (h : f ∉ [2405, 2406, 2407, 2408, 2409, 2410]) : f ≠ 2405 ∧ f ≠ 2406 ∧ f ≠ 2407 ∧ f ≠ 2408 ∧ f ≠ 2409 ∧ f ≠ 2410 := by
  simp only [List.mem_cons, List.not_mem_nil, or_false] at h
  omega
theorem P_tok {L : c_L} {B a : Nat} {K : c_S} {R : r_S} (t : TXr B K R) (ha : a ≤ B) (k7 : c_I K 1807 0 = nI a) (r5 : r_I R 2405 = nI a) : ∃ (K' : c_S) (R' : r_S), (∀ Q : c_S → Prop, Q K' → kt_tok L K Q) ∧ (∀ Q : Option Value → r_S → Prop, Q none R' → rb_X12_next_52 R Q) ∧ TOK B K' R' ∧ TOKf K K' R R' := by
  have b4 := t.1
  have ca := nI_clamp (n := a) (by omega)
  obtain ⟨R1, hR1⟩ : ∃ R1 : r_S, R1 = rs_I (rs_I R 2407 (nI a)) 2409 (nI a) := ⟨_, rfl⟩
  have e57 : ∀ S : r_S, S = rs_I (rs_I R 2407 (r_I R 2405)) 2409 (r_I (rs_I R 2407 (r_I R 2405)) 2405) → S = R1 := fun S eS => by
    rw [eS, hR1, rs_In (f' := 2405) (by decide), r5]
  have t1 : TXr B (k_t1 K) R1 := by rw [hR1]; exact t
  have x5 : r_I R1 2405 = nI a := by rw [hR1]; exact r5
  have x4 : r_I R1 2404 = nI B := t1.2.2.1
  have x9 : r_I R1 2409 = nI a := by rw [hR1]; rfl
  have x7 : r_I R1 2407 = nI a := by rw [hR1]; rfl
  have xA : ∀ f i : Nat, r_A R1 f i = r_A R f i := by rw [hR1]; exact fun _ _ => rfl
  have x2 : R1.2 = R.2 := by rw [hR1]; rfl
  have xf : ∀ f : Nat, f ≠ 2407 → f ≠ 2409 → r_I R1 f = r_I R f := fun f h1 h2 => by rw [hR1, rs_In h2, rs_In h1]
  have y7 : c_I (k_t1 K) 1807 0 = nI a := k7
  have y6 : c_I (k_t1 K) 1806 0 = nI B := t.2.1
  have y11 : c_I (k_t1 K) 1811 0 = nI a := k7
  have yf : ∀ f i : Nat, f ≠ 1809 → f ≠ 1811 → c_I (k_t1 K) f i = c_I K f i := fun f i h1 h2 => by unfold k_t1; rw [cs_In h1, cs_In h2]
  by_cases cb : a < B
  case neg =>
    refine ⟨cs_I (k_t1 K) 1808 0 0, rs_I R1 2406 0, fun Q hQ => bf_ (by rw [y7, y6]; exact nI_nlt (by omega) (by omega)) hQ, fun Q hQ S eS => ?_, ⟨a, a, Nat.le_refl _, ha, y7, x5, y11, x7, Or.inl ⟨rfl, rfl⟩⟩, ?_⟩
    · rw [e57 S eS, x5]
      exact re_byteAt t1 ha ⟨_, rfl, bf_ (by rw [x5, x4]; exact nI_nlt (by omega) (by omega)) hQ⟩
    · refine TOKf_z (fun f i hf => ?_) (fun f i _ => rfl) rfl (fun f hf => ?_) x2
      · obtain ⟨h1, h2, h3, h4⟩ := nt4 hf
        rw [cs_In h2, yf f i h3 h4]
      · obtain ⟨h1, h2, h3, h4, h5, h6⟩ := nt6 hf
        rw [rs_In h2, xf f h3 h5]
  case pos =>
    have va : vp_in (nI a) 4000 := vp_in_nI (by omega) (by decide)
    have cA : c_A (k_t1 K) 1802 0 a = r_A R 2402 a := t.2.2.2 a
    -- both dispatch on the same byte
    have kgo : ∀ Q : c_S → Prop, ((r_A R 2402 a < 97 → kt_111 L (k_t1 K) (r_A R 2402 a) Q) ∧ (¬ r_A R 2402 a < 97 → ((122 : Int32) < r_A R 2402 a → kt_111 L (k_t1 K) (r_A R 2402 a) Q) ∧ (¬ (122 : Int32) < r_A R 2402 a → km_X9_scanName L (k_t1 K) 0 Q))) → kt_tok L K Q := fun Q hQ => by
      refine bt_ (by rw [y7, y6]; exact nI_lt cb (by omega)) ?_
      rw [y7, ca, cA]
      exact ⟨va, hQ⟩
    have rgo : ∀ Q : Option Value → r_S → Prop, (97 ≤ r_A R 2402 a ∧ r_A R 2402 a ≤ 122 → ∃ m : Nat, rl_X12_next_104 m R1 Q) → (¬ (97 ≤ r_A R 2402 a ∧ r_A R 2402 a ≤ 122) → 48 ≤ r_A R 2402 a ∧ r_A R 2402 a ≤ 57 → ∃ m : Nat, rl_X12_next_216 m (rs_I R1 2408 0) Q) → (¬ (97 ≤ r_A R 2402 a ∧ r_A R 2402 a ≤ 122) → ¬ (48 ≤ r_A R 2402 a ∧ r_A R 2402 a ≤ 57) → Q none (rs_I (rs_I (rs_I R1 2406 (if sg_ (r_A R 2402 a) = true then 3 else 5)) 2408 (r_A R 2402 a)) 2405 (r_I R1 2405 + 1))) → rb_X12_next_52 R Q := fun Q q1 q2 q3 S eS => by
      rw [e57 S eS, x5]
      refine re_byteAt t1 ha ?_
      rw [if_pos cb, xA]
      refine ⟨_, rfl, bt_ (by rw [x5, x4]; exact nI_lt cb (by omega)) (re_isLetter ⟨_, rfl, ?_⟩)⟩
      by_cases c1 : 97 ≤ r_A R 2402 a ∧ r_A R 2402 a ≤ 122
      · rw [if_pos c1]
        exact bf_ (by decide) (q1 c1)
      · rw [if_neg c1]
        refine bt_ rfl (re_isDigit ⟨_, rfl, ?_⟩)
        by_cases c2 : 48 ≤ r_A R 2402 a ∧ r_A R 2402 a ≤ 57
        · rw [if_pos c2]
          exact bf_ (by decide) (q2 c1 c2)
        · rw [if_neg c2]
          exact bt_ rfl (re_sg (q3 c1 c2))
    by_cases c1 : 97 ≤ r_A R 2402 a ∧ r_A R 2402 a ≤ 122
    · obtain ⟨a', p1, p2, ⟨p3, p4⟩, h1, h2⟩ := P_name (L := L) t1 cb y7 y11 x5 x9
      have kn : ∀ Q : c_S → Prop, km_X9_scanName L (k_t1 K) 0 Q → kt_tok L K Q := fun Q hQ => kgo Q (bf_ (i_nlt.mpr c1.1) (bf_ (i_nlt.mpr c1.2) hQ))
      have rn : ∀ Q : Option Value → r_S → Prop, (∃ m : Nat, rl_X12_next_104 m R1 Q) → rb_X12_next_52 R Q := fun Q hQ => rgo Q (fun _ => hQ) (fun z => absurd c1 z) (fun z => absurd c1 z)
      have n1 : 1 ≤ a' - a := Classical.byContradiction fun z => by
        have e : a' = a := by omega
        have := p4 (by omega)
        rw [e, xA] at this
        exact n_d0.mpr (Or.inl c1) this
      generalize hw : n_v (fun x => r_A R1 2402 (a + x)) (a' - a) = w at h1 h2
      by_cases cn : a' - a ≤ 12
      · rw [if_pos cn] at h1 h2
        refine ⟨_, _, fun Q hQ => kn Q (h1 Q hQ), fun Q hQ => rn Q (h2 Q hQ), ⟨a', a, p1, p2, ?_, rfl, ?_, x7, ?_⟩, ?_⟩
        · cases kx w 41 <;> rfl
        · cases kx w 41 <;> exact y11
        · cases ho : kx w 41 with
          | none =>
            refine Or.inr (Or.inr (Or.inr (Or.inr (Or.inr ⟨rfl, rfl, ⟨a' - a, n1, cn, by have := t1.1; omega, x9, rfl, p3, hw.symm⟩, ?_, fun i hi => ?_⟩))))
            · exact (show (-1 : Int32) = kx_c none from rfl).trans (congrArg kx_c ho.symm)
            · have hi : kx w 41 = some i := hi
              rw [ho] at hi; cases hi
          | some i =>
            by_cases ci : i < 30
            · refine Or.inr (Or.inr (Or.inr (Or.inr (Or.inl ⟨?_, ?_, ?_, ⟨a' - a, n1, cn, by have := t1.1; omega, x9, rfl, p3, hw.symm⟩, i, ci, ?_, ?_⟩))))
              · exact if_neg (show ¬ 30 ≤ i by omega)
              · exact if_pos ci
              · exact (if_pos ci).symm
              · exact ho
              · rfl
            · refine Or.inr (Or.inr (Or.inr (Or.inr (Or.inr ⟨?_, ?_, ⟨a' - a, n1, cn, by have := t1.1; omega, x9, rfl, p3, hw.symm⟩, ?_, fun i' hi => ?_⟩))))
              · exact if_pos (show 30 ≤ i by omega)
              · exact if_neg ci
              · exact (show nI i = kx_c (some i) from rfl).trans (congrArg kx_c ho.symm)
              · have hi : kx w 41 = some i' := hi
                rw [ho] at hi
                injection hi with hi
                omega
        · refine TOKf_z (fun f i hf => ?_) (fun f i hf => ?_) ?_ (fun f hf => ?_) x2
          · obtain ⟨h1, h2, h3, h4⟩ := nt4 hf
            have e : c_I (cs_I (k_nw (k_t1 K) a' w) 1808 0 2) f i = c_I K f i := by
              unfold k_nw
              rw [cs_In h2, cs_In h1]
              exact yf f i h3 h4
            cases kx w 41 with
            | none => exact e
            | some j =>
              unfold k_ky
              rw [cs_In h2, cs_In h3]
              exact e
          · have e : c_J (cs_I (k_nw (k_t1 K) a' w) 1808 0 2) f i = c_J K f i := if_neg (fun z => hf z.1)
            cases kx w 41 <;> exact e
          · cases kx w 41 <;> rfl
          · obtain ⟨h1, h2, h3, h4, h5, h6⟩ := nt6 hf
            unfold r_nw
            rw [rs_In h2, rs_In h4, rs_In h6, rs_In h1, xf f h3 h5]
      · rw [if_neg cn] at h1 h2
        refine ⟨_, _, fun Q hQ => kn Q (h1 Q hQ), fun Q hQ => rn Q (h2 Q hQ), ⟨a', a, p1, p2, rfl, rfl, y11, x7, Or.inr (Or.inl ⟨rfl, rfl⟩)⟩, ?_⟩
        refine TOKf_z (fun f i hf => ?_) (fun f i hf => if_neg (fun z => hf z.1)) rfl (fun f hf => ?_) x2
        · obtain ⟨h1, h2, h3, h4⟩ := nt4 hf
          unfold k_nw
          rw [cs_In h2, cs_In h1]
          exact yf f i h3 h4
        · obtain ⟨h1, h2, h3, h4, h5, h6⟩ := nt6 hf
          unfold r_nw
          rw [rs_In h2, rs_In h4, rs_In h6, rs_In h1, xf f h3 h5]
    · have k111 : ∀ Q : c_S → Prop, kt_111 L (k_t1 K) (r_A R 2402 a) Q → kt_tok L K Q := fun Q hQ => kgo Q ⟨fun _ => hQ, fun z => ⟨fun _ => hQ, fun z2 => absurd ⟨i_nlt.mp z, i_nlt.mp z2⟩ c1⟩⟩
      by_cases c2 : 48 ≤ r_A R 2402 a ∧ r_A R 2402 a ≤ 57
      · obtain ⟨a', v', g, h1, h2, h3, h4, h5⟩ := P_num (L := L) (p := a) (B - a) a 0 (cs_I (k_t1 K) 1809 0 0) (rs_I R1 2408 0) t1 (by omega) (Nat.le_refl _) y7 y11 rfl x5 x9 rfl
        refine ⟨_, _, fun Q hQ => k111 Q (bf_ (i_nlt.mpr c2.1) (bf_ (i_nlt.mpr c2.2) ⟨_, h1 Q hQ⟩)), fun Q hQ => rgo Q (fun z => absurd z c1) (fun _ _ => ⟨_, h2 Q hQ⟩) (fun _ z => absurd c2 z), ⟨a', a, h3, h4, rfl, rfl, y11, x7, ?_⟩, ?_⟩
        · cases g with
          | true => exact Or.inr (Or.inr (Or.inl ⟨rfl, rfl, rfl⟩))
          | false => exact Or.inr (Or.inl ⟨rfl, rfl⟩)
        · refine TOKf_z (fun f i hf => ?_) (fun f i _ => rfl) rfl (fun f hf => ?_) x2
          · obtain ⟨h1, h2, h3, h4⟩ := nt4 hf
            unfold k_tk2
            rw [cs_In h2, cs_In h1, cs_In h3, cs_In h3, yf f i h3 h4]
          · obtain ⟨h1, h2, h3, h4, h5, h6⟩ := nt6 hf
            unfold r_tk2
            rw [rs_In h2, rs_In h1, rs_In h4, rs_In h4, xf f h3 h5]
      · have ksg : ∀ Q : c_S → Prop, kt_sg (k_t1 K) (r_A R 2402 a) Q → kt_tok L K Q := fun Q hQ => k111 Q ⟨fun _ => hQ, fun z => ⟨fun _ => hQ, fun z2 => absurd ⟨i_nlt.mp z, i_nlt.mp z2⟩ c2⟩⟩
        refine ⟨_, _, fun Q hQ => ksg Q hQ, fun Q hQ => rgo Q (fun z => absurd z c1) (fun _ z => absurd z c2) (fun _ _ => hQ), ⟨a + 1, a, by omega, by omega, ?_, ?_, y11, x7, ?_⟩, ?_⟩
        · show c_I (k_t1 K) 1807 0 + 1 = nI (a + 1)
          rw [y7, nI_1]
        · show r_I R1 2405 + 1 = nI (a + 1)
          rw [x5, nI_1]
        · by_cases cs : sg_ (r_A R 2402 a) = true
          · exact Or.inr (Or.inr (Or.inr (Or.inl ⟨if_pos cs, if_pos cs, rfl⟩)))
          · exact Or.inr (Or.inl ⟨if_neg cs, if_neg cs⟩)
        · refine TOKf_z (fun f i hf => ?_) (fun f i _ => rfl) rfl (fun f hf => ?_) x2
          · obtain ⟨h1, h2, h3, h4⟩ := nt4 hf
            rw [cs_In h2, cs_In h3, cs_In h1, yf f i h3 h4]
          · obtain ⟨h1, h2, h3, h4, h5, h6⟩ := nt6 hf
            rw [rs_In h1, rs_In h4, rs_In h2, xf f h3 h5]
