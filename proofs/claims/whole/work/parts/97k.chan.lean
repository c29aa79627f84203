/-! Channels: a sample, a queue. -/
theorem WR_samp {b : Nat} {L : c_L} {Z : z_C} {K : c_S} {R : r_S} {c : Nat} {w : Int32} (h : WR b L Z K R) (hc : c < z_nc Z) (h0 : r_A R 2454 c = 0) : WR b L Z (cs_I (cs_I (cs_A (cs_I (cs_I K 1602 (1000 + c) 0) 1603 (1000 + c) 0) 1600 (1000 + c) 0 w) 1603 (1000 + c) 1) 205 c (r_I R 2463)) (rs_A (rs_A (rs_A R 2498 c 1) 2499 c w) 2500 c (r_I R 2463)) := by
  have nb := NT_of (WR_ct h)
  have np16 := CQ_np (WR_cq h)
  have t0 := h.2.2.2.1.1.1
  refine WR_e h (fun f i hf => ?_) (fun f i m hf => ?_) (fun _ _ => rfl) (fun _ => rfl) (fun f i hf => ?_) ?_ ?_
  · rw [c_In (Or.inl (fun e => hf (by rw [e]; decide))), c_In (Or.inl (fun e => hf (by rw [e]; decide))), c_IA, c_In (Or.inl (fun e => hf (by rw [e]; decide))), c_In (Or.inl (fun e => hf (by rw [e]; decide)))]
  · rw [c_AI, c_AI, c_An (Or.inl hf), c_AI, c_AI]
  · rw [r_An (Or.inl (fun e => hf (by rw [e]; decide))), r_An (Or.inl (fun e => hf (by rw [e]; decide))), r_An (Or.inl (fun e => hf (by rw [e]; decide)))]
  · refine TH_s h.1.2.1 nb np16 (fun f i hf hi => ?_) (fun i m hi => ?_) (fun f i hf => ?_)
    · have : f ≠ 205 := by revert hf; simp only [List.mem_cons, List.not_mem_nil, or_false]; omega
      rw [c_In (Or.inl this), c_In (Or.inr (by omega)), c_IA, c_In (Or.inr (by omega)), c_In (Or.inr (by omega))]
    · rw [c_AI, c_AI, c_An (Or.inr (by omega)), c_AI, c_AI]
    · have : f ≠ 2498 ∧ f ≠ 2499 ∧ f ≠ 2500 := by revert hf; simp only [List.mem_cons, List.not_mem_nil, or_false]; omega
      rw [r_An (Or.inl this.2.2), r_An (Or.inl this.2.1), r_An (Or.inl this.1)]
  · intro x hx
    obtain ⟨q1, q2, q3⟩ := h.1.2.2.1 x hx
    have q1 : c_I K 206 x = r_A R 2503 x := q1
    have q2 : r_A R 2454 x = 1 → c_I K 205 x = -1 ∧ QUt (z_dc Z (1000 + x)) (c_I K 1602 (1000 + x)) (c_I K 1603 (1000 + x)) (c_A K 1600 (1000 + x)) (r_A R 2501 x) (fun n => r_A R 2502 (32 * x + n)) := q2
    have q3 : r_A R 2454 x = 0 → (r_A R 2498 x = 0 ∧ c_I K 205 x = -1 ∧ c_I K 1603 (1000 + x) = 0 ∧ c_I K 1602 (1000 + x) = 0) ∨ (r_A R 2498 x = 1 ∧ c_I K 205 x = r_A R 2500 x ∧ 0 ≤ (r_A R 2500 x).toInt ∧ c_I K 1603 (1000 + x) = 1 ∧ c_I K 1602 (1000 + x) = 0 ∧ c_A K 1600 (1000 + x) 0 = r_A R 2499 x) := q3
    generalize eK : cs_I (cs_I (cs_A (cs_I (cs_I K 1602 (1000 + c) 0) 1603 (1000 + c) 0) 1600 (1000 + c) 0 w) 1603 (1000 + c) 1) 205 c (r_I R 2463) = K'
    generalize eR : rs_A (rs_A (rs_A R 2498 c 1) 2499 c w) 2500 c (r_I R 2463) = R'
    have k206 : c_I K' 206 x = c_I K 206 x := by rw [← eK, c_In (Or.inl (by decide)), c_In (Or.inl (by decide)), c_IA, c_In (Or.inl (by decide)), c_In (Or.inl (by decide))]
    have rr : ∀ f : Nat, f ≠ 2498 → f ≠ 2499 → f ≠ 2500 → ∀ i : Nat, r_A R' f i = r_A R f i := fun f a1 a2 a3 i => by rw [← eR, r_An (Or.inl a3), r_An (Or.inl a2), r_An (Or.inl a1)]
    show c_I K' 206 x = r_A R' 2503 x ∧ (r_A R' 2454 x = 1 → c_I K' 205 x = -1 ∧ QUt (z_dc Z (1000 + x)) (c_I K' 1602 (1000 + x)) (c_I K' 1603 (1000 + x)) (c_A K' 1600 (1000 + x)) (r_A R' 2501 x) (fun n => r_A R' 2502 (32 * x + n))) ∧ (r_A R' 2454 x = 0 → (r_A R' 2498 x = 0 ∧ c_I K' 205 x = -1 ∧ c_I K' 1603 (1000 + x) = 0 ∧ c_I K' 1602 (1000 + x) = 0) ∨ (r_A R' 2498 x = 1 ∧ c_I K' 205 x = r_A R' 2500 x ∧ 0 ≤ (r_A R' 2500 x).toInt ∧ c_I K' 1603 (1000 + x) = 1 ∧ c_I K' 1602 (1000 + x) = 0 ∧ c_A K' 1600 (1000 + x) 0 = r_A R' 2499 x))
    rw [k206, rr 2503 (by decide) (by decide) (by decide), rr 2454 (by decide) (by decide) (by decide)]
    by_cases e : x = c
    · subst e
      refine ⟨q1, fun z => absurd (h0.symm.trans z) (by decide), fun _ => Or.inr ?_⟩
      rw [← eK, ← eR]
      refine ⟨?_, ?_, ?_, ?_, ?_, ?_⟩
      · rw [r_An (Or.inl (by decide)), r_An (Or.inl (by decide)), r_As]
      · rw [c_Is, r_As]
      · rw [r_As]; exact t0
      · rw [c_In (Or.inl (by decide)), c_Is]
      · rw [c_In (Or.inl (by decide)), c_In (Or.inl (by decide)), c_IA, c_In (Or.inl (by decide)), c_Is]
      · rw [c_AI, c_AI, c_As, r_An (Or.inl (by decide)), r_As]
    · have ek : ∀ f : Nat, f = 1602 ∨ f = 1603 → c_I K' f (1000 + x) = c_I K f (1000 + x) := fun f hf => by rw [← eK, c_In (Or.inl (by omega)), c_In (Or.inr (by omega)), c_IA, c_In (Or.inr (by omega)), c_In (Or.inr (by omega))]
      have e205 : c_I K' 205 x = c_I K 205 x := by rw [← eK, c_In (Or.inr e), c_In (Or.inl (by decide)), c_IA, c_In (Or.inl (by decide)), c_In (Or.inl (by decide))]
      have ea : c_A K' 1600 (1000 + x) = c_A K 1600 (1000 + x) := funext fun m => by rw [← eK, c_AI, c_AI, c_An (Or.inr (by omega)), c_AI, c_AI]
      have er : ∀ f : Nat, r_A R' f x = r_A R f x := fun f => by rw [← eR, r_An (Or.inr e), r_An (Or.inr e), r_An (Or.inr e)]
      rw [e205, ek 1602 (Or.inl rfl), ek 1603 (Or.inr rfl), ea, er, er, er, er, show (fun n => r_A R' 2502 (32 * x + n)) = (fun n => r_A R 2502 (32 * x + n)) from funext fun n => rr 2502 (by decide) (by decide) (by decide) _]
      exact ⟨q1, q2, q3⟩
theorem ke_sample {L : c_L} {K : c_S} {c : Nat} {w t : Int32} {Q : c_S → Prop} (hd : c_I K 1601 (1000 + c) = nI 1) (hl : 1 ≤ c_ln L 1600 (1000 + c)) (hl2 : c_ln L 1600 (1000 + c) < 2 ^ 31) (h : Q (cs_I (cs_I (cs_A (cs_I (cs_I K 1602 (1000 + c) 0) 1603 (1000 + c) 0) 1600 (1000 + c) 0 w) 1603 (1000 + c) 1) 205 c t)) : km_X1_sample L K c w t Q := by
  unfold km_X1_sample km_X8_empty
  exact ke_add1 (a := 0) (d := 1) (n := 0) hd (by rw [c_In (Or.inl (by decide)), c_Is]; rfl) (by rw [c_Is]; rfl) (by decide) (by decide) (by decide) hl hl2 h
/-- a channel's queue -/
theorem CH_u {b : Nat} {L : c_L} {Z : z_C} {K : c_S} {R : r_S} (h : WR b L Z K R) {c : Nat} (hc : c < z_nc Z) (hq : r_A R 2454 c = 1) : c_I K 205 c = -1 ∧ QUt (z_dc Z (1000 + c)) (c_I K 1602 (1000 + c)) (c_I K 1603 (1000 + c)) (c_A K 1600 (1000 + c)) (r_A R 2501 c) (fun n => r_A R 2502 (32 * c + n)) := (h.1.2.2.1 c hc).2.1 hq
theorem WR_cadd {b : Nat} {L : c_L} {Z : z_C} {K : c_S} {R : r_S} {c n : Nat} {w : Int32} (h : WR b L Z K R) (hc : c < z_nc Z) (hq : r_A R 2454 c = 1) (hr : r_A R 2501 c = nI n) (nd : n < z_dc Z (1000 + c)) : ∃ K' : c_S, (∀ Q : Int32 → c_S → Prop, Q 1 K' → km_X8_add L K (1000 + c) w Q) ∧ WR b L Z K' (rs_A (rs_A R 2502 (32 * c + n) w) 2501 c (r_A R 2501 c + 1)) ∧ (∀ f i : Nat, c_P K' f i = c_P K f i) := by
  have nb := NT_of (WR_ct h)
  have np16 := CQ_np (WR_cq h)
  have d32 : ∀ c : Nat, c < z_nc Z → z_dc Z (1000 + c) ≤ 32 := fun c hc => (CC_d (WR_cc h) hc).2.2.1
  obtain ⟨c2, c4, c5, c6, c7, -, -⟩ := CC_d (WR_cc h) hc
  obtain ⟨-, a, m, q1, q2, q3, q4, q5, q6⟩ := CH_u h hc hq
  obtain rfl : m = n := (nI_eq (by omega) (by omega)).mp (q5.symm.trans hr)
  refine ⟨cs_I (cs_A K 1600 (1000 + c) ((a + m) % z_dc Z (1000 + c)) w) 1603 (1000 + c) (nI (m + 1)), fun Q hQ => ke_add1 c2 q3 q4 q1 nd (by omega) c6 c7 hQ, ?_, fun _ _ => rfl⟩
  refine WR_e h (fun f i hf => c_In (Or.inl (fun e => hf (by rw [e]; decide)))) (fun f i m hf => c_An (Or.inl hf)) (fun _ _ => rfl) (fun _ => rfl) (fun f i hf => by rw [r_An (Or.inl (fun e => hf (by rw [e]; decide))), r_An (Or.inl (fun e => hf (by rw [e]; decide)))]) ?_ ?_
  · refine TH_s h.1.2.1 nb np16 (fun f i hf hi => c_In (Or.inr (by omega))) (fun i m hi => c_An (Or.inr (by omega))) (fun f i hf => ?_)
    have : f ≠ 2501 ∧ f ≠ 2502 := by revert hf; simp only [List.mem_cons, List.not_mem_nil, or_false]; omega
    rw [r_An (Or.inl this.1), r_An (Or.inl this.2)]
  · refine CH_qu h.1.2.2.1 hc hq (fun f i hf => c_In (Or.inl (by revert hf; simp only [List.mem_cons, List.not_mem_nil, or_false]; omega))) (fun f i hf hi => c_In (Or.inr hi)) (fun i m hi => c_An (Or.inr hi)) (fun f i hf => ?_) (fun i hi => by rw [r_An (Or.inr hi), r_An (Or.inl (by decide))]) (fun i hi => by rw [r_An (Or.inl (by decide)), r_An (Or.inr (fun e => hi (by omega)))]) d32 ?_
    · have : f ≠ 2501 ∧ f ≠ 2502 := by revert hf; simp only [List.mem_cons, List.not_mem_nil, or_false]; omega
      rw [r_An (Or.inl this.1), r_An (Or.inl this.2)]
    · rw [c_In (Or.inl (by decide)), c_Is, r_As, show c_I (cs_A K 1600 (1000 + c) ((a + m) % z_dc Z (1000 + c)) w) 1602 (1000 + c) = nI a from q3]
      refine QU_add q1 nd q6 hr (w := w) (fun x => ?_) (fun i hi => ?_)
      · show c_A (cs_A K 1600 (1000 + c) ((a + m) % z_dc Z (1000 + c)) w) 1600 (1000 + c) x = _
        rw [c_AA]
        by_cases e : x = (a + m) % z_dc Z (1000 + c)
        · rw [if_pos ⟨rfl, rfl, e⟩, if_pos e]
        · rw [if_neg (fun z => e z.2.2), if_neg e]
      · rw [r_An (Or.inl (by decide)), r_AA]
        by_cases e : i = m
        · subst e; rw [if_pos ⟨rfl, rfl⟩, if_pos rfl]
        · rw [if_neg (fun z => e (by omega)), if_neg e]
theorem WR_ctake {b : Nat} {L : c_L} {Z : z_C} {K : c_S} {R : r_S} {c n : Nat} (h : WR b L Z K R) (hc : c < z_nc Z) (hq : r_A R 2454 c = 1) (n32 : n + 1 ≤ 32) (hr : r_A R 2501 c = nI (n + 1)) : ∃ K' : c_S, (∀ Q : Int32 → c_S → Prop, Q (r_A R 2502 (32 * c)) K' → km_X8_take L K (1000 + c) Q) ∧ WR b L Z K' (r_sf 2502 (rs_A R 2501 c (r_A R 2501 c - 1)) (32 * c) n) ∧ (∀ f i : Nat, c_P K' f i = c_P K f i) ∧ n + 1 ≤ z_dc Z (1000 + c) := by
  have nb := NT_of (WR_ct h)
  have np16 := CQ_np (WR_cq h)
  have d32 : ∀ c : Nat, c < z_nc Z → z_dc Z (1000 + c) ≤ 32 := fun c hc => (CC_d (WR_cc h) hc).2.2.1
  obtain ⟨c2, c4, c5, c6, c7, -, -⟩ := CC_d (WR_cc h) hc
  obtain ⟨-, a, m, q1, q2, q3, q4, q5, q6⟩ := CH_u h hc hq
  have q5' : nI m = nI (n + 1) := q5.symm.trans hr
  obtain rfl : m = n + 1 := (nI_eq (by omega) (by omega)).mp q5'
  have hv : c_A K 1600 (1000 + c) a = r_A R 2502 (32 * c) := by
    have := q6 0 (by omega)
    rw [Nat.add_zero, Nat.mod_eq_of_lt q1] at this
    exact this
  refine ⟨cs_I (cs_I K 1602 (1000 + c) (nI ((a + 1) % z_dc Z (1000 + c)))) 1603 (1000 + c) (nI n), fun Q hQ => ke_take c2 q3 q4 q1 q2 (by omega) c6 c7 (by rw [hv]; exact hQ), ?_, fun _ _ => rfl, q2⟩
  refine WR_e h (fun f i hf => by rw [c_In (Or.inl (fun e => hf (by rw [e]; decide))), c_In (Or.inl (fun e => hf (by rw [e]; decide)))]) (fun f i m hf => rfl) (fun _ _ => rfl) (fun _ => rfl) (fun f i hf => by rw [sf_n (Or.inl (fun e => hf (by rw [e]; decide))), r_An (Or.inl (fun e => hf (by rw [e]; decide)))]) ?_ ?_
  · refine TH_s h.1.2.1 nb np16 (fun f i hf hi => by rw [c_In (Or.inr (by omega)), c_In (Or.inr (by omega))]) (fun i m hi => rfl) (fun f i hf => ?_)
    have : f ≠ 2501 ∧ f ≠ 2502 := by revert hf; simp only [List.mem_cons, List.not_mem_nil, or_false]; omega
    rw [sf_n (Or.inl this.2), r_An (Or.inl this.1)]
  · refine CH_qu h.1.2.2.1 hc hq (fun f i hf => ?_) (fun f i hf hi => by rw [c_In (Or.inr hi), c_In (Or.inr hi)]) (fun i m hi => rfl) (fun f i hf => ?_) (fun i hi => by rw [sf_n (Or.inl (by decide)), r_An (Or.inr hi)]) (fun i hi => by rw [sf_n (Or.inr (by omega)), r_An (Or.inl (by decide))]) d32 ?_
    · have : f ≠ 1602 ∧ f ≠ 1603 := by revert hf; simp only [List.mem_cons, List.not_mem_nil, or_false]; omega
      rw [c_In (Or.inl this.2), c_In (Or.inl this.1)]
    · have : f ≠ 2501 ∧ f ≠ 2502 := by revert hf; simp only [List.mem_cons, List.not_mem_nil, or_false]; omega
      rw [sf_n (Or.inl this.2), r_An (Or.inl this.1)]
    · rw [c_In (Or.inl (by decide)), c_Is, c_Is, sf_n (Or.inl (by decide)), r_As]
      refine QU_take q1 q2 q6 hr (fun i hi => ?_)
      rw [sf_w hi, r_An (Or.inl (by decide))]
      rfl
