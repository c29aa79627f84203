/-! What is read already stays. -/
def RQ (L : c_L) (K : c_S) (R : r_S) (p lm : Nat) (cn : Nat → Nat) (hd : Option Nat) (k nr : Nat) (re : Nat → Nat) (hp : Prop) : Prop := PH L K R p hd ∧ PA K R p hp ∧ PM L K R p k nr re ∧ PN L K R p lm cn ∧ (∀ h : Nat, hd = some h → h < cn 5) ∧ (∀ j : Nat, j < cn 5 → PQ1 K R p hd j) ∧ ∀ s i : Nat, s < 5 → i < cn s → PT1 L K R p s i
theorem RP_q {L : c_L} {K : c_S} {R : r_S} {p lm : Nat} {cn : Nat → Nat} {hd : Option Nat} {k nr : Nat} {re : Nat → Nat} {hp : Prop} (h : RP L K R p lm cn hd k nr re hp) : RQ L K R p lm cn hd k nr re hp := ⟨h.1, h.2.1, h.2.2.1, h.2.2.2.1, h.2.2.2.2.1, h.2.2.2.2.2.1, h.2.2.2.2.2.2.1⟩
/-- the places of partition p -/
def sI (p f i : Nat) : Prop := ((f / 200 = 5 ∨ f / 200 = 4) ∧ i = p) ∨ (f / 200 = 7 ∧ i / 16 = p) ∨ ((f / 200 = 10 ∨ f / 200 = 8) ∧ f ≠ 2008 ∧ i / 48 = p)
def sA (p f i : Nat) : Prop := ((f / 200 = 5 ∨ f / 200 = 4) ∧ i = p) ∨ (f / 200 = 7 ∧ i / 16 = p)
def sa (p lm f i : Nat) : Prop := (f = 2421 ∧ i < lm) ∨ (2425 ≤ f ∧ f ≤ 2452 ∧ f ≠ 2450 ∧ f ≠ 2451 ∧ i / pst f = p)
theorem sa_6 {p lm f i : Nat} (h : (2427 ≤ f ∧ f ≤ 2429) ∨ f = 2435) (hi : i < 6) : sa p lm f (6 * p + i) := by
  have e : pst f = 6 := by unfold pst; rw [if_pos h]
  refine Or.inr ⟨by omega, by omega, by omega, by omega, ?_⟩
  rw [e]; omega
theorem sa_64 {p lm f i : Nat} (h : 2431 ≤ f ∧ f ≤ 2434) (hi : i < 64) : sa p lm f (64 * p + i) := by
  have e : pst f = 64 := by unfold pst; rw [if_neg (by omega), if_pos h]
  refine Or.inr ⟨by omega, by omega, by omega, by omega, ?_⟩
  rw [e]; omega
theorem sa_16 {p lm f i : Nat} (h : (2436 ≤ f ∧ f ≤ 2441) ∨ (2448 ≤ f ∧ f ≤ 2449)) (hi : i < 16) : sa p lm f (16 * p + i) := by
  have e : pst f = 16 := by unfold pst; rw [if_neg (by omega), if_neg (by omega), if_pos (by omega)]
  refine Or.inr ⟨by omega, by omega, by omega, by omega, ?_⟩
  rw [e]; omega
theorem sa_8 {p lm f i : Nat} (h : 2443 ≤ f ∧ f ≤ 2447) (hi : i < 8) : sa p lm f (8 * p + i) := by
  have e : pst f = 8 := by unfold pst; rw [if_neg (by omega), if_neg (by omega), if_neg (by omega), if_pos h]
  refine Or.inr ⟨by omega, by omega, by omega, by omega, ?_⟩
  rw [e]; omega
theorem sa_5 {p lm i : Nat} (hi : i < 5) : sa p lm 2452 (5 * p + i) := by
  have e : pst 2452 = 5 := rfl
  refine Or.inr ⟨by omega, by omega, by omega, by omega, ?_⟩
  rw [e]; omega
theorem sa_1 {p lm f : Nat} (h : f = 2425 ∨ f = 2426 ∨ f = 2430 ∨ f = 2442) : sa p lm f p := by
  have e : pst f = 1 := by rcases h with rfl | rfl | rfl | rfl <;> rfl
  refine Or.inr ⟨by omega, by omega, by omega, by omega, ?_⟩
  rw [e]; omega
theorem RQ_of {L L' : c_L} {T : q_S} {K K' : c_S} {R R' : r_S} {p lm lm' : Nat} {cn : Nat → Nat} {hd : Option Nat} {k nr : Nat} {re : Nat → Nat} {hp : Prop} {cI cA : Nat → Nat → Prop} {rI : Nat → Prop} {rA : Nat → Nat → Prop} (h : RQ L K R p lm cn hd k nr re hp) (g : c_G L T) (lx : LX L L') (of : OF cI cA rI rA K R K' R') (hl : lm ≤ lm') (c1 : ∀ f i : Nat, sI p f i → ¬ cI f i) (c2 : ∀ f i : Nat, sA p f i → ¬ cA f i) (c4 : ∀ f i : Nat, sa p lm f i → ¬ rA f i) : RQ L' K' R' p lm' cn hd k nr re hp := by
  obtain ⟨h1, h2, h3, h4, h5, h6, h7⟩ := h
  obtain ⟨o1, o2, o3, o4⟩ := of
  have m5 := h1.1.1
  have m4 := c_gO g 1002 4 rfl (by decide) m5
  have w1 := h4.1
  have n8 : ∀ s : Nat, s < 4 → cn s ≤ 8 := fun s hs => by
    have := w1 s (by omega)
    rw [if_neg (by omega)] at this
    exact this
  have n4 : cn 4 ≤ 16 := w1 4 (by decide)
  have n5 : cn 5 ≤ 16 := w1 5 (by decide)
  have n48 : ∀ s i : Nat, s < 5 → i < cn s → (48 * p + (8 * s + i)) / 48 = p := fun s i hs hi => by
    by_cases z : s = 4
    · subst z; omega
    · have := n8 s (by omega); omega
  refine ⟨PH_c h1 lx (fun f hf _ => (o1 f p (c1 f p (Or.inl ⟨Or.inl hf, rfl⟩))).1) (o4 _ _ (c4 _ _ (sa_1 (by omega)))), PA_c h2 (fun j => o2 _ _ _ (c2 _ _ (Or.inl ⟨Or.inl rfl, rfl⟩))) (fun j hj => o4 _ _ (c4 _ _ (sa_5 hj))) id, PM_c h3 (lx.2 801 p (by decide) m4) (lx.2 802 p (by decide) m4) (fun f hf => (o1 f p (c1 f p (Or.inl ⟨Or.inr hf, rfl⟩))).1) (fun f j hf => o2 _ _ _ (c2 _ _ (Or.inl ⟨Or.inr hf, rfl⟩))) ⟨o4 _ _ (c4 _ _ (sa_1 (by omega))), o4 _ _ (c4 _ _ (sa_1 (by omega)))⟩ (fun f i a b c => o4 _ _ (c4 _ _ (sa_6 (Or.inl ⟨a, b⟩) c))), ?_, h5, fun j hj => PQ1_c (h6 j hj) (fun f hf => (o1 f _ (c1 f _ (Or.inr (Or.inl ⟨hf, by omega⟩)))).1) (fun x => o2 _ _ _ (c2 _ _ (Or.inr ⟨rfl, by omega⟩))) (fun f a b => o4 _ _ (c4 _ _ (sa_16 (Or.inl ⟨a, b⟩) (by omega)))) Iff.rfl, fun s i hs hi => ?_⟩
  · refine PN_c h4 lx hl (o1 1004 p (c1 _ _ (Or.inl ⟨Or.inl rfl, rfl⟩))).1 (fun s _ => o2 _ _ _ (c2 _ _ (Or.inl ⟨Or.inl rfl, rfl⟩))) (fun s i hs hi => (o1 _ _ (c1 _ _ ?_)).2.1) (fun s hs => o4 _ _ (c4 _ _ (sa_6 (Or.inr rfl) (by omega)))) (o4 _ _ (c4 _ _ (sa_1 (by omega)))) (fun f k a b c => o4 _ _ (c4 _ _ (sa_64 ⟨a, b⟩ c))) (fun i hi => o4 _ _ (c4 _ _ (Or.inl ⟨rfl, hi⟩)))
    unfold n_f n_i
    by_cases z : s = 5
    · subst z
      rw [if_pos rfl, if_pos rfl]
      exact Or.inr (Or.inl ⟨rfl, by omega⟩)
    · rw [if_neg z, if_neg z]
      exact Or.inr (Or.inr ⟨Or.inl rfl, by decide, n48 s i (by omega) hi⟩)
  · refine PT1_c (h7 s i hs hi) (fun y => lx.2 1600 _ (by decide) (by subst y; exact c_gU g (h4.2.2.2.2.1 2 i (by omega) hi) (by unfold c_qu; rw [if_pos (by have := n8 2 (by omega); omega)]))) (fun f hf hn => (o1 f _ (c1 f _ (Or.inr (Or.inr ⟨hf, hn, n48 s i hs hi⟩)))).1) (fun f a => o4 _ _ (c4 _ _ (sa_8 (by omega) (by have := n8 s (by omega); omega)))) (fun y => ?_)
    subst y
    exact ⟨o4 _ _ (c4 _ _ (sa_16 (by omega) (by omega))), o4 _ _ (c4 _ _ (sa_16 (by omega) (by omega)))⟩
theorem PP_c {L L' : c_L} {K K' : c_S} {R R' : r_S} {np lm lm' : Nat} (h : PP L K R np lm) (lx : LX L L') (hl : lm ≤ lm') (k1 : c_I K' 1201 0 = c_I K 1201 0) (r1 : r_I R' 2415 = r_I R 2415) (j : ∀ p : Nat, p < np → c_J K' 1001 p = c_J K 1001 p) (r2 : ∀ p : Nat, p < np → r_A R' 2423 p = r_A R 2423 p ∧ r_A R' 2424 p = r_A R 2424 p) (le : ∀ i : Nat, i < lm → r_A R' 2421 i = r_A R 2421 i) : PP L' K' R' np lm' := by
  obtain ⟨h1, h2, h3, h4⟩ := h
  refine ⟨h1, ⟨k1.trans h2.1, r1.trans h2.2⟩, fun p hp => ?_, fun p p' hp hp' z => h4 p p' hp hp' (by rw [← j p hp, ← j p' hp']; exact z)⟩
  obtain ⟨m5, a, n, b1, b2, b3⟩ := h3 p hp
  refine ⟨(lx.1 5 p m5).1, a, n, (r2 p hp).1.trans b1, (r2 p hp).2.trans b2, ?_⟩
  rw [j p hp]
  exact NA1_c b3 hl le
theorem PP_add {L L' : c_L} {K K' : c_S} {R R' : r_S} {np lm b sz : Nat} (h : PP L K R np lm) (lx : LX L L') (h16 : np < 16) (hsz : 1 ≤ sz ∧ sz ≤ 12) (hd : ∀ x : Nat, x < sz → n_d (r_A R 2402 (b + x)) ≠ 0) (nk : ∀ p : Nat, p < np → c_J K 1001 p ≠ n_v (fun x => r_A R 2402 (b + x)) sz)
  (k1 : c_I K' 1201 0 = nI (np + 1)) (r1 : r_I R' 2415 = nI (np + 1)) (j : ∀ p : Nat, p < np → c_J K' 1001 p = c_J K 1001 p) (jn : c_J K' 1001 np = n_v (fun x => r_A R 2402 (b + x)) sz) (m5 : c_mk L' 5 np) (r2 : ∀ p : Nat, p < np → r_A R' 2423 p = r_A R 2423 p ∧ r_A R' 2424 p = r_A R 2424 p) (rn : r_A R' 2423 np = nI lm ∧ r_A R' 2424 np = nI sz) (le : ∀ i : Nat, r_A R' 2421 i = if lm ≤ i ∧ i < lm + sz then r_A R 2402 (b + (i - lm)) else r_A R 2421 i) : PP L' K' R' (np + 1) (lm + sz) := by
  obtain ⟨h1, h2, h3, h4⟩ := h
  refine ⟨by omega, ⟨k1, r1⟩, fun p hp => ?_, fun p p' hp hp' z => ?_⟩
  · by_cases y : p = np
    · subst y
      refine ⟨m5, lm, sz, rn.1, rn.2, ?_⟩
      have el : ∀ x : Nat, x < sz → r_A R' 2421 (lm + x) = r_A R 2402 (b + x) := fun x hx => by
        rw [le, if_pos (by omega)]
        congr 2
        omega
      refine ⟨⟨hsz.1, hsz.2, by omega⟩, fun x hx => by rw [el x hx]; exact hd x hx, ?_⟩
      rw [jn]
      have : ∀ m : Nat, m ≤ sz → n_v (fun x => r_A R 2402 (b + x)) m = n_v (fun x => r_A R' 2421 (lm + x)) m := by
        intro m
        induction m with
        | zero => intro _; rfl
        | succ m ih =>
          intro hm
          show n_v _ m * 37 + (n_d (r_A R 2402 (b + m))).toInt64 = n_v _ m * 37 + (n_d (r_A R' 2421 (lm + m))).toInt64
          rw [ih (by omega), el m (by omega)]
      exact this sz (Nat.le_refl sz)
    · obtain ⟨m5, a, n, b1, b2, b3⟩ := h3 p (by omega)
      refine ⟨(lx.1 5 p m5).1, a, n, (r2 p (by omega)).1.trans b1, (r2 p (by omega)).2.trans b2, ?_⟩
      rw [j p (by omega)]
      exact NA1_c b3 (by omega) (fun i hi => by rw [le, if_neg (by omega)])
  · by_cases y : p = np
    · by_cases y' : p' = np
      · omega
      · rw [y, jn, j p' (by omega)] at z
        exact absurd z.symm (nk p' (by omega))
    · by_cases y' : p' = np
      · rw [y', jn, j p (by omega)] at z
        exact absurd z (nk p (by omega))
      · rw [j p (by omega), j p' (by omega)] at z
        exact h4 p p' (by omega) (by omega) z
/-- the failed reference, through the regions -/
theorem fd_rg {w q : Int32} {R0 R : r_S} {p : Nat} {Y : r_S → (Option Value → r_S → Prop) → Prop} {RM : (Option Value → r_S → Prop) → Prop} (p16 : p < 16) (hf : FD w q R0 R) (hr : ∀ Q : Option Value → r_S → Prop, rm_X12_readRegions R (nI p) (fun r R' => r = none ∧ Y R' Q) → RM Q) : ∃ R' : r_S, FD w q R0 R' ∧ ∀ Q : Option Value → r_S → Prop, Y R' Q → RM Q := by
  have vp : vp_in (nI p) (r_N 2426) ∧ (nI p).toNatClampNeg = p := ⟨vp_in_nI (N := 16) p16 (by decide), nI_clamp (by omega)⟩
  have v6 : vp_in ((6 : Int32) * nI p) (r_N 2427) ∧ ((6 : Int32) * nI p).toNatClampNeg = 6 * p := by
    rw [show (6 : Int32) = nI 6 from rfl, pk_mul, nI_clamp (by omega)]
    exact ⟨vp_in_nI (N := 96) (by omega) (by decide), rfl⟩
  unfold rm_X12_readRegions at hr
  have hr := g_and hr vp.1
  rw [vp.2] at hr
  have hf := FD_A (f := 2426) (i := p) (v := 0) hf (by decide)
  have hr := g_npos (fs_isKey hf hr) rfl
  have hr := g_and (g_so (g_and (g_and (g_and (g_and hr vp.1) v6.1) vp.1) v6.1)) v6.1
  exact ⟨_, FD_A (FD_A (FD_A (FD_A hf (by decide)) (by decide)) (by decide)) (by decide), fun Q h => hr Q ⟨rfl, h⟩⟩
theorem fd_hd {w q : Int32} {R0 R : r_S} {p : Nat} {RM : (Option Value → r_S → Prop) → Prop} (p16 : p < 16) (hf : FD w q R0 R) (hr : ∀ Q : Option Value → r_S → Prop, ((r_I R 2411 ≤ 0 → rm_X12_readRegions R (nI p) (fun r R' => r = none ∧ ∃ n : Nat, rl_X12_readPartition_150 n (rs_I R' 2453 (-1)) (nI p) Q)) ∧ (¬ r_I R 2411 ≤ 0 → Q none R)) → RM Q) : ∃ R' : r_S, FD w q R0 R' ∧ ∀ Q : Option Value → r_S → Prop, Q none R' → RM Q := by
  rcases FD_c hf with de | pe
  · exact ⟨R, hf, g_neg hr (de_nle de)⟩
  · have hr := g_pos hr (pe_le pe)
    obtain ⟨R, hf, hr⟩ := fd_rg (Y := fun R' Q => ∃ n : Nat, rl_X12_readPartition_150 n (rs_I R' 2453 (-1)) (nI p) Q) p16 hf hr
    have hf := FD_I (f := 2453) (v := -1) hf (by decide) (by decide)
    exact fd_150 (d := 0) hf (fun Q h => hr Q ⟨2, h⟩)
