/-! Reading: which word it is. -/
/-- where the words of a text lie -/
def w_F (k W : Nat) (ws wl : Nat → Nat) : Prop := ws 0 = 1 ∧ ws W = q_sl.getD k 0 ∧ ws W < 100000 ∧ ∀ i : Nat, i < W → ws (i + 1) = ws i + wl i + 1 ∧ (∀ j : Nat, j < wl i → ¬ r_chr k (ws i + j) = 32) ∧ r_chr k (ws i + wl i) = 32
/-- word i is the n letters at s -/
def w_M (k : Nat) (ws wl : Nat → Nat) (R : r_S) (s n i : Nat) : Prop := wl i = n ∧ ∀ j : Nat, j < n → r_chr k (ws i + j) = r_A R 2402 (s + j)
theorem w_m {k W : Nat} {ws wl : Nat → Nat} (f : w_F k W ws wl) : ∀ d i : Nat, i + d ≤ W → ws i + d ≤ ws (i + d) ∧ 1 ≤ ws i := by
  have h1 : ∀ i : Nat, i ≤ W → 1 ≤ ws i := by
    intro i
    induction i with
    | zero => intro _; rw [f.1]; exact Nat.le_refl _
    | succ i ih => intro h; rw [(f.2.2.2 i (by omega)).1]; omega
  intro d
  induction d with
  | zero => intro i h; exact ⟨Nat.le_refl _, h1 i (by omega)⟩
  | succ d ih =>
    intro i h
    have a := (ih i (by omega)).1
    have b := (f.2.2.2 (i + d) (by omega)).1
    refine ⟨?_, h1 i (by omega)⟩
    rw [show i + (d + 1) = i + d + 1 by omega, b]
    omega
theorem re_numberOf {k W : Nat} {ws wl : Nat → Nat} {R : r_S} {s n : Nat} {Q : Option Value → r_S → Prop} (f : w_F k W ws wl) (h9 : r_I R 2409 = nI s) (h10 : r_I R 2410 = nI n) (hs : s + n ≤ 4000) (h : (∀ i : Nat, i < W → w_M k ws wl R s n i → (∀ i' : Nat, i' < i → ¬ w_M k ws wl R s n i') → Q (some (.int (nI i))) R) ∧ ((∀ i : Nat, i < W → ¬ w_M k ws wl R s n i) → Q (some (.int (-1))) R)) : rm_X12_numberOf R k Q := by
  have wW := f.2.2.1
  have lp : ∀ d i : Nat, i + d = W → (∀ i' : Nat, i' < i → ¬ w_M k ws wl R s n i') → rl_X12_numberOf_4 (d + 1) R k (nI i) (nI (ws i)) Q := by
    intro d
    induction d with
    | zero =>
      intro i hi hno
      obtain rfl : i = W := by omega
      exact ⟨_, rfl, bt_ (by rw [← f.2.1]; exact nI_le (Nat.le_refl _) (by omega)) (h.2 hno)⟩
    | succ d ih =>
      intro i hi hno
      obtain ⟨f1, f2, f3⟩ := f.2.2.2 i (by omega)
      have m1 := (w_m f (d + 1) i (by omega)).1
      have m2 := (w_m f d (i + 1) (by omega)).1
      rw [hi] at m1
      rw [show i + 1 + d = W by omega] at m2
      have vch : ∀ j : Nat, j ≤ wl i → vp_in (nI (ws i + j)) (q_sl.getD k 0) := fun j hj => by
        rw [← f.2.1]
        exact vp_in_nI (by omega) (by omega)
      -- what is done behind the comparison
      have aft : ∀ b : Int32, (b = 0 → ¬ w_M k ws wl R s n i) → (¬ b = 0 → w_M k ws wl R s n i) → rb_X12_numberOf_103 (fun S k1 x2 x3 => rl_X12_numberOf_4 (d + 1) S k1 x2 x3 Q) R k (nI i) (nI (ws i + wl i)) b Q := fun b b0 b1 => by
        refine ⟨fun z => ?_, fun z => h.1 i (by omega) (b1 z) hno⟩
        have nx := ih (i + 1) (by omega) (fun i' hi' => by
          by_cases c : i' = i
          · rw [c]; exact b0 z
          · exact hno i' (by omega))
        rw [← nI_1, f1, ← nI_1 (a := ws i + wl i)] at nx
        exact nx
      have cmp : ∀ e j : Nat, j + e = n → wl i = n → (∀ j' : Nat, j' < j → r_chr k (ws i + j') = r_A R 2402 (s + j')) → rl_X12_numberOf_53 (fun S k1 x2 x3 => rl_X12_numberOf_4 (d + 1) S k1 x2 x3 Q) (e + 2) R k (nI i) (nI (ws i)) (nI (ws i + wl i)) 1 (nI j) Q := by
        intro e
        induction e with
        | zero =>
          intro j hj hw hm
          exact bt_ (by rw [h10]; exact nI_le (by omega) (by omega)) (aft 1 (fun z => absurd z (by decide)) (fun _ => ⟨hw, fun j' hj' => hm j' (by omega)⟩))
        | succ e ihe =>
          intro j hj hw hm
          refine bf_ (by rw [h10]; exact nI_ge (by omega) (by omega)) (bf_ (by decide) ?_)
          rw [nI_add]
          refine ⟨vch j (by omega), _, rfl, ?_⟩
          rw [h9, nI_add, nI_clamp (n := ws i + j) (by omega), nI_clamp (n := s + j) (by omega)]
          refine ⟨ri_v (n := 4000) rfl (by omega) (by decide), fun z => ?_, fun z => ?_⟩
          · show rl_X12_numberOf_53 _ (e + 2) R k (nI i) (nI (ws i)) (nI (ws i + wl i)) 0 (nI j + 1) Q
            have a0 := aft 0 (fun _ m => z (m.2 j (by omega))) (fun y => absurd rfl y)
            by_cases c : r_I R 2410 ≤ nI j + 1
            · exact bt_ c a0
            · exact bf_ c (bt_ rfl a0)
          · have nx := ihe (j + 1) (by omega) hw (fun j' hj' => by
              by_cases c : j' = j
              · rw [c]; exact z
              · exact hm j' (by omega))
            rw [← nI_1] at nx
            exact nx
      have fnd : ∀ e j : Nat, j + e = wl i → rl_X12_numberOf_15 (fun S k1 x2 x3 => rl_X12_numberOf_4 (d + 1) S k1 x2 x3 Q) (e + 1) R k (nI i) (nI (ws i)) (nI (ws i + j)) Q := by
        intro e
        induction e with
        | zero =>
          intro j hj
          obtain rfl : j = wl i := by omega
          refine ⟨vch _ (Nat.le_refl _), _, rfl, ?_⟩
          rw [nI_clamp (n := ws i + wl i) (by omega)]
          refine bt_ f3 ?_
          rw [pk_sub (by omega), Nat.add_sub_cancel_left, h10]
          refine ⟨fun z => ⟨1, ?_⟩, fun z => ⟨n + 2, ?_⟩⟩
          · have a0 := aft 0 (fun _ m => z (by rw [m.1])) (fun y => absurd rfl y)
            by_cases c : r_I R 2410 ≤ 0
            · exact bt_ c a0
            · exact bf_ c (bt_ rfl a0)
          · have hw : wl i = n := (nI_eq (by omega) (by omega)).mp z
            exact cmp n 0 (by omega) hw (fun j' hj' => by omega)
        | succ e ihe =>
          intro j hj
          have nx := ihe (j + 1) (by omega)
          rw [← Nat.add_assoc, ← nI_1] at nx
          refine ⟨vch j (by omega), _, rfl, ?_⟩
          rw [nI_clamp (n := ws i + j) (by omega)]
          exact bf_ (f2 j (by omega)) nx
      refine ⟨_, rfl, bf_ (by rw [← f.2.1]; exact nI_ge (by omega) (by omega)) ⟨wl i + 1, ?_⟩⟩
      exact fnd (wl i) 0 (by omega)
  have := lp W 0 (by omega) (fun i' hi' => by omega)
  rw [f.1] at this
  exact ⟨W + 1, this⟩
