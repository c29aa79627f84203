/-! Names while reading: counts, names of a partition's things; of the partitions. -/
/-- cn: how many of each sort, 5 the processes -/
def PN (L : c_L) (K : c_S) (R : r_S) (p lm : Nat) (cn : Nat → Nat) : Prop :=
  (∀ s : Nat, s ≤ 5 → cn s ≤ (if s = 4 ∨ s = 5 then 16 else 8)) ∧ (c_I K 1004 p = nI (cn 5) ∧ r_A R 2435 (6 * p + 5) = nI (cn 5)) ∧ (∀ s : Nat, s < 5 → c_A K 1006 p s = nI (cn s) ∧ r_A R 2435 (6 * p + s) = nI (cn s)) ∧
  (∀ j : Nat, j < cn 5 → c_mk L 7 (16 * p + j)) ∧ (∀ s i : Nat, s < 5 → i < cn s → c_mk L 10 (48 * p + (8 * s + i))) ∧
  (∃ tm : Nat, tm = cn 0 + cn 1 + cn 2 + cn 3 + cn 4 + cn 5 ∧ r_A R 2430 p = nI tm ∧
    (∀ k : Nat, k < tm → ∃ s i n a : Nat, s ≤ 5 ∧ i < cn s ∧ r_A R 2433 (64 * p + k) = nI s ∧ r_A R 2434 (64 * p + k) = nI i ∧ r_A R 2432 (64 * p + k) = nI n ∧ r_A R 2431 (64 * p + k) = nI a ∧ NA1 R lm a n (c_J K (n_f s) (n_i p s i))) ∧
    (∀ s i : Nat, s ≤ 5 → i < cn s → ∃ k : Nat, k < tm ∧ r_A R 2433 (64 * p + k) = nI s ∧ r_A R 2434 (64 * p + k) = nI i)) ∧
  ∀ s i s' i' : Nat, s ≤ 5 → i < cn s → s' ≤ 5 → i' < cn s' → c_J K (n_f s) (n_i p s i) = c_J K (n_f s') (n_i p s' i') → s = s' ∧ i = i'
theorem kn_named {L : c_L} {K : c_S} {R : r_S} {p lm s : Nat} {cn : Nat → Nat} {N : Int64} {Q : Int32 → c_S → Prop} (w : PN L K R p lm cn) (hs : s ≤ 5) (v : Int32) (hv : (∃ i : Nat, i < cn s ∧ c_J K (n_f s) (n_i p s i) = N ∧ v = nI i) ∨ ((∀ i : Nat, i < cn s → c_J K (n_f s) (n_i p s i) ≠ N) ∧ v = -1)) (h : Q v K) : km_X5_named L K p (nI s) N Q := by
  obtain ⟨w1, w2, w3, w4, w5, _, w7⟩ := w
  have b := w1 s hs
  have c16 : cn s ≤ 16 := by split at b <;> omega
  have c8 : s ≠ 5 → 8 * s + cn s ≤ 48 := fun z => by split at b <;> omega
  have lp : ∀ d i : Nat, i + d = cn s → (∀ i' : Nat, i' < i → c_J K (n_f s) (n_i p s i') ≠ N) → kl_X5_named_23 L (d + 1) K p (nI s) N (nI (cn s)) (nI i) Q := by
    intro d
    induction d with
    | zero =>
      intro i hi hb
      obtain rfl : i = cn s := by omega
      refine bt_ (nI_le (Nat.le_refl _) (by omega)) ?_
      rcases hv with ⟨i', a1, a2, -⟩ | ⟨-, rfl⟩
      · exact absurd a2 (hb i' a1)
      · exact h
    | succ d ih =>
      intro i hi hb
      have st : kb_X5_named_63 L (fun S a0 x1 z2 x4 x5 => kl_X5_named_23 L (d + 1) S a0 x1 z2 x4 x5 Q) K p (nI s) N (nI (cn s)) (nI i) (c_J K (n_f s) (n_i p s i)) Q := by
        by_cases c : c_J K (n_f s) (n_i p s i) = N
        · refine nt_ (lg_c0.mpr c) ?_
          rcases hv with ⟨i', a1, a2, a3⟩ | ⟨a1, -⟩
          · rw [(w7 s i' s i hs a1 hs (show i < cn s by omega) (a2.trans c.symm)).2] at a3
            rw [a3] at h
            exact h
          · exact absurd c (a1 i (by omega))
        · refine nf_ (fun z => c (lg_c0.mp z)) ?_
          rw [nI_1]
          exact ih (i + 1) (by omega) (fun i' hi' => by
            by_cases e : i' = i
            · subst e; exact c
            · exact hb i' (by omega))
      refine bf_ (nI_ge (by omega) (by omega)) ?_
      by_cases e5 : s = 5
      · subst e5
        have mi := w4 i (by omega)
        refine nt_ rfl ⟨vp_in_nI (by omega) (by decide), 16 * p + i, ?_, mi, st⟩
        rw [nI_clamp (by omega), c_m7 (by omega) mi]
      · have mi := w5 s i (by omega) (by omega)
        have := c8 e5
        have st2 : c_J K (n_f s) (n_i p s i) = c_J K 2000 (48 * p + (8 * s + i)) := by unfold n_f n_i; rw [if_neg e5, if_neg e5]
        rw [st2] at st
        refine nf_ (fun z => e5 ((nI_eq (by omega) (by decide)).mp (z.trans (show (5 : Int32) = nI 5 from rfl)))) ?_
        have e8 : nI s * (8 : Int32) + nI i = nI (8 * s + i) := by rw [show (8 : Int32) = nI 8 from rfl, pk_mul, nI_add, Nat.mul_comm]
        rw [e8]
        refine ⟨vp_in_nI (by omega) (by decide), 48 * p + (8 * s + i), ?_, mi, st⟩
        rw [nI_clamp (by omega), c_m10 (by omega) mi]
  have z := lp (cn s) 0 (by omega) (fun i' hi' => by omega)
  by_cases e5 : s = 5
  · subst e5
    refine nt_ rfl ⟨cn 5 + 1, ?_⟩
    rw [w2.1]
    exact z
  · refine nf_ (fun z => e5 ((nI_eq (by omega) (by decide)).mp (z.trans (show (5 : Int32) = nI 5 from rfl)))) ⟨vp_in_nI (by omega) (by decide), cn s + 1, ?_⟩
    rw [nI_clamp (by omega), (w3 s (by omega)).1]
    exact z
theorem kn_knows {L : c_L} {K : c_S} {R : r_S} {p lm : Nat} {cn : Nat → Nat} {N : Int64} {Q : Int32 → c_S → Prop} (w : PN L K R p lm cn) (h1 : (∃ s i : Nat, s ≤ 5 ∧ i < cn s ∧ c_J K (n_f s) (n_i p s i) = N) → Q 1 K) (h0 : (∀ s i : Nat, s ≤ 5 → i < cn s → c_J K (n_f s) (n_i p s i) ≠ N) → Q 0 K) : km_X5_knows L K p N Q := by
  have lp : ∀ d s : Nat, s + d = 6 → (∀ s' i : Nat, s' < s → i < cn s' → c_J K (n_f s') (n_i p s' i) ≠ N) → kl_X5_knows_2 L (d + 1) K p N (nI s) Q := by
    intro d
    induction d with
    | zero =>
      intro s hs hb
      obtain rfl : s = 6 := by omega
      exact bt_ (by decide) (h0 (fun s i h h' => hb s i (by omega) h'))
    | succ d ih =>
      intro s hs hb
      have n5 : ¬ (5 : Int32) < nI s := by
        have : ∀ s : Nat, s ≤ 5 → ¬ (5 : Int32) < nI s := by decide
        exact this s (by omega)
      refine bf_ n5 ?_
      by_cases c : ∃ i : Nat, i < cn s ∧ c_J K (n_f s) (n_i p s i) = N
      · obtain ⟨i, a1, a2⟩ := c
        have b := w.1 s (by omega)
        have c16 : cn s ≤ 16 := by split at b <;> omega
        exact kn_named w (by omega) (nI i) (Or.inl ⟨i, a1, a2, rfl⟩) (bf_ (nI_m1 (by omega)) (h1 ⟨s, i, by omega, a1, a2⟩))
      · refine kn_named w (by omega) (-1) (Or.inr ⟨fun i hi z => c ⟨i, hi, z⟩, rfl⟩) (bt_ rfl ?_)
        rw [nI_1]
        exact ih (s + 1) (by omega) (fun s' i a1 a2 => by
          by_cases e : s' = s
          · subst e
            exact fun z => c ⟨i, a2, z⟩
          · exact hb s' i (by omega) a2)
  exact ⟨7, lp 6 0 rfl (fun s' i z => absurd z (Nat.not_lt_zero s'))⟩
theorem re_thingNamed {L : c_L} {K : c_S} {R : r_S} {p lm b n : Nat} {cn : Nat → Nat} {Q : Option Value → r_S → Prop} (w : PN L K R p lm cn) (hp : p < 16) (hl : lm ≤ 14000) (h9 : r_I R 2409 = nI b) (h10 : r_I R 2410 = nI n) (hn : n ≤ 12) (hb : b + n ≤ 4000) (hd : ∀ x : Nat, x < n → n_d (r_A R 2402 (b + x)) ≠ 0)
  (h1 : ∀ k s i : Nat, k < 64 → s ≤ 5 → i < cn s → r_A R 2433 (64 * p + k) = nI s → r_A R 2434 (64 * p + k) = nI i → c_J K (n_f s) (n_i p s i) = n_v (fun x => r_A R 2402 (b + x)) n → Q (some (.int (nI (64 * p + k)))) R) (h0 : (∀ s i : Nat, s ≤ 5 → i < cn s → c_J K (n_f s) (n_i p s i) ≠ n_v (fun x => r_A R 2402 (b + x)) n) → Q (some (.int (-1))) R) : rm_X12_thingNamed R (nI p) Q := by
  obtain ⟨w1, w2, w3, w4, w5, ⟨tm, w6, w7, w8, w9⟩, w10⟩ := w
  have t64 : tm ≤ 64 := by
    have b0 := w1 0 (by omega)
    have b1 := w1 1 (by omega)
    have b2 := w1 2 (by omega)
    have b3 := w1 3 (by omega)
    have b4 := w1 4 (by omega)
    have b5 := w1 5 (by omega)
    simp at b0 b1 b2 b3 b4 b5
    omega
  have e64 : (64 : Int32) * nI p = nI (64 * p) := by rw [show (64 : Int32) = nI 64 from rfl, pk_mul]
  have lp : ∀ d k : Nat, k + d = tm → (∀ k' s i : Nat, k' < k → r_A R 2433 (64 * p + k') = nI s → r_A R 2434 (64 * p + k') = nI i → s ≤ 5 → i < cn s → c_J K (n_f s) (n_i p s i) ≠ n_v (fun x => r_A R 2402 (b + x)) n) → rl_X12_thingNamed_5 (d + 1) R (nI p) (nI (64 * p + k)) Q := by
    intro d
    induction d with
    | zero =>
      intro k hk hb
      refine ⟨vp_in_nI (N := 16) hp (by decide), ?_⟩
      rw [e64, nI_clamp (by omega), w7, nI_add]
      refine bt_ (nI_le (by omega) (by omega)) (h0 (fun s i a1 a2 => ?_))
      obtain ⟨k', b1, b2, b3⟩ := w9 s i a1 a2
      exact hb k' s i (by omega) b2 b3 a1 a2
    | succ d ih =>
      intro k hk hb
      refine ⟨vp_in_nI (N := 16) hp (by decide), ?_⟩
      rw [e64, nI_clamp (by omega), w7, nI_add]
      refine bf_ (nI_ge (by omega) (by omega)) ⟨vp_in_nI (N := 1024) (by omega) (by decide), vp_in_nI (N := 1024) (by omega) (by decide), ?_⟩
      rw [nI_clamp (by omega)]
      obtain ⟨s, i, n', a, b1, b2, b3, b4, b5, b6, b7⟩ := w8 k (by omega)
      rw [b5, b6]
      refine re_like b7 hl h9 h10 hn (by omega) hd (fun z => ⟨_, rfl, bf_ (by decide) (h1 k s i (by omega) b1 b2 b3 b4 z)⟩) (fun z => ⟨_, rfl, bt_ rfl ?_⟩)
      rw [nI_1]
      refine ih (k + 1) (by omega) (fun k' s' i' c1 c2 c3 c4 c5 => ?_)
      by_cases e : k' = k
      · rw [e] at c2 c3
        rw [b3] at c2
        rw [b4] at c3
        have bs := w1 s b1
        have c16 : cn s ≤ 16 := by split at bs <;> omega
        have bs' := w1 s' c4
        have c16' : cn s' ≤ 16 := by split at bs' <;> omega
        have e1 := (nI_eq (by omega) (by omega)).mp c2
        have e2 := (nI_eq (by omega) (by omega)).mp c3
        rw [← e1, ← e2]
        exact z
      · exact hb k' s' i' (by omega) c2 c3 c4 c5
  refine ⟨tm + 1, ?_⟩
  rw [e64]
  exact lp tm 0 (by omega) (fun k' s i z => absurd z (Nat.not_lt_zero k'))
/-- the names of the first np partitions -/
def PP (L : c_L) (K : c_S) (R : r_S) (np lm : Nat) : Prop := np ≤ 16 ∧ (c_I K 1201 0 = nI np ∧ r_I R 2415 = nI np) ∧ (∀ p : Nat, p < np → c_mk L 5 p ∧ ∃ a n : Nat, r_A R 2423 p = nI a ∧ r_A R 2424 p = nI n ∧ NA1 R lm a n (c_J K 1001 p)) ∧ ∀ p p' : Nat, p < np → p' < np → c_J K 1001 p = c_J K 1001 p' → p = p'
theorem kn_part {L : c_L} {K : c_S} {R : r_S} {np lm : Nat} {N : Int64} {Q : Int32 → c_S → Prop} (w : PP L K R np lm) (h1 : ∀ p : Nat, p < np → c_J K 1001 p = N → Q (nI p) K) (h0 : (∀ p : Nat, p < np → c_J K 1001 p ≠ N) → Q (-1) K) : km_X6_partitionNamed L K 0 N Q := by
  obtain ⟨w1, w2, w3, w4⟩ := w
  have lp : ∀ d p : Nat, p + d = np → (∀ p' : Nat, p' < p → c_J K 1001 p' ≠ N) → kl_X6_partitionNamed_2 L (d + 1) K 0 N (nI p) Q := by
    intro d
    induction d with
    | zero =>
      intro p hp hb
      refine bt_ (by rw [w2.1]; exact nI_le (by omega) (by omega)) (h0 (fun p' h => hb p' (by omega)))
    | succ d ih =>
      intro p hp hb
      have m5 := (w3 p (by omega)).1
      refine bf_ (by rw [w2.1]; exact nI_ge (by omega) (by omega)) ⟨vp_in_nI (by omega) (by decide), p, ?_, m5, ?_⟩
      · rw [nI_clamp (by omega), c_m5 (by omega) m5]
      · by_cases c : c_J K 1001 p = N
        · exact nt_ (lg_c0.mpr c) (h1 p (by omega) c)
        · refine nf_ (fun z => c (lg_c0.mp z)) ?_
          rw [nI_1]
          exact ih (p + 1) (by omega) (fun p' h => by
            by_cases e : p' = p
            · subst e; exact c
            · exact hb p' (by omega))
  exact ⟨np + 1, lp np 0 (by omega) (fun p' z => absurd z (Nat.not_lt_zero p'))⟩
theorem re_partitionNamed {L : c_L} {K : c_S} {R : r_S} {np lm b n : Nat} {Q : Option Value → r_S → Prop} (w : PP L K R np lm) (hl : lm ≤ 14000) (h9 : r_I R 2409 = nI b) (h10 : r_I R 2410 = nI n) (hn : n ≤ 12) (hb : b + n ≤ 4000) (hd : ∀ x : Nat, x < n → n_d (r_A R 2402 (b + x)) ≠ 0)
  (h1 : ∀ p : Nat, p < np → c_J K 1001 p = n_v (fun x => r_A R 2402 (b + x)) n → Q (some (.int (nI p))) R) (h0 : (∀ p : Nat, p < np → c_J K 1001 p ≠ n_v (fun x => r_A R 2402 (b + x)) n) → Q (some (.int (-1))) R) : rm_X12_partitionNamed R Q := by
  obtain ⟨w1, w2, w3, w4⟩ := w
  have lp : ∀ d p : Nat, p + d = np → (∀ p' : Nat, p' < p → c_J K 1001 p' ≠ n_v (fun x => r_A R 2402 (b + x)) n) → rl_X12_partitionNamed_2 (d + 1) R (nI p) Q := by
    intro d
    induction d with
    | zero =>
      intro p hp hb
      exact bt_ (by rw [w2.2]; exact nI_le (by omega) (by omega)) (h0 (fun p' h => hb p' (by omega)))
    | succ d ih =>
      intro p hp hb
      obtain ⟨_, a, n', b1, b2, b3⟩ := w3 p (by omega)
      refine bf_ (by rw [w2.2]; exact nI_ge (by omega) (by omega)) ⟨vp_in_nI (N := 16) (by omega) (by decide), vp_in_nI (N := 16) (by omega) (by decide), ?_⟩
      rw [nI_clamp (by omega), b1, b2]
      refine re_like b3 hl h9 h10 hn (by omega) hd (fun z => ⟨_, rfl, bf_ (by decide) (h1 p (by omega) z)⟩) (fun z => ⟨_, rfl, bt_ rfl ?_⟩)
      rw [nI_1]
      exact ih (p + 1) (by omega) (fun p' h => by
        by_cases e : p' = p
        · subst e; exact z
        · exact hb p' (by omega))
  exact ⟨np + 1, lp np 0 (by omega) (fun p' z => absurd z (Nat.not_lt_zero p'))⟩
