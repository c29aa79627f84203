/-! Searches: the best of those that fit. -/
def b_fw (M : Nat → Bool) (A : Nat → Nat → Bool) : Nat → Option Nat
  | 0 => none
  | n + 1 => if M n = true then (match b_fw M A n with | none => some n | some m => if A n m = true then some n else some m) else b_fw M A n
theorem b_fw_s {M : Nat → Bool} {A : Nat → Nat → Bool} {n : Nat} : b_fw M A (n + 1) = if M n = true then (match b_fw M A n with | none => some n | some m => if A n m = true then some n else some m) else b_fw M A n := rfl
theorem b_fw_lt {M : Nat → Bool} {A : Nat → Nat → Bool} {n m : Nat} (h : b_fw M A n = some m) : m < n ∧ M m = true := by
  induction n with
  | zero => cases h
  | succ n ih =>
    unfold b_fw at h
    by_cases c : M n = true
    · rw [if_pos c] at h
      cases e : b_fw M A n with
      | none => rw [e] at h; injection h with h; rw [← h]; exact ⟨Nat.lt_succ_self n, c⟩
      | some x =>
        rw [e] at h
        simp only at h
        by_cases c2 : A n x = true
        · rw [if_pos c2] at h; injection h with h; rw [← h]; exact ⟨Nat.lt_succ_self n, c⟩
        · rw [if_neg c2] at h; injection h with h; subst h
          exact ⟨Nat.lt_succ_of_lt (ih e).1, (ih e).2⟩
    · rw [if_neg c] at h
      exact ⟨Nat.lt_succ_of_lt (ih h).1, (ih h).2⟩
theorem b_fw_c {M M' : Nat → Bool} {A A' : Nat → Nat → Bool} {n : Nat} (hM : ∀ i : Nat, i < n → M' i = M i) (hA : ∀ i m : Nat, i < n → m < n → i ≠ m → M i = true → M m = true → A' i m = A i m) : b_fw M' A' n = b_fw M A n := by
  induction n with
  | zero => rfl
  | succ n ih =>
    have e := ih (fun i hi => hM i (Nat.lt_succ_of_lt hi)) (fun i m hi hm => hA i m (Nat.lt_succ_of_lt hi) (Nat.lt_succ_of_lt hm))
    unfold b_fw
    rw [hM n (Nat.lt_succ_self n), e]
    by_cases c : M n = true
    · rw [if_pos c, if_pos c]
      cases e2 : b_fw M A n with
      | none => rfl
      | some x =>
        obtain ⟨h1, h2⟩ := b_fw_lt e2
        simp only
        rw [hA n x (Nat.lt_succ_self n) (Nat.lt_succ_of_lt h1) (by omega) c h2]
    · rw [if_neg c, if_neg c]
/-- a longer search that finds in one stretch only -/
theorem b_fw_t {M M' : Nat → Bool} {A A' : Nat → Nat → Bool} {n b N : Nat} (hN : b + n ≤ N) (h0 : ∀ q : Nat, q < b → M' q = false) (h1 : ∀ q : Nat, b + n ≤ q → q < N → M' q = false) (hM : ∀ i : Nat, i < n → M' (b + i) = M i) (hA : ∀ i m : Nat, i < n → m < n → i ≠ m → M i = true → M m = true → A' (b + i) (b + m) = A i m) : b_fw M' A' N = (b_fw M A n).map (fun i => b + i) := by
  have s1 : ∀ k : Nat, k ≤ b → b_fw M' A' k = none := by
    intro k
    induction k with
    | zero => intro _; rfl
    | succ k ih =>
      intro hk
      unfold b_fw
      rw [if_neg (by rw [h0 k (by omega)]; decide)]
      exact ih (by omega)
  have s2 : ∀ k : Nat, k ≤ n → b_fw M' A' (b + k) = (b_fw M A k).map (fun i => b + i) := by
    intro k
    induction k with
    | zero => intro _; exact s1 b (Nat.le_refl b)
    | succ k ih =>
      intro hk
      have e := ih (by omega)
      show b_fw M' A' (b + k + 1) = _
      unfold b_fw
      rw [hM k (by omega), e]
      by_cases c : M k = true
      · rw [if_pos c, if_pos c]
        cases e2 : b_fw M A k with
        | none => rfl
        | some x =>
          obtain ⟨q1, q2⟩ := b_fw_lt e2
          simp only [Option.map_some]
          rw [hA k x (by omega) (by omega) (by omega) c q2]
          by_cases c2 : A k x = true
          · rw [if_pos c2, if_pos c2]; rfl
          · rw [if_neg c2, if_neg c2]; rfl
      · rw [if_neg c, if_neg c]
  have s3 : ∀ k : Nat, b + n + k ≤ N → b_fw M' A' (b + n + k) = (b_fw M A n).map (fun i => b + i) := by
    intro k
    induction k with
    | zero => intro _; exact s2 n (Nat.le_refl n)
    | succ k ih =>
      intro hk
      show b_fw M' A' (b + n + k + 1) = _
      rw [b_fw_s]
      rw [if_neg (by rw [h1 (b + n + k) (by omega) (by omega)]; decide)]
      exact ih (by omega)
  have := s3 (N - (b + n)) (by omega)
  rw [show b + n + (N - (b + n)) = N by omega] at this
  exact this
def o_i (o : Option Nat) : Int32 := match o with | none => -1 | some q => nI q
def k_ah (K : c_S) (fifo : Int32) (q q2 : Nat) : Bool := if fifo = 0 ∧ ¬ c_I K 1403 q = c_I K 1403 q2 then decide (c_I K 1403 q2 < c_I K 1403 q) else decide (c_I K 1417 q < c_I K 1417 q2)
theorem i_nle {x y : Int32} : ¬ x ≤ y ↔ y < x := by rw [i_le, i_lt]; omega
theorem i_nlt {x y : Int32} : ¬ x < y ↔ y ≤ x := by rw [i_le, i_lt]; omega
theorem ke_isAheadOf {L : c_L} {K : c_S} {q q2 : Nat} {fifo : Int32} {Q : Int32 → c_S → Prop} (m : c_mk L 7 q2) (h : Q (if k_ah K fifo q q2 = true then 1 else 0) K) : km_X7_isAheadOf L K q (some q2) fifo Q := by
  have b1 : narrow .boolean (.int (0 : Int32)) = .int 0 := rfl
  have b2 : narrow .boolean (.int (1 : Int32)) = .int 1 := rfl
  have ord : (if decide (c_I K 1417 q < c_I K 1417 q2) = true then Q 1 K else Q 0 K) → kb_X7_isAheadOf_32 L K q (some q2) Q := fun z => by
    refine ⟨q2, rfl, m, fun c => ⟨b1, ?_⟩, fun c => ⟨b2, ?_⟩⟩
    · rw [if_neg (by rw [decide_eq_true_eq]; exact i_nlt.mpr c)] at z; exact z
    · rw [if_pos (by rw [decide_eq_true_eq]; exact i_nle.mp c)] at z; exact z
  have hh : ∀ bb : Bool, Q (if bb = true then 1 else 0) K → (if bb = true then Q 1 K else Q 0 K) := fun bb z => by cases bb <;> exact z
  have e1 : ¬ (fifo = 0 ∧ ¬ c_I K 1403 q = c_I K 1403 q2) → k_ah K fifo q q2 = decide (c_I K 1417 q < c_I K 1417 q2) := fun z => if_neg z
  have e2 : (fifo = 0 ∧ ¬ c_I K 1403 q = c_I K 1403 q2) → k_ah K fifo q q2 = decide (c_I K 1403 q2 < c_I K 1403 q) := fun z => if_pos z
  refine ⟨fun c => ord (hh _ ?_), fun c => ⟨q2, rfl, m, fun c2 => ord (hh _ ?_), fun c2 => ⟨fun c3 => ⟨b1, ?_⟩, fun c3 => ⟨b2, ?_⟩⟩⟩⟩
  · rw [e1 (fun z => c z.1)] at h; exact h
  · rw [e1 (fun z => z.2 c2)] at h; exact h
  · rw [e2 ⟨c, c2⟩, if_neg (by rw [decide_eq_true_eq]; exact i_nlt.mpr c3)] at h; exact h
  · rw [e2 ⟨c, c2⟩, if_pos (by rw [decide_eq_true_eq]; exact i_nle.mp c3)] at h; exact h
/-- the class's first waiting -/
def k_fw (K : c_S) (p n : Nat) (code fifo : Int32) : Option Nat := b_fw (fun i => decide (c_I K 1418 (16 * p + i) = code)) (fun i m => k_ah K fifo (16 * p + i) (16 * p + m)) n
theorem ke_fw {L : c_L} {K : c_S} {p n : Nat} {code fifo : Int32} {Q : Option Nat → c_S → Prop} (hn : c_I K 1004 p = nI n) (n16 : n ≤ 16) (mk : ∀ i : Nat, i < n → c_mk L 7 (16 * p + i)) (h : Q ((k_fw K p n code fifo).map (fun i => 16 * p + i)) K) : km_X5_firstWaiting L K p code fifo Q := by
  have lp : ∀ d k : Nat, k + d = n → kl_X5_firstWaiting_5 L (d + 1) K p code fifo ((b_fw (fun i => decide (c_I K 1418 (16 * p + i) = code)) (fun i m => k_ah K fifo (16 * p + i) (16 * p + m)) k).map (fun i => 16 * p + i)) (nI k) Q := by
    intro d
    induction d with
    | zero =>
      intro k hk
      obtain rfl : k = n := by omega
      exact ⟨fun _ => h, fun z => absurd (by rw [hn]; exact nI_le (Nat.le_refl _) (by omega)) z⟩
    | succ d ih =>
      intro k hk
      refine ⟨fun z => absurd z (by rw [hn]; exact nI_ge (by omega) (by omega)), fun _ => ⟨vp_in_nI (by omega) (by decide), 16 * p + k, ?_, mk k (by omega), ?_⟩⟩
      · rw [nI_clamp (by omega)]; exact c_m7 (by omega) (mk k (by omega))
      have nx := ih (k + 1) (by omega)
      rw [← nI_1] at nx
      have ec : c_e7 L p (nI k).toNatClampNeg = some (16 * p + k) := by rw [nI_clamp (by omega)]; exact c_m7 (by omega) (mk k (by omega))
      unfold b_fw at nx
      refine ⟨fun c => ?_, fun c => ?_⟩
      · rw [if_neg (by simp only [decide_eq_true_eq]; exact c)] at nx
        exact nx
      · rw [if_pos (by simp only [decide_eq_true_eq]; exact c)] at nx
        cases e : b_fw (fun i => decide (c_I K 1418 (16 * p + i) = code)) (fun i m => k_ah K fifo (16 * p + i) (16 * p + m)) k with
        | none =>
          rw [e] at nx
          refine ⟨fun _ => ?_, fun z => absurd rfl z⟩
          show kl_X5_firstWaiting_5 L (d + 1) K p code fifo (c_e7 L p (nI k).toNatClampNeg) (nI k + 1) Q
          rw [ec]
          exact nx
        | some x =>
          rw [e] at nx
          simp only at nx
          have hx := (b_fw_lt e).1
          refine ⟨fun z => (by cases z), fun _ => ke_isAheadOf (mk x (by omega)) ⟨fun c2 => ?_, fun c2 => ?_⟩⟩
          · have c3 : ¬ k_ah K fifo (16 * p + k) (16 * p + x) = true := fun z => by rw [if_pos z] at c2; exact absurd c2 (by decide)
            rw [if_neg c3] at nx
            exact nx
          · have c3 : k_ah K fifo (16 * p + k) (16 * p + x) = true := Classical.byContradiction fun z => by rw [if_neg z] at c2; exact c2 rfl
            rw [if_pos c3] at nx
            show kl_X5_firstWaiting_5 L (d + 1) K p code fifo (c_e7 L p (nI k).toNatClampNeg) (nI k + 1) Q
            rw [ec]
            exact nx
  exact ⟨n + 1, lp n 0 (by omega)⟩
/-- the reference's -/
def r_ah (R : r_S) (fifo : Int32) (q q2 : Nat) : Bool := if fifo = 0 ∧ ¬ r_A R 2469 q = r_A R 2469 q2 then decide (r_A R 2469 q2 < r_A R 2469 q) else decide (r_A R 2481 q < r_A R 2481 q2)
def r_mt (R : r_S) (s th : Int32) (q : Nat) : Bool := decide (r_A R 2467 q = 2 ∧ r_A R 2478 q = s ∧ r_A R 2479 q = th)
theorem re_fw {R : r_S} {s th fifo : Int32} {Q : Option Value → r_S → Prop} (h : Q (some (.int (o_i (b_fw (r_mt R s th) (r_ah R fifo) 256)))) R) : rm_X12_waiter R s th fifo Q := by
  have lp : ∀ d k : Nat, k + d = 256 → rl_X12_waiter_6 (d + 1) R s th fifo (o_i (b_fw (r_mt R s th) (r_ah R fifo) k)) (nI k) Q := by
    intro d
    induction d with
    | zero =>
      intro k hk
      obtain rfl : k = 256 := by omega
      exact ⟨fun _ => h, fun z => absurd (by decide) z⟩
    | succ d ih =>
      intro k hk
      have nx := ih (k + 1) (by omega)
      rw [← nI_1] at nx
      have ck := nI_clamp (n := k) (by omega)
      refine ⟨fun z => absurd z (nI_ge (a := k) (b := 256) (by omega) (by decide)), fun _ => ⟨ri_v (n := 256) rfl (by omega) (by decide), ?_⟩⟩
      rw [ck]
      unfold b_fw at nx
      have no : ¬ r_mt R s th k = true → rb_X12_waiter_130 (fun S x1 x2 x3 x4 x5 => rl_X12_waiter_6 (d + 1) S x1 x2 x3 x4 x5 Q) R s th fifo (o_i (b_fw (r_mt R s th) (r_ah R fifo) k)) (nI k) Q := fun c => by
        rw [if_neg c] at nx
        exact nx
      refine ⟨fun c => no (fun z => c (of_decide_eq_true z).1), fun c1 => ⟨ri_v (n := 256) rfl (by omega) (by decide), fun c => no (fun z => c (of_decide_eq_true z).2.1), fun c2 => ⟨ri_v (n := 256) rfl (by omega) (by decide), fun c3 => ?_, fun c => no (fun z => c (of_decide_eq_true z).2.2)⟩⟩⟩
      have ok : r_mt R s th k = true := decide_eq_true ⟨c1, c2, c3⟩
      rw [if_pos ok] at nx
      cases e : b_fw (r_mt R s th) (r_ah R fifo) k with
      | none =>
        rw [e] at nx
        exact ⟨fun _ => ⟨fun z => absurd z (by decide), fun _ => nx⟩, fun z => absurd rfl z⟩
      | some x =>
        rw [e] at nx
        simp only at nx
        have hx := (b_fw_lt e).1
        have cx := nI_clamp (n := x) (by omega)
        have yes : r_ah R fifo k x = true → rb_X12_waiter_114 (fun S x1 x2 x3 x4 x5 => rl_X12_waiter_6 (d + 1) S x1 x2 x3 x4 x5 Q) R s th fifo (nI x) (nI k) Q := fun c => by
          rw [if_pos c] at nx
          exact ⟨fun z => absurd z (by decide), fun _ => nx⟩
        have nope : ¬ r_ah R fifo k x = true → rb_X12_waiter_118 (fun S x1 x2 x3 x4 x5 => rl_X12_waiter_6 (d + 1) S x1 x2 x3 x4 x5 Q) R s th fifo (nI x) (nI k) Q := fun c => by
          rw [if_neg c] at nx
          exact ⟨fun _ => nx, fun z => absurd rfl z⟩
        have t77 : ¬ (fifo = 0 ∧ ¬ r_A R 2469 k = r_A R 2469 x) → rb_X12_waiter_77 (fun S x1 x2 x3 x4 x5 => rl_X12_waiter_6 (d + 1) S x1 x2 x3 x4 x5 Q) R s th fifo (nI x) (nI k) Q := fun c => by
          refine ⟨ri_v (n := 256) rfl (by omega) (by decide), ri_v (n := 256) rfl (by omega) (by decide), ?_⟩
          rw [ck, cx]
          refine ⟨fun c2 => nope (fun z => ?_), fun c2 => yes ?_⟩
          · unfold r_ah at z
            rw [if_neg c, decide_eq_true_eq] at z
            exact i_nlt.mpr c2 z
          · unfold r_ah
            rw [if_neg c, decide_eq_true_eq]
            exact i_nle.mp c2
        refine ⟨fun z => absurd z (nI_m1 (by omega)), fun _ => ⟨fun c => t77 (fun z => c z.1), fun c => ⟨ri_v (n := 256) rfl (by omega) (by decide), ri_v (n := 256) rfl (by omega) (by decide), ?_⟩⟩⟩
        rw [show (o_i (some x)).toNatClampNeg = x from cx]
        refine ⟨fun c2 => ⟨ri_v (n := 256) rfl (by omega) (by decide), ri_v (n := 256) rfl (by omega) (by decide), fun c3 => nope (fun z => ?_), fun c3 => yes ?_⟩, fun c2 => t77 (fun z => z.2 c2)⟩
        · unfold r_ah at z
          rw [if_pos ⟨c, c2⟩, decide_eq_true_eq] at z
          exact i_nlt.mpr c3 z
        · unfold r_ah
          rw [if_pos ⟨c, c2⟩, decide_eq_true_eq]
          exact i_nle.mp c3
  exact ⟨257, lp 256 0 rfl⟩
