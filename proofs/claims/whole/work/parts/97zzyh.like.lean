/-! Names: the reference compares letters, the class numbers. -/
def NA1 (R : r_S) (lm a n : Nat) (j : Int64) : Prop := (1 ≤ n ∧ n ≤ 12 ∧ a + n ≤ lm) ∧ (∀ x : Nat, x < n → n_d (r_A R 2421 (a + x)) ≠ 0) ∧ j = n_v (fun x => r_A R 2421 (a + x)) n
theorem re_like {R : r_S} {lm a n p k : Nat} {j : Int64} {Q : Option Value → r_S → Prop} (h : NA1 R lm a n j) (hl : lm ≤ 14000) (h9 : r_I R 2409 = nI p) (h10 : r_I R 2410 = nI k) (hk : k ≤ 12) (hp : p + k ≤ 4000) (hd : ∀ x : Nat, x < k → n_d (r_A R 2402 (p + x)) ≠ 0)
  (h1 : j = n_v (fun x => r_A R 2402 (p + x)) k → Q (some (.int 1)) R) (h0 : ¬ j = n_v (fun x => r_A R 2402 (p + x)) k → Q (some (.int 0)) R) : rm_X12_isLike R (nI a) (nI n) Q := by
  obtain ⟨⟨n1, n12, nl⟩, nd, ev⟩ := h
  have jn : (j = n_v (fun x => r_A R 2402 (p + x)) k) ↔ n = k ∧ ∀ x : Nat, x < n → r_A R 2421 (a + x) = r_A R 2402 (p + x) := by
    constructor
    · intro z
      exact nv_inj n12 hk nd hd (ev.symm.trans z)
    · intro z
      obtain ⟨rfl, z⟩ := z
      rw [ev]
      have : ∀ m : Nat, m ≤ n → n_v (fun x => r_A R 2421 (a + x)) m = n_v (fun x => r_A R 2402 (p + x)) m := by
        intro m
        induction m with
        | zero => intro _; rfl
        | succ m ih =>
          intro hm
          show n_v _ m * 37 + (n_d (r_A R 2421 (a + m))).toInt64 = n_v _ m * 37 + (n_d (r_A R 2402 (p + m))).toInt64
          rw [ih (by omega), z m (by omega)]
      exact this n (Nat.le_refl n)
  have out0 : ∀ (m i : Nat), ¬ (n = k ∧ ∀ x : Nat, x < n → r_A R 2421 (a + x) = r_A R 2402 (p + x)) → i ≤ n → rl_X12_isLike_17 (m + 1) R (nI a) (nI n) 0 (nI i) Q := fun m i z hi => by
    show rb_X12_isLike_17 _ R (nI a) (nI n) 0 (nI i) Q
    have q0 : rb_X12_isLike_63 R 0 Q := ⟨nb_0, h0 (fun y => z (jn.mp y))⟩
    by_cases c : nI n ≤ nI i
    · exact bt_ c q0
    · exact bf_ c (bt_ rfl q0)
  by_cases e : n = k
  · have lp : ∀ (d i : Nat), i + d = n → (∀ x : Nat, x < i → r_A R 2421 (a + x) = r_A R 2402 (p + x)) → rl_X12_isLike_17 (d + 2) R (nI a) (nI n) 1 (nI i) Q := by
      intro d
      induction d with
      | zero =>
        intro i hi hx
        refine bt_ (nI_le (by omega) (by omega)) ⟨nb_1, h1 (jn.mpr ⟨e, fun x z => hx x (by omega)⟩)⟩
      | succ d ih =>
        intro i hi hx
        refine bf_ (nI_ge (by omega) (by omega)) (bf_ (by decide) ?_)
        rw [h9, nI_add, nI_add, nI_clamp (by omega), nI_clamp (by omega)]
        refine ⟨vp_in_nI (N := 14000) (by omega) (by decide), vp_in_nI (N := 4000) (by omega) (by decide), ?_⟩
        by_cases c : r_A R 2421 (a + i) = r_A R 2402 (p + i)
        · refine nt_ c ?_
          show rl_X12_isLike_17 (d + 2) R (nI a) (nI n) 1 (nI i + 1) Q
          rw [nI_1]
          exact ih (i + 1) (by omega) (fun x z => by
            by_cases y : x = i
            · rw [y]; exact c
            · exact hx x (by omega))
        · refine nf_ c ?_
          show rl_X12_isLike_17 (d + 2) R (nI a) (nI n) 0 (nI i + 1) Q
          rw [nI_1]
          exact out0 (d + 1) (i + 1) (fun z => c (z.2 i (by omega))) (by omega)
    exact nt_ (by rw [h10, e]) ⟨n + 2, lp n 0 (by omega) (fun x z => absurd z (Nat.not_lt_zero x))⟩
  · refine nf_ (fun z => e ?_) ⟨1, out0 0 0 (fun z => e z.1) (Nat.zero_le n)⟩
    rw [h10] at z
    have := congrArg Int32.toInt z
    rw [nI_toInt (by omega), nI_toInt (by omega)] at this
    omega
/-- the letters of the word at hand are kept -/
def r_kp (R : r_S) (lm p n : Nat) : r_S := (R.1, fun f i => if f = 2421 ∧ lm ≤ i ∧ i < lm + n then r_A R 2402 (p + (i - lm)) else R.2 f i)
theorem re_keep {R : r_S} {lm p n : Nat} {Q : Option Value → r_S → Prop} (h9 : r_I R 2409 = nI p) (h10 : r_I R 2410 = nI n) (h22 : r_I R 2422 = nI lm) (hn : n ≤ 12) (hp : p + n ≤ 4000) (hl : lm + n ≤ 14000) (hb : ∀ i : Nat, fits .byte (.int (r_A R 2402 i)) = true) (h : Q (some (.int (nI lm))) (rs_I (r_kp R lm p n) 2422 (nI (lm + n)))) : rm_X12_keep R Q := by
  have lp : ∀ (d i : Nat), i + d = n → rl_X12_keep_2 (d + 1) (r_kp R lm p i) (nI i) Q := by
    intro d
    induction d with
    | zero =>
      intro i hi
      have e : i = n := by omega
      refine bt_ ?_ ?_
      · show r_I R 2410 ≤ nI i
        rw [h10]
        exact nI_le (by omega) (by omega)
      · have e1 : rs_I (r_kp R lm p i) 2422 (r_I (r_kp R lm p i) 2422 + r_I (r_kp R lm p i) 2410) = rs_I (r_kp R lm p n) 2422 (nI (lm + n)) := by
          show rs_I (r_kp R lm p i) 2422 (r_I R 2422 + r_I R 2410) = _
          rw [h22, h10, nI_add, e]
        rw [e1]
        have e2 : r_I (rs_I (r_kp R lm p n) 2422 (nI (lm + n))) 2422 - r_I (rs_I (r_kp R lm p n) 2422 (nI (lm + n))) 2410 = nI lm := by
          show nI (lm + n) - r_I R 2410 = nI lm
          rw [h10, ← nI_add]
          exact Int32.add_sub_cancel _ _
        rw [e2]
        exact h
    | succ d ih =>
      intro i hi
      refine bf_ ?_ ?_
      · show ¬ r_I R 2410 ≤ nI i
        rw [h10]
        exact nI_ge (by omega) (by omega)
      · show vp_in (r_I R 2409 + nI i) 4000 ∧ vp_in (r_I R 2422 + nI i) 14000 ∧ rl_X12_keep_2 (d + 1) (rs_A (r_kp R lm p i) 2421 (r_I R 2422 + nI i).toNatClampNeg (vp_nar .byte (r_A (r_kp R lm p i) 2402 (r_I R 2409 + nI i).toNatClampNeg))) (nI i + 1) Q
        rw [h9, h22, nI_add, nI_add, nI_clamp (by omega), nI_clamp (by omega), nI_1]
        refine ⟨vp_in_nI (by omega) (by decide), vp_in_nI (by omega) (by decide), ?_⟩
        have e0 : r_A (r_kp R lm p i) 2402 (p + i) = r_A R 2402 (p + i) := by
          show (if 2402 = 2421 ∧ lm ≤ p + i ∧ p + i < lm + i then r_A R 2402 (p + (p + i - lm)) else R.2 2402 (p + i)) = R.2 2402 (p + i)
          exact if_neg (by omega)
        rw [e0, nar_b (hb _)]
        have e1 : rs_A (r_kp R lm p i) 2421 (lm + i) (r_A R 2402 (p + i)) = r_kp R lm p (i + 1) := by
          refine Prod.ext rfl (funext fun f => funext fun x => ?_)
          show (if f = 2421 ∧ x = lm + i then r_A R 2402 (p + i) else if f = 2421 ∧ lm ≤ x ∧ x < lm + i then r_A R 2402 (p + (x - lm)) else R.2 f x) = (if f = 2421 ∧ lm ≤ x ∧ x < lm + (i + 1) then r_A R 2402 (p + (x - lm)) else R.2 f x)
          by_cases z : f = 2421 ∧ x = lm + i
          · rw [if_pos z, if_pos (by omega), z.2]
            congr 1
            omega
          · rw [if_neg z]
            by_cases y : f = 2421 ∧ lm ≤ x ∧ x < lm + i
            · rw [if_pos y, if_pos (by omega)]
            · rw [if_neg y, if_neg (by omega)]
        rw [e1]
        exact ih (i + 1) (by omega)
  refine ⟨n + 1, ?_⟩
  have := lp n 0 (by omega)
  have e0 : r_kp R lm p 0 = R := by
    refine Prod.ext rfl (funext fun f => funext fun x => ?_)
    exact if_neg (by omega)
  rw [e0] at this
  exact this
