/-! Names as numbers to the base 37: a name and its number tell each other. -/
theorem nd_v (c : Int32) : ∃ d : Nat, d ≤ 36 ∧ n_d c = nI d ∧ (d ≠ 0 ↔ (97 ≤ c.toInt ∧ c.toInt ≤ 122) ∨ (48 ≤ c.toInt ∧ c.toInt ≤ 57)) ∧ (97 ≤ c.toInt ∧ c.toInt ≤ 122 → (d : Int) = c.toInt - 96) ∧ (48 ≤ c.toInt ∧ c.toInt ≤ 57 → (d : Int) = c.toInt - 21) := by
  have e97 : (97 : Int32).toInt = 97 := by decide
  have e122 : (122 : Int32).toInt = 122 := by decide
  have e48 : (48 : Int32).toInt = 48 := by decide
  have e57 : (57 : Int32).toInt = 57 := by decide
  unfold n_d
  by_cases c1 : 97 ≤ c ∧ c ≤ 122
  · have l1 := i_le.mp c1.1
    have l2 := i_le.mp c1.2
    obtain ⟨k, hk, rfl⟩ := nI_of (x := c) (fun z => by have := i_lt0.mp z; omega)
    rw [nI_toInt hk] at l1 l2 ⊢
    refine ⟨k - 96, by omega, ?_, by omega, by omega, by omega⟩
    rw [if_pos c1, show (97 : Int32) = nI 97 from rfl, pk_sub (by omega), nI_1, show k - 97 + 1 = k - 96 by omega]
  · rw [if_neg c1]
    have n1 : ¬ (97 ≤ c.toInt ∧ c.toInt ≤ 122) := fun z => c1 ⟨i_le.mpr (by omega), i_le.mpr (by omega)⟩
    by_cases c2 : 48 ≤ c ∧ c ≤ 57
    · have l1 := i_le.mp c2.1
      have l2 := i_le.mp c2.2
      obtain ⟨k, hk, rfl⟩ := nI_of (x := c) (fun z => by have := i_lt0.mp z; omega)
      rw [nI_toInt hk] at l1 l2 n1 ⊢
      refine ⟨k - 21, by omega, ?_, by omega, by omega, by omega⟩
      rw [if_pos c2, show (48 : Int32) = nI 48 from rfl, pk_sub (by omega), show (27 : Int32) = nI 27 from rfl, nI_add, show k - 48 + 27 = k - 21 by omega]
    · rw [if_neg c2]
      have n2 : ¬ (48 ≤ c.toInt ∧ c.toInt ≤ 57) := fun z => c2 ⟨i_le.mpr (by omega), i_le.mpr (by omega)⟩
      exact ⟨0, by decide, rfl, by omega, by omega, by omega⟩
theorem nd_inj {c c' : Int32} (h : n_d c = n_d c') (h0 : n_d c ≠ 0) : c = c' := by
  obtain ⟨d, a1, a2, a3, a4, a5⟩ := nd_v c
  obtain ⟨e, b1, b2, b3, b4, b5⟩ := nd_v c'
  rw [a2, b2, nI_eq (by omega) (by omega)] at h
  subst h
  have d0 : d ≠ 0 := fun z => h0 (by rw [a2, z]; rfl)
  refine Int32.toInt_inj.mp ?_
  rcases a3.mp d0 with q | q <;> rcases b3.mp d0 with r | r
  · have := a4 q; have := b4 r; omega
  · have := a4 q; have := b5 r; omega
  · have := a5 q; have := b4 r; omega
  · have := a5 q; have := b5 r; omega
theorem ke_nameDigit {L : c_L} {K : c_S} {x : Int32} {Q : Int32 → c_S → Prop} (h : Q (n_d x) K) : km_X11_nameDigit L K x Q := by
  unfold n_d at h
  have g : ¬ (97 ≤ x ∧ x ≤ 122) → kb_X11_nameDigit_19 L K x Q := fun c => by
    rw [if_neg c] at h
    by_cases c1 : x < 48
    · rw [if_neg (fun z => (i_nlt.mpr z.1) c1)] at h
      exact bt_ c1 h
    · by_cases c2 : 57 < x
      · rw [if_neg (fun z => (i_nlt.mpr z.2) c2)] at h
        exact bf_ c1 (bt_ c2 h)
      · rw [if_pos ⟨i_nlt.mp c1, i_nlt.mp c2⟩] at h
        exact bf_ c1 (bf_ c2 h)
  by_cases c1 : x < 97
  · exact bt_ c1 (g (fun z => (i_nlt.mpr z.1) c1))
  · by_cases c2 : 122 < x
    · exact bf_ c1 (bt_ c2 (g (fun z => (i_nlt.mpr z.2) c2)))
    · rw [if_pos ⟨i_nlt.mp c1, i_nlt.mp c2⟩] at h
      exact bf_ c1 (bf_ c2 h)
/-- the number of a name, in plain numbers -/
def n_n (l : Nat → Int32) : Nat → Nat
  | 0 => 0
  | n + 1 => n_n l n * 37 + (n_d (l n)).toNatClampNeg
theorem nd_c (c : Int32) : (n_d c).toNatClampNeg ≤ 36 ∧ n_d c = nI (n_d c).toNatClampNeg := by
  obtain ⟨d, a1, a2, -⟩ := nd_v c
  rw [a2, nI_clamp (by omega)]
  exact ⟨a1, rfl⟩
theorem nn_v (l : Nat → Int32) (n : Nat) : n_v l n = lN (n_n l n) := by
  induction n with
  | zero => rfl
  | succ n ih =>
    show n_v l n * 37 + (n_d (l n)).toInt64 = lN (n_n l n * 37 + (n_d (l n)).toNatClampNeg)
    obtain ⟨d, hd, e, -⟩ := nd_v (l n)
    rw [ih, e, nI_l (by omega), nI_clamp (by omega), show (37 : Int64) = lN 37 from rfl, lN_mul, lN_add]
theorem nn_b (l : Nat → Int32) (n : Nat) : n_n l n < 37 ^ n := by
  induction n with
  | zero => exact Nat.lt_succ_self 0
  | succ n ih =>
    have a := (nd_c (l n)).1
    show n_n l n * 37 + (n_d (l n)).toNatClampNeg < 37 ^ (n + 1)
    rw [Nat.pow_succ]
    omega
theorem nn_12 (l : Nat → Int32) {n : Nat} (h : n ≤ 12) : n_n l n < 2 ^ 63 := by
  have a := nn_b l n
  have b : 37 ^ n ≤ 37 ^ 12 := Nat.pow_le_pow_right (by decide) h
  have c : 37 ^ 12 < 2 ^ 63 := by decide
  omega
theorem nn_p {l : Nat → Int32} {n : Nat} (h : ∀ x : Nat, x < n → n_d (l x) ≠ 0) (h1 : 1 ≤ n) : 0 < n_n l n := by
  obtain ⟨m, rfl⟩ : ∃ m : Nat, n = m + 1 := ⟨n - 1, by omega⟩
  have a := nd_c (l m)
  have b := h m (by omega)
  show 0 < n_n l m * 37 + (n_d (l m)).toNatClampNeg
  have : (n_d (l m)).toNatClampNeg ≠ 0 := fun z => b (by rw [a.2, z]; rfl)
  omega
theorem nn_inj : ∀ (n n' : Nat) (l l' : Nat → Int32), (∀ x : Nat, x < n → n_d (l x) ≠ 0) → (∀ x : Nat, x < n' → n_d (l' x) ≠ 0) → n_n l n = n_n l' n' → n = n' ∧ ∀ x : Nat, x < n → l x = l' x := by
  intro n
  induction n with
  | zero =>
    intro n' l l' h h' e
    by_cases c : n' = 0
    · exact ⟨c.symm, fun x hx => by omega⟩
    · have := nn_p h' (by omega)
      rw [← e] at this
      exact absurd this (Nat.lt_irrefl 0)
  | succ n ih =>
    intro n' l l' h h' e
    by_cases c : n' = 0
    · subst c
      have := nn_p h (by omega)
      rw [e] at this
      exact absurd this (Nat.lt_irrefl 0)
    · obtain ⟨m, rfl⟩ : ∃ m : Nat, n' = m + 1 := ⟨n' - 1, by omega⟩
      have e : n_n l n * 37 + (n_d (l n)).toNatClampNeg = n_n l' m * 37 + (n_d (l' m)).toNatClampNeg := e
      have a := nd_c (l n)
      have b := nd_c (l' m)
      have e1 : n_n l n = n_n l' m := by omega
      have e2 : (n_d (l n)).toNatClampNeg = (n_d (l' m)).toNatClampNeg := by omega
      obtain ⟨q1, q2⟩ := ih m l l' (fun x hx => h x (by omega)) (fun x hx => h' x (by omega)) e1
      subst q1
      refine ⟨rfl, fun x hx => ?_⟩
      by_cases c : x = n
      · subst c
        exact nd_inj (by rw [a.2, b.2, e2]) (h x (by omega))
      · exact q2 x (by omega)
theorem nv_inj {n n' : Nat} {l l' : Nat → Int32} (hn : n ≤ 12) (hn' : n' ≤ 12) (h : ∀ x : Nat, x < n → n_d (l x) ≠ 0) (h' : ∀ x : Nat, x < n' → n_d (l' x) ≠ 0) (e : n_v l n = n_v l' n') : n = n' ∧ ∀ x : Nat, x < n → l x = l' x := by
  rw [nn_v, nn_v, pk_lEQ (nn_12 l hn) (nn_12 l' hn')] at e
  exact nn_inj n n' l l' h h' e
theorem nv_0 {n : Nat} {l : Nat → Int32} (hn : n ≤ 12) (h1 : 1 ≤ n) (h : ∀ x : Nat, x < n → n_d (l x) ≠ 0) : n_v l n ≠ 0 := by
  rw [nn_v]
  intro z
  have := (pk_lEQ (nn_12 l hn) (show 0 < 2 ^ 63 by decide)).mp (z.trans (show (0 : Int64) = lN 0 from rfl))
  have := nn_p h h1
  omega
theorem lg_c0 {x y : Int64} : lg_cmp x y = 0 ↔ x = y := by
  unfold lg_cmp
  by_cases c : x = y
  · subst c
    simp
  · refine ⟨fun z => ?_, fun z => absurd z c⟩
    split at z <;> first | exact absurd z (by decide) | (split at z <;> first | exact absurd z (by decide) | simp_all)
/-! Call 36: a thing by the name that lies in memory. -/
def m_by (R : r_S) (p v x : Nat) : Int32 := r_A R 2466 (8192 * p + (v + x)) &&& 255
/-- the number of the name, or 0 -/
def k_nm (l : Nat → Int32) (n : Nat) : Int64 := if ∀ x : Nat, x < n → n_d (l x) ≠ 0 then n_v l n else 0
theorem ke_nameAt {b : Nat} {L : c_L} {Z : z_C} {K : c_S} {R : r_S} {p v n : Nat} {Q : Int64 → c_S → Prop} (w : WR b L Z K R) (hp : p < z_np Z) (hm : p < z_mv Z) (hn : n ≤ 12) (hv : v + n ≤ z_by Z p) (h : Q (k_nm (m_by R p v) n) K) : km_X4_nameAt L K p (nI v) (nI n) Q := by
  have b1 := (CM_p (WR_cm w) hp).1
  have lp : ∀ d x : Nat, x + d = n → (∀ y : Nat, y < x → n_d (m_by R p v y) ≠ 0) → kl_X4_nameAt_5 L (d + 1) K p (nI v) (nI n) (n_v (m_by R p v) x) (nI x) Q := by
    intro d
    induction d with
    | zero =>
      intro x hx hy
      obtain rfl : x = n := by omega
      unfold k_nm at h
      rw [if_pos hy] at h
      exact bt_ (nI_le (Nat.le_refl _) (by omega)) h
    | succ d ih =>
      intro x hx hy
      refine bf_ (nI_ge (by omega) (by omega)) ?_
      rw [nI_add]
      refine ke_partAt (n := 1) w hp hm (by omega) (Or.inl rfl) (Nat.mod_one _) (ke_nameDigit ?_)
      show (¬ n_d (m_by R p v x) = 0 → _) ∧ (n_d (m_by R p v x) = 0 → _)
      by_cases c : n_d (m_by R p v x) = 0
      · refine nt_ c ?_
        unfold k_nm at h
        rw [if_neg (fun z => z x (by omega) c)] at h
        exact h
      · refine nf_ c ?_
        rw [nI_1]
        exact ih (x + 1) (by omega) (fun y hy2 => by
          by_cases e : y = x
          · subst e; exact c
          · exact hy y (by omega))
  exact ⟨n + 1, lp n 0 (by omega) (fun y hy => by omega)⟩
