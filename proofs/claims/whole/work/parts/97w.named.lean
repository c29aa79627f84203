/-! Call 36. -/
theorem by_lo {x : Int32} (h : fits .byte (.int x) = true) : -128 ≤ x.toInt ∧ x.toInt ≤ 127 := by
  have h : (decide ((-128 : Int32) ≤ x) && decide (x ≤ (127 : Int32))) = true := h
  rw [Bool.and_eq_true, decide_eq_true_iff, decide_eq_true_iff, i_le, i_le, show (-128 : Int32).toInt = -128 from by decide, show (127 : Int32).toInt = 127 from by decide] at h
  exact h
theorem by_255 {x : Int32} {c : Nat} (h : fits .byte (.int x) = true) (hc : c < 128) : x &&& 255 = nI c ↔ x = nI c := by
  have l := by_lo h
  rw [pk_and x 8 (by decide)]
  have t : x.toInt = x.toBitVec.toInt := rfl
  rw [BitVec.toInt_eq_toNat_cond] at t
  by_cases n : x < 0
  · have n1 := i_lt0.mp n
    rw [nI_eq (by omega) (by omega)]
    refine ⟨fun z => ?_, fun z => ?_⟩
    · split at t <;> omega
    · rw [z, nI_toInt (by omega)] at n1
      omega
  · obtain ⟨k, hk, rfl⟩ := nI_of n
    rw [nI_toInt hk] at l
    rw [pk_tn (by omega), nI_eq (by omega) (by omega), nI_eq (by omega) (by omega)]
    omega
theorem by_let {x c : Int32} (h : fits .byte (.int x) = true) (hc : n_d c ≠ 0) : x &&& 255 = c ↔ x = c := by
  obtain ⟨d, a1, a2, a3, -⟩ := nd_v c
  have d0 : d ≠ 0 := fun z => hc (by rw [a2, z]; rfl)
  have r := a3.mp d0
  obtain ⟨k, hk, rfl⟩ := nI_of (x := c) (fun z => by have := i_lt0.mp z; omega)
  rw [nI_toInt hk] at r
  exact by_255 h (by omega)
def M_k (R : r_S) (p s v n k : Nat) : Prop := r_A R 2433 (64 * p + k) = nI s ∧ r_A R 2432 (64 * p + k) = nI n ∧ ∀ x : Nat, x < n → r_A R 2421 ((r_A R 2431 (64 * p + k)).toNatClampNeg + x) = r_A R 2466 (8192 * p + (v + x))
theorem NM_k {b : Nat} {L : c_L} {Z : z_C} {K : c_S} {R : r_S} (w : WR b L Z K R) {p : Nat} (hp : p < z_np Z) : ∃ m : Nat, m ≤ 64 ∧ r_A R 2430 p = nI m ∧ (∀ k : Nat, k < m → ∃ s i n a : Nat, s ≤ 5 ∧ i < n_c Z p s ∧ (1 ≤ n ∧ n ≤ 12 ∧ a + n ≤ 14000) ∧ r_A R 2433 (64 * p + k) = nI s ∧ r_A R 2434 (64 * p + k) = nI i ∧ r_A R 2432 (64 * p + k) = nI n ∧ r_A R 2431 (64 * p + k) = nI a ∧ (∀ x : Nat, x < n → n_d (r_A R 2421 (a + x)) ≠ 0) ∧ c_J K (n_f s) (n_i p s i) = n_v (fun x => r_A R 2421 (a + x)) n) ∧
    (∀ s i : Nat, s ≤ 5 → i < n_c Z p s → ∃ k : Nat, k < m ∧ r_A R 2433 (64 * p + k) = nI s ∧ r_A R 2434 (64 * p + k) = nI i) := by
  obtain ⟨m, h1, h2, h3, h4⟩ := (WR_nm w p hp).1
  refine ⟨m, h1, h2, fun k hk => ?_, h4⟩
  obtain ⟨s, i, n, a, q1, q2, q3, q4, q5, q6, q7, q8, q9⟩ := h3 k hk
  refine ⟨s, i, n, a, q1, q2, q3, q4, q5, q6, q7, q8, ?_⟩
  have e : n_f s = 1401 ∨ n_f s = 2000 := by unfold n_f; split <;> omega
  have q9 : m_J [1401, 2000] K (n_f s) (n_i p s i) = n_v (fun x => r_A R 2421 (a + x)) n := q9
  rw [← q9]
  rcases e with e | e <;> rw [e] <;> rfl
theorem NM_u {b : Nat} {L : c_L} {Z : z_C} {K : c_S} {R : r_S} (w : WR b L Z K R) {p s i i' : Nat} (hp : p < z_np Z) (hs : s ≤ 5) (hi : i < n_c Z p s) (hi' : i' < n_c Z p s) (e : c_J K (n_f s) (n_i p s i) = c_J K (n_f s) (n_i p s i')) : i = i' := by
  refine (WR_nm w p hp).2 s i i' hs hi hi' ?_
  have e2 : n_f s = 1401 ∨ n_f s = 2000 := by unfold n_f; split <;> omega
  show m_J [1401, 2000] K (n_f s) (n_i p s i) = m_J [1401, 2000] K (n_f s) (n_i p s i')
  rcases e2 with q | q <;> rw [q] at e ⊢ <;> exact e
/-- by the number in the class, by the letters in the reference: the same thing -/
theorem NM_m {b : Nat} {L : c_L} {Z : z_C} {K : c_S} {R : r_S} (w : WR b L Z K R) {p s v n : Nat} (hp : p < z_np Z) (hs : s ≤ 5) (hn : n ≤ 12) :
    (∃ i m k : Nat, i < n_c Z p s ∧ c_J K (n_f s) (n_i p s i) = k_nm (m_by R p v) n ∧ m ≤ 64 ∧ r_A R 2430 p = nI m ∧ k < m ∧ M_k R p s v n k ∧ ∀ k' : Nat, k' < m → M_k R p s v n k' → r_A R 2434 (64 * p + k') = nI i) ∨
    ((∀ i : Nat, i < n_c Z p s → c_J K (n_f s) (n_i p s i) ≠ k_nm (m_by R p v) n) ∧ ∃ m : Nat, m ≤ 64 ∧ r_A R 2430 p = nI m ∧ ∀ k : Nat, k < m → ¬ M_k R p s v n k) := by
  obtain ⟨m, h1, h2, h3, h4⟩ := NM_k w hp
  have fit : ∀ i : Nat, fits .byte (.int (r_A R 2466 i)) = true := w.1.2.2.2.2.1.2.2
  have n64 := CQ_nq (WR_cq w) p hp
  have ncb : n_c Z p s ≤ 16 := by
    unfold n_c
    split
    · exact n64
    · have := (CT_n (WR_ct w) hp (s := s) (by omega)).1
      split at this <;> omega
  have key : ∀ k : Nat, k < m → M_k R p s v n k → ∃ i : Nat, i < n_c Z p s ∧ r_A R 2434 (64 * p + k) = nI i ∧ c_J K (n_f s) (n_i p s i) = k_nm (m_by R p v) n := fun k hk hM => by
    obtain ⟨s', i, n', a, q1, q2, q3, q4, q5, q6, q7, q8, q9⟩ := h3 k hk
    obtain ⟨e1, e2, e3⟩ := hM
    have es : s' = s := (nI_eq (by omega) (by omega)).mp (q4.symm.trans e1)
    have en : n' = n := (nI_eq (by omega) (by omega)).mp (q6.symm.trans e2)
    subst es en
    rw [q7, nI_clamp (by omega)] at e3
    have el : ∀ x : Nat, x < n' → m_by R p v x = r_A R 2421 (a + x) := fun x hx => (by_let (fit _) (q8 x hx)).mpr (e3 x hx).symm
    refine ⟨i, q2, q5, ?_⟩
    have dn : ∀ x : Nat, x < n' → n_d (m_by R p v x) ≠ 0 := fun x hx => by rw [el x hx]; exact q8 x hx
    unfold k_nm
    rw [if_pos dn, q9]
    have : ∀ y : Nat, y ≤ n' → n_v (fun x => r_A R 2421 (a + x)) y = n_v (m_by R p v) y := by
      intro y
      induction y with
      | zero => intro _; rfl
      | succ y ih =>
        intro hy
        show n_v (fun x => r_A R 2421 (a + x)) y * 37 + (n_d (r_A R 2421 (a + y))).toInt64 = n_v (m_by R p v) y * 37 + (n_d (m_by R p v y)).toInt64
        rw [ih (by omega), el y (by omega)]
    exact this n' (Nat.le_refl _)
  by_cases ex : ∃ i : Nat, i < n_c Z p s ∧ c_J K (n_f s) (n_i p s i) = k_nm (m_by R p v) n
  · obtain ⟨i, hi, e⟩ := ex
    obtain ⟨k, hk, f1, f2⟩ := h4 s i hs hi
    obtain ⟨s', i', n', a, q1, q2, q3, q4, q5, q6, q7, q8, q9⟩ := h3 k hk
    have es : s' = s := (nI_eq (by omega) (by omega)).mp (q4.symm.trans f1)
    subst es
    have ei : i' = i := (nI_eq (by omega) (by omega)).mp (q5.symm.trans f2)
    subst ei
    have nz := nv_0 q3.2.1 q3.1 q8
    have dn : ∀ x : Nat, x < n → n_d (m_by R p v x) ≠ 0 := Classical.byContradiction fun z => by
      unfold k_nm at e
      rw [if_neg z, q9] at e
      exact nz e
    have e' : n_v (fun x => r_A R 2421 (a + x)) n' = n_v (m_by R p v) n := by
      unfold k_nm at e
      rw [if_pos dn, q9] at e
      exact e
    obtain ⟨en, el⟩ := nv_inj q3.2.1 hn q8 dn e'
    subst en
    refine Or.inl ⟨i', m, k, hi, e, h1, h2, hk, ⟨f1, q6, fun x hx => ?_⟩, fun k' hk' hM => ?_⟩
    · rw [q7, nI_clamp (by omega)]
      exact ((by_let (fit _) (q8 x hx)).mp (el x hx).symm).symm
    · obtain ⟨i2, g1, g2, g3⟩ := key k' hk' hM
      rw [g2, NM_u w hp hs g1 hi (g3.trans e.symm)]
  · refine Or.inr ⟨fun i hi e => ex ⟨i, hi, e⟩, m, h1, h2, fun k hk hM => ?_⟩
    obtain ⟨i, g1, -, g3⟩ := key k hk hM
    exact ex ⟨i, g1, g3⟩
/-- the class's search -/
theorem ke_named {b : Nat} {L : c_L} {Z : z_C} {K : c_S} {R : r_S} (w : WR b L Z K R) {p s : Nat} {N : Int64} {Q : Int32 → c_S → Prop} (hp : p < z_np Z) (hs : s ≤ 5) (v : Int32) (hv : (∃ i : Nat, i < n_c Z p s ∧ c_J K (n_f s) (n_i p s i) = N ∧ v = nI i) ∨ ((∀ i : Nat, i < n_c Z p s → c_J K (n_f s) (n_i p s i) ≠ N) ∧ v = -1)) (h : Q v K) : km_X5_named L K p (nI s) N Q := by
  have cq := WR_cq w
  have ct := WR_ct w
  have n16 := CQ_nq cq p hp
  obtain ⟨m5, -, hn, -⟩ := CQ_p cq hp
  have c16 : n_c Z p s ≤ 16 := by
    unfold n_c
    split
    · exact n16
    · have := (CT_n ct hp (s := s) (by omega)).1
      split at this <;> omega
  have c8 : s ≠ 5 → 8 * s + n_c Z p s ≤ 48 := fun z => by
    unfold n_c
    rw [if_neg z]
    have := (CT_n ct hp (s := s) (by omega)).1
    split at this <;> omega
  have lp : ∀ d i : Nat, i + d = n_c Z p s → (∀ i' : Nat, i' < i → c_J K (n_f s) (n_i p s i') ≠ N) → kl_X5_named_23 L (d + 1) K p (nI s) N (nI (n_c Z p s)) (nI i) Q := by
    intro d
    induction d with
    | zero =>
      intro i hi hb
      obtain rfl : i = n_c Z p s := by omega
      refine bt_ (nI_le (Nat.le_refl _) (by omega)) ?_
      rcases hv with ⟨i', a1, a2, -⟩ | ⟨-, rfl⟩
      · exact absurd a2 (hb i' a1)
      · exact h
    | succ d ih =>
      intro i hi hb
      have st : kb_X5_named_63 L (fun S a0 x1 z2 x4 x5 => kl_X5_named_23 L (d + 1) S a0 x1 z2 x4 x5 Q) K p (nI s) N (nI (n_c Z p s)) (nI i) (c_J K (n_f s) (n_i p s i)) Q := by
        by_cases c : c_J K (n_f s) (n_i p s i) = N
        · refine nt_ (lg_c0.mpr c) ?_
          rcases hv with ⟨i', a1, a2, a3⟩ | ⟨a1, -⟩
          · rw [NM_u w hp hs a1 (show i < n_c Z p s by omega) (a2.trans c.symm)] at a3
            rw [a3] at h
            exact h
          · exact absurd c (a1 i (by omega))
        · refine nf_ (fun z => c (lg_c0.mp z)) ?_
          rw [nI_1]
          exact ih (i + 1) (by omega) (fun i' hi' => by
            by_cases e : i' = i
            · subst e; exact c
            · exact hb i' (by omega))
      refine bf_ (nI_ge (by omega) (by omega)) ?_
      by_cases e5 : s = 5
      · subst e5
        have e : n_c Z p 5 = z_nq Z p := if_pos rfl
        have mi := (CQ_q cq hp (show i < z_nq Z p by omega)).1
        refine nt_ rfl ⟨vp_in_nI (by omega) (by decide), 16 * p + i, ?_, mi, st⟩
        rw [nI_clamp (by omega), c_m7 (by omega) mi]
      · have e : n_c Z p s = z_nt Z p s := if_neg e5
        have mi := (CT_n ct hp (s := s) (by omega)).2.2.2 i (by omega)
        have := c8 e5
        have st2 : c_J K (n_f s) (n_i p s i) = c_J K 2000 (48 * p + (8 * s + i)) := by unfold n_f n_i; rw [if_neg e5, if_neg e5]
        rw [st2] at st
        refine nf_ (fun z => e5 ((nI_eq (by omega) (by decide)).mp (z.trans (show (5 : Int32) = nI 5 from rfl)))) ?_
        have e8 : nI s * (8 : Int32) + nI i = nI (8 * s + i) := by rw [show (8 : Int32) = nI 8 from rfl, pk_mul, nI_add, Nat.mul_comm]
        rw [e8]
        refine ⟨vp_in_nI (by omega) (by decide), 48 * p + (8 * s + i), ?_, mi, st⟩
        rw [nI_clamp (by omega), c_m10 (by omega) mi]
  have z := lp (n_c Z p s) 0 (by omega) (fun i' hi' => by omega)
  by_cases e5 : s = 5
  · subst e5
    refine nt_ rfl ⟨n_c Z p 5 + 1, ?_⟩
    rw [hn]
    exact z
  · have e : n_c Z p s = z_nt Z p s := if_neg e5
    refine nf_ (fun z => e5 ((nI_eq (by omega) (by decide)).mp (z.trans (show (5 : Int32) = nI 5 from rfl)))) ⟨vp_in_nI (by omega) (by decide), n_c Z p s + 1, ?_⟩
    rw [nI_clamp (by omega), (CT_n ct hp (s := s) (by omega)).2.1, ← e]
    exact z
