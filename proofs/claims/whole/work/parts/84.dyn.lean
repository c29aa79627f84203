/-! The processes of all partitions; their order; their times. -/
def DP (Z : z_C) (K : c_S) (R : r_S) : Prop := (∀ p : Nat, p < z_np Z → ∀ j : Nat, j < z_nq Z p → PRt p (p_k K (16 * p + j)) (p_x K (16 * p + j)) (p_r R (16 * p + j)) (p_y R (16 * p + j))) ∧ ∀ q : Nat, q < 256 → (∀ p j : Nat, p < z_np Z → j < z_nq Z p → q ≠ 16 * p + j) → p_r R q 0 = 0
def w_w (w : Nat → Int32) : Prop := w 0 = 2 ∧ w 11 ≠ 0
def OPf (b : Nat) (Z : z_C) (lo : Nat → Int32) (st : Int32) (U W : Nat → Nat → Int32) : Prop :=
  (0 ≤ st.toInt ∧ st.toInt ≤ b) ∧ ∀ p : Nat, p < z_np Z → (0 ≤ (lo p).toInt ∧ (lo p).toInt ≤ b) ∧ ∀ j : Nat, j < z_nq Z p →
    (W (16 * p + j) 0 = 1 → (U (16 * p + j) 17).toInt ≤ (lo p).toInt ∧ (W (16 * p + j) 9).toInt ≤ st.toInt) ∧ (w_w (W (16 * p + j)) → (U (16 * p + j) 17).toInt ≤ (lo p).toInt ∧ (W (16 * p + j) 14).toInt ≤ st.toInt) ∧
    ∀ i : Nat, i < z_nq Z p → i ≠ j → (W (16 * p + j) 0 = 1 → W (16 * p + i) 0 = 1 → ((U (16 * p + j) 17).toInt < (U (16 * p + i) 17).toInt ↔ (W (16 * p + j) 9).toInt < (W (16 * p + i) 9).toInt)) ∧ (w_w (W (16 * p + j)) → w_w (W (16 * p + i)) → ((U (16 * p + j) 17).toInt < (U (16 * p + i) 17).toInt ↔ (W (16 * p + j) 14).toInt < (W (16 * p + i) 14).toInt))
def OP (b : Nat) (Z : z_C) (K : c_S) (R : r_S) : Prop := OPf b Z (fun p => c_I K 1015 p) (r_I R 2464) (p_k K) (p_r R)
/-- what it waits for is there -/
def WGt (Z : z_C) (p : Nat) (c48 c50 w : Nat → Int32) : Prop := w 11 = 0 ∨ ((w 11 = 1 ∨ w 11 = 2 ∨ w 11 = 3 ∨ w 11 = 4 ∨ w 11 = 5) ∧ ∃ k : Nat, k < 8 ∧ w 12 = nI (8 * p + k)) ∨ (w 11 = 6 ∧ ∃ a : Nat, a < z_nt Z p 4 ∧ w 13 = nI a ∧ w 12 = c50 a ∧ c48 a = 0) ∨ (w 11 = 7 ∧ ∃ a : Nat, a < z_nt Z p 4 ∧ w 13 = nI a ∧ w 12 = c50 a ∧ c48 a = 1) ∨ w 11 = 8
def TIt (Z : z_C) (p : Nat) (t dl : Int32) (c48 c50 w : Nat → Int32) : Prop := (w 0 = 1 ∨ w 0 = 3 → (w 6).toInt ≤ t.toInt) ∧ (w 0 = 2 → (w 6).toInt ≤ t.toInt ∨ w 11 = 0 ∧ (w 6).toInt ≤ (w 5).toInt) ∧ (0 ≤ (w 6).toInt ∧ (w 6).toInt ≤ t.toInt + 100000) ∧ (dl.toInt ≤ 0 → w 3 = 0) ∧ (w 3 ≠ 0 → (w 6).toInt ≤ (w 4).toInt) ∧ (w 0 = 2 → WGt Z p c48 c50 w)
def TI (Z : z_C) (R : r_S) : Prop := (0 ≤ (r_I R 2463).toInt ∧ (r_I R 2463).toInt ≤ 1000000) ∧ ∀ p : Nat, p < z_np Z → ∀ j : Nat, j < z_nq Z p → TIt Z p (r_I R 2463) (r_A R 2439 (16 * p + j)) (fun a => r_A R 2448 (16 * p + a)) (fun a => r_A R 2450 (16 * p + a)) (p_r R (16 * p + j))
theorem i_1 {x : Int32} (h0 : 0 ≤ x.toInt) (h : x.toInt < 2147483647) : (x + 1).toInt = x.toInt + 1 := by
  obtain ⟨n, hn, rfl⟩ := nI_of (x := x) (fun z => by
    have := Int32.lt_iff_toInt_lt.mp z
    simp at this
    omega)
  rw [nI_toInt hn] at h
  rw [nI_1, nI_toInt (by omega), nI_toInt hn]
  omega
/-- only q's lines differ -/
def EX (q : Nat) (K K' : c_S) (R R' : r_S) : Prop := ∀ q' : Nat, q' ≠ q → p_k K' q' = p_k K q' ∧ p_x K' q' = p_x K q' ∧ p_r R' q' = p_r R q' ∧ p_y R' q' = p_y R q'
theorem q_inj {p j p' j' : Nat} (hj : j < 16) (hj' : j' < 16) (h : 16 * p + j = 16 * p' + j') : p = p' ∧ j = j' := by omega
theorem DP_u {Z : z_C} {K K' : c_S} {R R' : r_S} {p j : Nat} (h : DP Z K R) (hn : ∀ p : Nat, p < z_np Z → z_nq Z p ≤ 16) (hp : p < z_np Z) (hj : j < z_nq Z p) (x : EX (16 * p + j) K K' R R') (n : PRt p (p_k K' (16 * p + j)) (p_x K' (16 * p + j)) (p_r R' (16 * p + j)) (p_y R' (16 * p + j))) : DP Z K' R' := by
  refine ⟨fun p' hp' j' hj' => ?_, fun q hq hx => ?_⟩
  · by_cases e : 16 * p' + j' = 16 * p + j
    · obtain ⟨rfl, rfl⟩ := q_inj (Nat.lt_of_lt_of_le hj' (hn p' hp')) (Nat.lt_of_lt_of_le hj (hn p hp)) e
      exact n
    · obtain ⟨e1, e2, e3, e4⟩ := x _ e
      rw [e1, e2, e3, e4]
      exact h.1 p' hp' j' hj'
  · rw [(x q (hx p j hp hj)).2.2.1]
    exact h.2 q hq hx
theorem TI_u {Z : z_C} {R R' : r_S} {p j : Nat} (h : TI Z R) (hn : ∀ p : Nat, p < z_np Z → z_nq Z p ≤ 16) (hp : p < z_np Z) (hj : j < z_nq Z p) (ht : r_I R' 2463 = r_I R 2463) (hd : ∀ q : Nat, r_A R' 2439 q = r_A R 2439 q ∧ r_A R' 2448 q = r_A R 2448 q ∧ r_A R' 2450 q = r_A R 2450 q) (x : ∀ q : Nat, q ≠ 16 * p + j → p_r R' q = p_r R q) (n : TIt Z p (r_I R 2463) (r_A R 2439 (16 * p + j)) (fun a => r_A R 2448 (16 * p + a)) (fun a => r_A R 2450 (16 * p + a)) (p_r R' (16 * p + j))) : TI Z R' := by
  refine ⟨by rw [ht]; exact h.1, fun p' hp' j' hj' => ?_⟩
  rw [ht, (hd (16 * p' + j')).1, show (fun a => r_A R' 2448 (16 * p' + a)) = (fun a => r_A R 2448 (16 * p' + a)) from funext fun a => (hd (16 * p' + a)).2.1, show (fun a => r_A R' 2450 (16 * p' + a)) = (fun a => r_A R 2450 (16 * p' + a)) from funext fun a => (hd (16 * p' + a)).2.2]
  by_cases e : 16 * p' + j' = 16 * p + j
  · obtain ⟨rfl, rfl⟩ := q_inj (Nat.lt_of_lt_of_le hj' (hn p' hp')) (Nat.lt_of_lt_of_le hj (hn p hp)) e
    exact n
  · rw [x _ e]
    exact h.2 p' hp' j' hj'
/-- the order, behind a step of q: it is neither ready nor in a row; or it has come to the end of one; -/
theorem OP_u {b : Nat} {Z : z_C} {K K' : c_S} {R R' : r_S} {p j : Nat} (h : OP b Z K R) (hn : ∀ p : Nat, p < z_np Z → z_nq Z p ≤ 16) (hp : p < z_np Z) (hj : j < z_nq Z p) (x : EX (16 * p + j) K K' R R')
    (hl : ∀ p' : Nat, p' ≠ p → c_I K' 1015 p' = c_I K 1015 p') (hl1 : (c_I K 1015 p).toInt ≤ (c_I K' 1015 p).toInt ∧ (c_I K' 1015 p).toInt ≤ (c_I K 1015 p).toInt + 1) (hs : (r_I R 2464).toInt ≤ (r_I R' 2464).toInt ∧ (r_I R' 2464).toInt ≤ (r_I R 2464).toInt + 1)
    (h1 : p_r R' (16 * p + j) 0 = 1 → (c_I K' 1015 p).toInt = (c_I K 1015 p).toInt + 1 ∧ (r_I R' 2464).toInt = (r_I R 2464).toInt + 1 ∧ p_k K' (16 * p + j) 17 = c_I K' 1015 p ∧ p_r R' (16 * p + j) 9 = r_I R' 2464)
    (h2 : w_w (p_r R' (16 * p + j)) → (c_I K' 1015 p).toInt = (c_I K 1015 p).toInt + 1 ∧ (r_I R' 2464).toInt = (r_I R 2464).toInt + 1 ∧ p_k K' (16 * p + j) 17 = c_I K' 1015 p ∧ p_r R' (16 * p + j) 14 = r_I R' 2464) : OP (b + 1) Z K' R' := by
  obtain ⟨hs0, hpp⟩ := h
  refine ⟨⟨by omega, by omega⟩, fun p' hp' => ?_⟩
  obtain ⟨hlo, hjj⟩ := hpp p' hp'
  have hn' := hn p' hp'
  have hnp := hn p hp
  by_cases ep : p' = p
  · subst ep
    refine ⟨⟨by show 0 ≤ (c_I K' 1015 p').toInt; have := hlo.1; simp only at this; omega, by show (c_I K' 1015 p').toInt ≤ _; have := hlo.2; simp only at this; omega⟩, fun j' hj' => ?_⟩
    obtain ⟨g1, g2, g3⟩ := hjj j' hj'
    simp only at g1 g2 g3 hlo ⊢
    by_cases ej : j' = j
    · subst ej
      refine ⟨fun z => ?_, fun z => ?_, fun i hi hij => ?_⟩
      · obtain ⟨a1, a2, a3, a4⟩ := h1 z
        rw [a3, a4]; exact ⟨Int.le_refl _, Int.le_refl _⟩
      · obtain ⟨a1, a2, a3, a4⟩ := h2 z
        rw [a3, a4]; exact ⟨Int.le_refl _, Int.le_refl _⟩
      · obtain ⟨e1, -, e3, -⟩ := x (16 * p' + i) (by omega)
        obtain ⟨f1, f2, -⟩ := hjj i hi
        simp only at f1 f2
        rw [e1, e3]
        refine ⟨fun z1 z2 => ?_, fun z1 z2 => ?_⟩
        · obtain ⟨a1, a2, a3, a4⟩ := h1 z1
          have := f1 z2
          rw [a3, a4]; omega
        · obtain ⟨a1, a2, a3, a4⟩ := h2 z1
          have := f2 z2
          rw [a3, a4]; omega
    · obtain ⟨e1, -, e3, -⟩ := x (16 * p' + j') (by omega)
      rw [e1, e3]
      refine ⟨fun z => ?_, fun z => ?_, fun i hi hij => ?_⟩
      · have := g1 z; omega
      · have := g2 z; omega
      · by_cases ei : i = j
        · subst ei
          refine ⟨fun z1 z2 => ?_, fun z1 z2 => ?_⟩
          · obtain ⟨a1, a2, a3, a4⟩ := h1 z2
            have := g1 z1
            rw [a3, a4]; omega
          · obtain ⟨a1, a2, a3, a4⟩ := h2 z2
            have := g2 z1
            rw [a3, a4]; omega
        · obtain ⟨c1, -, c3, -⟩ := x (16 * p' + i) (by omega)
          rw [c1, c3]
          exact g3 i hi hij
  · simp only at hlo hjj ⊢
    rw [hl p' ep]
    refine ⟨⟨hlo.1, by omega⟩, fun j' hj' => ?_⟩
    obtain ⟨g1, g2, g3⟩ := hjj j' hj'
    obtain ⟨e1, -, e3, -⟩ := x (16 * p' + j') (by omega)
    rw [e1, e3]
    refine ⟨fun z => ?_, fun z => ?_, fun i hi hij => ?_⟩
    · have := g1 z; omega
    · have := g2 z; omega
    · obtain ⟨c1, -, c3, -⟩ := x (16 * p' + i) (by omega)
      rw [c1, c3]
      exact g3 i hi hij
/-- or nothing of it has changed -/
theorem OP_s {b : Nat} {Z : z_C} {K K' : c_S} {R R' : r_S} (h : OP b Z K R) (hl : ∀ p : Nat, c_I K' 1015 p = c_I K 1015 p) (hs : r_I R' 2464 = r_I R 2464) (x : ∀ q : Nat, p_k K' q 17 = p_k K q 17 ∧ p_r R' q 0 = p_r R q 0 ∧ p_r R' q 9 = p_r R q 9 ∧ p_r R' q 11 = p_r R q 11 ∧ p_r R' q 14 = p_r R q 14) : OP b Z K' R' := by
  obtain ⟨hs0, hpp⟩ := h
  refine ⟨by rw [hs]; exact hs0, fun p hp => ?_⟩
  obtain ⟨hlo, hjj⟩ := hpp p hp
  simp only at hlo hjj ⊢
  rw [hl, hs]
  refine ⟨hlo, fun j hj => ?_⟩
  obtain ⟨g1, g2, g3⟩ := hjj j hj
  obtain ⟨e1, e2, e3, e4, e5⟩ := x (16 * p + j)
  unfold w_w at g2 g3 ⊢
  rw [e1, e2, e3, e4, e5]
  refine ⟨g1, g2, fun i hi hij => ?_⟩
  obtain ⟨c1, c2, c3, c4, c5⟩ := x (16 * p + i)
  rw [c1, c2, c3, c4, c5]
  exact g3 i hi hij
theorem OP_w {b c : Nat} {Z : z_C} {K : c_S} {R : r_S} (h : OP b Z K R) (hb : b ≤ c) : OP c Z K R := by
  obtain ⟨hs0, hpp⟩ := h
  refine ⟨⟨hs0.1, by omega⟩, fun p hp => ?_⟩
  obtain ⟨hlo, hjj⟩ := hpp p hp
  exact ⟨⟨hlo.1, by omega⟩, hjj⟩
