/-! The machine: what both sides make of an instruction. -/
theorem WR_600 {b : Nat} {L : c_L} {Z : z_C} {K : c_S} {R : r_S} {v : Int32} (h : WR b L Z K R) : WR b L Z (cs_I K 600 0 v) R := by
  obtain ⟨⟨⟨cq, ct, cc, cm⟩, th, ch, inn, me, jr, gl, tx⟩, dp, op, ti, pd, jb⟩ := h
  refine ⟨⟨⟨?_, ?_, ?_, ?_⟩, ?_, ?_, ?_, ?_, ?_, ?_, ?_⟩, ?_, ?_, ti, ?_, jb⟩
  all_goals (simp (disch := decide) only [CQ_I, CQ_A, CQ_G, CQ_P, CQ_J, CQ_i, CQ_a, CQ_z, CT_I, CT_A, CT_G, CT_P, CT_J, CT_i, CT_a, CT_z, CC_I, CC_A, CC_G, CC_P, CC_J, CC_i, CC_a, CC_z, CM_I, CM_A, CM_G, CM_P, CM_J, CM_i, CM_a, CM_z, NM_I, NM_A, NM_G, NM_P, NM_J, NM_i, NM_a, NM_z, TH_I, TH_A, TH_G, TH_P, TH_J, TH_i, TH_a, TH_z, CH_I, CH_A, CH_G, CH_P, CH_J, CH_i, CH_a, CH_z, IN_I, IN_A, IN_G, IN_P, IN_J, IN_i, IN_a, IN_z, ME_I, ME_A, ME_G, ME_P, ME_J, ME_i, ME_a, ME_z, JR_I, JR_A, JR_G, JR_P, JR_J, JR_i, JR_a, JR_z, GL_I, GL_A, GL_G, GL_P, GL_J, GL_i, GL_a, GL_z, TX_I, TX_A, TX_G, TX_P, TX_J, TX_i, TX_a, TX_z, PD_I, PD_A, PD_G, PD_P, PD_J, PD_i, PD_a, PD_z, JB_i, JB_a, JB_z, DP_I, DP_A, DP_G, DP_P, DP_i, DP_a, OP_I, OP_A, OP_G, OP_P, OP_i, OP_a, TI_i, TI_a]; assumption)
/-- what the turn makes of a step's answer -/
def k_ct (L : c_L) (p q : Nat) (Q : c_S → Prop) (x41_ : Int32) (S40_ : c_S) : Prop := (¬ x41_ = (5 : Int32) → (kb_X11_turn_135 L S40_ 0 (some p) (some q) x41_ (c_I S40_ 600 0) Q)) ∧ (x41_ = (5 : Int32) → (km_X0_answer L S40_ 0 (some 0) (some p) (some q) (fun x52_ S51_ => ((¬ x52_ = (3 : Int32) → (kb_X11_turn_133 L S51_ 0 (some p) (some q) x52_ (115 : Int32) Q)) ∧ (x52_ = (3 : Int32) → (vp_in (10 : Int32) 32 ∧ (kb_X11_turn_133 L S51_ 0 (some p) (some q) x52_ (c_A S51_ 1411 q (10 : Int32).toNatClampNeg) Q)))))))
def XE (b : Nat) (L : c_L) (Z : z_C) (p q : Nat) (KM : (Int32 → c_S → Prop) → Prop) (RM : (Option Value → r_S → Prop) → Prop) : Prop := ∃ (K' : c_S) (R' : r_S), (∀ Q : c_S → Prop, Q K' → KM (k_ct L p q Q)) ∧ (∀ Q : Option Value → r_S → Prop, Q none R' → RM Q) ∧ WR b L Z K' R'
theorem XE_c {b : Nat} {L : c_L} {Z : z_C} {p q : Nat} {KM KM' : (Int32 → c_S → Prop) → Prop} {RM RM' : (Option Value → r_S → Prop) → Prop} (h : XE b L Z p q KM RM) (hk : ∀ Q : Int32 → c_S → Prop, KM Q → KM' Q) (hr : ∀ Q : Option Value → r_S → Prop, RM Q → RM' Q) : XE b L Z p q KM' RM' := by
  obtain ⟨K', R', h1, h2, h3⟩ := h
  exact ⟨K', R', fun Q z => hk _ (h1 Q z), fun Q z => hr _ (h2 Q z), h3⟩
theorem XE_ok {b : Nat} {L : c_L} {Z : z_C} {p q : Nat} {KM : (Int32 → c_S → Prop) → Prop} {RM : (Option Value → r_S → Prop) → Prop} (K' : c_S) (R' : r_S) (w : WR b L Z K' R') (h1 : ∀ Q : Int32 → c_S → Prop, Q (-1) K' → KM Q) (h2 : ∀ Q : Option Value → r_S → Prop, Q none R' → RM Q) : XE b L Z p q KM RM := ⟨K', R', fun Q hQ => h1 _ (nf_ (by decide) (bt_ rfl hQ)), h2, w⟩
/-- whose turn it is, and what is known of it -/
def MX (b : Nat) (L : c_L) (Z : z_C) (K : c_S) (R : r_S) (p j : Nat) : Prop := WR b L Z K R ∧ GK L ∧ (p < z_np Z ∧ j < z_nq Z p) ∧ r_A R 2467 (16 * p + j) = 1 ∧ r_A R 2483 p = 0 ∧ TK Z p ∧ b < 1999999600 ∧ ∀ i : Nat, c_mk L 5 i → c_mk L 4 i
theorem MX_600 {b : Nat} {L : c_L} {Z : z_C} {K : c_S} {R : r_S} {p j : Nat} {v : Int32} (x : MX b L Z K R p j) : MX b L Z (cs_I K 600 0 v) R p j := ⟨WR_600 x.1, x.2⟩
theorem XE_bad {b : Nat} {L : c_L} {Z : z_C} {K : c_S} {R : r_S} {p j k : Nat} {code : Int32} {KM : (Int32 → c_S → Prop) → Prop} {RM : (Option Value → r_S → Prop) → Prop} (x : MX b L Z K R p j) (hk : k < 5) (e : c_I K 600 0 = code) (h1 : ∀ Q : Int32 → c_S → Prop, Q (nI k) K → KM Q) (h2 : ∀ Q : Option Value → r_S → Prop, rm_X12_fails R (nI (16 * p + j)) (nI k) code (fun r S => r = none ∧ Q none S) → RM Q) : XE (b + 64) L Z p (16 * p + j) KM RM := by
  obtain ⟨w, gk, ⟨hp, hj⟩, s1, hm, -, hb, -⟩ := x
  have ht : (r_A R 2473 (16 * p + j)).toInt ≤ (r_I R 2463).toInt := (w.2.2.2.1.2 p hp j hj).1 (Or.inl s1)
  obtain ⟨n, K', R', -, b1, b2, b3, -⟩ := P_fails (k := k) (code := code) w gk (by omega) hp hj hm hk ht
  refine ⟨K', R', fun Q hQ => h1 _ (nf_ (fun z => ?_) (bf_ (nI_m1 (by omega)) ?_)), fun Q hQ => h2 Q (b2 _ ⟨rfl, hQ⟩), b3⟩
  · have := (nI_eq (by omega) (by decide)).mp (z.trans (show (5 : Int32) = nI 5 from rfl))
    omega
  · rw [e]
    exact b1 _ hQ
/-! an address that is a multiple -/
theorem al_4 (x : Int32) {n m : Int32} {N k : Nat} (hN : N = 2 ^ k) (hk : k ≤ 2) (hn : n = nI N) (hm : m.toBitVec.toNat = 2 ^ k - 1) : x &&& m = 0 ↔ x - x / n * n = 0 := by
  have N4 : N = 1 ∨ N = 2 ∨ N = 4 := by
    have : k = 0 ∨ k = 1 ∨ k = 2 := by omega
    rcases this with rfl | rfl | rfl
    · exact Or.inl hN
    · exact Or.inr (Or.inl hN)
    · exact Or.inr (Or.inr hN)
  rw [pk_and x k hm, ← hN, hn]
  have t : x.toInt = x.toBitVec.toInt := rfl
  rw [BitVec.toInt_eq_toNat_cond] at t
  have lt := x.toBitVec.isLt
  have z0 : nI (x.toBitVec.toNat % N) = 0 ↔ x.toBitVec.toNat % N = 0 := by
    have := Nat.mod_lt x.toBitVec.toNat (show N > 0 by omega)
    rw [show (0 : Int32) = nI 0 from rfl, nI_eq (by omega) (by decide)]
  rw [z0]
  by_cases c : x < 0
  · have c0 := i_lt0.mp c
    have lo : -2147483648 ≤ x.toInt := by
      split at t <;> omega
    -- minus the number
    obtain ⟨m, hm⟩ : ∃ m : Nat, x.toInt = -(m : Int) := ⟨(-x.toInt).toNat, by omega⟩
    have hd : (x / nI N).toInt = -((m / N : Nat) : Int) := by
      rw [Int32.toInt_div, hm, nI_toInt (by omega), Int.neg_tdiv, ← Int.ofNat_tdiv]
      have : m / N ≤ m := Nat.div_le_self m N
      generalize m / N = q at this ⊢
      exact Int.bmod_eq_of_le (by omega) (by omega)
    have dm := Nat.div_add_mod m N
    have ml := Nat.mod_lt m (show N > 0 by omega)
    have hp : (x / nI N * nI N).toInt = -((N * (m / N) : Nat) : Int) := by
      rw [Int32.toInt_mul, hd, nI_toInt (by omega)]
      have e : -((m / N : Nat) : Int) * (N : Int) = -((N * (m / N) : Nat) : Int) := by
        rw [Int.neg_mul, Int.natCast_mul, Int.mul_comm]
      rw [e]
      exact Int.bmod_eq_of_le (by omega) (by omega)
    have hs : (x - x / nI N * nI N).toInt = -((m % N : Nat) : Int) := by
      rw [Int32.toInt_sub, hp, hm]
      have e : -(m : Int) - -((N * (m / N) : Nat) : Int) = -((m % N : Nat) : Int) := by omega
      rw [e]
      exact Int.bmod_eq_of_le (by omega) (by omega)
    rw [← Int32.toInt_inj, hs, show (0 : Int32).toInt = 0 from by decide]
    rcases N4 with rfl | rfl | rfl
    · split at t <;> omega
    · split at t <;> omega
    · split at t <;> omega
  · obtain ⟨k, hk, rfl⟩ := nI_of c
    rw [pk_rem hk (by omega) (by omega), pk_tn (by omega), show (0 : Int32) = nI 0 from rfl, nI_eq (by have := Nat.mod_lt k (show N > 0 by omega); omega) (by decide)]
/-! regions -/
theorem CM_r {L : c_L} {Z : z_C} {K : c_S} {R : r_S} (h : CM L Z K R) {p : Nat} (hp : p < z_np Z) : z_nr Z p ≤ 6 ∧ 1 ≤ z_nr Z p ∧ c_I K 803 p = nI (z_nr Z p) ∧ r_A R 2426 p = nI (z_nr Z p) ∧ z_re Z p 0 = 0 ∧ z_re Z p (z_nr Z p) = z_by Z p := (h p hp).2.1
theorem CM_ri {L : c_L} {Z : z_C} {K : c_S} {R : r_S} (h : CM L Z K R) {p i : Nat} (hp : p < z_np Z) (hi : i < z_nr Z p) : z_re Z p i < z_re Z p (i + 1) ∧ (z_re Z p (i + 1)) % 64 = 0 ∧ c_A K 804 p i = nI (z_re Z p (i + 1)) ∧ r_A R 2427 (6 * p + i) = nI (z_re Z p i) ∧ r_A R 2428 (6 * p + i) = nI (z_re Z p (i + 1) - z_re Z p i) ∧ c_A K 805 p i = r_A R 2429 (6 * p + i) ∧ 0 ≤ (r_A R 2429 (6 * p + i)).toInt ∧ (r_A R 2429 (6 * p + i)).toInt ≤ 3 := (h p hp).2.2 i hi
theorem re_m {L : c_L} {Z : z_C} {K : c_S} {R : r_S} (h : CM L Z K R) {p : Nat} (hp : p < z_np Z) {i : Nat} : ∀ d : Nat, i + d ≤ z_nr Z p → z_re Z p i + d ≤ z_re Z p (i + d) := by
  intro d
  induction d with
  | zero => intro _; exact Nat.le_refl _
  | succ d ih =>
    intro hd
    have a := ih (by omega)
    have c := (CM_ri h hp (i := i + d) (by omega)).1
    rw [show i + (d + 1) = i + d + 1 by omega]
    omega
theorem re_l {L : c_L} {Z : z_C} {K : c_S} {R : r_S} (h : CM L Z K R) {p i j : Nat} (hp : p < z_np Z) (hij : i ≤ j) (hj : j ≤ z_nr Z p) : z_re Z p i ≤ z_re Z p j := by
  have a := re_m h hp (i := i) (j - i) (by omega)
  rw [show i + (j - i) = j by omega] at a
  omega
theorem re_ex {L : c_L} {Z : z_C} {K : c_S} {R : r_S} (h : CM L Z K R) {p v : Nat} (hp : p < z_np Z) (hv : v < z_by Z p) : ∃ i : Nat, i < z_nr Z p ∧ z_re Z p i ≤ v ∧ v < z_re Z p (i + 1) := by
  have r := CM_r h hp
  have : ∀ d i : Nat, i + d = z_nr Z p → z_re Z p i ≤ v → ∃ i : Nat, i < z_nr Z p ∧ z_re Z p i ≤ v ∧ v < z_re Z p (i + 1) := by
    intro d
    induction d with
    | zero =>
      intro i hi a
      have : i = z_nr Z p := by omega
      rw [this, r.2.2.2.2.2] at a
      omega
    | succ d ih =>
      intro i hi a
      by_cases c : v < z_re Z p (i + 1)
      · exact ⟨i, by omega, a, c⟩
      · exact ih (i + 1) (by omega) (by omega)
  exact this (z_nr Z p) 0 (by omega) (by rw [r.2.2.2.2.1]; omega)
theorem ke_sortAt {L : c_L} {Z : z_C} {K : c_S} {R : r_S} {p i v : Nat} {Q : Int32 → c_S → Prop} (h : CM L Z K R) (hp : p < z_np Z) (hi : i < z_nr Z p) (h1 : z_re Z p i ≤ v) (h2 : v < z_re Z p (i + 1)) (hQ : Q (r_A R 2429 (6 * p + i)) K) : km_X4_sortAt L K p (nI v) Q := by
  obtain ⟨r1, r2, r3, r4, r5, r6⟩ := CM_r h hp
  have b1 := (CM_p h hp).1
  have bl : ∀ x : Nat, x ≤ z_nr Z p → z_re Z p x ≤ 8192 := fun x hx => by
    have := re_l h hp hx (Nat.le_refl _)
    omega
  have lp : ∀ d x : Nat, x + d = i → kl_X4_sortAt_2 L (d + 1) K p (nI v) (nI x) Q := by
    intro d
    induction d with
    | zero =>
      intro x hx
      obtain rfl : x = i := by omega
      have c := CM_ri h hp hi
      have b := bl (x + 1) (by omega)
      refine bf_ (by rw [r3]; exact nI_ge hi (by omega)) (bf_ (nI_pos (by omega)) ⟨vp_in_nI (by omega) (by decide), ?_⟩)
      rw [nI_clamp (by omega), c.2.2.1, c.2.2.2.2.2.1]
      exact bf_ (nI_ge h2 (by omega)) ⟨vp_in_nI (by omega) (by decide), hQ⟩
    | succ d ih =>
      intro x hx
      have c := CM_ri h hp (i := x) (by omega)
      have l := re_l h hp (i := x + 1) (j := i) (by omega) (by omega)
      have b := bl (i + 1) (by omega)
      refine bf_ (by rw [r3]; exact nI_ge (by omega) (by omega)) (bf_ (nI_pos (by omega)) ⟨vp_in_nI (by omega) (by decide), ?_⟩)
      rw [nI_clamp (by omega), c.2.2.1]
      refine bt_ (nI_le (by omega) (by omega)) ?_
      rw [nI_1]
      exact ih (x + 1) (by omega)
  exact ⟨i + 1, lp i 0 (by omega)⟩
theorem ke_sortAt0 {L : c_L} {Z : z_C} {K : c_S} {R : r_S} {p : Nat} {x : Int32} {Q : Int32 → c_S → Prop} (h : CM L Z K R) (hp : p < z_np Z) (hx : x < 0 ∨ nI (z_by Z p) ≤ x) (hQ : Q (-1) K) : km_X4_sortAt L K p x Q := by
  obtain ⟨r1, r2, r3, r4, r5, r6⟩ := CM_r h hp
  have b1 := (CM_p h hp).1
  by_cases c : x < 0
  · exact ⟨1, bf_ (by rw [r3]; exact nI_ge (a := 0) (by omega) (by omega)) (bt_ c hQ)⟩
  · have hx := hx.resolve_left c
    have lp : ∀ d y : Nat, y + d = z_nr Z p → kl_X4_sortAt_2 L (d + 1) K p x (nI y) Q := by
      intro d
      induction d with
      | zero =>
        intro y hy
        exact bt_ (by rw [r3]; exact nI_le (by omega) (by omega)) hQ
      | succ d ih =>
        intro y hy
        have c2 := CM_ri h hp (i := y) (by omega)
        have l := re_l h hp (i := y + 1) (j := z_nr Z p) (by omega) (Nat.le_refl _)
        refine bf_ (by rw [r3]; exact nI_ge (by omega) (by omega)) (bf_ c ⟨vp_in_nI (by omega) (by decide), ?_⟩)
        rw [nI_clamp (by omega), c2.2.2.1]
        refine bt_ ?_ ?_
        · have l1 := i_le.mp hx
          rw [nI_toInt (by omega)] at l1
          rw [i_le, nI_toInt (by omega)]
          omega
        · rw [nI_1]
          exact ih (y + 1) (by omega)
    exact ⟨z_nr Z p + 1, lp (z_nr Z p) 0 (by omega)⟩
theorem re_isIn {L : c_L} {Z : z_C} {K : c_S} {R : r_S} {p i v : Nat} {s : Int32} {Q : Option Value → r_S → Prop} (h : CM L Z K R) (np16 : z_np Z ≤ 16) (hp : p < z_np Z) (hi : i < z_nr Z p) (h1 : z_re Z p i ≤ v) (h2 : v < z_re Z p (i + 1)) (hQ : Q (some (.int (if r_A R 2429 (6 * p + i) = s ∨ r_A R 2429 (6 * p + i) = 3 then 1 else 0))) R) : rm_X12_isIn R (nI p) (nI v) s Q := by
  obtain ⟨r1, r2, r3, r4, r5, r6⟩ := CM_r h hp
  have b1 := (CM_p h hp).1
  have cp := nI_clamp (n := p) (by omega)
  have bl : ∀ x : Nat, x ≤ z_nr Z p → z_re Z p x ≤ 8192 := fun x hx => by
    have := re_l h hp hx (Nat.le_refl _)
    omega
  have e6 : ∀ x : Nat, (6 : Int32) * nI p + nI x = nI (6 * p + x) := fun x => by rw [show (6 : Int32) = nI 6 from rfl, pk_mul, nI_add]
  have nbt : ∀ z : Int32, z = 0 ∨ z = 1 → narrow .boolean (.int z) = .int z := fun z hz => by
    rcases hz with rfl | rfl
    · exact nb_0
    · exact nb_1
  -- behind the region
  have l2 : ∀ d x : Nat, i < x → x + d = z_nr Z p → rl_X12_isIn_9 (d + 1) R (nI p) (nI v) s (if r_A R 2429 (6 * p + i) = s ∨ r_A R 2429 (6 * p + i) = 3 then 1 else 0) (nI (6 * p + x)) Q := by
    intro d
    induction d with
    | zero =>
      intro x hx hd
      refine ⟨ri_v rfl (show p < 16 by omega) (by decide), bt_ ?_ ⟨nbt _ (by split; exact Or.inr rfl; exact Or.inl rfl), hQ⟩⟩
      rw [cp, r4, e6]
      exact nI_le (by omega) (by omega)
    | succ d ih =>
      intro x hx hd
      have cx := nI_clamp (n := 6 * p + x) (by omega)
      have c := CM_ri h hp (i := x) (by omega)
      have l := re_l h hp (i := i + 1) (j := x) (by omega) (by omega)
      have bx := bl x (by omega)
      have vx : ∀ f : Nat, r_N f = 96 → vp_in (nI (6 * p + x)) (r_N f) := fun f hf => ri_v hf (by omega) (by decide)
      have nx := ih (x + 1) (by omega) (by omega)
      rw [show 6 * p + (x + 1) = 6 * p + x + 1 by omega, ← nI_1] at nx
      refine ⟨ri_v rfl (show p < 16 by omega) (by decide), bf_ (by rw [cp, r4, e6]; exact nI_ge (by omega) (by omega)) ?_⟩
      by_cases cc : r_A R 2429 (6 * p + i) = s ∨ r_A R 2429 (6 * p + i) = 3
      · rw [if_pos cc] at nx ⊢
        exact nf_ (by decide) nx
      · rw [if_neg cc] at nx ⊢
        refine nt_ rfl ⟨vx _ rfl, ?_⟩
        rw [cx, c.2.2.2.1]
        exact bt_ (nI_lt (by omega) (by omega)) nx
  have l1 : ∀ d x : Nat, x + d = i → rl_X12_isIn_9 (d + (z_nr Z p - i) + 1) R (nI p) (nI v) s 0 (nI (6 * p + x)) Q := by
    intro d
    induction d with
    | zero =>
      intro x hx
      obtain rfl : x = i := by omega
      have cx := nI_clamp (n := 6 * p + x) (by omega)
      have c := CM_ri h hp (i := x) (by omega)
      have bx := bl (x + 1) (by omega)
      have vx : ∀ f : Nat, r_N f = 96 → vp_in (nI (6 * p + x)) (r_N f) := fun f hf => ri_v hf (by omega) (by decide)
      have nx := l2 (z_nr Z p - (x + 1)) (x + 1) (by omega) (by omega)
      rw [show 6 * p + (x + 1) = 6 * p + x + 1 by omega, ← nI_1, show z_nr Z p - (x + 1) + 1 = z_nr Z p - x by omega] at nx
      rw [show 0 + (z_nr Z p - x) + 1 = (z_nr Z p - x) + 1 by omega]
      refine ⟨ri_v rfl (show p < 16 by omega) (by decide), bf_ (by rw [cp, r4, e6]; exact nI_ge (by omega) (by omega)) (nt_ rfl ⟨vx _ rfl, ?_⟩)⟩
      rw [cx, c.2.2.2.1, c.2.2.2.2.1, nI_add, show z_re Z p x + (z_re Z p (x + 1) - z_re Z p x) = z_re Z p (x + 1) by omega]
      refine bf_ (nI_nlt h1 (by omega)) ⟨vx _ rfl, vx _ rfl, bf_ (nI_ge h2 (by omega)) ⟨vx _ rfl, ?_⟩⟩
      by_cases c1 : r_A R 2429 (6 * p + x) = s
      · rw [if_pos (Or.inl c1)] at nx
        exact bt_ c1 nx
      · by_cases c3 : r_A R 2429 (6 * p + x) = 3
        · rw [if_pos (Or.inr c3)] at nx
          exact bf_ c1 ⟨vx _ rfl, nt_ c3 nx⟩
        · rw [if_neg (fun z => z.elim c1 c3)] at nx
          exact bf_ c1 ⟨vx _ rfl, nf_ c3 nx⟩
    | succ d ih =>
      intro x hx
      have cx := nI_clamp (n := 6 * p + x) (by omega)
      have c := CM_ri h hp (i := x) (by omega)
      have l := re_l h hp (i := x + 1) (j := i) (by omega) (by omega)
      have bx := bl (i + 1) (by omega)
      have vx : ∀ f : Nat, r_N f = 96 → vp_in (nI (6 * p + x)) (r_N f) := fun f hf => ri_v hf (by omega) (by decide)
      have nx := ih (x + 1) (by omega)
      rw [show 6 * p + (x + 1) = 6 * p + x + 1 by omega, ← nI_1] at nx
      rw [show d + 1 + (z_nr Z p - i) + 1 = (d + (z_nr Z p - i) + 1) + 1 by omega]
      refine ⟨ri_v rfl (show p < 16 by omega) (by decide), bf_ (by rw [cp, r4, e6]; exact nI_ge (by omega) (by omega)) (nt_ rfl ⟨vx _ rfl, ?_⟩)⟩
      rw [cx, c.2.2.2.1, c.2.2.2.2.1, nI_add, show z_re Z p x + (z_re Z p (x + 1) - z_re Z p x) = z_re Z p (x + 1) by omega]
      exact bf_ (nI_nlt (by omega) (by omega)) ⟨vx _ rfl, vx _ rfl, bt_ (nI_le (by omega) (by omega)) nx⟩
  have e0 : (6 : Int32) * nI p = nI (6 * p + 0) := by rw [show (6 : Int32) = nI 6 from rfl, pk_mul]; rfl
  refine ⟨i + (z_nr Z p - i) + 1, ?_⟩
  rw [e0]
  exact l1 i 0 (by omega)
