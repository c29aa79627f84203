/-! Call 36, on. -/
theorem rn_in {R : r_S} {p q s v n k a : Nat} {B : r_S → Int32 → Int32 → Int32 → Int32 → Int32 → Int32 → Prop} {Q : Option Value → r_S → Prop} (hp : p < 16) (hq : q < 256) (hk : k < 64) (hv : v + n ≤ 8192) (ha : r_A R 2431 (64 * p + k) = nI a) (han : a + n ≤ 14000) (hy : (∀ x : Nat, x < n → r_A R 2421 (a + x) = r_A R 2466 (8192 * p + (v + x))) → Q (some (.int 0)) (rs_A R 2477 (32 * q + 11) (r_A R 2434 (64 * p + k)))) (hn : ¬ (∀ x : Nat, x < n → r_A R 2421 (a + x) = r_A R 2466 (8192 * p + (v + x))) → B R (nI p) (nI q) (nI s) (nI v) (nI n) (nI (64 * p + k) + 1)) : rb_X12_named_86 B R (nI p) (nI q) (nI s) (nI v) (nI n) (nI (64 * p + k)) 1 Q := by
  have c6 := nI_clamp (n := 64 * p + k) (by omega)
  have no : ¬ (∀ x : Nat, x < n → r_A R 2421 (a + x) = r_A R 2466 (8192 * p + (v + x))) → rb_X12_named_150 B R (nI p) (nI q) (nI s) (nI v) (nI n) (nI (64 * p + k)) 0 Q := fun z => nt_ rfl (hn z)
  have lp : ∀ d x : Nat, x + d = n → (∀ y : Nat, y < x → r_A R 2421 (a + y) = r_A R 2466 (8192 * p + (v + y))) → rl_X12_named_91 B (d + 2) R (nI p) (nI q) (nI s) (nI v) (nI n) (nI (64 * p + k)) 1 (nI x) Q := by
    intro d
    induction d with
    | zero =>
      intro x hx hb
      obtain rfl : x = n := by omega
      refine bt_ (nI_le (Nat.le_refl _) (by omega)) (nf_ (by decide) ?_)
      rw [c6, show (11 : Int32) = nI 11 from rfl, q_32, nI_clamp (n := 32 * q + 11) (by omega)]
      exact ⟨ri_v (n := 1024) rfl (by omega) (by decide), ri_v (n := 8192) rfl (by omega) (by decide), hy hb⟩
    | succ d ih =>
      intro x hx hb
      refine bf_ (nI_ge (by omega) (by omega)) (bf_ (by decide) ?_)
      have e : (8192 : Int32) * nI p + nI v + nI x = nI (8192 * p + (v + x)) := by rw [show (8192 : Int32) = nI 8192 from rfl, pk_mul, nI_add, nI_add, Nat.add_assoc]
      rw [c6, ha, nI_add, e, nI_clamp (n := a + x) (by omega), nI_clamp (n := 8192 * p + (v + x)) (by omega)]
      refine ⟨ri_v (n := 1024) rfl (by omega) (by decide), ri_v (n := 14000) rfl (by omega) (by decide), ri_v (n := 131072) rfl (by omega) (by decide), ?_⟩
      by_cases c : r_A R 2421 (a + x) = r_A R 2466 (8192 * p + (v + x))
      · refine nt_ c ?_
        show rl_X12_named_91 B (d + 2) R (nI p) (nI q) (nI s) (nI v) (nI n) (nI (64 * p + k)) 1 (nI x + 1) Q
        rw [nI_1]
        exact ih (x + 1) (by omega) (fun y hy2 => by
          by_cases e : y = x
          · subst e; exact c
          · exact hb y (by omega))
      · refine nf_ c ?_
        show rl_X12_named_91 B (d + 2) R (nI p) (nI q) (nI s) (nI v) (nI n) (nI (64 * p + k)) 0 (nI x + 1) Q
        have g := no (fun z => c (z x (by omega)))
        rw [nI_1]
        by_cases c2 : n ≤ x + 1
        · exact bt_ (nI_le c2 (by omega)) g
        · exact bf_ (nI_ge (by omega) (by omega)) (bt_ rfl g)
  exact ⟨n + 2, lp n 0 (by omega) (fun y hy => by omega)⟩
theorem rn_no {R : r_S} {p q s v n k : Nat} {B : r_S → Int32 → Int32 → Int32 → Int32 → Int32 → Int32 → Prop} {Q : Option Value → r_S → Prop} (h1 : 1 ≤ n) (hn : n < 100) (h : B R (nI p) (nI q) (nI s) (nI v) (nI n) (nI (64 * p + k) + 1)) : rb_X12_named_85 B R (nI p) (nI q) (nI s) (nI v) (nI n) (nI (64 * p + k)) Q := ⟨1, bf_ (nI_ge (a := 0) h1 (by omega)) (bt_ rfl (nt_ rfl h))⟩
theorem re_named {b : Nat} {L : c_L} {Z : z_C} {K : c_S} {R : r_S} (w : WR b L Z K R) {p q s v n m : Nat} {Q : Option Value → r_S → Prop} (hp : p < z_np Z) (hq : q < 256) (hs : s ≤ 5) (h1 : 1 ≤ n) (hn : n ≤ 12) (hv : v + n ≤ z_by Z p) (m64 : m ≤ 64) (hm : r_A R 2430 p = nI m) (h : (∃ k : Nat, k < m ∧ M_k R p s v n k ∧ ∀ k' : Nat, k' < m → M_k R p s v n k' → Q (some (.int 0)) (rs_A R 2477 (32 * q + 11) (r_A R 2434 (64 * p + k')))) ∨ ((∀ k : Nat, k < m → ¬ M_k R p s v n k) ∧ Q (some (.int 2)) R)) : rm_X12_named R (nI p) (nI q) (nI s) (nI v) (nI n) Q := by
  have np16 := CQ_np (WR_cq w)
  obtain ⟨b1, b2, b3, b4, b5, -⟩ := CM_p (WR_cm w) hp
  obtain ⟨m', h1', h2', h3, h4⟩ := NM_k w hp
  have em : m' = m := (nI_eq (by omega) (by omega)).mp (h2'.symm.trans hm)
  subst em
  refine bf_ (nI_pos (by omega)) (bf_ (nI_nlt (a := 5) (by omega) (by decide)) (bf_ (nI_nlt (b := 1) h1 (by omega)) (bf_ (nI_nlt (a := 12) hn (by decide)) ?_)))
  refine bf_ (nI_pos (by omega)) ⟨ri_v (n := 16) rfl (by omega) (by decide), bf_ ?_ ⟨nb_1, _, rfl, nf_ (by decide) ⟨m' + 1, ?_⟩⟩⟩
  · rw [nI_clamp (by omega), b5, pk_sub (by omega)]
    exact nI_nlt (by omega) (by omega)
  · have lp : ∀ d k : Nat, k + d = m' → (∀ k' : Nat, k' < k → ¬ M_k R p s v n k') → rl_X12_named_42 (d + 1) R (nI p) (nI q) (nI s) (nI v) (nI n) (nI (64 * p + k)) Q := by
      intro d
      induction d with
      | zero =>
        intro k hk hb
        obtain rfl : k = m' := by omega
        refine ⟨ri_v (n := 16) rfl (by omega) (by decide), bt_ ?_ ?_⟩
        · rw [nI_clamp (by omega), hm, show (64 : Int32) = nI 64 from rfl, pk_mul, nI_add]
          exact nI_le (Nat.le_refl _) (by omega)
        · rcases h with ⟨k', a1, a2, -⟩ | ⟨-, h⟩
          · exact absurd a2 (hb k' a1)
          · exact h
      | succ d ih =>
        intro k hk hb
        have c6 := nI_clamp (n := 64 * p + k) (by omega)
        obtain ⟨s', i, n', a, q1, q2, q3, q4, q5, q6, q7, q8, q9⟩ := h3 k (by omega)
        have nx : ¬ M_k R p s v n k → rl_X12_named_42 (d + 1) R (nI p) (nI q) (nI s) (nI v) (nI n) (nI (64 * p + k) + 1) Q := fun z => by
          rw [nI_1]
          exact ih (k + 1) (by omega) (fun k' hk' => by
            by_cases e : k' = k
            · subst e; exact z
            · exact hb k' (by omega))
        refine ⟨ri_v (n := 16) rfl (by omega) (by decide), bf_ ?_ ⟨ri_v (n := 1024) rfl (by omega) (by decide), ?_⟩⟩
        · rw [nI_clamp (by omega), hm, show (64 : Int32) = nI 64 from rfl, pk_mul, nI_add]
          exact nI_ge (by omega) (by omega)
        · rw [c6]
          by_cases es : r_A R 2433 (64 * p + k) = nI s
          · refine nt_ es ⟨ri_v (n := 1024) rfl (by omega) (by decide), ?_⟩
            by_cases en : r_A R 2432 (64 * p + k) = nI n
            · have e2 : n' = n := (nI_eq (by omega) (by omega)).mp (q6.symm.trans en)
              subst e2
              refine nt_ en (rn_in (by omega) hq (by omega) (by omega) q7 (by omega) (fun z => ?_) (fun z => nx (fun y => z ?_)))
              · have M : M_k R p s v n' k := ⟨es, en, by rw [q7, nI_clamp (by omega)]; exact z⟩
                rcases h with ⟨k', a1, a2, a3⟩ | ⟨a1, -⟩
                · exact a3 k (by omega) M
                · exact absurd M (a1 k (by omega))
              · have := y.2.2
                rw [q7, nI_clamp (by omega)] at this
                exact this
            · exact nf_ en (rn_no h1 (by omega) (nx (fun y => en y.2.1)))
          · exact nf_ es (rn_no h1 (by omega) (nx (fun y => es y.1)))
    have e : (64 : Int32) * nI p = nI (64 * p + 0) := by rw [show (64 : Int32) = nI 64 from rfl, pk_mul]; rfl
    rw [e]
    exact lp m' 0 (by omega) (fun k' hk' => by omega)
theorem AN_36 {b : Nat} {L : c_L} {Z : z_C} {K : c_S} {R : r_S} {p j : Nat} {a bb cc : Int32} (x : CX b L Z K R p j) (hmv : p < z_mv Z) : AN b L Z (16 * p + j) (km_X0_ofLooks L K 0 36 a bb cc) (rm_X12_asks R 36 (nI p) (nI (16 * p + j)) a bb cc) := by
  obtain ⟨w, ⟨hp, hj⟩, ⟨p0, p1, p2, p3⟩, hnow, h1, hm, gk⟩ := x
  have cq := WR_cq w
  have np16 := CQ_np cq
  have n16 := CQ_nq cq p hp
  have mq := (CQ_q cq hp hj).1
  have m5 := (CQ_p cq hp).1
  obtain ⟨b1, b2, b3, b4, b5, -⟩ := CM_p (WR_cm w) hp
  refine AN_c (KM := km_X0_findNamed L K 0 a bb cc) (RM := fun Q => rm_X12_named R (nI p) (nI (16 * p + j)) a bb cc (fun r S => ∃ x4_ : Int32, r = some (.int x4_) ∧ Q (some (.int x4_)) S)) ?_ (fun Q hQ => ⟨fun _ => hQ, fun z => absurd z (by decide), fun z => absurd z (by decide), fun z => absurd z (by decide), fun z => absurd z (by decide)⟩) (fun Q hQ => ⟨fun _ => hQ, fun z => absurd z (by decide), fun z => absurd z (by decide), fun z => absurd z (by decide), fun z => absurd z (by decide)⟩)
  by_cases a0 : a < 0
  · exact AN_i 1 K R w p3 (fun Q hQ => bt_ a0 hQ) (fun Q hQ => bt_ a0 ⟨_, rfl, hQ⟩)
  by_cases a5 : (5 : Int32) < a
  · exact AN_i 1 K R w p3 (fun Q hQ => bf_ a0 (bt_ a5 hQ)) (fun Q hQ => bf_ a0 (bt_ a5 ⟨_, rfl, hQ⟩))
  by_cases c1 : cc < 1
  · exact AN_i 1 K R w p3 (fun Q hQ => bf_ a0 (bf_ a5 (bt_ c1 hQ))) (fun Q hQ => bf_ a0 (bf_ a5 (bt_ c1 ⟨_, rfl, hQ⟩)))
  by_cases c12 : (12 : Int32) < cc
  · exact AN_i 1 K R w p3 (fun Q hQ => bf_ a0 (bf_ a5 (bf_ c1 (bf_ (fun z => (i_nlt.mpr z) c12) hQ)))) (fun Q hQ => bf_ a0 (bf_ a5 (bf_ c1 (bt_ c12 ⟨_, rfl, hQ⟩))))
  have lc : cc ≤ 12 := i_nlt.mp c12
  have vp : vp_in (nI p) (r_N 2425) := ri_v (n := 16) rfl (by omega) (by decide)
  have cp := nI_clamp (n := p) (by omega)
  by_cases v0 : bb < 0
  · exact AN_i 1 K R w p3 (fun Q hQ => bf_ a0 (bf_ a5 (bf_ c1 (bt_ lc (bt_ v0 hQ))))) (fun Q hQ => bf_ a0 (bf_ a5 (bf_ c1 (bf_ c12 (bt_ v0 ⟨nb_0, _, rfl, nt_ rfl ⟨_, rfl, hQ⟩⟩)))))
  obtain ⟨s, hs, rfl⟩ := nI_of2 (n := 5) (M := 5) (by decide) a0 (i_nlt.mp a5)
  obtain ⟨n, hn, rfl⟩ := nI_of2 (n := 12) (M := 12) (by decide) (fun z => c1 (i_lt.mpr (by have := i_lt0.mp z; rw [show (1 : Int32).toInt = 1 from by decide]; omega))) lc
  have n1 : 1 ≤ n := Classical.byContradiction fun z => by
    have : n = 0 := by omega
    subst this
    exact c1 (by decide)
  obtain ⟨v, hv, rfl⟩ := nI_of v0
  by_cases cv : v + n ≤ z_by Z p
  · have e1 : nI v ≤ c_I K 800 p - nI n := by rw [b4, pk_sub (by omega)]; exact nI_le (by omega) (by omega)
    rcases NM_m w (p := p) (s := s) (v := v) (n := n) hp hs hn with ⟨i, m, k, g1, g2, g3, g4, g5, g6, g7⟩ | ⟨g1, m, g2, g3, g4⟩
    · refine AN_i 0 _ _ (WR_x (v := nI i) w hp hj (i := 11) (by decide)) p3 (fun Q hQ => bf_ a0 (bf_ a5 (bf_ c1 (bt_ lc (bf_ v0 ⟨p, p1, m5, bt_ e1 (ke_nameAt w hp hmv hn cv (ke_named w hp hs (nI i) (Or.inl ⟨i, g1, g2, rfl⟩) (nf_ (nI_m1 ?_) ⟨_, p3, mq, v32 (n := 11) (by decide), hQ⟩)))⟩))))) (fun Q hQ => re_named w hp (by omega) hs n1 hn cv g3 g4 (Or.inl ⟨k, g5, g6, fun k' hk' hM => ?_⟩))
      · have : n_c Z p s ≤ 16 := by
          unfold n_c
          split
          · exact n16
          · have := (CT_n (WR_ct w) hp (s := s) (by omega)).1
            split at this <;> omega
        omega
      · rw [g7 k' hk' hM]
        exact ⟨_, rfl, hQ⟩
    · exact AN_i 2 K R w p3 (fun Q hQ => bf_ a0 (bf_ a5 (bf_ c1 (bt_ lc (bf_ v0 ⟨p, p1, m5, bt_ e1 (ke_nameAt w hp hmv hn cv (ke_named w hp hs (-1) (Or.inr ⟨g1, rfl⟩) (nt_ rfl hQ)))⟩))))) (fun Q hQ => re_named w hp (by omega) hs n1 hn cv g2 g3 (Or.inr ⟨g4, ⟨_, rfl, hQ⟩⟩))
  · have e1 : ¬ nI v ≤ c_I K 800 p - nI n := by rw [b4, pk_sub (by omega)]; exact nI_ge (by omega) (by omega)
    have e2 : r_A R 2425 (nI p).toNatClampNeg - nI n < nI v := by rw [cp, b5, pk_sub (by omega)]; exact nI_lt (by omega) (by omega)
    exact AN_i 1 K R w p3 (fun Q hQ => bf_ a0 (bf_ a5 (bf_ c1 (bt_ lc (bf_ v0 ⟨p, p1, m5, bf_ e1 hQ⟩))))) (fun Q hQ => bf_ a0 (bf_ a5 (bf_ c1 (bf_ c12 (bf_ v0 ⟨vp, bt_ e2 ⟨nb_0, _, rfl, nt_ rfl ⟨_, rfl, hQ⟩⟩⟩)))))
