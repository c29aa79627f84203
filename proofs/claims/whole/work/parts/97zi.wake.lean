/-! Whose time is over becomes ready. -/
theorem b_fn {M : Nat → Bool} {A : Nat → Nat → Bool} {n : Nat} (h : b_fw M A n = none) : ∀ i : Nat, i < n → M i = false := by
  induction n with
  | zero => intro i hi; omega
  | succ n ih =>
    intro i hi
    rw [b_fw_s] at h
    by_cases c : M n = true
    · rw [if_pos c] at h
      cases e : b_fw M A n with
      | none => rw [e] at h; cases h
      | some m =>
        rw [e] at h
        simp only at h
        split at h <;> cases h
    · rw [if_neg c] at h
      by_cases e : i = n
      · subst e; exact Bool.eq_false_iff.mpr c
      · exact ih h i (by omega)
theorem b_ct0 {M : Nat → Bool} {n : Nat} (h : ∀ i : Nat, i < n → M i = false) : b_ct M n = 0 := by
  induction n with
  | zero => rfl
  | succ n ih =>
    show b_ct M n + (if M n = true then 1 else 0) = 0
    rw [ih (fun i hi => h i (by omega)), if_neg (by rw [h n (by omega)]; decide)]
theorem b_cte {M M' : Nat → Bool} {n : Nat} (h : ∀ i : Nat, i < n → M i = M' i) : b_ct M n = b_ct M' n := by
  induction n with
  | zero => rfl
  | succ n ih =>
    show b_ct M n + (if M n = true then 1 else 0) = b_ct M' n + (if M' n = true then 1 else 0)
    rw [ih (fun i hi => h i (by omega)), h n (by omega)]
theorem b_ct1 {M M' : Nat → Bool} {n i : Nat} (hi : i < n) (h1 : M i = true) (h2 : M' i = false) (h : ∀ j : Nat, j < n → j ≠ i → M j = M' j) : b_ct M n = b_ct M' n + 1 := by
  induction n with
  | zero => omega
  | succ n ih =>
    show b_ct M n + (if M n = true then 1 else 0) = b_ct M' n + (if M' n = true then 1 else 0) + 1
    by_cases e : i = n
    · subst e
      rw [b_cte (fun j hj => h j (by omega) (by omega)), if_pos h1, if_neg (by rw [h2]; decide)]
    · rw [ih (by omega) (fun j hj hji => h j (by omega) hji), h n (by omega) (by omega)]
      omega
def wkM (R : r_S) (p : Nat) (t : Int32) (i : Nat) : Bool := decide (r_A R 2472 (16 * p + i) ≠ -1 ∧ r_A R 2472 (16 * p + i) ≤ t)
def wkA (R : r_S) (p i m : Nat) : Bool := decide (r_A R 2472 (16 * p + i) < r_A R 2472 (16 * p + m))
theorem ke_ftw {b : Nat} {L : c_L} {Z : z_C} {K : c_S} {R : r_S} {p : Nat} {t : Int32} {Q : Option Nat → c_S → Prop} (w : WR b L Z K R) (hp : p < z_np Z) (h : Q ((b_fw (wkM R p t) (wkA R p) (z_nq Z p)).map (fun i => 16 * p + i)) K) : km_X5_firstToWake L K p t Q := by
  have cq := WR_cq w
  have n16 := CQ_nq cq p hp
  have hn := (CQ_p cq hp).2.2.1
  have mk : ∀ i : Nat, i < z_nq Z p → c_mk L 7 (16 * p + i) := fun i hi => (CQ_q cq hp hi).1
  have eu : ∀ i : Nat, i < z_nq Z p → c_I K 1413 (16 * p + i) = r_A R 2472 (16 * p + i) := fun i hi => (DP_w w hp hi).1.2.2.2.1
  have lp : ∀ d k : Nat, k + d = z_nq Z p → kl_X5_firstToWake_4 L (d + 1) K p t ((b_fw (wkM R p t) (wkA R p) k).map (fun i => 16 * p + i)) (nI k) Q := by
    intro d
    induction d with
    | zero =>
      intro k hk
      obtain rfl : k = z_nq Z p := by omega
      exact bt_ (by rw [hn]; exact nI_le (Nat.le_refl _) (by omega)) h
    | succ d ih =>
      intro k hk
      have hkn : k < z_nq Z p := by omega
      have ec : c_e7 L p (nI k).toNatClampNeg = some (16 * p + k) := by rw [nI_clamp (by omega)]; exact c_m7 (by omega) (mk k hkn)
      have nx := ih (k + 1) (by omega)
      rw [← nI_1, b_fw_s] at nx
      refine bf_ (by rw [hn]; exact nI_ge hkn (by omega)) ⟨vp_in_nI (by omega) (by decide), _, ec, mk k hkn, ?_⟩
      rw [eu k hkn, ec]
      by_cases c1 : r_A R 2472 (16 * p + k) = -1
      · rw [if_neg (fun z => (of_decide_eq_true z).1 c1)] at nx
        exact bt_ c1 nx
      · by_cases c2 : t < r_A R 2472 (16 * p + k)
        · rw [if_neg (fun z => i_nlt.mpr (of_decide_eq_true z).2 c2)] at nx
          exact bf_ c1 (bt_ c2 nx)
        · have cm : wkM R p t k = true := decide_eq_true ⟨c1, i_nlt.mp c2⟩
          rw [if_pos cm] at nx
          refine bf_ c1 (bf_ c2 ?_)
          cases e : b_fw (wkM R p t) (wkA R p) k with
          | none =>
            rw [e] at nx
            exact bt_ rfl nx
          | some y =>
            rw [e] at nx
            simp only at nx
            have hy := (b_fw_lt e).1
            refine bf_ (fun z => (by cases z)) ⟨_, rfl, mk y (by omega), ?_⟩
            rw [eu y (by omega)]
            by_cases c3 : r_A R 2472 (16 * p + y) ≤ r_A R 2472 (16 * p + k)
            · rw [if_neg (show ¬ wkA R p k y = true from fun z => i_nlt.mpr c3 (of_decide_eq_true z))] at nx
              exact bt_ c3 nx
            · rw [if_pos (show wkA R p k y = true from decide_eq_true (i_nle.mp c3))] at nx
              exact bf_ c3 nx
  exact ⟨z_nq Z p + 1, lp (z_nq Z p) 0 (by omega)⟩
theorem re_ftw {b : Nat} {L : c_L} {Z : z_C} {K : c_S} {R : r_S} {p : Nat} {B : r_S → Int32 → Int32 → Prop} {Q : Option Value → r_S → Prop} (w : WR b L Z K R) (hp : p < z_np Z) (h : (b_fw (wkM R p (r_I R 2463)) (wkA R p) (z_nq Z p) = none → rb_X12_works_112 B R (nI p) (-1) 0 Q) ∧ ∀ i : Nat, b_fw (wkM R p (r_I R 2463)) (wkA R p) (z_nq Z p) = some i → rb_X12_works_112 B R (nI p) (nI (16 * p + i)) 1 Q) : ∃ n : Nat, rl_X12_works_14 B n R (nI p) (-1) (nI (16 * p + 0)) Q := by
  have cq := WR_cq w
  have np16 := CQ_np cq
  have n16 := CQ_nq cq p hp
  have hn2 := (CQ_p cq hp).2.2.2
  have lp : ∀ d k : Nat, k + d = z_nq Z p → rl_X12_works_14 B (d + 1) R (nI p) (o_i ((b_fw (wkM R p (r_I R 2463)) (wkA R p) k).map (fun i => 16 * p + i))) (nI (16 * p + k)) Q := by
    intro d
    induction d with
    | zero =>
      intro k hk
      obtain rfl : k = z_nq Z p := by omega
      rw [rl_X12_works_14, rb_X12_works_14]
      refine re_lastOf (by omega) hn2 ⟨_, rfl, bt_ (nI_le (Nat.le_refl _) (by omega)) ?_⟩
      cases e : b_fw (wkM R p (r_I R 2463)) (wkA R p) (z_nq Z p) with
      | none => exact bt_ rfl (h.1 e)
      | some i =>
        have hi := (b_fw_lt e).1
        exact bf_ (nI_m1 (show 16 * p + i < 2 ^ 31 by omega)) (h.2 i e)
    | succ d ih =>
      intro k hk
      have hkn : k < z_nq Z p := by omega
      have ck := nI_clamp (n := 16 * p + k) (by omega)
      have vk : ∀ f : Nat, r_N f = 256 → vp_in (nI (16 * p + k)) (r_N f) := fun f hf => ri_v hf (by omega) (by decide)
      have nx := ih (k + 1) (by omega)
      rw [show 16 * p + (k + 1) = 16 * p + k + 1 by omega, ← nI_1, b_fw_s] at nx
      have s2 : r_A R 2472 (16 * p + k) ≠ -1 → r_A R 2467 (16 * p + k) = 2 := (DP_w w hp hkn).2.2.2.2.2.2.1
      rw [rl_X12_works_14, rb_X12_works_14]
      refine re_lastOf (by omega) hn2 ⟨_, rfl, bf_ (nI_ge (by omega) (by omega)) ⟨vk _ rfl, ?_⟩⟩
      rw [ck]
      have no : ¬ wkM R p (r_I R 2463) k = true → rb_X12_works_64 B (fun S x1 x3 x4 => rl_X12_works_14 B (d + 1) S x1 x3 x4 Q) R (nI p) (o_i ((b_fw (wkM R p (r_I R 2463)) (wkA R p) k).map (fun i => 16 * p + i))) (nI (16 * p + k)) Q := fun c => by
        rw [if_neg c] at nx
        exact bt_ rfl nx
      by_cases c0 : r_A R 2467 (16 * p + k) = 2
      case neg => exact nf_ c0 (no (fun z => c0 (s2 (of_decide_eq_true z).1)))
      case pos =>
        refine nt_ c0 ⟨vk _ rfl, ?_⟩
        by_cases c1 : r_A R 2472 (16 * p + k) = -1
        · exact bt_ c1 (no (fun z => (of_decide_eq_true z).1 c1))
        · refine bf_ c1 ⟨vk _ rfl, ?_⟩
          by_cases c2 : r_I R 2463 < r_A R 2472 (16 * p + k)
          · exact bt_ c2 (no (fun z => i_nlt.mpr (of_decide_eq_true z).2 c2))
          · have cm : wkM R p (r_I R 2463) k = true := decide_eq_true ⟨c1, i_nlt.mp c2⟩
            rw [if_pos cm] at nx
            refine bf_ c2 (bf_ (by decide) ?_)
            cases e : b_fw (wkM R p (r_I R 2463)) (wkA R p) k with
            | none =>
              rw [e] at nx
              exact bt_ rfl nx
            | some y =>
              rw [e] at nx
              simp only at nx
              have hy := (b_fw_lt e).1
              have cy := nI_clamp (n := 16 * p + y) (by omega)
              refine bf_ (nI_m1 (show 16 * p + y < 2 ^ 31 by omega)) ⟨vk _ rfl, ri_v (n := 256) rfl (show 16 * p + y < 256 by omega) (by decide), ?_⟩
              rw [ck, show (o_i (Option.map (fun i => 16 * p + i) (some y))).toNatClampNeg = 16 * p + y from cy]
              by_cases c3 : r_A R 2472 (16 * p + y) ≤ r_A R 2472 (16 * p + k)
              · rw [if_neg (show ¬ wkA R p k y = true from fun z => i_nlt.mpr c3 (of_decide_eq_true z))] at nx
                exact bt_ c3 nx
              · rw [if_pos (show wkA R p k y = true from decide_eq_true (i_nle.mp c3))] at nx
                exact bf_ c3 nx
  exact ⟨z_nq Z p + 1, lp (z_nq Z p) 0 (by omega)⟩
theorem P_wakes {L : c_L} {Z : z_C} {p : Nat} (hp : p < z_np Z) : ∀ (c n d b : Nat) (K : c_S) (R : r_S), WR b L Z K R → r_A R 2483 p = 0 → b_ct (wkM R p (nI (z_tm Z))) (z_nq Z p) = c → n + d = z_nq Z p → c ≤ d → b + c < 1999999900 → ∃ (K' : c_S) (R' : r_S), (∀ Q : c_S → Prop, Q K' → kl_X5_wakeUntil_2 L (d + 1) K p (nI (z_tm Z)) (nI n) Q) ∧ (∀ Q : Option Value → r_S → Prop, (∃ m : Nat, rl_X12_works_148 m R' (nI p) (nI (16 * p + 0)) Q) → rl_X12_works_2 (c + 2) R (nI p) 1 Q) ∧ WR (b + c) L Z K' R' ∧ r_A R' 2483 p = 0 ∧ ∀ f : Nat, f ≠ 2464 → r_I R' f = r_I R f := by
  have e16 : (16 : Int32) * nI p = nI (16 * p + 0) := by rw [show (16 : Int32) = nI 16 from rfl, pk_mul]; rfl
  intro c
  induction c with
  | zero =>
    intro n d b K R w hm hc hnd hcd hb
    have cq := WR_cq w
    have n16 := CQ_nq cq p hp
    have hn := (CQ_p cq hp).2.2.1
    have et : r_I R 2463 = nI (z_tm Z) := (GL_el w).2.2.2.2.2.1
    have bn : b_fw (wkM R p (nI (z_tm Z))) (wkA R p) (z_nq Z p) = none := by
      cases e : b_fw (wkM R p (nI (z_tm Z))) (wkA R p) (z_nq Z p) with
      | none => rfl
      | some i =>
        obtain ⟨h1, h2⟩ := b_fw_lt e
        have := b_ct1 (M := wkM R p (nI (z_tm Z))) (M' := fun j => if j = i then false else wkM R p (nI (z_tm Z)) j) h1 h2 (if_pos rfl) (fun j _ hji => (if_neg hji).symm)
        omega
    refine ⟨K, R, fun Q hQ => ?_, fun Q hQ => ?_, w, hm, fun _ _ => rfl⟩
    · by_cases c : n = z_nq Z p
      · exact bt_ (by rw [hn, c]; exact nI_le (Nat.le_refl _) (by omega)) hQ
      · refine bf_ (by rw [hn]; exact nI_ge (by omega) (by omega)) (ke_ftw w hp ?_)
        rw [bn]
        exact nt_ rfl hQ
    · refine bf_ (by decide) ?_
      rw [e16]
      refine re_ftw w hp ⟨fun _ => nt_ rfl (bt_ rfl (by rw [e16]; exact hQ)), fun i z => ?_⟩
      rw [et, bn] at z
      cases z
  | succ c ih =>
    intro n d b K R w hm hc hnd hcd hb
    have cq := WR_cq w
    have np16 := CQ_np cq
    have n16 := CQ_nq cq p hp
    have hn := (CQ_p cq hp).2.2.1
    have et : r_I R 2463 = nI (z_tm Z) := (GL_el w).2.2.2.2.2.1
    cases e : b_fw (wkM R p (nI (z_tm Z))) (wkA R p) (z_nq Z p) with
    | none =>
      rw [b_ct0 (b_fn e)] at hc
      omega
    | some i =>
      obtain ⟨hi, hM⟩ := b_fw_lt e
      obtain ⟨u1, u2⟩ := of_decide_eq_true hM
      have mi := (CQ_q cq hp hi).1
      have ci := nI_clamp (n := 16 * p + i) (by omega)
      have vi : vp_in (nI (16 * p + i)) (r_N 2478) := ri_v (n := 256) rfl (by omega) (by decide)
      have s2 : r_A R 2467 (16 * p + i) = 2 := (DP_w w hp hi).2.2.2.2.2.2.1 u1
      obtain ⟨d', rfl⟩ : ∃ d' : Nat, d = d' + 1 := ⟨d - 1, by omega⟩
      have wc := wc_cases w hp hi
      -- the common end
      have fin : ∀ (K1 : c_S) (R1 : r_S), WR (b + 1) L Z K1 R1 → (∀ f i' : Nat, f ≠ 2467 → f ≠ 2472 → f ≠ 2478 → f ≠ 2476 → f ≠ 2477 → r_A R1 f i' = r_A R f i') → (∀ q : Nat, r_A R1 2472 q = if q = 16 * p + i then -1 else r_A R 2472 q) → (∀ f : Nat, f ≠ 2464 → r_I R1 f = r_I R f) → (∀ Q : c_S → Prop, kl_X5_wakeUntil_2 L (d' + 1) K1 p (nI (z_tm Z)) (nI n + 1) Q → kl_X5_wakeUntil_2 L (d' + 1 + 1) K p (nI (z_tm Z)) (nI n) Q) → (∀ Q : Option Value → r_S → Prop, rl_X12_works_2 (c + 2) R1 (nI p) 1 Q → rb_X12_works_112 (fun S x1 x2 => rl_X12_works_2 (c + 2) S x1 x2 Q) R (nI p) (nI (16 * p + i)) 1 Q) → ∃ (K' : c_S) (R' : r_S), (∀ Q : c_S → Prop, Q K' → kl_X5_wakeUntil_2 L (d' + 1 + 1) K p (nI (z_tm Z)) (nI n) Q) ∧ (∀ Q : Option Value → r_S → Prop, (∃ m : Nat, rl_X12_works_148 m R' (nI p) (nI (16 * p + 0)) Q) → rl_X12_works_2 (c + 1 + 2) R (nI p) 1 Q) ∧ WR (b + (c + 1)) L Z K' R' ∧ r_A R' 2483 p = 0 ∧ ∀ f : Nat, f ≠ 2464 → r_I R' f = r_I R f := fun K1 R1 w1 o1 o2 o3 hk hr => by
        have hc1 : b_ct (wkM R1 p (nI (z_tm Z))) (z_nq Z p) = c := by
          have a := b_ct1 (M := wkM R p (nI (z_tm Z))) (M' := wkM R1 p (nI (z_tm Z))) hi hM (by
            refine decide_eq_false (fun z => z.1 ?_)
            rw [o2, if_pos rfl]) (fun j hj hji => by
            unfold wkM
            rw [o2, if_neg (by omega)])
          omega
        obtain ⟨K', R', g1, g2, g3, g4, g5⟩ := ih (n + 1) d' (b + 1) K1 R1 w1 (by rw [o1 _ _ (by decide) (by decide) (by decide) (by decide) (by decide)]; exact hm) hc1 (by omega) (by omega) (by omega)
        refine ⟨K', R', fun Q hQ => hk Q (by rw [nI_1]; exact g1 Q hQ), fun Q hQ => ?_, by rw [show b + (c + 1) = b + 1 + c by omega]; exact g3, g4, fun f hf => (g5 f hf).trans (o3 f hf)⟩
        refine bf_ (by decide) ?_
        rw [e16]
        refine re_ftw w hp ⟨fun z => ?_, fun i' z => ?_⟩
        · rw [et, e] at z; cases z
        · rw [et, e] at z
          injection z with z
          subst z
          exact hr Q (g2 Q hQ)
      have kgo : ∀ Q : c_S → Prop, ((¬ (c_I K 1418 (16 * p + i)) = (128 : Int32) → (km_X5_answerWaiter L K p (some (16 * p + i)) (4 : Int32) (fun S13_ => (kl_X5_wakeUntil_2 L (d' + 1) S13_ p (nI (z_tm Z)) (nI n + 1) Q)))) ∧ ((c_I K 1418 (16 * p + i)) = (128 : Int32) → (km_X5_makeReady L K p (some (16 * p + i)) (fun S16_ => (kl_X5_wakeUntil_2 L (d' + 1) S16_ p (nI (z_tm Z)) (nI n + 1) Q))))) → kl_X5_wakeUntil_2 L (d' + 1 + 1) K p (nI (z_tm Z)) (nI n) Q := fun Q hQ => by
        refine bf_ (by rw [hn]; exact nI_ge (by omega) (by omega)) (ke_ftw w hp ?_)
        rw [e]
        exact nf_ (fun z => (by cases z)) ⟨_, rfl, mi, hQ⟩
      by_cases c8 : r_A R 2478 (16 * p + i) = 0
      · have e18 : c_I K 1418 (16 * p + i) = 128 := by
          have lit : ∀ x : Nat, 1 ≤ x → x ≤ 8 → nI x ≠ 0 := fun x h1 h2 => nI_ne0 (by omega) (by omega)
          rcases wc with ⟨h1, h2⟩ | ⟨h1, ⟨h2, h3⟩ | ⟨s, k, hs, hk, h2, -, h3⟩ | ⟨a, ha, h2, -, -, -, h3⟩ | ⟨a, ha, h2, -, -, -, h3⟩ | ⟨h2, h3⟩⟩
          · exact absurd s2 h1
          · exact h3
          · exact absurd (h2.symm.trans c8) (lit s (by omega) (by omega))
          · exact absurd (h2.symm.trans c8) (lit 6 (by omega) (by omega))
          · exact absurd (h2.symm.trans c8) (lit 7 (by omega) (by omega))
          · exact absurd (h2.symm.trans c8) (lit 8 (by omega) (by omega))
        have ti := w.2.2.2.1.2 p hp i hi
        have rel : (r_A R 2473 (16 * p + i)).toInt ≤ (r_I R 2463).toInt := by
          have lu := i_le.mp u2
          rw [← et] at lu
          rcases ti.2.1 s2 with q | q
          · exact q
          · have q2 : (r_A R 2473 (16 * p + i)).toInt ≤ (r_A R 2472 (16 * p + i)).toInt := q.2
            omega
        refine fin _ _ (WR_rdy w (by omega) hp hi (by rw [s2]; decide) hm rel) (fun f i' h1 h2 h3 h4 h5 => ?_) (fun q => ?_) (fun f hf => if_neg hf) (fun Q hQ => kgo Q (nt_ e18 (ke_makeReady mi hQ))) (fun Q hQ => nf_ (by decide) ⟨vi, bt_ (by rw [ci, c8]; decide) (re_isReady (by omega) ⟨rfl, hQ⟩)⟩)
        · unfold r_rdy
          rw [r_An (Or.inl h4), r_AI, r_An (Or.inl h3), r_An (Or.inl h2), r_An (Or.inl h1)]
        · unfold r_rdy
          rw [r_An (Or.inl (by decide)), r_AI, r_An (Or.inl (by decide))]
          by_cases cq : q = 16 * p + i
          · rw [if_pos cq, cq, r_As]
          · rw [if_neg cq, r_An (Or.inr cq), r_An (Or.inl (by decide))]
      · have e18 : ¬ c_I K 1418 (16 * p + i) = 128 := fun z => by
          have z : c_I K 1418 (16 * p + i) = nI 128 := z
          have nt4 := (CT_n (WR_ct w) hp (s := 4) (by decide)).1
          rw [if_pos rfl] at nt4
          rcases wc with ⟨h1, h2⟩ | ⟨h1, ⟨h2, h3⟩ | ⟨s, k, hs, hk, h2, -, h3⟩ | ⟨a, ha, h2, -, -, -, h3⟩ | ⟨a, ha, h2, -, -, -, h3⟩ | ⟨h2, h3⟩⟩
          · exact h1 s2
          · exact c8 h2
          · have b80 := b_co80 (s := s)
            have := (nI_eq (by omega) (by decide)).mp (h3.symm.trans z)
            omega
          · have := (nI_eq (by omega) (by decide)).mp (h3.symm.trans z)
            omega
          · have := (nI_eq (by omega) (by decide)).mp (h3.symm.trans z)
            omega
          · exact absurd (h3.symm.trans z) (by decide)
        have p8 : ¬ r_A R 2478 (16 * p + i) ≤ 0 := fun z => by
          have lit : ∀ x : Nat, 1 ≤ x → x ≤ 8 → ¬ nI x ≤ 0 := fun x h1 h2 => nI_nle (by omega) (by omega)
          rcases wc with ⟨h1, h2⟩ | ⟨h1, ⟨h2, h3⟩ | ⟨s, k, hs, hk, h2, -, h3⟩ | ⟨a, ha, h2, -, -, -, h3⟩ | ⟨a, ha, h2, -, -, -, h3⟩ | ⟨h2, h3⟩⟩
          · exact h1 s2
          · exact c8 h2
          · rw [h2] at z; exact lit s (by omega) (by omega) z
          · rw [h2] at z; exact lit 6 (by omega) (by omega) z
          · rw [h2] at z; exact lit 7 (by omega) (by omega) z
          · rw [h2] at z; exact lit 8 (by omega) (by omega) z
        refine fin _ _ (WR_get (v := 4) w (by omega) hp hi s2 c8) (fun f i' h1 h2 h3 h4 h5 => ?_) (fun q => ?_) (fun f hf => if_neg hf) (fun Q hQ => kgo Q (nf_ e18 (ke_answerWaiter mi hQ))) (fun Q hQ => nf_ (by decide) ⟨vi, bf_ (by rw [ci]; exact p8) (re_answer (by omega) ⟨rfl, re_isReady (by omega) ⟨rfl, hQ⟩⟩)⟩)
        · unfold r_rdy
          rw [r_An (Or.inl h4), r_AI, r_An (Or.inl h3), r_An (Or.inl h2), r_An (Or.inl h1), r_An (Or.inl h5)]
        · unfold r_rdy
          rw [r_An (Or.inl (by decide)), r_AI, r_An (Or.inl (by decide))]
          by_cases cq : q = 16 * p + i
          · rw [if_pos cq, cq, r_As]
          · rw [if_neg cq, r_An (Or.inr cq), r_An (Or.inl (by decide)), r_An (Or.inl (by decide))]
