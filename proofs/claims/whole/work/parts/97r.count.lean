/-! Who waits at a thing: how many. -/
def k_wm (K : c_S) (p : Nat) (slot : Int32) (i : Nat) : Bool := decide (c_I K 1418 (16 * p + i) = slot ∨ c_I K 1418 (16 * p + i) = 64 + slot)
def b_ct (M : Nat → Bool) : Nat → Nat
  | 0 => 0
  | n + 1 => b_ct M n + (if M n = true then 1 else 0)
theorem b_ctl {M : Nat → Bool} {n : Nat} : b_ct M n ≤ n := by
  induction n with
  | zero => exact Nat.le_refl _
  | succ n ih =>
    show b_ct M n + (if M n = true then 1 else 0) ≤ n + 1
    split <;> omega
theorem ke_count {L : c_L} {K : c_S} {p n : Nat} {slot : Int32} {Q : Int32 → c_S → Prop} (hn : c_I K 1004 p = nI n) (n16 : n ≤ 16) (mk : ∀ i : Nat, i < n → c_mk L 7 (16 * p + i)) (h : Q (nI (b_ct (k_wm K p slot) n)) K) : km_X5_countWaiting L K p slot Q := by
  have lp : ∀ d i : Nat, i + d = n → kl_X5_countWaiting_4 L (d + 1) K p slot (nI (b_ct (k_wm K p slot) i)) (nI i) Q := by
    intro d
    induction d with
    | zero =>
      intro i hi
      obtain rfl : i = n := by omega
      exact ⟨fun _ => h, fun z => absurd (by rw [hn]; exact nI_le (Nat.le_refl _) (by omega)) z⟩
    | succ d ih =>
      intro i hi
      have e1 : ∀ x : Nat, x ≤ 1 → x = (if k_wm K p slot i = true then 1 else 0) → kl_X5_countWaiting_4 L (d + 1) K p slot (nI (b_ct (k_wm K p slot) i) + nI x) (nI i + 1) Q := fun x hx ex => by
        rw [nI_add, nI_1, ex]
        exact ih (i + 1) (by omega)
      refine ⟨fun z => absurd z (by rw [hn]; exact nI_ge (by omega) (by omega)), fun _ => ⟨vp_in_nI (by omega) (by decide), 16 * p + i, ?_, mk i (by omega), ?_⟩⟩
      · rw [nI_clamp (by omega), c_m7 (by omega) (mk i (by omega))]
      · by_cases a : c_I K 1418 (16 * p + i) = slot
        · exact bt_ a (e1 1 (by decide) (by rw [if_pos]; exact decide_eq_true (Or.inl a)))
        · by_cases a2 : c_I K 1418 (16 * p + i) = 64 + slot
          · exact bf_ a (nt_ a2 (e1 1 (by decide) (by rw [if_pos]; exact decide_eq_true (Or.inr a2))))
          · exact bf_ a (nf_ a2 (e1 0 (by decide) (by rw [if_neg]; intro z; exact (of_decide_eq_true z).elim a a2)))
  exact ⟨n + 1, lp n 0 (by omega)⟩
/-- such a wait, in the reference -/
def r_su (R : r_S) (p s k : Nat) (q : Nat) (xs : Int32) : Prop := (s = 0 ∧ xs = 1) ∨ (s = 1 ∧ xs = 2) ∨ (s = 2 ∧ (xs = 3 ∨ xs = 4)) ∨ (s = 3 ∧ xs = 5) ∨ (s = 4 ∧ xs = (if r_A R 2448 (16 * p + k) = 0 then 6 else 7) ∧ r_A R 2480 q = nI k)
theorem wt_193 {B : r_S → Int32 → Int32 → Int32 → Int32 → Int32 → Int32 → Prop} {R : r_S} {x1 x2 x3 x4 x5 : Int32} {q : Nat} {Q : Option Value → r_S → Prop} {c : Prop} (hq : q < 256) (v : Int32) (hv : (c ∧ v = 1) ∨ (¬ c ∧ v = 0)) (m : Nat) (hm : m = 1 ↔ c ∧ r_A R 2479 q = x4) (hm1 : m ≤ 1) (h : B R x1 x2 x3 x4 (x5 + nI m) (nI q + 1)) : rb_X12_wait_193 B R x1 x2 x3 x4 x5 (nI q) v Q := by
  have cq := nI_clamp (n := q) (by omega)
  have m01 : m = 0 ∨ m = 1 := by omega
  rcases hv with ⟨c1, rfl⟩ | ⟨c1, rfl⟩
  · refine ⟨fun z => absurd z (by decide), fun _ => ⟨ri_v rfl hq (by decide), ?_⟩⟩
    rw [cq]
    by_cases e : r_A R 2479 q = x4
    · have : m = 1 := hm.mpr ⟨c1, e⟩
      subst this
      exact nt_ e h
    · rcases m01 with rfl | rfl
      · exact nf_ e h
      · exact absurd (hm.mp rfl).2 e
  · rcases m01 with rfl | rfl
    · exact ⟨fun _ => h, fun z => absurd rfl z⟩
    · exact absurd (hm.mp rfl).1 c1
theorem wt_68 {B : r_S → Int32 → Int32 → Int32 → Int32 → Int32 → Int32 → Prop} {R : r_S} {x4 x5 xs : Int32} {p s k q : Nat} {Q : Option Value → r_S → Prop} (hp : p < 16) (hs : s < 5) (hk : k < 16) (hq : q < 256) (m : Nat) (hm : m = 1 ↔ r_su R p s k q xs ∧ r_A R 2479 q = x4) (hm1 : m ≤ 1) (h : B R (nI p) (nI s) (nI k) x4 (x5 + nI m) (nI q + 1)) : rb_X12_wait_68 B R (nI p) (nI s) (nI k) x4 x5 (nI q) xs Q := by
  have cq := nI_clamp (n := q) (by omega)
  have ck := nI_clamp (n := 16 * p + k) (by omega)
  have g : ∀ v : Int32, (r_su R p s k q xs ∧ v = 1) ∨ (¬ r_su R p s k q xs ∧ v = 0) → rb_X12_wait_193 B R (nI p) (nI s) (nI k) x4 x5 (nI q) v Q := fun v hv => wt_193 hq v hv m hm hm1 h
  have : s = 0 ∨ s = 1 ∨ s = 2 ∨ s = 3 ∨ s = 4 := by omega
  rcases this with rfl | rfl | rfl | rfl | rfl
  · refine nt_ (by decide) ?_
    by_cases e : xs = 1
    · exact nt_ e (g 1 (Or.inl ⟨Or.inl ⟨rfl, e⟩, rfl⟩))
    · exact nf_ e (g 0 (Or.inr ⟨fun z => by rcases z with z | z | z | z | z <;> first | exact e z.2 | exact absurd z.1 (by decide), rfl⟩))
  · refine nf_ (by decide) (nt_ (by decide) ?_)
    by_cases e : xs = 2
    · exact nt_ e (g 1 (Or.inl ⟨Or.inr (Or.inl ⟨rfl, e⟩), rfl⟩))
    · exact nf_ e (g 0 (Or.inr ⟨fun z => by rcases z with z | z | z | z | z <;> first | exact e z.2 | exact absurd z.1 (by decide), rfl⟩))
  · refine nf_ (by decide) (nf_ (by decide) (nt_ (by decide) ?_))
    by_cases e : xs = 3
    · exact bt_ e (g 1 (Or.inl ⟨Or.inr (Or.inr (Or.inl ⟨rfl, Or.inl e⟩)), rfl⟩))
    · by_cases e2 : xs = 4
      · exact bf_ e (nt_ e2 (g 1 (Or.inl ⟨Or.inr (Or.inr (Or.inl ⟨rfl, Or.inr e2⟩)), rfl⟩)))
      · exact bf_ e (nf_ e2 (g 0 (Or.inr ⟨fun z => by rcases z with z | z | z | z | z <;> first | exact z.2.elim e e2 | exact absurd z.1 (by decide), rfl⟩)))
  · refine nf_ (by decide) (nf_ (by decide) (nf_ (by decide) (nt_ (by decide) ?_)))
    by_cases e : xs = 5
    · exact nt_ e (g 1 (Or.inl ⟨Or.inr (Or.inr (Or.inr (Or.inl ⟨rfl, e⟩))), rfl⟩))
    · exact nf_ e (g 0 (Or.inr ⟨fun z => by rcases z with z | z | z | z | z <;> first | exact e z.2 | exact absurd z.1 (by decide), rfl⟩))
  · refine nf_ (by decide) (nf_ (by decide) (nf_ (by decide) (nf_ (by decide) ?_)))
    rw [q_16, ck]
    have g2 : ∀ u : Int32, u = (if r_A R 2448 (16 * p + k) = 0 then 6 else 7) → rb_X12_wait_174 B R (nI p) (nI 4) (nI k) x4 x5 (nI q) xs u Q := fun u hu => by
      by_cases e : xs = u
      · refine nt_ e ⟨ri_v rfl hq (by decide), ?_⟩
        rw [cq]
        by_cases e2 : r_A R 2480 q = nI k
        · exact nt_ e2 (g 1 (Or.inl ⟨Or.inr (Or.inr (Or.inr (Or.inr ⟨rfl, e.trans hu, e2⟩))), rfl⟩))
        · exact nf_ e2 (g 0 (Or.inr ⟨fun z => by rcases z with z | z | z | z | z <;> first | exact e2 z.2.2 | exact absurd z.1 (by decide), rfl⟩))
      · exact nf_ e (g 0 (Or.inr ⟨fun z => by rcases z with z | z | z | z | z <;> first | exact e (z.2.1.trans hu.symm) | exact absurd z.1 (by decide), rfl⟩))
    refine ⟨ri_v (n := 256) rfl (by omega) (by decide), ?_⟩
    by_cases e : r_A R 2448 (16 * p + k) = 0
    · exact bt_ e (g2 6 (by rw [if_pos e]))
    · exact bf_ e (g2 7 (by rw [if_neg e]))
theorem su_n {R : r_S} {p s k q t : Nat} (ht : t < 100) : r_su R p s k q (nI t) ↔ (s = 0 ∧ t = 1) ∨ (s = 1 ∧ t = 2) ∨ (s = 2 ∧ (t = 3 ∨ t = 4)) ∨ (s = 3 ∧ t = 5) ∨ (s = 4 ∧ ((r_A R 2448 (16 * p + k) = 0 ∧ t = 6) ∨ (r_A R 2448 (16 * p + k) ≠ 0 ∧ t = 7)) ∧ r_A R 2480 q = nI k) := by
  have lit : ∀ c : Nat, c < 100 → (nI t = nI c ↔ t = c) := fun c hc => nI_eq (by omega) (by omega)
  unfold r_su
  rw [show (1 : Int32) = nI 1 from rfl, show (2 : Int32) = nI 2 from rfl, show (3 : Int32) = nI 3 from rfl, show (4 : Int32) = nI 4 from rfl, show (5 : Int32) = nI 5 from rfl, show (6 : Int32) = nI 6 from rfl, show (7 : Int32) = nI 7 from rfl, lit 1 (by decide), lit 2 (by decide), lit 3 (by decide), lit 4 (by decide), lit 5 (by decide)]
  by_cases e : r_A R 2448 (16 * p + k) = 0
  · rw [if_pos e, lit 6 (by decide)]
    simp only [e, true_and, ne_eq, not_true_eq_false, false_and, or_false]
  · rw [if_neg e, lit 7 (by decide)]
    simp only [e, false_and, ne_eq, not_false_eq_true, true_and, false_or]
/-- the same waits on both sides -/
theorem wm_eq {b : Nat} {L : c_L} {Z : z_C} {K : c_S} {R : r_S} {p s k i : Nat} (w : WR b L Z K R) (hp : p < z_np Z) (hi : i < z_nq Z p) (hs : s < 5) (hk : k < z_nt Z p s) : (c_I K 1418 (16 * p + i) = nI (8 * s + k) ∨ c_I K 1418 (16 * p + i) = 64 + nI (8 * s + k)) ↔ (r_su R p s k (16 * p + i) (if r_A R 2467 (16 * p + i) = 2 then r_A R 2478 (16 * p + i) else 0) ∧ r_A R 2479 (16 * p + i) = (if s = 4 then r_A R 2450 (16 * p + k) else nI (8 * p + k))) := by
  have np16 := CQ_np (WR_cq w)
  have nts := (CT_n (WR_ct w) hp hs).1
  have nt := (CT_n (WR_ct w) hp (s := 4) (by decide)).1
  rw [if_pos rfl] at nt
  have k16 : k < 16 ∧ (s ≠ 4 → k < 8) := by
    by_cases e : s = 4
    · rw [if_pos e] at nts; omega
    · rw [if_neg e] at nts; omega
  have lit : ∀ a c : Nat, a < 1000 → c < 1000 → (nI a = nI c ↔ a = c) := fun a c ha hc => nI_eq (by omega) (by omega)
  rw [show (64 : Int32) = nI 64 from rfl, nI_add]
  rcases wc_cases w hp hi with ⟨h1, h2⟩ | ⟨h1, ⟨h2, h3⟩ | ⟨s', k', hs', hk', h2, h4, h3⟩ | ⟨a, ha, h2, h4, h5, h6, h3⟩ | ⟨a, ha, h2, h4, h5, h6, h3⟩ | ⟨h2, h3⟩⟩
  · rw [h2, if_neg h1, show (0 : Int32) = nI 0 from rfl, su_n (by decide)]
    refine ⟨fun z => ?_, fun z => by omega⟩
    rcases z with z | z
    · exact absurd z.symm (nI_m1 (by omega))
    · exact absurd z.symm (nI_m1 (by omega))
  · rw [h3, if_pos h1, h2, show (0 : Int32) = nI 0 from rfl, su_n (by decide), lit _ _ (by decide) (by omega), lit _ _ (by decide) (by omega)]
    omega
  · have bc : b_co s' = (if s' = 1 then 0 else if s' = 2 then 8 else if s' = 3 then 16 else if s' = 4 then 80 else 24) := rfl
    have b80 := b_co80 (s := s')
    rw [h3, if_pos h1, h2, su_n (by omega), lit _ _ (by omega) (by omega), lit _ _ (by omega) (by omega), h4, bc]
    by_cases e : s = 4
    · subst e
      rw [if_pos rfl]
      refine ⟨fun z => ?_, fun z => by omega⟩
      exfalso
      split at z
      · omega
      · split at z
        · omega
        · split at z
          · omega
          · split at z <;> omega
    · rw [if_neg e, lit _ _ (by omega) (by omega)]
      have k8 := k16.2 e
      split
      · omega
      · split
        · omega
        · split
          · omega
          · split <;> omega
  · rw [h3, if_pos h1, h2, su_n (by decide), lit _ _ (by omega) (by omega), lit _ _ (by omega) (by omega), h4, lit _ _ (by omega) (by omega), h5]
    by_cases e : s = 4 ∧ a = k
    · obtain ⟨e1, e2⟩ := e
      subst e1 e2
      rw [if_pos rfl]
      exact ⟨fun _ => ⟨Or.inr (Or.inr (Or.inr (Or.inr ⟨rfl, Or.inl ⟨h6, rfl⟩, rfl⟩))), rfl⟩, fun _ => Or.inl (by omega)⟩
    · refine ⟨fun z => by omega, fun z => ?_⟩
      have := z.1
      omega
  · rw [h3, if_pos h1, h2, su_n (by decide), lit _ _ (by omega) (by omega), lit _ _ (by omega) (by omega), h4, lit _ _ (by omega) (by omega), h5]
    by_cases e : s = 4 ∧ a = k
    · obtain ⟨e1, e2⟩ := e
      subst e1 e2
      rw [if_pos rfl]
      have n0 : ¬ r_A R 2448 (16 * p + a) = 0 := by rw [h6]; decide
      exact ⟨fun _ => ⟨Or.inr (Or.inr (Or.inr (Or.inr ⟨rfl, Or.inr ⟨n0, rfl⟩, rfl⟩))), rfl⟩, fun _ => Or.inr (by omega)⟩
    · refine ⟨fun z => by omega, fun z => ?_⟩
      have := z.1
      omega
  · rw [h3, if_pos h1, h2, su_n (by decide), lit _ _ (by decide) (by omega), lit _ _ (by decide) (by omega)]
    omega
theorem re_wait {b : Nat} {L : c_L} {Z : z_C} {K : c_S} {R : r_S} {p s k : Nat} {Q : Option Value → r_S → Prop} (w : WR b L Z K R) (hp : p < z_np Z) (hs : s < 5) (hk : k < z_nt Z p s) (h : Q (some (.int (nI (b_ct (k_wm K p (nI (8 * s + k))) (z_nq Z p))))) R) : rm_X12_wait R (nI p) (nI s) (nI k) Q := by
  have cq := WR_cq w
  have np16 := CQ_np cq
  have n16 := CQ_nq cq p hp
  obtain ⟨-, -, -, hn2⟩ := CQ_p cq hp
  have nts := (CT_n (WR_ct w) hp hs).1
  have k16 : k < 16 ∧ (s ≠ 4 → k < 8) := by
    by_cases e : s = 4
    · rw [if_pos e] at nts; omega
    · rw [if_neg e] at nts; omega
  have lp : ∀ th : Int32, th = (if s = 4 then r_A R 2450 (16 * p + k) else nI (8 * p + k)) → ∀ d i : Nat, i + d = z_nq Z p → rl_X12_wait_36 (d + 1) R (nI p) (nI s) (nI k) th (nI (b_ct (k_wm K p (nI (8 * s + k))) i)) (nI (16 * p + i)) Q := by
    intro th eth d
    induction d with
    | zero =>
      intro i hi
      obtain rfl : i = z_nq Z p := by omega
      rw [rl_X12_wait_36, rb_X12_wait_36]
      exact re_lastOf (by omega) hn2 ⟨_, rfl, fun _ => h, fun z => absurd (nI_le (Nat.le_refl _) (by omega)) z⟩
    | succ d ih =>
      intro i hi
      have ci := nI_clamp (n := 16 * p + i) (by omega)
      rw [rl_X12_wait_36, rb_X12_wait_36]
      refine re_lastOf (by omega) hn2 ⟨_, rfl, fun z => absurd z (nI_ge (by omega) (by omega)), fun _ => ⟨ri_v (n := 256) rfl (by omega) (by decide), ?_⟩⟩
      rw [ci]
      have eqv := wm_eq w hp (show i < z_nq Z p by omega) hs hk
      rw [← eth] at eqv
      have st : ∀ xs : Int32, xs = (if r_A R 2467 (16 * p + i) = 2 then r_A R 2478 (16 * p + i) else 0) → rb_X12_wait_68 (fun S x1 x2 x3 x4 x5 x6 => rl_X12_wait_36 (d + 1) S x1 x2 x3 x4 x5 x6 Q) R (nI p) (nI s) (nI k) th (nI (b_ct (k_wm K p (nI (8 * s + k))) i)) (nI (16 * p + i)) xs Q := fun xs ex => by
        rw [← ex] at eqv
        refine wt_68 (by omega) hs k16.1 (by omega) (if k_wm K p (nI (8 * s + k)) i = true then 1 else 0) ?_ (by split <;> omega) ?_
        · rw [← eqv]
          by_cases c : k_wm K p (nI (8 * s + k)) i = true
          · rw [if_pos c]; exact ⟨fun _ => of_decide_eq_true c, fun _ => rfl⟩
          · rw [if_neg c]; exact ⟨fun z => absurd z (by decide), fun z => absurd (decide_eq_true z) c⟩
        · rw [nI_add, nI_1]
          exact ih (i + 1) (by omega)
      by_cases c2 : r_A R 2467 (16 * p + i) = 2
      · exact nt_ c2 ⟨ri_v (n := 256) rfl (by omega) (by decide), st _ (by rw [if_pos c2])⟩
      · exact nf_ c2 (st _ (by rw [if_neg c2]))
  have e16 : (16 : Int32) * nI p = nI (16 * p + 0) := by rw [show (16 : Int32) = nI 16 from rfl, pk_mul]; rfl
  have go : ∀ th : Int32, th = (if s = 4 then r_A R 2450 (16 * p + k) else nI (8 * p + k)) → rb_X12_wait_25 R (nI p) (nI s) (nI k) th Q := fun th eth => ⟨z_nq Z p + 1, by rw [e16]; exact lp th eth (z_nq Z p) 0 (by omega)⟩
  by_cases e : s = 4
  · subst e
    refine nt_ rfl ?_
    rw [q_16, nI_clamp (by omega)]
    exact ⟨ri_v (n := 256) rfl (by omega) (by decide), go _ (by rw [if_pos rfl])⟩
  · refine nf_ (fun z => e ((nI_eq (by omega) (by decide)).mp (z.trans (show (4 : Int32) = nI 4 from rfl)))) ?_
    rw [q_8]
    exact go _ (by rw [if_neg e])
