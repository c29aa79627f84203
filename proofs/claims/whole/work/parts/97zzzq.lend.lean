/-! The reference's end of load. -/
def TG1 (p c0 k : Nat) (R R' : r_S) : Prop := (∀ f : Nat, r_I R' f = r_I R f) ∧ (∀ f i : Nat, ¬ ((f = 2492 ∨ f = 2493 ∨ f = 2494 ∨ f = 2496) ∧ i / 8 = p) → r_A R' f i = r_A R f i) ∧ ∀ i : Nat, i < k → r_A R' 2492 (8 * p + i) = (if i < c0 then r_A R 2443 (8 * p + i) else 0) ∧ r_A R' 2493 (8 * p + i) = 0 ∧ r_A R' 2494 (8 * p + i) = 0 ∧ r_A R' 2496 (8 * p + i) = 0
theorem re_tgs {R : r_S} {p c0 : Nat} {Q : Option Value → r_S → Prop} (p16 : p < 16) (h0 : r_A R 2435 (6 * p) = nI c0) (c8 : c0 ≤ 8) (hQ : ∀ R' : r_S, TG1 p c0 8 R R' → Q none R') : rm_X12_things R (nI p) Q := by
  have e8 : (8 : Int32) * nI p = nI (8 * p) := by rw [show (8 : Int32) = nI 8 from rfl, pk_mul]
  have e6 : (6 : Int32) * nI p = nI (6 * p) := by rw [show (6 : Int32) = nI 6 from rfl, pk_mul]
  have e88 : nI (8 * p) + (8 : Int32) = nI (8 * p + 8) := by rw [show (8 : Int32) = nI 8 from rfl, nI_add]
  have lp : ∀ (d k : Nat) (R1 : r_S), k + d = 8 → TG1 p c0 k R R1 → rl_X12_things_5 (d + 1) R1 (nI p) (nI (8 * p + k)) Q := by
    intro d
    induction d with
    | zero =>
      intro k R1 hk tg
      have : k = 8 := by omega
      subst this
      show rb_X12_things_5 _ R1 (nI p) (nI (8 * p + 8)) Q
      unfold rb_X12_things_5
      rw [e8, e88]
      exact bt_ (nI_le (Nat.le_refl _) (by omega)) (hQ R1 tg)
    | succ d ih =>
      intro k R1 hk tg
      show rb_X12_things_5 (fun S x1 x2 => rl_X12_things_5 (d + 1) S x1 x2 Q) R1 (nI p) (nI (8 * p + k)) Q
      have vj : ∀ f : Nat, r_N f = 128 → vp_in (nI (8 * p + k)) (r_N f) := fun f e => by rw [e]; exact vp_in_nI (by omega) (by decide)
      have cj : (nI (8 * p + k)).toNatClampNeg = 8 * p + k := nI_clamp (by omega)
      have go : ∀ v : Int32, v = (if k < c0 then r_A R 2443 (8 * p + k) else 0) → rb_X12_things_49 (fun S x1 x2 => rl_X12_things_5 (d + 1) S x1 x2 Q) R1 (nI p) (nI (8 * p + k)) (nI (8 * p + k)) v Q := fun v hv => by
        unfold rb_X12_things_49
        rw [cj, nI_1]
        refine ⟨vj _ rfl, vj _ rfl, vj _ rfl, fun S14 e => ?_⟩
        rw [e]
        refine ⟨vj _ rfl, ?_⟩
        refine ih (k + 1) (ws R1 (8 * p + k) [(2492, v), (2493, 0), (2494, 0), (2496, 0)]) (by omega) ⟨fun f => ws_I.trans (tg.1 f), fun f i hn => ?_, fun i hi => ?_⟩
        · rw [ws_A]
          by_cases y : i = 8 * p + k
          · have h1 : f ≠ 2492 ∧ f ≠ 2493 ∧ f ≠ 2494 ∧ f ≠ 2496 := by
              have : i / 8 = p := by omega
              omega
            rw [if_pos y]
            show (if f = 2496 then (0 : Int32) else if f = 2494 then 0 else if f = 2493 then 0 else if f = 2492 then v else r_A R1 f i) = _
            rw [if_neg h1.2.2.2, if_neg h1.2.2.1, if_neg h1.2.1, if_neg h1.1]
            exact tg.2.1 f i hn
          · rw [if_neg y]
            exact tg.2.1 f i hn
        · rw [ws_A, ws_A, ws_A, ws_A]
          by_cases y : i = k
          · subst y
            rw [if_pos rfl, if_pos rfl, if_pos rfl, if_pos rfl]
            exact ⟨hv, rfl, rfl, rfl⟩
          · have n : ¬ 8 * p + i = 8 * p + k := by omega
            rw [if_neg n, if_neg n, if_neg n, if_neg n]
            exact tg.2.2 i (by omega)
      unfold rb_X12_things_5
      rw [e8, e88, e6, nI_clamp (n := 6 * p) (by omega), nI_sub (a := 8 * p + k) (b := 8 * p) (by omega), show 8 * p + k - 8 * p = k by omega, tg.2.1 2435 (6 * p) (by omega), h0]
      refine bf_ (nI_ge (by omega) (by omega)) ⟨vp_in_nI (N := 96) (by omega) (by decide), ?_⟩
      by_cases y : c0 ≤ k
      · exact bt_ (nI_le y (by omega)) (go 0 (if_neg (by omega)).symm)
      · refine bf_ (nI_ge (by omega) (by omega)) ⟨vj _ rfl, ?_⟩
        rw [cj, tg.2.1 2443 _ (by omega)]
        exact go _ (if_pos (by omega)).symm
  refine ⟨9, ?_⟩
  rw [e8]
  exact lp 8 0 R rfl ⟨fun _ => rfl, fun _ _ _ => rfl, fun i hi => absurd hi (Nat.not_lt_zero i)⟩
def TG2 (p k : Nat) (R R' : r_S) : Prop := (∀ f : Nat, r_I R' f = r_I R f) ∧ (∀ f i : Nat, ¬ (f = 2469 ∧ i / 16 = p) → r_A R' f i = r_A R f i) ∧ ∀ j : Nat, j < k → r_A R' 2469 (16 * p + j) = r_A R 2437 (16 * p + j)
theorem re_143 {R : r_S} {p c5 : Nat} {B125 : r_S → Int32 → Prop} {Q : Option Value → r_S → Prop} (p16 : p < 16) (h5 : r_A R 2435 (6 * p + 5) = nI c5) (c16 : c5 ≤ 16) (hB : ∀ R' : r_S, TG2 p c5 R R' → B125 R' (nI (p + 1))) : rl_X12_load_143 B125 (c5 + 1) R (nI p) (nI (16 * p)) Q := by
  have e16 : (16 : Int32) * nI p = nI (16 * p) := by rw [show (16 : Int32) = nI 16 from rfl, pk_mul]
  have e65 : (6 : Int32) * nI p + 5 = nI (6 * p + 5) := by rw [show (6 : Int32) = nI 6 from rfl, show (5 : Int32) = nI 5 from rfl, pk_mul, nI_add]
  have lp : ∀ (d k : Nat) (R1 : r_S), k + d = c5 → TG2 p k R R1 → rl_X12_load_143 B125 (d + 1) R1 (nI p) (nI (16 * p + k)) Q := by
    intro d
    induction d with
    | zero =>
      intro k R1 hk tg
      have : k = c5 := by omega
      subst this
      show rb_X12_load_143 B125 _ R1 (nI p) (nI (16 * p + k)) Q
      unfold rb_X12_load_143
      rw [e65, e16, nI_clamp (n := 6 * p + 5) (by omega), tg.2.1 2435 (6 * p + 5) (by omega), h5, nI_add, nI_1]
      exact ⟨vp_in_nI (N := 96) (by omega) (by decide), bt_ (nI_le (Nat.le_refl _) (by omega)) (hB R1 tg)⟩
    | succ d ih =>
      intro k R1 hk tg
      show rb_X12_load_143 B125 (fun S x1 x2 => rl_X12_load_143 B125 (d + 1) S x1 x2 Q) R1 (nI p) (nI (16 * p + k)) Q
      unfold rb_X12_load_143
      rw [e65, e16, nI_clamp (n := 6 * p + 5) (by omega), tg.2.1 2435 (6 * p + 5) (by omega), h5, nI_add, nI_clamp (n := 16 * p + k) (by omega), nI_1 (a := 16 * p + k)]
      refine ⟨vp_in_nI (N := 96) (by omega) (by decide), bf_ (nI_ge (by omega) (by omega)) ⟨vp_in_nI (N := 256) (by omega) (by decide), vp_in_nI (N := 256) (by omega) (by decide), ?_⟩⟩
      refine ih (k + 1) _ (by omega) ⟨fun f => tg.1 f, fun f i hn => ?_, fun j hj => ?_⟩
      · rw [r_AA, if_neg (fun z => hn ⟨z.1, by rw [z.2]; omega⟩)]
        exact tg.2.1 f i hn
      · rw [r_AA]
        by_cases y : j = k
        · rw [if_pos ⟨rfl, by omega⟩, y]
          exact tg.2.1 _ _ (by omega)
        · rw [if_neg (by omega)]
          exact tg.2.2 j (by omega)
  exact lp c5 0 R (by omega) ⟨fun _ => rfl, fun _ _ _ => rfl, fun i hi => absurd hi (Nat.not_lt_zero i)⟩
/-- what load's end has done for the partitions before k -/
def EN (k : Nat) (c0 c5 : Nat → Nat) (R R' : r_S) : Prop := (∀ f : Nat, r_I R' f = r_I R f) ∧ (∀ f i : Nat, ¬ (f = 2492 ∨ f = 2493 ∨ f = 2494 ∨ f = 2496 ∨ f = 2469) → r_A R' f i = r_A R f i) ∧ (∀ p i : Nat, p < k → i < 8 → r_A R' 2492 (8 * p + i) = (if i < c0 p then r_A R 2443 (8 * p + i) else 0) ∧ r_A R' 2493 (8 * p + i) = 0 ∧ r_A R' 2494 (8 * p + i) = 0 ∧ r_A R' 2496 (8 * p + i) = 0) ∧ ∀ p j : Nat, p < k → j < c5 p → r_A R' 2469 (16 * p + j) = r_A R 2437 (16 * p + j)
theorem re_125 {R : r_S} {np : Nat} {c0 c5 : Nat → Nat} {Q : Option Value → r_S → Prop} (np16 : np ≤ 16) (h15 : r_I R 2415 = nI np) (h13 : ¬ r_I R 2413 = 0) (hc : ∀ p : Nat, p < np → r_A R 2435 (6 * p) = nI (c0 p) ∧ r_A R 2435 (6 * p + 5) = nI (c5 p) ∧ c0 p ≤ 8 ∧ c5 p ≤ 16) (hQ : ∀ R' : r_S, EN np c0 c5 R R' → Q (some (.int (nI np))) (rs_I R' 2400 0)) : ∀ (d k : Nat) (R1 : r_S), k + d = np → EN k c0 c5 R R1 → rl_X12_load_125 (d + 1) R1 (nI k) Q := by
  intro d
  induction d with
  | zero =>
    intro k R1 hk en
    have : k = np := by omega
    subst this
    show rb_X12_load_125 _ R1 (nI k) Q
    unfold rb_X12_load_125
    rw [en.1 2415, h15, en.1 2413]
    refine bt_ (nI_le (Nat.le_refl _) (by omega)) (bf_ h13 ?_)
    have e13 : ¬ r_I (rs_I R1 2400 0) 2413 = 0 := fun z => h13 ((en.1 2413).symm.trans z)
    have e15 : r_I (rs_I R1 2400 0) 2415 = nI k := (en.1 2415).trans h15
    refine bf_ e13 ?_
    rw [e15]
    exact hQ R1 en
  | succ d ih =>
    intro k R1 hk en
    obtain ⟨a1, a2, a3, a4⟩ := hc k (by omega)
    show rb_X12_load_125 (fun S x => rl_X12_load_125 (d + 1) S x Q) R1 (nI k) Q
    unfold rb_X12_load_125
    rw [en.1 2415, h15]
    refine bf_ (nI_ge (by omega) (by omega)) (re_tgs (by omega) ((en.2.1 _ _ (by decide)).trans a1) a3 (fun R2 t2 => ⟨rfl, c5 k + 1, ?_⟩))
    rw [show (16 : Int32) * nI k = nI (16 * k) by rw [show (16 : Int32) = nI 16 from rfl, pk_mul]]
    refine re_143 (by omega) ((t2.2.1 _ _ (by omega)).trans ((en.2.1 _ _ (by decide)).trans a2)) a4 (fun R3 t3 => ih (k + 1) R3 (by omega) ⟨fun f => (t3.1 f).trans ((t2.1 f).trans (en.1 f)), fun f i hn => ?_, fun p i hp hi => ?_, fun p j hp hj => ?_⟩)
    · rw [t3.2.1 f i (by omega), t2.2.1 f i (by omega)]
      exact en.2.1 f i hn
    · rw [t3.2.1 2492 _ (by omega), t3.2.1 2493 _ (by omega), t3.2.1 2494 _ (by omega), t3.2.1 2496 _ (by omega)]
      by_cases y : p = k
      · subst y
        have := t2.2.2 i hi
        rw [en.2.1 2443 _ (by decide)] at this
        exact this
      · rw [t2.2.1 2492 _ (by omega), t2.2.1 2493 _ (by omega), t2.2.1 2494 _ (by omega), t2.2.1 2496 _ (by omega)]
        exact en.2.2.1 p i (by omega) hi
    · by_cases y : p = k
      · subst y
        rw [t3.2.2 j hj, t2.2.1 2437 _ (by omega)]
        exact en.2.1 _ _ (by decide)
      · have c16 := (hc p (by omega)).2.2.2
        rw [t3.2.1 2469 _ (by omega), t2.2.1 2469 _ (by omega)]
        exact en.2.2.2 p j (by omega) hj
theorem re_88_1 {R : r_S} {np : Nat} {c0 c5 : Nat → Nat} {Q : Option Value → r_S → Prop} (np16 : np ≤ 16) (h15 : r_I R 2415 = nI np) (hc : ∀ p : Nat, p < np → r_A R 2435 (6 * p) = nI (c0 p) ∧ r_A R 2435 (6 * p + 5) = nI (c5 p) ∧ c0 p ≤ 8 ∧ c5 p ≤ 16) (hQ : ∀ R' : r_S, EN np c0 c5 (rs_I R 2413 1) R' → Q (some (.int (nI np))) (rs_I R' 2400 0)) : rb_X12_load_88 R 1 Q := by
  refine ⟨nfb (Or.inr rfl), nf_ (by rw [r_II, if_pos rfl]; decide) ⟨np + 1, ?_⟩⟩
  exact re_125 (R := rs_I R 2413 1) np16 ((r_II.trans (if_neg (by decide))).trans h15) (by rw [r_II, if_pos rfl]; decide) hc hQ np 0 _ (by omega) ⟨fun _ => rfl, fun _ _ _ => rfl, fun p i hp => absurd hp (Nat.not_lt_zero p), fun p j hp => absurd hp (Nat.not_lt_zero p)⟩
/-- the reference when load has thrown -/
def r_thr (R : r_S) : r_S := rs_I (rs_I (rs_I (rs_I (rs_I (rs_I (rs_I R 2413 0) 2415 0) 2416 0) 2417 0) 2418 0) 2419 0) 2400 1
theorem re_88_0 {R : r_S} {Q : Option Value → r_S → Prop} (hQ : Q (some (.int 0)) (r_thr R)) : rb_X12_load_88 R 0 Q := by
  refine ⟨nfb (Or.inl rfl), nt_ rfl (fun S29 e29 S30 e30 => ⟨1, ?_⟩)⟩
  rw [e30, e29]
  show rb_X12_load_125 _ _ 0 Q
  unfold rb_X12_load_125
  exact bt_ (show (0 : Int32) ≤ 0 by decide) (bt_ rfl (bt_ rfl hQ))
