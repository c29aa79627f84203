/-! Reading: a name's letters. -/
theorem re_isLetter {R : r_S} {x : Int32} {Q : Option Value → r_S → Prop} (h : Q (some (.int (if 97 ≤ x ∧ x ≤ 122 then 1 else 0))) R) : rm_X12_isLetter R x Q := by
  by_cases c1 : x < 97
  · rw [if_neg (fun z => i_nlt.mpr z.1 c1)] at h
    exact bt_ c1 ⟨nb_0, h⟩
  · by_cases c2 : x ≤ 122
    · rw [if_pos ⟨i_nlt.mp c1, c2⟩] at h
      exact bf_ c1 (bf_ (i_nlt.mpr c2) ⟨nb_1, h⟩)
    · rw [if_neg (fun z => c2 z.2)] at h
      exact bf_ c1 (bt_ (i_nle.mp c2) ⟨nb_0, h⟩)
theorem n_d0 {x : Int32} : n_d x ≠ 0 ↔ (97 ≤ x ∧ x ≤ 122) ∨ (48 ≤ x ∧ x ≤ 57) := by
  unfold n_d
  by_cases c1 : 97 ≤ x ∧ x ≤ 122
  · rw [if_pos c1]
    refine ⟨fun _ => Or.inl c1, fun _ z => ?_⟩
    have a1 := i_le.mp c1.1
    have a2 := i_le.mp c1.2
    rw [show (97 : Int32).toInt = 97 from rfl] at a1
    rw [show (122 : Int32).toInt = 122 from rfl] at a2
    have e := congrArg Int32.toInt z
    rw [Int32.toInt_add, Int32.toInt_sub, show (97 : Int32).toInt = 97 from rfl, show (1 : Int32).toInt = 1 from rfl, show (0 : Int32).toInt = 0 from rfl] at e
    rw [Int.bmod_eq_of_le (n := x.toInt - 97) (by omega) (by omega), Int.bmod_eq_of_le (by omega) (by omega)] at e
    omega
  · rw [if_neg c1]
    by_cases c2 : 48 ≤ x ∧ x ≤ 57
    · rw [if_pos c2]
      refine ⟨fun _ => Or.inr c2, fun _ z => ?_⟩
      have a1 := i_le.mp c2.1
      have a2 := i_le.mp c2.2
      rw [show (48 : Int32).toInt = 48 from rfl] at a1
      rw [show (57 : Int32).toInt = 57 from rfl] at a2
      have e := congrArg Int32.toInt z
      rw [Int32.toInt_add, Int32.toInt_sub, show (48 : Int32).toInt = 48 from rfl, show (27 : Int32).toInt = 27 from rfl, show (0 : Int32).toInt = 0 from rfl] at e
      rw [Int.bmod_eq_of_le (n := x.toInt - 48) (by omega) (by omega), Int.bmod_eq_of_le (by omega) (by omega)] at e
      omega
    · rw [if_neg c2]
      exact ⟨fun z => absurd rfl z, fun z => z.elim (fun z => absurd z c1) (fun z => absurd z c2)⟩
def k_nw (K : c_S) (a : Nat) (w : Int64) : c_S := cs_I (cs_J K 1810 0 w) 1807 0 (nI a)
theorem k_nw_c {K : c_S} {a a' : Nat} {w w' : Int64} : k_nw (k_nw K a w) a' w' = k_nw K a' w' := by
  refine Prod.ext (funext fun f => funext fun i => ?_) (Prod.ext (funext fun f => funext fun i => ?_) rfl)
  · show (if f = 1807 ∧ i = 0 then nI a' else if f = 1807 ∧ i = 0 then nI a else K.1 f i) = (if f = 1807 ∧ i = 0 then nI a' else K.1 f i)
    split <;> rfl
  · show (if f = 1810 ∧ i = 0 then w' else if f = 1810 ∧ i = 0 then w else K.2.1 f i) = (if f = 1810 ∧ i = 0 then w' else K.2.1 f i)
    split <;> rfl
theorem k_nw_i {K : c_S} {a : Nat} {w : Int64} (k7 : c_I K 1807 0 = nI a) (k10 : c_J K 1810 0 = w) : k_nw K a w = K := by
  refine Prod.ext (funext fun f => funext fun i => ?_) (Prod.ext (funext fun f => funext fun i => ?_) rfl)
  · show (if f = 1807 ∧ i = 0 then nI a else K.1 f i) = K.1 f i
    by_cases c : f = 1807 ∧ i = 0
    · rw [if_pos c, c.1, c.2]; exact k7.symm
    · rw [if_neg c]
  · show (if f = 1810 ∧ i = 0 then w else K.2.1 f i) = K.2.1 f i
    by_cases c : f = 1810 ∧ i = 0
    · rw [if_pos c, c.1, c.2]; exact k10.symm
    · rw [if_neg c]
theorem r_5c {R : r_S} {x y : Int32} : rs_I (rs_I R 2405 x) 2405 y = rs_I R 2405 y := by
  refine Prod.ext (funext fun f => ?_) rfl
  show (if f = 2405 then y else if f = 2405 then x else R.1 f) = (if f = 2405 then y else R.1 f)
  split <;> rfl
theorem r_5i {R : r_S} {x : Int32} (h : r_I R 2405 = x) : rs_I R 2405 x = R := by
  refine Prod.ext (funext fun f => ?_) rfl
  show (if f = 2405 then x else R.1 f) = R.1 f
  by_cases c : f = 2405
  · rw [if_pos c, c]; exact h.symm
  · rw [if_neg c]
/-- what the reference does behind the last letter -/
def r_nt (R : r_S) (Q : Option Value → r_S → Prop) : Prop := rm_X12_numberOf (rs_I R 2410 ((r_I R 2405) - (r_I R 2409))) 12 (fun r26_ S27_ => ∃ x28_ : Int32, r26_ = some (.int x28_) ∧ (((r_I (rs_I S27_ 2408 x28_) 2410) ≤ (12 : Int32) → (((r_I (rs_I S27_ 2408 x28_) 2408) < 0 → (rb_X12_next_197 (rs_I S27_ 2408 x28_) (1 : Int32) Q)) ∧ (¬ (r_I (rs_I S27_ 2408 x28_) 2408) < 0 → (rb_X12_next_197 (rs_I S27_ 2408 x28_) (4 : Int32) Q)))) ∧ (¬ (r_I (rs_I S27_ 2408 x28_) 2410) ≤ (12 : Int32) → (rb_X12_next_197 (rs_I S27_ 2408 x28_) (5 : Int32) Q))))
/-- a name's letters, read on both sides to the same place -/
theorem P_nm {L : c_L} {B p : Nat} {l : Nat → Int32} : ∀ (d a : Nat) (K : c_S) (R : r_S), TXr B K R → (∀ x : Nat, l x = r_A R 2402 (p + x)) → a + d = B → p ≤ a → c_I K 1807 0 = nI a → c_J K 1810 0 = n_v l (a - p) → r_I R 2405 = nI a → (∀ x : Nat, x < a - p → n_d (l x) ≠ 0) → ∃ a' : Nat, (∀ Q : c_S → Prop, kb_X9_scanName_70 L (k_nw K a' (n_v l (a' - p))) 0 Q → kl_X9_scanName_5 L (d + 1) K 0 Q) ∧ (∀ Q : Option Value → r_S → Prop, r_nt (rs_I R 2405 (nI a')) Q → rl_X12_next_104 (d + 1) R Q) ∧ a ≤ a' ∧ a' ≤ B ∧ (∀ x : Nat, x < a' - p → n_d (l x) ≠ 0) ∧ (a' < B → n_d (r_A R 2402 a') = 0) := by
  have stop : ∀ (d a : Nat) (K : c_S) (R : r_S), TXr B K R → (∀ x : Nat, l x = r_A R 2402 (p + x)) → a ≤ B → p ≤ a → c_I K 1807 0 = nI a → c_J K 1810 0 = n_v l (a - p) → r_I R 2405 = nI a → (∀ x : Nat, x < a - p → n_d (l x) ≠ 0) → (a < B → n_d (r_A R 2402 a) = 0) → ∃ a' : Nat, (∀ Q : c_S → Prop, kb_X9_scanName_70 L (k_nw K a' (n_v l (a' - p))) 0 Q → kl_X9_scanName_5 L (d + 1) K 0 Q) ∧ (∀ Q : Option Value → r_S → Prop, r_nt (rs_I R 2405 (nI a')) Q → rl_X12_next_104 (d + 1) R Q) ∧ a ≤ a' ∧ a' ≤ B ∧ (∀ x : Nat, x < a' - p → n_d (l x) ≠ 0) ∧ (a' < B → n_d (r_A R 2402 a') = 0) := by
    intro d a K R t hl hd hp k7 k10 r5 hx nd
    have b4 := t.1
    have ca := nI_clamp (n := a) (by omega)
    refine ⟨a, fun Q hQ => ?_, fun Q hQ => ?_, Nat.le_refl _, hd, hx, nd⟩
    · rw [k_nw_i k7 k10] at hQ
      by_cases cb : a < B
      · refine bf_ (by rw [t.2.1, k7]; exact nI_ge cb (by omega)) ?_
        rw [k7, ca, t.2.2.2 a]
        exact ⟨vp_in_nI (by omega) (by decide), ke_nameDigit (bt_ (nd cb) hQ)⟩
      · exact bt_ (by rw [t.2.1, k7]; exact nI_le (by omega) (by omega)) hQ
    · rw [r_5i r5] at hQ
      have nl : ¬ (97 ≤ (if a < B then r_A R 2402 a else -1) ∧ (if a < B then r_A R 2402 a else -1) ≤ (122 : Int32)) ∧ ¬ (48 ≤ (if a < B then r_A R 2402 a else -1) ∧ (if a < B then r_A R 2402 a else -1) ≤ (57 : Int32)) := by
        by_cases cb : a < B
        · rw [if_pos cb]
          exact ⟨fun z => n_d0.mpr (Or.inl z) (nd cb), fun z => n_d0.mpr (Or.inr z) (nd cb)⟩
        · rw [if_neg cb]; decide
      rw [rl_X12_next_104, rb_X12_next_104, r5]
      refine re_byteAt t hd ⟨_, rfl, re_isLetter ⟨_, rfl, nt_ (if_neg nl.1) ?_⟩⟩
      rw [r5]
      exact re_byteAt t hd ⟨_, rfl, re_isDigit ⟨_, rfl, bt_ (if_neg nl.2) hQ⟩⟩
  intro d
  induction d with
  | zero =>
    intro a K R t hl hd hp k7 k10 r5 hx
    exact stop 0 a K R t hl (by omega) hp k7 k10 r5 hx (fun z => by omega)
  | succ d ih =>
    intro a K R t hl hd hp k7 k10 r5 hx
    by_cases dg : n_d (r_A R 2402 a) = 0
    case pos => exact stop (d + 1) a K R t hl (by omega) hp k7 k10 r5 hx (fun _ => dg)
    case neg =>
      have b4 := t.1
      have cb : a < B := by omega
      have ca := nI_clamp (n := a) (by omega)
      have va : vp_in (nI a) 4000 := vp_in_nI (by omega) (by decide)
      have la : l (a - p) = r_A R 2402 a := by rw [hl, show p + (a - p) = a by omega]
      have nv : n_v l (a + 1 - p) = n_v l (a - p) * 37 + (n_d (r_A R 2402 a)).toInt64 := by
        rw [show a + 1 - p = (a - p) + 1 by omega, ← la]
        rfl
      obtain ⟨a', h1, h2, h3, h4, h5, h6⟩ := ih (a + 1) (k_nw K (a + 1) (n_v l (a + 1 - p))) (rs_I R 2405 (nI (a + 1))) t hl (by omega) (by omega) rfl rfl rfl (fun x hx' => by
        by_cases c : x = a - p
        · rw [c, la]; exact dg
        · exact hx x (by omega))
      refine ⟨a', fun Q hQ => ?_, fun Q hQ => ?_, by omega, h4, h5, h6⟩
      · have nx := h1 Q (by rw [k_nw_c]; exact hQ)
        refine bf_ (by rw [t.2.1, k7]; exact nI_ge cb (by omega)) ?_
        rw [k7, ca, t.2.2.2 a]
        refine ⟨va, ke_nameDigit (bf_ dg ?_)⟩
        rw [k7, ca, t.2.2.2 a]
        refine ⟨va, ke_nameDigit (fun S eS => ?_)⟩
        have : S = k_nw K (a + 1) (n_v l (a + 1 - p)) := by
          rw [eS, k10, ← nv]
          rw [show c_I (cs_J K 1810 0 (n_v l (a + 1 - p))) 1807 0 = nI a from k7, nI_1]
          rfl
        rw [this]
        exact nx
      · have nx := h2 Q (by rw [r_5c]; exact hQ)
        have n134 : rb_X12_next_134 (fun S => rl_X12_next_104 (d + 1) S Q) R Q := by
          unfold rb_X12_next_134
          rw [r5, nI_1]
          exact nx
        rw [rl_X12_next_104, rb_X12_next_104, r5]
        refine re_byteAt t (by omega) ⟨_, rfl, re_isLetter ⟨_, rfl, ?_⟩⟩
        rw [if_pos cb]
        by_cases c1 : 97 ≤ r_A R 2402 a ∧ r_A R 2402 a ≤ 122
        · rw [if_pos c1]; exact nf_ (by decide) n134
        · rw [if_neg c1, r5]
          refine nt_ rfl (re_byteAt t (by omega) ⟨_, rfl, re_isDigit ⟨_, rfl, ?_⟩⟩)
          rw [if_pos cb, if_pos ((n_d0.mp dg).resolve_left c1)]
          exact bf_ (by decide) n134
