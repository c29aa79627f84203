/-! Reading: a number. -/
def k_tk2 (K : c_S) (a : Nat) (v : Int32) : c_S := cs_I (cs_I K 1809 0 v) 1807 0 (nI a)
def r_tk2 (R : r_S) (a : Nat) (v : Int32) : r_S := rs_I (rs_I R 2408 v) 2405 (nI a)
theorem k_tk_c {K : c_S} {a a' : Nat} {v v' : Int32} : k_tk2 (k_tk2 K a v) a' v' = k_tk2 K a' v' := by
  refine Prod.ext (funext fun f => funext fun i => ?_) rfl
  show (if f = 1807 ∧ i = 0 then nI a' else if f = 1809 ∧ i = 0 then v' else if f = 1807 ∧ i = 0 then nI a else if f = 1809 ∧ i = 0 then v else K.1 f i) = (if f = 1807 ∧ i = 0 then nI a' else if f = 1809 ∧ i = 0 then v' else K.1 f i)
  by_cases c1 : f = 1807 ∧ i = 0
  · rw [if_pos c1, if_pos c1]
  · rw [if_neg c1, if_neg c1, if_neg c1]
    by_cases c2 : f = 1809 ∧ i = 0
    · rw [if_pos c2, if_pos c2]
    · rw [if_neg c2, if_neg c2, if_neg c2]
theorem r_tk_c {R : r_S} {a a' : Nat} {v v' : Int32} : r_tk2 (r_tk2 R a v) a' v' = r_tk2 R a' v' := by
  refine Prod.ext (funext fun f => ?_) rfl
  show (if f = 2405 then nI a' else if f = 2408 then v' else if f = 2405 then nI a else if f = 2408 then v else R.1 f) = (if f = 2405 then nI a' else if f = 2408 then v' else R.1 f)
  by_cases c1 : f = 2405
  · rw [if_pos c1, if_pos c1]
  · rw [if_neg c1, if_neg c1, if_neg c1]
    by_cases c2 : f = 2408
    · rw [if_pos c2, if_pos c2]
    · rw [if_neg c2, if_neg c2, if_neg c2]
/-- the same text, B bytes of it -/
def TXr (B : Nat) (K : c_S) (R : r_S) : Prop := B ≤ 4000 ∧ c_I K 1806 0 = nI B ∧ r_I R 2404 = nI B ∧ ∀ i : Nat, c_A K 1802 0 i = r_A R 2402 i
theorem re_byteAt {B : Nat} {K : c_S} {R : r_S} {a : Nat} {Q : Option Value → r_S → Prop} (t : TXr B K R) (ha : a ≤ B) (h : Q (some (.int (if a < B then r_A R 2402 a else -1))) R) : rm_X12_byteAt R (nI a) Q := by
  have b4 := t.1
  by_cases c : a < B
  · rw [if_pos c] at h
    refine bf_ (by rw [t.2.2.1]; exact nI_ge c (by omega)) ⟨ri_v (n := 4000) rfl (by omega) (by decide), ?_⟩
    rw [nI_clamp (by omega)]
    exact h
  · rw [if_neg c] at h
    exact bt_ (by rw [t.2.2.1]; exact nI_le (by omega) (by omega)) h
theorem re_isDigit {R : r_S} {x : Int32} {Q : Option Value → r_S → Prop} (h : Q (some (.int (if 48 ≤ x ∧ x ≤ 57 then 1 else 0))) R) : rm_X12_isDigit R x Q := by
  by_cases c1 : x < 48
  · rw [if_neg (fun z => i_nlt.mpr z.1 c1)] at h
    exact bt_ c1 ⟨nb_0, h⟩
  · by_cases c2 : x ≤ 57
    · rw [if_pos ⟨i_nlt.mp c1, c2⟩] at h
      exact bf_ c1 (bf_ (i_nlt.mpr c2) ⟨nb_1, h⟩)
    · rw [if_neg (fun z => c2 z.2)] at h
      exact bf_ c1 (bt_ (i_nle.mp c2) ⟨nb_0, h⟩)
theorem k_tk_i {K : c_S} {a : Nat} {v : Int32} (k7 : c_I K 1807 0 = nI a) (k9 : c_I K 1809 0 = v) : k_tk2 K a v = K := by
  refine Prod.ext (funext fun f => funext fun i => ?_) rfl
  show (if f = 1807 ∧ i = 0 then nI a else if f = 1809 ∧ i = 0 then v else K.1 f i) = K.1 f i
  by_cases c1 : f = 1807 ∧ i = 0
  · rw [if_pos c1, c1.1, c1.2]; exact k7.symm
  · rw [if_neg c1]
    by_cases c2 : f = 1809 ∧ i = 0
    · rw [if_pos c2, c2.1, c2.2]; exact k9.symm
    · rw [if_neg c2]
theorem r_tk_i {R : r_S} {a : Nat} {v : Int32} (r5 : r_I R 2405 = nI a) (r8 : r_I R 2408 = v) : r_tk2 R a v = R := by
  refine Prod.ext (funext fun f => ?_) rfl
  show (if f = 2405 then nI a else if f = 2408 then v else R.1 f) = R.1 f
  by_cases c1 : f = 2405
  · rw [if_pos c1, c1]; exact r5.symm
  · rw [if_neg c1]
    by_cases c2 : f = 2408
    · rw [if_pos c2, c2]; exact r8.symm
    · rw [if_neg c2]
/-- a number, read on both sides: to the same place, the same value; too long on both or on none -/
theorem P_num {L : c_L} {B p : Nat} : ∀ (d a : Nat) (v : Int32) (K : c_S) (R : r_S), TXr B K R → a + d = B → p ≤ a → c_I K 1807 0 = nI a → c_I K 1811 0 = nI p → c_I K 1809 0 = v → r_I R 2405 = nI a → r_I R 2409 = nI p → r_I R 2408 = v → ∃ (a' : Nat) (v' : Int32) (g : Bool), (∀ Q : c_S → Prop, Q (cs_I (k_tk2 K a' v') 1808 0 (if g = true then 3 else 1)) → kl_X9_scanNumber_5 L (d + 1) K 0 Q) ∧ (∀ Q : Option Value → r_S → Prop, Q none (rs_I (r_tk2 R a' v') 2406 (if g = true then 2 else 5)) → rl_X12_next_216 (d + 1) R Q) ∧ a ≤ a' ∧ a' ≤ B ∧ (g = true ↔ a' - p ≤ 6) := by
  have stop : ∀ (d a : Nat) (v : Int32) (K : c_S) (R : r_S), TXr B K R → a ≤ B → p ≤ a → c_I K 1807 0 = nI a → c_I K 1811 0 = nI p → c_I K 1809 0 = v → r_I R 2405 = nI a → r_I R 2409 = nI p → r_I R 2408 = v → (a < B → ¬ (48 ≤ r_A R 2402 a ∧ r_A R 2402 a ≤ 57)) → ∃ (a' : Nat) (v' : Int32) (g : Bool), (∀ Q : c_S → Prop, Q (cs_I (k_tk2 K a' v') 1808 0 (if g = true then 3 else 1)) → kl_X9_scanNumber_5 L (d + 1) K 0 Q) ∧ (∀ Q : Option Value → r_S → Prop, Q none (rs_I (r_tk2 R a' v') 2406 (if g = true then 2 else 5)) → rl_X12_next_216 (d + 1) R Q) ∧ a ≤ a' ∧ a' ≤ B ∧ (g = true ↔ a' - p ≤ 6) := by
    intro d a v K R t hd hp k7 k11 k9 r5 r9 r8 nd
    have b4 := t.1
    have ca := nI_clamp (n := a) (by omega)
    refine ⟨a, v, decide (a - p ≤ 6), fun Q hQ => ?_, fun Q hQ => ?_, Nat.le_refl _, hd, decide_eq_true_iff⟩
    · rw [k_tk_i k7 k9] at hQ
      have fin : kb_X9_scanNumber_102 L K 0 Q := by
        unfold kb_X9_scanNumber_102
        rw [k7, k11, pk_sub hp]
        by_cases c : a - p ≤ 6
        · rw [if_pos (decide_eq_true c)] at hQ
          exact bt_ (nI_le (b := 6) c (by decide)) hQ
        · rw [if_neg (fun z => c (of_decide_eq_true z))] at hQ
          exact bf_ (nI_ge (a := 6) (by omega) (by omega)) hQ
      by_cases cb : a < B
      · refine bf_ (by rw [t.2.1, k7]; exact nI_ge cb (by omega)) ?_
        rw [k7, ca, t.2.2.2 a]
        have va : vp_in (nI a) 4000 := vp_in_nI (by omega) (by decide)
        refine ⟨va, ?_⟩
        by_cases c1 : r_A R 2402 a < 48
        · exact bt_ c1 fin
        · exact bf_ c1 ⟨va, bt_ (i_nle.mp (fun z => nd cb ⟨i_nlt.mp c1, z⟩)) fin⟩
      · exact bt_ (by rw [t.2.1, k7]; exact nI_le (by omega) (by omega)) fin
    · rw [r_tk_i r5 r8] at hQ
      rw [rl_X12_next_216, rb_X12_next_216, r5]
      refine re_byteAt t hd ⟨_, rfl, re_isDigit ⟨_, rfl, bt_ ?_ ?_⟩⟩
      · by_cases cb : a < B
        · rw [if_pos cb, if_neg (nd cb)]
        · rw [if_neg cb]; decide
      · rw [r5, r9, pk_sub hp]
        by_cases c : a - p ≤ 6
        · rw [if_pos (decide_eq_true c)] at hQ
          exact bt_ (nI_le (b := 6) c (by decide)) hQ
        · rw [if_neg (fun z => c (of_decide_eq_true z))] at hQ
          exact bf_ (nI_ge (a := 6) (by omega) (by omega)) hQ
  intro d
  induction d with
  | zero =>
    intro a v K R t hd hp k7 k11 k9 r5 r9 r8
    exact stop 0 a v K R t (by omega) hp k7 k11 k9 r5 r9 r8 (fun z => by omega)
  | succ d ih =>
    intro a v K R t hd hp k7 k11 k9 r5 r9 r8
    by_cases dg : 48 ≤ r_A R 2402 a ∧ r_A R 2402 a ≤ 57
    case neg => exact stop (d + 1) a v K R t (by omega) hp k7 k11 k9 r5 r9 r8 (fun _ => dg)
    case pos =>
      have b4 := t.1
      have cb : a < B := by omega
      have ca := nI_clamp (n := a) (by omega)
      have va : vp_in (nI a) 4000 := vp_in_nI (by omega) (by decide)
      have sub : nI a - nI p = nI (a - p) := pk_sub hp
      obtain ⟨v1, hv1⟩ : ∃ v1 : Int32, v1 = if 6 ≤ a - p then v else v * 10 + r_A R 2402 a - 48 := ⟨_, rfl⟩
      obtain ⟨a', v', g, h1, h2, h3, h4, h5⟩ := ih (a + 1) v1 (k_tk2 K (a + 1) v1) (r_tk2 R (a + 1) v1) t (by omega) (by omega) rfl k11 rfl rfl r9 rfl
      refine ⟨a', v', g, fun Q hQ => ?_, fun Q hQ => ?_, by omega, h4, h5⟩
      · have nx := h1 Q (by rw [k_tk_c]; exact hQ)
        have e86 : ∀ x : Int32, x = v1 → kb_X9_scanNumber_86 L (fun S a0 => kl_X9_scanNumber_5 L (d + 1) S a0 Q) K 0 0 x Q := fun x ex S eS => by
          have : S = k_tk2 K (a + 1) v1 := by
            rw [eS, ex, show c_I (cs_I K 1809 0 v1) 1807 0 = nI a from k7, nI_1]
            rfl
          rw [this]
          exact nx
        refine bf_ (by rw [t.2.1, k7]; exact nI_ge cb (by omega)) ?_
        rw [k7, ca, t.2.2.2 a, k11, sub, k9]
        refine ⟨va, bf_ (i_nlt.mpr dg.1) ⟨va, bf_ (i_nlt.mpr dg.2) ?_⟩⟩
        by_cases c : 6 ≤ a - p
        · exact bt_ (nI_le (a := 6) c (by omega)) (e86 _ (by rw [hv1, if_pos c]))
        · exact bf_ (nI_ge (b := 6) (by omega) (by decide)) ⟨va, e86 _ (by rw [hv1, if_neg c])⟩
      · have nx := h2 Q (by rw [r_tk_c]; exact hQ)
        have e272 : ∀ x : Int32, x = v1 → rb_X12_next_272 (fun S => rl_X12_next_216 (d + 1) S Q) R x Q := fun x ex S eS => by
          have : S = r_tk2 R (a + 1) v1 := by
            rw [eS, ex, show r_I (rs_I R 2408 v1) 2405 = nI a from r5, nI_1]
            rfl
          rw [this]
          exact nx
        rw [rl_X12_next_216, rb_X12_next_216, r5]
        refine re_byteAt t (by omega) ⟨_, rfl, re_isDigit ⟨_, rfl, bf_ ?_ ?_⟩⟩
        · rw [if_pos cb, if_pos dg]; decide
        · rw [r5, r9, sub, r8]
          by_cases c : 6 ≤ a - p
          · exact bt_ (nI_le (a := 6) c (by omega)) (e272 _ (by rw [hv1, if_pos c]))
          · refine bf_ (nI_ge (b := 6) (by omega) (by decide)) (re_byteAt t (by omega) ⟨_, rfl, e272 _ ?_⟩)
            rw [hv1, if_neg c, if_pos cb, Int32.mul_comm]
