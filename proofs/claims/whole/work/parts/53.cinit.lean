/-! The class's constructor. -/
/-- nothing that was there has changed -/
def q_Ext (S S' : q_S) : Prop := ∀ a : Nat, q_K S a ≠ 0 → q_K S' a = q_K S a ∧ q_N S' a = q_N S a ∧ (∀ i : Nat, q_A S' a i = q_A S a i) ∧ (∀ i : Nat, q_B S' a i = q_B S a i) ∧ (∀ i : Nat, q_C S' a i = q_C S a i) ∧ (∀ f : Nat, q_I S' f a = q_I S f a) ∧ (∀ f : Nat, q_J S' f a = q_J S f a) ∧ ∀ f : Nat, q_P S' f a = q_P S f a
theorem q_Ext.rf {S : q_S} : q_Ext S S := fun _ _ => ⟨rfl, rfl, fun _ => rfl, fun _ => rfl, fun _ => rfl, fun _ => rfl, fun _ => rfl, fun _ => rfl⟩
theorem q_Ext.tr {S T U : q_S} (h : q_Ext S T) (k : q_Ext T U) : q_Ext S U := fun a ha => by
  obtain ⟨a1, a2, a3, a4, a5, a6, a7, a8⟩ := h a ha
  obtain ⟨b1, b2, b3, b4, b5, b6, b7, b8⟩ := k a (by rw [a1]; exact ha)
  exact ⟨b1.trans a1, b2.trans a2, fun i => (b3 i).trans (a3 i), fun i => (b4 i).trans (a4 i), fun i => (b5 i).trans (a5 i), fun f => (b6 f).trans (a6 f), fun f => (b7 f).trans (a7 f), fun f => (b8 f).trans (a8 f)⟩
theorem q_Ext.R {S T : q_S} {k n b : Nat} (h : q_Ext S T) (hb : q_K T b = 0) : q_Ext S (qs_R T k n b) := h.tr (fun a ha => by
  have e : a ≠ b := fun z => ha (by rw [z]; exact hb)
  exact ⟨by rw [pK_R, if_neg e], by rw [pN_R, if_neg e], fun i => by rw [pA_R, if_neg e], fun i => by rw [pB_R, if_neg e], fun i => by rw [pC_R, if_neg e], fun _ => rfl, fun _ => rfl, fun _ => rfl⟩)
theorem q_Ext.O {S T : q_S} {c b : Nat} (h : q_Ext S T) (hb : q_K T b = 0) : q_Ext S (qs_O T c b) := h.tr (fun a ha => by
  have e : a ≠ b := fun z => ha (by rw [z]; exact hb)
  exact ⟨by rw [pK_O, if_neg e], rfl, fun _ => rfl, fun _ => rfl, fun _ => rfl, fun f => by rw [pI_O, if_neg e], fun f => by rw [pJ_O, if_neg e], fun f => by rw [pP_O, if_neg e]⟩)
theorem q_Ext.P {S T : q_S} {f a : Nat} {v : Option Nat} (h : q_Ext S T) (ha : q_K S a = 0) : q_Ext S (qs_P T f a v) := fun b hb => by
  have e : b ≠ a := fun z => hb (by rw [z]; exact ha)
  obtain ⟨a1, a2, a3, a4, a5, a6, a7, a8⟩ := h b hb
  exact ⟨a1, a2, a3, a4, a5, a6, a7, fun g => by rw [pP_P, if_neg (fun z => e z.2)]; exact a8 g⟩
theorem q_Ext.I {S T : q_S} {f a : Nat} {v : Int32} (h : q_Ext S T) (ha : q_K S a = 0) : q_Ext S (qs_I T f a v) := fun b hb => by
  have e : b ≠ a := fun z => hb (by rw [z]; exact ha)
  obtain ⟨a1, a2, a3, a4, a5, a6, a7, a8⟩ := h b hb
  exact ⟨a1, a2, a3, a4, a5, fun g => by rw [pI_I, if_neg (fun z => e z.2)]; exact a6 g, a7, a8⟩
theorem q_Ext.H {S T : q_S} {a : Nat} {g : Nat → Int64} (h : q_Ext S T) (ha : q_K S a = 0) : q_Ext S (qs_H T a g) := fun b hb => by
  have e : b ≠ a := fun z => hb (by rw [z]; exact ha)
  obtain ⟨a1, a2, a3, a4, a5, a6, a7, a8⟩ := h b hb
  exact ⟨a1, a2, a3, fun i => by rw [pB_H, if_neg e]; exact a4 i, a5, a6, a7, a8⟩
/-- kinds and lengths of what the constructor makes, in their order -/
def ci_k : List (Nat × Nat) := [(12, 0), (10, 0), (7, 0), (25, 16), (24, 24), (21, 24), (21, 24), (21, 24), (3, 0), (21, 900), (21, 384), (20, 4000), (23, 41), (4, 0), (1, 0), (20, 20)]
def ci_kd (k : Nat) : Nat := (ci_k.getD k (0, 0)).1
def ci_ln (k : Nat) : Nat := (ci_k.getD k (0, 0)).2
theorem ci_k0 : ∀ k : Nat, k < 16 → ci_kd k ≠ 0 := by decide +kernel
def ci_C (S0 S : q_S) (z : Bool) (n : Nat) (g : Nat → Nat) : Prop := q_Ext S0 S ∧ (∀ i j : Nat, i < n → j < n → g i = g j → i = j) ∧ ∀ k : Nat, k < n → q_K S0 (g k) = 0 ∧ q_K S (g k) = ci_kd k ∧ (20 ≤ ci_kd k → q_N S (g k) = ci_ln k ∧ (∀ i : Nat, q_A S (g k) i = 0) ∧ ∀ i : Nat, q_C S (g k) i = none) ∧ (ci_kd k < 20 → ∀ f : Nat, q_I S f (g k) = (if z = true ∧ f = 1805 ∧ k = 1 then -1 else 0) ∧ q_J S f (g k) = 0)
def ci_B (S0 S : q_S) (z : Bool) (n : Nat) (g : Nat → Nat) : Prop := q_Ext S0 S ∧ (∀ i j : Nat, i < n → j < n → g i = g j → i = j) ∧ (∀ k : Nat, k < n → q_K S0 (g k) = 0 ∧ q_K S (g k) = ci_kd k ∧ (20 ≤ ci_kd k → q_N S (g k) = ci_ln k ∧ (∀ i : Nat, q_A S (g k) i = 0) ∧ ∀ i : Nat, q_C S (g k) i = none) ∧ (ci_kd k < 20 → ∀ f : Nat, q_I S f (g k) = (if z = true ∧ f = 1805 ∧ k = 1 then -1 else 0) ∧ q_J S f (g k) = 0)) ∧ ∀ a : Nat, (∀ k : Nat, k < n → a ≠ g k) → q_K S a = q_K S0 a
theorem ci_new {S0 S : q_S} {z : Bool} {n b : Nat} {g : Nat → Nat} (J : ci_B S0 S z n g) (hn : n < 16) (hb : q_K S b = 0) : (∀ i : Nat, i < n → g i ≠ b) ∧ q_K S0 b = 0 := by
  refine ⟨fun i hi e => ?_, ?_⟩
  · have q := (J.2.2.1 i hi).2.1
    rw [e, hb] at q
    exact ci_k0 i (Nat.lt_trans hi hn) q.symm
  · cases h : q_K S0 b with
    | zero => rfl
    | succ k =>
      have q := (J.1 b (by rw [h]; exact Nat.succ_ne_zero k)).1
      rw [hb, h] at q
      exact absurd q.symm (Nat.succ_ne_zero k)
theorem ci_inj {n b : Nat} {g : Nat → Nat} (h : ∀ i j : Nat, i < n → j < n → g i = g j → i = j) (hg : ∀ i : Nat, i < n → g i ≠ b) : ∀ i j : Nat, i < n + 1 → j < n + 1 → (if i = n then b else g i) = (if j = n then b else g j) → i = j := by
  intro i j hi hj e
  by_cases e1 : i = n
  · by_cases e2 : j = n
    · rw [e1, e2]
    · rw [if_pos e1, if_neg e2] at e
      exact absurd e.symm (hg j (by omega))
  · by_cases e2 : j = n
    · rw [if_neg e1, if_pos e2] at e
      exact absurd e (hg i (by omega))
    · rw [if_neg e1, if_neg e2] at e
      exact h i j (by omega) (by omega) e
theorem ci_R {S0 S : q_S} {z : Bool} {n k len b : Nat} {g : Nat → Nat} (J : ci_B S0 S z n g) (hn : n < 16) (hb : q_K S b = 0) (hk : ci_kd n = k) (hl : ci_ln n = len) (h20 : 20 ≤ k) : ci_B S0 (qs_R S k len b) z (n + 1) (fun i => if i = n then b else g i) := by
  obtain ⟨hg, h0⟩ := ci_new J hn hb
  subst hk; subst hl
  refine ⟨J.1.R hb, ci_inj J.2.1 hg, fun i hi => ?_, fun a ha => ?_⟩
  case refine_2 =>
    have hab : a ≠ b := by simpa using ha n (Nat.lt_succ_self n)
    rw [pK_R, if_neg hab]
    exact J.2.2.2 a (fun k hk e => by
      have q := ha k (by omega)
      simp only [if_neg (Nat.ne_of_lt hk)] at q
      exact q e)
  by_cases e : i = n
  · subst e
    simp only [if_true]
    exact ⟨h0, by rw [pK_R, if_pos rfl], fun _ => ⟨by rw [pN_R, if_pos rfl], fun i => by rw [pA_R, if_pos rfl], fun i => by rw [pC_R, if_pos rfl]⟩, fun h => absurd h (Nat.not_lt.mpr h20)⟩
  · have gb := hg i (by omega)
    obtain ⟨a1, a2, a3, a4⟩ := J.2.2.1 i (by omega)
    simp only [if_neg e]
    exact ⟨a1, by rw [pK_R, if_neg gb]; exact a2, fun h => ⟨by rw [pN_R, if_neg gb]; exact (a3 h).1, fun i => by rw [pA_R, if_neg gb]; exact (a3 h).2.1 i, fun i => by rw [pC_R, if_neg gb]; exact (a3 h).2.2 i⟩, a4⟩
theorem ci_O {S0 S : q_S} {z : Bool} {n c b : Nat} {g : Nat → Nat} (J : ci_B S0 S z n g) (hn : n < 16) (hb : q_K S b = 0) (hk : ci_kd n = c + 1) (h20 : c + 1 < 20) (h1 : n ≠ 1 ∨ z = false) : ci_B S0 (qs_O S c b) z (n + 1) (fun i => if i = n then b else g i) := by
  obtain ⟨hg, h0⟩ := ci_new J hn hb
  refine ⟨J.1.O hb, ci_inj J.2.1 hg, fun i hi => ?_, fun a ha => ?_⟩
  case refine_2 =>
    have hab : a ≠ b := by simpa using ha n (Nat.lt_succ_self n)
    rw [pK_O, if_neg hab]
    exact J.2.2.2 a (fun k hk e => by
      have q := ha k (by omega)
      simp only [if_neg (Nat.ne_of_lt hk)] at q
      exact q e)
  by_cases e : i = n
  · subst e
    simp only [if_true]
    refine ⟨h0, by rw [pK_O, if_pos rfl, hk], fun h => absurd h (by rw [hk]; omega), fun _ f => ⟨?_, by rw [pJ_O, if_pos rfl]⟩⟩
    rw [pI_O, if_pos rfl, if_neg]
    intro q
    rcases h1 with h | h
    · exact h q.2.2
    · rw [h] at q; exact absurd q.1 (by decide)
  · have gb := hg i (by omega)
    obtain ⟨a1, a2, a3, a4⟩ := J.2.2.1 i (by omega)
    simp only [if_neg e]
    exact ⟨a1, by rw [pK_O, if_neg gb]; exact a2, a3, fun h f => ⟨by rw [pI_O, if_neg gb]; exact (a4 h f).1, by rw [pJ_O, if_neg gb]; exact (a4 h f).2⟩⟩
theorem ci_P {S0 S : q_S} {z : Bool} {n f a : Nat} {v : Option Nat} {g : Nat → Nat} (J : ci_B S0 S z n g) (j : Nat) (hj : j < n) (ha : g j = a) : ci_B S0 (qs_P S f a v) z n g := ⟨J.1.P (by rw [← ha]; exact (J.2.2.1 j hj).1), J.2.1, J.2.2⟩
theorem ci_I {S0 S : q_S} {n a : Nat} {g : Nat → Nat} (J : ci_B S0 S false n g) (hn : 1 < n) (ha : g 1 = a) : ci_B S0 (qs_I S 1805 a (-1)) true n g := by
  subst ha
  refine ⟨J.1.I (J.2.2.1 1 hn).1, J.2.1, fun k hk => ?_, J.2.2.2⟩
  obtain ⟨a1, a2, a3, a4⟩ := J.2.2.1 k hk
  refine ⟨a1, a2, a3, fun h f => ⟨?_, (a4 h f).2⟩⟩
  rw [pI_I, (a4 h f).1]
  by_cases e1 : f = 1805
  · by_cases e2 : k = 1
    · rw [if_pos ⟨e1, by rw [e2]⟩, if_pos ⟨rfl, e1, e2⟩]
    · rw [if_neg (fun q => e2 (J.2.1 k 1 hk hn q.2)), if_neg (fun q => absurd q.1 (by decide)), if_neg (fun q => e2 q.2.2)]
  · rw [if_neg (fun q => e1 q.1), if_neg (fun q => e1 q.2.1), if_neg (fun q => e1 q.2.1)]
theorem ci_H {S0 S : q_S} {z : Bool} {n a : Nat} {h : Nat → Int64} {g : Nat → Nat} (J : ci_B S0 S z n g) (j : Nat) (hj : j < n) (ha : g j = a) : ci_B S0 (qs_H S a h) z n g := ⟨J.1.H (by rw [← ha]; exact (J.2.2.1 j hj).1), J.2.1, J.2.2⟩
/-- who points to whom behind the constructor -/
def ci_Z (S : q_S) (g : Nat → Nat) : Prop := q_P S 2200 (g 0) = some (g 1) ∧ q_P S 2201 (g 0) = some (g 2) ∧ q_P S 2202 (g 0) = some (g 13) ∧ q_P S 2203 (g 0) = some (g 14) ∧ q_P S 2204 (g 0) = some (g 15) ∧ q_P S 1800 (g 1) = some (g 2) ∧ q_P S 1801 (g 1) = some (g 12) ∧ q_P S 1802 (g 1) = some (g 11) ∧ q_P S 1200 (g 2) = some (g 3) ∧ q_P S 1202 (g 2) = some (g 4) ∧ q_P S 1204 (g 2) = some (g 5) ∧ q_P S 1207 (g 2) = some (g 6) ∧ q_P S 1208 (g 2) = some (g 7) ∧ q_P S 1210 (g 2) = some (g 8) ∧ q_P S 400 (g 8) = some (g 9) ∧ q_P S 401 (g 8) = some (g 10) ∧ (∀ i : Nat, q_B S (g 12) i = ck_keys i) ∧ q_P S 0 (g 14) = none ∧ q_P S 1 (g 14) = none ∧ q_P S 2 (g 14) = none ∧ q_P S 3 (g 14) = none
theorem ck_add2 {s a b k : Nat} {S : q_S} {Q : Option Value → q_S → Prop} (hs : s < 15) (hk : k < 100) (hK : q_K S b = 30) (hN : q_N S b = s) (hb : ∃ z : Nat, q_K S z = 31 ∧ q_N S z = s) (hA : q_K S a = 23) (hn : q_N S a = 41) (hQ : ∀ g : Nat → Int64, g = ck_f s (q_sl.getD s 0) 0 k (q_B S a) → Q none (qs_H S a g)) : wm_X9_addKeys S (some a) (nI k) (some b) Q := ck_add hs hk hK hN hb hA hn (hQ _ rfl)
set_option maxHeartbeats 4000000 in
set_option maxRecDepth 100000 in
theorem ci_init {bc bs x : Nat} {S0 : q_S} {Q : Option Value → q_S → Prop} {st : Nat → Nat} (hx : q_K S0 x = 0) (hs1 : ∀ k : Nat, k < 15 → q_K S0 (st k) = 30 ∧ q_N S0 (st k) = k) (hs3 : ∀ k : Nat, k < 15 → ∃ b : Nat, q_K S0 b = 31 ∧ q_N S0 b = k) (hu : 15 ≤ bc ∧ 5496 ≤ bs) (h : ∀ (S : q_S) (g : Nat → Nat), g 0 = x → ci_B S0 S true 16 g → ci_Z S g → Q none S) : wm_X11_init bc bs (qs_O S0 11 x) x Q := by
  have J0 : ci_B S0 S0 false 0 (fun _ => 0) := ⟨q_Ext.rf, fun i j hi => absurd hi (Nat.not_lt_zero i), fun k hk => absurd hk (Nat.not_lt_zero k), fun a _ => rfl⟩
  have J1 := ci_O J0 (by decide) hx (c := 11) rfl (by decide) (Or.inr rfl)
  unfold wm_X11_init
  refine ⟨⟨by omega, by omega⟩, fun rd hrd => ⟨11, 5456, ⟨by omega, by omega⟩, ?_⟩⟩
  have J2 := ci_O J1 (by decide) hrd (c := 9) rfl (by decide) (Or.inr rfl)
  unfold wm_X9_init
  refine ⟨⟨by omega, by omega⟩, fun pl hpl => ⟨8, 1400, ⟨by omega, by omega⟩, ?_⟩⟩
  have J3 := ci_O J2 (by decide) hpl (c := 6) rfl (by decide) (Or.inr rfl)
  unfold wm_X6_init
  refine ⟨⟨by omega, by omega⟩, fun a3 h3 => ?_⟩
  have J4 := ci_P (f := 1200) (v := some a3) (ci_R J3 (by decide) h3 (k := 25) (len := 16) rfl rfl (by decide)) 2 (by decide) rfl
  refine ⟨(J4.2.2.1 2 (by decide)).2.1, ⟨by omega, by omega⟩, fun a4 h4 S_ hS_ => ?_⟩
  subst hS_
  have J5 := ci_P (f := 1202) (v := some a4) (ci_R J4 (by decide) h4 (k := 24) (len := 24) rfl rfl (by decide)) 2 (by decide) rfl
  refine ⟨⟨by omega, by omega⟩, fun a5 h5 S_ hS_ => ?_⟩
  subst hS_
  have J6 := ci_P (f := 1204) (v := some a5) (ci_R J5 (by decide) h5 (k := 21) (len := 24) rfl rfl (by decide)) 2 (by decide) rfl
  refine ⟨⟨by omega, by omega⟩, fun a6 h6 => ?_⟩
  have J7 := ci_P (f := 1207) (v := some a6) (ci_R J6 (by decide) h6 (k := 21) (len := 24) rfl rfl (by decide)) 2 (by decide) rfl
  refine ⟨⟨by omega, by omega⟩, fun a7 h7 S_ hS_ => ?_⟩
  subst hS_
  have J8 := ci_P (f := 1208) (v := some a7) (ci_R J7 (by decide) h7 (k := 21) (len := 24) rfl rfl (by decide)) 2 (by decide) rfl
  refine ⟨⟨by omega, by omega⟩, fun jr hjr => ⟨2, 1284, ⟨by omega, by omega⟩, ?_⟩⟩
  have J9 := ci_O J8 (by decide) hjr (c := 2) rfl (by decide) (Or.inr rfl)
  unfold wm_X2_init
  refine ⟨⟨by omega, by omega⟩, fun a9 h9 => ?_⟩
  have J10 := ci_P (f := 400) (v := some a9) (ci_R J9 (by decide) h9 (k := 21) (len := 900) rfl rfl (by decide)) 8 (by decide) rfl
  refine ⟨(J10.2.2.1 8 (by decide)).2.1, ⟨by omega, by omega⟩, fun a10 h10 S_ hS_ => ?_⟩
  subst hS_
  have J11 := ci_P (f := 401) (v := some a10) (ci_R J10 (by decide) h10 (k := 21) (len := 384) rfl rfl (by decide)) 8 (by decide) rfl
  refine ⟨rfl, (J11.2.2.1 2 (by decide)).2.1, ?_⟩
  have J12 := ci_P (f := 1210) (v := some jr) J11 2 (by decide) rfl
  refine ⟨rfl, (J12.2.2.1 1 (by decide)).2.1, ⟨by omega, by omega⟩, fun a11 h11 S_ hS_ => ?_⟩
  subst hS_
  have J13 := ci_P (f := 1800) (v := some pl) J12 1 (by decide) rfl
  have J14 := ci_P (f := 1802) (v := some a11) (ci_R J13 (by decide) h11 (k := 20) (len := 4000) rfl rfl (by decide)) 1 (by decide) rfl
  have J15 := ci_I J14 (by decide) rfl
  refine ⟨1, 41, ⟨by omega, by omega⟩, ?_⟩
  unfold wm_X9_allKeys
  refine ⟨⟨by omega, by omega⟩, fun a12 h12 b6 hb6 hn6 => ?_⟩
  have J16 := ci_R J15 (by decide) h12 (k := 23) (len := 41) rfl rfl (by decide)
  have tx : ∀ (T : q_S) (k : Nat), q_Ext S0 T → k < 15 → ∃ z : Nat, q_K T z = 31 ∧ q_N T z = k := fun T k hT hk => by
    obtain ⟨z, hz1, hz2⟩ := hs3 k hk
    obtain ⟨e1, e2, -⟩ := hT z (by rw [hz1]; decide)
    exact ⟨z, e1.trans hz1, e2.trans hz2⟩
  have k12 := J16.2.2.1 12 (by decide)
  refine ck_add2 (s := 0) (k := 0) (by decide) (by decide) hb6 hn6 (tx _ 0 J16.1 (by decide)) k12.2.1 (k12.2.2.1 (by decide)).1 (fun g1 hg1 => ⟨rfl, fun b7 hb7 hn7 => ?_⟩)
  have J17 := ci_H (h := g1) J16 12 (by decide) rfl
  have k12' := J17.2.2.1 12 (by decide)
  refine ck_add2 (s := 1) (k := 30) (by decide) (by decide) hb7 hn7 (tx _ 1 J17.1 (by decide)) k12'.2.1 (k12'.2.2.1 (by decide)).1 (fun g2 hg2 => ?_)
  have J17' := ci_H (h := g2) J17 12 (by decide) rfl
  refine ⟨rfl, some a12, rfl, (J17'.2.2.1 1 (by decide)).2.1, ?_⟩
  have J18 := ci_P (f := 1801) (v := some a12) J17' 1 (by decide) rfl
  have J19 := ci_P (f := 2200) (v := some rd) J18 0 (by decide) rfl
  have pH : ∀ {S : q_S} {a f b : Nat} {g : Nat → Int64}, q_P (qs_H S a g) f b = q_P S f b := rfl
  have n01 : x ≠ rd := fun e => absurd (J19.2.1 0 1 (by decide) (by decide) e) (by decide)
  have n12 : rd ≠ pl := fun e => absurd (J19.2.1 1 2 (by decide) (by decide) e) (by decide)
  refine ⟨rfl, (J18.2.2.1 0 (by decide)).2.1, rd, by rw [pP_P, if_pos ⟨rfl, rfl⟩], (J19.2.2.1 1 (by decide)).2.1, fun S_ hS_ => ?_⟩
  simp only [pP_P, pP_R, pP_O, pP_I, pH] at hS_
  simp [n01.symm, n12] at hS_
  subst hS_
  have J20 := ci_P (f := 2201) (v := some pl) J19 0 (by decide) rfl
  refine ⟨⟨by omega, by omega⟩, fun mc hmc => ?_⟩
  have J21 := ci_O J20 (by decide) hmc (c := 3) rfl (by decide) (Or.inl (by decide))
  unfold wm_X3_init
  have J22 := ci_P (f := 2202) (v := some mc) J21 0 (by decide) rfl
  refine ⟨rfl, (J21.2.2.1 0 (by decide)).2.1, ⟨by omega, by omega⟩, fun ca hca => ?_⟩
  have J23 := ci_O J22 (by decide) hca (c := 0) rfl (by decide) (Or.inl (by decide))
  unfold wm_X0_init
  have J24 := ci_P (f := 2203) (v := some ca) J23 0 (by decide) rfl
  refine ⟨rfl, (J23.2.2.1 0 (by decide)).2.1, ⟨by omega, by omega⟩, fun a15 h15 S_ hS_ => ?_⟩
  subst hS_
  have J25 := ci_P (f := 2204) (v := some a15) (ci_R J24 (by decide) h15 (k := 20) (len := 20) rfl rfl (by decide)) 0 (by decide) rfl
  have ne : ∀ i j : Nat, i < 16 → j < 16 → i ≠ j → (fun i => if i = 15 then a15 else if i = 14 then ca else if i = 13 then mc else if i = 12 then a12 else if i = 11 then a11 else if i = 10 then a10 else if i = 9 then a9 else if i = 8 then jr else if i = 7 then a7 else if i = 6 then a6 else if i = 5 then a5 else if i = 4 then a4 else if i = 3 then a3 else if i = 2 then pl else if i = 1 then rd else if i = 0 then x else 0) i ≠ (fun i => if i = 15 then a15 else if i = 14 then ca else if i = 13 then mc else if i = 12 then a12 else if i = 11 then a11 else if i = 10 then a10 else if i = 9 then a9 else if i = 8 then jr else if i = 7 then a7 else if i = 6 then a6 else if i = 5 then a5 else if i = 4 then a4 else if i = 3 then a3 else if i = 2 then pl else if i = 1 then rd else if i = 0 then x else 0) j := fun i j hi hj hij e => hij (J25.2.1 i j hi hj e)
  have n02 : x ≠ pl := ne 0 2 (by decide) (by decide) (by decide)
  have n08 : x ≠ jr := ne 0 8 (by decide) (by decide) (by decide)
  have n0m : x ≠ mc := ne 0 13 (by decide) (by decide) (by decide)
  have n0c : x ≠ ca := ne 0 14 (by decide) (by decide) (by decide)
  have n18 : rd ≠ jr := ne 1 8 (by decide) (by decide) (by decide)
  have n1m : rd ≠ mc := ne 1 13 (by decide) (by decide) (by decide)
  have n1c : rd ≠ ca := ne 1 14 (by decide) (by decide) (by decide)
  have n28 : pl ≠ jr := ne 2 8 (by decide) (by decide) (by decide)
  have n2m : pl ≠ mc := ne 2 13 (by decide) (by decide) (by decide)
  have n2c : pl ≠ ca := ne 2 14 (by decide) (by decide) (by decide)
  have n8m : jr ≠ mc := ne 8 13 (by decide) (by decide) (by decide)
  have n8c : jr ≠ ca := ne 8 14 (by decide) (by decide) (by decide)
  have nk : ∀ {a : Nat}, a = a12 ∨ a ≠ a12 := fun {a} => Decidable.em _
  refine h _ _ rfl J25 ?_
  have n15k : a12 ≠ a15 := ne 12 15 (by decide) (by decide) (by decide)
  refine ⟨?_, ?_, ?_, ?_, ?_, ?_, ?_, ?_, ?_, ?_, ?_, ?_, ?_, ?_, ?_, ?_, fun i => ?_, ?_, ?_, ?_, ?_⟩
  · show q_P _ 2200 x = some rd
    simp [pP_P, pP_R, pP_O, pP_I, pH, n0m, n0c]
  · show q_P _ 2201 x = some pl
    simp [pP_P, pP_R, pP_O, pP_I, pH, n0m, n0c, n01.symm, n12]
  · show q_P _ 2202 x = some mc
    simp [pP_P, pP_R, pP_O, pP_I, pH, n0c]
  · show q_P _ 2203 x = some ca
    simp [pP_P, pP_R, pP_O, pP_I, pH]
  · show q_P _ 2204 x = some a15
    simp [pP_P, pP_R, pP_O, pP_I, pH]
  · show q_P _ 1800 rd = some pl
    simp [pP_P, pP_R, pP_O, pP_I, pH, n1m, n1c]
  · show q_P _ 1801 rd = some a12
    simp [pP_P, pP_R, pP_O, pP_I, pH, n1m, n1c]
  · show q_P _ 1802 rd = some a11
    simp [pP_P, pP_R, pP_O, pP_I, pH, n1m, n1c]
  · show q_P _ 1200 pl = some a3
    simp [pP_P, pP_R, pP_O, pP_I, pH, n2m, n2c, n28]
  · show q_P _ 1202 pl = some a4
    simp [pP_P, pP_R, pP_O, pP_I, pH, n2m, n2c, n28]
  · show q_P _ 1204 pl = some a5
    simp [pP_P, pP_R, pP_O, pP_I, pH, n2m, n2c, n28]
  · show q_P _ 1207 pl = some a6
    simp [pP_P, pP_R, pP_O, pP_I, pH, n2m, n2c, n28]
  · show q_P _ 1208 pl = some a7
    simp [pP_P, pP_R, pP_O, pP_I, pH, n2m, n2c, n28]
  · show q_P _ 1210 pl = some jr
    simp [pP_P, pP_R, pP_O, pP_I, pH, n2m, n2c]
  · show q_P _ 400 jr = some a9
    simp [pP_P, pP_R, pP_O, pP_I, pH, n8m, n8c]
  · show q_P _ 401 jr = some a10
    simp [pP_P, pP_R, pP_O, pP_I, pH, n8m, n8c]
  · show q_B _ a12 i = ck_keys i
    rw [pB_P, pB_R, if_neg n15k, pB_P, pB_O, pB_P, pB_O, pB_P, pB_P, pB_P, pB_H, if_pos rfl]
    have e1 : ∀ T : q_S, q_B (qs_H T a12 g1) a12 = g1 := fun T => funext fun j => by rw [pB_H, if_pos rfl]
    have e0 : ∀ T : q_S, q_B (qs_R T 23 41 a12) a12 = fun _ => 0 := fun T => funext fun j => by rw [pB_R, if_pos rfl]
    rw [e1] at hg2
    rw [e0] at hg1
    rw [hg2, hg1]
    rfl
  · show q_P _ 0 ca = none
    simp [pP_P, pP_R, pP_O, pP_I, pH]
  · show q_P _ 1 ca = none
    simp [pP_P, pP_R, pP_O, pP_I, pH]
  · show q_P _ 2 ca = none
    simp [pP_P, pP_R, pP_O, pP_I, pH]
  · show q_P _ 3 ca = none
    simp [pP_P, pP_R, pP_O, pP_I, pH]
