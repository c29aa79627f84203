/-! Windows: which is now, and the ticks about it. -/
def ZW (Z : z_C) : Prop := (1 ≤ z_nw Z ∧ z_nw Z ≤ 24) ∧ z_we Z 0 = 0 ∧ ∀ i : Nat, i < z_nw Z → z_wo Z i < 16 ∧ z_we Z i < z_we Z (i + 1) ∧ z_we Z (i + 1) ≤ z_we Z i + 200
def KW (Z : z_C) (K : c_S) (t : Nat) : Prop := c_I K 1209 0 = nI (z_nw Z) ∧ c_I K 1211 0 = nI t ∧ ∀ i : Nat, i < z_nw Z → c_A K 1207 0 i = nI (z_wo Z i) ∧ c_A K 1208 0 i = nI (z_we Z (i + 1))
def RW (Z : z_C) (R : r_S) (t : Nat) : Prop := r_I R 2417 = nI (z_nw Z) ∧ r_I R 2463 = nI t ∧ r_I R 2420 = nI (z_we Z (z_nw Z)) ∧ ∀ i : Nat, i < z_nw Z → r_A R 2461 i = nI (z_wo Z i) ∧ r_A R 2462 i = nI (z_we Z (i + 1) - z_we Z i)
/-- i is the window of the time t -/
def WN (Z : z_C) (t i : Nat) : Prop := i < z_nw Z ∧ z_we Z i ≤ t % z_we Z (z_nw Z) ∧ t % z_we Z (z_nw Z) < z_we Z (i + 1)
theorem we_m {Z : z_C} (h : ZW Z) {i : Nat} : ∀ n : Nat, i + n ≤ z_nw Z → z_we Z i + n ≤ z_we Z (i + n) ∧ z_we Z (i + n) ≤ z_we Z i + 200 * n := by
  intro n
  induction n with
  | zero => intro _; exact ⟨Nat.le_refl _, Nat.le_refl _⟩
  | succ n ih =>
    intro hn
    have a := ih (by omega)
    have c := h.2.2 (i + n) (by omega)
    rw [show i + (n + 1) = i + n + 1 by omega]
    omega
theorem we_b {Z : z_C} (h : ZW Z) {i : Nat} (hi : i ≤ z_nw Z) : z_we Z i ≤ 4800 := by
  have a := (we_m h (i := 0) i (by omega)).2
  rw [Nat.zero_add, h.2.1] at a
  have := h.1.2
  omega
theorem we_l {Z : z_C} (h : ZW Z) {i j : Nat} (hij : i ≤ j) (hj : j ≤ z_nw Z) : z_we Z i ≤ z_we Z j := by
  have a := (we_m h (i := i) (j - i) (by omega)).1
  rw [show i + (j - i) = j by omega] at a
  omega
theorem we_p {Z : z_C} (h : ZW Z) : 0 < z_we Z (z_nw Z) := by
  have a := (we_m h (i := 0) (z_nw Z) (by omega)).1
  rw [Nat.zero_add, h.2.1] at a
  have := h.1.1
  omega
theorem WN_ex {Z : z_C} (h : ZW Z) (t : Nat) : ∃ i : Nat, WN Z t i := by
  have hp := we_p h
  have hm := Nat.mod_lt t hp
  have : ∀ d i : Nat, i + d = z_nw Z → z_we Z i ≤ t % z_we Z (z_nw Z) → ∃ i : Nat, WN Z t i := by
    intro d
    induction d with
    | zero => intro i hi a; rw [show i = z_nw Z by omega] at a; omega
    | succ d ih =>
      intro i hi a
      by_cases c : t % z_we Z (z_nw Z) < z_we Z (i + 1)
      · exact ⟨i, by omega, a, c⟩
      · exact ih (i + 1) (by omega) (by omega)
  exact this (z_nw Z) 0 (by omega) (by rw [h.2.1]; omega)
theorem WN_un {Z : z_C} (h : ZW Z) {t i j : Nat} (a : WN Z t i) (b : WN Z t j) : i = j := by
  obtain ⟨a1, a2, a3⟩ := a
  obtain ⟨b1, b2, b3⟩ := b
  rcases Nat.lt_trichotomy i j with c | c | c
  · have := we_l h (i := i + 1) (j := j) (by omega) (by omega); omega
  · exact c
  · have := we_l h (i := j + 1) (j := i) (by omega) (by omega); omega
theorem ke_frameTicks {L : c_L} {Z : z_C} {K : c_S} {t : Nat} {Q : Int32 → c_S → Prop} (z : ZW Z) (k : KW Z K t) (h : Q (nI (z_we Z (z_nw Z))) K) : km_X6_frameTicks L K 0 Q := by
  have n1 := z.1
  refine nf_ (by rw [k.1]; exact nI_ne0 (by omega) (by omega)) ?_
  rw [k.1, show (1 : Int32) = nI 1 from rfl, pk_sub (by omega), nI_clamp (by omega)]
  refine ⟨vp_in_nI (by omega) (by decide), ?_⟩
  rw [(k.2.2 (z_nw Z - 1) (by omega)).2, show z_nw Z - 1 + 1 = z_nw Z by omega]
  exact h
theorem ke_tickOfFrame {L : c_L} {Z : z_C} {K : c_S} {t : Nat} {Q : Int32 → c_S → Prop} (z : ZW Z) (k : KW Z K t) (ht : t < 2 ^ 31) (h : Q (nI (t % z_we Z (z_nw Z))) K) : km_X6_tickOfFrame L K 0 Q := by
  have b := we_b z (Nat.le_refl _)
  have p0 := we_p z
  refine ke_frameTicks z k (bt_ (nI_lt (a := 0) p0 (by omega)) ⟨nI_ne0 p0 (by omega), ?_⟩)
  rw [k.2.1, pk_rem ht p0 (by omega)]
  exact h
theorem ke_windowNow {L : c_L} {Z : z_C} {K : c_S} {t i : Nat} {Q : Int32 → c_S → Prop} (z : ZW Z) (k : KW Z K t) (ht : t < 2 ^ 31) (wn : WN Z t i) (h : Q (nI i) K) : km_X6_windowNow L K 0 Q := by
  have b := we_b z (Nat.le_refl _)
  have hm := Nat.mod_lt t (we_p z)
  have n1 := z.1
  refine ke_tickOfFrame z k ht ⟨i + 1, ?_⟩
  obtain ⟨w1, w2, w3⟩ := wn
  have lp : ∀ d x : Nat, x + d = i → kl_X6_windowNow_7 L (d + 1) K 0 (nI (t % z_we Z (z_nw Z))) (nI x) Q := by
    intro d
    induction d with
    | zero =>
      intro x hx
      obtain rfl : x = i := by omega
      refine bf_ (by rw [k.1]; exact nI_ge w1 (by omega)) ⟨vp_in_nI (by omega) (by decide), ?_⟩
      rw [nI_clamp (by omega), (k.2.2 x w1).2]
      exact bf_ (nI_ge w3 (by have := we_b z (i := x + 1) (by omega); omega)) h
    | succ d ih =>
      intro x hx
      refine bf_ (by rw [k.1]; exact nI_ge (by omega) (by omega)) ⟨vp_in_nI (by omega) (by decide), ?_⟩
      rw [nI_clamp (by omega), (k.2.2 x (by omega)).2]
      have := we_l z (i := x + 1) (j := i) (by omega) (by omega)
      refine bt_ (nI_le (by omega) (by omega)) ?_
      rw [nI_1]
      exact ih (x + 1) (by omega)
  exact lp i 0 (by omega)
theorem re_window {Z : z_C} {R : r_S} {t i : Nat} {Q : Option Value → r_S → Prop} (z : ZW Z) (r : RW Z R t) (ht : t < 2 ^ 31) (wn : WN Z t i) (h : Q (some (.int (nI i))) R) : rm_X12_window R Q := by
  have b := we_b z (Nat.le_refl _)
  have p0 := we_p z
  have hm := Nat.mod_lt t p0
  have n1 := z.1
  obtain ⟨w1, w2, w3⟩ := wn
  refine ⟨by rw [r.2.2.1]; exact nI_ne0 p0 (by omega), i + 1, ?_⟩
  rw [r.2.2.1, r.2.1, pk_rem ht p0 (by omega)]
  have lp : ∀ d x : Nat, x + d = i → rl_X12_window_12 (d + 1) R (nI (t % z_we Z (z_nw Z) - z_we Z x)) (nI x) Q := by
    intro d
    induction d with
    | zero =>
      intro x hx
      obtain rfl : x = i := by omega
      refine ⟨ri_v (n := 24) rfl (by omega) (by decide), ?_⟩
      rw [nI_clamp (by omega), (r.2.2.2 x w1).2]
      have := we_b z (i := x + 1) (by omega)
      exact bt_ (nI_lt (by omega) (by omega)) h
    | succ d ih =>
      intro x hx
      refine ⟨ri_v (n := 24) rfl (by omega) (by decide), ?_⟩
      rw [nI_clamp (by omega), (r.2.2.2 x (by omega)).2]
      have l1 := we_l z (i := x + 1) (j := i) (by omega) (by omega)
      have l2 := z.2.2 x (by omega)
      refine bf_ (nI_nlt (by omega) (by omega)) ⟨ri_v (n := 24) rfl (by omega) (by decide), ?_⟩
      rw [nI_1, pk_sub (by omega), show t % z_we Z (z_nw Z) - z_we Z x - (z_we Z (x + 1) - z_we Z x) = t % z_we Z (z_nw Z) - z_we Z (x + 1) by omega]
      exact ih (x + 1) (by omega)
  have e := lp i 0 (by omega)
  rw [z.2.1, Nat.sub_zero] at e
  exact e
theorem ke_partitionNow {L : c_L} {Z : z_C} {K : c_S} {t i : Nat} {Q : Int32 → c_S → Prop} (z : ZW Z) (k : KW Z K t) (ht : t < 2 ^ 31) (wn : WN Z t i) (h : Q (nI (z_wo Z i)) K) : km_X6_partitionNow L K 0 Q := by
  have n1 := z.1
  have i1 := wn.1
  refine ke_windowNow z k ht wn (nf_ (nI_m1 (by omega)) ⟨vp_in_nI (by omega) (by decide), ?_⟩)
  rw [nI_clamp (by omega), (k.2.2 i wn.1).1]
  exact h
theorem ke_ticksLeft {L : c_L} {Z : z_C} {K : c_S} {t i : Nat} {Q : Int32 → c_S → Prop} (z : ZW Z) (k : KW Z K t) (ht : t < 2 ^ 31) (wn : WN Z t i) (h : Q (nI (z_we Z (i + 1) - t % z_we Z (z_nw Z))) K) : km_X6_ticksLeft L K 0 Q := by
  have n1 := z.1
  have i1 := wn.1
  have i3 := wn.2.2
  refine ke_windowNow z k ht wn (nf_ (nI_m1 (by omega)) ⟨vp_in_nI (by omega) (by decide), ke_tickOfFrame z k ht ?_⟩)
  rw [nI_clamp (by omega), (k.2.2 i wn.1).2, pk_sub (by omega)]
  exact h
/-- the ticks of the n windows behind w -/
def w_bs (Z : z_C) (w : Nat) : Nat → Nat
  | 0 => 0
  | n + 1 => w_bs Z w n + (z_we Z ((w + (n + 1)) % z_nw Z + 1) - z_we Z ((w + (n + 1)) % z_nw Z))
theorem w_bsb {Z : z_C} (z : ZW Z) {w n : Nat} : w_bs Z w n ≤ 200 * n := by
  induction n with
  | zero => exact Nat.le_refl _
  | succ n ih =>
    have := z.2.2 ((w + (n + 1)) % z_nw Z) (Nat.mod_lt _ z.1.1)
    show w_bs Z w n + (z_we Z ((w + (n + 1)) % z_nw Z + 1) - z_we Z ((w + (n + 1)) % z_nw Z)) ≤ _
    omega
/-- the next window of the same partition -/
def WX (Z : z_C) (w N : Nat) : Prop := 1 ≤ N ∧ N ≤ z_nw Z ∧ z_wo Z ((w + N) % z_nw Z) = z_wo Z w ∧ ∀ m : Nat, 1 ≤ m → m < N → z_wo Z ((w + m) % z_nw Z) ≠ z_wo Z w
theorem least_ {P : Nat → Prop} : ∀ d n : Nat, (∀ m : Nat, 1 ≤ m → m < n → ¬ P m) → 1 ≤ n → P (n + d) → ∃ N : Nat, 1 ≤ N ∧ N ≤ n + d ∧ P N ∧ ∀ m : Nat, 1 ≤ m → m < N → ¬ P m := by
  intro d
  induction d with
  | zero => intro n h h1 hp; exact ⟨n, h1, Nat.le_refl _, hp, h⟩
  | succ d ih =>
    intro n h h1 hp
    by_cases c : P n
    · exact ⟨n, h1, by omega, c, h⟩
    · obtain ⟨N, a1, a2, a3, a4⟩ := ih (n + 1) (fun m hm hm2 => by
        by_cases e : m = n
        · subst e; exact c
        · exact h m hm (by omega)) (by omega) (by rw [show n + 1 + d = n + (d + 1) by omega]; exact hp)
      exact ⟨N, a1, by omega, a3, a4⟩
theorem WX_ex {Z : z_C} (z : ZW Z) {w : Nat} (hw : w < z_nw Z) : ∃ N : Nat, WX Z w N := by
  obtain ⟨N, a1, a2, a3, a4⟩ := least_ (P := fun m => z_wo Z ((w + m) % z_nw Z) = z_wo Z w) (z_nw Z - 1) 1 (fun m h1 h2 => by omega) (Nat.le_refl _) (by
    show z_wo Z ((w + (1 + (z_nw Z - 1))) % z_nw Z) = z_wo Z w
    rw [show 1 + (z_nw Z - 1) = z_nw Z by omega, Nat.add_mod_right, Nat.mod_eq_of_lt hw])
  exact ⟨N, a1, by omega, a3, a4⟩
theorem ke_ticksBetween {L : c_L} {Z : z_C} {K : c_S} {t w N : Nat} {Q : Int32 → c_S → Prop} (z : ZW Z) (k : KW Z K t) (ht : t < 2 ^ 31) (wn : WN Z t w) (wx : WX Z w N) (h : Q (nI (w_bs Z w (N - 1))) K) : km_X6_ticksBetween L K 0 Q := by
  have n1 := z.1
  have w1 := wn.1
  obtain ⟨x1, x2, x3, x4⟩ := wx
  refine ke_windowNow z k ht wn ⟨N, ?_⟩
  have lp : ∀ d n : Nat, n + 1 + d = N → kl_X6_ticksBetween_9 L (d + 1) K 0 (nI w) (nI (w_bs Z w n)) (nI (n + 1)) Q := by
    intro d
    induction d with
    | zero =>
      intro n hn
      obtain rfl : N = n + 1 := by omega
      by_cases e : n + 1 = z_nw Z
      · exact bt_ (by rw [k.1]; exact nI_le (by omega) (by omega)) h
      · have hm := Nat.mod_lt (w + (n + 1)) (show z_nw Z > 0 by omega)
        refine bf_ (by rw [k.1]; exact nI_ge (by omega) (by omega)) (bf_ (nI_m1 (by omega)) ?_)
        rw [k.1, nI_add, pk_rem (by omega) (by omega) (by omega), nI_clamp (n := (w + (n + 1)) % z_nw Z) (by omega), nI_clamp (n := w) (by omega), (k.2.2 _ hm).1, (k.2.2 w w1).1, x3]
        exact ⟨nI_ne0 (by omega) (by omega), vp_in_nI (by omega) (by decide), vp_in_nI (by omega) (by decide), nt_ rfl h⟩
    | succ d ih =>
      intro n hn
      have hm := Nat.mod_lt (w + (n + 1)) (show z_nw Z > 0 by omega)
      have o1 := (z.2.2 _ hm).1
      have o2 := (z.2.2 w w1).1
      have np := x4 (n + 1) (by omega) (by omega)
      have l2 := z.2.2 _ hm
      have bb := we_b z (i := (w + (n + 1)) % z_nw Z + 1) (by omega)
      have sb := w_bsb z (w := w) (n := n)
      have nx : ∀ v : Int32, v = nI (z_we Z ((w + (n + 1)) % z_nw Z)) → kb_X6_ticksBetween_76 L (fun S a0 x1 x2 x3 => kl_X6_ticksBetween_9 L (d + 1) S a0 x1 x2 x3 Q) K 0 (nI w) (nI (n + 1)) (nI (w_bs Z w n)) (nI (z_we Z ((w + (n + 1)) % z_nw Z + 1))) v Q := fun v hv => by
        subst hv
        show kl_X6_ticksBetween_9 L (d + 1) K 0 (nI w) (nI (w_bs Z w n) + (nI (z_we Z ((w + (n + 1)) % z_nw Z + 1)) - nI (z_we Z ((w + (n + 1)) % z_nw Z)))) (nI (n + 1) + 1) Q
        rw [pk_sub (by omega), nI_add, nI_1]
        exact ih (n + 1) (by omega)
      have w0 : z_wo Z ((w + (n + 1)) % z_nw Z) < 2 ^ 31 ∧ z_wo Z w < 2 ^ 31 := ⟨by omega, by omega⟩
      · refine bf_ (by rw [k.1]; exact nI_ge (by omega) (by omega)) (bf_ (nI_m1 (by omega)) ?_)
        rw [k.1, nI_add, pk_rem (by omega) (by omega) (by omega), nI_clamp (n := (w + (n + 1)) % z_nw Z) (by omega), nI_clamp (n := w) (by omega), (k.2.2 _ hm).1, (k.2.2 w w1).1, (k.2.2 _ hm).2]
        refine ⟨nI_ne0 (by omega) (by omega), vp_in_nI (by omega) (by decide), vp_in_nI (by omega) (by decide), nf_ (fun e => np ((nI_eq w0.1 w0.2).mp e)) ⟨vp_in_nI (by omega) (by decide), ?_⟩⟩
        by_cases e0 : (w + (n + 1)) % z_nw Z = 0
        · refine nt_ (by rw [e0]; rfl) (nx 0 (by rw [e0, z.2.1]; rfl))
        · refine nf_ (nI_ne0 (by omega) (by omega)) ?_
          rw [show (1 : Int32) = nI 1 from rfl, pk_sub (by omega), nI_clamp (by omega), (k.2.2 _ (show (w + (n + 1)) % z_nw Z - 1 < z_nw Z by omega)).2, show (w + (n + 1)) % z_nw Z - 1 + 1 = (w + (n + 1)) % z_nw Z by omega]
          exact ⟨vp_in_nI (by omega) (by decide), nx _ rfl⟩
  have e := lp (N - 1) 0 (by omega)
  rw [show N - 1 + 1 = N by omega] at e
  exact e
theorem RW_x {Z : z_C} {R : r_S} {t i : Nat} {v : Int32} (r : RW Z R t) : RW Z (rs_A R 2477 i v) t := ⟨r.1, r.2.1, r.2.2.1, fun x hx => ⟨(r_An (Or.inl (by decide))).trans (r.2.2.2 x hx).1, (r_An (Or.inl (by decide))).trans (r.2.2.2 x hx).2⟩⟩
theorem KW_x {Z : z_C} {K : c_S} {t q i : Nat} {v : Int32} (k : KW Z K t) : KW Z (cs_A K 1411 q i v) t := ⟨k.1, k.2.1, fun x hx => ⟨(c_An (Or.inl (by decide))).trans (k.2.2 x hx).1, (c_An (Or.inl (by decide))).trans (k.2.2 x hx).2⟩⟩
theorem re_frames {Z : z_C} {R : r_S} {t w N q : Nat} {Q : Option Value → r_S → Prop} (z : ZW Z) (r : RW Z R t) (ht : t < 2 ^ 31) (wn : WN Z t w) (wx : WX Z w N) (hq : q < 256) (h : Q (some (.int 0)) (rs_A (rs_A (rs_A R 2477 (32 * q + 11) (nI (z_we Z (w + 1) - t % z_we Z (z_nw Z)))) 2477 (32 * q + 12) (nI (w_bs Z w (N - 1)))) 2477 (32 * q + 13) (nI (z_we Z (z_nw Z))))) : rm_X12_frames R (nI (z_wo Z w)) (nI q) Q := by
  have n1 := z.1
  have w1 := wn.1
  have w2 := wn.2.1
  have w3 := wn.2.2
  have p0 := we_p z
  have b0 := we_b z (Nat.le_refl _)
  have b1 := we_b z (i := w + 1) (by omega)
  have l1 := z.2.2 w w1
  obtain ⟨x1, x2, x3, x4⟩ := wx
  have ev : ∀ n : Nat, n < 32 → vp_in (nI (32 * q + n)) (r_N 2477) := fun n hn => ri_v (n := 8192) rfl (by omega) (by decide)
  have ec : ∀ n : Nat, n < 32 → (nI (32 * q + n)).toNatClampNeg = 32 * q + n := fun n hn => nI_clamp (by omega)
  have r2 := RW_x (i := 32 * q + 11) (v := nI (z_we Z (w + 1) - t % z_we Z (z_nw Z))) r
  refine re_window z r ht wn ⟨_, rfl, w + 1, ?_⟩
  have lq : ∀ d n : Nat, n + 1 + d = N → rl_X12_frames_79 (d + 1) (rs_A R 2477 (32 * q + 11) (nI (z_we Z (w + 1) - t % z_we Z (z_nw Z)))) (nI (z_wo Z w)) (nI q) (nI (w_bs Z w n)) (nI ((w + (n + 1)) % z_nw Z)) Q := by
    intro d
    induction d with
    | zero =>
      intro n hn
      obtain rfl : N = n + 1 := by omega
      have hm := Nat.mod_lt (w + (n + 1)) (show z_nw Z > 0 by omega)
      refine ⟨ri_v (n := 24) rfl (by omega) (by decide), bt_ ?_ ?_⟩
      · rw [nI_clamp (by omega), (r2.2.2.2 _ hm).1, x3]
      · rw [show (12 : Int32) = nI 12 from rfl, show (13 : Int32) = nI 13 from rfl, q_32, q_32, ec 12 (by decide), ec 13 (by decide)]
        refine ⟨ev 12 (by decide), ev 13 (by decide), fun S e => ?_⟩
        subst e
        rw [show r_I (rs_A (rs_A R 2477 (32 * q + 11) (nI (z_we Z (w + 1) - t % z_we Z (z_nw Z)))) 2477 (32 * q + 12) (nI (w_bs Z w n))) 2420 = nI (z_we Z (z_nw Z)) from r.2.2.1]
        exact h
    | succ d ih =>
      intro n hn
      have hm := Nat.mod_lt (w + (n + 1)) (show z_nw Z > 0 by omega)
      have o1 := (z.2.2 _ hm).1
      have o2 := (z.2.2 w w1).1
      have np := x4 (n + 1) (by omega) (by omega)
      refine ⟨ri_v (n := 24) rfl (by omega) (by decide), bf_ ?_ ?_⟩
      · rw [nI_clamp (by omega), (r2.2.2.2 _ hm).1]
        exact fun e => np ((nI_eq (by omega) (by omega)).mp e)
      · refine ⟨ri_v (n := 24) rfl (by omega) (by decide), by rw [r2.1]; exact nI_ne0 (by omega) (by omega), ?_⟩
        rw [r2.1, nI_clamp (n := (w + (n + 1)) % z_nw Z) (by omega), (r2.2.2.2 _ hm).2, nI_add, show (1 : Int32) = nI 1 from rfl, nI_add, pk_rem (by omega) (by omega) (by omega)]
        have e2 : ((w + (n + 1)) % z_nw Z + 1) % z_nw Z = (w + (n + 1 + 1)) % z_nw Z := by rw [Nat.mod_add_mod, show w + (n + 1) + 1 = w + (n + 1 + 1) by omega]
        rw [e2]
        exact ih (n + 1) (by omega)
  have lp : ∀ d x : Nat, x + d = w → rl_X12_frames_11 (d + 1) R (nI (z_wo Z w)) (nI q) (nI w) (nI (z_we Z x)) (nI x) Q := by
    intro d
    induction d with
    | zero =>
      intro x hx
      obtain rfl : x = w := by omega
      have key : (nI (z_we Z x) + nI (z_we Z (x + 1) - z_we Z x)) - nI (t % z_we Z (z_nw Z)) = nI (z_we Z (x + 1) - t % z_we Z (z_nw Z)) := by
        rw [nI_add, show z_we Z x + (z_we Z (x + 1) - z_we Z x) = z_we Z (x + 1) by omega, pk_sub (by omega)]
      refine bt_ (nI_le (Nat.le_refl _) (by omega)) ?_
      rw [nI_clamp (n := x) (by omega), (r.2.2.2 x w1).2, r.2.2.1, r.2.1, pk_rem ht p0 (by omega), key, show (11 : Int32) = nI 11 from rfl, q_32, ec 11 (by decide), r2.1, show (1 : Int32) = nI 1 from rfl, nI_add, pk_rem (by omega) (by omega) (by omega)]
      refine ⟨ri_v (n := 24) rfl (by omega) (by decide), nI_ne0 p0 (by omega), ev 11 (by decide), nI_ne0 (by omega) (by omega), N, ?_⟩
      have e := lq (N - 1) 0 (by omega)
      rw [show N - 1 + 1 = N by omega] at e
      exact e
    | succ d ih =>
      intro x hx
      have l2 := z.2.2 x (by omega)
      refine bf_ (nI_ge (by omega) (by omega)) ⟨ri_v (n := 24) rfl (by omega) (by decide), ?_⟩
      rw [nI_clamp (n := x) (by omega), (r.2.2.2 x (by omega)).2, nI_add, nI_1, show z_we Z x + (z_we Z (x + 1) - z_we Z x) = z_we Z (x + 1) by omega]
      exact ih (x + 1) (by omega)
  have e := lp w 0 (by omega)
  rw [z.2.1] at e
  exact e
theorem AN_35 {b : Nat} {L : c_L} {Z : z_C} {K : c_S} {R : r_S} {p j t i : Nat} {a bb cc : Int32} (x : CX b L Z K R p j) (z : ZW Z) (k : KW Z K t) (r : RW Z R t) (ht : t < 2 ^ 31) (wn : WN Z t i) (ho : z_wo Z i = p) : AN b L Z (16 * p + j) (km_X0_ofLooks L K 0 35 a bb cc) (rm_X12_asks R 35 (nI p) (nI (16 * p + j)) a bb cc) := by
  obtain ⟨w, ⟨hp, hj⟩, ⟨p0, p1, p2, p3⟩, hnow, h1, hm, gk⟩ := x
  have cq := WR_cq w
  have np16 := CQ_np cq
  have n16 := CQ_nq cq p hp
  have mq := (CQ_q cq hp hj).1
  obtain ⟨N, wx⟩ := WX_ex z wn.1
  have wr := WR_x (v := nI (z_we Z (z_nw Z))) (WR_x (v := nI (w_bs Z i (N - 1))) (WR_x (v := nI (z_we Z (i + 1) - t % z_we Z (z_nw Z))) w hp hj (i := 11) (by decide)) hp hj (i := 12) (by decide)) hp hj (i := 13) (by decide)
  refine AN_i 0 _ _ wr p3 (fun Q hQ => ⟨fun z => absurd z (by decide), fun z => absurd z (by decide), fun z => absurd z (by decide), fun z => absurd z (by decide), fun _ => ⟨0, p0, gk.1, ke_ticksLeft z k ht wn ⟨_, p3, mq, v32 (n := 11) (by decide), 0, p0, gk.1, ke_ticksBetween z (KW_x k) ht wn wx ⟨_, p3, mq, v32 (n := 12) (by decide), 0, p0, gk.1, ke_frameTicks z (KW_x (KW_x k)) ⟨_, p3, mq, v32 (n := 13) (by decide), hQ⟩⟩⟩⟩⟩) (fun Q hQ => ⟨fun z => absurd z (by decide), fun z => absurd z (by decide), fun z => absurd z (by decide), fun z => absurd z (by decide), fun _ => ?_⟩)
  unfold rb_X12_asks_206
  rw [← ho]
  subst ho
  exact re_frames z r ht wn wx (by omega) ⟨_, rfl, hQ⟩
