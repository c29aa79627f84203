/-! What the class calls of the machine's own classes, over the class's state. -/
def c_cu (x0 x1 : Int32) : Int32 := if x1 + (-2147483648 : Int32) ≤ x0 + (-2147483648 : Int32) then (if x0 + (-2147483648 : Int32) = x1 + (-2147483648 : Int32) then 0 else 1) else -1
def km_J6_compareUnsigned_7cf53 (L : c_L) (S : c_S) (x0 : Int32) (x1 : Int32) (Q : Int32 → c_S → Prop) : Prop := Q (c_cu x0 x1) S
theorem um_J6_compareUnsigned_7cf53 {L : c_L} {S : q_S} (_ : c_G L S) (K : c_S) (x0 x1 : Int32) {Q1 : Int32 → c_S → Prop} {Q : Option Value → q_S → Prop} (h : km_J6_compareUnsigned_7cf53 L K x0 x1 Q1) (hQ : ∀ (v : Int32) (K : c_S), Q1 v K → Q (some (.int v)) (c_E L K S)) : wm_J6_compareUnsigned_7cf53 (c_E L K S) x0 x1 Q := by
  unfold km_J6_compareUnsigned_7cf53 c_cu at h
  refine ⟨fun h1 => ⟨fun h2 => ⟨_, rfl, ?_⟩, fun h2 => ⟨_, rfl, ?_⟩⟩, fun h1 => ⟨_, rfl, ?_⟩⟩
  · rw [if_pos h1, if_neg h2] at h; exact hQ _ _ h
  · rw [if_pos h1, if_pos h2] at h; exact hQ _ _ h
  · rw [if_neg h1] at h; exact hQ _ _ h
theorem c_f1 {S : q_S} {a k N : Nat} {x : Int32} (hk : k < N) : qs_G (qs_A S a k x) a (fun j => if k + 1 ≤ j ∧ j < N then x else q_A (qs_A S a k x) a j) = qs_G S a (fun j => if k ≤ j ∧ j < N then x else q_A S a j) := by
  refine Prod.ext rfl (Prod.ext rfl (Prod.ext rfl (Prod.ext rfl (Prod.ext rfl (Prod.ext (funext fun b => funext fun j => ?_) rfl)))))
  show (if b = a then (if k + 1 ≤ j ∧ j < N then x else if a = a ∧ j = k then x else S.2.2.2.2.2.1 a j) else if b = a ∧ j = k then x else S.2.2.2.2.2.1 b j) = (if b = a then (if k ≤ j ∧ j < N then x else S.2.2.2.2.2.1 a j) else S.2.2.2.2.2.1 b j)
  by_cases e : b = a
  · rw [if_pos e, if_pos e]
    by_cases e1 : k + 1 ≤ j ∧ j < N
    · rw [if_pos e1, if_pos ⟨by omega, e1.2⟩]
    · rw [if_neg e1]
      by_cases e2 : j = k
      · rw [if_pos ⟨rfl, e2⟩, if_pos ⟨by omega, by omega⟩]
      · rw [if_neg (fun z => e2 z.2), if_neg (fun z => e1 ⟨by omega, z.2⟩)]
  · rw [if_neg e, if_neg e, if_neg (fun z => e z.1)]
theorem c_f0 {S : q_S} {a N : Nat} {x : Int32} : qs_G S a (fun j => if N ≤ j ∧ j < N then x else q_A S a j) = S := by
  refine Prod.ext rfl (Prod.ext rfl (Prod.ext rfl (Prod.ext rfl (Prod.ext rfl (Prod.ext (funext fun b => funext fun j => ?_) rfl)))))
  show (if b = a then (if N ≤ j ∧ j < N then x else S.2.2.2.2.2.1 a j) else S.2.2.2.2.2.1 b j) = S.2.2.2.2.2.1 b j
  by_cases e : b = a
  · rw [if_pos e, if_neg (by omega), e]
  · rw [if_neg e]
theorem c_f2 {a N : Nat} {x : Int32} (hlt : N < 2 ^ 31) {Q : Option Value → q_S → Prop} : ∀ (d k : Nat) (S : q_S), k + d = N → q_K S a = 21 → q_N S a = N → Q none (qs_G S a (fun j => if k ≤ j ∧ j < N then x else q_A S a j)) → wl_J7_fill_53178_5 (d + 1) S (some a) x (nI k) (nI N) Q := by
  intro d
  induction d with
  | zero =>
    intro k S hk hK hN hQ
    obtain rfl : k = N := by omega
    rw [c_f0] at hQ
    exact ⟨fun _ => hQ, fun z => absurd (nI_le (Nat.le_refl _) hlt) z⟩
  | succ d ih =>
    intro k S hk hK hN hQ
    have hkN : k < N := by omega
    refine ⟨fun z => absurd z (nI_ge hkN hlt), fun _ => ⟨a, rfl, hK, by rw [hN]; exact vp_in_nI hkN hlt, ?_⟩⟩
    show wl_J7_fill_53178_5 (d + 1) _ (some a) x (nI k + 1) (nI N) Q
    rw [nI_1, nI_clamp (by omega)]
    exact ih (k + 1) _ (by omega) hK hN (by rw [c_f1 hkN]; exact hQ)
theorem c_f3 {a N : Nat} {x : Int32} (hlt : N < 2 ^ 31) {Q : Option Value → q_S → Prop} : ∀ (d k : Nat) (S : q_S), k + d = N → q_K S a = 20 → q_N S a = N → Q none (qs_G S a (fun j => if k ≤ j ∧ j < N then vp_nar .byte x else q_A S a j)) → wl_J7_fill_031fb_5 (d + 1) S (some a) x (nI k) (nI N) Q := by
  intro d
  induction d with
  | zero =>
    intro k S hk hK hN hQ
    obtain rfl : k = N := by omega
    rw [c_f0] at hQ
    exact ⟨fun _ => hQ, fun z => absurd (nI_le (Nat.le_refl _) hlt) z⟩
  | succ d ih =>
    intro k S hk hK hN hQ
    have hkN : k < N := by omega
    refine ⟨fun z => absurd z (nI_ge hkN hlt), fun _ => ⟨a, rfl, hK, by rw [hN]; exact vp_in_nI hkN hlt, ?_⟩⟩
    show wl_J7_fill_031fb_5 (d + 1) _ (some a) x (nI k + 1) (nI N) Q
    rw [nI_1, nI_clamp (by omega)]
    exact ih (k + 1) _ (by omega) hK hN (by rw [c_f1 hkN]; exact hQ)
def c_fi (L : c_L) (K : c_S) (f i : Nat) (x : Int32) : c_S := cs_G K f i (fun j => if j < c_ln L f i then x else c_A K f i j)
def km_J7_fill_53178 (L : c_L) (S : c_S) (f i : Nat) (x1 : Int32) (Q : c_S → Prop) : Prop := (c_kd f = 21 ∧ c_ln L f i < 2 ^ 31) ∧ Q (c_fi L S f i x1)
def km_J7_fill_031fb (L : c_L) (S : c_S) (f i : Nat) (x1 : Int32) (Q : c_S → Prop) : Prop := (c_kd f = 20 ∧ c_ln L f i < 2 ^ 31) ∧ Q (c_fi L S f i (vp_nar .byte x1))
theorem c_f4 {L : c_L} {S : q_S} {K : c_S} {f i N : Nat} {x : Int32} (w : c_WF L) (m : c_ma L f i) : qs_G (c_E L K S) (c_ar L f i) (fun j => if 0 ≤ j ∧ j < N then x else q_A (c_E L K S) (c_ar L f i) j) = c_E L (cs_G K f i (fun j => if j < N then x else c_A K f i j)) S := by
  rw [c_eAf m, c_eGs w m]
  congr 2
  refine funext fun j => ?_
  by_cases e : j < N
  · rw [if_pos ⟨Nat.zero_le _, e⟩, if_pos e]
  · rw [if_neg (fun z => e z.2), if_neg e]
theorem um_J7_fill_53178 {L : c_L} {S : q_S} (g : c_G L S) (K : c_S) (f i : Nat) (x1 : Int32) (m : c_ma L f i) {Q1 : c_S → Prop} {Q : Option Value → q_S → Prop} (h : km_J7_fill_53178 L K f i x1 Q1) (hQ : ∀ K : c_S, Q1 K → Q none (c_E L K S)) : wm_J7_fill_53178 (c_E L K S) (some (c_ar L f i)) x1 Q := by
  obtain ⟨⟨hk, hl⟩, h⟩ := h
  have hn : q_N (c_E L K S) (c_ar L f i) = c_ln L f i := c_gn g m
  refine ⟨_, rfl, c_gr g m _ hk, c_ln L f i + 1, ?_⟩
  rw [hn]
  refine c_f2 (x := x1) hl (c_ln L f i) 0 (c_E L K S) (by omega) (c_gr g m _ hk) hn ?_
  rw [c_f4 (c_gw g) m]
  exact hQ _ h
theorem um_J7_fill_031fb {L : c_L} {S : q_S} (g : c_G L S) (K : c_S) (f i : Nat) (x1 : Int32) (m : c_ma L f i) {Q1 : c_S → Prop} {Q : Option Value → q_S → Prop} (h : km_J7_fill_031fb L K f i x1 Q1) (hQ : ∀ K : c_S, Q1 K → Q none (c_E L K S)) : wm_J7_fill_031fb (c_E L K S) (some (c_ar L f i)) x1 Q := by
  obtain ⟨⟨hk, hl⟩, h⟩ := h
  have hn : q_N (c_E L K S) (c_ar L f i) = c_ln L f i := c_gn g m
  refine ⟨_, rfl, c_gr g m _ hk, c_ln L f i + 1, ?_⟩
  rw [hn]
  refine c_f3 (x := x1) hl (c_ln L f i) 0 (c_E L K S) (by omega) (c_gr g m _ hk) hn ?_
  rw [c_f4 (c_gw g) m]
  exact hQ _ h
