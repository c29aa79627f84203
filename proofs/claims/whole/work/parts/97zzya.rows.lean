/-! A partition made, with its memory. -/
def AGX (S S' : q_S) (sa : Nat → Nat → Prop) (pa : Nat → Prop) : Prop := ∀ a : Nat, q_K S a ≠ 0 → q_K S' a = q_K S a ∧ q_N S' a = q_N S a ∧ (∀ f : Nat, q_I S' f a = q_I S f a ∧ q_J S' f a = q_J S f a ∧ (¬ pa a → q_P S' f a = q_P S f a)) ∧ (∀ j : Nat, q_A S' a j = q_A S a j ∧ q_B S' a j = q_B S a j) ∧ ∀ j : Nat, ¬ sa a j → q_C S' a j = q_C S a j
theorem ax_0 {S : q_S} {sa : Nat → Nat → Prop} {pa : Nat → Prop} : AGX S S sa pa := fun a _ => ⟨rfl, rfl, fun _ => ⟨rfl, rfl, fun _ => rfl⟩, fun _ => ⟨rfl, rfl⟩, fun _ _ => rfl⟩
theorem ax_f {S S1 : q_S} {sa : Nat → Nat → Prop} {pa : Nat → Prop} {b : Nat} (h : AGX S S1 sa pa) (hb : q_K S1 b = 0) : q_K S b = 0 := by
  by_cases z : q_K S b = 0
  · exact z
  · rw [← (h b z).1]
    exact hb
theorem ax_O {S S1 : q_S} {sa : Nat → Nat → Prop} {pa : Nat → Prop} {c b : Nat} (h : AGX S S1 sa pa) (hb1 : q_K S1 b = 0) : AGX S (qs_O S1 c b) sa pa := fun a ha => by
  have n : a ≠ b := fun z => ha (z ▸ ax_f h hb1)
  obtain ⟨h1, h2, h3, h4, h5⟩ := h a ha
  exact ⟨(if_neg n).trans h1, h2, fun f => ⟨(if_neg n).trans (h3 f).1, (if_neg n).trans (h3 f).2.1, fun y => (if_neg n).trans ((h3 f).2.2 y)⟩, h4, h5⟩
theorem ax_R {S S1 : q_S} {sa : Nat → Nat → Prop} {pa : Nat → Prop} {k n b : Nat} (h : AGX S S1 sa pa) (hb1 : q_K S1 b = 0) : AGX S (qs_R S1 k n b) sa pa := fun a ha => by
  have n : a ≠ b := fun z => ha (z ▸ ax_f h hb1)
  obtain ⟨h1, h2, h3, h4, h5⟩ := h a ha
  exact ⟨(if_neg n).trans h1, (if_neg n).trans h2, h3, fun j => ⟨(if_neg n).trans (h4 j).1, (if_neg n).trans (h4 j).2⟩, fun j hj => (if_neg n).trans (h5 j hj)⟩
theorem ax_P {S S1 : q_S} {sa : Nat → Nat → Prop} {pa : Nat → Prop} {f b : Nat} {v : Option Nat} (h : AGX S S1 sa pa) (hb : pa b) : AGX S (qs_P S1 f b v) sa pa := fun a ha => by
  obtain ⟨h1, h2, h3, h4, h5⟩ := h a ha
  exact ⟨h1, h2, fun f' => ⟨(h3 f').1, (h3 f').2.1, fun y => (if_neg (fun z => y (by rw [z.2]; exact hb))).trans ((h3 f').2.2 y)⟩, h4, h5⟩
theorem ax_C {S S1 : q_S} {sa : Nat → Nat → Prop} {pa : Nat → Prop} {x j : Nat} {v : Option Nat} (h : AGX S S1 sa pa) (hx : sa x j) : AGX S (qs_C S1 x j v) sa pa := fun a ha => by
  obtain ⟨h1, h2, h3, h4, h5⟩ := h a ha
  exact ⟨h1, h2, h3, h4, fun j' hj' => (if_neg (fun z => hj' (by rw [z.1, z.2]; exact hx))).trans (h5 j' hj')⟩
theorem ax_ag {S S1 : q_S} {sa : Nat → Nat → Prop} {pa : Nat → Prop} (h : AGX S S1 sa pa) (hp : ∀ a : Nat, pa a → q_K S a = 0) : AGR S S1 sa := fun a ha => by
  obtain ⟨h1, h2, h3, h4, h5⟩ := h a ha
  exact ⟨h1, h2, fun f => ⟨(h3 f).1, (h3 f).2.1, (h3 f).2.2 (fun z => ha (hp a z))⟩, h4, h5⟩
theorem ax_k {S S1 : q_S} {sa : Nat → Nat → Prop} {pa : Nat → Prop} {a k : Nat} (h : AGX S S1 sa pa) (hk : q_K S a = k + 1) : q_K S1 a = k + 1 := (h a (by rw [hk]; omega)).1.trans hk
theorem ax_row {X S1 : q_S} {sa : Nat → Nat → Prop} {pa : Nat → Prop} {k n r : Nat} (h : AGX (qs_R X k n r) S1 sa pa) (hk : k ≠ 0) (hs : ∀ j : Nat, ¬ sa r j) : q_K S1 r = k ∧ q_N S1 r = n ∧ (∀ j : Nat, q_A S1 r j = 0) ∧ ∀ j : Nat, q_C S1 r j = none := by
  have e : q_K (qs_R X k n r) r = k := if_pos rfl
  obtain ⟨h1, h2, h3, h4, h5⟩ := h r (by rw [e]; exact hk)
  exact ⟨h1.trans e, h2.trans (if_pos rfl), fun j => (h4 j).1.trans (if_pos rfl), fun j => (h5 j (hs j)).trans (if_pos rfl)⟩
theorem ax_obj {X S1 : q_S} {sa : Nat → Nat → Prop} {pa : Nat → Prop} {c r : Nat} (h : AGX (qs_O X c r) S1 sa pa) : q_K S1 r = c + 1 ∧ ∀ f : Nat, q_I S1 f r = 0 ∧ q_J S1 f r = 0 := by
  have e : q_K (qs_O X c r) r = c + 1 := if_pos rfl
  obtain ⟨h1, h2, h3, h4, h5⟩ := h r (by rw [e]; omega)
  exact ⟨h1.trans e, fun f => ⟨(h3 f).1.trans (if_pos rfl), (h3 f).2.1.trans (if_pos rfl)⟩⟩
theorem us_1 {X : q_S} {l : List Nat} {k n r f a : Nat} {v : Option Nat} (h : ∀ x ∈ l, q_K X x ≠ 0) (hr : q_K X r = 0) (hk : k ≠ 0) : (∀ x ∈ r :: l, q_K (qs_P (qs_R X k n r) f a v) x ≠ 0) ∧ r ∉ l := by
  refine ⟨fun x hx => ?_, fun z => h r z hr⟩
  rcases List.mem_cons.mp hx with e | e
  · rw [e]
    exact fun z => hk ((if_pos rfl : q_K (qs_P (qs_R X k n r) f a v) r = k).symm.trans z)
  · have n : x ≠ r := fun z => h x e (z ▸ hr)
    exact fun z => h x e ((if_neg n : q_K (qs_P (qs_R X k _ r) f a v) x = q_K X x).symm.trans z)
theorem us_P {X : q_S} {l : List Nat} {f a : Nat} {v : Option Nat} (h : ∀ x ∈ l, q_K X x ≠ 0) : ∀ x ∈ l, q_K (qs_P X f a v) x ≠ 0 := h
theorem p_P {S : q_S} {f a f' a' : Nat} {v : Option Nat} : q_P (qs_P S f a v) f' a' = if f' = f ∧ a' = a then v else q_P S f' a' := rfl
theorem p_R {S : q_S} {k n r f a : Nat} : q_P (qs_R S k n r) f a = q_P S f a := rfl
theorem p_C {S : q_S} {x j f a : Nat} {v : Option Nat} : q_P (qs_C S x j v) f a = q_P S f a := rfl
theorem p_O {S : q_S} {c r f a : Nat} : q_P (qs_O S c r) f a = if a = r then none else q_P S f a := rfl
